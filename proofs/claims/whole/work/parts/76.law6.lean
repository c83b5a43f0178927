/-! The law, call by call: history, text. -/
section LC
variable {p : Program} {l : Launch} {e : Env} {s : State} {m : MethodId} {below : List Frame} {meth : Method} {c0 : Code} {b L : Nat} {xs : Nat → Int32} {g : Gf} {I tb n : Nat} {c : Mp} {H : Heap} {locs : List Loc} {cells slots : Nat} {ls : Array Slot}
set_option maxHeartbeats 4000000 in
set_option maxRecDepth 100000 in
theorem lc_undo (hLX : LX p s m meth c0 b L xs g) (h : Hv g s H locs n c) (hLI : LI g tb n c) (hl : lv_has ls 4 [(3, .int (nI I)), (2, .ref (gz g + 352)), (1, .ref (gz g + 0)), (0, .ref b)]) (hI6 : I + 6 ≤ L) (htb : tb ≤ 800000000) (hcl : cells + 22 ≤ 600000) (hsl : slots + 88 ≤ 7302249) (K : LK p l e s m below meth c0 b g (cells + 22) (slots + 88) ls (tb + 720)) : W p l e room_1 s m #[Value.ref b] below meth c0 H locs cells slots (lw_Z below #[Value.ref b] s) (F0 m 664 ls []) := by
  obtain ⟨F, hX, hbl, hbA, hL⟩ := hLX
  have hx := F.1
  have hb := F.2.1
  obtain ⟨hn, lh, T, rs, R, r, hq, hh, S, sl, zk, tx, wd, nu, scr, oa, ct, pl, pl2, fa, od, hC, hM, hp⟩ := id hLI
  obtain ⟨C0, CB, CH, CS, CZ, CO, CT, CW, CN⟩ := id hC
  obtain ⟨M0, M1, M2, M3, M4, M5, M6, M7⟩ := id hM
  obtain ⟨l5, l7, ⟨sc, cn, hI, hR⟩, l2, l3⟩ := id hp
  have hW : WB R := hI.wb hR
  have c5 := hI.1.2.1
  have s5 := hI.1.2.2.2
  have hcn : R 3 = nI cn := (hR.lo (by decide)).trans hI.1.1
  have hsc : R 4 = nI sc := (hR.lo (by decide)).trans hI.1.2.2.1
  rcases lh with _ | k
  · rw [nI_0] at C0 M0
    refine lv_aload_n hx hb dL_law_664 rfl (lv_at hl 2 rfl) ?_
    refine u_i (ru_V (As := []) (rest := []) F h C0 rfl (k_X7_undo_e l g n c 0 rs C0) (gV lwG_in wd_733 wd_734 wd_735 wd_51 wd_736) rfl 0 (by decide +kernel) rfl ⟨Nat.le_of_ble_eq_true rfl, Nat.le_of_ble_eq_true rfl⟩ rfl hl.1 (Nat.le_of_ble_eq_true rfl) ⟨by show cells + 0 ≤ 600000; omega, by show slots + 0 ≤ 7302249; omega⟩ dL_law_665) h (fun r1 n1 c1 H locs hp1 h => ?_)
    obtain ⟨q1, q2, q3⟩ := hp1
    rw [q2, q3] at h
    refine lv_aload_n hx hb dL_law_668 rfl (lv_at hl 1 rfl) ?_
    refine u_i (ru_V (As := []) (rest := [.int r1]) F h M0 rfl (k_X8_undo_e l g n c 352 rs (nI T) pl2 fa od M0) (gV lwG_in wd_868 wd_869 wd_870 wd_58 wd_871) rfl 0 (by decide +kernel) rfl ⟨Nat.le_of_ble_eq_true rfl, Nat.le_of_ble_eq_true rfl⟩ rfl hl.1 (Nat.le_of_ble_eq_true rfl) ⟨by show cells + 0 + 0 ≤ 600000; omega, by show slots + 0 + 0 ≤ 7302249; omega⟩ dL_law_669) h (fun r2 n2 c2 H locs hp2 h => ?_)
    obtain ⟨e1, e2, e3⟩ := hp2
    rw [e2, e3] at h
    refine lv_icmp_eq (tgt := 1063) hx hb dL_law_672 (by decide) (fun _ => ?_) (fun z => absurd (q1.trans e1.symm) z)
    exact W.widen (by omega) (by omega) (K _ _ _ _ h (hLI.tb (by omega)))
  · skip
    refine lv_aload_n hx hb dL_law_664 rfl (lv_at hl 2 rfl) ?_
    refine u_i (ru_V (As := []) (rest := []) F h C0 rfl (k_X7_undo_s l g n c k (by omega) 0 rs C0 R CB hq CH (l2 k (by omega)).wb) (gV lwG_in wd_733 wd_734 wd_735 wd_51 wd_736) rfl 0 (by decide +kernel) rfl ⟨Nat.le_of_ble_eq_true rfl, Nat.le_of_ble_eq_true rfl⟩ rfl hl.1 (Nat.le_of_ble_eq_true rfl) ⟨by show cells + 0 ≤ 600000; omega, by show slots + 0 ≤ 7302249; omega⟩ dL_law_665) h (fun r1 n1 c1 H locs hp1 h => ?_)
    have F1 : ∀ i : Nat, 260 ≤ i → i < n → c1 i = c i := hp1.2.2.2.2.2
    refine lv_aload_n hx hb dL_law_668 rfl (lv_at hl 1 rfl) ?_
    refine u_i (ru_V (As := []) (rest := [.int r1]) F h ((F1 352 (by decide) (by omega)).trans M0) rfl (k_X8_undo_s l g n1 c1 352 k (by omega) rs (nI T) pl2 fa od ((F1 352 (by decide) (by omega)).trans M0) r ((F1 _ (by decide) (by omega)).trans M1) hh ((F1 _ (by decide) (by omega)).trans M3)) (gV lwG_in wd_868 wd_869 wd_870 wd_58 wd_871) rfl 0 (by decide +kernel) rfl ⟨Nat.le_of_ble_eq_true rfl, Nat.le_of_ble_eq_true rfl⟩ rfl hl.1 (Nat.le_of_ble_eq_true rfl) ⟨by show cells + 0 + 0 ≤ 600000; omega, by show slots + 0 + 0 ≤ 7302249; omega⟩ dL_law_669) h (fun r2 n2 c2 H locs hp2 h => ?_)
    obtain ⟨e1, e2, e3⟩ := hp2
    have st := st_undo hn hC hM hp (show tb ≤ tb + 720 by omega) hp1 e3
    rw [e2] at h
    refine lv_icmp_eq (tgt := 1063) hx hb dL_law_672 (by decide) (fun _ => ?_) (fun z => absurd (st.1.trans e1.symm) z)
    exact W.widen (by omega) (by omega) (K _ _ _ _ h (st.2))
set_option maxHeartbeats 4000000 in
set_option maxRecDepth 100000 in
theorem lc_keep (hLX : LX p s m meth c0 b L xs g) (h : Hv g s H locs n c) (hLI : LI g tb n c) (hl : lv_has ls 4 [(3, .int (nI I)), (2, .ref (gz g + 352)), (1, .ref (gz g + 0)), (0, .ref b)]) (hI6 : I + 6 ≤ L) (htb : tb ≤ 800000000) (hcl : cells + 22 ≤ 600000) (hsl : slots + 88 ≤ 7302249) (K : LK p l e s m below meth c0 b g (cells + 22) (slots + 88) ls (tb + 720)) : W p l e room_1 s m #[Value.ref b] below meth c0 H locs cells slots (lw_Z below #[Value.ref b] s) (F0 m 677 ls []) := by
  obtain ⟨F, hX, hbl, hbA, hL⟩ := hLX
  have hx := F.1
  have hb := F.2.1
  obtain ⟨hn, lh, T, rs, R, r, hq, hh, S, sl, zk, tx, wd, nu, scr, oa, ct, pl, pl2, fa, od, hC, hM, hp⟩ := id hLI
  obtain ⟨C0, CB, CH, CS, CZ, CO, CT, CW, CN⟩ := id hC
  obtain ⟨M0, M1, M2, M3, M4, M5, M6, M7⟩ := id hM
  obtain ⟨l5, l7, ⟨sc, cn, hI, hR⟩, l2, l3⟩ := id hp
  have hW : WB R := hI.wb hR
  have c5 := hI.1.2.1
  have s5 := hI.1.2.2.2
  have hcn : R 3 = nI cn := (hR.lo (by decide)).trans hI.1.1
  have hsc : R 4 = nI sc := (hR.lo (by decide)).trans hI.1.2.2.1
  by_cases hy : inI (xs (I + 1)) 0 1 = 0
  · skip
    refine lv_aload_n hx hb dL_law_677 rfl (lv_at hl 2 rfl) ?_
    refine lv_aload_n hx hb dL_law_678 rfl (lv_at hl 3 rfl) ?_
    refine lv_iload_n hx hb dL_law_679 rfl (lv_at hl 0 rfl) ?_
    refine lv_iconst (v := 1) hx hb dL_law_680 (by decide) ?_
    refine lv_iadd hx hb dL_law_681 ?_
    refine r_sld hx hb hX hbl hbA h.2 (I := I) (j := 1) (nI_add I 1) (by omega) (by omega) dL_law_682 ?_
    refine u_i (ru_V (As := [.int (xs (I + 1))]) (rest := []) F h C0 rfl (k_X7_keep_e l g n c lh 0 rs C0 R CB (xs (I + 1)) hy) (gV lwG_in wd_737 wd_738 wd_739 wd_51 wd_740) rfl 1 (by decide +kernel) rfl ⟨Nat.le_of_ble_eq_true rfl, Nat.le_of_ble_eq_true rfl⟩ rfl hl.1 (Nat.le_of_ble_eq_true rfl) ⟨by show cells + 0 ≤ 600000; omega, by show slots + 0 ≤ 7302249; omega⟩ dL_law_683) h (fun r1 n1 c1 H locs hp1 h => ?_)
    obtain ⟨q1, q2, q3⟩ := hp1
    rw [q2, q3] at h
    refine lv_aload_n hx hb dL_law_686 rfl (lv_at hl 1 rfl) ?_
    refine lv_aload_n hx hb dL_law_687 rfl (lv_at hl 3 rfl) ?_
    refine lv_iload_n hx hb dL_law_688 rfl (lv_at hl 0 rfl) ?_
    refine lv_iconst (v := 1) hx hb dL_law_689 (by decide) ?_
    refine lv_iadd hx hb dL_law_690 ?_
    refine r_sld hx hb hX hbl hbA h.2 (I := I) (j := 1) (nI_add I 1) (by omega) (by omega) dL_law_691 ?_
    refine u_i (ru_V (As := [.int (xs (I + 1))]) (rest := [.int r1]) F h M0 rfl (k_X8_keep_e l g n c 352 (nI lh) rs (nI T) pl2 fa od M0 r M1 sl M4 zk M5 (xs (I + 1)) hy) (gV lwG_in wd_873 wd_874 wd_875 wd_58 wd_876) rfl 1 (by decide +kernel) rfl ⟨Nat.le_of_ble_eq_true rfl, Nat.le_of_ble_eq_true rfl⟩ rfl hl.1 (Nat.le_of_ble_eq_true rfl) ⟨by show cells + 0 + 0 ≤ 600000; omega, by show slots + 0 + 0 ≤ 7302249; omega⟩ dL_law_692) h (fun r2 n2 c2 H locs hp2 h => ?_)
    obtain ⟨e1, e2, e3⟩ := hp2
    rw [e2, e3] at h
    refine lv_icmp_eq (tgt := 1063) hx hb dL_law_695 (by decide) (fun _ => ?_) (fun z => absurd (q1.trans e1.symm) z)
    exact W.widen (by omega) (by omega) (K _ _ _ _ h (hLI.tb (by omega)))
  · skip
    refine lv_aload_n hx hb dL_law_677 rfl (lv_at hl 2 rfl) ?_
    refine lv_aload_n hx hb dL_law_678 rfl (lv_at hl 3 rfl) ?_
    refine lv_iload_n hx hb dL_law_679 rfl (lv_at hl 0 rfl) ?_
    refine lv_iconst (v := 1) hx hb dL_law_680 (by decide) ?_
    refine lv_iadd hx hb dL_law_681 ?_
    refine r_sld hx hb hX hbl hbA h.2 (I := I) (j := 1) (nI_add I 1) (by omega) (by omega) dL_law_682 ?_
    refine u_i (ru_V (As := [.int (xs (I + 1))]) (rest := []) F h C0 rfl (k_X7_keep_s l g n c lh 0 rs C0 R CB hW S CS zk CZ (xs (I + 1)) hy) (gV lwG_in wd_737 wd_738 wd_739 wd_51 wd_740) rfl 1 (by decide +kernel) rfl ⟨Nat.le_of_ble_eq_true rfl, Nat.le_of_ble_eq_true rfl⟩ rfl hl.1 (Nat.le_of_ble_eq_true rfl) ⟨by show cells + 0 ≤ 600000; omega, by show slots + 0 ≤ 7302249; omega⟩ dL_law_683) h (fun r1 n1 c1 H locs hp1 h => ?_)
    obtain ⟨q1, q2, q3, q4, q5⟩ := hp1
    rw [q2] at h
    refine lv_aload_n hx hb dL_law_686 rfl (lv_at hl 1 rfl) ?_
    refine lv_aload_n hx hb dL_law_687 rfl (lv_at hl 3 rfl) ?_
    refine lv_iload_n hx hb dL_law_688 rfl (lv_at hl 0 rfl) ?_
    refine lv_iconst (v := 1) hx hb dL_law_689 (by decide) ?_
    refine lv_iadd hx hb dL_law_690 ?_
    refine r_sld hx hb hX hbl hbA h.2 (I := I) (j := 1) (nI_add I 1) (by omega) (by omega) dL_law_691 ?_
    refine u_i (ru_V (As := [.int (xs (I + 1))]) (rest := [.int r1]) F h ((q5 352 (by decide)).trans M0) rfl (k_X8_keep_s l g n c1 352 (nI lh) rs (nI T) pl2 fa od ((q5 352 (by decide)).trans M0) r ((q5 _ (by decide)).trans M1) sl ((q5 _ (by decide)).trans M4) zk ((q5 _ (by decide)).trans M5) (xs (I + 1)) hy) (gV lwG_in wd_873 wd_874 wd_875 wd_58 wd_876) rfl 1 (by decide +kernel) rfl ⟨Nat.le_of_ble_eq_true rfl, Nat.le_of_ble_eq_true rfl⟩ rfl hl.1 (Nat.le_of_ble_eq_true rfl) ⟨by show cells + 0 + 0 ≤ 600000; omega, by show slots + 0 + 0 ≤ 7302249; omega⟩ dL_law_692) h (fun r2 n2 c2 H locs hp2 h => ?_)
    obtain ⟨e1, e2, e3⟩ := hp2
    have st := st_keep hn hC hM hp (show tb ≤ tb + 720 by omega) hy q3 q4 q5 e3
    rw [e2] at h
    refine lv_icmp_eq (tgt := 1063) hx hb dL_law_695 (by decide) (fun _ => ?_) (fun z => absurd (q1.trans (st.1.trans e1.symm)) z)
    exact W.widen (by omega) (by omega) (K _ _ _ _ h (st.2))
set_option maxHeartbeats 4000000 in
set_option maxRecDepth 100000 in
theorem lc_restore (hLX : LX p s m meth c0 b L xs g) (h : Hv g s H locs n c) (hLI : LI g tb n c) (hl : lv_has ls 4 [(3, .int (nI I)), (2, .ref (gz g + 352)), (1, .ref (gz g + 0)), (0, .ref b)]) (hI6 : I + 6 ≤ L) (htb : tb ≤ 800000000) (hcl : cells + 22 ≤ 600000) (hsl : slots + 88 ≤ 7302249) (K : LK p l e s m below meth c0 b g (cells + 22) (slots + 88) ls (tb + 720)) : W p l e room_1 s m #[Value.ref b] below meth c0 H locs cells slots (lw_Z below #[Value.ref b] s) (F0 m 700 ls []) := by
  obtain ⟨F, hX, hbl, hbA, hL⟩ := hLX
  have hx := F.1
  have hb := F.2.1
  obtain ⟨hn, lh, T, rs, R, r, hq, hh, S, sl, zk, tx, wd, nu, scr, oa, ct, pl, pl2, fa, od, hC, hM, hp⟩ := id hLI
  obtain ⟨C0, CB, CH, CS, CZ, CO, CT, CW, CN⟩ := id hC
  obtain ⟨M0, M1, M2, M3, M4, M5, M6, M7⟩ := id hM
  obtain ⟨l5, l7, ⟨sc, cn, hI, hR⟩, l2, l3⟩ := id hp
  have hW : WB R := hI.wb hR
  have c5 := hI.1.2.1
  have s5 := hI.1.2.2.2
  have hcn : R 3 = nI cn := (hR.lo (by decide)).trans hI.1.1
  have hsc : R 4 = nI sc := (hR.lo (by decide)).trans hI.1.2.2.1
  by_cases hy : inI (xs (I + 1)) 0 1 = 0
  · skip
    refine lv_aload_n hx hb dL_law_700 rfl (lv_at hl 2 rfl) ?_
    refine lv_aload_n hx hb dL_law_701 rfl (lv_at hl 3 rfl) ?_
    refine lv_iload_n hx hb dL_law_702 rfl (lv_at hl 0 rfl) ?_
    refine lv_iconst (v := 1) hx hb dL_law_703 (by decide) ?_
    refine lv_iadd hx hb dL_law_704 ?_
    refine r_sld hx hb hX hbl hbA h.2 (I := I) (j := 1) (nI_add I 1) (by omega) (by omega) dL_law_705 ?_
    refine u_i (ru_V (As := [.int (xs (I + 1))]) (rest := []) F h C0 rfl (k_X7_restore_e l g n c lh 0 rs C0 R CB (xs (I + 1)) hy) (gV lwG_in wd_744 wd_745 wd_746 wd_51 wd_747) rfl 1 (by decide +kernel) rfl ⟨Nat.le_of_ble_eq_true rfl, Nat.le_of_ble_eq_true rfl⟩ rfl hl.1 (Nat.le_of_ble_eq_true rfl) ⟨by show cells + 0 ≤ 600000; omega, by show slots + 0 ≤ 7302249; omega⟩ dL_law_706) h (fun r1 n1 c1 H locs hp1 h => ?_)
    obtain ⟨q1, q2, q3⟩ := hp1
    rw [q2, q3] at h
    refine lv_aload_n hx hb dL_law_709 rfl (lv_at hl 1 rfl) ?_
    refine lv_aload_n hx hb dL_law_710 rfl (lv_at hl 3 rfl) ?_
    refine lv_iload_n hx hb dL_law_711 rfl (lv_at hl 0 rfl) ?_
    refine lv_iconst (v := 1) hx hb dL_law_712 (by decide) ?_
    refine lv_iadd hx hb dL_law_713 ?_
    refine r_sld hx hb hX hbl hbA h.2 (I := I) (j := 1) (nI_add I 1) (by omega) (by omega) dL_law_714 ?_
    refine u_i (ru_V (As := [.int (xs (I + 1))]) (rest := [.int r1]) F h M0 rfl (k_X8_restore_e l g n c 352 lh l5 rs (nI T) pl2 fa od M0 r M1 scr M2 hh M3 sl M4 zk M5 (xs (I + 1)) hy) (gV lwG_in wd_881 wd_882 wd_883 wd_58 wd_884) rfl 1 (by decide +kernel) rfl ⟨Nat.le_of_ble_eq_true rfl, Nat.le_of_ble_eq_true rfl⟩ rfl hl.1 (Nat.le_of_ble_eq_true rfl) ⟨by show cells + 0 + 0 ≤ 600000; omega, by show slots + 0 + 0 ≤ 7302249; omega⟩ dL_law_715) h (fun r2 n2 c2 H locs hp2 h => ?_)
    obtain ⟨e1, e2, e3⟩ := hp2
    rw [e2, e3] at h
    refine lv_icmp_eq (tgt := 1063) hx hb dL_law_718 (by decide) (fun _ => ?_) (fun z => absurd (q1.trans e1.symm) z)
    exact W.widen (by omega) (by omega) (K _ _ _ _ h (hLI.tb (by omega)))
  have y2 : wN (xs (I + 1)) < 2 := (inI_w (N := 1) (by decide) hy).1
  by_cases hz : zk (wN (xs (I + 1))) = 0
  · skip
    refine lv_aload_n hx hb dL_law_700 rfl (lv_at hl 2 rfl) ?_
    refine lv_aload_n hx hb dL_law_701 rfl (lv_at hl 3 rfl) ?_
    refine lv_iload_n hx hb dL_law_702 rfl (lv_at hl 0 rfl) ?_
    refine lv_iconst (v := 1) hx hb dL_law_703 (by decide) ?_
    refine lv_iadd hx hb dL_law_704 ?_
    refine r_sld hx hb hX hbl hbA h.2 (I := I) (j := 1) (nI_add I 1) (by omega) (by omega) dL_law_705 ?_
    refine u_i (ru_V (As := [.int (xs (I + 1))]) (rest := []) F h C0 rfl (k_X7_restore_n l g n c lh 0 rs C0 R CB S CS zk CZ (xs (I + 1)) hy hz) (gV lwG_in wd_744 wd_745 wd_746 wd_51 wd_747) rfl 1 (by decide +kernel) rfl ⟨Nat.le_of_ble_eq_true rfl, Nat.le_of_ble_eq_true rfl⟩ rfl hl.1 (Nat.le_of_ble_eq_true rfl) ⟨by show cells + 0 ≤ 600000; omega, by show slots + 0 ≤ 7302249; omega⟩ dL_law_706) h (fun r1 n1 c1 H locs hp1 h => ?_)
    obtain ⟨q1, q2, q3⟩ := hp1
    rw [q2, q3] at h
    refine lv_aload_n hx hb dL_law_709 rfl (lv_at hl 1 rfl) ?_
    refine lv_aload_n hx hb dL_law_710 rfl (lv_at hl 3 rfl) ?_
    refine lv_iload_n hx hb dL_law_711 rfl (lv_at hl 0 rfl) ?_
    refine lv_iconst (v := 1) hx hb dL_law_712 (by decide) ?_
    refine lv_iadd hx hb dL_law_713 ?_
    refine r_sld hx hb hX hbl hbA h.2 (I := I) (j := 1) (nI_add I 1) (by omega) (by omega) dL_law_714 ?_
    refine u_i (ru_V (As := [.int (xs (I + 1))]) (rest := [.int r1]) F h M0 rfl (k_X8_restore_n l g n c 352 lh l5 rs (nI T) pl2 fa od M0 r M1 scr M2 hh M3 sl M4 zk M5 (xs (I + 1)) hy hz) (gV lwG_in wd_881 wd_882 wd_883 wd_58 wd_884) rfl 1 (by decide +kernel) rfl ⟨Nat.le_of_ble_eq_true rfl, Nat.le_of_ble_eq_true rfl⟩ rfl hl.1 (Nat.le_of_ble_eq_true rfl) ⟨by show cells + 0 + 0 ≤ 600000; omega, by show slots + 0 + 0 ≤ 7302249; omega⟩ dL_law_715) h (fun r2 n2 c2 H locs hp2 h => ?_)
    obtain ⟨e1, e2, e3⟩ := hp2
    rw [e2, e3] at h
    refine lv_icmp_eq (tgt := 1063) hx hb dL_law_718 (by decide) (fun _ => ?_) (fun z => absurd (q1.trans e1.symm) z)
    exact W.widen (by omega) (by omega) (K _ _ _ _ h (hLI.tb (by omega)))
  have z1 := b01_of (l3 _ y2).1 hz
  have G := (l3 _ y2).2 z1
  have ev : S (wN (xs (I + 1))) 0 = sl (204 * wN (xs (I + 1)) + 0) := by
    obtain ⟨sc2, cn2, i2, r2⟩ := G
    exact r2.lo (by decide)
  have hdn : -100001 < (fun q => sl (204 * wN (xs (I + 1)) + q)) 0 := by
    obtain ⟨sc2, cn2, i2, r2⟩ := G
    have i3 : 0 ≤ (sl (204 * wN (xs (I + 1)) + 0)).toInt := i2.2.1.1
    rw [i_lt]
    show (-100001 : Int) < (sl (204 * wN (xs (I + 1)) + 0)).toInt
    omega
  refine lv_aload_n hx hb dL_law_700 rfl (lv_at hl 2 rfl) ?_
  refine lv_aload_n hx hb dL_law_701 rfl (lv_at hl 3 rfl) ?_
  refine lv_iload_n hx hb dL_law_702 rfl (lv_at hl 0 rfl) ?_
  refine lv_iconst (v := 1) hx hb dL_law_703 (by decide) ?_
  refine lv_iadd hx hb dL_law_704 ?_
  refine r_sld hx hb hX hbl hbA h.2 (I := I) (j := 1) (nI_add I 1) (by omega) (by omega) dL_law_705 ?_
  refine u_i (ru_V (As := [.int (xs (I + 1))]) (rest := []) F h C0 rfl (k_X7_restore_s l g n c lh 0 rs C0 R CB l5 hq CH hW S CS zk CZ (xs (I + 1)) hy hz G.wb) (gV lwG_in wd_744 wd_745 wd_746 wd_51 wd_747) rfl 1 (by decide +kernel) rfl ⟨Nat.le_of_ble_eq_true rfl, Nat.le_of_ble_eq_true rfl⟩ rfl hl.1 (Nat.le_of_ble_eq_true rfl) ⟨by show cells + 0 ≤ 600000; omega, by show slots + 0 ≤ 7302249; omega⟩ dL_law_706) h (fun r1 n1 c1 H locs hp1 h => ?_)
  have F1 : ∀ i : Nat, 260 ≤ i → i < n → c1 i = c i := hp1.2.2.2.2.2
  refine lv_aload_n hx hb dL_law_709 rfl (lv_at hl 1 rfl) ?_
  refine lv_aload_n hx hb dL_law_710 rfl (lv_at hl 3 rfl) ?_
  refine lv_iload_n hx hb dL_law_711 rfl (lv_at hl 0 rfl) ?_
  refine lv_iconst (v := 1) hx hb dL_law_712 (by decide) ?_
  refine lv_iadd hx hb dL_law_713 ?_
  refine r_sld hx hb hX hbl hbA h.2 (I := I) (j := 1) (nI_add I 1) (by omega) (by omega) dL_law_714 ?_
  refine u_i (ru_V (As := [.int (xs (I + 1))]) (rest := [.int r1]) F h ((F1 352 (by decide) (by omega)).trans M0) rfl (k_X8_restore_s l g n1 c1 352 lh l5 rs (nI T) pl2 fa od ((F1 352 (by decide) (by omega)).trans M0) r ((F1 _ (by decide) (by omega)).trans M1) scr ((F1 _ (by decide) (by omega)).trans M2) hh ((F1 _ (by decide) (by omega)).trans M3) sl ((F1 _ (by decide) (by omega)).trans M4) zk ((F1 _ (by decide) (by omega)).trans M5) (xs (I + 1)) hy hz hdn) (gV lwG_in wd_881 wd_882 wd_883 wd_58 wd_884) rfl 1 (by decide +kernel) rfl ⟨Nat.le_of_ble_eq_true rfl, Nat.le_of_ble_eq_true rfl⟩ rfl hl.1 (Nat.le_of_ble_eq_true rfl) ⟨by show cells + 0 + 0 ≤ 600000; omega, by show slots + 0 + 0 ≤ 7302249; omega⟩ dL_law_715) h (fun r2 n2 c2 H locs hp2 h => ?_)
  obtain ⟨e1, e2, e3⟩ := hp2
  have st := st_as hn hC hM hp (show tb ≤ tb + 720 by omega) (M0 := (sl (204 * wN (xs (I + 1)) + 0), r, (fun q => sl (204 * wN (xs (I + 1)) + q)), pushH hh lh r, pushK lh, rs)) hp1 ⟨ev, rfl, G.tb (by omega), Or.inr ⟨rfl, rfl, rfl, rfl⟩⟩ e3
  rw [e2] at h
  refine lv_icmp_eq (tgt := 1063) hx hb dL_law_718 (by decide) (fun _ => ?_) (fun z => absurd (st.1.trans e1.symm) z)
  exact W.widen (by omega) (by omega) (K _ _ _ _ h (st.2))
set_option maxHeartbeats 4000000 in
set_option maxRecDepth 100000 in
theorem lc_type (hLX : LX p s m meth c0 b L xs g) (h : Hv g s H locs n c) (hLI : LI g tb n c) (hl : lv_has ls 4 [(3, .int (nI I)), (2, .ref (gz g + 352)), (1, .ref (gz g + 0)), (0, .ref b)]) (hI6 : I + 6 ≤ L) (htb : tb ≤ 800000000) (hcl : cells + 22 ≤ 600000) (hsl : slots + 88 ≤ 7302249) (K : LK p l e s m below meth c0 b g (cells + 22) (slots + 88) ls (tb + 720)) : W p l e room_1 s m #[Value.ref b] below meth c0 H locs cells slots (lw_Z below #[Value.ref b] s) (F0 m 613 ls []) := by
  obtain ⟨F, hX, hbl, hbA, hL⟩ := hLX
  have hx := F.1
  have hb := F.2.1
  obtain ⟨hn, lh, T, rs, R, r, hq, hh, S, sl, zk, tx, wd, nu, scr, oa, ct, pl, pl2, fa, od, hC, hM, hp⟩ := id hLI
  obtain ⟨C0, CB, CH, CS, CZ, CO, CT, CW, CN⟩ := id hC
  obtain ⟨M0, M1, M2, M3, M4, M5, M6, M7⟩ := id hM
  obtain ⟨l5, l7, ⟨sc, cn, hI, hR⟩, l2, l3⟩ := id hp
  have hW : WB R := hI.wb hR
  have c5 := hI.1.2.1
  have s5 := hI.1.2.2.2
  have hcn : R 3 = nI cn := (hR.lo (by decide)).trans hI.1.1
  have hsc : R 4 = nI sc := (hR.lo (by decide)).trans hI.1.2.2.1
  by_cases hT : T = 70
  · skip
    refine lv_aload_n hx hb dL_law_613 rfl (lv_at hl 2 rfl) ?_
    refine lv_aload_n hx hb dL_law_614 rfl (lv_at hl 3 rfl) ?_
    refine lv_iload_n hx hb dL_law_615 rfl (lv_at hl 0 rfl) ?_
    refine lv_iconst (v := 1) hx hb dL_law_616 (by decide) ?_
    refine lv_iadd hx hb dL_law_617 ?_
    refine r_sld hx hb hX hbl hbA h.2 (I := I) (j := 1) (nI_add I 1) (by omega) (by omega) dL_law_618 ?_
    refine lv_i2c hx hb dL_law_619 rfl ?_
    refine u_i (ru_V (As := [.int (((xs (I + 1)).toUInt32 % 65536).toInt32)]) (rest := []) F h C0 rfl (k_X7_type_e l g n c lh 0 rs C0 R CB T l7 ct pl CO tx CT (((xs (I + 1)).toUInt32 % 65536).toInt32) hT) (gV lwG_in wd_604 wd_605 wd_606 wd_51 wd_607) rfl 1 (by decide +kernel) rfl ⟨Nat.le_of_ble_eq_true rfl, Nat.le_of_ble_eq_true rfl⟩ rfl hl.1 (Nat.le_of_ble_eq_true rfl) ⟨by show cells + 0 ≤ 600000; omega, by show slots + 0 ≤ 7302249; omega⟩ dL_law_620) h (fun r1 n1 c1 H locs hp1 h => ?_)
    obtain ⟨q1, q2, q3⟩ := hp1
    rw [q2, q3] at h
    refine lv_aload_n hx hb dL_law_623 rfl (lv_at hl 1 rfl) ?_
    refine lv_aload_n hx hb dL_law_624 rfl (lv_at hl 3 rfl) ?_
    refine lv_iload_n hx hb dL_law_625 rfl (lv_at hl 0 rfl) ?_
    refine lv_iconst (v := 1) hx hb dL_law_626 (by decide) ?_
    refine lv_iadd hx hb dL_law_627 ?_
    refine r_sld hx hb hX hbl hbA h.2 (I := I) (j := 1) (nI_add I 1) (by omega) (by omega) dL_law_628 ?_
    refine lv_i2c hx hb dL_law_629 rfl ?_
    refine u_i (ru_V (As := [.int (((xs (I + 1)).toUInt32 % 65536).toInt32)]) (rest := [.int r1]) F h M0 rfl (k_X8_type_e l g n c 352 (nI lh) rs T l7 pl2 fa od M0 tx M6 (((xs (I + 1)).toUInt32 % 65536).toInt32) hT) (gV lwG_in wd_1085 wd_1086 wd_1087 wd_58 wd_1088) rfl 1 (by decide +kernel) rfl ⟨Nat.le_of_ble_eq_true rfl, Nat.le_of_ble_eq_true rfl⟩ rfl hl.1 (Nat.le_of_ble_eq_true rfl) ⟨by show cells + 0 + 0 ≤ 600000; omega, by show slots + 0 + 0 ≤ 7302249; omega⟩ dL_law_630) h (fun r2 n2 c2 H locs hp2 h => ?_)
    obtain ⟨e1, e2, e3⟩ := hp2
    rw [e2, e3] at h
    refine lv_icmp_eq (tgt := 1063) hx hb dL_law_633 (by decide) (fun _ => ?_) (fun z => absurd (q1.trans e1.symm) z)
    exact W.widen (by omega) (by omega) (K _ _ _ _ h (hLI.tb (by omega)))
  · skip
    refine lv_aload_n hx hb dL_law_613 rfl (lv_at hl 2 rfl) ?_
    refine lv_aload_n hx hb dL_law_614 rfl (lv_at hl 3 rfl) ?_
    refine lv_iload_n hx hb dL_law_615 rfl (lv_at hl 0 rfl) ?_
    refine lv_iconst (v := 1) hx hb dL_law_616 (by decide) ?_
    refine lv_iadd hx hb dL_law_617 ?_
    refine r_sld hx hb hX hbl hbA h.2 (I := I) (j := 1) (nI_add I 1) (by omega) (by omega) dL_law_618 ?_
    refine lv_i2c hx hb dL_law_619 rfl ?_
    refine u_i (ru_V (As := [.int (((xs (I + 1)).toUInt32 % 65536).toInt32)]) (rest := []) F h C0 rfl (k_X7_type_s l g n c lh 0 rs C0 R CB T l7 ct pl CO tx CT (((xs (I + 1)).toUInt32 % 65536).toInt32) (pk_nc _) (by omega)) (gV lwG_in wd_604 wd_605 wd_606 wd_51 wd_607) rfl 1 (by decide +kernel) rfl ⟨Nat.le_of_ble_eq_true rfl, Nat.le_of_ble_eq_true rfl⟩ rfl hl.1 (Nat.le_of_ble_eq_true rfl) ⟨by show cells + 0 ≤ 600000; omega, by show slots + 0 ≤ 7302249; omega⟩ dL_law_620) h (fun r1 n1 c1 H locs hp1 h => ?_)
    obtain ⟨q1, q2, q3⟩ := hp1
    rw [q2, q3] at h
    refine lv_aload_n hx hb dL_law_623 rfl (lv_at hl 1 rfl) ?_
    refine lv_aload_n hx hb dL_law_624 rfl (lv_at hl 3 rfl) ?_
    refine lv_iload_n hx hb dL_law_625 rfl (lv_at hl 0 rfl) ?_
    refine lv_iconst (v := 1) hx hb dL_law_626 (by decide) ?_
    refine lv_iadd hx hb dL_law_627 ?_
    refine r_sld hx hb hX hbl hbA h.2 (I := I) (j := 1) (nI_add I 1) (by omega) (by omega) dL_law_628 ?_
    refine lv_i2c hx hb dL_law_629 rfl ?_
    refine u_i (ru_V (As := [.int (((xs (I + 1)).toUInt32 % 65536).toInt32)]) (rest := [.int r1]) F h ((mu_ne (by decide) _).trans ((mu_ne (by decide) _).trans M0)) rfl (k_X8_type_s l g n _ 352 (nI lh) rs T l7 pl2 fa od ((mu_ne (by decide) _).trans ((mu_ne (by decide) _).trans M0)) tx ((mu_ne (by decide) _).trans ((mu_ne (by decide) _).trans M6)) (((xs (I + 1)).toUInt32 % 65536).toInt32) (pk_nc _) hT) (gV lwG_in wd_1085 wd_1086 wd_1087 wd_58 wd_1088) rfl 1 (by decide +kernel) rfl ⟨Nat.le_of_ble_eq_true rfl, Nat.le_of_ble_eq_true rfl⟩ rfl hl.1 (Nat.le_of_ble_eq_true rfl) ⟨by show cells + 0 + 0 ≤ 600000; omega, by show slots + 0 + 0 ≤ 7302249; omega⟩ dL_law_630) h (fun r2 n2 c2 H locs hp2 h => ?_)
    obtain ⟨e1, e2, e3⟩ := hp2
    have st := st_type hn hC hM hp (show tb ≤ tb + 720 by omega) (by omega) e3
    rw [e2] at h
    refine lv_icmp_eq (tgt := 1063) hx hb dL_law_633 (by decide) (fun _ => ?_) (fun z => absurd (q1.trans e1.symm) z)
    exact W.widen (by omega) (by omega) (K _ _ _ _ h (st))
set_option maxHeartbeats 4000000 in
set_option maxRecDepth 100000 in
theorem lc_clearText (hLX : LX p s m meth c0 b L xs g) (h : Hv g s H locs n c) (hLI : LI g tb n c) (hl : lv_has ls 4 [(3, .int (nI I)), (2, .ref (gz g + 352)), (1, .ref (gz g + 0)), (0, .ref b)]) (hI6 : I + 6 ≤ L) (htb : tb ≤ 800000000) (hcl : cells + 22 ≤ 600000) (hsl : slots + 88 ≤ 7302249) (K : LK p l e s m below meth c0 b g (cells + 22) (slots + 88) ls (tb + 720)) : W p l e room_1 s m #[Value.ref b] below meth c0 H locs cells slots (lw_Z below #[Value.ref b] s) (F0 m 638 ls []) := by
  obtain ⟨F, hX, hbl, hbA, hL⟩ := hLX
  have hx := F.1
  have hb := F.2.1
  obtain ⟨hn, lh, T, rs, R, r, hq, hh, S, sl, zk, tx, wd, nu, scr, oa, ct, pl, pl2, fa, od, hC, hM, hp⟩ := id hLI
  obtain ⟨C0, CB, CH, CS, CZ, CO, CT, CW, CN⟩ := id hC
  obtain ⟨M0, M1, M2, M3, M4, M5, M6, M7⟩ := id hM
  obtain ⟨l5, l7, ⟨sc, cn, hI, hR⟩, l2, l3⟩ := id hp
  have hW : WB R := hI.wb hR
  have c5 := hI.1.2.1
  have s5 := hI.1.2.2.2
  have hcn : R 3 = nI cn := (hR.lo (by decide)).trans hI.1.1
  have hsc : R 4 = nI sc := (hR.lo (by decide)).trans hI.1.2.2.1
  refine lv_aload_n hx hb dL_law_638 rfl (lv_at hl 2 rfl) ?_
  refine u_i (ru_V (As := []) (rest := []) F h C0 rfl (k_X7_clearText l g n c lh 0 rs C0 R CB (nI T) ct pl CO) (gV lwG_in wd_612 wd_613 wd_614 wd_51 wd_615) rfl 0 (by decide +kernel) rfl ⟨Nat.le_of_ble_eq_true rfl, Nat.le_of_ble_eq_true rfl⟩ rfl hl.1 (Nat.le_of_ble_eq_true rfl) ⟨by show cells + 0 ≤ 600000; omega, by show slots + 0 ≤ 7302249; omega⟩ dL_law_639) h (fun r1 n1 c1 H locs hp1 h => ?_)
  obtain ⟨q1, q2, q3⟩ := hp1
  rw [q2, q3] at h
  refine lv_aload_n hx hb dL_law_642 rfl (lv_at hl 1 rfl) ?_
  refine u_i (ru_V (As := []) (rest := [.int r1]) F h ((mu_ne (by decide) _).trans M0) rfl (k_X8_clearText l g n _ 352 (nI lh) rs (nI T) pl2 fa od ((mu_ne (by decide) _).trans M0)) (gV lwG_in wd_1089 wd_1090 wd_1091 wd_58 wd_1092) rfl 0 (by decide +kernel) rfl ⟨Nat.le_of_ble_eq_true rfl, Nat.le_of_ble_eq_true rfl⟩ rfl hl.1 (Nat.le_of_ble_eq_true rfl) ⟨by show cells + 0 + 0 ≤ 600000; omega, by show slots + 0 + 0 ≤ 7302249; omega⟩ dL_law_643) h (fun r2 n2 c2 H locs hp2 h => ?_)
  obtain ⟨e1, e2, e3⟩ := hp2
  have st := st_clear hn hC hM hp (show tb ≤ tb + 720 by omega) e3
  rw [e2] at h
  refine lv_icmp_eq (tgt := 1063) hx hb dL_law_646 (by decide) (fun _ => ?_) (fun z => absurd (q1.trans e1.symm) z)
  exact W.widen (by omega) (by omega) (K _ _ _ _ h (st))
end LC
