/-! The law, call by call: what is told. -/
section LC
variable {p : Program} {l : Launch} {e : Env} {s : State} {m : MethodId} {below : List Frame} {meth : Method} {c0 : Code} {b L : Nat} {xs : Nat → Int32} {g : Gf} {I tb n : Nat} {c : Mp} {H : Heap} {locs : List Loc} {cells slots : Nat} {ls : Array Slot}
set_option maxHeartbeats 4000000 in
set_option maxRecDepth 100000 in
theorem lc_wire (hLX : LX p s m meth c0 b L xs g) (h : Hv g s H locs n c) (hLI : LI g tb n c) (hl : lv_has ls 4 [(3, .int (nI I)), (2, .ref (gz g + 352)), (1, .ref (gz g + 0)), (0, .ref b)]) (hI6 : I + 6 ≤ L) (htb : tb ≤ 800000000) (hcl : cells + 22 ≤ 600000) (hsl : slots + 88 ≤ 7302249) (K : LK p l e s m below meth c0 b g (cells + 22) (slots + 88) ls (tb + 720)) : W p l e room_1 s m #[Value.ref b] below meth c0 H locs cells slots (lw_Z below #[Value.ref b] s) (F0 m 723 ls []) := by
  obtain ⟨F, hX, hbl, hbA, hL⟩ := hLX
  have hx := F.1
  have hb := F.2.1
  obtain ⟨hn, lh, T, rs, R, r, hq, hh, S, sl, zk, tx, wd, nu, scr, oa, ct, pl, pl2, fa, od, hC, hM, hp⟩ := id hLI
  obtain ⟨C0, CB, CH, CS, CZ, CO, CT, CW, CN⟩ := id hC
  obtain ⟨M0, M1, M2, M3, M4, M5, M6, M7⟩ := id hM
  obtain ⟨l5, l7, ⟨sc, cn, hI, hR⟩, l2, l3⟩ := id hp
  have hW : WB R := hI.wb hR
  have c5 := hI.1.2.1
  have s5 := hI.1.2.2.2
  have hcn : R 3 = nI cn := (hR.lo (by decide)).trans hI.1.1
  have hsc : R 4 = nI sc := (hR.lo (by decide)).trans hI.1.2.2.1
  refine lv_aload_n hx hb dL_law_723 rfl (lv_at hl 2 rfl) ?_
  refine lv_aload_n hx hb dL_law_724 rfl (lv_at hl 3 rfl) ?_
  refine lv_iload_n hx hb dL_law_725 rfl (lv_at hl 0 rfl) ?_
  refine lv_iconst (v := 1) hx hb dL_law_726 (by decide) ?_
  refine lv_iadd hx hb dL_law_727 ?_
  refine r_sld hx hb hX hbl hbA h.2 (I := I) (j := 1) (nI_add I 1) (by omega) (by omega) dL_law_728 ?_
  refine lv_aload_n hx hb dL_law_729 rfl (lv_at hl 3 rfl) ?_
  refine lv_iload_n hx hb dL_law_730 rfl (lv_at hl 0 rfl) ?_
  refine lv_iconst (v := 2) hx hb dL_law_731 (by decide) ?_
  refine lv_iadd hx hb dL_law_732 ?_
  refine r_sld hx hb hX hbl hbA h.2 (I := I) (j := 2) (nI_add I 2) (by omega) (by omega) dL_law_733 ?_
  refine u_i (ru_V (As := [.int (xs (I + 1)), .int (xs (I + 2))]) (rest := []) F h C0 rfl (k_X7_wire l g n c lh 0 rs C0 R CB  (xs (I + 1)) (xs (I + 2)) hW) (gV lwG_in wd_748 wd_749 wd_750 wd_51 wd_751) rfl 2 (by decide +kernel) rfl ⟨Nat.le_of_ble_eq_true rfl, Nat.le_of_ble_eq_true rfl⟩ rfl hl.1 (Nat.le_of_ble_eq_true rfl) ⟨by show cells + 0 ≤ 600000; omega, by show slots + 0 ≤ 7302249; omega⟩ dL_law_734) h (fun r1 n1 c1 H locs hp1 h => ?_)
  obtain ⟨q1, q2, q3⟩ := hp1
  rw [q2, q3] at h
  refine lv_aload_n hx hb dL_law_737 rfl (lv_at hl 1 rfl) ?_
  refine lv_aload_n hx hb dL_law_738 rfl (lv_at hl 3 rfl) ?_
  refine lv_iload_n hx hb dL_law_739 rfl (lv_at hl 0 rfl) ?_
  refine lv_iconst (v := 1) hx hb dL_law_740 (by decide) ?_
  refine lv_iadd hx hb dL_law_741 ?_
  refine r_sld hx hb hX hbl hbA h.2 (I := I) (j := 1) (nI_add I 1) (by omega) (by omega) dL_law_742 ?_
  refine lv_aload_n hx hb dL_law_743 rfl (lv_at hl 3 rfl) ?_
  refine lv_iload_n hx hb dL_law_744 rfl (lv_at hl 0 rfl) ?_
  refine lv_iconst (v := 2) hx hb dL_law_745 (by decide) ?_
  refine lv_iadd hx hb dL_law_746 ?_
  refine r_sld hx hb hX hbl hbA h.2 (I := I) (j := 2) (nI_add I 2) (by omega) (by omega) dL_law_747 ?_
  refine u_i (ru_V (As := [.int (xs (I + 1)), .int (xs (I + 2))]) (rest := [.int r1]) F h M0 rfl (k_X8_wire l g n c 352 (nI lh) rs (nI T) pl2 fa od M0 r M1 (xs (I + 1)) (xs (I + 2)) ) (gV lwG_in wd_1125 wd_1126 wd_1127 wd_58 wd_1128) rfl 2 (by decide +kernel) rfl ⟨Nat.le_of_ble_eq_true rfl, Nat.le_of_ble_eq_true rfl⟩ rfl hl.1 (Nat.le_of_ble_eq_true rfl) ⟨by show cells + 0 + 0 ≤ 600000; omega, by show slots + 0 + 0 ≤ 7302249; omega⟩ dL_law_748) h (fun r2 n2 c2 H locs hp2 h => ?_)
  obtain ⟨e1, e2, e3⟩ := hp2
  rw [e2, e3] at h
  refine lv_icmp_eq (tgt := 1063) hx hb dL_law_751 (by decide) (fun _ => ?_) (fun z => absurd (q1.trans ((rd_wire hI hR).trans e1.symm)) z)
  exact W.widen (by omega) (by omega) (K _ _ _ _ h (hLI.tb (by omega)))
set_option maxHeartbeats 4000000 in
set_option maxRecDepth 100000 in
theorem lc_rest (hLX : LX p s m meth c0 b L xs g) (h : Hv g s H locs n c) (hLI : LI g tb n c) (hl : lv_has ls 4 [(3, .int (nI I)), (2, .ref (gz g + 352)), (1, .ref (gz g + 0)), (0, .ref b)]) (hI6 : I + 6 ≤ L) (htb : tb ≤ 800000000) (hcl : cells + 22 ≤ 600000) (hsl : slots + 88 ≤ 7302249) (K : LK p l e s m below meth c0 b g (cells + 22) (slots + 88) ls (tb + 720)) : W p l e room_1 s m #[Value.ref b] below meth c0 H locs cells slots (lw_Z below #[Value.ref b] s) (F0 m 756 ls []) := by
  obtain ⟨F, hX, hbl, hbA, hL⟩ := hLX
  have hx := F.1
  have hb := F.2.1
  obtain ⟨hn, lh, T, rs, R, r, hq, hh, S, sl, zk, tx, wd, nu, scr, oa, ct, pl, pl2, fa, od, hC, hM, hp⟩ := id hLI
  obtain ⟨C0, CB, CH, CS, CZ, CO, CT, CW, CN⟩ := id hC
  obtain ⟨M0, M1, M2, M3, M4, M5, M6, M7⟩ := id hM
  obtain ⟨l5, l7, ⟨sc, cn, hI, hR⟩, l2, l3⟩ := id hp
  have hW : WB R := hI.wb hR
  have c5 := hI.1.2.1
  have s5 := hI.1.2.2.2
  have hcn : R 3 = nI cn := (hR.lo (by decide)).trans hI.1.1
  have hsc : R 4 = nI sc := (hR.lo (by decide)).trans hI.1.2.2.1
  refine lv_aload_n hx hb dL_law_756 rfl (lv_at hl 2 rfl) ?_
  refine lv_aload_n hx hb dL_law_757 rfl (lv_at hl 3 rfl) ?_
  refine lv_iload_n hx hb dL_law_758 rfl (lv_at hl 0 rfl) ?_
  refine lv_iconst (v := 1) hx hb dL_law_759 (by decide) ?_
  refine lv_iadd hx hb dL_law_760 ?_
  refine r_sld hx hb hX hbl hbA h.2 (I := I) (j := 1) (nI_add I 1) (by omega) (by omega) dL_law_761 ?_
  refine lv_aload_n hx hb dL_law_762 rfl (lv_at hl 3 rfl) ?_
  refine lv_iload_n hx hb dL_law_763 rfl (lv_at hl 0 rfl) ?_
  refine lv_iconst (v := 2) hx hb dL_law_764 (by decide) ?_
  refine lv_iadd hx hb dL_law_765 ?_
  refine r_sld hx hb hX hbl hbA h.2 (I := I) (j := 2) (nI_add I 2) (by omega) (by omega) dL_law_766 ?_
  refine lv_aload_n hx hb dL_law_767 rfl (lv_at hl 3 rfl) ?_
  refine lv_iload_n hx hb dL_law_768 rfl (lv_at hl 0 rfl) ?_
  refine lv_iconst (v := 3) hx hb dL_law_769 (by decide) ?_
  refine lv_iadd hx hb dL_law_770 ?_
  refine r_sld hx hb hX hbl hbA h.2 (I := I) (j := 3) (nI_add I 3) (by omega) (by omega) dL_law_771 ?_
  refine u_i (ru_V (As := [.int (xs (I + 1)), .int (xs (I + 2)), .int (xs (I + 3))]) (rest := []) F h C0 rfl (k_X7_rest l g n c lh 0 rs C0 R CB  (xs (I + 1)) (xs (I + 2)) (xs (I + 3)) cn hW hcn c5) (gV lwG_in wd_756 wd_757 wd_758 wd_51 wd_759) rfl 3 (by decide +kernel) rfl ⟨Nat.le_of_ble_eq_true rfl, Nat.le_of_ble_eq_true rfl⟩ rfl hl.1 (Nat.le_of_ble_eq_true rfl) ⟨by show cells + 0 ≤ 600000; omega, by show slots + 0 ≤ 7302249; omega⟩ dL_law_772) h (fun r1 n1 c1 H locs hp1 h => ?_)
  obtain ⟨q1, q2, q3⟩ := hp1
  rw [q2, q3] at h
  refine lv_aload_n hx hb dL_law_775 rfl (lv_at hl 1 rfl) ?_
  refine lv_aload_n hx hb dL_law_776 rfl (lv_at hl 3 rfl) ?_
  refine lv_iload_n hx hb dL_law_777 rfl (lv_at hl 0 rfl) ?_
  refine lv_iconst (v := 1) hx hb dL_law_778 (by decide) ?_
  refine lv_iadd hx hb dL_law_779 ?_
  refine r_sld hx hb hX hbl hbA h.2 (I := I) (j := 1) (nI_add I 1) (by omega) (by omega) dL_law_780 ?_
  refine lv_aload_n hx hb dL_law_781 rfl (lv_at hl 3 rfl) ?_
  refine lv_iload_n hx hb dL_law_782 rfl (lv_at hl 0 rfl) ?_
  refine lv_iconst (v := 2) hx hb dL_law_783 (by decide) ?_
  refine lv_iadd hx hb dL_law_784 ?_
  refine r_sld hx hb hX hbl hbA h.2 (I := I) (j := 2) (nI_add I 2) (by omega) (by omega) dL_law_785 ?_
  refine lv_aload_n hx hb dL_law_786 rfl (lv_at hl 3 rfl) ?_
  refine lv_iload_n hx hb dL_law_787 rfl (lv_at hl 0 rfl) ?_
  refine lv_iconst (v := 3) hx hb dL_law_788 (by decide) ?_
  refine lv_iadd hx hb dL_law_789 ?_
  refine r_sld hx hb hX hbl hbA h.2 (I := I) (j := 3) (nI_add I 3) (by omega) (by omega) dL_law_790 ?_
  refine u_i (ru_V (As := [.int (xs (I + 1)), .int (xs (I + 2)), .int (xs (I + 3))]) (rest := [.int r1]) F h M0 rfl (k_X8_rest l g n c 352 (nI lh) rs (nI T) pl2 fa od M0 r M1 (xs (I + 1)) (xs (I + 2)) (xs (I + 3)) cn hI.1.1 c5 hI.hq) (gV lwG_in wd_1129 wd_1130 wd_1131 wd_58 wd_1132) rfl 3 (by decide +kernel) rfl ⟨Nat.le_of_ble_eq_true rfl, Nat.le_of_ble_eq_true rfl⟩ rfl hl.1 (Nat.le_of_ble_eq_true rfl) ⟨by show cells + 0 + 0 ≤ 600000; omega, by show slots + 0 + 0 ≤ 7302249; omega⟩ dL_law_791) h (fun r2 n2 c2 H locs hp2 h => ?_)
  obtain ⟨e1, e2, e3⟩ := hp2
  rw [e2, e3] at h
  refine lv_icmp_eq (tgt := 1063) hx hb dL_law_794 (by decide) (fun _ => ?_) (fun z => absurd (q1.trans ((rd_rest hI hR).trans e1.symm)) z)
  exact W.widen (by omega) (by omega) (K _ _ _ _ h (hLI.tb (by omega)))
set_option maxHeartbeats 4000000 in
set_option maxRecDepth 100000 in
theorem lc_position (hLX : LX p s m meth c0 b L xs g) (h : Hv g s H locs n c) (hLI : LI g tb n c) (hl : lv_has ls 4 [(3, .int (nI I)), (2, .ref (gz g + 352)), (1, .ref (gz g + 0)), (0, .ref b)]) (hI6 : I + 6 ≤ L) (htb : tb ≤ 800000000) (hcl : cells + 22 ≤ 600000) (hsl : slots + 88 ≤ 7302249) (K : LK p l e s m below meth c0 b g (cells + 22) (slots + 88) ls (tb + 720)) : W p l e room_1 s m #[Value.ref b] below meth c0 H locs cells slots (lw_Z below #[Value.ref b] s) (F0 m 799 ls []) := by
  obtain ⟨F, hX, hbl, hbA, hL⟩ := hLX
  have hx := F.1
  have hb := F.2.1
  obtain ⟨hn, lh, T, rs, R, r, hq, hh, S, sl, zk, tx, wd, nu, scr, oa, ct, pl, pl2, fa, od, hC, hM, hp⟩ := id hLI
  obtain ⟨C0, CB, CH, CS, CZ, CO, CT, CW, CN⟩ := id hC
  obtain ⟨M0, M1, M2, M3, M4, M5, M6, M7⟩ := id hM
  obtain ⟨l5, l7, ⟨sc, cn, hI, hR⟩, l2, l3⟩ := id hp
  have hW : WB R := hI.wb hR
  have c5 := hI.1.2.1
  have s5 := hI.1.2.2.2
  have hcn : R 3 = nI cn := (hR.lo (by decide)).trans hI.1.1
  have hsc : R 4 = nI sc := (hR.lo (by decide)).trans hI.1.2.2.1
  refine lv_aload_n hx hb dL_law_799 rfl (lv_at hl 2 rfl) ?_
  refine lv_aload_n hx hb dL_law_800 rfl (lv_at hl 3 rfl) ?_
  refine lv_iload_n hx hb dL_law_801 rfl (lv_at hl 0 rfl) ?_
  refine lv_iconst (v := 1) hx hb dL_law_802 (by decide) ?_
  refine lv_iadd hx hb dL_law_803 ?_
  refine r_sld hx hb hX hbl hbA h.2 (I := I) (j := 1) (nI_add I 1) (by omega) (by omega) dL_law_804 ?_
  refine lv_aload_n hx hb dL_law_805 rfl (lv_at hl 3 rfl) ?_
  refine lv_iload_n hx hb dL_law_806 rfl (lv_at hl 0 rfl) ?_
  refine lv_iconst (v := 2) hx hb dL_law_807 (by decide) ?_
  refine lv_iadd hx hb dL_law_808 ?_
  refine r_sld hx hb hX hbl hbA h.2 (I := I) (j := 2) (nI_add I 2) (by omega) (by omega) dL_law_809 ?_
  refine lv_aload_n hx hb dL_law_810 rfl (lv_at hl 3 rfl) ?_
  refine lv_iload_n hx hb dL_law_811 rfl (lv_at hl 0 rfl) ?_
  refine lv_iconst (v := 3) hx hb dL_law_812 (by decide) ?_
  refine lv_iadd hx hb dL_law_813 ?_
  refine r_sld hx hb hX hbl hbA h.2 (I := I) (j := 3) (nI_add I 3) (by omega) (by omega) dL_law_814 ?_
  refine u_i (ru_V (As := [.int (xs (I + 1)), .int (xs (I + 2)), .int (xs (I + 3))]) (rest := []) F h C0 rfl (k_X7_position l g n c lh 0 rs C0 R CB  (xs (I + 1)) (xs (I + 2)) (xs (I + 3)) cn hW hcn c5) (gV lwG_in wd_765 wd_766 wd_767 wd_51 wd_768) rfl 3 (by decide +kernel) rfl ⟨Nat.le_of_ble_eq_true rfl, Nat.le_of_ble_eq_true rfl⟩ rfl hl.1 (Nat.le_of_ble_eq_true rfl) ⟨by show cells + 0 ≤ 600000; omega, by show slots + 0 ≤ 7302249; omega⟩ dL_law_815) h (fun r1 n1 c1 H locs hp1 h => ?_)
  obtain ⟨q1, q2, q3⟩ := hp1
  rw [q2, q3] at h
  refine lv_aload_n hx hb dL_law_818 rfl (lv_at hl 1 rfl) ?_
  refine lv_aload_n hx hb dL_law_819 rfl (lv_at hl 3 rfl) ?_
  refine lv_iload_n hx hb dL_law_820 rfl (lv_at hl 0 rfl) ?_
  refine lv_iconst (v := 1) hx hb dL_law_821 (by decide) ?_
  refine lv_iadd hx hb dL_law_822 ?_
  refine r_sld hx hb hX hbl hbA h.2 (I := I) (j := 1) (nI_add I 1) (by omega) (by omega) dL_law_823 ?_
  refine lv_aload_n hx hb dL_law_824 rfl (lv_at hl 3 rfl) ?_
  refine lv_iload_n hx hb dL_law_825 rfl (lv_at hl 0 rfl) ?_
  refine lv_iconst (v := 2) hx hb dL_law_826 (by decide) ?_
  refine lv_iadd hx hb dL_law_827 ?_
  refine r_sld hx hb hX hbl hbA h.2 (I := I) (j := 2) (nI_add I 2) (by omega) (by omega) dL_law_828 ?_
  refine lv_aload_n hx hb dL_law_829 rfl (lv_at hl 3 rfl) ?_
  refine lv_iload_n hx hb dL_law_830 rfl (lv_at hl 0 rfl) ?_
  refine lv_iconst (v := 3) hx hb dL_law_831 (by decide) ?_
  refine lv_iadd hx hb dL_law_832 ?_
  refine r_sld hx hb hX hbl hbA h.2 (I := I) (j := 3) (nI_add I 3) (by omega) (by omega) dL_law_833 ?_
  refine u_i (ru_V (As := [.int (xs (I + 1)), .int (xs (I + 2)), .int (xs (I + 3))]) (rest := [.int r1]) F h M0 rfl (k_X8_position l g n c 352 (nI lh) rs (nI T) pl2 fa od M0 r M1 (xs (I + 1)) (xs (I + 2)) (xs (I + 3)) cn hI.1.1 c5 hI.hq) (gV lwG_in wd_1137 wd_1138 wd_1139 wd_58 wd_1140) rfl 3 (by decide +kernel) rfl ⟨Nat.le_of_ble_eq_true rfl, Nat.le_of_ble_eq_true rfl⟩ rfl hl.1 (Nat.le_of_ble_eq_true rfl) ⟨by show cells + 0 + 0 ≤ 600000; omega, by show slots + 0 + 0 ≤ 7302249; omega⟩ dL_law_834) h (fun r2 n2 c2 H locs hp2 h => ?_)
  obtain ⟨e1, e2, e3⟩ := hp2
  rw [e2, e3] at h
  refine lv_icmp_eq (tgt := 1063) hx hb dL_law_837 (by decide) (fun _ => ?_) (fun z => absurd (q1.trans ((rd_position hI hR).trans e1.symm)) z)
  exact W.widen (by omega) (by omega) (K _ _ _ _ h (hLI.tb (by omega)))
set_option maxHeartbeats 4000000 in
set_option maxRecDepth 100000 in
theorem lc_calmIn (hLX : LX p s m meth c0 b L xs g) (h : Hv g s H locs n c) (hLI : LI g tb n c) (hl : lv_has ls 4 [(3, .int (nI I)), (2, .ref (gz g + 352)), (1, .ref (gz g + 0)), (0, .ref b)]) (hI6 : I + 6 ≤ L) (htb : tb ≤ 800000000) (hcl : cells + 22 ≤ 600000) (hsl : slots + 88 ≤ 7302249) (K : LK p l e s m below meth c0 b g (cells + 22) (slots + 88) ls (tb + 720)) : W p l e room_1 s m #[Value.ref b] below meth c0 H locs cells slots (lw_Z below #[Value.ref b] s) (F0 m 842 ls []) := by
  obtain ⟨F, hX, hbl, hbA, hL⟩ := hLX
  have hx := F.1
  have hb := F.2.1
  obtain ⟨hn, lh, T, rs, R, r, hq, hh, S, sl, zk, tx, wd, nu, scr, oa, ct, pl, pl2, fa, od, hC, hM, hp⟩ := id hLI
  obtain ⟨C0, CB, CH, CS, CZ, CO, CT, CW, CN⟩ := id hC
  obtain ⟨M0, M1, M2, M3, M4, M5, M6, M7⟩ := id hM
  obtain ⟨l5, l7, ⟨sc, cn, hI, hR⟩, l2, l3⟩ := id hp
  have hW : WB R := hI.wb hR
  have c5 := hI.1.2.1
  have s5 := hI.1.2.2.2
  have hcn : R 3 = nI cn := (hR.lo (by decide)).trans hI.1.1
  have hsc : R 4 = nI sc := (hR.lo (by decide)).trans hI.1.2.2.1
  refine lv_aload_n hx hb dL_law_842 rfl (lv_at hl 2 rfl) ?_
  refine lv_aload_n hx hb dL_law_843 rfl (lv_at hl 3 rfl) ?_
  refine lv_iload_n hx hb dL_law_844 rfl (lv_at hl 0 rfl) ?_
  refine lv_iconst (v := 1) hx hb dL_law_845 (by decide) ?_
  refine lv_iadd hx hb dL_law_846 ?_
  refine r_sld hx hb hX hbl hbA h.2 (I := I) (j := 1) (nI_add I 1) (by omega) (by omega) dL_law_847 ?_
  refine lv_aload_n hx hb dL_law_848 rfl (lv_at hl 3 rfl) ?_
  refine lv_iload_n hx hb dL_law_849 rfl (lv_at hl 0 rfl) ?_
  refine lv_iconst (v := 2) hx hb dL_law_850 (by decide) ?_
  refine lv_iadd hx hb dL_law_851 ?_
  refine r_sld hx hb hX hbl hbA h.2 (I := I) (j := 2) (nI_add I 2) (by omega) (by omega) dL_law_852 ?_
  refine u_i (ru_V (As := [.int (xs (I + 1)), .int (xs (I + 2))]) (rest := []) F h C0 rfl (k_X7_calmIn l g n c lh 0 rs C0 R CB  (xs (I + 1)) (xs (I + 2)) hW) (gV lwG_in wd_770 wd_771 wd_772 wd_51 wd_773) rfl 2 (by decide +kernel) rfl ⟨Nat.le_of_ble_eq_true rfl, Nat.le_of_ble_eq_true rfl⟩ rfl hl.1 (Nat.le_of_ble_eq_true rfl) ⟨by show cells + 0 ≤ 600000; omega, by show slots + 0 ≤ 7302249; omega⟩ dL_law_853) h (fun r1 n1 c1 H locs hp1 h => ?_)
  obtain ⟨q1, q2, q3⟩ := hp1
  rw [q2, q3] at h
  refine lv_aload_n hx hb dL_law_856 rfl (lv_at hl 1 rfl) ?_
  refine lv_aload_n hx hb dL_law_857 rfl (lv_at hl 3 rfl) ?_
  refine lv_iload_n hx hb dL_law_858 rfl (lv_at hl 0 rfl) ?_
  refine lv_iconst (v := 1) hx hb dL_law_859 (by decide) ?_
  refine lv_iadd hx hb dL_law_860 ?_
  refine r_sld hx hb hX hbl hbA h.2 (I := I) (j := 1) (nI_add I 1) (by omega) (by omega) dL_law_861 ?_
  refine lv_aload_n hx hb dL_law_862 rfl (lv_at hl 3 rfl) ?_
  refine lv_iload_n hx hb dL_law_863 rfl (lv_at hl 0 rfl) ?_
  refine lv_iconst (v := 2) hx hb dL_law_864 (by decide) ?_
  refine lv_iadd hx hb dL_law_865 ?_
  refine r_sld hx hb hX hbl hbA h.2 (I := I) (j := 2) (nI_add I 2) (by omega) (by omega) dL_law_866 ?_
  refine u_i (ru_V (As := [.int (xs (I + 1)), .int (xs (I + 2))]) (rest := [.int r1]) F h M0 rfl (k_X8_calmIn l g n c 352 (nI lh) rs (nI T) pl2 fa od M0 r M1 (xs (I + 1)) (xs (I + 2)) hI.ha) (gV lwG_in wd_1141 wd_1142 wd_1143 wd_58 wd_1144) rfl 2 (by decide +kernel) rfl ⟨Nat.le_of_ble_eq_true rfl, Nat.le_of_ble_eq_true rfl⟩ rfl hl.1 (Nat.le_of_ble_eq_true rfl) ⟨by show cells + 0 + 0 ≤ 600000; omega, by show slots + 0 + 0 ≤ 7302249; omega⟩ dL_law_867) h (fun r2 n2 c2 H locs hp2 h => ?_)
  obtain ⟨e1, e2, e3⟩ := hp2
  rw [e2, e3] at h
  refine lv_icmp_eq (tgt := 1063) hx hb dL_law_870 (by decide) (fun _ => ?_) (fun z => absurd (q1.trans ((rd_calmIn hI hR).trans e1.symm)) z)
  exact W.widen (by omega) (by omega) (K _ _ _ _ h (hLI.tb (by omega)))
set_option maxHeartbeats 4000000 in
set_option maxRecDepth 100000 in
theorem lc_station (hLX : LX p s m meth c0 b L xs g) (h : Hv g s H locs n c) (hLI : LI g tb n c) (hl : lv_has ls 4 [(3, .int (nI I)), (2, .ref (gz g + 352)), (1, .ref (gz g + 0)), (0, .ref b)]) (hI6 : I + 6 ≤ L) (htb : tb ≤ 800000000) (hcl : cells + 22 ≤ 600000) (hsl : slots + 88 ≤ 7302249) (K : LK p l e s m below meth c0 b g (cells + 22) (slots + 88) ls (tb + 720)) : W p l e room_1 s m #[Value.ref b] below meth c0 H locs cells slots (lw_Z below #[Value.ref b] s) (F0 m 875 ls []) := by
  obtain ⟨F, hX, hbl, hbA, hL⟩ := hLX
  have hx := F.1
  have hb := F.2.1
  obtain ⟨hn, lh, T, rs, R, r, hq, hh, S, sl, zk, tx, wd, nu, scr, oa, ct, pl, pl2, fa, od, hC, hM, hp⟩ := id hLI
  obtain ⟨C0, CB, CH, CS, CZ, CO, CT, CW, CN⟩ := id hC
  obtain ⟨M0, M1, M2, M3, M4, M5, M6, M7⟩ := id hM
  obtain ⟨l5, l7, ⟨sc, cn, hI, hR⟩, l2, l3⟩ := id hp
  have hW : WB R := hI.wb hR
  have c5 := hI.1.2.1
  have s5 := hI.1.2.2.2
  have hcn : R 3 = nI cn := (hR.lo (by decide)).trans hI.1.1
  have hsc : R 4 = nI sc := (hR.lo (by decide)).trans hI.1.2.2.1
  refine lv_aload_n hx hb dL_law_875 rfl (lv_at hl 2 rfl) ?_
  refine lv_aload_n hx hb dL_law_876 rfl (lv_at hl 3 rfl) ?_
  refine lv_iload_n hx hb dL_law_877 rfl (lv_at hl 0 rfl) ?_
  refine lv_iconst (v := 1) hx hb dL_law_878 (by decide) ?_
  refine lv_iadd hx hb dL_law_879 ?_
  refine r_sld hx hb hX hbl hbA h.2 (I := I) (j := 1) (nI_add I 1) (by omega) (by omega) dL_law_880 ?_
  refine lv_aload_n hx hb dL_law_881 rfl (lv_at hl 3 rfl) ?_
  refine lv_iload_n hx hb dL_law_882 rfl (lv_at hl 0 rfl) ?_
  refine lv_iconst (v := 2) hx hb dL_law_883 (by decide) ?_
  refine lv_iadd hx hb dL_law_884 ?_
  refine r_sld hx hb hX hbl hbA h.2 (I := I) (j := 2) (nI_add I 2) (by omega) (by omega) dL_law_885 ?_
  refine u_i (ru_V (As := [.int (xs (I + 1)), .int (xs (I + 2))]) (rest := []) F h C0 rfl (k_X7_station l g n c lh 0 rs C0 R CB  (xs (I + 1)) (xs (I + 2)) sc hsc s5) (gV lwG_in wd_778 wd_779 wd_780 wd_51 wd_781) rfl 2 (by decide +kernel) rfl ⟨Nat.le_of_ble_eq_true rfl, Nat.le_of_ble_eq_true rfl⟩ rfl hl.1 (Nat.le_of_ble_eq_true rfl) ⟨by show cells + 0 ≤ 600000; omega, by show slots + 0 ≤ 7302249; omega⟩ dL_law_886) h (fun r1 n1 c1 H locs hp1 h => ?_)
  obtain ⟨q1, q2, q3⟩ := hp1
  rw [q2, q3] at h
  refine lv_aload_n hx hb dL_law_889 rfl (lv_at hl 1 rfl) ?_
  refine lv_aload_n hx hb dL_law_890 rfl (lv_at hl 3 rfl) ?_
  refine lv_iload_n hx hb dL_law_891 rfl (lv_at hl 0 rfl) ?_
  refine lv_iconst (v := 1) hx hb dL_law_892 (by decide) ?_
  refine lv_iadd hx hb dL_law_893 ?_
  refine r_sld hx hb hX hbl hbA h.2 (I := I) (j := 1) (nI_add I 1) (by omega) (by omega) dL_law_894 ?_
  refine lv_aload_n hx hb dL_law_895 rfl (lv_at hl 3 rfl) ?_
  refine lv_iload_n hx hb dL_law_896 rfl (lv_at hl 0 rfl) ?_
  refine lv_iconst (v := 2) hx hb dL_law_897 (by decide) ?_
  refine lv_iadd hx hb dL_law_898 ?_
  refine r_sld hx hb hX hbl hbA h.2 (I := I) (j := 2) (nI_add I 2) (by omega) (by omega) dL_law_899 ?_
  refine u_i (ru_V (As := [.int (xs (I + 1)), .int (xs (I + 2))]) (rest := [.int r1]) F h M0 rfl (k_X8_station l g n c 352 (nI lh) rs (nI T) pl2 fa od M0 r M1 (xs (I + 1)) (xs (I + 2)) sc hI.1.2.2.1 s5) (gV lwG_in wd_1145 wd_1146 wd_1147 wd_58 wd_1148) rfl 2 (by decide +kernel) rfl ⟨Nat.le_of_ble_eq_true rfl, Nat.le_of_ble_eq_true rfl⟩ rfl hl.1 (Nat.le_of_ble_eq_true rfl) ⟨by show cells + 0 + 0 ≤ 600000; omega, by show slots + 0 + 0 ≤ 7302249; omega⟩ dL_law_900) h (fun r2 n2 c2 H locs hp2 h => ?_)
  obtain ⟨e1, e2, e3⟩ := hp2
  rw [e2, e3] at h
  refine lv_icmp_eq (tgt := 1063) hx hb dL_law_903 (by decide) (fun _ => ?_) (fun z => absurd (q1.trans ((rd_station hI hR).trans e1.symm)) z)
  exact W.widen (by omega) (by omega) (K _ _ _ _ h (hLI.tb (by omega)))
set_option maxHeartbeats 4000000 in
set_option maxRecDepth 100000 in
theorem lc_observation (hLX : LX p s m meth c0 b L xs g) (h : Hv g s H locs n c) (hLI : LI g tb n c) (hl : lv_has ls 4 [(3, .int (nI I)), (2, .ref (gz g + 352)), (1, .ref (gz g + 0)), (0, .ref b)]) (hI6 : I + 6 ≤ L) (htb : tb ≤ 800000000) (hcl : cells + 22 ≤ 600000) (hsl : slots + 88 ≤ 7302249) (K : LK p l e s m below meth c0 b g (cells + 22) (slots + 88) ls (tb + 720)) : W p l e room_1 s m #[Value.ref b] below meth c0 H locs cells slots (lw_Z below #[Value.ref b] s) (F0 m 908 ls []) := by
  obtain ⟨F, hX, hbl, hbA, hL⟩ := hLX
  have hx := F.1
  have hb := F.2.1
  obtain ⟨hn, lh, T, rs, R, r, hq, hh, S, sl, zk, tx, wd, nu, scr, oa, ct, pl, pl2, fa, od, hC, hM, hp⟩ := id hLI
  obtain ⟨C0, CB, CH, CS, CZ, CO, CT, CW, CN⟩ := id hC
  obtain ⟨M0, M1, M2, M3, M4, M5, M6, M7⟩ := id hM
  obtain ⟨l5, l7, ⟨sc, cn, hI, hR⟩, l2, l3⟩ := id hp
  have hW : WB R := hI.wb hR
  have c5 := hI.1.2.1
  have s5 := hI.1.2.2.2
  have hcn : R 3 = nI cn := (hR.lo (by decide)).trans hI.1.1
  have hsc : R 4 = nI sc := (hR.lo (by decide)).trans hI.1.2.2.1
  refine lv_aload_n hx hb dL_law_908 rfl (lv_at hl 2 rfl) ?_
  refine lv_aload_n hx hb dL_law_909 rfl (lv_at hl 3 rfl) ?_
  refine lv_iload_n hx hb dL_law_910 rfl (lv_at hl 0 rfl) ?_
  refine lv_iconst (v := 1) hx hb dL_law_911 (by decide) ?_
  refine lv_iadd hx hb dL_law_912 ?_
  refine r_sld hx hb hX hbl hbA h.2 (I := I) (j := 1) (nI_add I 1) (by omega) (by omega) dL_law_913 ?_
  refine lv_aload_n hx hb dL_law_914 rfl (lv_at hl 3 rfl) ?_
  refine lv_iload_n hx hb dL_law_915 rfl (lv_at hl 0 rfl) ?_
  refine lv_iconst (v := 2) hx hb dL_law_916 (by decide) ?_
  refine lv_iadd hx hb dL_law_917 ?_
  refine r_sld hx hb hX hbl hbA h.2 (I := I) (j := 2) (nI_add I 2) (by omega) (by omega) dL_law_918 ?_
  refine lv_aload_n hx hb dL_law_919 rfl (lv_at hl 3 rfl) ?_
  refine lv_iload_n hx hb dL_law_920 rfl (lv_at hl 0 rfl) ?_
  refine lv_iconst (v := 3) hx hb dL_law_921 (by decide) ?_
  refine lv_iadd hx hb dL_law_922 ?_
  refine r_sld hx hb hX hbl hbA h.2 (I := I) (j := 3) (nI_add I 3) (by omega) (by omega) dL_law_923 ?_
  refine u_i (ru_V (As := [.int (xs (I + 1)), .int (xs (I + 2)), .int (xs (I + 3))]) (rest := []) F h C0 rfl (k_X7_observation l g n c lh 0 rs C0 R CB  (xs (I + 1)) (xs (I + 2)) (xs (I + 3)) sc hsc s5) (gV lwG_in wd_786 wd_787 wd_788 wd_51 wd_789) rfl 3 (by decide +kernel) rfl ⟨Nat.le_of_ble_eq_true rfl, Nat.le_of_ble_eq_true rfl⟩ rfl hl.1 (Nat.le_of_ble_eq_true rfl) ⟨by show cells + 0 ≤ 600000; omega, by show slots + 0 ≤ 7302249; omega⟩ dL_law_924) h (fun r1 n1 c1 H locs hp1 h => ?_)
  obtain ⟨q1, q2, q3⟩ := hp1
  rw [q2, q3] at h
  refine lv_aload_n hx hb dL_law_927 rfl (lv_at hl 1 rfl) ?_
  refine lv_aload_n hx hb dL_law_928 rfl (lv_at hl 3 rfl) ?_
  refine lv_iload_n hx hb dL_law_929 rfl (lv_at hl 0 rfl) ?_
  refine lv_iconst (v := 1) hx hb dL_law_930 (by decide) ?_
  refine lv_iadd hx hb dL_law_931 ?_
  refine r_sld hx hb hX hbl hbA h.2 (I := I) (j := 1) (nI_add I 1) (by omega) (by omega) dL_law_932 ?_
  refine lv_aload_n hx hb dL_law_933 rfl (lv_at hl 3 rfl) ?_
  refine lv_iload_n hx hb dL_law_934 rfl (lv_at hl 0 rfl) ?_
  refine lv_iconst (v := 2) hx hb dL_law_935 (by decide) ?_
  refine lv_iadd hx hb dL_law_936 ?_
  refine r_sld hx hb hX hbl hbA h.2 (I := I) (j := 2) (nI_add I 2) (by omega) (by omega) dL_law_937 ?_
  refine lv_aload_n hx hb dL_law_938 rfl (lv_at hl 3 rfl) ?_
  refine lv_iload_n hx hb dL_law_939 rfl (lv_at hl 0 rfl) ?_
  refine lv_iconst (v := 3) hx hb dL_law_940 (by decide) ?_
  refine lv_iadd hx hb dL_law_941 ?_
  refine r_sld hx hb hX hbl hbA h.2 (I := I) (j := 3) (nI_add I 3) (by omega) (by omega) dL_law_942 ?_
  refine u_i (ru_V (As := [.int (xs (I + 1)), .int (xs (I + 2)), .int (xs (I + 3))]) (rest := [.int r1]) F h M0 rfl (k_X8_observation l g n c 352 (nI lh) rs (nI T) pl2 fa od M0 r M1 (xs (I + 1)) (xs (I + 2)) (xs (I + 3)) sc hI.1.2.2.1 s5) (gV lwG_in wd_1153 wd_1154 wd_1155 wd_58 wd_1156) rfl 3 (by decide +kernel) rfl ⟨Nat.le_of_ble_eq_true rfl, Nat.le_of_ble_eq_true rfl⟩ rfl hl.1 (Nat.le_of_ble_eq_true rfl) ⟨by show cells + 0 + 0 ≤ 600000; omega, by show slots + 0 + 0 ≤ 7302249; omega⟩ dL_law_943) h (fun r2 n2 c2 H locs hp2 h => ?_)
  obtain ⟨e1, e2, e3⟩ := hp2
  rw [e2, e3] at h
  refine lv_icmp_eq (tgt := 1063) hx hb dL_law_946 (by decide) (fun _ => ?_) (fun z => absurd (q1.trans ((rd_observation hI hR).trans e1.symm)) z)
  exact W.widen (by omega) (by omega) (K _ _ _ _ h (hLI.tb (by omega)))
set_option maxHeartbeats 4000000 in
set_option maxRecDepth 100000 in
theorem lc_bearing (hLX : LX p s m meth c0 b L xs g) (h : Hv g s H locs n c) (hLI : LI g tb n c) (hl : lv_has ls 4 [(3, .int (nI I)), (2, .ref (gz g + 352)), (1, .ref (gz g + 0)), (0, .ref b)]) (hI6 : I + 6 ≤ L) (htb : tb ≤ 800000000) (hcl : cells + 22 ≤ 600000) (hsl : slots + 88 ≤ 7302249) (K : LK p l e s m below meth c0 b g (cells + 22) (slots + 88) ls (tb + 720)) : W p l e room_1 s m #[Value.ref b] below meth c0 H locs cells slots (lw_Z below #[Value.ref b] s) (F0 m 951 ls []) := by
  obtain ⟨F, hX, hbl, hbA, hL⟩ := hLX
  have hx := F.1
  have hb := F.2.1
  obtain ⟨hn, lh, T, rs, R, r, hq, hh, S, sl, zk, tx, wd, nu, scr, oa, ct, pl, pl2, fa, od, hC, hM, hp⟩ := id hLI
  obtain ⟨C0, CB, CH, CS, CZ, CO, CT, CW, CN⟩ := id hC
  obtain ⟨M0, M1, M2, M3, M4, M5, M6, M7⟩ := id hM
  obtain ⟨l5, l7, ⟨sc, cn, hI, hR⟩, l2, l3⟩ := id hp
  have hW : WB R := hI.wb hR
  have c5 := hI.1.2.1
  have s5 := hI.1.2.2.2
  have hcn : R 3 = nI cn := (hR.lo (by decide)).trans hI.1.1
  have hsc : R 4 = nI sc := (hR.lo (by decide)).trans hI.1.2.2.1
  refine lv_aload_n hx hb dL_law_951 rfl (lv_at hl 2 rfl) ?_
  refine lv_aload_n hx hb dL_law_952 rfl (lv_at hl 3 rfl) ?_
  refine lv_iload_n hx hb dL_law_953 rfl (lv_at hl 0 rfl) ?_
  refine lv_iconst (v := 1) hx hb dL_law_954 (by decide) ?_
  refine lv_iadd hx hb dL_law_955 ?_
  refine r_sld hx hb hX hbl hbA h.2 (I := I) (j := 1) (nI_add I 1) (by omega) (by omega) dL_law_956 ?_
  refine lv_aload_n hx hb dL_law_957 rfl (lv_at hl 3 rfl) ?_
  refine lv_iload_n hx hb dL_law_958 rfl (lv_at hl 0 rfl) ?_
  refine lv_iconst (v := 2) hx hb dL_law_959 (by decide) ?_
  refine lv_iadd hx hb dL_law_960 ?_
  refine r_sld hx hb hX hbl hbA h.2 (I := I) (j := 2) (nI_add I 2) (by omega) (by omega) dL_law_961 ?_
  refine u_i (ru_V (As := [.int (xs (I + 1)), .int (xs (I + 2))]) (rest := []) F h C0 rfl (k_X7_bearing l g n c lh 0 rs C0 R CB  (xs (I + 1)) (xs (I + 2)) ) (gV lwG_in wd_794 wd_795 wd_796 wd_51 wd_797) rfl 2 (by decide +kernel) rfl ⟨Nat.le_of_ble_eq_true rfl, Nat.le_of_ble_eq_true rfl⟩ rfl hl.1 (Nat.le_of_ble_eq_true rfl) ⟨by show cells + 0 ≤ 600000; omega, by show slots + 0 ≤ 7302249; omega⟩ dL_law_962) h (fun r1 n1 c1 H locs hp1 h => ?_)
  obtain ⟨q1, q2, q3⟩ := hp1
  rw [q2, q3] at h
  refine lv_aload_n hx hb dL_law_965 rfl (lv_at hl 1 rfl) ?_
  refine lv_aload_n hx hb dL_law_966 rfl (lv_at hl 3 rfl) ?_
  refine lv_iload_n hx hb dL_law_967 rfl (lv_at hl 0 rfl) ?_
  refine lv_iconst (v := 1) hx hb dL_law_968 (by decide) ?_
  refine lv_iadd hx hb dL_law_969 ?_
  refine r_sld hx hb hX hbl hbA h.2 (I := I) (j := 1) (nI_add I 1) (by omega) (by omega) dL_law_970 ?_
  refine lv_aload_n hx hb dL_law_971 rfl (lv_at hl 3 rfl) ?_
  refine lv_iload_n hx hb dL_law_972 rfl (lv_at hl 0 rfl) ?_
  refine lv_iconst (v := 2) hx hb dL_law_973 (by decide) ?_
  refine lv_iadd hx hb dL_law_974 ?_
  refine r_sld hx hb hX hbl hbA h.2 (I := I) (j := 2) (nI_add I 2) (by omega) (by omega) dL_law_975 ?_
  refine u_i (ru_V (As := [.int (xs (I + 1)), .int (xs (I + 2))]) (rest := [.int r1]) F h M0 rfl (k_X8_bearing l g n c 352 (nI lh) rs (nI T) pl2 fa od M0 r M1 (xs (I + 1)) (xs (I + 2)) ) (gV lwG_in wd_1034 wd_1035 wd_1036 wd_58 wd_1037) rfl 2 (by decide +kernel) rfl ⟨Nat.le_of_ble_eq_true rfl, Nat.le_of_ble_eq_true rfl⟩ rfl hl.1 (Nat.le_of_ble_eq_true rfl) ⟨by show cells + 0 + 0 ≤ 600000; omega, by show slots + 0 + 0 ≤ 7302249; omega⟩ dL_law_976) h (fun r2 n2 c2 H locs hp2 h => ?_)
  obtain ⟨e1, e2, e3⟩ := hp2
  rw [e2, e3] at h
  refine lv_icmp_eq (tgt := 1063) hx hb dL_law_979 (by decide) (fun _ => ?_) (fun z => absurd (q1.trans ((rd_bearing).trans e1.symm)) z)
  exact W.widen (by omega) (by omega) (K _ _ _ _ h (hLI.tb (by omega)))
set_option maxHeartbeats 4000000 in
set_option maxRecDepth 100000 in
theorem lc_surface (hLX : LX p s m meth c0 b L xs g) (h : Hv g s H locs n c) (hLI : LI g tb n c) (hl : lv_has ls 4 [(3, .int (nI I)), (2, .ref (gz g + 352)), (1, .ref (gz g + 0)), (0, .ref b)]) (hI6 : I + 6 ≤ L) (htb : tb ≤ 800000000) (hcl : cells + 22 ≤ 600000) (hsl : slots + 88 ≤ 7302249) (K : LK p l e s m below meth c0 b g (cells + 22) (slots + 88) ls (tb + 720)) : W p l e room_1 s m #[Value.ref b] below meth c0 H locs cells slots (lw_Z below #[Value.ref b] s) (F0 m 984 ls []) := by
  obtain ⟨F, hX, hbl, hbA, hL⟩ := hLX
  have hx := F.1
  have hb := F.2.1
  obtain ⟨hn, lh, T, rs, R, r, hq, hh, S, sl, zk, tx, wd, nu, scr, oa, ct, pl, pl2, fa, od, hC, hM, hp⟩ := id hLI
  obtain ⟨C0, CB, CH, CS, CZ, CO, CT, CW, CN⟩ := id hC
  obtain ⟨M0, M1, M2, M3, M4, M5, M6, M7⟩ := id hM
  obtain ⟨l5, l7, ⟨sc, cn, hI, hR⟩, l2, l3⟩ := id hp
  have hW : WB R := hI.wb hR
  have c5 := hI.1.2.1
  have s5 := hI.1.2.2.2
  have hcn : R 3 = nI cn := (hR.lo (by decide)).trans hI.1.1
  have hsc : R 4 = nI sc := (hR.lo (by decide)).trans hI.1.2.2.1
  refine lv_aload_n hx hb dL_law_984 rfl (lv_at hl 2 rfl) ?_
  refine lv_aload_n hx hb dL_law_985 rfl (lv_at hl 3 rfl) ?_
  refine lv_iload_n hx hb dL_law_986 rfl (lv_at hl 0 rfl) ?_
  refine lv_iconst (v := 1) hx hb dL_law_987 (by decide) ?_
  refine lv_iadd hx hb dL_law_988 ?_
  refine r_sld hx hb hX hbl hbA h.2 (I := I) (j := 1) (nI_add I 1) (by omega) (by omega) dL_law_989 ?_
  refine u_i (ru_V (As := [.int (xs (I + 1))]) (rest := []) F h C0 rfl (k_X7_surface l g n c lh 0 rs C0 R CB  (xs (I + 1)) ) (gV lwG_in wd_798 wd_799 wd_800 wd_51 wd_801) rfl 1 (by decide +kernel) rfl ⟨Nat.le_of_ble_eq_true rfl, Nat.le_of_ble_eq_true rfl⟩ rfl hl.1 (Nat.le_of_ble_eq_true rfl) ⟨by show cells + 0 ≤ 600000; omega, by show slots + 0 ≤ 7302249; omega⟩ dL_law_990) h (fun r1 n1 c1 H locs hp1 h => ?_)
  obtain ⟨q1, q2, q3⟩ := hp1
  rw [q2, q3] at h
  refine lv_aload_n hx hb dL_law_993 rfl (lv_at hl 1 rfl) ?_
  refine lv_aload_n hx hb dL_law_994 rfl (lv_at hl 3 rfl) ?_
  refine lv_iload_n hx hb dL_law_995 rfl (lv_at hl 0 rfl) ?_
  refine lv_iconst (v := 1) hx hb dL_law_996 (by decide) ?_
  refine lv_iadd hx hb dL_law_997 ?_
  refine r_sld hx hb hX hbl hbA h.2 (I := I) (j := 1) (nI_add I 1) (by omega) (by omega) dL_law_998 ?_
  refine u_i (ru_V (As := [.int (xs (I + 1))]) (rest := [.int r1]) F h M0 rfl (k_X8_surface l g n c 352 (nI lh) rs (nI T) pl2 fa od M0 r M1 (xs (I + 1)) ) (gV lwG_in wd_1044 wd_1045 wd_1046 wd_58 wd_1047) rfl 1 (by decide +kernel) rfl ⟨Nat.le_of_ble_eq_true rfl, Nat.le_of_ble_eq_true rfl⟩ rfl hl.1 (Nat.le_of_ble_eq_true rfl) ⟨by show cells + 0 + 0 ≤ 600000; omega, by show slots + 0 + 0 ≤ 7302249; omega⟩ dL_law_999) h (fun r2 n2 c2 H locs hp2 h => ?_)
  obtain ⟨e1, e2, e3⟩ := hp2
  rw [e2, e3] at h
  refine lv_icmp_eq (tgt := 1063) hx hb dL_law_1002 (by decide) (fun _ => ?_) (fun z => absurd (q1.trans ((rd_surface hI hR).trans e1.symm)) z)
  exact W.widen (by omega) (by omega) (K _ _ _ _ h (hLI.tb (by omega)))
set_option maxHeartbeats 4000000 in
set_option maxRecDepth 100000 in
theorem lc_given (hLX : LX p s m meth c0 b L xs g) (h : Hv g s H locs n c) (hLI : LI g tb n c) (hl : lv_has ls 4 [(3, .int (nI I)), (2, .ref (gz g + 352)), (1, .ref (gz g + 0)), (0, .ref b)]) (hI6 : I + 6 ≤ L) (htb : tb ≤ 800000000) (hcl : cells + 22 ≤ 600000) (hsl : slots + 88 ≤ 7302249) (K : LK p l e s m below meth c0 b g (cells + 22) (slots + 88) ls (tb + 720)) : W p l e room_1 s m #[Value.ref b] below meth c0 H locs cells slots (lw_Z below #[Value.ref b] s) (F0 m 1007 ls []) := by
  obtain ⟨F, hX, hbl, hbA, hL⟩ := hLX
  have hx := F.1
  have hb := F.2.1
  obtain ⟨hn, lh, T, rs, R, r, hq, hh, S, sl, zk, tx, wd, nu, scr, oa, ct, pl, pl2, fa, od, hC, hM, hp⟩ := id hLI
  obtain ⟨C0, CB, CH, CS, CZ, CO, CT, CW, CN⟩ := id hC
  obtain ⟨M0, M1, M2, M3, M4, M5, M6, M7⟩ := id hM
  obtain ⟨l5, l7, ⟨sc, cn, hI, hR⟩, l2, l3⟩ := id hp
  have hW : WB R := hI.wb hR
  have c5 := hI.1.2.1
  have s5 := hI.1.2.2.2
  have hcn : R 3 = nI cn := (hR.lo (by decide)).trans hI.1.1
  have hsc : R 4 = nI sc := (hR.lo (by decide)).trans hI.1.2.2.1
  refine lv_aload_n hx hb dL_law_1007 rfl (lv_at hl 2 rfl) ?_
  refine lv_aload_n hx hb dL_law_1008 rfl (lv_at hl 3 rfl) ?_
  refine lv_iload_n hx hb dL_law_1009 rfl (lv_at hl 0 rfl) ?_
  refine lv_iconst (v := 1) hx hb dL_law_1010 (by decide) ?_
  refine lv_iadd hx hb dL_law_1011 ?_
  refine r_sld hx hb hX hbl hbA h.2 (I := I) (j := 1) (nI_add I 1) (by omega) (by omega) dL_law_1012 ?_
  refine lv_aload_n hx hb dL_law_1013 rfl (lv_at hl 3 rfl) ?_
  refine lv_iload_n hx hb dL_law_1014 rfl (lv_at hl 0 rfl) ?_
  refine lv_iconst (v := 2) hx hb dL_law_1015 (by decide) ?_
  refine lv_iadd hx hb dL_law_1016 ?_
  refine r_sld hx hb hX hbl hbA h.2 (I := I) (j := 2) (nI_add I 2) (by omega) (by omega) dL_law_1017 ?_
  refine u_i (ru_V (As := [.int (xs (I + 1)), .int (xs (I + 2))]) (rest := []) F h C0 rfl (k_X7_given l g n c lh 0 rs C0 R CB  (xs (I + 1)) (xs (I + 2)) sc hsc s5) (gV lwG_in wd_805 wd_806 wd_807 wd_51 wd_808) rfl 2 (by decide +kernel) rfl ⟨Nat.le_of_ble_eq_true rfl, Nat.le_of_ble_eq_true rfl⟩ rfl hl.1 (Nat.le_of_ble_eq_true rfl) ⟨by show cells + 0 ≤ 600000; omega, by show slots + 0 ≤ 7302249; omega⟩ dL_law_1018) h (fun r1 n1 c1 H locs hp1 h => ?_)
  obtain ⟨q1, q2, q3⟩ := hp1
  rw [q2, q3] at h
  refine lv_aload_n hx hb dL_law_1021 rfl (lv_at hl 1 rfl) ?_
  refine lv_aload_n hx hb dL_law_1022 rfl (lv_at hl 3 rfl) ?_
  refine lv_iload_n hx hb dL_law_1023 rfl (lv_at hl 0 rfl) ?_
  refine lv_iconst (v := 1) hx hb dL_law_1024 (by decide) ?_
  refine lv_iadd hx hb dL_law_1025 ?_
  refine r_sld hx hb hX hbl hbA h.2 (I := I) (j := 1) (nI_add I 1) (by omega) (by omega) dL_law_1026 ?_
  refine lv_aload_n hx hb dL_law_1027 rfl (lv_at hl 3 rfl) ?_
  refine lv_iload_n hx hb dL_law_1028 rfl (lv_at hl 0 rfl) ?_
  refine lv_iconst (v := 2) hx hb dL_law_1029 (by decide) ?_
  refine lv_iadd hx hb dL_law_1030 ?_
  refine r_sld hx hb hX hbl hbA h.2 (I := I) (j := 2) (nI_add I 2) (by omega) (by omega) dL_law_1031 ?_
  refine u_i (ru_V (As := [.int (xs (I + 1)), .int (xs (I + 2))]) (rest := [.int r1]) F h M0 rfl (k_X8_given l g n c 352 (nI lh) rs (nI T) pl2 fa od M0 r M1 (xs (I + 1)) (xs (I + 2)) sc hI.1.2.2.1 s5) (gV lwG_in wd_1056 wd_1057 wd_1058 wd_58 wd_1059) rfl 2 (by decide +kernel) rfl ⟨Nat.le_of_ble_eq_true rfl, Nat.le_of_ble_eq_true rfl⟩ rfl hl.1 (Nat.le_of_ble_eq_true rfl) ⟨by show cells + 0 + 0 ≤ 600000; omega, by show slots + 0 + 0 ≤ 7302249; omega⟩ dL_law_1032) h (fun r2 n2 c2 H locs hp2 h => ?_)
  obtain ⟨e1, e2, e3⟩ := hp2
  rw [e2, e3] at h
  refine lv_icmp_eq (tgt := 1063) hx hb dL_law_1035 (by decide) (fun _ => ?_) (fun z => absurd (q1.trans ((rd_given hI hR).trans e1.symm)) z)
  exact W.widen (by omega) (by omega) (K _ _ _ _ h (hLI.tb (by omega)))
set_option maxHeartbeats 4000000 in
set_option maxRecDepth 100000 in
theorem lc_count (hLX : LX p s m meth c0 b L xs g) (h : Hv g s H locs n c) (hLI : LI g tb n c) (hl : lv_has ls 4 [(3, .int (nI I)), (2, .ref (gz g + 352)), (1, .ref (gz g + 0)), (0, .ref b)]) (hI6 : I + 6 ≤ L) (htb : tb ≤ 800000000) (hcl : cells + 22 ≤ 600000) (hsl : slots + 88 ≤ 7302249) (K : LK p l e s m below meth c0 b g (cells + 22) (slots + 88) ls (tb + 720)) : W p l e room_1 s m #[Value.ref b] below meth c0 H locs cells slots (lw_Z below #[Value.ref b] s) (F0 m 1040 ls []) := by
  obtain ⟨F, hX, hbl, hbA, hL⟩ := hLX
  have hx := F.1
  have hb := F.2.1
  obtain ⟨hn, lh, T, rs, R, r, hq, hh, S, sl, zk, tx, wd, nu, scr, oa, ct, pl, pl2, fa, od, hC, hM, hp⟩ := id hLI
  obtain ⟨C0, CB, CH, CS, CZ, CO, CT, CW, CN⟩ := id hC
  obtain ⟨M0, M1, M2, M3, M4, M5, M6, M7⟩ := id hM
  obtain ⟨l5, l7, ⟨sc, cn, hI, hR⟩, l2, l3⟩ := id hp
  have hW : WB R := hI.wb hR
  have c5 := hI.1.2.1
  have s5 := hI.1.2.2.2
  have hcn : R 3 = nI cn := (hR.lo (by decide)).trans hI.1.1
  have hsc : R 4 = nI sc := (hR.lo (by decide)).trans hI.1.2.2.1
  refine lv_aload_n hx hb dL_law_1040 rfl (lv_at hl 2 rfl) ?_
  refine lv_aload_n hx hb dL_law_1041 rfl (lv_at hl 3 rfl) ?_
  refine lv_iload_n hx hb dL_law_1042 rfl (lv_at hl 0 rfl) ?_
  refine lv_iconst (v := 1) hx hb dL_law_1043 (by decide) ?_
  refine lv_iadd hx hb dL_law_1044 ?_
  refine r_sld hx hb hX hbl hbA h.2 (I := I) (j := 1) (nI_add I 1) (by omega) (by omega) dL_law_1045 ?_
  refine u_i (ru_V (As := [.int (xs (I + 1))]) (rest := []) F h C0 rfl (k_X7_count l g n c lh 0 rs C0 R CB T l7 ct pl CO (xs (I + 1)) sc hsc s5) (gV lwG_in wd_809 wd_810 wd_811 wd_51 wd_812) rfl 1 (by decide +kernel) rfl ⟨Nat.le_of_ble_eq_true rfl, Nat.le_of_ble_eq_true rfl⟩ rfl hl.1 (Nat.le_of_ble_eq_true rfl) ⟨by show cells + 0 ≤ 600000; omega, by show slots + 0 ≤ 7302249; omega⟩ dL_law_1046) h (fun r1 n1 c1 H locs hp1 h => ?_)
  obtain ⟨q1, q2, q3⟩ := hp1
  rw [q2, q3] at h
  refine lv_aload_n hx hb dL_law_1049 rfl (lv_at hl 1 rfl) ?_
  refine lv_aload_n hx hb dL_law_1050 rfl (lv_at hl 3 rfl) ?_
  refine lv_iload_n hx hb dL_law_1051 rfl (lv_at hl 0 rfl) ?_
  refine lv_iconst (v := 1) hx hb dL_law_1052 (by decide) ?_
  refine lv_iadd hx hb dL_law_1053 ?_
  refine r_sld hx hb hX hbl hbA h.2 (I := I) (j := 1) (nI_add I 1) (by omega) (by omega) dL_law_1054 ?_
  refine u_i (ru_V (As := [.int (xs (I + 1))]) (rest := [.int r1]) F h M0 rfl (k_X8_count l g n c 352 (nI lh) rs (nI T) pl2 fa od M0 r M1 (xs (I + 1)) sc hI.1.2.2.1 s5) (gV lwG_in wd_1157 wd_1158 wd_1159 wd_58 wd_1160) rfl 1 (by decide +kernel) rfl ⟨Nat.le_of_ble_eq_true rfl, Nat.le_of_ble_eq_true rfl⟩ rfl hl.1 (Nat.le_of_ble_eq_true rfl) ⟨by show cells + 0 + 0 ≤ 600000; omega, by show slots + 0 + 0 ≤ 7302249; omega⟩ dL_law_1055) h (fun r2 n2 c2 H locs hp2 h => ?_)
  obtain ⟨e1, e2, e3⟩ := hp2
  rw [e2, e3] at h
  refine lv_icmp_eq (tgt := 1063) hx hb dL_law_1058 (by decide) (fun _ => ?_) (fun z => absurd (q1.trans ((rd_count hI hR).trans e1.symm)) z)
  exact W.widen (by omega) (by omega) (K _ _ _ _ h (hLI.tb (by omega)))
end LC
