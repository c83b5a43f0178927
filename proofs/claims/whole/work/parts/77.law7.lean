/-! The law, call by call: orders. -/
section LC
variable {p : Program} {l : Launch} {e : Env} {s : State} {m : MethodId} {below : List Frame} {meth : Method} {c0 : Code} {b L : Nat} {xs : Nat → Int32} {g : Gf} {I tb n : Nat} {c : Mp} {H : Heap} {locs : List Loc} {cells slots : Nat} {ls : Array Slot}
set_option maxHeartbeats 4000000 in
set_option maxRecDepth 100000 in
theorem lc_runOrders (hLX : LX p s m meth c0 b L xs g) (h : Hv g s H locs n c) (hLI : LI g tb n c) (hl : lv_has ls 4 [(3, .int (nI I)), (2, .ref (gz g + 352)), (1, .ref (gz g + 0)), (0, .ref b)]) (hI6 : I + 6 ≤ L) (htb : tb ≤ 800000000) (hcl : cells + 22 ≤ 600000) (hsl : slots + 88 ≤ 7302249) (K : LK p l e s m below meth c0 b g (cells + 22) (slots + 88) ls (tb + 720)) : W p l e room_1 s m #[Value.ref b] below meth c0 H locs cells slots (lw_Z below #[Value.ref b] s) (F0 m 651 ls []) := by
  obtain ⟨F, hX, hbl, hbA, hL⟩ := hLX
  have hx := F.1
  have hb := F.2.1
  obtain ⟨hn, lh, T, rs, R, r, hq, hh, S, sl, zk, tx, wd, nu, scr, oa, ct, pl, pl2, fa, od, hC, hM, hp⟩ := id hLI
  obtain ⟨C0, CB, CH, CS, CZ, CO, CT, CW, CN⟩ := id hC
  obtain ⟨M0, M1, M2, M3, M4, M5, M6, M7⟩ := id hM
  obtain ⟨l5, l7, ⟨sc, cn, hI, hR⟩, l2, l3⟩ := id hp
  have hW : WB R := hI.wb hR
  have c5 := hI.1.2.1
  have s5 := hI.1.2.2.2
  have hcn : R 3 = nI cn := (hR.lo (by decide)).trans hI.1.1
  have hsc : R 4 = nI sc := (hR.lo (by decide)).trans hI.1.2.2.1
  have K11 : (rcA tx T wd nu).2.2.2.1 ≤ 11 := rcL_K tx T 11 0 0 wd nu
  rcases (pe_all (tx := tx) l7 wd nu oa).symm with ⟨Q, z1, z2, z3⟩ | ⟨z1, z2, z3, z4⟩
  · have hf1 : ¬ (rcA tx T wd nu).1 = -1 := fun z => by
      rw [z2, i_eq, nI_toInt (by omega)] at z
      have z : (Q : Int) = -1 := z
      omega
    have hf2 : ¬ (rdA tx T oa).2.1 < 0 := by rw [z3]; exact nI_pos (by omega)
    refine lv_aload_n hx hb dL_law_651 rfl (lv_at hl 2 rfl) ?_
    refine u_i (ru_V (As := []) (rest := []) F h C0 rfl (k_X7_runOrders_f l g n c lh rs C0 R CB T l7 ct pl CO tx CT wd CW nu CN hf1) (gV lwG_in wd_616 wd_617 wd_618 wd_51 wd_619) rfl 0 (by decide +kernel) rfl ⟨Nat.le_of_ble_eq_true rfl, Nat.le_of_ble_eq_true rfl⟩ rfl hl.1 (Nat.le_of_ble_eq_true rfl) ⟨by show cells + 0 ≤ 600000; omega, by show slots + 0 ≤ 7302249; omega⟩ dL_law_652) h (fun r1 n1 c1 H locs hp1 h => ?_)
    obtain ⟨q1, q2, q3⟩ := hp1
    rw [q2, q3] at h
    refine lv_aload_n hx hb dL_law_655 rfl (lv_at hl 1 rfl) ?_
    refine u_i (ru_V (As := []) (rest := [.int r1]) F h ((mu_ne (by decide) _).trans ((mu_ne (by decide) _).trans ((mu_ne (by decide) _).trans M0))) rfl (k_X8_runOrders_f l g n _ 352 lh l5 rs T l7 pl2 fa od ((mu_ne (by decide) _).trans ((mu_ne (by decide) _).trans ((mu_ne (by decide) _).trans M0))) r ((mu_ne (by decide) _).trans ((mu_ne (by decide) _).trans ((mu_ne (by decide) _).trans M1))) scr ((mu_ne (by decide) _).trans ((mu_ne (by decide) _).trans ((mu_ne (by decide) _).trans M2))) hh ((mu_ne (by decide) _).trans ((mu_ne (by decide) _).trans ((mu_ne (by decide) _).trans M3))) tx ((mu_ne (by decide) _).trans ((mu_ne (by decide) _).trans ((mu_ne (by decide) _).trans M6))) oa ((mu_ne (by decide) _).trans ((mu_ne (by decide) _).trans ((mu_ne (by decide) _).trans M7))) sc cn s5 c5 hI.ri hf2) (gV lwG_in wd_1093 wd_1094 wd_1095 wd_58 wd_1096) rfl 0 (by decide +kernel) rfl ⟨Nat.le_of_ble_eq_true rfl, Nat.le_of_ble_eq_true rfl⟩ rfl hl.1 (Nat.le_of_ble_eq_true rfl) ⟨by show cells + 0 + 0 ≤ 600000; omega, by show slots + 0 + 0 ≤ 7302249; omega⟩ dL_law_656) h (fun r2 n2 c2 H locs hp2 h => ?_)
    obtain ⟨e1, e2, e3⟩ := hp2
    have st := st_runf hn hC hM hp (show tb ≤ tb + 720 by omega) e3
    rw [e2] at h
    refine lv_icmp_eq (tgt := 1063) hx hb dL_law_659 (by decide) (fun _ => ?_) (fun z => absurd (q1.trans ((show -100 - (rcA tx T wd nu).1 = -100 - (rdA tx T oa).2.1 by rw [z2, z3]).trans e1.symm)) z)
    exact W.widen (by omega) (by omega) (K _ _ _ _ h (st))
  have hQs : ∀ (k : Nat) (R1 : Nat → Int32) (rs1 : Int32), k < (rcA tx T wd nu).2.2.2.1 → (∃ r1 : Nat → Int32, Iv r1 sc cn (tb + 60 * k) ∧ RelR sc R1 r1) → ∃ r1 : Nat → Int32, Iv r1 sc cn (tb + 60 * (k + 1)) ∧ RelR sc (sq_X7_carryOut (rmL 0 lh) 1 rs1 R1 (rmQ 0 lh hq R) (rcA tx T wd nu).2.1 (rcA tx T wd nu).2.2.1 k sc cn).2.2.1 r1 := by
    intro k R1 rs1 hk hQ
    obtain ⟨r1, i1, q1⟩ := hQ
    have d := car_e (lh := rmL 0 lh) (hq := rmQ 0 lh hq R) (ru := 1) (rs := rs1) i1 q1 (by omega) (z4 k hk)
    have kp := kp_carry r1 rs1 (rdA tx T oa).2.2.2 k sc cn
    obtain ⟨i2, q2⟩ := d.2.2.1.fix (kp.1.trans i1.1.1) (kp.2.1.trans i1.1.2.2.1) c5 s5
    exact ⟨_, i2.tb (by omega), q2⟩
  have hQc : ∀ (k : Nat) (R1 : Nat → Int32), (∃ r1 : Nat → Int32, Iv r1 sc cn (tb + 60 * k) ∧ RelR sc R1 r1) → WB R1 ∧ R1 4 = nI sc ∧ R1 3 = nI cn := by
    intro k R1 hQ
    obtain ⟨r1, i1, q1⟩ := hQ
    exact ⟨i1.wb q1, (q1.lo (by decide)).trans i1.1.2.2.1, (q1.lo (by decide)).trans i1.1.1⟩
  refine lv_aload_n hx hb dL_law_651 rfl (lv_at hl 2 rfl) ?_
  refine u_i (ru_V (As := []) (rest := []) F h C0 rfl (k_X7_runOrders_s l g n c lh rs C0 R CB l5 hq CH hW T l7 ct pl CO tx CT wd CW nu CN z1 sc cn s5 c5 (by omega) (fun k R1 => ∃ r1 : Nat → Int32, Iv r1 sc cn (tb + 60 * k) ∧ RelR sc R1 r1) ⟨r, hI, hR⟩ hQs hQc) (gV lwG_in wd_616 wd_617 wd_618 wd_51 wd_619) rfl 0 (by decide +kernel) rfl ⟨Nat.le_of_ble_eq_true rfl, Nat.le_of_ble_eq_true rfl⟩ rfl hl.1 (Nat.le_of_ble_eq_true rfl) ⟨by show cells + 22 ≤ 600000; omega, by show slots + 88 ≤ 7302249; omega⟩ dL_law_652) h (fun r1 n1 c1 H locs hp1 h => ?_)
  obtain ⟨q1, q2, q3, qB, qH, qO, qT, qW, qN, qF⟩ := hp1
  refine lv_aload_n hx hb dL_law_655 rfl (lv_at hl 1 rfl) ?_
  refine u_i (ru_V (As := []) (rest := [.int r1]) F h ((qF 352 (Or.inr ⟨by decide, by omega⟩)).trans M0) rfl (k_X8_runOrders_s l g n1 c1 352 lh l5 rs T l7 pl2 fa od ((qF 352 (Or.inr ⟨by decide, by omega⟩)).trans M0) r ((qF _ (Or.inr ⟨by decide, by omega⟩)).trans M1) scr ((qF _ (Or.inr ⟨by decide, by omega⟩)).trans M2) hh ((qF _ (Or.inr ⟨by decide, by omega⟩)).trans M3) tx ((qF _ (Or.inr ⟨by decide, by omega⟩)).trans M6) oa ((qF _ (Or.inr ⟨by decide, by omega⟩)).trans M7) sc cn s5 c5 hI.ri z2) (gV lwG_in wd_1093 wd_1094 wd_1095 wd_58 wd_1096) rfl 0 (by decide +kernel) rfl ⟨Nat.le_of_ble_eq_true rfl, Nat.le_of_ble_eq_true rfl⟩ rfl hl.1 (Nat.le_of_ble_eq_true rfl) ⟨by show cells + 22 + 0 ≤ 600000; omega, by show slots + 88 + 0 ≤ 7302249; omega⟩ dL_law_656) h (fun r2 n2 c2 H locs hp2 h => ?_)
  obtain ⟨e1, e2, e3⟩ := hp2
  have co := co_e (lh := rmL 0 lh) (hq := rmQ 0 lh hq R) z4 ((rcA tx T wd nu).2.2.2.1 + 1) 0 R r rs tb (by omega) hI hR
  rw [← z3] at e1 e3
  obtain ⟨o1, o2, o3, o4⟩ := co
  have o2 : (ccA (rmL 0 lh) (rmQ 0 lh hq R) (rcA tx T wd nu).2.1 (rcA tx T wd nu).2.2.1 (rcA tx T wd nu).2.2.2.1 sc cn R rs).2.2 = (coA (rdA tx T oa).2.2.2 (rcA tx T wd nu).2.2.2.1 sc cn r rs).2.2 := o2
  rw [o2] at q3
  have st := st_runs hn hC hM hp (show tb ≤ tb + 720 by omega) (⟨sc, cn, o3.tb (by omega), o4⟩) q1 q3 qB qH qO qT qW qN qF e3
  rw [e2] at h
  refine lv_icmp_eq (tgt := 1063) hx hb dL_law_659 (by decide) (fun _ => ?_) (fun z => absurd (q2.trans ((congrArg nI o1).trans e1.symm)) z)
  exact W.widen (by omega) (by omega) (K _ _ _ _ h (st))
end LC
