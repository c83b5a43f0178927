/-! The class: the orders of a text. -/
theorem rmL_le {ru : Int32} {lh : Nat} (h : lh ≤ 5) : rmL ru lh ≤ 5 := by
  unfold rmL
  repeat' split
  all_goals omega
theorem rcL_K (tx : Nat → Int32) (T : Nat) : ∀ (f P K : Nat) (wd nu : Nat → Int32), (rcL tx T f P K wd nu).2.2.2.1 ≤ K + f
  | 0, P, K, wd, nu => Nat.le_refl _
  | f + 1, P, K, wd, nu => by
    unfold rcL
    have ih := rcL_K tx T f ((roC tx T P K wd nu).2.2.2 + 1) (K + 1) (roC tx T P K wd nu).2.1 (roC tx T P K wd nu).2.2.1
    repeat' split
    all_goals (try dsimp only)
    all_goals omega
set_option maxHeartbeats 4000000 in
set_option maxRecDepth 100000 in
theorem k_X7_runOrders_f (l : Launch) (g : Gf) (n : Nat) (c : Mp) (lh : Nat) (rs : Int32) (hP : c 0 = plC g (nI lh) 0 rs) (R : Nat → Int32) (hB : Bk g c 1 R) (T : Nat) (hT7 : T ≤ 70) (ct pl : Int32) (hO : c 348 = otC g (nI T) ct pl) (tx : Nat → Int32) (hOt : c 349 = some (.inl (g.2.1 2, 70, .inl tx))) (wd0 : Nat → Int32) (hOw : c 350 = iaA (g.2.1 0) 11 wd0) (nu0 : Nat → Int32) (hOn : c 351 = iaA (g.2.1 0) 33 nu0) (hfau : ¬ (rcA tx T wd0 nu0).1 = -1) : Ct l g yX7_runOrders wsX7_runOrders 8 174 0 0 [.ref (gz g + 0)] n c (Qi g (fun x n' c' => x = -100 - (rcA tx T wd0 nu0).1 ∧ n' = n ∧ c' = va_up (va_up (va_up c 348 (otC g (nI T) (nI (rcA tx T wd0 nu0).2.2.2.1) (nI (rcA tx T wd0 nu0).2.2.2.2))) 350 (iaA (g.2.1 0) 11 (rcA tx T wd0 nu0).2.1)) 351 (iaA (g.2.1 0) 33 (rcA tx T wd0 nu0).2.2.1))) := by
  refine ent (by decide) rfl (Nat.le_of_ble_eq_true rfl) ?_
  intro p e s m args below meth c0 F h ls hl
  have hx := F.1
  have hb := F.2.1
  have hl : lv_has ls 3 [(0, .ref (gz g + 0))] := hl
  refine lv_aload_n hx hb dX7_runOrders_0 rfl (lv_at hl 0 rfl) ?_
  refine r_get F h (C := RX7) (T := TX7) (N := 8) (hjc hi_X7) rfl hP 5 (by decide) (List.mem_cons_of_mem _ wd_295) rfl dX7_runOrders_1 ?_
  refine u_i (ru_V (As := []) (rest := []) F h hO rfl (k_X2_readOrders l g n c T hT7 ct pl hO tx hOt wd0 hOw nu0 hOn) (gV hjl wd_620 wd_621 wd_622 wd_57 wd_623) rfl 0 (by decide +kernel) rfl ⟨Nat.le_of_ble_eq_true rfl, Nat.le_of_ble_eq_true rfl⟩ rfl hl.1 (Nat.le_of_ble_eq_true rfl) ⟨Nat.zero_le _, Nat.zero_le _⟩ dX7_runOrders_4) h (fun r1 n1 c1 H locs hp h => ?_)
  obtain ⟨hn1, hr1, hc1⟩ := hp
  rw [hn1, hc1] at h
  rw [hr1]
  refine lv_istore_n (lv' := [(1, .int ((rcA tx T wd0 nu0).1)), (0, .ref (gz g + 0))]) hx hb dX7_runOrders_7 rfl hl (by decide) rfl (fun ls hl => ?_)
  refine lv_iload_n hx hb dX7_runOrders_8 rfl (lv_at hl 0 rfl) ?_
  refine lv_iconst (v := (-1)) hx hb dX7_runOrders_9 (by decide) ?_
  refine lv_icmp_eq (tgt := 18) hx hb dX7_runOrders_10 (by decide) (fun b_10 => by first | exact absurd b_10 (hfau) | exact absurd (hfau) b_10) (fun b_10 => ?_)
  refine lv_bipush (v := (-100)) hx hb dX7_runOrders_13 (by decide) ?_
  refine lv_iload_n hx hb dX7_runOrders_15 rfl (lv_at hl 0 rfl) ?_
  refine lv_isub hx hb dX7_runOrders_16 ?_
  exact ret_i F h (Nat.zero_le _) (Nat.zero_le _) dX7_runOrders_17 (⟨rfl, rfl, rfl⟩)
set_option maxHeartbeats 4000000 in
set_option maxRecDepth 100000 in
theorem k_X7_runOrders_s (l : Launch) (g : Gf) (n : Nat) (c : Mp) (lh : Nat) (rs : Int32) (hP : c 0 = plC g (nI lh) 0 rs) (R : Nat → Int32) (hB : Bk g c 1 R) (hk5 : lh ≤ 5) (hq : Nat → Nat → Int32) (hH : Hx g c hq) (hW : WB R) (T : Nat) (hT7 : T ≤ 70) (ct pl : Int32) (hO : c 348 = otC g (nI T) ct pl) (tx : Nat → Int32) (hOt : c 349 = some (.inl (g.2.1 2, 70, .inl tx))) (wd0 : Nat → Int32) (hOw : c 350 = iaA (g.2.1 0) 11 wd0) (nu0 : Nat → Int32) (hOn : c 351 = iaA (g.2.1 0) 33 nu0) (hfau : (rcA tx T wd0 nu0).1 = -1) (sc cn : Nat) (h5 : sc ≤ 5) (h5c : cn ≤ 5) (hn352 : 352 ≤ n) (Q : Nat → (Nat → Int32) → Prop) (hQ0 : Q 0 R) (hQs : ∀ (k : Nat) (R1 : Nat → Int32) (rs1 : Int32), k < (rcA tx T wd0 nu0).2.2.2.1 → Q k R1 → Q (k + 1) (sq_X7_carryOut (rmL 0 lh) 1 rs1 R1 (rmQ 0 lh hq R) (rcA tx T wd0 nu0).2.1 (rcA tx T wd0 nu0).2.2.1 k sc cn).2.2.1) (hQc : ∀ (k : Nat) (R1 : Nat → Int32), Q k R1 → WB R1 ∧ R1 4 = nI sc ∧ R1 3 = nI cn) : Ct l g yX7_runOrders wsX7_runOrders 8 174 22 88 [.ref (gz g + 0)] n c (Qi g (fun x n' c' => n ≤ n' ∧ x = nI (ccA (rmL 0 lh) (rmQ 0 lh hq R) (rcA tx T wd0 nu0).2.1 (rcA tx T wd0 nu0).2.2.1 (rcA tx T wd0 nu0).2.2.2.1 sc cn R rs).1 ∧ c' 0 = plC g (nI (rmL 0 lh)) 0 (ccA (rmL 0 lh) (rmQ 0 lh hq R) (rcA tx T wd0 nu0).2.1 (rcA tx T wd0 nu0).2.2.1 (rcA tx T wd0 nu0).2.2.2.1 sc cn R rs).2.2 ∧ Bk g c' 1 (ccA (rmL 0 lh) (rmQ 0 lh hq R) (rcA tx T wd0 nu0).2.1 (rcA tx T wd0 nu0).2.2.1 (rcA tx T wd0 nu0).2.2.2.1 sc cn R rs).2.1 ∧ Hx g c' (rmQ 0 lh hq R) ∧ c' 348 = otC g (nI T) (nI ((rcA tx T wd0 nu0).2.2.2.1)) (nI ((rcA tx T wd0 nu0).2.2.2.2)) ∧ c' 349 = some (.inl (g.2.1 2, 70, .inl tx)) ∧ c' 350 = iaA (g.2.1 0) 11 ((rcA tx T wd0 nu0).2.1) ∧ c' 351 = iaA (g.2.1 0) 33 ((rcA tx T wd0 nu0).2.2.1) ∧ Ft c c' n)) := by
  refine ent (by decide) rfl (Nat.le_of_ble_eq_true rfl) ?_
  intro p e s m args below meth c0 F h ls hl
  have hx := F.1
  have hb := F.2.1
  have hl : lv_has ls 3 [(0, .ref (gz g + 0))] := hl
  have hK11 : (rcA tx T wd0 nu0).2.2.2.1 ≤ 11 := rcL_K tx T 11 0 0 wd0 nu0
  refine lv_aload_n hx hb dX7_runOrders_0 rfl (lv_at hl 0 rfl) ?_
  refine r_get F h (C := RX7) (T := TX7) (N := 8) (hjc hi_X7) rfl hP 5 (by decide) (List.mem_cons_of_mem _ wd_295) rfl dX7_runOrders_1 ?_
  refine u_i (ru_V (As := []) (rest := []) F h hO rfl (k_X2_readOrders l g n c T hT7 ct pl hO tx hOt wd0 hOw nu0 hOn) (gV hjl wd_620 wd_621 wd_622 wd_57 wd_623) rfl 0 (by decide +kernel) rfl ⟨Nat.le_of_ble_eq_true rfl, Nat.le_of_ble_eq_true rfl⟩ rfl hl.1 (Nat.le_of_ble_eq_true rfl) ⟨Nat.zero_le _, Nat.zero_le _⟩ dX7_runOrders_4) h (fun r1 n1 c1 H locs hp h => ?_)
  obtain ⟨hn1, hr1, hc1⟩ := hp
  rw [hn1, hc1] at h
  rw [hr1]
  refine lv_istore_n (lv' := [(1, .int ((rcA tx T wd0 nu0).1)), (0, .ref (gz g + 0))]) hx hb dX7_runOrders_7 rfl hl (by decide) rfl (fun ls hl => ?_)
  refine lv_iload_n hx hb dX7_runOrders_8 rfl (lv_at hl 0 rfl) ?_
  refine lv_iconst (v := (-1)) hx hb dX7_runOrders_9 (by decide) ?_
  refine lv_icmp_eq (tgt := 18) hx hb dX7_runOrders_10 (by decide) (fun b_10 => ?_) (fun b_10 => by first | exact absurd (hfau) b_10 | exact absurd b_10 (hfau))
  refine lv_aload_n hx hb dX7_runOrders_18 rfl (lv_at hl 1 rfl) ?_
  refine u_v (ru_V (As := []) (rest := []) F h ((mu_ne (by decide) _).trans ((mu_ne (by decide) _).trans ((mu_ne (by decide) _).trans hP))) rfl (k_X7_remember l g n (va_up (va_up (va_up c 348 (some (.inr (2, [.ref (gz g + 349), .int (nI T), .ref (gz g + 350), .ref (gz g + 351), .int (nI ((rcA tx T wd0 nu0).2.2.2.1)), .int (nI ((rcA tx T wd0 nu0).2.2.2.2))])))) 350 (some (.inl (g.2.1 0, 11, .inl ((rcA tx T wd0 nu0).2.1))))) 351 (some (.inl (g.2.1 0, 33, .inl ((rcA tx T wd0 nu0).2.2.1))))) lh 0 rs ((mu_ne (by decide) _).trans ((mu_ne (by decide) _).trans ((mu_ne (by decide) _).trans hP))) R (((hB.out (by omega)).out (by omega)).out (by omega)) hk5 hq (((hH.up (by omega)).up (by omega)).up (by omega)) hW) (gV hjl wd_327 wd_329 wd_0 wd_51 wd_330) rfl 0 (by decide +kernel) rfl ⟨Nat.le_of_ble_eq_true rfl, Nat.le_of_ble_eq_true rfl⟩ rfl hl.1 (Nat.le_of_ble_eq_true rfl) ⟨Nat.zero_le _, Nat.zero_le _⟩ dX7_runOrders_19) h (fun n1 cz1 H locs hp h => ?_)
  obtain ⟨hnz1, hPz1, hBz1, hHz1, hFz1⟩ := hp
  rw [hnz1] at h
  refine lv_aload_n hx hb dX7_runOrders_22 rfl (lv_at hl 1 rfl) ?_
  refine lv_iconst (v := 1) hx hb dX7_runOrders_23 (by decide) ?_
  refine r_put F h (C := RX7) (T := TX7) (N := 8) (fs' := [.ref (gz g + 1), .ref (gz g + 44), .int (nI (rmL 0 lh)), .ref (gz g + 260), .ref (gz g + 347), .ref (gz g + 348), .int 1, .int rs]) (hjc hi_X7) tyX7 tyX7_ok nmX7 rfl hPz1 6 (by decide) (List.mem_cons_of_mem _ wd_296) rfl (by decide) (by decide) (Nat.le_of_ble_eq_true rfl) rfl dX7_runOrders_24 (fun H locs h => ?_)
  refine lv_iconst (v := 0) hx hb dX7_runOrders_27 (by decide) ?_
  refine lv_istore_n (lv' := [(2, .int 0), (1, .int ((rcA tx T wd0 nu0).1)), (0, .ref (gz g + 0))]) hx hb dX7_runOrders_28 rfl hl (by decide) rfl (fun ls hl => ?_)
  have lp : ∀ (k : Nat) (k1 n2 : Nat) (c1 : Mp) (R1 : Nat → Int32) (rs1 : Int32) (hk1 : k1 ≤ (rcA tx T wd0 nu0).2.2.2.1) (hn2 : n ≤ n2) (hQ1 : Q k1 R1) (hR : ccL (rmL 0 lh) (rmQ 0 lh hq R) (rcA tx T wd0 nu0).2.1 (rcA tx T wd0 nu0).2.2.1 (rcA tx T wd0 nu0).2.2.2.1 sc cn ((rcA tx T wd0 nu0).2.2.2.1 + 1 - k1) k1 R1 rs1 = (ccA (rmL 0 lh) (rmQ 0 lh hq R) (rcA tx T wd0 nu0).2.1 (rcA tx T wd0 nu0).2.2.1 (rcA tx T wd0 nu0).2.2.2.1 sc cn R rs)) (hP1 : c1 0 = plC g (nI (rmL 0 lh)) 1 rs1) (hB1 : Bk g c1 1 R1) (hH1 : Hx g c1 (rmQ 0 lh hq R)) (hF1 : Ft c c1 n) (hO1 : c1 348 = otC g (nI T) (nI ((rcA tx T wd0 nu0).2.2.2.1)) (nI ((rcA tx T wd0 nu0).2.2.2.2))) (hT1 : c1 349 = some (.inl (g.2.1 2, 70, .inl tx))) (hw1 : c1 350 = iaA (g.2.1 0) 11 ((rcA tx T wd0 nu0).2.1)) (hu1 : c1 351 = iaA (g.2.1 0) 33 ((rcA tx T wd0 nu0).2.2.1)) (H : Heap) (locs : List Loc) (ls : Array Slot), ((rcA tx T wd0 nu0).2.2.2.1 + 1 - k1) ≤ k → Hv g s H locs n2 c1 → lv_has ls 3 [(0, .ref (gz g + 0)), (2, .int (nI k1))] → W p l e (Rm 8 174 22 88) s m args below meth c0 H locs (2 * k1) (8 * k1) (MQ below (Qi g (fun x n' c' => n ≤ n' ∧ x = nI (ccA (rmL 0 lh) (rmQ 0 lh hq R) (rcA tx T wd0 nu0).2.1 (rcA tx T wd0 nu0).2.2.1 (rcA tx T wd0 nu0).2.2.2.1 sc cn R rs).1 ∧ c' 0 = plC g (nI (rmL 0 lh)) 0 (ccA (rmL 0 lh) (rmQ 0 lh hq R) (rcA tx T wd0 nu0).2.1 (rcA tx T wd0 nu0).2.2.1 (rcA tx T wd0 nu0).2.2.2.1 sc cn R rs).2.2 ∧ Bk g c' 1 (ccA (rmL 0 lh) (rmQ 0 lh hq R) (rcA tx T wd0 nu0).2.1 (rcA tx T wd0 nu0).2.2.1 (rcA tx T wd0 nu0).2.2.2.1 sc cn R rs).2.1 ∧ Hx g c' (rmQ 0 lh hq R) ∧ c' 348 = otC g (nI T) (nI ((rcA tx T wd0 nu0).2.2.2.1)) (nI ((rcA tx T wd0 nu0).2.2.2.2)) ∧ c' 349 = some (.inl (g.2.1 2, 70, .inl tx)) ∧ c' 350 = iaA (g.2.1 0) 11 ((rcA tx T wd0 nu0).2.1) ∧ c' 351 = iaA (g.2.1 0) 33 ((rcA tx T wd0 nu0).2.2.1) ∧ Ft c c' n)) args s 22 88 (mAf g)) (F0 m 29 ls []) := by
    intro k
    induction k with
    | zero => intro k1 n2 c1 R1 rs1 hk1 hn2 hQ1 hR hP1 hB1 hH1 hF1 hO1 hT1 hw1 hu1 H locs ls hk h hl; exact absurd hk (by omega)
    | succ k ih =>
      intro k1 n2 c1 R1 rs1 hk1 hn2 hQ1 hR hP1 hB1 hH1 hF1 hO1 hT1 hw1 hu1 H locs ls hk h hl
      refine lv_iload_n hx hb dX7_runOrders_29 rfl (lv_at hl 1 rfl) ?_
      refine lv_aload_n hx hb dX7_runOrders_30 rfl (lv_at hl 0 rfl) ?_
      refine r_get F h (C := RX7) (T := TX7) (N := 8) (hjc hi_X7) rfl hP1 5 (by decide) (List.mem_cons_of_mem _ wd_295) rfl dX7_runOrders_31 ?_
      refine r_get F h (C := RX2) (T := TX2) (N := 6) (hjc hi_X2) rfl hO1 4 (by decide) (List.mem_cons_of_mem _ wd_272) rfl dX7_runOrders_34 ?_
      refine lv_icmp_ge (tgt := 54) hx hb dX7_runOrders_37 (by decide) (fun b_37 => ?_) (fun b_37 => ?_)
      · skip
        have hE : (ccA (rmL 0 lh) (rmQ 0 lh hq R) (rcA tx T wd0 nu0).2.1 (rcA tx T wd0 nu0).2.2.1 (rcA tx T wd0 nu0).2.2.2.1 sc cn R rs) = (k1, R1, rs1) := hR.symm.trans (by rw [show (rcA tx T wd0 nu0).2.2.2.1 + 1 - k1 = ((rcA tx T wd0 nu0).2.2.2.1 + 1 - (k1 + 1)) + 1 by omega, ccL, if_neg (fun z => by have := lp_ge (N := (rcA tx T wd0 nu0).2.2.2.1) rfl (by omega) (by omega) b_37; omega)])
        refine lv_aload_n hx hb dX7_runOrders_54 rfl (lv_at hl 0 rfl) ?_
        refine lv_iconst (v := 0) hx hb dX7_runOrders_55 (by decide) ?_
        refine r_put F h (C := RX7) (T := TX7) (N := 8) (fs' := [.ref (gz g + 1), .ref (gz g + 44), .int (nI (rmL 0 lh)), .ref (gz g + 260), .ref (gz g + 347), .ref (gz g + 348), .int 0, .int rs1]) (hjc hi_X7) tyX7 tyX7_ok nmX7 rfl hP1 6 (by decide) (List.mem_cons_of_mem _ wd_296) rfl (by decide) (by decide) (Nat.le_of_ble_eq_true rfl) rfl dX7_runOrders_56 (fun H locs h => ?_)
        refine lv_iload_n hx hb dX7_runOrders_59 rfl (lv_at hl 1 rfl) ?_
        exact ret_i F h (by omega) (by omega) dX7_runOrders_60 (⟨by omega, by rw [hE], by rw [hE]; exact (mu_eq _ _ _), by rw [hE]; exact (hB1.out (by omega)), (hH1.up (by omega)), ((mu_ne (by decide) _).trans hO1), ((mu_ne (by decide) _).trans hT1), ((mu_ne (by decide) _).trans hw1), ((mu_ne (by decide) _).trans hu1), (hF1.up (by omega))⟩)
      have hkl : k1 < (rcA tx T wd0 nu0).2.2.2.1 := lp_lt (N := (rcA tx T wd0 nu0).2.2.2.1) rfl (by omega) (by omega) b_37
      refine lv_aload_n hx hb dX7_runOrders_40 rfl (lv_at hl 0 rfl) ?_
      refine lv_iload_n hx hb dX7_runOrders_41 rfl (lv_at hl 1 rfl) ?_
      have hcc := hQc k1 R1 hQ1
      refine u_i (ru_V (As := [.int (nI k1)]) (rest := []) F h hP1 rfl (k_X7_carryOut l g n2 c1 (rmL 0 lh) 1 rs1 hP1 R1 hB1 (rmL_le hk5) (rmQ 0 lh hq R) hH1 hcc.1 (nI T) _ _ hO1 _ hw1 _ hu1 k1 (by omega) sc cn hcc.2.1 h5 hcc.2.2 h5c (by omega)) (gV hjl wd_719 wd_721 wd_14 wd_51 wd_722) rfl 1 (by decide +kernel) rfl ⟨Nat.le_of_ble_eq_true rfl, Nat.le_of_ble_eq_true rfl⟩ rfl hl.1 (Nat.le_of_ble_eq_true rfl) ⟨by show 2 * k1 + 2 ≤ 22; omega, by show 8 * k1 + 8 ≤ 88; omega⟩ dX7_runOrders_42) h (fun r1 n1 cz2 H locs hp h => ?_)
      obtain ⟨hnz2, hrz2, hPz2, hBz2, hHz2, hFz2⟩ := hp
      rw [hrz2]
      have hru := ru_X7_carryOut (lh := (rmL 0 lh)) (ru := 1) (rs := rs1) (R := R1) (hq := (rmQ 0 lh hq R)) (wd := (rcA tx T wd0 nu0).2.1) (nu := (rcA tx T wd0 nu0).2.2.1) (k1 := k1) (sc := sc) (cn := cn) (by decide)
      rw [hru.1] at hPz2
      rw [hru.2] at hHz2
      refine lv_if_lt (tgt := 54) hx hb dX7_runOrders_45 (by decide) (fun b_45 => ?_) (fun b_45 => ?_)
      · skip
        have hE : (ccA (rmL 0 lh) (rmQ 0 lh hq R) (rcA tx T wd0 nu0).2.1 (rcA tx T wd0 nu0).2.2.1 (rcA tx T wd0 nu0).2.2.2.1 sc cn R rs) = (k1, (sq_X7_carryOut (rmL 0 lh) 1 rs1 R1 (rmQ 0 lh hq R) (rcA tx T wd0 nu0).2.1 (rcA tx T wd0 nu0).2.2.1 k1 sc cn).2.2.1, (sq_X7_carryOut (rmL 0 lh) 1 rs1 R1 (rmQ 0 lh hq R) (rcA tx T wd0 nu0).2.1 (rcA tx T wd0 nu0).2.2.1 k1 sc cn).2.1) := hR.symm.trans (by rw [show (rcA tx T wd0 nu0).2.2.2.1 + 1 - k1 = ((rcA tx T wd0 nu0).2.2.2.1 + 1 - (k1 + 1)) + 1 by omega, ccL, if_pos hkl, if_neg (Int32.not_le.mpr b_45)])
        refine lv_aload_n hx hb dX7_runOrders_54 rfl (lv_at hl 0 rfl) ?_
        refine lv_iconst (v := 0) hx hb dX7_runOrders_55 (by decide) ?_
        refine r_put F h (C := RX7) (T := TX7) (N := 8) (fs' := [.ref (gz g + 1), .ref (gz g + 44), .int (nI (rmL 0 lh)), .ref (gz g + 260), .ref (gz g + 347), .ref (gz g + 348), .int 0, .int ((sq_X7_carryOut (rmL 0 lh) 1 rs1 R1 (rmQ 0 lh hq R) (rcA tx T wd0 nu0).2.1 (rcA tx T wd0 nu0).2.2.1 k1 sc cn).2.1)]) (hjc hi_X7) tyX7 tyX7_ok nmX7 rfl hPz2 6 (by decide) (List.mem_cons_of_mem _ wd_296) rfl (by decide) (by decide) (Nat.le_of_ble_eq_true rfl) rfl dX7_runOrders_56 (fun H locs h => ?_)
        refine lv_iload_n hx hb dX7_runOrders_59 rfl (lv_at hl 1 rfl) ?_
        exact ret_i F h (by omega) (by omega) dX7_runOrders_60 (⟨by omega, by rw [hE], by rw [hE]; exact (mu_eq _ _ _), by rw [hE]; exact (hBz2.out (by omega)), (hHz2.up (by omega)), ((mu_ne (by decide) _).trans ((hFz2 348 (by omega) (by omega)).trans hO1)), ((mu_ne (by decide) _).trans ((hFz2 349 (by omega) (by omega)).trans hT1)), ((mu_ne (by decide) _).trans ((hFz2 350 (by omega) (by omega)).trans hw1)), ((mu_ne (by decide) _).trans ((hFz2 351 (by omega) (by omega)).trans hu1)), ((hF1.fn hFz2 hn2 (by omega)).up (by omega))⟩)
      refine lv_iinc (v := nI (k1 + 1)) (lv' := [(2, .int (nI (k1 + 1))), (0, .ref (gz g + 0))]) hx hb dX7_runOrders_48 hl (k := 1) rfl (by exact (nI_succ k1).symm) (by decide) rfl (fun ls hl => ?_)
      refine lv_goto (tgt := 29) hx hb dX7_runOrders_51 (by decide) ?_
      exact ih (k1 + 1) _ _ _ _ (by omega) (by omega) (hQs k1 R1 rs1 hkl hQ1) (by rw [← hR, show (rcA tx T wd0 nu0).2.2.2.1 + 1 - k1 = ((rcA tx T wd0 nu0).2.2.2.1 + 1 - (k1 + 1)) + 1 by omega, ccL, if_pos hkl, if_pos (Int32.not_lt.mp b_45)]) hPz2 hBz2 hHz2 (hF1.fn hFz2 hn2 (by omega)) ((hFz2 348 (by omega) (by omega)).trans hO1) ((hFz2 349 (by omega) (by omega)).trans hT1) ((hFz2 350 (by omega) (by omega)).trans hw1) ((hFz2 351 (by omega) (by omega)).trans hu1) _ _ _ (by omega) h (lv_sub hl [1, 0] rfl)
  exact lp _ 0 _ _ _ _ (Nat.zero_le _) (Nat.le_refl _) hQ0 rfl (mu_eq _ _ _) (hBz1.out (by omega)) (hHz1.up (by omega)) (((((Ft.rfl'.up (by omega)).up (by omega)).up (by omega)).fr hFz1 (by decide)).up (by omega)) ((mu_ne (by decide) _).trans ((hFz1 348 (by omega)).trans ((mu_ne (by decide) _).trans ((mu_ne (by decide) _).trans (mu_eq _ _ _))))) ((mu_ne (by decide) _).trans ((hFz1 349 (by omega)).trans ((mu_ne (by decide) _).trans ((mu_ne (by decide) _).trans ((mu_ne (by decide) _).trans hOt))))) ((mu_ne (by decide) _).trans ((hFz1 350 (by omega)).trans ((mu_ne (by decide) _).trans (mu_eq _ _ _)))) ((mu_ne (by decide) _).trans ((hFz1 351 (by omega)).trans (mu_eq _ _ _))) _ _ _ (Nat.le_refl _) h (lv_sub hl [2, 0] rfl)
