/-! The class: questions. -/
def tcS (lim P bk : Int32) : Nat → Int32 → Int32 → Int32
  | 0, _, t => t
  | k + 1, a, t => if lim < a then tcS lim P bk k (caC bk a) (t + P) else t
def sq_X6_ticksUntilCalm (f : Nat → Int32) (y : Int32) : Int32 := if y < f 9 then (tcS y (4 * qdI (f 4)) (f 7) 500 (caC (f 7) (f 9)) ((4 * qdI (f 4)) - f 10)) else (0)
set_option maxHeartbeats 4000000 in
set_option maxRecDepth 100000 in
theorem k_X6_ticksUntilCalm (l : Launch) (g : Gf) (n : Nat) (c : Mp) (i : Nat) (f : Nat → Int32) (hi : c i = wiC f) (y : Int32) : Ct l g yX6_ticksUntilCalm wsX6_ticksUntilCalm 1 21 0 0 [.ref (gz g + i), .int y] n c (Qi g (fun xr n' c' => xr = sq_X6_ticksUntilCalm f y ∧ n' = n ∧ c' = c)) := by
  refine ent (by decide) rfl (Nat.le_of_ble_eq_true rfl) ?_
  intro p e s m args below meth c0 F h ls hl
  have hx := F.1
  have hb := F.2.1
  have hl : lv_has ls 5 [(0, .ref (gz g + i)), (1, .int y)] := hl
  refine lv_aload_n hx hb dX6_ticksUntilCalm_0 rfl (lv_at hl 0 rfl) ?_
  refine r_get F h (C := RX6) (T := TX6) (N := 12) (hjc hi_X6) rfl hi 10 (by decide) (List.mem_cons_of_mem _ wd_70) rfl dX6_ticksUntilCalm_1 ?_
  refine lv_iload_n hx hb dX6_ticksUntilCalm_4 rfl (lv_at hl 1 rfl) ?_
  refine lv_icmp_gt (tgt := 10) hx hb dX6_ticksUntilCalm_5 (by decide) (fun b_5 => ?_) (fun b_5 => ?_)
  · skip
    refine lv_aload_n hx hb dX6_ticksUntilCalm_10 rfl (lv_at hl 0 rfl) ?_
    refine u_iE (v := (4 * qdI (f 4))) (ru_V (As := []) (rest := []) F h hi rfl (k_X6_periodTicks l g n c i f hi ) (gV hjl wd_398 wd_356 wd_357 wd_18 wd_358) rfl 0 (by decide +kernel) rfl ⟨Nat.le_of_ble_eq_true rfl, Nat.le_of_ble_eq_true rfl⟩ rfl hl.1 (Nat.le_of_ble_eq_true rfl) ⟨Nat.zero_le _, Nat.zero_le _⟩ dX6_ticksUntilCalm_11) h (fun H locs h => ?_)
    refine lv_aload_n hx hb dX6_ticksUntilCalm_14 rfl (lv_at hl 0 rfl) ?_
    refine r_get F h (C := RX6) (T := TX6) (N := 12) (hjc hi_X6) rfl hi 11 (by decide) (List.mem_cons_of_mem _ wd_71) rfl dX6_ticksUntilCalm_15 ?_
    refine lv_isub hx hb dX6_ticksUntilCalm_18 ?_
    refine lv_istore_n (lv' := [(2, .int ((4 * qdI (f 4)) - f 10)), (0, .ref (gz g + i)), (1, .int y)]) hx hb dX6_ticksUntilCalm_19 rfl hl (by decide) rfl (fun ls hl => ?_)
    refine lv_aload_n hx hb dX6_ticksUntilCalm_20 rfl (lv_at hl 1 rfl) ?_
    refine lv_aload_n hx hb dX6_ticksUntilCalm_21 rfl (lv_at hl 1 rfl) ?_
    refine r_get F h (C := RX6) (T := TX6) (N := 12) (hjc hi_X6) rfl hi 10 (by decide) (List.mem_cons_of_mem _ wd_70) rfl dX6_ticksUntilCalm_22 ?_
    refine u_iE (v := (caC (f 7) (f 9))) (ru_V (As := [.int (f 9)]) (rest := []) F h hi rfl (k_X6_calmed l g n c i f hi (f 9)) (gV hjl wd_498 wd_499 wd_500 wd_18 wd_501) rfl 1 (by decide +kernel) rfl ⟨Nat.le_of_ble_eq_true rfl, Nat.le_of_ble_eq_true rfl⟩ rfl hl.1 (Nat.le_of_ble_eq_true rfl) ⟨Nat.zero_le _, Nat.zero_le _⟩ dX6_ticksUntilCalm_25) h (fun H locs h => ?_)
    refine lv_istore_n (lv' := [(3, .int (caC (f 7) (f 9))), (2, .int ((4 * qdI (f 4)) - f 10)), (0, .ref (gz g + i)), (1, .int y)]) hx hb dX6_ticksUntilCalm_28 rfl hl (by decide) rfl (fun ls hl => ?_)
    refine lv_iconst (v := 0) hx hb dX6_ticksUntilCalm_29 (by decide) ?_
    refine lv_istore (lv' := [(4, .int 0), (3, .int (caC (f 7) (f 9))), (2, .int ((4 * qdI (f 4)) - f 10)), (0, .ref (gz g + i)), (1, .int y)]) hx hb dX6_ticksUntilCalm_30 hl (by decide) rfl (fun ls hl => ?_)
    have lp : ∀ (k : Nat) (k1 : Nat) (a1 t1 : Int32) (hk1 : k1 ≤ 500) (hR : tcS y (4 * qdI (f 4)) (f 7) (500 - k1) a1 t1 = tcS y (4 * qdI (f 4)) (f 7) 500 (caC (f 7) (f 9)) ((4 * qdI (f 4)) - f 10)) (H : Heap) (locs : List Loc) (ls : Array Slot), (501 - k1) ≤ k → Hv g s H locs n c → lv_has ls 5 [(0, .ref (gz g + i)), (1, .int y), (2, .int t1), (3, .int a1), (4, .int (nI k1))] → W p l e (Rm 1 21 0 0) s m args below meth c0 H locs 0 0 (MQ below (Qi g (fun xr n' c' => xr = sq_X6_ticksUntilCalm f y ∧ n' = n ∧ c' = c)) args s 0 0 (mAf g)) (F0 m 32 ls []) := by
      intro k
      induction k with
      | zero => intro k1 a1 t1 hk1 hR H locs ls hk h hl; exact absurd hk (by omega)
      | succ k ih =>
        intro k1 a1 t1 hk1 hR H locs ls hk h hl
        refine lv_iload hx hb dX6_ticksUntilCalm_32 (lv_at hl 4 rfl) ?_
        refine lv_sipush (v := 500) hx hb dX6_ticksUntilCalm_34 (by decide) ?_
        refine lv_icmp_ge (tgt := 64) hx hb dX6_ticksUntilCalm_37 (by decide) (fun b_37 => ?_) (fun b_37 => ?_)
        · skip
          have hl : lv_has ls 5 [(0, .ref (gz g + i)), (1, .int y), (2, .int (tcS y (4 * qdI (f 4)) (f 7) 500 (caC (f 7) (f 9)) ((4 * qdI (f 4)) - f 10))), (3, .int a1), (4, .int (nI k1))] := by rw [show (tcS y (4 * qdI (f 4)) (f 7) 500 (caC (f 7) (f 9)) ((4 * qdI (f 4)) - f 10) : Int32) = t1 from (by rw [← hR, show 500 - k1 = 0 by have := lp_ge (N := 500) rfl (by omega) (by decide) b_37; omega, tcS])]; exact hl
          refine lv_iload_n hx hb dX6_ticksUntilCalm_64 rfl (lv_at hl 2 rfl) ?_
          exact ret_i F h (Nat.zero_le _) (Nat.zero_le _) dX6_ticksUntilCalm_65 (⟨((show sq_X6_ticksUntilCalm f y = tcS y (4 * qdI (f 4)) (f 7) 500 (caC (f 7) (f 9)) ((4 * qdI (f 4)) - f 10) by rw [sq_X6_ticksUntilCalm, if_pos (c := y < f 9) b_5])).symm, rfl, rfl⟩)
        have hk4 : k1 < 500 := lp_lt (N := 500) rfl (by omega) (by decide) b_37
        refine lv_iload_n hx hb dX6_ticksUntilCalm_40 rfl (lv_at hl 3 rfl) ?_
        refine lv_iload_n hx hb dX6_ticksUntilCalm_41 rfl (lv_at hl 1 rfl) ?_
        refine lv_icmp_le (tgt := 64) hx hb dX6_ticksUntilCalm_42 (by decide) (fun b_42 => ?_) (fun b_42 => ?_)
        · skip
          have hl : lv_has ls 5 [(0, .ref (gz g + i)), (1, .int y), (2, .int (tcS y (4 * qdI (f 4)) (f 7) 500 (caC (f 7) (f 9)) ((4 * qdI (f 4)) - f 10))), (3, .int a1), (4, .int (nI k1))] := by rw [show (tcS y (4 * qdI (f 4)) (f 7) 500 (caC (f 7) (f 9)) ((4 * qdI (f 4)) - f 10) : Int32) = t1 from (by rw [← hR, show 500 - k1 = (500 - (k1 + 1)) + 1 by omega, tcS, if_neg (Int32.not_lt.mpr b_42)])]; exact hl
          refine lv_iload_n hx hb dX6_ticksUntilCalm_64 rfl (lv_at hl 2 rfl) ?_
          exact ret_i F h (Nat.zero_le _) (Nat.zero_le _) dX6_ticksUntilCalm_65 (⟨((show sq_X6_ticksUntilCalm f y = tcS y (4 * qdI (f 4)) (f 7) 500 (caC (f 7) (f 9)) ((4 * qdI (f 4)) - f 10) by rw [sq_X6_ticksUntilCalm, if_pos (c := y < f 9) b_5])).symm, rfl, rfl⟩)
        refine lv_iload_n hx hb dX6_ticksUntilCalm_45 rfl (lv_at hl 2 rfl) ?_
        refine lv_aload_n hx hb dX6_ticksUntilCalm_46 rfl (lv_at hl 0 rfl) ?_
        refine u_iE (v := (4 * qdI (f 4))) (ru_V (As := []) (rest := [.int t1]) F h hi rfl (k_X6_periodTicks l g n c i f hi ) (gV hjl wd_398 wd_356 wd_357 wd_18 wd_358) rfl 0 (by decide +kernel) rfl ⟨Nat.le_of_ble_eq_true rfl, Nat.le_of_ble_eq_true rfl⟩ rfl hl.1 (Nat.le_of_ble_eq_true rfl) ⟨Nat.zero_le _, Nat.zero_le _⟩ dX6_ticksUntilCalm_47) h (fun H locs h => ?_)
        refine lv_iadd hx hb dX6_ticksUntilCalm_50 ?_
        refine lv_istore_n (lv' := [(2, .int (t1 + (4 * qdI (f 4)))), (0, .ref (gz g + i)), (1, .int y), (3, .int a1), (4, .int (nI k1))]) hx hb dX6_ticksUntilCalm_51 rfl hl (by decide) rfl (fun ls hl => ?_)
        refine lv_aload_n hx hb dX6_ticksUntilCalm_52 rfl (lv_at hl 1 rfl) ?_
        refine lv_iload_n hx hb dX6_ticksUntilCalm_53 rfl (lv_at hl 3 rfl) ?_
        refine u_iE (v := (caC (f 7) a1)) (ru_V (As := [.int a1]) (rest := []) F h hi rfl (k_X6_calmed l g n c i f hi a1) (gV hjl wd_498 wd_499 wd_500 wd_18 wd_501) rfl 1 (by decide +kernel) rfl ⟨Nat.le_of_ble_eq_true rfl, Nat.le_of_ble_eq_true rfl⟩ rfl hl.1 (Nat.le_of_ble_eq_true rfl) ⟨Nat.zero_le _, Nat.zero_le _⟩ dX6_ticksUntilCalm_54) h (fun H locs h => ?_)
        refine lv_istore_n (lv' := [(3, .int (caC (f 7) a1)), (2, .int (t1 + (4 * qdI (f 4)))), (0, .ref (gz g + i)), (1, .int y), (4, .int (nI k1))]) hx hb dX6_ticksUntilCalm_57 rfl hl (by decide) rfl (fun ls hl => ?_)
        refine lv_iinc (v := nI (k1 + 1)) (lv' := [(4, .int (nI (k1 + 1))), (3, .int (caC (f 7) a1)), (2, .int (t1 + (4 * qdI (f 4)))), (0, .ref (gz g + i)), (1, .int y)]) hx hb dX6_ticksUntilCalm_58 hl (k := 4) rfl (by exact (nI_succ k1).symm) (by decide) rfl (fun ls hl => ?_)
        refine lv_goto (tgt := 32) hx hb dX6_ticksUntilCalm_61 (by decide) ?_
        exact ih (k1 + 1) _ _ (by omega) (by rw [← hR, show 500 - k1 = (500 - (k1 + 1)) + 1 by omega, tcS, if_pos (Int32.not_le.mp b_42)]) _ _ _ (by omega) h (lv_sub hl [3, 4, 2, 1, 0] rfl)
    exact lp _ 0 _ _ (Nat.zero_le _) rfl _ _ _ (Nat.le_refl _) h (lv_sub hl [3, 4, 2, 1, 0] rfl)
  refine lv_iconst (v := 0) hx hb dX6_ticksUntilCalm_8 (by decide) ?_
  exact ret_i F h (Nat.zero_le _) (Nat.zero_le _) dX6_ticksUntilCalm_9 (⟨((show sq_X6_ticksUntilCalm f y = 0 by rw [sq_X6_ticksUntilCalm, if_neg (c := y < f 9) b_5])).symm, rfl, rfl⟩)
def sq_X7_wire (R : Nat → Int32)  (x y : Int32) : Int32 := if (inI x 0 3) = 0 then ((-100001)) else (if (inI y 0 10) = 0 then ((-100002)) else (if (R (5 + 11 * (wN x) + 0)) = 0 then ((-100005)) else ((prW (fun q => R (5 + 11 * wN x + q)) y))))
set_option maxHeartbeats 4000000 in
set_option maxRecDepth 100000 in
theorem k_X7_wire (l : Launch) (g : Gf) (n : Nat) (c : Mp) (lh : Nat) (ru rs : Int32) (hP : c 0 = plC g (nI lh) ru rs) (R : Nat → Int32) (hB : Bk g c 1 R) (x y : Int32) (hW : WB R) : Ct l g yX7_wire wsX7_wire 2 42 0 0 [.ref (gz g + 0), .int x, .int y] n c (Qi g (fun xr n' c' => xr = sq_X7_wire R x y ∧ n' = n ∧ c' = c)) := by
  refine ent (by decide) rfl (Nat.le_of_ble_eq_true rfl) ?_
  intro p e s m args below meth c0 F h ls hl
  have hx := F.1
  have hb := F.2.1
  have hl : lv_has ls 3 [(0, .ref (gz g + 0)), (1, .int x), (2, .int y)] := hl
  refine lv_iload_n hx hb dX7_wire_0 rfl (lv_at hl 1 rfl) ?_
  refine u_iE (v := (inI x 0 3)) (ru_S (As := [.int x]) (rest := []) F h (k_X7_isWire l g n c x) (gS hjl wd_274 wd_275 wd_16 wd_276) rfl 1 (by decide +kernel) rfl ⟨Nat.le_of_ble_eq_true rfl, Nat.le_of_ble_eq_true rfl⟩ rfl hl.1 (Nat.le_of_ble_eq_true rfl) ⟨Nat.zero_le _, Nat.zero_le _⟩ dX7_wire_1) h (fun H locs h => ?_)
  refine lv_if_ne (tgt := 10) hx hb dX7_wire_4 (by decide) (fun b_4 => ?_) (fun b_4 => ?_)
  · skip
    refine lv_iload_n hx hb dX7_wire_10 rfl (lv_at hl 2 rfl) ?_
    refine lv_iconst (v := 0) hx hb dX7_wire_11 (by decide) ?_
    refine lv_bipush (v := 10) hx hb dX7_wire_12 (by decide) ?_
    refine u_iE (v := (inI y 0 10)) (ru_S (As := [.int y, .int 0, .int 10]) (rest := []) F h (k_X7_isWithin l g n c y 0 10) (gS hjl wd_277 wd_278 wd_16 wd_279) rfl 3 (by decide +kernel) rfl ⟨Nat.le_of_ble_eq_true rfl, Nat.le_of_ble_eq_true rfl⟩ rfl hl.1 (Nat.le_of_ble_eq_true rfl) ⟨Nat.zero_le _, Nat.zero_le _⟩ dX7_wire_14) h (fun H locs h => ?_)
    refine lv_if_ne (tgt := 23) hx hb dX7_wire_17 (by decide) (fun b_17 => ?_) (fun b_17 => ?_)
    · skip
      have h_x := inI_w (N := 3) (by decide) b_4
      have h4_x : wN x < 4 := h_x.1
      have hl : lv_has ls 3 [(0, .ref (gz g + 0)), (1, .int (nI (wN x))), (2, .int y)] := by rw [show (nI (wN x) : Int32) = x from h_x.2]; exact hl
      refine lv_aload_n hx hb dX7_wire_23 rfl (lv_at hl 0 rfl) ?_
      refine lv_iload_n hx hb dX7_wire_24 rfl (lv_at hl 1 rfl) ?_
      refine u_iE (v := (R (5 + 11 * (wN x) + 0))) (ru_V (As := [.int (nI (wN x))]) (rest := []) F h hP rfl (k_X7_isHung l g n c lh ru rs hP R hB (wN x) (by omega) (hW.1 (wN x) (by omega))) (gV hjl wd_330 wd_332 wd_2 wd_16 wd_333) rfl 1 (by decide +kernel) rfl ⟨Nat.le_of_ble_eq_true rfl, Nat.le_of_ble_eq_true rfl⟩ rfl hl.1 (Nat.le_of_ble_eq_true rfl) ⟨Nat.zero_le _, Nat.zero_le _⟩ dX7_wire_25) h (fun H locs h => ?_)
      refine lv_if_ne (tgt := 34) hx hb dX7_wire_28 (by decide) (fun b_28 => ?_) (fun b_28 => ?_)
      · skip
        refine lv_aload_n hx hb dX7_wire_34 rfl (lv_at hl 0 rfl) ?_
        refine r_get F h (C := RX7) (T := TX7) (N := 8) (hjc hi_X7) rfl hP 0 (by decide) (List.mem_cons_of_mem _ wd_245) rfl dX7_wire_35 ?_
        refine r_get F h (C := RX4) (T := TX4) (N := 8) (hjc hi_X4) rfl hB.1 0 (by decide) (List.mem_cons_of_mem _ wd_186) rfl dX7_wire_38 ?_
        refine lv_iload_n hx hb dX7_wire_41 rfl (lv_at hl 1 rfl) ?_
        refine r_aald F h (C := RX6) hB.2.1.1 (t0 := 4) rfl (vp_in_nI (show wN x < 4 by omega) (by decide)) (a := gz g + (1 + 2 + wN x)) (qs_at (fun k => some (gz g + (1 + 2 + k))) (by omega)) dX7_wire_42 ?_
        refine lv_iload_n hx hb dX7_wire_43 rfl (lv_at hl 2 rfl) ?_
        refine u_iE (v := (prW (fun q => R (5 + 11 * wN x + q)) y)) (ru_V (As := [.int y]) (rest := []) F h (hB.2.1.2 (wN x) (by omega)) rfl (k_X6_property l g n c (1 + 2 + wN x) (fun q => R (5 + 11 * wN x + q)) (hB.2.1.2 (wN x) (by omega)) y) (gV hjl wd_394 wd_395 wd_396 wd_18 wd_397) rfl 1 (by decide +kernel) rfl ⟨Nat.le_of_ble_eq_true rfl, Nat.le_of_ble_eq_true rfl⟩ rfl hl.1 (Nat.le_of_ble_eq_true rfl) ⟨Nat.zero_le _, Nat.zero_le _⟩ dX7_wire_44) h (fun H locs h => ?_)
        exact ret_i F h (Nat.zero_le _) (Nat.zero_le _) dX7_wire_47 (⟨((show sq_X7_wire R x y = (prW (fun q => R (5 + 11 * wN x + q)) y) by rw [sq_X7_wire, if_neg (c := (inI x 0 3) = 0) b_4, if_neg (c := (inI y 0 10) = 0) b_17, if_neg (c := (R (5 + 11 * (wN x) + 0)) = 0) b_28])).symm, rfl, rfl⟩)
      refine lv_ldc (v := (-100005)) hx hb F.2.2.2.1 (F.2.2.2.2.1 (Cond.constant RX7 123 (-100005)) (List.mem_cons_of_mem _ wd_377)) dX7_wire_31 ?_
      exact ret_i F h (Nat.zero_le _) (Nat.zero_le _) dX7_wire_33 (⟨((show sq_X7_wire R x y = (-100005) by rw [sq_X7_wire, if_neg (c := (inI x 0 3) = 0) b_4, if_neg (c := (inI y 0 10) = 0) b_17, if_pos (c := (R (5 + 11 * (wN x) + 0)) = 0) b_28])).symm, rfl, rfl⟩)
    refine lv_ldc (v := (-100002)) hx hb F.2.2.2.1 (F.2.2.2.2.1 (Cond.constant RX7 47 (-100002)) (List.mem_cons_of_mem _ wd_281)) dX7_wire_20 ?_
    exact ret_i F h (Nat.zero_le _) (Nat.zero_le _) dX7_wire_22 (⟨((show sq_X7_wire R x y = (-100002) by rw [sq_X7_wire, if_neg (c := (inI x 0 3) = 0) b_4, if_pos (c := (inI y 0 10) = 0) b_17])).symm, rfl, rfl⟩)
  refine lv_ldc (v := (-100001)) hx hb F.2.2.2.1 (F.2.2.2.2.1 (Cond.constant RX7 42 (-100001)) (List.mem_cons_of_mem _ wd_280)) dX7_wire_7 ?_
  exact ret_i F h (Nat.zero_le _) (Nat.zero_le _) dX7_wire_9 (⟨((show sq_X7_wire R x y = (-100001) by rw [sq_X7_wire, if_pos (c := (inI x 0 3) = 0) b_4])).symm, rfl, rfl⟩)
theorem er_0 {R : Nat → Int32} {x y z : Int32} (h : sq_X7_errorOfReading R x y z = 0) : wN x < 4 ∧ nI (wN x) = x := by
  unfold sq_X7_errorOfReading at h
  split at h
  · exact absurd h (by decide)
  · rename_i h1
    exact inI_w (N := 3) (by decide) h1
def sq_X7_rest (R : Nat → Int32)  (x y z : Int32) (cn : Nat) : Int32 := if (sq_X7_errorOfReading R x y z) = 0 then ((reS R (wN x) y z cn)) else ((sq_X7_errorOfReading R x y z))
set_option maxHeartbeats 4000000 in
set_option maxRecDepth 100000 in
theorem k_X7_rest (l : Launch) (g : Gf) (n : Nat) (c : Mp) (lh : Nat) (ru rs : Int32) (hP : c 0 = plC g (nI lh) ru rs) (R : Nat → Int32) (hB : Bk g c 1 R) (x y z : Int32) (cn : Nat) (hW : WB R) (hcn : R 3 = nI cn) (h5c : cn ≤ 5) : Ct l g yX7_rest wsX7_rest 3 77 0 0 [.ref (gz g + 0), .int x, .int y, .int z] n c (Qi g (fun xr n' c' => xr = sq_X7_rest R x y z cn ∧ n' = n ∧ c' = c)) := by
  refine ent (by decide) rfl (Nat.le_of_ble_eq_true rfl) ?_
  intro p e s m args below meth c0 F h ls hl
  have hx := F.1
  have hb := F.2.1
  have hl : lv_has ls 5 [(0, .ref (gz g + 0)), (1, .int x), (2, .int y), (3, .int z)] := hl
  refine lv_aload_n hx hb dX7_rest_0 rfl (lv_at hl 0 rfl) ?_
  refine lv_iload_n hx hb dX7_rest_1 rfl (lv_at hl 1 rfl) ?_
  refine lv_iload_n hx hb dX7_rest_2 rfl (lv_at hl 2 rfl) ?_
  refine lv_iload_n hx hb dX7_rest_3 rfl (lv_at hl 3 rfl) ?_
  refine u_iE (v := (sq_X7_errorOfReading R x y z)) (ru_V (As := [.int x, .int y, .int z]) (rest := []) F h hP rfl (k_X7_errorOfReading l g n c lh ru rs hP R hB x y z hW) (gV hjl wd_451 wd_453 wd_4 wd_16 wd_454) rfl 3 (by decide +kernel) rfl ⟨Nat.le_of_ble_eq_true rfl, Nat.le_of_ble_eq_true rfl⟩ rfl hl.1 (Nat.le_of_ble_eq_true rfl) ⟨Nat.zero_le _, Nat.zero_le _⟩ dX7_rest_4) h (fun H locs h => ?_)
  refine lv_istore (lv' := [(4, .int (sq_X7_errorOfReading R x y z)), (0, .ref (gz g + 0)), (1, .int x), (2, .int y), (3, .int z)]) hx hb dX7_rest_7 hl (by decide) rfl (fun ls hl => ?_)
  refine lv_iload hx hb dX7_rest_9 (lv_at hl 0 rfl) ?_
  refine lv_if_eq (tgt := 17) hx hb dX7_rest_11 (by decide) (fun b_11 => ?_) (fun b_11 => ?_)
  · skip
    have h_x := er_0 b_11
    have h4_x := h_x.1
    have hl : lv_has ls 5 [(4, .int (sq_X7_errorOfReading R x y z)), (0, .ref (gz g + 0)), (1, .int (nI (wN x))), (2, .int y), (3, .int z)] := by rw [show (nI (wN x) : Int32) = x from h_x.2]; exact hl
    refine lv_aload_n hx hb dX7_rest_17 rfl (lv_at hl 1 rfl) ?_
    refine r_get F h (C := RX7) (T := TX7) (N := 8) (hjc hi_X7) rfl hP 0 (by decide) (List.mem_cons_of_mem _ wd_245) rfl dX7_rest_18 ?_
    refine lv_aload_n hx hb dX7_rest_21 rfl (lv_at hl 1 rfl) ?_
    refine r_get F h (C := RX7) (T := TX7) (N := 8) (hjc hi_X7) rfl hP 0 (by decide) (List.mem_cons_of_mem _ wd_245) rfl dX7_rest_22 ?_
    refine r_get F h (C := RX4) (T := TX4) (N := 8) (hjc hi_X4) rfl hB.1 0 (by decide) (List.mem_cons_of_mem _ wd_186) rfl dX7_rest_25 ?_
    refine lv_iload_n hx hb dX7_rest_28 rfl (lv_at hl 2 rfl) ?_
    refine r_aald F h (C := RX6) hB.2.1.1 (t0 := 4) rfl (vp_in_nI (show wN x < 4 by omega) (by decide)) (a := gz g + (1 + 2 + wN x)) (qs_at (fun k => some (gz g + (1 + 2 + k))) (by omega)) dX7_rest_29 ?_
    refine lv_iload_n hx hb dX7_rest_30 rfl (lv_at hl 3 rfl) ?_
    refine lv_iload_n hx hb dX7_rest_31 rfl (lv_at hl 4 rfl) ?_
    refine u_iE (v := (reS R (wN x) y z cn)) (ru_V (As := [.ref (gz g + (1 + 2 + wN x)), .int y, .int z]) (rest := []) F h hB.1 rfl (k_X4_restAt l g n c 1 R hB (wN x) (by omega) y z cn hcn h5c) (gV hjl wd_455 wd_456 wd_457 wd_17 wd_458) rfl 3 (by decide +kernel) rfl ⟨Nat.le_of_ble_eq_true rfl, Nat.le_of_ble_eq_true rfl⟩ rfl hl.1 (Nat.le_of_ble_eq_true rfl) ⟨Nat.zero_le _, Nat.zero_le _⟩ dX7_rest_32) h (fun H locs h => ?_)
    exact ret_i F h (Nat.zero_le _) (Nat.zero_le _) dX7_rest_35 (⟨((show sq_X7_rest R x y z cn = (reS R (wN x) y z cn) by rw [sq_X7_rest, if_pos (c := (sq_X7_errorOfReading R x y z) = 0) b_11])).symm, rfl, rfl⟩)
  refine lv_iload hx hb dX7_rest_14 (lv_at hl 0 rfl) ?_
  exact ret_i F h (Nat.zero_le _) (Nat.zero_le _) dX7_rest_16 (⟨((show sq_X7_rest R x y z cn = (sq_X7_errorOfReading R x y z) by rw [sq_X7_rest, if_neg (c := (sq_X7_errorOfReading R x y z) = 0) b_11])).symm, rfl, rfl⟩)
def sq_X7_position (R : Nat → Int32)  (x y z : Int32) (cn : Nat) : Int32 := if (sq_X7_errorOfReading R x y z) = 0 then (((reS R (wN x) y z cn) + (syF (fun q => R (5 + 11 * wN x + q)) y z))) else ((sq_X7_errorOfReading R x y z))
set_option maxHeartbeats 4000000 in
set_option maxRecDepth 100000 in
theorem k_X7_position (l : Launch) (g : Gf) (n : Nat) (c : Mp) (lh : Nat) (ru rs : Int32) (hP : c 0 = plC g (nI lh) ru rs) (R : Nat → Int32) (hB : Bk g c 1 R) (x y z : Int32) (cn : Nat) (hW : WB R) (hcn : R 3 = nI cn) (h5c : cn ≤ 5) : Ct l g yX7_position wsX7_position 3 77 0 0 [.ref (gz g + 0), .int x, .int y, .int z] n c (Qi g (fun xr n' c' => xr = sq_X7_position R x y z cn ∧ n' = n ∧ c' = c)) := by
  refine ent (by decide) rfl (Nat.le_of_ble_eq_true rfl) ?_
  intro p e s m args below meth c0 F h ls hl
  have hx := F.1
  have hb := F.2.1
  have hl : lv_has ls 6 [(0, .ref (gz g + 0)), (1, .int x), (2, .int y), (3, .int z)] := hl
  refine lv_aload_n hx hb dX7_position_0 rfl (lv_at hl 0 rfl) ?_
  refine lv_iload_n hx hb dX7_position_1 rfl (lv_at hl 1 rfl) ?_
  refine lv_iload_n hx hb dX7_position_2 rfl (lv_at hl 2 rfl) ?_
  refine lv_iload_n hx hb dX7_position_3 rfl (lv_at hl 3 rfl) ?_
  refine u_iE (v := (sq_X7_errorOfReading R x y z)) (ru_V (As := [.int x, .int y, .int z]) (rest := []) F h hP rfl (k_X7_errorOfReading l g n c lh ru rs hP R hB x y z hW) (gV hjl wd_451 wd_453 wd_4 wd_16 wd_454) rfl 3 (by decide +kernel) rfl ⟨Nat.le_of_ble_eq_true rfl, Nat.le_of_ble_eq_true rfl⟩ rfl hl.1 (Nat.le_of_ble_eq_true rfl) ⟨Nat.zero_le _, Nat.zero_le _⟩ dX7_position_4) h (fun H locs h => ?_)
  refine lv_istore (lv' := [(4, .int (sq_X7_errorOfReading R x y z)), (0, .ref (gz g + 0)), (1, .int x), (2, .int y), (3, .int z)]) hx hb dX7_position_7 hl (by decide) rfl (fun ls hl => ?_)
  refine lv_iload hx hb dX7_position_9 (lv_at hl 0 rfl) ?_
  refine lv_if_eq (tgt := 17) hx hb dX7_position_11 (by decide) (fun b_11 => ?_) (fun b_11 => ?_)
  · skip
    have h_x := er_0 b_11
    have h4_x := h_x.1
    have hl : lv_has ls 6 [(4, .int (sq_X7_errorOfReading R x y z)), (0, .ref (gz g + 0)), (1, .int (nI (wN x))), (2, .int y), (3, .int z)] := by rw [show (nI (wN x) : Int32) = x from h_x.2]; exact hl
    refine lv_aload_n hx hb dX7_position_17 rfl (lv_at hl 1 rfl) ?_
    refine r_get F h (C := RX7) (T := TX7) (N := 8) (hjc hi_X7) rfl hP 0 (by decide) (List.mem_cons_of_mem _ wd_245) rfl dX7_position_18 ?_
    refine r_get F h (C := RX4) (T := TX4) (N := 8) (hjc hi_X4) rfl hB.1 0 (by decide) (List.mem_cons_of_mem _ wd_186) rfl dX7_position_21 ?_
    refine lv_iload_n hx hb dX7_position_24 rfl (lv_at hl 2 rfl) ?_
    refine r_aald F h (C := RX6) hB.2.1.1 (t0 := 4) rfl (vp_in_nI (show wN x < 4 by omega) (by decide)) (a := gz g + (1 + 2 + wN x)) (qs_at (fun k => some (gz g + (1 + 2 + k))) (by omega)) dX7_position_25 ?_
    refine lv_astore (lv' := [(5, .ref (gz g + (1 + 2 + wN x))), (4, .int (sq_X7_errorOfReading R x y z)), (0, .ref (gz g + 0)), (1, .int (nI (wN x))), (2, .int y), (3, .int z)]) hx hb dX7_position_26 hl (by decide) rfl (fun ls hl => ?_)
    refine lv_aload_n hx hb dX7_position_28 rfl (lv_at hl 2 rfl) ?_
    refine r_get F h (C := RX7) (T := TX7) (N := 8) (hjc hi_X7) rfl hP 0 (by decide) (List.mem_cons_of_mem _ wd_245) rfl dX7_position_29 ?_
    refine lv_aload hx hb dX7_position_32 (lv_at hl 0 rfl) ?_
    refine lv_iload_n hx hb dX7_position_34 rfl (lv_at hl 4 rfl) ?_
    refine lv_iload_n hx hb dX7_position_35 rfl (lv_at hl 5 rfl) ?_
    refine u_iE (v := (reS R (wN x) y z cn)) (ru_V (As := [.ref (gz g + (1 + 2 + wN x)), .int y, .int z]) (rest := []) F h hB.1 rfl (k_X4_restAt l g n c 1 R hB (wN x) (by omega) y z cn hcn h5c) (gV hjl wd_455 wd_456 wd_457 wd_17 wd_458) rfl 3 (by decide +kernel) rfl ⟨Nat.le_of_ble_eq_true rfl, Nat.le_of_ble_eq_true rfl⟩ rfl hl.1 (Nat.le_of_ble_eq_true rfl) ⟨Nat.zero_le _, Nat.zero_le _⟩ dX7_position_36) h (fun H locs h => ?_)
    refine lv_aload hx hb dX7_position_39 (lv_at hl 0 rfl) ?_
    refine lv_iload_n hx hb dX7_position_41 rfl (lv_at hl 4 rfl) ?_
    refine lv_iload_n hx hb dX7_position_42 rfl (lv_at hl 5 rfl) ?_
    refine u_iE (v := (syF (fun q => R (5 + 11 * wN x + q)) y z)) (ru_V (As := [.int y, .int z]) (rest := [.int (reS R (wN x) y z cn)]) F h (hB.2.1.2 (wN x) (by omega)) rfl (k_X6_swayAt l g n c (1 + 2 + wN x) (fun q => R (5 + 11 * wN x + q)) (hB.2.1.2 (wN x) (by omega)) y z) (gV hjl wd_474 wd_475 wd_476 wd_18 wd_477) rfl 2 (by decide +kernel) rfl ⟨Nat.le_of_ble_eq_true rfl, Nat.le_of_ble_eq_true rfl⟩ rfl hl.1 (Nat.le_of_ble_eq_true rfl) ⟨Nat.zero_le _, Nat.zero_le _⟩ dX7_position_43) h (fun H locs h => ?_)
    refine lv_iadd hx hb dX7_position_46 ?_
    exact ret_i F h (Nat.zero_le _) (Nat.zero_le _) dX7_position_47 (⟨((show sq_X7_position R x y z cn = ((reS R (wN x) y z cn) + (syF (fun q => R (5 + 11 * wN x + q)) y z)) by rw [sq_X7_position, if_pos (c := (sq_X7_errorOfReading R x y z) = 0) b_11])).symm, rfl, rfl⟩)
  refine lv_iload hx hb dX7_position_14 (lv_at hl 0 rfl) ?_
  exact ret_i F h (Nat.zero_le _) (Nat.zero_le _) dX7_position_16 (⟨((show sq_X7_position R x y z cn = (sq_X7_errorOfReading R x y z) by rw [sq_X7_position, if_neg (c := (sq_X7_errorOfReading R x y z) = 0) b_11])).symm, rfl, rfl⟩)
def sq_X7_calmIn (R : Nat → Int32)  (x y : Int32) : Int32 := if (inI x 0 3) = 0 then ((-100001)) else (if (inI y 0 500) = 0 then ((-100002)) else (if (R (5 + 11 * (wN x) + 0)) = 0 then ((-100005)) else ((sq_X6_ticksUntilCalm (fun q => R (5 + 11 * wN x + q)) y))))
set_option maxHeartbeats 4000000 in
set_option maxRecDepth 100000 in
theorem k_X7_calmIn (l : Launch) (g : Gf) (n : Nat) (c : Mp) (lh : Nat) (ru rs : Int32) (hP : c 0 = plC g (nI lh) ru rs) (R : Nat → Int32) (hB : Bk g c 1 R) (x y : Int32) (hW : WB R) : Ct l g yX7_calmIn wsX7_calmIn 2 45 0 0 [.ref (gz g + 0), .int x, .int y] n c (Qi g (fun xr n' c' => xr = sq_X7_calmIn R x y ∧ n' = n ∧ c' = c)) := by
  refine ent (by decide) rfl (Nat.le_of_ble_eq_true rfl) ?_
  intro p e s m args below meth c0 F h ls hl
  have hx := F.1
  have hb := F.2.1
  have hl : lv_has ls 3 [(0, .ref (gz g + 0)), (1, .int x), (2, .int y)] := hl
  refine lv_iload_n hx hb dX7_calmIn_0 rfl (lv_at hl 1 rfl) ?_
  refine u_iE (v := (inI x 0 3)) (ru_S (As := [.int x]) (rest := []) F h (k_X7_isWire l g n c x) (gS hjl wd_274 wd_275 wd_16 wd_276) rfl 1 (by decide +kernel) rfl ⟨Nat.le_of_ble_eq_true rfl, Nat.le_of_ble_eq_true rfl⟩ rfl hl.1 (Nat.le_of_ble_eq_true rfl) ⟨Nat.zero_le _, Nat.zero_le _⟩ dX7_calmIn_1) h (fun H locs h => ?_)
  refine lv_if_ne (tgt := 10) hx hb dX7_calmIn_4 (by decide) (fun b_4 => ?_) (fun b_4 => ?_)
  · skip
    refine lv_iload_n hx hb dX7_calmIn_10 rfl (lv_at hl 2 rfl) ?_
    refine lv_iconst (v := 0) hx hb dX7_calmIn_11 (by decide) ?_
    refine lv_sipush (v := 500) hx hb dX7_calmIn_12 (by decide) ?_
    refine u_iE (v := (inI y 0 500)) (ru_S (As := [.int y, .int 0, .int 500]) (rest := []) F h (k_X7_isWithin l g n c y 0 500) (gS hjl wd_277 wd_278 wd_16 wd_279) rfl 3 (by decide +kernel) rfl ⟨Nat.le_of_ble_eq_true rfl, Nat.le_of_ble_eq_true rfl⟩ rfl hl.1 (Nat.le_of_ble_eq_true rfl) ⟨Nat.zero_le _, Nat.zero_le _⟩ dX7_calmIn_15) h (fun H locs h => ?_)
    refine lv_if_ne (tgt := 24) hx hb dX7_calmIn_18 (by decide) (fun b_18 => ?_) (fun b_18 => ?_)
    · skip
      have h_x := inI_w (N := 3) (by decide) b_4
      have h4_x : wN x < 4 := h_x.1
      have hl : lv_has ls 3 [(0, .ref (gz g + 0)), (1, .int (nI (wN x))), (2, .int y)] := by rw [show (nI (wN x) : Int32) = x from h_x.2]; exact hl
      refine lv_aload_n hx hb dX7_calmIn_24 rfl (lv_at hl 0 rfl) ?_
      refine lv_iload_n hx hb dX7_calmIn_25 rfl (lv_at hl 1 rfl) ?_
      refine u_iE (v := (R (5 + 11 * (wN x) + 0))) (ru_V (As := [.int (nI (wN x))]) (rest := []) F h hP rfl (k_X7_isHung l g n c lh ru rs hP R hB (wN x) (by omega) (hW.1 (wN x) (by omega))) (gV hjl wd_330 wd_332 wd_2 wd_16 wd_333) rfl 1 (by decide +kernel) rfl ⟨Nat.le_of_ble_eq_true rfl, Nat.le_of_ble_eq_true rfl⟩ rfl hl.1 (Nat.le_of_ble_eq_true rfl) ⟨Nat.zero_le _, Nat.zero_le _⟩ dX7_calmIn_26) h (fun H locs h => ?_)
      refine lv_if_ne (tgt := 35) hx hb dX7_calmIn_29 (by decide) (fun b_29 => ?_) (fun b_29 => ?_)
      · skip
        refine lv_aload_n hx hb dX7_calmIn_35 rfl (lv_at hl 0 rfl) ?_
        refine r_get F h (C := RX7) (T := TX7) (N := 8) (hjc hi_X7) rfl hP 0 (by decide) (List.mem_cons_of_mem _ wd_245) rfl dX7_calmIn_36 ?_
        refine r_get F h (C := RX4) (T := TX4) (N := 8) (hjc hi_X4) rfl hB.1 0 (by decide) (List.mem_cons_of_mem _ wd_186) rfl dX7_calmIn_39 ?_
        refine lv_iload_n hx hb dX7_calmIn_42 rfl (lv_at hl 1 rfl) ?_
        refine r_aald F h (C := RX6) hB.2.1.1 (t0 := 4) rfl (vp_in_nI (show wN x < 4 by omega) (by decide)) (a := gz g + (1 + 2 + wN x)) (qs_at (fun k => some (gz g + (1 + 2 + k))) (by omega)) dX7_calmIn_43 ?_
        refine lv_iload_n hx hb dX7_calmIn_44 rfl (lv_at hl 2 rfl) ?_
        refine u_iE (v := (sq_X6_ticksUntilCalm (fun q => R (5 + 11 * wN x + q)) y)) (ru_V (As := [.int y]) (rest := []) F h (hB.2.1.2 (wN x) (by omega)) rfl (k_X6_ticksUntilCalm l g n c (1 + 2 + wN x) (fun q => R (5 + 11 * wN x + q)) (hB.2.1.2 (wN x) (by omega)) y) (gV hjl wd_494 wd_495 wd_496 wd_18 wd_497) rfl 1 (by decide +kernel) rfl ⟨Nat.le_of_ble_eq_true rfl, Nat.le_of_ble_eq_true rfl⟩ rfl hl.1 (Nat.le_of_ble_eq_true rfl) ⟨Nat.zero_le _, Nat.zero_le _⟩ dX7_calmIn_45) h (fun H locs h => ?_)
        exact ret_i F h (Nat.zero_le _) (Nat.zero_le _) dX7_calmIn_48 (⟨((show sq_X7_calmIn R x y = (sq_X6_ticksUntilCalm (fun q => R (5 + 11 * wN x + q)) y) by rw [sq_X7_calmIn, if_neg (c := (inI x 0 3) = 0) b_4, if_neg (c := (inI y 0 500) = 0) b_18, if_neg (c := (R (5 + 11 * (wN x) + 0)) = 0) b_29])).symm, rfl, rfl⟩)
      refine lv_ldc (v := (-100005)) hx hb F.2.2.2.1 (F.2.2.2.2.1 (Cond.constant RX7 123 (-100005)) (List.mem_cons_of_mem _ wd_377)) dX7_calmIn_32 ?_
      exact ret_i F h (Nat.zero_le _) (Nat.zero_le _) dX7_calmIn_34 (⟨((show sq_X7_calmIn R x y = (-100005) by rw [sq_X7_calmIn, if_neg (c := (inI x 0 3) = 0) b_4, if_neg (c := (inI y 0 500) = 0) b_18, if_pos (c := (R (5 + 11 * (wN x) + 0)) = 0) b_29])).symm, rfl, rfl⟩)
    refine lv_ldc (v := (-100002)) hx hb F.2.2.2.1 (F.2.2.2.2.1 (Cond.constant RX7 47 (-100002)) (List.mem_cons_of_mem _ wd_281)) dX7_calmIn_21 ?_
    exact ret_i F h (Nat.zero_le _) (Nat.zero_le _) dX7_calmIn_23 (⟨((show sq_X7_calmIn R x y = (-100002) by rw [sq_X7_calmIn, if_neg (c := (inI x 0 3) = 0) b_4, if_pos (c := (inI y 0 500) = 0) b_18])).symm, rfl, rfl⟩)
  refine lv_ldc (v := (-100001)) hx hb F.2.2.2.1 (F.2.2.2.2.1 (Cond.constant RX7 42 (-100001)) (List.mem_cons_of_mem _ wd_280)) dX7_calmIn_7 ?_
  exact ret_i F h (Nat.zero_le _) (Nat.zero_le _) dX7_calmIn_9 (⟨((show sq_X7_calmIn R x y = (-100001) by rw [sq_X7_calmIn, if_pos (c := (inI x 0 3) = 0) b_4])).symm, rfl, rfl⟩)
def sq_X7_station (R : Nat → Int32)  (x y : Int32) (sc : Nat) : Int32 := if (inI x 0 (R 4 - 1)) = 0 then ((-100001)) else (if y = 0 then (R (69 + 3 * wN x)) else (if y = 1 then (R (69 + 3 * wN x + 1)) else (if y = 2 then (if R (204 + wN x) = 0 then ((-100005)) else (R (69 + 3 * wN x + 2))) else (if y = 3 then ((ctI (fun v => R (84 + 6 * (4 * (wN x) + v) + 0)) 4)) else ((-100002))))))
set_option maxHeartbeats 4000000 in
set_option maxRecDepth 100000 in
theorem k_X7_station (l : Launch) (g : Gf) (n : Nat) (c : Mp) (lh : Nat) (ru rs : Int32) (hP : c 0 = plC g (nI lh) ru rs) (R : Nat → Int32) (hB : Bk g c 1 R) (x y : Int32) (sc : Nat) (hsc : R 4 = nI sc) (h5 : sc ≤ 5) : Ct l g yX7_station wsX7_station 2 43 0 0 [.ref (gz g + 0), .int x, .int y] n c (Qi g (fun xr n' c' => xr = sq_X7_station R x y sc ∧ n' = n ∧ c' = c)) := by
  refine ent (by decide) rfl (Nat.le_of_ble_eq_true rfl) ?_
  intro p e s m args below meth c0 F h ls hl
  have hx := F.1
  have hb := F.2.1
  have hl : lv_has ls 4 [(0, .ref (gz g + 0)), (1, .int x), (2, .int y)] := hl
  refine lv_aload_n hx hb dX7_station_0 rfl (lv_at hl 0 rfl) ?_
  refine lv_iload_n hx hb dX7_station_1 rfl (lv_at hl 1 rfl) ?_
  refine u_iE (v := (inI x 0 (R 4 - 1))) (ru_V (As := [.int x]) (rest := []) F h hP rfl (k_X7_isStation l g n c lh ru rs hP R hB x ) (gV hjl wd_522 wd_524 wd_5 wd_16 wd_525) rfl 1 (by decide +kernel) rfl ⟨Nat.le_of_ble_eq_true rfl, Nat.le_of_ble_eq_true rfl⟩ rfl hl.1 (Nat.le_of_ble_eq_true rfl) ⟨Nat.zero_le _, Nat.zero_le _⟩ dX7_station_2) h (fun H locs h => ?_)
  refine lv_if_ne (tgt := 11) hx hb dX7_station_5 (by decide) (fun b_5 => ?_) (fun b_5 => ?_)
  · skip
    have h_x := isS_w hsc h5 b_5
    have h4_x : wN x < 5 := by omega
    have hl : lv_has ls 4 [(0, .ref (gz g + 0)), (1, .int (nI (wN x))), (2, .int y)] := by rw [show (nI (wN x) : Int32) = x from h_x.2]; exact hl
    refine lv_aload_n hx hb dX7_station_11 rfl (lv_at hl 0 rfl) ?_
    refine r_get F h (C := RX7) (T := TX7) (N := 8) (hjc hi_X7) rfl hP 0 (by decide) (List.mem_cons_of_mem _ wd_245) rfl dX7_station_12 ?_
    refine r_get F h (C := RX4) (T := TX4) (N := 8) (hjc hi_X4) rfl hB.1 3 (by decide) (List.mem_cons_of_mem _ wd_192) rfl dX7_station_15 ?_
    refine lv_iload_n hx hb dX7_station_18 rfl (lv_at hl 1 rfl) ?_
    refine r_aald F h (C := RX5) hB.2.2.2.1 (t0 := 6) rfl (vp_in_nI (show wN x < 5 by omega) (by decide)) (a := gz g + (1 + 13 + 6 * wN x)) (qs_at (fun k => some (gz g + (1 + 13 + 6 * k))) (by omega)) dX7_station_19 ?_
    refine lv_astore_n (lv' := [(3, .ref (gz g + (1 + 13 + 6 * wN x))), (0, .ref (gz g + 0)), (1, .int (nI (wN x))), (2, .int y)]) hx hb dX7_station_20 rfl hl (by decide) rfl (fun ls hl => ?_)
    refine lv_iload_n hx hb dX7_station_21 rfl (lv_at hl 3 rfl) ?_
    by_cases q_22_0 : y = 0
    · skip
      refine lv_tableIn (off := 30) (tgt := 52) hx hb dX7_station_22 (by rw [q_22_0]; decide) (by rw [q_22_0]; decide) (by rw [q_22_0]; rfl) (by decide) ?_
      refine lv_aload_n hx hb dX7_station_52 rfl (lv_at hl 0 rfl) ?_
      refine r_get F h (C := RX5) (T := TX5) (N := 5) (hjc hi_X5) rfl ((hB.2.2.2.2 (wN x) (by omega)).1) 0 (by decide) (List.mem_cons_of_mem _ wd_163) rfl dX7_station_53 ?_
      exact ret_i F h (Nat.zero_le _) (Nat.zero_le _) dX7_station_56 (⟨((show sq_X7_station R x y sc = R (69 + 3 * wN x) by rw [sq_X7_station, if_neg (c := (inI x 0 (R 4 - 1)) = 0) b_5, if_pos (c := y = 0) q_22_0])).symm, rfl, rfl⟩)
    by_cases q_22_1 : y = 1
    · skip
      refine lv_tableIn (off := 35) (tgt := 57) hx hb dX7_station_22 (by rw [q_22_1]; decide) (by rw [q_22_1]; decide) (by rw [q_22_1]; rfl) (by decide) ?_
      refine lv_aload_n hx hb dX7_station_57 rfl (lv_at hl 0 rfl) ?_
      refine r_get F h (C := RX5) (T := TX5) (N := 5) (hjc hi_X5) rfl ((hB.2.2.2.2 (wN x) (by omega)).1) 1 (by decide) (List.mem_cons_of_mem _ wd_165) rfl dX7_station_58 ?_
      exact ret_i F h (Nat.zero_le _) (Nat.zero_le _) dX7_station_61 (⟨((show sq_X7_station R x y sc = R (69 + 3 * wN x + 1) by rw [sq_X7_station, if_neg (c := (inI x 0 (R 4 - 1)) = 0) b_5, if_neg (c := y = 0) q_22_0, if_pos (c := y = 1) q_22_1])).symm, rfl, rfl⟩)
    by_cases q_22_2 : y = 2
    · skip
      refine lv_tableIn (off := 40) (tgt := 62) hx hb dX7_station_22 (by rw [q_22_2]; decide) (by rw [q_22_2]; decide) (by rw [q_22_2]; rfl) (by decide) ?_
      refine lv_aload_n hx hb dX7_station_62 rfl (lv_at hl 0 rfl) ?_
      refine r_get F h (C := RX5) (T := TX5) (N := 5) (hjc hi_X5) rfl ((hB.2.2.2.2 (wN x) (by omega)).1) 2 (by decide) (List.mem_cons_of_mem _ wd_168) rfl dX7_station_63 ?_
      refine lv_if_eq (tgt := 76) hx hb dX7_station_66 (by decide) (fun b_66 => ?_) (fun b_66 => ?_)
      · skip
        refine lv_ldc (v := (-100005)) hx hb F.2.2.2.1 (F.2.2.2.2.1 (Cond.constant RX7 123 (-100005)) (List.mem_cons_of_mem _ wd_377)) dX7_station_76 ?_
        exact ret_i F h (Nat.zero_le _) (Nat.zero_le _) dX7_station_78 (⟨((show sq_X7_station R x y sc = (-100005) by rw [sq_X7_station, if_neg (c := (inI x 0 (R 4 - 1)) = 0) b_5, if_neg (c := y = 0) q_22_0, if_neg (c := y = 1) q_22_1, if_pos (c := y = 2) q_22_2, if_pos (c := R (204 + wN x) = 0) b_66])).symm, rfl, rfl⟩)
      refine lv_aload_n hx hb dX7_station_69 rfl (lv_at hl 0 rfl) ?_
      refine r_get F h (C := RX5) (T := TX5) (N := 5) (hjc hi_X5) rfl ((hB.2.2.2.2 (wN x) (by omega)).1) 3 (by decide) (List.mem_cons_of_mem _ wd_170) rfl dX7_station_70 ?_
      refine lv_goto (tgt := 78) hx hb dX7_station_73 (by decide) ?_
      exact ret_i F h (Nat.zero_le _) (Nat.zero_le _) dX7_station_78 (⟨((show sq_X7_station R x y sc = R (69 + 3 * wN x + 2) by rw [sq_X7_station, if_neg (c := (inI x 0 (R 4 - 1)) = 0) b_5, if_neg (c := y = 0) q_22_0, if_neg (c := y = 1) q_22_1, if_pos (c := y = 2) q_22_2, if_neg (c := R (204 + wN x) = 0) b_66])).symm, rfl, rfl⟩)
    by_cases q_22_3 : y = 3
    · skip
      refine lv_tableIn (off := 57) (tgt := 79) hx hb dX7_station_22 (by rw [q_22_3]; decide) (by rw [q_22_3]; decide) (by rw [q_22_3]; rfl) (by decide) ?_
      refine lv_aload_n hx hb dX7_station_79 rfl (lv_at hl 0 rfl) ?_
      refine u_iE (v := (ctI (fun v => R (84 + 6 * (4 * (wN x) + v) + 0)) 4)) (ru_V (As := []) (rest := []) F h ((hB.2.2.2.2 (wN x) (by omega)).1) rfl (k_X5_validObservations l g n c (1 + 13 + 6 * (wN x)) _ _ _ _ _ (hB.2.2.2.2 (wN x) (by omega))) (gV hjl wd_588 wd_412 wd_413 wd_20 wd_414) rfl 0 (by decide +kernel) rfl ⟨Nat.le_of_ble_eq_true rfl, Nat.le_of_ble_eq_true rfl⟩ rfl hl.1 (Nat.le_of_ble_eq_true rfl) ⟨Nat.zero_le _, Nat.zero_le _⟩ dX7_station_80) h (fun H locs h => ?_)
      exact ret_i F h (Nat.zero_le _) (Nat.zero_le _) dX7_station_83 (⟨((show sq_X7_station R x y sc = (ctI (fun v => R (84 + 6 * (4 * (wN x) + v) + 0)) 4) by rw [sq_X7_station, if_neg (c := (inI x 0 (R 4 - 1)) = 0) b_5, if_neg (c := y = 0) q_22_0, if_neg (c := y = 1) q_22_1, if_neg (c := y = 2) q_22_2, if_pos (c := y = 3) q_22_3])).symm, rfl, rfl⟩)
    refine lv_tableOut (tgt := 84) hx hb dX7_station_22 (by have z0 : ¬ (y).toInt = 0 := fun z => q_22_0 ((i_eq _ _).mpr z); have z1 : ¬ (y).toInt = 1 := fun z => q_22_1 ((i_eq _ _).mpr z); have z2 : ¬ (y).toInt = 2 := fun z => q_22_2 ((i_eq _ _).mpr z); have z3 : ¬ (y).toInt = 3 := fun z => q_22_3 ((i_eq _ _).mpr z); omega) (by decide) ?_
    refine lv_ldc (v := (-100002)) hx hb F.2.2.2.1 (F.2.2.2.2.1 (Cond.constant RX7 47 (-100002)) (List.mem_cons_of_mem _ wd_281)) dX7_station_84 ?_
    exact ret_i F h (Nat.zero_le _) (Nat.zero_le _) dX7_station_86 (⟨((show sq_X7_station R x y sc = (-100002) by rw [sq_X7_station, if_neg (c := (inI x 0 (R 4 - 1)) = 0) b_5, if_neg (c := y = 0) q_22_0, if_neg (c := y = 1) q_22_1, if_neg (c := y = 2) q_22_2, if_neg (c := y = 3) q_22_3])).symm, rfl, rfl⟩)
  refine lv_ldc (v := (-100001)) hx hb F.2.2.2.1 (F.2.2.2.2.1 (Cond.constant RX7 42 (-100001)) (List.mem_cons_of_mem _ wd_280)) dX7_station_8 ?_
  exact ret_i F h (Nat.zero_le _) (Nat.zero_le _) dX7_station_10 (⟨((show sq_X7_station R x y sc = (-100001) by rw [sq_X7_station, if_pos (c := (inI x 0 (R 4 - 1)) = 0) b_5])).symm, rfl, rfl⟩)
def sq_X7_observation (R : Nat → Int32)  (x y z : Int32) (sc : Nat) : Int32 := if (inI x 0 (R 4 - 1)) = 0 then ((-100001)) else (if (inI y 0 3) = 0 then ((-100001)) else (if (inI z 0 4) = 0 then ((-100002)) else (if R (84 + 6 * (4 * wN x + wN y) + 0) = 0 then ((-100005)) else ((prO (fun q => R (84 + 6 * (4 * wN x + wN y) + q)) z)))))
set_option maxHeartbeats 4000000 in
set_option maxRecDepth 100000 in
theorem k_X7_observation (l : Launch) (g : Gf) (n : Nat) (c : Mp) (lh : Nat) (ru rs : Int32) (hP : c 0 = plC g (nI lh) ru rs) (R : Nat → Int32) (hB : Bk g c 1 R) (x y z : Int32) (sc : Nat) (hsc : R 4 = nI sc) (h5 : sc ≤ 5) : Ct l g yX7_observation wsX7_observation 2 43 0 0 [.ref (gz g + 0), .int x, .int y, .int z] n c (Qi g (fun xr n' c' => xr = sq_X7_observation R x y z sc ∧ n' = n ∧ c' = c)) := by
  refine ent (by decide) rfl (Nat.le_of_ble_eq_true rfl) ?_
  intro p e s m args below meth c0 F h ls hl
  have hx := F.1
  have hb := F.2.1
  have hl : lv_has ls 5 [(0, .ref (gz g + 0)), (1, .int x), (2, .int y), (3, .int z)] := hl
  refine lv_aload_n hx hb dX7_observation_0 rfl (lv_at hl 0 rfl) ?_
  refine lv_iload_n hx hb dX7_observation_1 rfl (lv_at hl 1 rfl) ?_
  refine u_iE (v := (inI x 0 (R 4 - 1))) (ru_V (As := [.int x]) (rest := []) F h hP rfl (k_X7_isStation l g n c lh ru rs hP R hB x ) (gV hjl wd_522 wd_524 wd_5 wd_16 wd_525) rfl 1 (by decide +kernel) rfl ⟨Nat.le_of_ble_eq_true rfl, Nat.le_of_ble_eq_true rfl⟩ rfl hl.1 (Nat.le_of_ble_eq_true rfl) ⟨Nat.zero_le _, Nat.zero_le _⟩ dX7_observation_2) h (fun H locs h => ?_)
  refine lv_if_eq (tgt := 15) hx hb dX7_observation_5 (by decide) (fun b_5 => ?_) (fun b_5 => ?_)
  · skip
    refine lv_ldc (v := (-100001)) hx hb F.2.2.2.1 (F.2.2.2.2.1 (Cond.constant RX7 42 (-100001)) (List.mem_cons_of_mem _ wd_280)) dX7_observation_15 ?_
    exact ret_i F h (Nat.zero_le _) (Nat.zero_le _) dX7_observation_17 (⟨((show sq_X7_observation R x y z sc = (-100001) by rw [sq_X7_observation, if_pos (c := (inI x 0 (R 4 - 1)) = 0) b_5])).symm, rfl, rfl⟩)
  refine lv_iload_n hx hb dX7_observation_8 rfl (lv_at hl 2 rfl) ?_
  refine u_iE (v := (inI y 0 3)) (ru_S (As := [.int y]) (rest := []) F h (k_X7_isWire l g n c y) (gS hjl wd_274 wd_275 wd_16 wd_276) rfl 1 (by decide +kernel) rfl ⟨Nat.le_of_ble_eq_true rfl, Nat.le_of_ble_eq_true rfl⟩ rfl hl.1 (Nat.le_of_ble_eq_true rfl) ⟨Nat.zero_le _, Nat.zero_le _⟩ dX7_observation_9) h (fun H locs h => ?_)
  refine lv_if_ne (tgt := 18) hx hb dX7_observation_12 (by decide) (fun b_12 => ?_) (fun b_12 => ?_)
  · skip
    have h_x := isS_w hsc h5 b_5
    have h4_x : wN x < 5 := by omega
    have hl : lv_has ls 5 [(0, .ref (gz g + 0)), (1, .int (nI (wN x))), (2, .int y), (3, .int z)] := by rw [show (nI (wN x) : Int32) = x from h_x.2]; exact hl
    have h_y := inI_w (N := 3) (by decide) b_12
    have h4_y : wN y < 4 := h_y.1
    have hl : lv_has ls 5 [(0, .ref (gz g + 0)), (1, .int (nI (wN x))), (2, .int (nI (wN y))), (3, .int z)] := by rw [show (nI (wN y) : Int32) = y from h_y.2]; exact hl
    refine lv_iload_n hx hb dX7_observation_18 rfl (lv_at hl 3 rfl) ?_
    refine lv_iconst (v := 0) hx hb dX7_observation_19 (by decide) ?_
    refine lv_iconst (v := 4) hx hb dX7_observation_20 (by decide) ?_
    refine u_iE (v := (inI z 0 4)) (ru_S (As := [.int z, .int 0, .int 4]) (rest := []) F h (k_X7_isWithin l g n c z 0 4) (gS hjl wd_277 wd_278 wd_16 wd_279) rfl 3 (by decide +kernel) rfl ⟨Nat.le_of_ble_eq_true rfl, Nat.le_of_ble_eq_true rfl⟩ rfl hl.1 (Nat.le_of_ble_eq_true rfl) ⟨Nat.zero_le _, Nat.zero_le _⟩ dX7_observation_21) h (fun H locs h => ?_)
    refine lv_if_ne (tgt := 30) hx hb dX7_observation_24 (by decide) (fun b_24 => ?_) (fun b_24 => ?_)
    · skip
      refine lv_aload_n hx hb dX7_observation_30 rfl (lv_at hl 0 rfl) ?_
      refine r_get F h (C := RX7) (T := TX7) (N := 8) (hjc hi_X7) rfl hP 0 (by decide) (List.mem_cons_of_mem _ wd_245) rfl dX7_observation_31 ?_
      refine r_get F h (C := RX4) (T := TX4) (N := 8) (hjc hi_X4) rfl hB.1 3 (by decide) (List.mem_cons_of_mem _ wd_192) rfl dX7_observation_34 ?_
      refine lv_iload_n hx hb dX7_observation_37 rfl (lv_at hl 1 rfl) ?_
      refine r_aald F h (C := RX5) hB.2.2.2.1 (t0 := 6) rfl (vp_in_nI (show wN x < 5 by omega) (by decide)) (a := gz g + (1 + 13 + 6 * wN x)) (qs_at (fun k => some (gz g + (1 + 13 + 6 * k))) (by omega)) dX7_observation_38 ?_
      refine r_get F h (C := RX5) (T := TX5) (N := 5) (hjc hi_X5) rfl ((hB.2.2.2.2 (wN x) (by omega)).1) 4 (by decide) (List.mem_cons_of_mem _ wd_173) rfl dX7_observation_39 ?_
      refine lv_iload_n hx hb dX7_observation_42 rfl (lv_at hl 2 rfl) ?_
      refine r_aald F h (C := RX1) ((hB.2.2.2.2 (wN x) (by omega)).2.1) (t0 := 7) rfl (vp_in_nI (show wN y < 4 by omega) (by decide)) (a := gz g + (1 + 13 + 6 * wN x + 2 + wN y)) (qs_at (fun k => some (gz g + (1 + 13 + 6 * wN x + 2 + k))) (by omega)) dX7_observation_43 ?_
      refine lv_astore (lv' := [(4, .ref (gz g + (1 + 13 + 6 * wN x + 2 + wN y))), (0, .ref (gz g + 0)), (1, .int (nI (wN x))), (2, .int (nI (wN y))), (3, .int z)]) hx hb dX7_observation_44 hl (by decide) rfl (fun ls hl => ?_)
      refine lv_aload hx hb dX7_observation_46 (lv_at hl 0 rfl) ?_
      refine r_get F h (C := RX1) (T := TX1) (N := 6) (hjc hi_X1) rfl ((hB.2.2.2.2 (wN x) (by omega)).2.2 (wN y) (by omega)) 0 (by decide) (List.mem_cons_of_mem _ wd_134) rfl dX7_observation_48 ?_
      refine lv_if_ne (tgt := 57) hx hb dX7_observation_51 (by decide) (fun b_51 => ?_) (fun b_51 => ?_)
      · skip
        refine lv_aload hx hb dX7_observation_57 (lv_at hl 0 rfl) ?_
        refine lv_iload_n hx hb dX7_observation_59 rfl (lv_at hl 4 rfl) ?_
        refine u_iE (v := (prO (fun q => R (84 + 6 * (4 * wN x + wN y) + q)) z)) (ru_V (As := [.int z]) (rest := []) F h ((hB.2.2.2.2 (wN x) (by omega)).2.2 (wN y) (by omega)) rfl (k_X1_property l g n c (1 + 13 + 6 * wN x + 2 + wN y) (fun q => R (84 + 6 * (4 * wN x + wN y) + q)) ((hB.2.2.2.2 (wN x) (by omega)).2.2 (wN y) (by omega)) z) (gV hjl wd_526 wd_527 wd_528 wd_21 wd_529) rfl 1 (by decide +kernel) rfl ⟨Nat.le_of_ble_eq_true rfl, Nat.le_of_ble_eq_true rfl⟩ rfl hl.1 (Nat.le_of_ble_eq_true rfl) ⟨Nat.zero_le _, Nat.zero_le _⟩ dX7_observation_60) h (fun H locs h => ?_)
        exact ret_i F h (Nat.zero_le _) (Nat.zero_le _) dX7_observation_63 (⟨((show sq_X7_observation R x y z sc = (prO (fun q => R (84 + 6 * (4 * wN x + wN y) + q)) z) by rw [sq_X7_observation, if_neg (c := (inI x 0 (R 4 - 1)) = 0) b_5, if_neg (c := (inI y 0 3) = 0) b_12, if_neg (c := (inI z 0 4) = 0) b_24, if_neg (c := R (84 + 6 * (4 * wN x + wN y) + 0) = 0) b_51])).symm, rfl, rfl⟩)
      refine lv_ldc (v := (-100005)) hx hb F.2.2.2.1 (F.2.2.2.2.1 (Cond.constant RX7 123 (-100005)) (List.mem_cons_of_mem _ wd_377)) dX7_observation_54 ?_
      exact ret_i F h (Nat.zero_le _) (Nat.zero_le _) dX7_observation_56 (⟨((show sq_X7_observation R x y z sc = (-100005) by rw [sq_X7_observation, if_neg (c := (inI x 0 (R 4 - 1)) = 0) b_5, if_neg (c := (inI y 0 3) = 0) b_12, if_neg (c := (inI z 0 4) = 0) b_24, if_pos (c := R (84 + 6 * (4 * wN x + wN y) + 0) = 0) b_51])).symm, rfl, rfl⟩)
    refine lv_ldc (v := (-100002)) hx hb F.2.2.2.1 (F.2.2.2.2.1 (Cond.constant RX7 47 (-100002)) (List.mem_cons_of_mem _ wd_281)) dX7_observation_27 ?_
    exact ret_i F h (Nat.zero_le _) (Nat.zero_le _) dX7_observation_29 (⟨((show sq_X7_observation R x y z sc = (-100002) by rw [sq_X7_observation, if_neg (c := (inI x 0 (R 4 - 1)) = 0) b_5, if_neg (c := (inI y 0 3) = 0) b_12, if_pos (c := (inI z 0 4) = 0) b_24])).symm, rfl, rfl⟩)
  refine lv_ldc (v := (-100001)) hx hb F.2.2.2.1 (F.2.2.2.2.1 (Cond.constant RX7 42 (-100001)) (List.mem_cons_of_mem _ wd_280)) dX7_observation_15 ?_
  exact ret_i F h (Nat.zero_le _) (Nat.zero_le _) dX7_observation_17 (⟨((show sq_X7_observation R x y z sc = (-100001) by rw [sq_X7_observation, if_neg (c := (inI x 0 (R 4 - 1)) = 0) b_5, if_pos (c := (inI y 0 3) = 0) b_12])).symm, rfl, rfl⟩)
def sq_X7_bearing (R : Nat → Int32)  (x y : Int32) : Int32 := if (inI x (-20000) 20000) = 0 then ((-100002)) else (if (inI y (-20000) 20000) = 0 then ((-100002)) else (if x = 0 then (if y = 0 then ((-100002)) else ((sq_X7_bearingOf x.toInt64 y.toInt64))) else ((sq_X7_bearingOf x.toInt64 y.toInt64))))
set_option maxHeartbeats 4000000 in
set_option maxRecDepth 100000 in
theorem k_X7_bearing (l : Launch) (g : Gf) (n : Nat) (c : Mp) (lh : Nat) (ru rs : Int32) (hP : c 0 = plC g (nI lh) ru rs) (R : Nat → Int32) (hB : Bk g c 1 R) (x y : Int32) : Ct l g yX7_bearing wsX7_bearing 2 46 0 0 [.ref (gz g + 0), .int x, .int y] n c (Qi g (fun xr n' c' => xr = sq_X7_bearing R x y ∧ n' = n ∧ c' = c)) := by
  refine ent (by decide) rfl (Nat.le_of_ble_eq_true rfl) ?_
  intro p e s m args below meth c0 F h ls hl
  have hx := F.1
  have hb := F.2.1
  have hl : lv_has ls 3 [(0, .ref (gz g + 0)), (1, .int x), (2, .int y)] := hl
  refine lv_iload_n hx hb dX7_bearing_0 rfl (lv_at hl 1 rfl) ?_
  refine lv_sipush (v := (-20000)) hx hb dX7_bearing_1 (by decide) ?_
  refine lv_sipush (v := 20000) hx hb dX7_bearing_4 (by decide) ?_
  refine u_iE (v := (inI x (-20000) 20000)) (ru_S (As := [.int x, .int (-20000), .int 20000]) (rest := []) F h (k_X7_isWithin l g n c x (-20000) 20000) (gS hjl wd_277 wd_278 wd_16 wd_279) rfl 3 (by decide +kernel) rfl ⟨Nat.le_of_ble_eq_true rfl, Nat.le_of_ble_eq_true rfl⟩ rfl hl.1 (Nat.le_of_ble_eq_true rfl) ⟨Nat.zero_le _, Nat.zero_le _⟩ dX7_bearing_7) h (fun H locs h => ?_)
  refine lv_if_eq (tgt := 34) hx hb dX7_bearing_10 (by decide) (fun b_10 => ?_) (fun b_10 => ?_)
  · skip
    refine lv_ldc (v := (-100002)) hx hb F.2.2.2.1 (F.2.2.2.2.1 (Cond.constant RX7 47 (-100002)) (List.mem_cons_of_mem _ wd_281)) dX7_bearing_34 ?_
    exact ret_i F h (Nat.zero_le _) (Nat.zero_le _) dX7_bearing_36 (⟨((show sq_X7_bearing R x y = (-100002) by rw [sq_X7_bearing, if_pos (c := (inI x (-20000) 20000) = 0) b_10])).symm, rfl, rfl⟩)
  refine lv_iload_n hx hb dX7_bearing_13 rfl (lv_at hl 2 rfl) ?_
  refine lv_sipush (v := (-20000)) hx hb dX7_bearing_14 (by decide) ?_
  refine lv_sipush (v := 20000) hx hb dX7_bearing_17 (by decide) ?_
  refine u_iE (v := (inI y (-20000) 20000)) (ru_S (As := [.int y, .int (-20000), .int 20000]) (rest := []) F h (k_X7_isWithin l g n c y (-20000) 20000) (gS hjl wd_277 wd_278 wd_16 wd_279) rfl 3 (by decide +kernel) rfl ⟨Nat.le_of_ble_eq_true rfl, Nat.le_of_ble_eq_true rfl⟩ rfl hl.1 (Nat.le_of_ble_eq_true rfl) ⟨Nat.zero_le _, Nat.zero_le _⟩ dX7_bearing_20) h (fun H locs h => ?_)
  refine lv_if_eq (tgt := 34) hx hb dX7_bearing_23 (by decide) (fun b_23 => ?_) (fun b_23 => ?_)
  · skip
    refine lv_ldc (v := (-100002)) hx hb F.2.2.2.1 (F.2.2.2.2.1 (Cond.constant RX7 47 (-100002)) (List.mem_cons_of_mem _ wd_281)) dX7_bearing_34 ?_
    exact ret_i F h (Nat.zero_le _) (Nat.zero_le _) dX7_bearing_36 (⟨((show sq_X7_bearing R x y = (-100002) by rw [sq_X7_bearing, if_neg (c := (inI x (-20000) 20000) = 0) b_10, if_pos (c := (inI y (-20000) 20000) = 0) b_23])).symm, rfl, rfl⟩)
  refine lv_iload_n hx hb dX7_bearing_26 rfl (lv_at hl 1 rfl) ?_
  refine lv_if_ne (tgt := 37) hx hb dX7_bearing_27 (by decide) (fun b_27 => ?_) (fun b_27 => ?_)
  · skip
    refine lv_iload_n hx hb dX7_bearing_37 rfl (lv_at hl 1 rfl) ?_
    refine lv_i2l hx hb dX7_bearing_38 rfl ?_
    refine lv_iload_n hx hb dX7_bearing_39 rfl (lv_at hl 2 rfl) ?_
    refine lv_i2l hx hb dX7_bearing_40 rfl ?_
    refine u_iE (v := (sq_X7_bearingOf x.toInt64 y.toInt64)) (ru_S (As := [.long x.toInt64, .long y.toInt64]) (rest := []) F h (k_X7_bearingOf l g n c x.toInt64 y.toInt64) (gS hjl wd_433 wd_434 wd_16 wd_435) rfl 2 (by decide +kernel) rfl ⟨Nat.le_of_ble_eq_true rfl, Nat.le_of_ble_eq_true rfl⟩ rfl hl.1 (Nat.le_of_ble_eq_true rfl) ⟨Nat.zero_le _, Nat.zero_le _⟩ dX7_bearing_41) h (fun H locs h => ?_)
    exact ret_i F h (Nat.zero_le _) (Nat.zero_le _) dX7_bearing_44 (⟨((show sq_X7_bearing R x y = (sq_X7_bearingOf x.toInt64 y.toInt64) by rw [sq_X7_bearing, if_neg (c := (inI x (-20000) 20000) = 0) b_10, if_neg (c := (inI y (-20000) 20000) = 0) b_23, if_neg (c := x = 0) b_27])).symm, rfl, rfl⟩)
  refine lv_iload_n hx hb dX7_bearing_30 rfl (lv_at hl 2 rfl) ?_
  refine lv_if_ne (tgt := 37) hx hb dX7_bearing_31 (by decide) (fun b_31 => ?_) (fun b_31 => ?_)
  · skip
    refine lv_iload_n hx hb dX7_bearing_37 rfl (lv_at hl 1 rfl) ?_
    refine lv_i2l hx hb dX7_bearing_38 rfl ?_
    refine lv_iload_n hx hb dX7_bearing_39 rfl (lv_at hl 2 rfl) ?_
    refine lv_i2l hx hb dX7_bearing_40 rfl ?_
    refine u_iE (v := (sq_X7_bearingOf x.toInt64 y.toInt64)) (ru_S (As := [.long x.toInt64, .long y.toInt64]) (rest := []) F h (k_X7_bearingOf l g n c x.toInt64 y.toInt64) (gS hjl wd_433 wd_434 wd_16 wd_435) rfl 2 (by decide +kernel) rfl ⟨Nat.le_of_ble_eq_true rfl, Nat.le_of_ble_eq_true rfl⟩ rfl hl.1 (Nat.le_of_ble_eq_true rfl) ⟨Nat.zero_le _, Nat.zero_le _⟩ dX7_bearing_41) h (fun H locs h => ?_)
    exact ret_i F h (Nat.zero_le _) (Nat.zero_le _) dX7_bearing_44 (⟨((show sq_X7_bearing R x y = (sq_X7_bearingOf x.toInt64 y.toInt64) by rw [sq_X7_bearing, if_neg (c := (inI x (-20000) 20000) = 0) b_10, if_neg (c := (inI y (-20000) 20000) = 0) b_23, if_pos (c := x = 0) b_27, if_neg (c := y = 0) b_31])).symm, rfl, rfl⟩)
  refine lv_ldc (v := (-100002)) hx hb F.2.2.2.1 (F.2.2.2.2.1 (Cond.constant RX7 47 (-100002)) (List.mem_cons_of_mem _ wd_281)) dX7_bearing_34 ?_
  exact ret_i F h (Nat.zero_le _) (Nat.zero_le _) dX7_bearing_36 (⟨((show sq_X7_bearing R x y = (-100002) by rw [sq_X7_bearing, if_neg (c := (inI x (-20000) 20000) = 0) b_10, if_neg (c := (inI y (-20000) 20000) = 0) b_23, if_pos (c := x = 0) b_27, if_pos (c := y = 0) b_31])).symm, rfl, rfl⟩)
def sq_X7_surface (R : Nat → Int32)  (x : Int32) : Int32 := if (inI x 0 1) = 0 then ((-100001)) else (if (sq_X7_isPairHung R (wN x)) = 0 then ((-100005)) else (if (sq_X7_isPairAtOnePlace R (wN x)) = 0 then ((sq_X7_surfaceBearing R (wN x))) else ((-100005))))
set_option maxHeartbeats 4000000 in
set_option maxRecDepth 100000 in
theorem k_X7_surface (l : Launch) (g : Gf) (n : Nat) (c : Mp) (lh : Nat) (ru rs : Int32) (hP : c 0 = plC g (nI lh) ru rs) (R : Nat → Int32) (hB : Bk g c 1 R) (x : Int32) : Ct l g yX7_surface wsX7_surface 3 69 0 0 [.ref (gz g + 0), .int x] n c (Qi g (fun xr n' c' => xr = sq_X7_surface R x ∧ n' = n ∧ c' = c)) := by
  refine ent (by decide) rfl (Nat.le_of_ble_eq_true rfl) ?_
  intro p e s m args below meth c0 F h ls hl
  have hx := F.1
  have hb := F.2.1
  have hl : lv_has ls 2 [(0, .ref (gz g + 0)), (1, .int x)] := hl
  refine lv_iload_n hx hb dX7_surface_0 rfl (lv_at hl 1 rfl) ?_
  refine u_iE (v := (inI x 0 1)) (ru_S (As := [.int x]) (rest := []) F h (k_X7_isPair l g n c x) (gS hjl wd_534 wd_535 wd_16 wd_536) rfl 1 (by decide +kernel) rfl ⟨Nat.le_of_ble_eq_true rfl, Nat.le_of_ble_eq_true rfl⟩ rfl hl.1 (Nat.le_of_ble_eq_true rfl) ⟨Nat.zero_le _, Nat.zero_le _⟩ dX7_surface_1) h (fun H locs h => ?_)
  refine lv_if_ne (tgt := 10) hx hb dX7_surface_4 (by decide) (fun b_4 => ?_) (fun b_4 => ?_)
  · skip
    have h_x := inI_w (N := 1) (by decide) b_4
    have h4_x : wN x < 2 := h_x.1
    have hl : lv_has ls 2 [(0, .ref (gz g + 0)), (1, .int (nI (wN x)))] := by rw [show (nI (wN x) : Int32) = x from h_x.2]; exact hl
    refine lv_aload_n hx hb dX7_surface_10 rfl (lv_at hl 0 rfl) ?_
    refine lv_iload_n hx hb dX7_surface_11 rfl (lv_at hl 1 rfl) ?_
    refine u_iE (v := (sq_X7_isPairHung R (wN x))) (ru_V (As := [.int (nI (wN x))]) (rest := []) F h hP rfl (k_X7_isPairHung l g n c lh ru rs hP R hB (wN x) (by omega)) (gV hjl wd_537 wd_539 wd_6 wd_16 wd_540) rfl 1 (by decide +kernel) rfl ⟨Nat.le_of_ble_eq_true rfl, Nat.le_of_ble_eq_true rfl⟩ rfl hl.1 (Nat.le_of_ble_eq_true rfl) ⟨Nat.zero_le _, Nat.zero_le _⟩ dX7_surface_12) h (fun H locs h => ?_)
    refine lv_if_eq (tgt := 26) hx hb dX7_surface_15 (by decide) (fun b_15 => ?_) (fun b_15 => ?_)
    · skip
      refine lv_ldc (v := (-100005)) hx hb F.2.2.2.1 (F.2.2.2.2.1 (Cond.constant RX7 123 (-100005)) (List.mem_cons_of_mem _ wd_377)) dX7_surface_26 ?_
      exact ret_i F h (Nat.zero_le _) (Nat.zero_le _) dX7_surface_28 (⟨((show sq_X7_surface R x = (-100005) by rw [sq_X7_surface, if_neg (c := (inI x 0 1) = 0) b_4, if_pos (c := (sq_X7_isPairHung R (wN x)) = 0) b_15])).symm, rfl, rfl⟩)
    refine lv_aload_n hx hb dX7_surface_18 rfl (lv_at hl 0 rfl) ?_
    refine lv_iload_n hx hb dX7_surface_19 rfl (lv_at hl 1 rfl) ?_
    refine u_iE (v := (sq_X7_isPairAtOnePlace R (wN x))) (ru_V (As := [.int (nI (wN x))]) (rest := []) F h hP rfl (k_X7_isPairAtOnePlace l g n c lh ru rs hP R hB (wN x) (by omega)) (gV hjl wd_549 wd_551 wd_9 wd_16 wd_552) rfl 1 (by decide +kernel) rfl ⟨Nat.le_of_ble_eq_true rfl, Nat.le_of_ble_eq_true rfl⟩ rfl hl.1 (Nat.le_of_ble_eq_true rfl) ⟨Nat.zero_le _, Nat.zero_le _⟩ dX7_surface_20) h (fun H locs h => ?_)
    refine lv_if_eq (tgt := 29) hx hb dX7_surface_23 (by decide) (fun b_23 => ?_) (fun b_23 => ?_)
    · skip
      refine lv_aload_n hx hb dX7_surface_29 rfl (lv_at hl 0 rfl) ?_
      refine lv_iload_n hx hb dX7_surface_30 rfl (lv_at hl 1 rfl) ?_
      refine u_iE (v := (sq_X7_surfaceBearing R (wN x))) (ru_V (As := [.int (nI (wN x))]) (rest := []) F h hP rfl (k_X7_surfaceBearing l g n c lh ru rs hP R hB (wN x) (by omega)) (gV hjl wd_553 wd_555 wd_10 wd_16 wd_556) rfl 1 (by decide +kernel) rfl ⟨Nat.le_of_ble_eq_true rfl, Nat.le_of_ble_eq_true rfl⟩ rfl hl.1 (Nat.le_of_ble_eq_true rfl) ⟨Nat.zero_le _, Nat.zero_le _⟩ dX7_surface_31) h (fun H locs h => ?_)
      exact ret_i F h (Nat.zero_le _) (Nat.zero_le _) dX7_surface_34 (⟨((show sq_X7_surface R x = (sq_X7_surfaceBearing R (wN x)) by rw [sq_X7_surface, if_neg (c := (inI x 0 1) = 0) b_4, if_neg (c := (sq_X7_isPairHung R (wN x)) = 0) b_15, if_pos (c := (sq_X7_isPairAtOnePlace R (wN x)) = 0) b_23])).symm, rfl, rfl⟩)
    refine lv_ldc (v := (-100005)) hx hb F.2.2.2.1 (F.2.2.2.2.1 (Cond.constant RX7 123 (-100005)) (List.mem_cons_of_mem _ wd_377)) dX7_surface_26 ?_
    exact ret_i F h (Nat.zero_le _) (Nat.zero_le _) dX7_surface_28 (⟨((show sq_X7_surface R x = (-100005) by rw [sq_X7_surface, if_neg (c := (inI x 0 1) = 0) b_4, if_neg (c := (sq_X7_isPairHung R (wN x)) = 0) b_15, if_neg (c := (sq_X7_isPairAtOnePlace R (wN x)) = 0) b_23])).symm, rfl, rfl⟩)
  refine lv_ldc (v := (-100001)) hx hb F.2.2.2.1 (F.2.2.2.2.1 (Cond.constant RX7 42 (-100001)) (List.mem_cons_of_mem _ wd_280)) dX7_surface_7 ?_
  exact ret_i F h (Nat.zero_le _) (Nat.zero_le _) dX7_surface_9 (⟨((show sq_X7_surface R x = (-100001) by rw [sq_X7_surface, if_pos (c := (inI x 0 1) = 0) b_4])).symm, rfl, rfl⟩)
def sq_X7_given (R : Nat → Int32)  (x y : Int32) (sc : Nat) : Int32 := if (inI x 0 (R 4 - 1)) = 0 then ((-100001)) else (if (inI y 0 1) = 0 then ((-100001)) else (if (sq_X7_reasonAgainst R (wN x) (wN y)) = 0 then ((sq_X7_orientationFrom R (wN x) (wN y))) else ((-100005))))
set_option maxHeartbeats 4000000 in
set_option maxRecDepth 100000 in
theorem k_X7_given (l : Launch) (g : Gf) (n : Nat) (c : Mp) (lh : Nat) (ru rs : Int32) (hP : c 0 = plC g (nI lh) ru rs) (R : Nat → Int32) (hB : Bk g c 1 R) (x y : Int32) (sc : Nat) (hsc : R 4 = nI sc) (h5 : sc ≤ 5) : Ct l g yX7_given wsX7_given 4 95 0 0 [.ref (gz g + 0), .int x, .int y] n c (Qi g (fun xr n' c' => xr = sq_X7_given R x y sc ∧ n' = n ∧ c' = c)) := by
  refine ent (by decide) rfl (Nat.le_of_ble_eq_true rfl) ?_
  intro p e s m args below meth c0 F h ls hl
  have hx := F.1
  have hb := F.2.1
  have hl : lv_has ls 3 [(0, .ref (gz g + 0)), (1, .int x), (2, .int y)] := hl
  refine lv_aload_n hx hb dX7_given_0 rfl (lv_at hl 0 rfl) ?_
  refine lv_iload_n hx hb dX7_given_1 rfl (lv_at hl 1 rfl) ?_
  refine u_iE (v := (inI x 0 (R 4 - 1))) (ru_V (As := [.int x]) (rest := []) F h hP rfl (k_X7_isStation l g n c lh ru rs hP R hB x ) (gV hjl wd_522 wd_524 wd_5 wd_16 wd_525) rfl 1 (by decide +kernel) rfl ⟨Nat.le_of_ble_eq_true rfl, Nat.le_of_ble_eq_true rfl⟩ rfl hl.1 (Nat.le_of_ble_eq_true rfl) ⟨Nat.zero_le _, Nat.zero_le _⟩ dX7_given_2) h (fun H locs h => ?_)
  refine lv_if_eq (tgt := 15) hx hb dX7_given_5 (by decide) (fun b_5 => ?_) (fun b_5 => ?_)
  · skip
    refine lv_ldc (v := (-100001)) hx hb F.2.2.2.1 (F.2.2.2.2.1 (Cond.constant RX7 42 (-100001)) (List.mem_cons_of_mem _ wd_280)) dX7_given_15 ?_
    exact ret_i F h (Nat.zero_le _) (Nat.zero_le _) dX7_given_17 (⟨((show sq_X7_given R x y sc = (-100001) by rw [sq_X7_given, if_pos (c := (inI x 0 (R 4 - 1)) = 0) b_5])).symm, rfl, rfl⟩)
  refine lv_iload_n hx hb dX7_given_8 rfl (lv_at hl 2 rfl) ?_
  refine u_iE (v := (inI y 0 1)) (ru_S (As := [.int y]) (rest := []) F h (k_X7_isPair l g n c y) (gS hjl wd_534 wd_535 wd_16 wd_536) rfl 1 (by decide +kernel) rfl ⟨Nat.le_of_ble_eq_true rfl, Nat.le_of_ble_eq_true rfl⟩ rfl hl.1 (Nat.le_of_ble_eq_true rfl) ⟨Nat.zero_le _, Nat.zero_le _⟩ dX7_given_9) h (fun H locs h => ?_)
  refine lv_if_ne (tgt := 18) hx hb dX7_given_12 (by decide) (fun b_12 => ?_) (fun b_12 => ?_)
  · skip
    have h_x := isS_w hsc h5 b_5
    have h4_x : wN x < 5 := by omega
    have hl : lv_has ls 3 [(0, .ref (gz g + 0)), (1, .int (nI (wN x))), (2, .int y)] := by rw [show (nI (wN x) : Int32) = x from h_x.2]; exact hl
    have h_y := inI_w (N := 1) (by decide) b_12
    have h4_y : wN y < 2 := h_y.1
    have hl : lv_has ls 3 [(0, .ref (gz g + 0)), (1, .int (nI (wN x))), (2, .int (nI (wN y)))] := by rw [show (nI (wN y) : Int32) = y from h_y.2]; exact hl
    refine lv_aload_n hx hb dX7_given_18 rfl (lv_at hl 0 rfl) ?_
    refine lv_iload_n hx hb dX7_given_19 rfl (lv_at hl 1 rfl) ?_
    refine lv_iload_n hx hb dX7_given_20 rfl (lv_at hl 2 rfl) ?_
    refine u_iE (v := (sq_X7_reasonAgainst R (wN x) (wN y))) (ru_V (As := [.int (nI (wN x)), .int (nI (wN y))]) (rest := []) F h hP rfl (k_X7_reasonAgainst l g n c lh ru rs hP R hB (wN x) (wN y) (by omega) (by omega)) (gV hjl wd_561 wd_563 wd_11 wd_16 wd_564) rfl 2 (by decide +kernel) rfl ⟨Nat.le_of_ble_eq_true rfl, Nat.le_of_ble_eq_true rfl⟩ rfl hl.1 (Nat.le_of_ble_eq_true rfl) ⟨Nat.zero_le _, Nat.zero_le _⟩ dX7_given_21) h (fun H locs h => ?_)
    refine lv_if_eq (tgt := 30) hx hb dX7_given_24 (by decide) (fun b_24 => ?_) (fun b_24 => ?_)
    · skip
      refine lv_aload_n hx hb dX7_given_30 rfl (lv_at hl 0 rfl) ?_
      refine lv_iload_n hx hb dX7_given_31 rfl (lv_at hl 1 rfl) ?_
      refine lv_iload_n hx hb dX7_given_32 rfl (lv_at hl 2 rfl) ?_
      refine u_iE (v := (sq_X7_orientationFrom R (wN x) (wN y))) (ru_V (As := [.int (nI (wN x)), .int (nI (wN y))]) (rest := []) F h hP rfl (k_X7_orientationFrom l g n c lh ru rs hP R hB (wN x) (wN y) (by omega) (by omega)) (gV hjl wd_573 wd_575 wd_14 wd_16 wd_576) rfl 2 (by decide +kernel) rfl ⟨Nat.le_of_ble_eq_true rfl, Nat.le_of_ble_eq_true rfl⟩ rfl hl.1 (Nat.le_of_ble_eq_true rfl) ⟨Nat.zero_le _, Nat.zero_le _⟩ dX7_given_33) h (fun H locs h => ?_)
      exact ret_i F h (Nat.zero_le _) (Nat.zero_le _) dX7_given_36 (⟨((show sq_X7_given R x y sc = (sq_X7_orientationFrom R (wN x) (wN y)) by rw [sq_X7_given, if_neg (c := (inI x 0 (R 4 - 1)) = 0) b_5, if_neg (c := (inI y 0 1) = 0) b_12, if_pos (c := (sq_X7_reasonAgainst R (wN x) (wN y)) = 0) b_24])).symm, rfl, rfl⟩)
    refine lv_ldc (v := (-100005)) hx hb F.2.2.2.1 (F.2.2.2.2.1 (Cond.constant RX7 123 (-100005)) (List.mem_cons_of_mem _ wd_377)) dX7_given_27 ?_
    exact ret_i F h (Nat.zero_le _) (Nat.zero_le _) dX7_given_29 (⟨((show sq_X7_given R x y sc = (-100005) by rw [sq_X7_given, if_neg (c := (inI x 0 (R 4 - 1)) = 0) b_5, if_neg (c := (inI y 0 1) = 0) b_12, if_neg (c := (sq_X7_reasonAgainst R (wN x) (wN y)) = 0) b_24])).symm, rfl, rfl⟩)
  refine lv_ldc (v := (-100001)) hx hb F.2.2.2.1 (F.2.2.2.2.1 (Cond.constant RX7 42 (-100001)) (List.mem_cons_of_mem _ wd_280)) dX7_given_15 ?_
  exact ret_i F h (Nat.zero_le _) (Nat.zero_le _) dX7_given_17 (⟨((show sq_X7_given R x y sc = (-100001) by rw [sq_X7_given, if_neg (c := (inI x 0 (R 4 - 1)) = 0) b_5, if_pos (c := (inI y 0 1) = 0) b_12])).symm, rfl, rfl⟩)
abbrev otC (g : Gf) (T ct pl : Int32) : Option va_E := some (.inr (2, [.ref (gz g + 349), .int T, .ref (gz g + 350), .ref (gz g + 351), .int ct, .int pl]))
def sq_X7_count (lh : Nat) (rs : Int32) (R : Nat → Int32) (T : Nat) (x : Int32) (sc : Nat) : Int32 := if x = 0 then (R 0) else (if x = 1 then ((ctI (fun v => R (5 + 11 * v)) 4)) else (if x = 2 then (R 3) else (if x = 3 then (R 4) else (if x = 4 then ((ctI (fun v => R (204 + v)) sc)) else (if x = 5 then ((vsI R sc)) else (if x = 6 then (R 1) else (if x = 7 then (R 2) else (if x = 8 then (rs) else (if x = 9 then (nI lh) else (if x = 10 then (nI T) else ((-100002))))))))))))
set_option maxHeartbeats 4000000 in
set_option maxRecDepth 100000 in
theorem k_X7_count (l : Launch) (g : Gf) (n : Nat) (c : Mp) (lh : Nat) (ru rs : Int32) (hP : c 0 = plC g (nI lh) ru rs) (R : Nat → Int32) (hB : Bk g c 1 R) (T : Nat) (hT7 : T ≤ 70) (ct pl : Int32) (hO : c 348 = otC g (nI T) ct pl) (x : Int32) (sc : Nat) (hsc : R 4 = nI sc) (h5 : sc ≤ 5) : Ct l g yX7_count wsX7_count 2 44 0 0 [.ref (gz g + 0), .int x] n c (Qi g (fun xr n' c' => xr = sq_X7_count lh rs R T x sc ∧ n' = n ∧ c' = c)) := by
  refine ent (by decide) rfl (Nat.le_of_ble_eq_true rfl) ?_
  intro p e s m args below meth c0 F h ls hl
  have hx := F.1
  have hb := F.2.1
  have hl : lv_has ls 2 [(0, .ref (gz g + 0)), (1, .int x)] := hl
  refine lv_iload_n hx hb dX7_count_0 rfl (lv_at hl 1 rfl) ?_
  by_cases q_1_0 : x = 0
  · skip
    refine lv_tableIn (off := 59) (tgt := 60) hx hb dX7_count_1 (by rw [q_1_0]; decide) (by rw [q_1_0]; decide) (by rw [q_1_0]; rfl) (by decide) ?_
    refine lv_aload_n hx hb dX7_count_60 rfl (lv_at hl 0 rfl) ?_
    refine r_get F h (C := RX7) (T := TX7) (N := 8) (hjc hi_X7) rfl hP 0 (by decide) (List.mem_cons_of_mem _ wd_245) rfl dX7_count_61 ?_
    refine r_get F h (C := RX4) (T := TX4) (N := 8) (hjc hi_X4) rfl hB.1 5 (by decide) (List.mem_cons_of_mem _ wd_196) rfl dX7_count_64 ?_
    exact ret_i F h (Nat.zero_le _) (Nat.zero_le _) dX7_count_67 (⟨((show sq_X7_count lh rs R T x sc = R 0 by rw [sq_X7_count, if_pos (c := x = 0) q_1_0])).symm, rfl, rfl⟩)
  by_cases q_1_1 : x = 1
  · skip
    refine lv_tableIn (off := 67) (tgt := 68) hx hb dX7_count_1 (by rw [q_1_1]; decide) (by rw [q_1_1]; decide) (by rw [q_1_1]; rfl) (by decide) ?_
    refine lv_aload_n hx hb dX7_count_68 rfl (lv_at hl 0 rfl) ?_
    refine r_get F h (C := RX7) (T := TX7) (N := 8) (hjc hi_X7) rfl hP 0 (by decide) (List.mem_cons_of_mem _ wd_245) rfl dX7_count_69 ?_
    refine u_iE (v := (ctI (fun v => R (5 + 11 * v)) 4)) (ru_V (As := []) (rest := []) F h hB.1 rfl (k_X4_hungWires l g n c 1 R hB ) (gV hjl wd_322 wd_323 wd_324 wd_17 wd_325) rfl 0 (by decide +kernel) rfl ⟨Nat.le_of_ble_eq_true rfl, Nat.le_of_ble_eq_true rfl⟩ rfl hl.1 (Nat.le_of_ble_eq_true rfl) ⟨Nat.zero_le _, Nat.zero_le _⟩ dX7_count_72) h (fun H locs h => ?_)
    exact ret_i F h (Nat.zero_le _) (Nat.zero_le _) dX7_count_75 (⟨((show sq_X7_count lh rs R T x sc = (ctI (fun v => R (5 + 11 * v)) 4) by rw [sq_X7_count, if_neg (c := x = 0) q_1_0, if_pos (c := x = 1) q_1_1])).symm, rfl, rfl⟩)
  by_cases q_1_2 : x = 2
  · skip
    refine lv_tableIn (off := 75) (tgt := 76) hx hb dX7_count_1 (by rw [q_1_2]; decide) (by rw [q_1_2]; decide) (by rw [q_1_2]; rfl) (by decide) ?_
    refine lv_aload_n hx hb dX7_count_76 rfl (lv_at hl 0 rfl) ?_
    refine r_get F h (C := RX7) (T := TX7) (N := 8) (hjc hi_X7) rfl hP 0 (by decide) (List.mem_cons_of_mem _ wd_245) rfl dX7_count_77 ?_
    refine r_get F h (C := RX4) (T := TX4) (N := 8) (hjc hi_X4) rfl hB.1 2 (by decide) (List.mem_cons_of_mem _ wd_190) rfl dX7_count_80 ?_
    exact ret_i F h (Nat.zero_le _) (Nat.zero_le _) dX7_count_83 (⟨((show sq_X7_count lh rs R T x sc = R 3 by rw [sq_X7_count, if_neg (c := x = 0) q_1_0, if_neg (c := x = 1) q_1_1, if_pos (c := x = 2) q_1_2])).symm, rfl, rfl⟩)
  by_cases q_1_3 : x = 3
  · skip
    refine lv_tableIn (off := 83) (tgt := 84) hx hb dX7_count_1 (by rw [q_1_3]; decide) (by rw [q_1_3]; decide) (by rw [q_1_3]; rfl) (by decide) ?_
    refine lv_aload_n hx hb dX7_count_84 rfl (lv_at hl 0 rfl) ?_
    refine r_get F h (C := RX7) (T := TX7) (N := 8) (hjc hi_X7) rfl hP 0 (by decide) (List.mem_cons_of_mem _ wd_245) rfl dX7_count_85 ?_
    refine r_get F h (C := RX4) (T := TX4) (N := 8) (hjc hi_X4) rfl hB.1 4 (by decide) (List.mem_cons_of_mem _ wd_194) rfl dX7_count_88 ?_
    exact ret_i F h (Nat.zero_le _) (Nat.zero_le _) dX7_count_91 (⟨((show sq_X7_count lh rs R T x sc = R 4 by rw [sq_X7_count, if_neg (c := x = 0) q_1_0, if_neg (c := x = 1) q_1_1, if_neg (c := x = 2) q_1_2, if_pos (c := x = 3) q_1_3])).symm, rfl, rfl⟩)
  by_cases q_1_4 : x = 4
  · skip
    refine lv_tableIn (off := 91) (tgt := 92) hx hb dX7_count_1 (by rw [q_1_4]; decide) (by rw [q_1_4]; decide) (by rw [q_1_4]; rfl) (by decide) ?_
    refine lv_aload_n hx hb dX7_count_92 rfl (lv_at hl 0 rfl) ?_
    refine r_get F h (C := RX7) (T := TX7) (N := 8) (hjc hi_X7) rfl hP 0 (by decide) (List.mem_cons_of_mem _ wd_245) rfl dX7_count_93 ?_
    refine u_iE (v := (ctI (fun v => R (204 + v)) sc)) (ru_V (As := []) (rest := []) F h hB.1 rfl (k_X4_orientedStations l g n c 1 R hB sc hsc h5) (gV hjl wd_403 wd_404 wd_405 wd_17 wd_406) rfl 0 (by decide +kernel) rfl ⟨Nat.le_of_ble_eq_true rfl, Nat.le_of_ble_eq_true rfl⟩ rfl hl.1 (Nat.le_of_ble_eq_true rfl) ⟨Nat.zero_le _, Nat.zero_le _⟩ dX7_count_96) h (fun H locs h => ?_)
    exact ret_i F h (Nat.zero_le _) (Nat.zero_le _) dX7_count_99 (⟨((show sq_X7_count lh rs R T x sc = (ctI (fun v => R (204 + v)) sc) by rw [sq_X7_count, if_neg (c := x = 0) q_1_0, if_neg (c := x = 1) q_1_1, if_neg (c := x = 2) q_1_2, if_neg (c := x = 3) q_1_3, if_pos (c := x = 4) q_1_4])).symm, rfl, rfl⟩)
  by_cases q_1_5 : x = 5
  · skip
    refine lv_tableIn (off := 99) (tgt := 100) hx hb dX7_count_1 (by rw [q_1_5]; decide) (by rw [q_1_5]; decide) (by rw [q_1_5]; rfl) (by decide) ?_
    refine lv_aload_n hx hb dX7_count_100 rfl (lv_at hl 0 rfl) ?_
    refine r_get F h (C := RX7) (T := TX7) (N := 8) (hjc hi_X7) rfl hP 0 (by decide) (List.mem_cons_of_mem _ wd_245) rfl dX7_count_101 ?_
    refine u_iE (v := (vsI R sc)) (ru_V (As := []) (rest := []) F h hB.1 rfl (k_X4_validObservations l g n c 1 R hB sc hsc h5) (gV hjl wd_407 wd_408 wd_409 wd_17 wd_410) rfl 0 (by decide +kernel) rfl ⟨Nat.le_of_ble_eq_true rfl, Nat.le_of_ble_eq_true rfl⟩ rfl hl.1 (Nat.le_of_ble_eq_true rfl) ⟨Nat.zero_le _, Nat.zero_le _⟩ dX7_count_104) h (fun H locs h => ?_)
    exact ret_i F h (Nat.zero_le _) (Nat.zero_le _) dX7_count_107 (⟨((show sq_X7_count lh rs R T x sc = (vsI R sc) by rw [sq_X7_count, if_neg (c := x = 0) q_1_0, if_neg (c := x = 1) q_1_1, if_neg (c := x = 2) q_1_2, if_neg (c := x = 3) q_1_3, if_neg (c := x = 4) q_1_4, if_pos (c := x = 5) q_1_5])).symm, rfl, rfl⟩)
  by_cases q_1_6 : x = 6
  · skip
    refine lv_tableIn (off := 107) (tgt := 108) hx hb dX7_count_1 (by rw [q_1_6]; decide) (by rw [q_1_6]; decide) (by rw [q_1_6]; rfl) (by decide) ?_
    refine lv_aload_n hx hb dX7_count_108 rfl (lv_at hl 0 rfl) ?_
    refine r_get F h (C := RX7) (T := TX7) (N := 8) (hjc hi_X7) rfl hP 0 (by decide) (List.mem_cons_of_mem _ wd_245) rfl dX7_count_109 ?_
    refine r_get F h (C := RX4) (T := TX4) (N := 8) (hjc hi_X4) rfl hB.1 6 (by decide) (List.mem_cons_of_mem _ wd_198) rfl dX7_count_112 ?_
    exact ret_i F h (Nat.zero_le _) (Nat.zero_le _) dX7_count_115 (⟨((show sq_X7_count lh rs R T x sc = R 1 by rw [sq_X7_count, if_neg (c := x = 0) q_1_0, if_neg (c := x = 1) q_1_1, if_neg (c := x = 2) q_1_2, if_neg (c := x = 3) q_1_3, if_neg (c := x = 4) q_1_4, if_neg (c := x = 5) q_1_5, if_pos (c := x = 6) q_1_6])).symm, rfl, rfl⟩)
  by_cases q_1_7 : x = 7
  · skip
    refine lv_tableIn (off := 115) (tgt := 116) hx hb dX7_count_1 (by rw [q_1_7]; decide) (by rw [q_1_7]; decide) (by rw [q_1_7]; rfl) (by decide) ?_
    refine lv_aload_n hx hb dX7_count_116 rfl (lv_at hl 0 rfl) ?_
    refine r_get F h (C := RX7) (T := TX7) (N := 8) (hjc hi_X7) rfl hP 0 (by decide) (List.mem_cons_of_mem _ wd_245) rfl dX7_count_117 ?_
    refine r_get F h (C := RX4) (T := TX4) (N := 8) (hjc hi_X4) rfl hB.1 7 (by decide) (List.mem_cons_of_mem _ wd_200) rfl dX7_count_120 ?_
    exact ret_i F h (Nat.zero_le _) (Nat.zero_le _) dX7_count_123 (⟨((show sq_X7_count lh rs R T x sc = R 2 by rw [sq_X7_count, if_neg (c := x = 0) q_1_0, if_neg (c := x = 1) q_1_1, if_neg (c := x = 2) q_1_2, if_neg (c := x = 3) q_1_3, if_neg (c := x = 4) q_1_4, if_neg (c := x = 5) q_1_5, if_neg (c := x = 6) q_1_6, if_pos (c := x = 7) q_1_7])).symm, rfl, rfl⟩)
  by_cases q_1_8 : x = 8
  · skip
    refine lv_tableIn (off := 123) (tgt := 124) hx hb dX7_count_1 (by rw [q_1_8]; decide) (by rw [q_1_8]; decide) (by rw [q_1_8]; rfl) (by decide) ?_
    refine lv_aload_n hx hb dX7_count_124 rfl (lv_at hl 0 rfl) ?_
    refine r_get F h (C := RX7) (T := TX7) (N := 8) (hjc hi_X7) rfl hP 7 (by decide) (List.mem_cons_of_mem _ wd_252) rfl dX7_count_125 ?_
    exact ret_i F h (Nat.zero_le _) (Nat.zero_le _) dX7_count_128 (⟨((show sq_X7_count lh rs R T x sc = rs by rw [sq_X7_count, if_neg (c := x = 0) q_1_0, if_neg (c := x = 1) q_1_1, if_neg (c := x = 2) q_1_2, if_neg (c := x = 3) q_1_3, if_neg (c := x = 4) q_1_4, if_neg (c := x = 5) q_1_5, if_neg (c := x = 6) q_1_6, if_neg (c := x = 7) q_1_7, if_pos (c := x = 8) q_1_8])).symm, rfl, rfl⟩)
  by_cases q_1_9 : x = 9
  · skip
    refine lv_tableIn (off := 128) (tgt := 129) hx hb dX7_count_1 (by rw [q_1_9]; decide) (by rw [q_1_9]; decide) (by rw [q_1_9]; rfl) (by decide) ?_
    refine lv_aload_n hx hb dX7_count_129 rfl (lv_at hl 0 rfl) ?_
    refine r_get F h (C := RX7) (T := TX7) (N := 8) (hjc hi_X7) rfl hP 2 (by decide) (List.mem_cons_of_mem _ wd_247) rfl dX7_count_130 ?_
    exact ret_i F h (Nat.zero_le _) (Nat.zero_le _) dX7_count_133 (⟨((show sq_X7_count lh rs R T x sc = nI lh by rw [sq_X7_count, if_neg (c := x = 0) q_1_0, if_neg (c := x = 1) q_1_1, if_neg (c := x = 2) q_1_2, if_neg (c := x = 3) q_1_3, if_neg (c := x = 4) q_1_4, if_neg (c := x = 5) q_1_5, if_neg (c := x = 6) q_1_6, if_neg (c := x = 7) q_1_7, if_neg (c := x = 8) q_1_8, if_pos (c := x = 9) q_1_9])).symm, rfl, rfl⟩)
  by_cases q_1_10 : x = 10
  · skip
    refine lv_tableIn (off := 133) (tgt := 134) hx hb dX7_count_1 (by rw [q_1_10]; decide) (by rw [q_1_10]; decide) (by rw [q_1_10]; rfl) (by decide) ?_
    refine lv_aload_n hx hb dX7_count_134 rfl (lv_at hl 0 rfl) ?_
    refine r_get F h (C := RX7) (T := TX7) (N := 8) (hjc hi_X7) rfl hP 5 (by decide) (List.mem_cons_of_mem _ wd_250) rfl dX7_count_135 ?_
    refine r_get F h (C := RX2) (T := TX2) (N := 6) (hjc hi_X2) rfl hO 1 (by decide) (List.mem_cons_of_mem _ wd_226) rfl dX7_count_138 ?_
    exact ret_i F h (Nat.zero_le _) (Nat.zero_le _) dX7_count_141 (⟨((show sq_X7_count lh rs R T x sc = nI T by rw [sq_X7_count, if_neg (c := x = 0) q_1_0, if_neg (c := x = 1) q_1_1, if_neg (c := x = 2) q_1_2, if_neg (c := x = 3) q_1_3, if_neg (c := x = 4) q_1_4, if_neg (c := x = 5) q_1_5, if_neg (c := x = 6) q_1_6, if_neg (c := x = 7) q_1_7, if_neg (c := x = 8) q_1_8, if_neg (c := x = 9) q_1_9, if_pos (c := x = 10) q_1_10])).symm, rfl, rfl⟩)
  refine lv_tableOut (tgt := 142) hx hb dX7_count_1 (by have z0 : ¬ (x).toInt = 0 := fun z => q_1_0 ((i_eq _ _).mpr z); have z1 : ¬ (x).toInt = 1 := fun z => q_1_1 ((i_eq _ _).mpr z); have z2 : ¬ (x).toInt = 2 := fun z => q_1_2 ((i_eq _ _).mpr z); have z3 : ¬ (x).toInt = 3 := fun z => q_1_3 ((i_eq _ _).mpr z); have z4 : ¬ (x).toInt = 4 := fun z => q_1_4 ((i_eq _ _).mpr z); have z5 : ¬ (x).toInt = 5 := fun z => q_1_5 ((i_eq _ _).mpr z); have z6 : ¬ (x).toInt = 6 := fun z => q_1_6 ((i_eq _ _).mpr z); have z7 : ¬ (x).toInt = 7 := fun z => q_1_7 ((i_eq _ _).mpr z); have z8 : ¬ (x).toInt = 8 := fun z => q_1_8 ((i_eq _ _).mpr z); have z9 : ¬ (x).toInt = 9 := fun z => q_1_9 ((i_eq _ _).mpr z); have z10 : ¬ (x).toInt = 10 := fun z => q_1_10 ((i_eq _ _).mpr z); omega) (by decide) ?_
  refine lv_ldc (v := (-100002)) hx hb F.2.2.2.1 (F.2.2.2.2.1 (Cond.constant RX7 47 (-100002)) (List.mem_cons_of_mem _ wd_281)) dX7_count_142 ?_
  exact ret_i F h (Nat.zero_le _) (Nat.zero_le _) dX7_count_144 (⟨((show sq_X7_count lh rs R T x sc = (-100002) by rw [sq_X7_count, if_neg (c := x = 0) q_1_0, if_neg (c := x = 1) q_1_1, if_neg (c := x = 2) q_1_2, if_neg (c := x = 3) q_1_3, if_neg (c := x = 4) q_1_4, if_neg (c := x = 5) q_1_5, if_neg (c := x = 6) q_1_6, if_neg (c := x = 7) q_1_7, if_neg (c := x = 8) q_1_8, if_neg (c := x = 9) q_1_9, if_neg (c := x = 10) q_1_10])).symm, rfl, rfl⟩)
