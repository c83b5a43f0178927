/-! The law: where a wire is. -/
set_option maxHeartbeats 4000000 in
set_option maxRecDepth 100000 in
theorem k_L_at (l : Launch) (g : Gf) (n : Nat) (c : Mp) {lh : Nat} {rs : Int32} {R : Nat → Int32} {hq : Nat → Nat → Int32} (hWd : Wd g c lh rs R hq) {sc cn tb : Nat} (J : Jv R sc cn tb) (w : Nat) (hw4 : w < 4) (h1 : R (5 + 11 * w + 0) = 1) (z : Int32) (hz : Bt z 0 800) (hd : z.toInt ≤ (R (5 + 11 * w + 4)).toInt) (a : Nat) (ha : a < 2) (am ph : Int32) : Ct l g yL_at wsL_at 4 101 0 0 [.ref (gz g + 0), .int (nI w), .int z, .int (nI a), .int am, .int ph] n c (Qi g (fun xr n' c' => xr = reS R w z (nI a) cn + (acL (R (5 + 11 * w + 8)) (nI a) * (swL am ((4 * qdI (R (5 + 11 * w + 4))) / 4) ph * z / R (5 + 11 * w + 4))) ∧ n' = n ∧ c' = c)) := by
  have gw := J.wg hw4 h1
  have g4 := gw.2.2.2.1
  refine ent (by decide) rfl (Nat.le_of_ble_eq_true rfl) ?_
  intro p e s m args below meth c0 F h ls hl
  have hx := F.1
  have hb := F.2.1
  have hl : lv_has ls 7 [(0, .ref (gz g + 0)), (1, .int (nI w)), (2, .int z), (3, .int (nI a)), (4, .int am), (5, .int ph)] := hl
  refine lv_aload_n hx hb dL_at_0 rfl (lv_at hl 0 rfl) ?_
  refine lv_iload_n hx hb dL_at_1 rfl (lv_at hl 1 rfl) ?_
  refine lv_iconst (v := 3) hx hb dL_at_2 (by decide) ?_
  refine u_iE (v := R (5 + 11 * w + 4)) (ru_V (As := [.int (nI w), .int 3]) (rest := []) F h hWd.1 rfl (kw_wire l g n c hWd J (nI w) 3 (v := R (5 + 11 * w + 4)) (wi_3 hw4 h1)) (gV hjl wd_390 wd_391 wd_392 wd_16 wd_393) rfl 2 (by decide +kernel) rfl ⟨Nat.le_of_ble_eq_true rfl, Nat.le_of_ble_eq_true rfl⟩ rfl hl.1 (Nat.le_of_ble_eq_true rfl) ⟨Nat.zero_le _, Nat.zero_le _⟩ dL_at_3) h (fun H locs h => ?_)
  refine lv_istore (lv' := [(6, .int (R (5 + 11 * w + 4))), (0, .ref (gz g + 0)), (1, .int (nI w)), (2, .int z), (3, .int (nI a)), (4, .int am), (5, .int ph)]) hx hb dL_at_6 hl (by decide) rfl (fun ls hl => ?_)
  refine lv_aload_n hx hb dL_at_8 rfl (lv_at hl 1 rfl) ?_
  refine lv_iload_n hx hb dL_at_9 rfl (lv_at hl 2 rfl) ?_
  refine lv_iload_n hx hb dL_at_10 rfl (lv_at hl 3 rfl) ?_
  refine lv_iload_n hx hb dL_at_11 rfl (lv_at hl 4 rfl) ?_
  refine u_iE (v := reS R w z (nI a) cn) (ru_V (As := [.int (nI w), .int z, .int (nI a)]) (rest := []) F h hWd.1 rfl (kw_rest l g n c hWd J (nI w) z (nI a) (v := reS R w z (nI a) cn) (re_v hw4 h1 hz ha hd)) (gV hjl wd_447 wd_448 wd_449 wd_16 wd_450) rfl 3 (by decide +kernel) rfl ⟨Nat.le_of_ble_eq_true rfl, Nat.le_of_ble_eq_true rfl⟩ rfl hl.1 (Nat.le_of_ble_eq_true rfl) ⟨Nat.zero_le _, Nat.zero_le _⟩ dL_at_12) h (fun H locs h => ?_)
  refine lv_aload_n hx hb dL_at_15 rfl (lv_at hl 1 rfl) ?_
  refine lv_iload_n hx hb dL_at_16 rfl (lv_at hl 2 rfl) ?_
  refine lv_bipush (v := 7) hx hb dL_at_17 (by decide) ?_
  refine u_iE (v := R (5 + 11 * w + 8)) (ru_V (As := [.int (nI w), .int 7]) (rest := [.int (reS R w z (nI a) cn)]) F h hWd.1 rfl (kw_wire l g n c hWd J (nI w) 7 (v := R (5 + 11 * w + 8)) (wi_7 hw4 h1)) (gV hjl wd_390 wd_391 wd_392 wd_16 wd_393) rfl 2 (by decide +kernel) rfl ⟨Nat.le_of_ble_eq_true rfl, Nat.le_of_ble_eq_true rfl⟩ rfl hl.1 (Nat.le_of_ble_eq_true rfl) ⟨Nat.zero_le _, Nat.zero_le _⟩ dL_at_19) h (fun H locs h => ?_)
  refine lv_iload_n hx hb dL_at_22 rfl (lv_at hl 4 rfl) ?_
  refine u_iE (v := (acL (R (5 + 11 * w + 8)) (nI a))) (ru_S (As := [.int (R (5 + 11 * w + 8)), .int (nI a)]) (rest := [.int (reS R w z (nI a) cn)]) F h (k_L_across l g n c (R (5 + 11 * w + 8)) (nI a)) (gS hjl wd_505 wd_506 wd_15 wd_507) rfl 2 (by decide +kernel) rfl ⟨Nat.le_of_ble_eq_true rfl, Nat.le_of_ble_eq_true rfl⟩ rfl hl.1 (Nat.le_of_ble_eq_true rfl) ⟨Nat.zero_le _, Nat.zero_le _⟩ dL_at_23) h (fun H locs h => ?_)
  refine lv_iload hx hb dL_at_26 (lv_at hl 5 rfl) ?_
  refine lv_aload_n hx hb dL_at_28 rfl (lv_at hl 1 rfl) ?_
  refine lv_iload_n hx hb dL_at_29 rfl (lv_at hl 2 rfl) ?_
  refine lv_bipush (v := 10) hx hb dL_at_30 (by decide) ?_
  refine u_iE (v := 4 * qdI (R (5 + 11 * w + 4))) (ru_V (As := [.int (nI w), .int 10]) (rest := [.int am, .int (acL (R (5 + 11 * w + 8)) (nI a)), .int (reS R w z (nI a) cn)]) F h hWd.1 rfl (kw_wire l g n c hWd J (nI w) 10 (v := 4 * qdI (R (5 + 11 * w + 4))) (wi_10 hw4 h1)) (gV hjl wd_390 wd_391 wd_392 wd_16 wd_393) rfl 2 (by decide +kernel) rfl ⟨Nat.le_of_ble_eq_true rfl, Nat.le_of_ble_eq_true rfl⟩ rfl hl.1 (Nat.le_of_ble_eq_true rfl) ⟨Nat.zero_le _, Nat.zero_le _⟩ dL_at_32) h (fun H locs h => ?_)
  refine lv_iconst (v := 4) hx hb dL_at_35 (by decide) ?_
  refine lv_idiv hx hb dL_at_36 (by decide) ?_
  refine lv_iload hx hb dL_at_37 (lv_at hl 6 rfl) ?_
  refine u_iE (v := (swL am (4 * qdI (R (5 + 11 * w + 4)) / 4) ph)) (ru_S (As := [.int am, .int (4 * qdI (R (5 + 11 * w + 4)) / 4), .int ph]) (rest := [.int (acL (R (5 + 11 * w + 8)) (nI a)), .int (reS R w z (nI a) cn)]) F h (k_L_swing l g n c am (4 * qdI (R (5 + 11 * w + 4)) / 4) ph (qd_440 g4)) (gS hjl wd_508 wd_509 wd_15 wd_510) rfl 3 (by decide +kernel) rfl ⟨Nat.le_of_ble_eq_true rfl, Nat.le_of_ble_eq_true rfl⟩ rfl hl.1 (Nat.le_of_ble_eq_true rfl) ⟨Nat.zero_le _, Nat.zero_le _⟩ dL_at_39) h (fun H locs h => ?_)
  refine lv_iload_n hx hb dL_at_42 rfl (lv_at hl 3 rfl) ?_
  refine lv_imul hx hb dL_at_43 ?_
  refine lv_iload hx hb dL_at_44 (lv_at hl 0 rfl) ?_
  refine lv_idiv hx hb dL_at_46 (bt_n0 g4 (by decide)) ?_
  refine lv_imul hx hb dL_at_47 ?_
  refine lv_iadd hx hb dL_at_48 ?_
  exact ret_i F h (Nat.zero_le _) (Nat.zero_le _) dL_at_49 (⟨rfl, rfl, rfl⟩)
