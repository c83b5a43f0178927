/-! The law: observations. -/
set_option maxHeartbeats 4000000 in
set_option maxRecDepth 100000 in
theorem k_L_observes (l : Launch) (g : Gf) (n : Nat) (c : Mp) {lh : Nat} {rs : Int32} {R : Nat → Int32} {hq : Nat → Nat → Int32} (hWd : Wd g c lh rs R hq) {sc cn tb : Nat} (J : Jv R sc cn tb) (w s1 tz : Nat) (hw4 : w < 4) (hs5 : s1 < sc) (hz1 : 1 ≤ tz) (hz6 : tz ≤ 60) (hn : 352 ≤ n) (ht : tb ≤ 900000000) : Ct l g yL_observes wsL_observes 5 130 5 14 [.ref (gz g + 0), .int (nI w), .int (nI s1), .int (nI tz)] n c (Qi g (fun xr n' c' => xr = 1 ∧ n ≤ n' ∧ ∃ (lh' : Nat) (rs' : Int32) (R' : Nat → Int32) (hq' : Nat → Nat → Int32), Wd g c' lh' rs' R' hq' ∧ Jv R' sc cn (tb + 60))) := by
  have s5 := J.s5
  refine ent (by decide) rfl (Nat.le_of_ble_eq_true rfl) ?_
  intro p e s m args below meth c0 F h ls hl
  have hx := F.1
  have hb := F.2.1
  have hl : lv_has ls 20 [(0, .ref (gz g + 0)), (1, .int (nI w)), (2, .int (nI s1)), (3, .int (nI tz))] := hl
  by_cases h0 : R (5 + 11 * w + 0) = 0
  · skip
    by_cases hv : R (84 + 6 * (4 * s1 + w) + 0) = 0
    · skip
      refine lv_aload_n hx hb dL_observes_0 rfl (lv_at hl 0 rfl) ?_
      refine lv_iconst (v := 0) hx hb dL_observes_1 (by decide) ?_
      refine u_iE (v := R 0) (ru_V (As := [.int 0]) (rest := []) F h hWd.1 rfl (kw_count l g n c hWd J 0 (v := R 0) (rfl)) (gV hjl wd_399 wd_400 wd_401 wd_16 wd_402) rfl 1 (by decide +kernel) rfl ⟨Nat.le_of_ble_eq_true rfl, Nat.le_of_ble_eq_true rfl⟩ rfl hl.1 (Nat.le_of_ble_eq_true rfl) ⟨Nat.zero_le _, Nat.zero_le _⟩ dL_observes_2) h (fun H locs h => ?_)
      refine lv_istore (lv' := [(4, .int (R 0)), (0, .ref (gz g + 0)), (1, .int (nI w)), (2, .int (nI s1)), (3, .int (nI tz))]) hx hb dL_observes_5 hl (by decide) rfl (fun ls hl => ?_)
      refine lv_aload_n hx hb dL_observes_7 rfl (lv_at hl 1 rfl) ?_
      refine lv_bipush (v := 7) hx hb dL_observes_8 (by decide) ?_
      refine u_iE (v := R 2) (ru_V (As := [.int 7]) (rest := []) F h hWd.1 rfl (kw_count l g n c hWd J 7 (v := R 2) (rfl)) (gV hjl wd_399 wd_400 wd_401 wd_16 wd_402) rfl 1 (by decide +kernel) rfl ⟨Nat.le_of_ble_eq_true rfl, Nat.le_of_ble_eq_true rfl⟩ rfl hl.1 (Nat.le_of_ble_eq_true rfl) ⟨Nat.zero_le _, Nat.zero_le _⟩ dL_observes_10) h (fun H locs h => ?_)
      refine lv_istore (lv' := [(5, .int (R 2)), (4, .int (R 0)), (0, .ref (gz g + 0)), (1, .int (nI w)), (2, .int (nI s1)), (3, .int (nI tz))]) hx hb dL_observes_13 hl (by decide) rfl (fun ls hl => ?_)
      refine lv_aload_n hx hb dL_observes_15 rfl (lv_at hl 2 rfl) ?_
      refine lv_iload_n hx hb dL_observes_16 rfl (lv_at hl 4 rfl) ?_
      refine lv_iconst (v := 0) hx hb dL_observes_17 (by decide) ?_
      refine u_iE (v := R (69 + 3 * s1)) (ru_V (As := [.int (nI s1), .int 0]) (rest := []) F h hWd.1 rfl (kw_station l g n c hWd J (nI s1) 0 (v := R (69 + 3 * s1)) (st_0 J.s4 J.s5 hs5)) (gV hjl wd_584 wd_585 wd_586 wd_16 wd_587) rfl 2 (by decide +kernel) rfl ⟨Nat.le_of_ble_eq_true rfl, Nat.le_of_ble_eq_true rfl⟩ rfl hl.1 (Nat.le_of_ble_eq_true rfl) ⟨Nat.zero_le _, Nat.zero_le _⟩ dL_observes_18) h (fun H locs h => ?_)
      refine lv_istore (lv' := [(6, .int (R (69 + 3 * s1))), (5, .int (R 2)), (4, .int (R 0)), (0, .ref (gz g + 0)), (1, .int (nI w)), (2, .int (nI s1)), (3, .int (nI tz))]) hx hb dL_observes_21 hl (by decide) rfl (fun ls hl => ?_)
      refine lv_aload_n hx hb dL_observes_23 rfl (lv_at hl 3 rfl) ?_
      refine lv_iload_n hx hb dL_observes_24 rfl (lv_at hl 4 rfl) ?_
      refine lv_iconst (v := 2) hx hb dL_observes_25 (by decide) ?_
      refine u_iE (v := (-100005)) (ru_V (As := [.int (nI w), .int 2]) (rest := []) F h hWd.1 rfl (kw_wire l g n c hWd J (nI w) 2 (v := (-100005)) (wi_n hw4 h0 (by decide))) (gV hjl wd_390 wd_391 wd_392 wd_16 wd_393) rfl 2 (by decide +kernel) rfl ⟨Nat.le_of_ble_eq_true rfl, Nat.le_of_ble_eq_true rfl⟩ rfl hl.1 (Nat.le_of_ble_eq_true rfl) ⟨Nat.zero_le _, Nat.zero_le _⟩ dL_observes_26) h (fun H locs h => ?_)
      refine lv_if_ge (tgt := 36) hx hb dL_observes_29 (by decide) (fun b_29 => by first | exact absurd b_29 (by decide) | exact absurd (by decide) b_29) (fun b_29 => ?_)
      refine lv_iconst (v := 1) hx hb dL_observes_32 (by decide) ?_
      refine lv_goto (tgt := 52) hx hb dL_observes_33 (by decide) ?_
      refine lv_istore (lv' := [(7, .int 1), (6, .int (R (69 + 3 * s1))), (5, .int (R 2)), (4, .int (R 0)), (0, .ref (gz g + 0)), (1, .int (nI w)), (2, .int (nI s1)), (3, .int (nI tz))]) hx hb dL_observes_52 hl (by decide) rfl (fun ls hl => ?_)
      refine lv_aload_n hx hb dL_observes_54 rfl (lv_at hl 4 rfl) ?_
      refine lv_iload_n hx hb dL_observes_55 rfl (lv_at hl 5 rfl) ?_
      refine lv_bipush (v := 8) hx hb dL_observes_56 (by decide) ?_
      refine u_iE (v := (-100005)) (ru_V (As := [.int (nI w), .int 8]) (rest := []) F h hWd.1 rfl (kw_wire l g n c hWd J (nI w) 8 (v := (-100005)) (wi_n hw4 h0 (by decide))) (gV hjl wd_390 wd_391 wd_392 wd_16 wd_393) rfl 2 (by decide +kernel) rfl ⟨Nat.le_of_ble_eq_true rfl, Nat.le_of_ble_eq_true rfl⟩ rfl hl.1 (Nat.le_of_ble_eq_true rfl) ⟨Nat.zero_le _, Nat.zero_le _⟩ dL_observes_58) h (fun H locs h => ?_)
      refine lv_istore (lv' := [(8, .int (-100005)), (7, .int 1), (6, .int (R (69 + 3 * s1))), (5, .int (R 2)), (4, .int (R 0)), (0, .ref (gz g + 0)), (1, .int (nI w)), (2, .int (nI s1)), (3, .int (nI tz))]) hx hb dL_observes_61 hl (by decide) rfl (fun ls hl => ?_)
      refine lv_aload_n hx hb dL_observes_63 rfl (lv_at hl 5 rfl) ?_
      refine lv_iload_n hx hb dL_observes_64 rfl (lv_at hl 6 rfl) ?_
      refine lv_bipush (v := 9) hx hb dL_observes_65 (by decide) ?_
      refine u_iE (v := (-100005)) (ru_V (As := [.int (nI w), .int 9]) (rest := []) F h hWd.1 rfl (kw_wire l g n c hWd J (nI w) 9 (v := (-100005)) (wi_n hw4 h0 (by decide))) (gV hjl wd_390 wd_391 wd_392 wd_16 wd_393) rfl 2 (by decide +kernel) rfl ⟨Nat.le_of_ble_eq_true rfl, Nat.le_of_ble_eq_true rfl⟩ rfl hl.1 (Nat.le_of_ble_eq_true rfl) ⟨Nat.zero_le _, Nat.zero_le _⟩ dL_observes_67) h (fun H locs h => ?_)
      refine lv_istore (lv' := [(9, .int (-100005)), (8, .int (-100005)), (7, .int 1), (6, .int (R (69 + 3 * s1))), (5, .int (R 2)), (4, .int (R 0)), (0, .ref (gz g + 0)), (1, .int (nI w)), (2, .int (nI s1)), (3, .int (nI tz))]) hx hb dL_observes_70 hl (by decide) rfl (fun ls hl => ?_)
      refine lv_iconst (v := 2) hx hb dL_observes_72 (by decide) ?_
      refine r_newa (atype := .int) (ty := .int) F h (List.mem_cons_of_mem _ wd_244) rfl 0 rfl (fun _ z => z) (N := 2) (a0 := (2, .inl (fun _ => 0))) (vp_cell_i _ _ _) (by decide) (by decide) (by decide) (by decide) (by decide) dL_observes_73 (fun H h => ?_)
      refine lv_astore (lv' := [(10, .ref (gz g + n)), (9, .int (-100005)), (8, .int (-100005)), (7, .int 1), (6, .int (R (69 + 3 * s1))), (5, .int (R 2)), (4, .int (R 0)), (0, .ref (gz g + 0)), (1, .int (nI w)), (2, .int (nI s1)), (3, .int (nI tz))]) hx hb dL_observes_75 hl (by decide) rfl (fun ls hl => ?_)
      refine lv_iconst (v := 2) hx hb dL_observes_77 (by decide) ?_
      refine r_newa (atype := .int) (ty := .int) F h (List.mem_cons_of_mem _ wd_244) rfl 0 rfl (fun _ z => z) (N := 2) (a0 := (2, .inl (fun _ => 0))) (vp_cell_i _ _ _) (by decide) (by decide) (by decide) (by decide) (by decide) dL_observes_78 (fun H h => ?_)
      refine lv_astore (lv' := [(11, .ref (gz g + (n + 1))), (10, .ref (gz g + n)), (9, .int (-100005)), (8, .int (-100005)), (7, .int 1), (6, .int (R (69 + 3 * s1))), (5, .int (R 2)), (4, .int (R 0)), (0, .ref (gz g + 0)), (1, .int (nI w)), (2, .int (nI s1)), (3, .int (nI tz))]) hx hb dL_observes_80 hl (by decide) rfl (fun ls hl => ?_)
      refine lv_iconst (v := 2) hx hb dL_observes_82 (by decide) ?_
      refine r_newa (atype := .int) (ty := .int) F h (List.mem_cons_of_mem _ wd_244) rfl 0 rfl (fun _ z => z) (N := 2) (a0 := (2, .inl (fun _ => 0))) (vp_cell_i _ _ _) (by decide) (by decide) (by decide) (by decide) (by decide) dL_observes_83 (fun H h => ?_)
      refine lv_astore (lv' := [(12, .ref (gz g + (n + 2))), (11, .ref (gz g + (n + 1))), (10, .ref (gz g + n)), (9, .int (-100005)), (8, .int (-100005)), (7, .int 1), (6, .int (R (69 + 3 * s1))), (5, .int (R 2)), (4, .int (R 0)), (0, .ref (gz g + 0)), (1, .int (nI w)), (2, .int (nI s1)), (3, .int (nI tz))]) hx hb dL_observes_85 hl (by decide) rfl (fun ls hl => ?_)
      refine lv_aload_n hx hb dL_observes_87 rfl (lv_at hl 9 rfl) ?_
      refine lv_iload_n hx hb dL_observes_88 rfl (lv_at hl 11 rfl) ?_
      refine lv_iload_n hx hb dL_observes_89 rfl (lv_at hl 10 rfl) ?_
      refine lv_iconst (v := 3) hx hb dL_observes_90 (by decide) ?_
      refine u_iE (v := (-100005)) (ru_V (As := [.int (nI s1), .int (nI w), .int 3]) (rest := []) F h ((mu_ne (by omega) _).trans ((mu_ne (by omega) _).trans ((mu_ne (by omega) _).trans hWd.1))) rfl (kw_observation l g (n + 3) (va_up (va_up (va_up c n (some (.inl (g.2.1 0, 2, .inl (fun _ => 0))))) (n + 1) (some (.inl (g.2.1 0, 2, .inl (fun _ => 0))))) (n + 2) (some (.inl (g.2.1 0, 2, .inl (fun _ => 0))))) (((hWd.up (by omega)).up (by omega)).up (by omega)) J (nI s1) (nI w) 3 (v := (-100005)) (ob_n J.s4 J.s5 hs5 hw4 hv (by decide))) (gV hjl wd_518 wd_519 wd_520 wd_16 wd_521) rfl 3 (by decide +kernel) rfl ⟨Nat.le_of_ble_eq_true rfl, Nat.le_of_ble_eq_true rfl⟩ rfl hl.1 (Nat.le_of_ble_eq_true rfl) ⟨by decide, by decide⟩ dL_observes_91) h (fun H locs h => ?_)
      refine lv_if_lt (tgt := 101) hx hb dL_observes_94 (by decide) (fun b_94 => ?_) (fun b_94 => by first | exact absurd (by decide) b_94 | exact absurd b_94 (by decide))
      refine lv_iconst (v := 1) hx hb dL_observes_101 (by decide) ?_
      refine lv_istore (lv' := [(13, .int 1), (12, .ref (gz g + (n + 2))), (11, .ref (gz g + (n + 1))), (10, .ref (gz g + n)), (9, .int (-100005)), (8, .int (-100005)), (7, .int 1), (6, .int (R (69 + 3 * s1))), (5, .int (R 2)), (4, .int (R 0)), (0, .ref (gz g + 0)), (1, .int (nI w)), (2, .int (nI s1)), (3, .int (nI tz))]) hx hb dL_observes_102 hl (by decide) rfl (fun ls hl => ?_)
      refine lv_aload_n hx hb dL_observes_104 rfl (lv_at hl 10 rfl) ?_
      refine lv_iconst (v := 5) hx hb dL_observes_105 (by decide) ?_
      refine u_iE (v := vsI R sc) (ru_V (As := [.int 5]) (rest := []) F h ((mu_ne (by omega) _).trans ((mu_ne (by omega) _).trans ((mu_ne (by omega) _).trans hWd.1))) rfl (kw_count l g (n + 3) (va_up (va_up (va_up c n (some (.inl (g.2.1 0, 2, .inl (fun _ => 0))))) (n + 1) (some (.inl (g.2.1 0, 2, .inl (fun _ => 0))))) (n + 2) (some (.inl (g.2.1 0, 2, .inl (fun _ => 0))))) (((hWd.up (by omega)).up (by omega)).up (by omega)) J 5 (v := vsI R sc) (rfl)) (gV hjl wd_399 wd_400 wd_401 wd_16 wd_402) rfl 1 (by decide +kernel) rfl ⟨Nat.le_of_ble_eq_true rfl, Nat.le_of_ble_eq_true rfl⟩ rfl hl.1 (Nat.le_of_ble_eq_true rfl) ⟨by decide, by decide⟩ dL_observes_106) h (fun H locs h => ?_)
      refine lv_istore (lv' := [(14, .int (vsI R sc)), (13, .int 1), (12, .ref (gz g + (n + 2))), (11, .ref (gz g + (n + 1))), (10, .ref (gz g + n)), (9, .int (-100005)), (8, .int (-100005)), (7, .int 1), (6, .int (R (69 + 3 * s1))), (5, .int (R 2)), (4, .int (R 0)), (0, .ref (gz g + 0)), (1, .int (nI w)), (2, .int (nI s1)), (3, .int (nI tz))]) hx hb dL_observes_109 hl (by decide) rfl (fun ls hl => ?_)
      refine lv_iconst (v := 0) hx hb dL_observes_111 (by decide) ?_
      refine lv_istore (lv' := [(15, .int 0), (14, .int (vsI R sc)), (13, .int 1), (12, .ref (gz g + (n + 2))), (11, .ref (gz g + (n + 1))), (10, .ref (gz g + n)), (9, .int (-100005)), (8, .int (-100005)), (7, .int 1), (6, .int (R (69 + 3 * s1))), (5, .int (R 2)), (4, .int (R 0)), (0, .ref (gz g + 0)), (1, .int (nI w)), (2, .int (nI s1)), (3, .int (nI tz))]) hx hb dL_observes_112 hl (by decide) rfl (fun ls hl => ?_)
      refine lv_iload hx hb dL_observes_114 (lv_at hl 0 rfl) ?_
      refine lv_iload_n hx hb dL_observes_116 rfl (lv_at hl 15 rfl) ?_
      refine lv_icmp_ge (tgt := 269) hx hb dL_observes_117 (by decide) (fun b_117 => by first | exact absurd b_117 (nI_nle (by omega) (by omega)) | exact absurd (nI_nle (by omega) (by omega)) b_117) (fun b_117 => ?_)
      refine lv_iload hx hb dL_observes_120 (lv_at hl 8 rfl) ?_
      refine lv_if_ne (tgt := 269) hx hb dL_observes_122 (by decide) (fun b_122 => ?_) (fun b_122 => by first | exact absurd (by decide) b_122 | exact absurd b_122 (by decide))
      refine lv_aload hx hb dL_observes_269 (lv_at hl 3 rfl) ?_
      refine lv_iconst (v := 0) hx hb dL_observes_271 (by decide) ?_
      refine r_ialdN F h (k := 0) (mu_eq _ _ _) (rfl) (by omega) (by decide) dL_observes_272 ?_
      refine lv_aload hx hb dL_observes_273 (lv_at hl 4 rfl) ?_
      refine lv_iconst (v := 0) hx hb dL_observes_275 (by decide) ?_
      refine r_ialdN F h (k := 0) ((mu_ne (by omega) _).trans (mu_eq _ _ _)) (rfl) (by omega) (by decide) dL_observes_276 ?_
      refine lv_isub hx hb dL_observes_277 ?_
      refine lv_aload hx hb dL_observes_278 (lv_at hl 3 rfl) ?_
      refine lv_iconst (v := 1) hx hb dL_observes_280 (by decide) ?_
      refine r_ialdN F h (k := 1) (mu_eq _ _ _) (rfl) (by omega) (by decide) dL_observes_281 ?_
      refine lv_aload hx hb dL_observes_282 (lv_at hl 4 rfl) ?_
      refine lv_iconst (v := 1) hx hb dL_observes_284 (by decide) ?_
      refine r_ialdN F h (k := 1) ((mu_ne (by omega) _).trans (mu_eq _ _ _)) (rfl) (by omega) (by decide) dL_observes_285 ?_
      refine lv_isub hx hb dL_observes_286 ?_
      refine lv_icmp_le (tgt := 302) hx hb dL_observes_287 (by decide) (fun b_287 => ?_) (fun b_287 => by first | exact absurd (by decide) b_287 | exact absurd b_287 (by decide))
      refine lv_aload hx hb dL_observes_302 (lv_at hl 3 rfl) ?_
      refine lv_iconst (v := 1) hx hb dL_observes_304 (by decide) ?_
      refine r_ialdN F h (k := 1) (mu_eq _ _ _) (rfl) (by omega) (by decide) dL_observes_305 ?_
      refine lv_aload hx hb dL_observes_306 (lv_at hl 4 rfl) ?_
      refine lv_iconst (v := 1) hx hb dL_observes_308 (by decide) ?_
      refine r_ialdN F h (k := 1) ((mu_ne (by omega) _).trans (mu_eq _ _ _)) (rfl) (by omega) (by decide) dL_observes_309 ?_
      refine lv_isub hx hb dL_observes_310 ?_
      refine lv_istore (lv' := [(15, .int (((fun _ => 0) 1) - ((fun _ => 0) 1))), (14, .int (vsI R sc)), (13, .int 1), (12, .ref (gz g + (n + 2))), (11, .ref (gz g + (n + 1))), (10, .ref (gz g + n)), (9, .int (-100005)), (8, .int (-100005)), (7, .int 1), (6, .int (R (69 + 3 * s1))), (5, .int (R 2)), (4, .int (R 0)), (0, .ref (gz g + 0)), (1, .int (nI w)), (2, .int (nI s1)), (3, .int (nI tz))]) hx hb dL_observes_311 hl (by decide) rfl (fun ls hl => ?_)
      refine lv_aload_n hx hb dL_observes_313 rfl (lv_at hl 12 rfl) ?_
      refine lv_iload_n hx hb dL_observes_314 rfl (lv_at hl 13 rfl) ?_
      refine lv_iload_n hx hb dL_observes_315 rfl (lv_at hl 14 rfl) ?_
      refine lv_iload_n hx hb dL_observes_316 rfl (lv_at hl 15 rfl) ?_
      have hWua1 : Wd g (va_up (va_up (va_up c n (some (.inl (g.2.1 0, 2, .inl (fun _ => 0))))) (n + 1) (some (.inl (g.2.1 0, 2, .inl (fun _ => 0))))) (n + 2) (some (.inl (g.2.1 0, 2, .inl (fun _ => 0))))) lh rs R hq := (((hWd.up (by omega)).up (by omega)).up (by omega))
      refine u_i (ru_V (As := [.int (nI w), .int (nI s1), .int (nI tz)]) (rest := []) F h ((mu_ne (by omega) _).trans ((mu_ne (by omega) _).trans ((mu_ne (by omega) _).trans hWd.1))) rfl (k_X7_observe l g (n + 3) (va_up (va_up (va_up c n (some (.inl (g.2.1 0, 2, .inl (fun _ => 0))))) (n + 1) (some (.inl (g.2.1 0, 2, .inl (fun _ => 0))))) (n + 2) (some (.inl (g.2.1 0, 2, .inl (fun _ => 0))))) lh 0 rs hWua1.1 R hWua1.2.1 hWua1.2.2.2.2 hq hWua1.2.2.1 J.wb (nI w) (nI s1) (nI tz) sc cn J.s4 J.s5 J.c3 J.c5 (by omega)) (gV hjl wd_610 wd_611 wd_612 wd_16 wd_613) rfl 3 (by decide +kernel) rfl ⟨Nat.le_of_ble_eq_true rfl, Nat.le_of_ble_eq_true rfl⟩ rfl hl.1 (Nat.le_of_ble_eq_true rfl) ⟨by decide, by decide⟩ dL_observes_317) h (fun ra1 na1 ca1 H locs hp h => ?_)
      obtain ⟨hna1, hxa1, hWa1, hFa1⟩ := paW hp hWua1 (by omega) (ob_r1 J hz1 hz6 hw4 h0 hs5) (hWua1).2.2.2.2
      subst hxa1
      refine lv_istore (lv' := [(16, .int (-100003)), (15, .int (((fun _ => 0) 1) - ((fun _ => 0) 1))), (14, .int (vsI R sc)), (13, .int 1), (12, .ref (gz g + (n + 2))), (11, .ref (gz g + (n + 1))), (10, .ref (gz g + n)), (9, .int (-100005)), (8, .int (-100005)), (7, .int 1), (6, .int (R (69 + 3 * s1))), (5, .int (R 2)), (4, .int (R 0)), (0, .ref (gz g + 0)), (1, .int (nI w)), (2, .int (nI s1)), (3, .int (nI tz))]) hx hb dL_observes_320 hl (by decide) rfl (fun ls hl => ?_)
      refine lv_iload hx hb dL_observes_322 (lv_at hl 9 rfl) ?_
      refine lv_if_le (tgt := 361) hx hb dL_observes_324 (by decide) (fun b_324 => by first | exact absurd b_324 (by decide) | exact absurd (by decide) b_324) (fun b_324 => ?_)
      refine lv_iload hx hb dL_observes_327 (lv_at hl 0 rfl) ?_
      refine lv_ldc (v := (-100003)) hx hb F.2.2.2.1 (F.2.2.2.2.1 (Cond.constant RL 74 (-100003)) (List.mem_cons_of_mem _ wd_660)) dL_observes_329 ?_
      refine lv_icmp_ne (tgt := 359) hx hb dL_observes_331 (by decide) (fun b_331 => by first | exact absurd b_331 (by decide) | exact absurd (by decide) b_331) (fun b_331 => ?_)
      refine lv_aload_n hx hb dL_observes_334 rfl (lv_at hl 13 rfl) ?_
      refine lv_bipush (v := 8) hx hb dL_observes_335 (by decide) ?_
      refine u_iE (v := 1) (ru_V (As := [.int 8]) (rest := []) F h hWa1.1 rfl (kw_count l g na1 ca1 hWa1 J 8 (v := 1) (rfl)) (gV hjl wd_399 wd_400 wd_401 wd_16 wd_402) rfl 1 (by decide +kernel) rfl ⟨Nat.le_of_ble_eq_true rfl, Nat.le_of_ble_eq_true rfl⟩ rfl hl.1 (Nat.le_of_ble_eq_true rfl) ⟨by decide, by decide⟩ dL_observes_337) h (fun H locs h => ?_)
      refine lv_iload hx hb dL_observes_340 (lv_at hl 9 rfl) ?_
      refine lv_icmp_ne (tgt := 359) hx hb dL_observes_342 (by decide) (fun b_342 => by first | exact absurd b_342 (by decide) | exact absurd (by decide) b_342) (fun b_342 => ?_)
      refine lv_aload_n hx hb dL_observes_345 rfl (lv_at hl 13 rfl) ?_
      refine lv_iconst (v := 0) hx hb dL_observes_346 (by decide) ?_
      refine u_iE (v := R 0) (ru_V (As := [.int 0]) (rest := []) F h hWa1.1 rfl (kw_count l g na1 ca1 hWa1 J 0 (v := R 0) (rfl)) (gV hjl wd_399 wd_400 wd_401 wd_16 wd_402) rfl 1 (by decide +kernel) rfl ⟨Nat.le_of_ble_eq_true rfl, Nat.le_of_ble_eq_true rfl⟩ rfl hl.1 (Nat.le_of_ble_eq_true rfl) ⟨by decide, by decide⟩ dL_observes_347) h (fun H locs h => ?_)
      refine lv_iload hx hb dL_observes_350 (lv_at hl 12 rfl) ?_
      refine lv_icmp_ne (tgt := 359) hx hb dL_observes_352 (by decide) (fun b_352 => by first | exact absurd b_352 (rfl) | exact absurd (rfl) b_352) (fun b_352 => ?_)
      refine lv_iconst (v := 1) hx hb dL_observes_355 (by decide) ?_
      refine lv_goto (tgt := 360) hx hb dL_observes_356 (by decide) ?_
      exact ret_z F h (by decide) (by decide) (by decide) dL_observes_360 (⟨rfl, by omega, _, _, _, _, hWa1, J.le (by omega)⟩)
    refine lv_aload_n hx hb dL_observes_0 rfl (lv_at hl 0 rfl) ?_
    refine lv_iconst (v := 0) hx hb dL_observes_1 (by decide) ?_
    refine u_iE (v := R 0) (ru_V (As := [.int 0]) (rest := []) F h hWd.1 rfl (kw_count l g n c hWd J 0 (v := R 0) (rfl)) (gV hjl wd_399 wd_400 wd_401 wd_16 wd_402) rfl 1 (by decide +kernel) rfl ⟨Nat.le_of_ble_eq_true rfl, Nat.le_of_ble_eq_true rfl⟩ rfl hl.1 (Nat.le_of_ble_eq_true rfl) ⟨Nat.zero_le _, Nat.zero_le _⟩ dL_observes_2) h (fun H locs h => ?_)
    refine lv_istore (lv' := [(4, .int (R 0)), (0, .ref (gz g + 0)), (1, .int (nI w)), (2, .int (nI s1)), (3, .int (nI tz))]) hx hb dL_observes_5 hl (by decide) rfl (fun ls hl => ?_)
    refine lv_aload_n hx hb dL_observes_7 rfl (lv_at hl 1 rfl) ?_
    refine lv_bipush (v := 7) hx hb dL_observes_8 (by decide) ?_
    refine u_iE (v := R 2) (ru_V (As := [.int 7]) (rest := []) F h hWd.1 rfl (kw_count l g n c hWd J 7 (v := R 2) (rfl)) (gV hjl wd_399 wd_400 wd_401 wd_16 wd_402) rfl 1 (by decide +kernel) rfl ⟨Nat.le_of_ble_eq_true rfl, Nat.le_of_ble_eq_true rfl⟩ rfl hl.1 (Nat.le_of_ble_eq_true rfl) ⟨Nat.zero_le _, Nat.zero_le _⟩ dL_observes_10) h (fun H locs h => ?_)
    refine lv_istore (lv' := [(5, .int (R 2)), (4, .int (R 0)), (0, .ref (gz g + 0)), (1, .int (nI w)), (2, .int (nI s1)), (3, .int (nI tz))]) hx hb dL_observes_13 hl (by decide) rfl (fun ls hl => ?_)
    refine lv_aload_n hx hb dL_observes_15 rfl (lv_at hl 2 rfl) ?_
    refine lv_iload_n hx hb dL_observes_16 rfl (lv_at hl 4 rfl) ?_
    refine lv_iconst (v := 0) hx hb dL_observes_17 (by decide) ?_
    refine u_iE (v := R (69 + 3 * s1)) (ru_V (As := [.int (nI s1), .int 0]) (rest := []) F h hWd.1 rfl (kw_station l g n c hWd J (nI s1) 0 (v := R (69 + 3 * s1)) (st_0 J.s4 J.s5 hs5)) (gV hjl wd_584 wd_585 wd_586 wd_16 wd_587) rfl 2 (by decide +kernel) rfl ⟨Nat.le_of_ble_eq_true rfl, Nat.le_of_ble_eq_true rfl⟩ rfl hl.1 (Nat.le_of_ble_eq_true rfl) ⟨Nat.zero_le _, Nat.zero_le _⟩ dL_observes_18) h (fun H locs h => ?_)
    refine lv_istore (lv' := [(6, .int (R (69 + 3 * s1))), (5, .int (R 2)), (4, .int (R 0)), (0, .ref (gz g + 0)), (1, .int (nI w)), (2, .int (nI s1)), (3, .int (nI tz))]) hx hb dL_observes_21 hl (by decide) rfl (fun ls hl => ?_)
    refine lv_aload_n hx hb dL_observes_23 rfl (lv_at hl 3 rfl) ?_
    refine lv_iload_n hx hb dL_observes_24 rfl (lv_at hl 4 rfl) ?_
    refine lv_iconst (v := 2) hx hb dL_observes_25 (by decide) ?_
    refine u_iE (v := (-100005)) (ru_V (As := [.int (nI w), .int 2]) (rest := []) F h hWd.1 rfl (kw_wire l g n c hWd J (nI w) 2 (v := (-100005)) (wi_n hw4 h0 (by decide))) (gV hjl wd_390 wd_391 wd_392 wd_16 wd_393) rfl 2 (by decide +kernel) rfl ⟨Nat.le_of_ble_eq_true rfl, Nat.le_of_ble_eq_true rfl⟩ rfl hl.1 (Nat.le_of_ble_eq_true rfl) ⟨Nat.zero_le _, Nat.zero_le _⟩ dL_observes_26) h (fun H locs h => ?_)
    refine lv_if_ge (tgt := 36) hx hb dL_observes_29 (by decide) (fun b_29 => by first | exact absurd b_29 (by decide) | exact absurd (by decide) b_29) (fun b_29 => ?_)
    refine lv_iconst (v := 1) hx hb dL_observes_32 (by decide) ?_
    refine lv_goto (tgt := 52) hx hb dL_observes_33 (by decide) ?_
    refine lv_istore (lv' := [(7, .int 1), (6, .int (R (69 + 3 * s1))), (5, .int (R 2)), (4, .int (R 0)), (0, .ref (gz g + 0)), (1, .int (nI w)), (2, .int (nI s1)), (3, .int (nI tz))]) hx hb dL_observes_52 hl (by decide) rfl (fun ls hl => ?_)
    refine lv_aload_n hx hb dL_observes_54 rfl (lv_at hl 4 rfl) ?_
    refine lv_iload_n hx hb dL_observes_55 rfl (lv_at hl 5 rfl) ?_
    refine lv_bipush (v := 8) hx hb dL_observes_56 (by decide) ?_
    refine u_iE (v := (-100005)) (ru_V (As := [.int (nI w), .int 8]) (rest := []) F h hWd.1 rfl (kw_wire l g n c hWd J (nI w) 8 (v := (-100005)) (wi_n hw4 h0 (by decide))) (gV hjl wd_390 wd_391 wd_392 wd_16 wd_393) rfl 2 (by decide +kernel) rfl ⟨Nat.le_of_ble_eq_true rfl, Nat.le_of_ble_eq_true rfl⟩ rfl hl.1 (Nat.le_of_ble_eq_true rfl) ⟨Nat.zero_le _, Nat.zero_le _⟩ dL_observes_58) h (fun H locs h => ?_)
    refine lv_istore (lv' := [(8, .int (-100005)), (7, .int 1), (6, .int (R (69 + 3 * s1))), (5, .int (R 2)), (4, .int (R 0)), (0, .ref (gz g + 0)), (1, .int (nI w)), (2, .int (nI s1)), (3, .int (nI tz))]) hx hb dL_observes_61 hl (by decide) rfl (fun ls hl => ?_)
    refine lv_aload_n hx hb dL_observes_63 rfl (lv_at hl 5 rfl) ?_
    refine lv_iload_n hx hb dL_observes_64 rfl (lv_at hl 6 rfl) ?_
    refine lv_bipush (v := 9) hx hb dL_observes_65 (by decide) ?_
    refine u_iE (v := (-100005)) (ru_V (As := [.int (nI w), .int 9]) (rest := []) F h hWd.1 rfl (kw_wire l g n c hWd J (nI w) 9 (v := (-100005)) (wi_n hw4 h0 (by decide))) (gV hjl wd_390 wd_391 wd_392 wd_16 wd_393) rfl 2 (by decide +kernel) rfl ⟨Nat.le_of_ble_eq_true rfl, Nat.le_of_ble_eq_true rfl⟩ rfl hl.1 (Nat.le_of_ble_eq_true rfl) ⟨Nat.zero_le _, Nat.zero_le _⟩ dL_observes_67) h (fun H locs h => ?_)
    refine lv_istore (lv' := [(9, .int (-100005)), (8, .int (-100005)), (7, .int 1), (6, .int (R (69 + 3 * s1))), (5, .int (R 2)), (4, .int (R 0)), (0, .ref (gz g + 0)), (1, .int (nI w)), (2, .int (nI s1)), (3, .int (nI tz))]) hx hb dL_observes_70 hl (by decide) rfl (fun ls hl => ?_)
    refine lv_iconst (v := 2) hx hb dL_observes_72 (by decide) ?_
    refine r_newa (atype := .int) (ty := .int) F h (List.mem_cons_of_mem _ wd_244) rfl 0 rfl (fun _ z => z) (N := 2) (a0 := (2, .inl (fun _ => 0))) (vp_cell_i _ _ _) (by decide) (by decide) (by decide) (by decide) (by decide) dL_observes_73 (fun H h => ?_)
    refine lv_astore (lv' := [(10, .ref (gz g + n)), (9, .int (-100005)), (8, .int (-100005)), (7, .int 1), (6, .int (R (69 + 3 * s1))), (5, .int (R 2)), (4, .int (R 0)), (0, .ref (gz g + 0)), (1, .int (nI w)), (2, .int (nI s1)), (3, .int (nI tz))]) hx hb dL_observes_75 hl (by decide) rfl (fun ls hl => ?_)
    refine lv_iconst (v := 2) hx hb dL_observes_77 (by decide) ?_
    refine r_newa (atype := .int) (ty := .int) F h (List.mem_cons_of_mem _ wd_244) rfl 0 rfl (fun _ z => z) (N := 2) (a0 := (2, .inl (fun _ => 0))) (vp_cell_i _ _ _) (by decide) (by decide) (by decide) (by decide) (by decide) dL_observes_78 (fun H h => ?_)
    refine lv_astore (lv' := [(11, .ref (gz g + (n + 1))), (10, .ref (gz g + n)), (9, .int (-100005)), (8, .int (-100005)), (7, .int 1), (6, .int (R (69 + 3 * s1))), (5, .int (R 2)), (4, .int (R 0)), (0, .ref (gz g + 0)), (1, .int (nI w)), (2, .int (nI s1)), (3, .int (nI tz))]) hx hb dL_observes_80 hl (by decide) rfl (fun ls hl => ?_)
    refine lv_iconst (v := 2) hx hb dL_observes_82 (by decide) ?_
    refine r_newa (atype := .int) (ty := .int) F h (List.mem_cons_of_mem _ wd_244) rfl 0 rfl (fun _ z => z) (N := 2) (a0 := (2, .inl (fun _ => 0))) (vp_cell_i _ _ _) (by decide) (by decide) (by decide) (by decide) (by decide) dL_observes_83 (fun H h => ?_)
    refine lv_astore (lv' := [(12, .ref (gz g + (n + 2))), (11, .ref (gz g + (n + 1))), (10, .ref (gz g + n)), (9, .int (-100005)), (8, .int (-100005)), (7, .int 1), (6, .int (R (69 + 3 * s1))), (5, .int (R 2)), (4, .int (R 0)), (0, .ref (gz g + 0)), (1, .int (nI w)), (2, .int (nI s1)), (3, .int (nI tz))]) hx hb dL_observes_85 hl (by decide) rfl (fun ls hl => ?_)
    refine lv_aload_n hx hb dL_observes_87 rfl (lv_at hl 9 rfl) ?_
    refine lv_iload_n hx hb dL_observes_88 rfl (lv_at hl 11 rfl) ?_
    refine lv_iload_n hx hb dL_observes_89 rfl (lv_at hl 10 rfl) ?_
    refine lv_iconst (v := 3) hx hb dL_observes_90 (by decide) ?_
    refine u_iE (v := R (84 + 6 * (4 * s1 + w) + 4)) (ru_V (As := [.int (nI s1), .int (nI w), .int 3]) (rest := []) F h ((mu_ne (by omega) _).trans ((mu_ne (by omega) _).trans ((mu_ne (by omega) _).trans hWd.1))) rfl (kw_observation l g (n + 3) (va_up (va_up (va_up c n (some (.inl (g.2.1 0, 2, .inl (fun _ => 0))))) (n + 1) (some (.inl (g.2.1 0, 2, .inl (fun _ => 0))))) (n + 2) (some (.inl (g.2.1 0, 2, .inl (fun _ => 0))))) (((hWd.up (by omega)).up (by omega)).up (by omega)) J (nI s1) (nI w) 3 (v := R (84 + 6 * (4 * s1 + w) + 4)) (ob_3 J.s4 J.s5 hs5 hw4 hv)) (gV hjl wd_518 wd_519 wd_520 wd_16 wd_521) rfl 3 (by decide +kernel) rfl ⟨Nat.le_of_ble_eq_true rfl, Nat.le_of_ble_eq_true rfl⟩ rfl hl.1 (Nat.le_of_ble_eq_true rfl) ⟨by decide, by decide⟩ dL_observes_91) h (fun H locs h => ?_)
    refine lv_if_lt (tgt := 101) hx hb dL_observes_94 (by decide) (fun b_94 => by first | exact absurd b_94 (i_nlt (bt_ge (J.v hs5 hw4 (b01_of (J.ob (by omega) hw4) hv)).2.2.1 0 (by decide))) | exact absurd (i_nlt (bt_ge (J.v hs5 hw4 (b01_of (J.ob (by omega) hw4) hv)).2.2.1 0 (by decide))) b_94) (fun b_94 => ?_)
    refine lv_iconst (v := 0) hx hb dL_observes_97 (by decide) ?_
    refine lv_goto (tgt := 102) hx hb dL_observes_98 (by decide) ?_
    refine lv_istore (lv' := [(13, .int 0), (12, .ref (gz g + (n + 2))), (11, .ref (gz g + (n + 1))), (10, .ref (gz g + n)), (9, .int (-100005)), (8, .int (-100005)), (7, .int 1), (6, .int (R (69 + 3 * s1))), (5, .int (R 2)), (4, .int (R 0)), (0, .ref (gz g + 0)), (1, .int (nI w)), (2, .int (nI s1)), (3, .int (nI tz))]) hx hb dL_observes_102 hl (by decide) rfl (fun ls hl => ?_)
    refine lv_aload_n hx hb dL_observes_104 rfl (lv_at hl 10 rfl) ?_
    refine lv_iconst (v := 5) hx hb dL_observes_105 (by decide) ?_
    refine u_iE (v := vsI R sc) (ru_V (As := [.int 5]) (rest := []) F h ((mu_ne (by omega) _).trans ((mu_ne (by omega) _).trans ((mu_ne (by omega) _).trans hWd.1))) rfl (kw_count l g (n + 3) (va_up (va_up (va_up c n (some (.inl (g.2.1 0, 2, .inl (fun _ => 0))))) (n + 1) (some (.inl (g.2.1 0, 2, .inl (fun _ => 0))))) (n + 2) (some (.inl (g.2.1 0, 2, .inl (fun _ => 0))))) (((hWd.up (by omega)).up (by omega)).up (by omega)) J 5 (v := vsI R sc) (rfl)) (gV hjl wd_399 wd_400 wd_401 wd_16 wd_402) rfl 1 (by decide +kernel) rfl ⟨Nat.le_of_ble_eq_true rfl, Nat.le_of_ble_eq_true rfl⟩ rfl hl.1 (Nat.le_of_ble_eq_true rfl) ⟨by decide, by decide⟩ dL_observes_106) h (fun H locs h => ?_)
    refine lv_istore (lv' := [(14, .int (vsI R sc)), (13, .int 0), (12, .ref (gz g + (n + 2))), (11, .ref (gz g + (n + 1))), (10, .ref (gz g + n)), (9, .int (-100005)), (8, .int (-100005)), (7, .int 1), (6, .int (R (69 + 3 * s1))), (5, .int (R 2)), (4, .int (R 0)), (0, .ref (gz g + 0)), (1, .int (nI w)), (2, .int (nI s1)), (3, .int (nI tz))]) hx hb dL_observes_109 hl (by decide) rfl (fun ls hl => ?_)
    refine lv_iconst (v := 0) hx hb dL_observes_111 (by decide) ?_
    refine lv_istore (lv' := [(15, .int 0), (14, .int (vsI R sc)), (13, .int 0), (12, .ref (gz g + (n + 2))), (11, .ref (gz g + (n + 1))), (10, .ref (gz g + n)), (9, .int (-100005)), (8, .int (-100005)), (7, .int 1), (6, .int (R (69 + 3 * s1))), (5, .int (R 2)), (4, .int (R 0)), (0, .ref (gz g + 0)), (1, .int (nI w)), (2, .int (nI s1)), (3, .int (nI tz))]) hx hb dL_observes_112 hl (by decide) rfl (fun ls hl => ?_)
    refine lv_iload hx hb dL_observes_114 (lv_at hl 0 rfl) ?_
    refine lv_iload_n hx hb dL_observes_116 rfl (lv_at hl 15 rfl) ?_
    refine lv_icmp_ge (tgt := 269) hx hb dL_observes_117 (by decide) (fun b_117 => by first | exact absurd b_117 (nI_nle (by omega) (by omega)) | exact absurd (nI_nle (by omega) (by omega)) b_117) (fun b_117 => ?_)
    refine lv_iload hx hb dL_observes_120 (lv_at hl 8 rfl) ?_
    refine lv_if_ne (tgt := 269) hx hb dL_observes_122 (by decide) (fun b_122 => ?_) (fun b_122 => by first | exact absurd (by decide) b_122 | exact absurd b_122 (by decide))
    refine lv_aload hx hb dL_observes_269 (lv_at hl 3 rfl) ?_
    refine lv_iconst (v := 0) hx hb dL_observes_271 (by decide) ?_
    refine r_ialdN F h (k := 0) (mu_eq _ _ _) (rfl) (by omega) (by decide) dL_observes_272 ?_
    refine lv_aload hx hb dL_observes_273 (lv_at hl 4 rfl) ?_
    refine lv_iconst (v := 0) hx hb dL_observes_275 (by decide) ?_
    refine r_ialdN F h (k := 0) ((mu_ne (by omega) _).trans (mu_eq _ _ _)) (rfl) (by omega) (by decide) dL_observes_276 ?_
    refine lv_isub hx hb dL_observes_277 ?_
    refine lv_aload hx hb dL_observes_278 (lv_at hl 3 rfl) ?_
    refine lv_iconst (v := 1) hx hb dL_observes_280 (by decide) ?_
    refine r_ialdN F h (k := 1) (mu_eq _ _ _) (rfl) (by omega) (by decide) dL_observes_281 ?_
    refine lv_aload hx hb dL_observes_282 (lv_at hl 4 rfl) ?_
    refine lv_iconst (v := 1) hx hb dL_observes_284 (by decide) ?_
    refine r_ialdN F h (k := 1) ((mu_ne (by omega) _).trans (mu_eq _ _ _)) (rfl) (by omega) (by decide) dL_observes_285 ?_
    refine lv_isub hx hb dL_observes_286 ?_
    refine lv_icmp_le (tgt := 302) hx hb dL_observes_287 (by decide) (fun b_287 => ?_) (fun b_287 => by first | exact absurd (by decide) b_287 | exact absurd b_287 (by decide))
    refine lv_aload hx hb dL_observes_302 (lv_at hl 3 rfl) ?_
    refine lv_iconst (v := 1) hx hb dL_observes_304 (by decide) ?_
    refine r_ialdN F h (k := 1) (mu_eq _ _ _) (rfl) (by omega) (by decide) dL_observes_305 ?_
    refine lv_aload hx hb dL_observes_306 (lv_at hl 4 rfl) ?_
    refine lv_iconst (v := 1) hx hb dL_observes_308 (by decide) ?_
    refine r_ialdN F h (k := 1) ((mu_ne (by omega) _).trans (mu_eq _ _ _)) (rfl) (by omega) (by decide) dL_observes_309 ?_
    refine lv_isub hx hb dL_observes_310 ?_
    refine lv_istore (lv' := [(15, .int (((fun _ => 0) 1) - ((fun _ => 0) 1))), (14, .int (vsI R sc)), (13, .int 0), (12, .ref (gz g + (n + 2))), (11, .ref (gz g + (n + 1))), (10, .ref (gz g + n)), (9, .int (-100005)), (8, .int (-100005)), (7, .int 1), (6, .int (R (69 + 3 * s1))), (5, .int (R 2)), (4, .int (R 0)), (0, .ref (gz g + 0)), (1, .int (nI w)), (2, .int (nI s1)), (3, .int (nI tz))]) hx hb dL_observes_311 hl (by decide) rfl (fun ls hl => ?_)
    refine lv_aload_n hx hb dL_observes_313 rfl (lv_at hl 12 rfl) ?_
    refine lv_iload_n hx hb dL_observes_314 rfl (lv_at hl 13 rfl) ?_
    refine lv_iload_n hx hb dL_observes_315 rfl (lv_at hl 14 rfl) ?_
    refine lv_iload_n hx hb dL_observes_316 rfl (lv_at hl 15 rfl) ?_
    have hWua2 : Wd g (va_up (va_up (va_up c n (some (.inl (g.2.1 0, 2, .inl (fun _ => 0))))) (n + 1) (some (.inl (g.2.1 0, 2, .inl (fun _ => 0))))) (n + 2) (some (.inl (g.2.1 0, 2, .inl (fun _ => 0))))) lh rs R hq := (((hWd.up (by omega)).up (by omega)).up (by omega))
    refine u_i (ru_V (As := [.int (nI w), .int (nI s1), .int (nI tz)]) (rest := []) F h ((mu_ne (by omega) _).trans ((mu_ne (by omega) _).trans ((mu_ne (by omega) _).trans hWd.1))) rfl (k_X7_observe l g (n + 3) (va_up (va_up (va_up c n (some (.inl (g.2.1 0, 2, .inl (fun _ => 0))))) (n + 1) (some (.inl (g.2.1 0, 2, .inl (fun _ => 0))))) (n + 2) (some (.inl (g.2.1 0, 2, .inl (fun _ => 0))))) lh 0 rs hWua2.1 R hWua2.2.1 hWua2.2.2.2.2 hq hWua2.2.2.1 J.wb (nI w) (nI s1) (nI tz) sc cn J.s4 J.s5 J.c3 J.c5 (by omega)) (gV hjl wd_610 wd_611 wd_612 wd_16 wd_613) rfl 3 (by decide +kernel) rfl ⟨Nat.le_of_ble_eq_true rfl, Nat.le_of_ble_eq_true rfl⟩ rfl hl.1 (Nat.le_of_ble_eq_true rfl) ⟨by decide, by decide⟩ dL_observes_317) h (fun ra2 na2 ca2 H locs hp h => ?_)
    obtain ⟨hna2, hxa2, hWa2, hFa2⟩ := paW hp hWua2 (by omega) (ob_r1 J hz1 hz6 hw4 h0 hs5) (hWua2).2.2.2.2
    subst hxa2
    refine lv_istore (lv' := [(16, .int (-100003)), (15, .int (((fun _ => 0) 1) - ((fun _ => 0) 1))), (14, .int (vsI R sc)), (13, .int 0), (12, .ref (gz g + (n + 2))), (11, .ref (gz g + (n + 1))), (10, .ref (gz g + n)), (9, .int (-100005)), (8, .int (-100005)), (7, .int 1), (6, .int (R (69 + 3 * s1))), (5, .int (R 2)), (4, .int (R 0)), (0, .ref (gz g + 0)), (1, .int (nI w)), (2, .int (nI s1)), (3, .int (nI tz))]) hx hb dL_observes_320 hl (by decide) rfl (fun ls hl => ?_)
    refine lv_iload hx hb dL_observes_322 (lv_at hl 9 rfl) ?_
    refine lv_if_le (tgt := 361) hx hb dL_observes_324 (by decide) (fun b_324 => by first | exact absurd b_324 (by decide) | exact absurd (by decide) b_324) (fun b_324 => ?_)
    refine lv_iload hx hb dL_observes_327 (lv_at hl 0 rfl) ?_
    refine lv_ldc (v := (-100003)) hx hb F.2.2.2.1 (F.2.2.2.2.1 (Cond.constant RL 74 (-100003)) (List.mem_cons_of_mem _ wd_660)) dL_observes_329 ?_
    refine lv_icmp_ne (tgt := 359) hx hb dL_observes_331 (by decide) (fun b_331 => by first | exact absurd b_331 (by decide) | exact absurd (by decide) b_331) (fun b_331 => ?_)
    refine lv_aload_n hx hb dL_observes_334 rfl (lv_at hl 13 rfl) ?_
    refine lv_bipush (v := 8) hx hb dL_observes_335 (by decide) ?_
    refine u_iE (v := 1) (ru_V (As := [.int 8]) (rest := []) F h hWa2.1 rfl (kw_count l g na2 ca2 hWa2 J 8 (v := 1) (rfl)) (gV hjl wd_399 wd_400 wd_401 wd_16 wd_402) rfl 1 (by decide +kernel) rfl ⟨Nat.le_of_ble_eq_true rfl, Nat.le_of_ble_eq_true rfl⟩ rfl hl.1 (Nat.le_of_ble_eq_true rfl) ⟨by decide, by decide⟩ dL_observes_337) h (fun H locs h => ?_)
    refine lv_iload hx hb dL_observes_340 (lv_at hl 9 rfl) ?_
    refine lv_icmp_ne (tgt := 359) hx hb dL_observes_342 (by decide) (fun b_342 => by first | exact absurd b_342 (by decide) | exact absurd (by decide) b_342) (fun b_342 => ?_)
    refine lv_aload_n hx hb dL_observes_345 rfl (lv_at hl 13 rfl) ?_
    refine lv_iconst (v := 0) hx hb dL_observes_346 (by decide) ?_
    refine u_iE (v := R 0) (ru_V (As := [.int 0]) (rest := []) F h hWa2.1 rfl (kw_count l g na2 ca2 hWa2 J 0 (v := R 0) (rfl)) (gV hjl wd_399 wd_400 wd_401 wd_16 wd_402) rfl 1 (by decide +kernel) rfl ⟨Nat.le_of_ble_eq_true rfl, Nat.le_of_ble_eq_true rfl⟩ rfl hl.1 (Nat.le_of_ble_eq_true rfl) ⟨by decide, by decide⟩ dL_observes_347) h (fun H locs h => ?_)
    refine lv_iload hx hb dL_observes_350 (lv_at hl 12 rfl) ?_
    refine lv_icmp_ne (tgt := 359) hx hb dL_observes_352 (by decide) (fun b_352 => by first | exact absurd b_352 (rfl) | exact absurd (rfl) b_352) (fun b_352 => ?_)
    refine lv_iconst (v := 1) hx hb dL_observes_355 (by decide) ?_
    refine lv_goto (tgt := 360) hx hb dL_observes_356 (by decide) ?_
    exact ret_z F h (by decide) (by decide) (by decide) dL_observes_360 (⟨rfl, by omega, _, _, _, _, hWa2, J.le (by omega)⟩)
  have h1 : R (5 + 11 * w + 0) = 1 := b01_of (J.b hw4) h0
  have gw := J.wg hw4 h1
  by_cases hd : (R (69 + 3 * s1)).toInt ≤ (R (5 + 11 * w + 4)).toInt
  · skip
    have h1 : R (5 + 11 * w + 0) = 1 := b01_of (J.b hw4) h0
    have gw := J.wg hw4 h1
    by_cases hv : R (84 + 6 * (4 * s1 + w) + 0) = 0
    · skip
      have h1 : R (5 + 11 * w + 0) = 1 := b01_of (J.b hw4) h0
      have gw := J.wg hw4 h1
      have dz : Bt (R (69 + 3 * s1)) 0 800 := ⟨by have := (J.st hs5).1.1; omega, (J.st hs5).1.2⟩
      refine lv_aload_n hx hb dL_observes_0 rfl (lv_at hl 0 rfl) ?_
      refine lv_iconst (v := 0) hx hb dL_observes_1 (by decide) ?_
      refine u_iE (v := R 0) (ru_V (As := [.int 0]) (rest := []) F h hWd.1 rfl (kw_count l g n c hWd J 0 (v := R 0) (rfl)) (gV hjl wd_399 wd_400 wd_401 wd_16 wd_402) rfl 1 (by decide +kernel) rfl ⟨Nat.le_of_ble_eq_true rfl, Nat.le_of_ble_eq_true rfl⟩ rfl hl.1 (Nat.le_of_ble_eq_true rfl) ⟨Nat.zero_le _, Nat.zero_le _⟩ dL_observes_2) h (fun H locs h => ?_)
      refine lv_istore (lv' := [(4, .int (R 0)), (0, .ref (gz g + 0)), (1, .int (nI w)), (2, .int (nI s1)), (3, .int (nI tz))]) hx hb dL_observes_5 hl (by decide) rfl (fun ls hl => ?_)
      refine lv_aload_n hx hb dL_observes_7 rfl (lv_at hl 1 rfl) ?_
      refine lv_bipush (v := 7) hx hb dL_observes_8 (by decide) ?_
      refine u_iE (v := R 2) (ru_V (As := [.int 7]) (rest := []) F h hWd.1 rfl (kw_count l g n c hWd J 7 (v := R 2) (rfl)) (gV hjl wd_399 wd_400 wd_401 wd_16 wd_402) rfl 1 (by decide +kernel) rfl ⟨Nat.le_of_ble_eq_true rfl, Nat.le_of_ble_eq_true rfl⟩ rfl hl.1 (Nat.le_of_ble_eq_true rfl) ⟨Nat.zero_le _, Nat.zero_le _⟩ dL_observes_10) h (fun H locs h => ?_)
      refine lv_istore (lv' := [(5, .int (R 2)), (4, .int (R 0)), (0, .ref (gz g + 0)), (1, .int (nI w)), (2, .int (nI s1)), (3, .int (nI tz))]) hx hb dL_observes_13 hl (by decide) rfl (fun ls hl => ?_)
      refine lv_aload_n hx hb dL_observes_15 rfl (lv_at hl 2 rfl) ?_
      refine lv_iload_n hx hb dL_observes_16 rfl (lv_at hl 4 rfl) ?_
      refine lv_iconst (v := 0) hx hb dL_observes_17 (by decide) ?_
      refine u_iE (v := R (69 + 3 * s1)) (ru_V (As := [.int (nI s1), .int 0]) (rest := []) F h hWd.1 rfl (kw_station l g n c hWd J (nI s1) 0 (v := R (69 + 3 * s1)) (st_0 J.s4 J.s5 hs5)) (gV hjl wd_584 wd_585 wd_586 wd_16 wd_587) rfl 2 (by decide +kernel) rfl ⟨Nat.le_of_ble_eq_true rfl, Nat.le_of_ble_eq_true rfl⟩ rfl hl.1 (Nat.le_of_ble_eq_true rfl) ⟨Nat.zero_le _, Nat.zero_le _⟩ dL_observes_18) h (fun H locs h => ?_)
      refine lv_istore (lv' := [(6, .int (R (69 + 3 * s1))), (5, .int (R 2)), (4, .int (R 0)), (0, .ref (gz g + 0)), (1, .int (nI w)), (2, .int (nI s1)), (3, .int (nI tz))]) hx hb dL_observes_21 hl (by decide) rfl (fun ls hl => ?_)
      refine lv_aload_n hx hb dL_observes_23 rfl (lv_at hl 3 rfl) ?_
      refine lv_iload_n hx hb dL_observes_24 rfl (lv_at hl 4 rfl) ?_
      refine lv_iconst (v := 2) hx hb dL_observes_25 (by decide) ?_
      refine u_iE (v := R (5 + 11 * w + 3)) (ru_V (As := [.int (nI w), .int 2]) (rest := []) F h hWd.1 rfl (kw_wire l g n c hWd J (nI w) 2 (v := R (5 + 11 * w + 3)) (wi_2 hw4 h1)) (gV hjl wd_390 wd_391 wd_392 wd_16 wd_393) rfl 2 (by decide +kernel) rfl ⟨Nat.le_of_ble_eq_true rfl, Nat.le_of_ble_eq_true rfl⟩ rfl hl.1 (Nat.le_of_ble_eq_true rfl) ⟨Nat.zero_le _, Nat.zero_le _⟩ dL_observes_26) h (fun H locs h => ?_)
      refine lv_if_ge (tgt := 36) hx hb dL_observes_29 (by decide) (fun b_29 => ?_) (fun b_29 => by first | exact absurd (bt_ge gw.2.2.1 0 (by decide)) b_29 | exact absurd b_29 (bt_ge gw.2.2.1 0 (by decide)))
      refine lv_iload hx hb dL_observes_36 (lv_at hl 0 rfl) ?_
      refine lv_aload_n hx hb dL_observes_38 rfl (lv_at hl 3 rfl) ?_
      refine lv_iload_n hx hb dL_observes_39 rfl (lv_at hl 4 rfl) ?_
      refine lv_iconst (v := 3) hx hb dL_observes_40 (by decide) ?_
      refine u_iE (v := R (5 + 11 * w + 4)) (ru_V (As := [.int (nI w), .int 3]) (rest := [.int (R (69 + 3 * s1))]) F h hWd.1 rfl (kw_wire l g n c hWd J (nI w) 3 (v := R (5 + 11 * w + 4)) (wi_3 hw4 h1)) (gV hjl wd_390 wd_391 wd_392 wd_16 wd_393) rfl 2 (by decide +kernel) rfl ⟨Nat.le_of_ble_eq_true rfl, Nat.le_of_ble_eq_true rfl⟩ rfl hl.1 (Nat.le_of_ble_eq_true rfl) ⟨Nat.zero_le _, Nat.zero_le _⟩ dL_observes_41) h (fun H locs h => ?_)
      refine lv_icmp_le (tgt := 51) hx hb dL_observes_44 (by decide) (fun b_44 => ?_) (fun b_44 => by first | exact absurd ((i_le _ _).mpr hd) b_44 | exact absurd b_44 ((i_le _ _).mpr hd))
      refine lv_iconst (v := 0) hx hb dL_observes_51 (by decide) ?_
      refine lv_istore (lv' := [(7, .int 0), (6, .int (R (69 + 3 * s1))), (5, .int (R 2)), (4, .int (R 0)), (0, .ref (gz g + 0)), (1, .int (nI w)), (2, .int (nI s1)), (3, .int (nI tz))]) hx hb dL_observes_52 hl (by decide) rfl (fun ls hl => ?_)
      refine lv_aload_n hx hb dL_observes_54 rfl (lv_at hl 4 rfl) ?_
      refine lv_iload_n hx hb dL_observes_55 rfl (lv_at hl 5 rfl) ?_
      refine lv_bipush (v := 8) hx hb dL_observes_56 (by decide) ?_
      refine u_iE (v := tkN R 0 (5 + 11 * w + 9)) (ru_V (As := [.int (nI w), .int 8]) (rest := []) F h hWd.1 rfl (kw_wire l g n c hWd J (nI w) 8 (v := tkN R 0 (5 + 11 * w + 9)) (wi_8 hw4 h1)) (gV hjl wd_390 wd_391 wd_392 wd_16 wd_393) rfl 2 (by decide +kernel) rfl ⟨Nat.le_of_ble_eq_true rfl, Nat.le_of_ble_eq_true rfl⟩ rfl hl.1 (Nat.le_of_ble_eq_true rfl) ⟨Nat.zero_le _, Nat.zero_le _⟩ dL_observes_58) h (fun H locs h => ?_)
      refine lv_istore (lv' := [(8, .int (tkN R 0 (5 + 11 * w + 9))), (7, .int 0), (6, .int (R (69 + 3 * s1))), (5, .int (R 2)), (4, .int (R 0)), (0, .ref (gz g + 0)), (1, .int (nI w)), (2, .int (nI s1)), (3, .int (nI tz))]) hx hb dL_observes_61 hl (by decide) rfl (fun ls hl => ?_)
      refine lv_aload_n hx hb dL_observes_63 rfl (lv_at hl 5 rfl) ?_
      refine lv_iload_n hx hb dL_observes_64 rfl (lv_at hl 6 rfl) ?_
      refine lv_bipush (v := 9) hx hb dL_observes_65 (by decide) ?_
      refine u_iE (v := tkN R 0 (5 + 11 * w + 10)) (ru_V (As := [.int (nI w), .int 9]) (rest := []) F h hWd.1 rfl (kw_wire l g n c hWd J (nI w) 9 (v := tkN R 0 (5 + 11 * w + 10)) (wi_9 hw4 h1)) (gV hjl wd_390 wd_391 wd_392 wd_16 wd_393) rfl 2 (by decide +kernel) rfl ⟨Nat.le_of_ble_eq_true rfl, Nat.le_of_ble_eq_true rfl⟩ rfl hl.1 (Nat.le_of_ble_eq_true rfl) ⟨Nat.zero_le _, Nat.zero_le _⟩ dL_observes_67) h (fun H locs h => ?_)
      refine lv_istore (lv' := [(9, .int (tkN R 0 (5 + 11 * w + 10))), (8, .int (tkN R 0 (5 + 11 * w + 9))), (7, .int 0), (6, .int (R (69 + 3 * s1))), (5, .int (R 2)), (4, .int (R 0)), (0, .ref (gz g + 0)), (1, .int (nI w)), (2, .int (nI s1)), (3, .int (nI tz))]) hx hb dL_observes_70 hl (by decide) rfl (fun ls hl => ?_)
      refine lv_iconst (v := 2) hx hb dL_observes_72 (by decide) ?_
      refine r_newa (atype := .int) (ty := .int) F h (List.mem_cons_of_mem _ wd_244) rfl 0 rfl (fun _ z => z) (N := 2) (a0 := (2, .inl (fun _ => 0))) (vp_cell_i _ _ _) (by decide) (by decide) (by decide) (by decide) (by decide) dL_observes_73 (fun H h => ?_)
      refine lv_astore (lv' := [(10, .ref (gz g + n)), (9, .int (tkN R 0 (5 + 11 * w + 10))), (8, .int (tkN R 0 (5 + 11 * w + 9))), (7, .int 0), (6, .int (R (69 + 3 * s1))), (5, .int (R 2)), (4, .int (R 0)), (0, .ref (gz g + 0)), (1, .int (nI w)), (2, .int (nI s1)), (3, .int (nI tz))]) hx hb dL_observes_75 hl (by decide) rfl (fun ls hl => ?_)
      refine lv_iconst (v := 2) hx hb dL_observes_77 (by decide) ?_
      refine r_newa (atype := .int) (ty := .int) F h (List.mem_cons_of_mem _ wd_244) rfl 0 rfl (fun _ z => z) (N := 2) (a0 := (2, .inl (fun _ => 0))) (vp_cell_i _ _ _) (by decide) (by decide) (by decide) (by decide) (by decide) dL_observes_78 (fun H h => ?_)
      refine lv_astore (lv' := [(11, .ref (gz g + (n + 1))), (10, .ref (gz g + n)), (9, .int (tkN R 0 (5 + 11 * w + 10))), (8, .int (tkN R 0 (5 + 11 * w + 9))), (7, .int 0), (6, .int (R (69 + 3 * s1))), (5, .int (R 2)), (4, .int (R 0)), (0, .ref (gz g + 0)), (1, .int (nI w)), (2, .int (nI s1)), (3, .int (nI tz))]) hx hb dL_observes_80 hl (by decide) rfl (fun ls hl => ?_)
      refine lv_iconst (v := 2) hx hb dL_observes_82 (by decide) ?_
      refine r_newa (atype := .int) (ty := .int) F h (List.mem_cons_of_mem _ wd_244) rfl 0 rfl (fun _ z => z) (N := 2) (a0 := (2, .inl (fun _ => 0))) (vp_cell_i _ _ _) (by decide) (by decide) (by decide) (by decide) (by decide) dL_observes_83 (fun H h => ?_)
      refine lv_astore (lv' := [(12, .ref (gz g + (n + 2))), (11, .ref (gz g + (n + 1))), (10, .ref (gz g + n)), (9, .int (tkN R 0 (5 + 11 * w + 10))), (8, .int (tkN R 0 (5 + 11 * w + 9))), (7, .int 0), (6, .int (R (69 + 3 * s1))), (5, .int (R 2)), (4, .int (R 0)), (0, .ref (gz g + 0)), (1, .int (nI w)), (2, .int (nI s1)), (3, .int (nI tz))]) hx hb dL_observes_85 hl (by decide) rfl (fun ls hl => ?_)
      refine lv_aload_n hx hb dL_observes_87 rfl (lv_at hl 9 rfl) ?_
      refine lv_iload_n hx hb dL_observes_88 rfl (lv_at hl 11 rfl) ?_
      refine lv_iload_n hx hb dL_observes_89 rfl (lv_at hl 10 rfl) ?_
      refine lv_iconst (v := 3) hx hb dL_observes_90 (by decide) ?_
      refine u_iE (v := (-100005)) (ru_V (As := [.int (nI s1), .int (nI w), .int 3]) (rest := []) F h ((mu_ne (by omega) _).trans ((mu_ne (by omega) _).trans ((mu_ne (by omega) _).trans hWd.1))) rfl (kw_observation l g (n + 3) (va_up (va_up (va_up c n (some (.inl (g.2.1 0, 2, .inl (fun _ => 0))))) (n + 1) (some (.inl (g.2.1 0, 2, .inl (fun _ => 0))))) (n + 2) (some (.inl (g.2.1 0, 2, .inl (fun _ => 0))))) (((hWd.up (by omega)).up (by omega)).up (by omega)) J (nI s1) (nI w) 3 (v := (-100005)) (ob_n J.s4 J.s5 hs5 hw4 hv (by decide))) (gV hjl wd_518 wd_519 wd_520 wd_16 wd_521) rfl 3 (by decide +kernel) rfl ⟨Nat.le_of_ble_eq_true rfl, Nat.le_of_ble_eq_true rfl⟩ rfl hl.1 (Nat.le_of_ble_eq_true rfl) ⟨by decide, by decide⟩ dL_observes_91) h (fun H locs h => ?_)
      refine lv_if_lt (tgt := 101) hx hb dL_observes_94 (by decide) (fun b_94 => ?_) (fun b_94 => by first | exact absurd (by decide) b_94 | exact absurd b_94 (by decide))
      refine lv_iconst (v := 1) hx hb dL_observes_101 (by decide) ?_
      refine lv_istore (lv' := [(13, .int 1), (12, .ref (gz g + (n + 2))), (11, .ref (gz g + (n + 1))), (10, .ref (gz g + n)), (9, .int (tkN R 0 (5 + 11 * w + 10))), (8, .int (tkN R 0 (5 + 11 * w + 9))), (7, .int 0), (6, .int (R (69 + 3 * s1))), (5, .int (R 2)), (4, .int (R 0)), (0, .ref (gz g + 0)), (1, .int (nI w)), (2, .int (nI s1)), (3, .int (nI tz))]) hx hb dL_observes_102 hl (by decide) rfl (fun ls hl => ?_)
      refine lv_aload_n hx hb dL_observes_104 rfl (lv_at hl 10 rfl) ?_
      refine lv_iconst (v := 5) hx hb dL_observes_105 (by decide) ?_
      refine u_iE (v := vsI R sc) (ru_V (As := [.int 5]) (rest := []) F h ((mu_ne (by omega) _).trans ((mu_ne (by omega) _).trans ((mu_ne (by omega) _).trans hWd.1))) rfl (kw_count l g (n + 3) (va_up (va_up (va_up c n (some (.inl (g.2.1 0, 2, .inl (fun _ => 0))))) (n + 1) (some (.inl (g.2.1 0, 2, .inl (fun _ => 0))))) (n + 2) (some (.inl (g.2.1 0, 2, .inl (fun _ => 0))))) (((hWd.up (by omega)).up (by omega)).up (by omega)) J 5 (v := vsI R sc) (rfl)) (gV hjl wd_399 wd_400 wd_401 wd_16 wd_402) rfl 1 (by decide +kernel) rfl ⟨Nat.le_of_ble_eq_true rfl, Nat.le_of_ble_eq_true rfl⟩ rfl hl.1 (Nat.le_of_ble_eq_true rfl) ⟨by decide, by decide⟩ dL_observes_106) h (fun H locs h => ?_)
      refine lv_istore (lv' := [(14, .int (vsI R sc)), (13, .int 1), (12, .ref (gz g + (n + 2))), (11, .ref (gz g + (n + 1))), (10, .ref (gz g + n)), (9, .int (tkN R 0 (5 + 11 * w + 10))), (8, .int (tkN R 0 (5 + 11 * w + 9))), (7, .int 0), (6, .int (R (69 + 3 * s1))), (5, .int (R 2)), (4, .int (R 0)), (0, .ref (gz g + 0)), (1, .int (nI w)), (2, .int (nI s1)), (3, .int (nI tz))]) hx hb dL_observes_109 hl (by decide) rfl (fun ls hl => ?_)
      refine lv_iconst (v := 0) hx hb dL_observes_111 (by decide) ?_
      refine lv_istore (lv' := [(15, .int 0), (14, .int (vsI R sc)), (13, .int 1), (12, .ref (gz g + (n + 2))), (11, .ref (gz g + (n + 1))), (10, .ref (gz g + n)), (9, .int (tkN R 0 (5 + 11 * w + 10))), (8, .int (tkN R 0 (5 + 11 * w + 9))), (7, .int 0), (6, .int (R (69 + 3 * s1))), (5, .int (R 2)), (4, .int (R 0)), (0, .ref (gz g + 0)), (1, .int (nI w)), (2, .int (nI s1)), (3, .int (nI tz))]) hx hb dL_observes_112 hl (by decide) rfl (fun ls hl => ?_)
      refine r_arr (obA R w s1 cn 0 1) h ((mu_ne (by omega) _).trans ((mu_ne (by omega) _).trans (mu_eq _ _ _))) (fun _ _ => rfl) (fun h => ?_)
      refine r_mem (c1 := (va_up (va_up (va_up c n (some (.inl (g.2.1 0, 2, .inl (obA R w s1 cn 0 1))))) (n + 1) (some (.inl (g.2.1 0, 2, .inl (fun _ => 0))))) (n + 2) (some (.inl (g.2.1 0, 2, .inl (fun _ => 0)))))) h ((mu_comm (by omega) _ _).trans (congrArg (fun z : Mp => va_up z (n + 2) _) ((mu_comm (by omega) _ _).trans (congrArg (fun z : Mp => va_up z (n + 1) _) (mu_uu _ _ _ _))))) (fun h => ?_)
      refine r_arr (obA R w s1 cn 0 2) h ((mu_ne (by omega) _).trans (mu_eq _ _ _)) (fun _ _ => rfl) (fun h => ?_)
      refine r_mem (c1 := (va_up (va_up (va_up c n (some (.inl (g.2.1 0, 2, .inl (obA R w s1 cn 0 1))))) (n + 1) (some (.inl (g.2.1 0, 2, .inl (obA R w s1 cn 0 2))))) (n + 2) (some (.inl (g.2.1 0, 2, .inl (fun _ => 0)))))) h ((mu_comm (by omega) _ _).trans (congrArg (fun z : Mp => va_up z (n + 2) _) (mu_uu _ _ _ _))) (fun h => ?_)
      refine r_arr (obA R w s1 cn 0 3) h (mu_eq _ _ _) (fun _ _ => rfl) (fun h => ?_)
      refine r_mem (c1 := (va_up (va_up (va_up c n (some (.inl (g.2.1 0, 2, .inl (obA R w s1 cn 0 1))))) (n + 1) (some (.inl (g.2.1 0, 2, .inl (obA R w s1 cn 0 2))))) (n + 2) (some (.inl (g.2.1 0, 2, .inl (obA R w s1 cn 0 3)))))) h (mu_uu _ _ _ _) (fun h => ?_)
      have lt : ∀ (k : Nat) (k1 : Nat) (hk1 : k1 ≤ tz) (H : Heap) (locs : List Loc) (ls : Array Slot), (tz + 1 - k1) ≤ k → Hv g s H locs (n + 3) (va_up (va_up (va_up c n (some (.inl (g.2.1 0, 2, .inl (obA R w s1 cn k1 1))))) (n + 1) (some (.inl (g.2.1 0, 2, .inl (obA R w s1 cn k1 2))))) (n + 2) (some (.inl (g.2.1 0, 2, .inl (obA R w s1 cn k1 3))))) → lv_has ls 20 [(0, .ref (gz g + 0)), (1, .int (nI w)), (2, .int (nI s1)), (3, .int (nI tz)), (4, .int (R 0)), (5, .int (R 2)), (6, .int (R (69 + 3 * s1))), (7, .int 0), (8, .int (tkN R k1 (5 + 11 * w + 9))), (9, .int (tkN R k1 (5 + 11 * w + 10))), (10, .ref (gz g + n)), (11, .ref (gz g + (n + 1))), (12, .ref (gz g + (n + 2))), (13, .int 1), (14, .int (vsI R sc)), (15, .int (nI k1))] → W p l e (Rm 5 130 5 14) s m args below meth c0 H locs (0 + 1 + 1 + 1) (0 + 2 + 2 + 2) (MQ below (Qi g (fun xr n' c' => xr = 1 ∧ n ≤ n' ∧ ∃ (lh' : Nat) (rs' : Int32) (R' : Nat → Int32) (hq' : Nat → Nat → Int32), Wd g c' lh' rs' R' hq' ∧ Jv R' sc cn (tb + 60))) args s 5 14 (mAf g)) (F0 m 114 ls []) := by
        intro k_lt
        induction k_lt with
        | zero => intro k1 hk1 H locs ls hk h hl; exact absurd hk (by omega)
        | succ k_lt ih_lt =>
          intro k1 hk1 H locs ls hk_lt h hl
          refine lv_iload hx hb dL_observes_114 (lv_at hl 15 rfl) ?_
          refine lv_iload_n hx hb dL_observes_116 rfl (lv_at hl 3 rfl) ?_
          refine lv_icmp_ge (tgt := 269) hx hb dL_observes_117 (by decide) (fun b_117 => ?_) (fun b_117 => ?_)
          · skip
            have ek : tz = k1 := by have := lp_ge (N := tz) rfl (by omega) (by omega) b_117; omega
            subst ek
            have js : ∀ (H : Heap) (locs : List Loc) (ls : Array Slot), Hv g s H locs (n + 3) (va_up (va_up (va_up c n (some (.inl (g.2.1 0, 2, .inl (obA R w s1 cn tz 1))))) (n + 1) (some (.inl (g.2.1 0, 2, .inl (obA R w s1 cn tz 2))))) (n + 2) (some (.inl (g.2.1 0, 2, .inl (obA R w s1 cn tz 3))))) → lv_has ls 20 [(0, .ref (gz g + 0)), (1, .int (nI w)), (2, .int (nI s1)), (3, .int (nI tz)), (4, .int (R 0)), (5, .int (R 2)), (6, .int (R (69 + 3 * s1))), (7, .int 0), (8, .int (tkN R tz (5 + 11 * w + 9))), (9, .int (tkN R tz (5 + 11 * w + 10))), (10, .ref (gz g + n)), (11, .ref (gz g + (n + 1))), (12, .ref (gz g + (n + 2))), (13, .int 1), (14, .int (vsI R sc)), (15, .int (nI tz))] → W p l e (Rm 5 130 5 14) s m args below meth c0 H locs (0 + 1 + 1 + 1) (0 + 2 + 2 + 2) (MQ below (Qi g (fun xr n' c' => xr = 1 ∧ n ≤ n' ∧ ∃ (lh' : Nat) (rs' : Int32) (R' : Nat → Int32) (hq' : Nat → Nat → Int32), Wd g c' lh' rs' R' hq' ∧ Jv R' sc cn (tb + 60))) args s 5 14 (mAf g)) (F0 m 311 ls [.int (spR R w s1 cn tz)]) := by
              intro H locs ls h hl
              refine lv_istore (lv' := [(15, .int (spR R w s1 cn tz)), (0, .ref (gz g + 0)), (1, .int (nI w)), (2, .int (nI s1)), (3, .int (nI tz)), (4, .int (R 0)), (5, .int (R 2)), (6, .int (R (69 + 3 * s1))), (7, .int 0), (8, .int (tkN R tz (5 + 11 * w + 9))), (9, .int (tkN R tz (5 + 11 * w + 10))), (10, .ref (gz g + n)), (11, .ref (gz g + (n + 1))), (12, .ref (gz g + (n + 2))), (13, .int 1), (14, .int (vsI R sc))]) hx hb dL_observes_311 hl (by decide) rfl (fun ls hl => ?_)
              refine lv_aload_n hx hb dL_observes_313 rfl (lv_at hl 1 rfl) ?_
              refine lv_iload_n hx hb dL_observes_314 rfl (lv_at hl 2 rfl) ?_
              refine lv_iload_n hx hb dL_observes_315 rfl (lv_at hl 3 rfl) ?_
              refine lv_iload_n hx hb dL_observes_316 rfl (lv_at hl 4 rfl) ?_
              have hWua3 : Wd g (va_up (va_up (va_up c n (some (.inl (g.2.1 0, 2, .inl (obA R w s1 cn tz 1))))) (n + 1) (some (.inl (g.2.1 0, 2, .inl (obA R w s1 cn tz 2))))) (n + 2) (some (.inl (g.2.1 0, 2, .inl (obA R w s1 cn tz 3))))) lh rs R hq := (((hWd.up (by omega)).up (by omega)).up (by omega))
              refine u_i (ru_V (As := [.int (nI w), .int (nI s1), .int (nI tz)]) (rest := []) F h ((mu_ne (by omega) _).trans ((mu_ne (by omega) _).trans ((mu_ne (by omega) _).trans hWd.1))) rfl (k_X7_observe l g (n + 3) (va_up (va_up (va_up c n (some (.inl (g.2.1 0, 2, .inl (obA R w s1 cn tz 1))))) (n + 1) (some (.inl (g.2.1 0, 2, .inl (obA R w s1 cn tz 2))))) (n + 2) (some (.inl (g.2.1 0, 2, .inl (obA R w s1 cn tz 3))))) lh 0 rs hWua3.1 R hWua3.2.1 hWua3.2.2.2.2 hq hWua3.2.2.1 J.wb (nI w) (nI s1) (nI tz) sc cn J.s4 J.s5 J.c3 J.c5 (by omega)) (gV hjl wd_610 wd_611 wd_612 wd_16 wd_613) rfl 3 (by decide +kernel) rfl ⟨Nat.le_of_ble_eq_true rfl, Nat.le_of_ble_eq_true rfl⟩ rfl hl.1 (Nat.le_of_ble_eq_true rfl) ⟨by decide, by decide⟩ dL_observes_317) h (fun ra3 na3 ca3 H locs hp h => ?_)
              obtain ⟨hna3, hxa3, hWa3, hFa3⟩ := paW hp hWua3 (by omega) (ob_ok J hz1 hz6 hw4 h1 hs5 hd) (rmL_le (hWua3).2.2.2.2)
              subst hxa3
              have J2 := Jv.look J ht hz1 hz6 hw4 h1 hs5 hd
              have e2 := J2.s4
              refine lv_istore (lv' := [(16, .int (spR R w s1 cn tz)), (15, .int (spR R w s1 cn tz)), (0, .ref (gz g + 0)), (1, .int (nI w)), (2, .int (nI s1)), (3, .int (nI tz)), (4, .int (R 0)), (5, .int (R 2)), (6, .int (R (69 + 3 * s1))), (7, .int 0), (8, .int (tkN R tz (5 + 11 * w + 9))), (9, .int (tkN R tz (5 + 11 * w + 10))), (10, .ref (gz g + n)), (11, .ref (gz g + (n + 1))), (12, .ref (gz g + (n + 2))), (13, .int 1), (14, .int (vsI R sc))]) hx hb dL_observes_320 hl (by decide) rfl (fun ls hl => ?_)
              refine lv_iload hx hb dL_observes_322 (lv_at hl 9 rfl) ?_
              refine lv_if_le (tgt := 361) hx hb dL_observes_324 (by decide) (fun b_324 => ?_) (fun b_324 => by first | exact absurd (by decide) b_324 | exact absurd b_324 (by decide))
              refine lv_iconst (v := 1) hx hb dL_observes_361 (by decide) ?_
              refine lv_istore (lv' := [(17, .int 1), (16, .int (spR R w s1 cn tz)), (15, .int (spR R w s1 cn tz)), (0, .ref (gz g + 0)), (1, .int (nI w)), (2, .int (nI s1)), (3, .int (nI tz)), (4, .int (R 0)), (5, .int (R 2)), (6, .int (R (69 + 3 * s1))), (7, .int 0), (8, .int (tkN R tz (5 + 11 * w + 9))), (9, .int (tkN R tz (5 + 11 * w + 10))), (10, .ref (gz g + n)), (11, .ref (gz g + (n + 1))), (12, .ref (gz g + (n + 2))), (13, .int 1), (14, .int (vsI R sc))]) hx hb dL_observes_362 hl (by decide) rfl (fun ls hl => ?_)
              refine lv_iconst (v := 0) hx hb dL_observes_364 (by decide) ?_
              refine lv_istore (lv' := [(18, .int 0), (17, .int 1), (16, .int (spR R w s1 cn tz)), (15, .int (spR R w s1 cn tz)), (0, .ref (gz g + 0)), (1, .int (nI w)), (2, .int (nI s1)), (3, .int (nI tz)), (4, .int (R 0)), (5, .int (R 2)), (6, .int (R (69 + 3 * s1))), (7, .int 0), (8, .int (tkN R tz (5 + 11 * w + 9))), (9, .int (tkN R tz (5 + 11 * w + 10))), (10, .ref (gz g + n)), (11, .ref (gz g + (n + 1))), (12, .ref (gz g + (n + 2))), (13, .int 1), (14, .int (vsI R sc))]) hx hb dL_observes_365 hl (by decide) rfl (fun ls hl => ?_)
              refine lv_iload hx hb dL_observes_367 (lv_at hl 0 rfl) ?_
              refine lv_iconst (v := 2) hx hb dL_observes_369 (by decide) ?_
              refine lv_icmp_ge (tgt := 427) hx hb dL_observes_370 (by decide) (fun b_370 => by first | exact absurd b_370 (by decide) | exact absurd (by decide) b_370) (fun b_370 => ?_)
              refine lv_aload_n hx hb dL_observes_373 rfl (lv_at hl 4 rfl) ?_
              refine lv_iload_n hx hb dL_observes_374 rfl (lv_at hl 6 rfl) ?_
              refine lv_iload_n hx hb dL_observes_375 rfl (lv_at hl 5 rfl) ?_
              refine lv_iload hx hb dL_observes_376 (lv_at hl 0 rfl) ?_
              refine u_iE (v := sq_mean (rdS (rdF R w (R (69 + 3 * s1)) (nI 0) cn) tz)) (ru_V (As := [.int (nI s1), .int (nI w), .int 0]) (rest := []) F h hWa3.1 rfl (kw_observation l g na3 ca3 hWa3 J2 (nI s1) (nI w) 0 (v := sq_mean (rdS (rdF R w (R (69 + 3 * s1)) (nI 0) cn) tz)) ((ob_0 e2 J.s5 hs5 hw4 (by rw [lk_in (show 0 < 6 by decide)]; show ¬ (1 : Int32) = 0; decide)).trans (lk_in (by decide)))) (gV hjl wd_518 wd_519 wd_520 wd_16 wd_521) rfl 3 (by decide +kernel) rfl ⟨Nat.le_of_ble_eq_true rfl, Nat.le_of_ble_eq_true rfl⟩ rfl hl.1 (Nat.le_of_ble_eq_true rfl) ⟨by decide, by decide⟩ dL_observes_378) h (fun H locs h => ?_)
              refine lv_istore (lv' := [(19, .int (sq_mean (rdS (rdF R w (R (69 + 3 * s1)) (nI 0) cn) tz))), (18, .int 0), (17, .int 1), (16, .int (spR R w s1 cn tz)), (15, .int (spR R w s1 cn tz)), (0, .ref (gz g + 0)), (1, .int (nI w)), (2, .int (nI s1)), (3, .int (nI tz)), (4, .int (R 0)), (5, .int (R 2)), (6, .int (R (69 + 3 * s1))), (7, .int 0), (8, .int (tkN R tz (5 + 11 * w + 9))), (9, .int (tkN R tz (5 + 11 * w + 10))), (10, .ref (gz g + n)), (11, .ref (gz g + (n + 1))), (12, .ref (gz g + (n + 2))), (13, .int 1), (14, .int (vsI R sc))]) hx hb dL_observes_381 hl (by decide) rfl (fun ls hl => ?_)
              refine lv_iload hx hb dL_observes_383 (lv_at hl 2 rfl) ?_
              refine lv_if_eq (tgt := 418) hx hb dL_observes_385 (by decide) (fun b_385 => by first | exact absurd b_385 (by decide) | exact absurd (by decide) b_385) (fun b_385 => ?_)
              have mn0 := mn_1 (F := (rdF R w (R (69 + 3 * s1)) (nI 0) cn)) hz1 hz6 (fun k hk => rdF_b J (by omega) hw4 h1 dz (show 0 < 2 by decide))
              refine lv_iload hx hb dL_observes_388 (lv_at hl 0 rfl) ?_
              refine lv_iload_n hx hb dL_observes_390 rfl (lv_at hl 8 rfl) ?_
              refine lv_imul hx hb dL_observes_391 ?_
              refine lv_aload hx hb dL_observes_392 (lv_at hl 15 rfl) ?_
              refine lv_iload hx hb dL_observes_394 (lv_at hl 1 rfl) ?_
              refine r_ialdN F h (k := 0) ((hFa3 _ (by omega) (by omega)).trans ((mu_ne (by omega) _).trans ((mu_ne (by omega) _).trans (mu_eq _ _ _)))) (rfl) (by omega) (by decide) dL_observes_396 ?_
              refine lv_icmp_gt (tgt := 418) hx hb dL_observes_397 (by decide) (fun b_397 => by first | exact absurd b_397 (i_nlt mn0.1) | exact absurd (i_nlt mn0.1) b_397) (fun b_397 => ?_)
              refine lv_iload hx hb dL_observes_400 (lv_at hl 0 rfl) ?_
              refine lv_iconst (v := 1) hx hb dL_observes_402 (by decide) ?_
              refine lv_iadd hx hb dL_observes_403 ?_
              refine lv_iload_n hx hb dL_observes_404 rfl (lv_at hl 8 rfl) ?_
              refine lv_imul hx hb dL_observes_405 ?_
              refine lv_aload hx hb dL_observes_406 (lv_at hl 15 rfl) ?_
              refine lv_iload hx hb dL_observes_408 (lv_at hl 1 rfl) ?_
              refine r_ialdN F h (k := 0) ((hFa3 _ (by omega) (by omega)).trans ((mu_ne (by omega) _).trans ((mu_ne (by omega) _).trans (mu_eq _ _ _)))) (rfl) (by omega) (by decide) dL_observes_410 ?_
              refine lv_icmp_le (tgt := 418) hx hb dL_observes_411 (by decide) (fun b_411 => by first | exact absurd b_411 (mn0.2) | exact absurd (mn0.2) b_411) (fun b_411 => ?_)
              refine lv_iconst (v := 1) hx hb dL_observes_414 (by decide) ?_
              refine lv_goto (tgt := 419) hx hb dL_observes_415 (by decide) ?_
              refine lv_istore (lv' := [(17, .int 1), (19, .int (sq_mean (rdS (rdF R w (R (69 + 3 * s1)) (nI 0) cn) tz))), (18, .int 0), (16, .int (spR R w s1 cn tz)), (15, .int (spR R w s1 cn tz)), (0, .ref (gz g + 0)), (1, .int (nI w)), (2, .int (nI s1)), (3, .int (nI tz)), (4, .int (R 0)), (5, .int (R 2)), (6, .int (R (69 + 3 * s1))), (7, .int 0), (8, .int (tkN R tz (5 + 11 * w + 9))), (9, .int (tkN R tz (5 + 11 * w + 10))), (10, .ref (gz g + n)), (11, .ref (gz g + (n + 1))), (12, .ref (gz g + (n + 2))), (13, .int 1), (14, .int (vsI R sc))]) hx hb dL_observes_419 hl (by decide) rfl (fun ls hl => ?_)
              refine lv_iinc (v := 1) (lv' := [(18, .int 1), (17, .int 1), (19, .int (sq_mean (rdS (rdF R w (R (69 + 3 * s1)) (nI 0) cn) tz))), (16, .int (spR R w s1 cn tz)), (15, .int (spR R w s1 cn tz)), (0, .ref (gz g + 0)), (1, .int (nI w)), (2, .int (nI s1)), (3, .int (nI tz)), (4, .int (R 0)), (5, .int (R 2)), (6, .int (R (69 + 3 * s1))), (7, .int 0), (8, .int (tkN R tz (5 + 11 * w + 9))), (9, .int (tkN R tz (5 + 11 * w + 10))), (10, .ref (gz g + n)), (11, .ref (gz g + (n + 1))), (12, .ref (gz g + (n + 2))), (13, .int 1), (14, .int (vsI R sc))]) hx hb dL_observes_421 hl (k := 2) rfl (by decide) (by decide) rfl (fun ls hl => ?_)
              refine lv_goto (tgt := 367) hx hb dL_observes_424 (by decide) ?_
              refine lv_iload hx hb dL_observes_367 (lv_at hl 0 rfl) ?_
              refine lv_iconst (v := 2) hx hb dL_observes_369 (by decide) ?_
              refine lv_icmp_ge (tgt := 427) hx hb dL_observes_370 (by decide) (fun b_370_1 => by first | exact absurd b_370_1 (by decide) | exact absurd (by decide) b_370_1) (fun b_370_1 => ?_)
              refine lv_aload_n hx hb dL_observes_373 rfl (lv_at hl 5 rfl) ?_
              refine lv_iload_n hx hb dL_observes_374 rfl (lv_at hl 7 rfl) ?_
              refine lv_iload_n hx hb dL_observes_375 rfl (lv_at hl 6 rfl) ?_
              refine lv_iload hx hb dL_observes_376 (lv_at hl 0 rfl) ?_
              refine u_iE (v := sq_mean (rdS (rdF R w (R (69 + 3 * s1)) (nI 1) cn) tz)) (ru_V (As := [.int (nI s1), .int (nI w), .int 1]) (rest := []) F h hWa3.1 rfl (kw_observation l g na3 ca3 hWa3 J2 (nI s1) (nI w) 1 (v := sq_mean (rdS (rdF R w (R (69 + 3 * s1)) (nI 1) cn) tz)) ((ob_1 e2 J.s5 hs5 hw4 (by rw [lk_in (show 0 < 6 by decide)]; show ¬ (1 : Int32) = 0; decide)).trans (lk_in (by decide)))) (gV hjl wd_518 wd_519 wd_520 wd_16 wd_521) rfl 3 (by decide +kernel) rfl ⟨Nat.le_of_ble_eq_true rfl, Nat.le_of_ble_eq_true rfl⟩ rfl hl.1 (Nat.le_of_ble_eq_true rfl) ⟨by decide, by decide⟩ dL_observes_378) h (fun H locs h => ?_)
              refine lv_istore (lv' := [(19, .int (sq_mean (rdS (rdF R w (R (69 + 3 * s1)) (nI 1) cn) tz))), (18, .int 1), (17, .int 1), (16, .int (spR R w s1 cn tz)), (15, .int (spR R w s1 cn tz)), (0, .ref (gz g + 0)), (1, .int (nI w)), (2, .int (nI s1)), (3, .int (nI tz)), (4, .int (R 0)), (5, .int (R 2)), (6, .int (R (69 + 3 * s1))), (7, .int 0), (8, .int (tkN R tz (5 + 11 * w + 9))), (9, .int (tkN R tz (5 + 11 * w + 10))), (10, .ref (gz g + n)), (11, .ref (gz g + (n + 1))), (12, .ref (gz g + (n + 2))), (13, .int 1), (14, .int (vsI R sc))]) hx hb dL_observes_381 hl (by decide) rfl (fun ls hl => ?_)
              refine lv_iload hx hb dL_observes_383 (lv_at hl 2 rfl) ?_
              refine lv_if_eq (tgt := 418) hx hb dL_observes_385 (by decide) (fun b_385_1 => by first | exact absurd b_385_1 (by decide) | exact absurd (by decide) b_385_1) (fun b_385_1 => ?_)
              have mn1 := mn_1 (F := (rdF R w (R (69 + 3 * s1)) (nI 1) cn)) hz1 hz6 (fun k hk => rdF_b J (by omega) hw4 h1 dz (show 1 < 2 by decide))
              refine lv_iload hx hb dL_observes_388 (lv_at hl 0 rfl) ?_
              refine lv_iload_n hx hb dL_observes_390 rfl (lv_at hl 8 rfl) ?_
              refine lv_imul hx hb dL_observes_391 ?_
              refine lv_aload hx hb dL_observes_392 (lv_at hl 15 rfl) ?_
              refine lv_iload hx hb dL_observes_394 (lv_at hl 1 rfl) ?_
              refine r_ialdN F h (k := 1) ((hFa3 _ (by omega) (by omega)).trans ((mu_ne (by omega) _).trans ((mu_ne (by omega) _).trans (mu_eq _ _ _)))) (rfl) (by omega) (by decide) dL_observes_396 ?_
              refine lv_icmp_gt (tgt := 418) hx hb dL_observes_397 (by decide) (fun b_397_1 => by first | exact absurd b_397_1 (i_nlt mn1.1) | exact absurd (i_nlt mn1.1) b_397_1) (fun b_397_1 => ?_)
              refine lv_iload hx hb dL_observes_400 (lv_at hl 0 rfl) ?_
              refine lv_iconst (v := 1) hx hb dL_observes_402 (by decide) ?_
              refine lv_iadd hx hb dL_observes_403 ?_
              refine lv_iload_n hx hb dL_observes_404 rfl (lv_at hl 8 rfl) ?_
              refine lv_imul hx hb dL_observes_405 ?_
              refine lv_aload hx hb dL_observes_406 (lv_at hl 15 rfl) ?_
              refine lv_iload hx hb dL_observes_408 (lv_at hl 1 rfl) ?_
              refine r_ialdN F h (k := 1) ((hFa3 _ (by omega) (by omega)).trans ((mu_ne (by omega) _).trans ((mu_ne (by omega) _).trans (mu_eq _ _ _)))) (rfl) (by omega) (by decide) dL_observes_410 ?_
              refine lv_icmp_le (tgt := 418) hx hb dL_observes_411 (by decide) (fun b_411_1 => by first | exact absurd b_411_1 (mn1.2) | exact absurd (mn1.2) b_411_1) (fun b_411_1 => ?_)
              refine lv_iconst (v := 1) hx hb dL_observes_414 (by decide) ?_
              refine lv_goto (tgt := 419) hx hb dL_observes_415 (by decide) ?_
              refine lv_istore (lv' := [(17, .int 1), (19, .int (sq_mean (rdS (rdF R w (R (69 + 3 * s1)) (nI 1) cn) tz))), (18, .int 1), (16, .int (spR R w s1 cn tz)), (15, .int (spR R w s1 cn tz)), (0, .ref (gz g + 0)), (1, .int (nI w)), (2, .int (nI s1)), (3, .int (nI tz)), (4, .int (R 0)), (5, .int (R 2)), (6, .int (R (69 + 3 * s1))), (7, .int 0), (8, .int (tkN R tz (5 + 11 * w + 9))), (9, .int (tkN R tz (5 + 11 * w + 10))), (10, .ref (gz g + n)), (11, .ref (gz g + (n + 1))), (12, .ref (gz g + (n + 2))), (13, .int 1), (14, .int (vsI R sc))]) hx hb dL_observes_419 hl (by decide) rfl (fun ls hl => ?_)
              refine lv_iinc (v := 2) (lv' := [(18, .int 2), (17, .int 1), (19, .int (sq_mean (rdS (rdF R w (R (69 + 3 * s1)) (nI 1) cn) tz))), (16, .int (spR R w s1 cn tz)), (15, .int (spR R w s1 cn tz)), (0, .ref (gz g + 0)), (1, .int (nI w)), (2, .int (nI s1)), (3, .int (nI tz)), (4, .int (R 0)), (5, .int (R 2)), (6, .int (R (69 + 3 * s1))), (7, .int 0), (8, .int (tkN R tz (5 + 11 * w + 9))), (9, .int (tkN R tz (5 + 11 * w + 10))), (10, .ref (gz g + n)), (11, .ref (gz g + (n + 1))), (12, .ref (gz g + (n + 2))), (13, .int 1), (14, .int (vsI R sc))]) hx hb dL_observes_421 hl (k := 2) rfl (by decide) (by decide) rfl (fun ls hl => ?_)
              refine lv_goto (tgt := 367) hx hb dL_observes_424 (by decide) ?_
              refine lv_iload hx hb dL_observes_367 (lv_at hl 0 rfl) ?_
              refine lv_iconst (v := 2) hx hb dL_observes_369 (by decide) ?_
              refine lv_icmp_ge (tgt := 427) hx hb dL_observes_370 (by decide) (fun b_370_2 => ?_) (fun b_370_2 => by first | exact absurd (by decide) b_370_2 | exact absurd b_370_2 (by decide))
              refine lv_iload hx hb dL_observes_427 (lv_at hl 3 rfl) ?_
              refine lv_iload hx hb dL_observes_429 (lv_at hl 4 rfl) ?_
              refine lv_icmp_ne (tgt := 542) hx hb dL_observes_431 (by decide) (fun b_431 => by first | exact absurd b_431 (rfl) | exact absurd (rfl) b_431) (fun b_431 => ?_)
              refine lv_iload hx hb dL_observes_434 (lv_at hl 1 rfl) ?_
              refine lv_if_eq (tgt := 542) hx hb dL_observes_436 (by decide) (fun b_436 => by first | exact absurd b_436 (by decide) | exact absurd (by decide) b_436) (fun b_436 => ?_)
              refine lv_aload_n hx hb dL_observes_439 rfl (lv_at hl 5 rfl) ?_
              refine lv_iload_n hx hb dL_observes_440 rfl (lv_at hl 7 rfl) ?_
              refine lv_iload_n hx hb dL_observes_441 rfl (lv_at hl 6 rfl) ?_
              refine lv_iconst (v := 2) hx hb dL_observes_442 (by decide) ?_
              refine u_iE (v := spR R w s1 cn tz) (ru_V (As := [.int (nI s1), .int (nI w), .int 2]) (rest := []) F h hWa3.1 rfl (kw_observation l g na3 ca3 hWa3 J2 (nI s1) (nI w) 2 (v := spR R w s1 cn tz) ((ob_2 e2 J.s5 hs5 hw4 (by rw [lk_in (show 0 < 6 by decide)]; show ¬ (1 : Int32) = 0; decide)).trans (lk_in (by decide)))) (gV hjl wd_518 wd_519 wd_520 wd_16 wd_521) rfl 3 (by decide +kernel) rfl ⟨Nat.le_of_ble_eq_true rfl, Nat.le_of_ble_eq_true rfl⟩ rfl hl.1 (Nat.le_of_ble_eq_true rfl) ⟨by decide, by decide⟩ dL_observes_443) h (fun H locs h => ?_)
              refine lv_iload hx hb dL_observes_446 (lv_at hl 4 rfl) ?_
              refine lv_icmp_ne (tgt := 542) hx hb dL_observes_448 (by decide) (fun b_448 => by first | exact absurd b_448 (rfl) | exact absurd (rfl) b_448) (fun b_448 => ?_)
              refine lv_aload_n hx hb dL_observes_451 rfl (lv_at hl 5 rfl) ?_
              refine lv_iload_n hx hb dL_observes_452 rfl (lv_at hl 7 rfl) ?_
              refine lv_iload_n hx hb dL_observes_453 rfl (lv_at hl 6 rfl) ?_
              refine lv_iconst (v := 3) hx hb dL_observes_454 (by decide) ?_
              refine u_iE (v := nI tz) (ru_V (As := [.int (nI s1), .int (nI w), .int 3]) (rest := []) F h hWa3.1 rfl (kw_observation l g na3 ca3 hWa3 J2 (nI s1) (nI w) 3 (v := nI tz) ((ob_3 e2 J.s5 hs5 hw4 (by rw [lk_in (show 0 < 6 by decide)]; show ¬ (1 : Int32) = 0; decide)).trans (lk_in (by decide)))) (gV hjl wd_518 wd_519 wd_520 wd_16 wd_521) rfl 3 (by decide +kernel) rfl ⟨Nat.le_of_ble_eq_true rfl, Nat.le_of_ble_eq_true rfl⟩ rfl hl.1 (Nat.le_of_ble_eq_true rfl) ⟨by decide, by decide⟩ dL_observes_455) h (fun H locs h => ?_)
              refine lv_iload_n hx hb dL_observes_458 rfl (lv_at hl 8 rfl) ?_
              refine lv_icmp_ne (tgt := 542) hx hb dL_observes_459 (by decide) (fun b_459 => by first | exact absurd b_459 (rfl) | exact absurd (rfl) b_459) (fun b_459 => ?_)
              refine lv_aload_n hx hb dL_observes_462 rfl (lv_at hl 5 rfl) ?_
              refine lv_iload_n hx hb dL_observes_463 rfl (lv_at hl 7 rfl) ?_
              refine lv_iload_n hx hb dL_observes_464 rfl (lv_at hl 6 rfl) ?_
              refine lv_iconst (v := 4) hx hb dL_observes_465 (by decide) ?_
              refine u_iE (v := R 0 + nI tz) (ru_V (As := [.int (nI s1), .int (nI w), .int 4]) (rest := []) F h hWa3.1 rfl (kw_observation l g na3 ca3 hWa3 J2 (nI s1) (nI w) 4 (v := R 0 + nI tz) ((ob_4 e2 J.s5 hs5 hw4 (by rw [lk_in (show 0 < 6 by decide)]; show ¬ (1 : Int32) = 0; decide)).trans (lk_in (by decide)))) (gV hjl wd_518 wd_519 wd_520 wd_16 wd_521) rfl 3 (by decide +kernel) rfl ⟨Nat.le_of_ble_eq_true rfl, Nat.le_of_ble_eq_true rfl⟩ rfl hl.1 (Nat.le_of_ble_eq_true rfl) ⟨by decide, by decide⟩ dL_observes_466) h (fun H locs h => ?_)
              refine lv_iload hx hb dL_observes_469 (lv_at hl 9 rfl) ?_
              refine lv_iload_n hx hb dL_observes_471 rfl (lv_at hl 8 rfl) ?_
              refine lv_iadd hx hb dL_observes_472 ?_
              refine lv_icmp_ne (tgt := 542) hx hb dL_observes_473 (by decide) (fun b_473 => by first | exact absurd b_473 (rfl) | exact absurd (rfl) b_473) (fun b_473 => ?_)
              refine lv_aload_n hx hb dL_observes_476 rfl (lv_at hl 5 rfl) ?_
              refine lv_iconst (v := 0) hx hb dL_observes_477 (by decide) ?_
              refine u_iE (v := R 0 + nI tz) (ru_V (As := [.int 0]) (rest := []) F h hWa3.1 rfl (kw_count l g na3 ca3 hWa3 J2 0 (v := R 0 + nI tz) (lk_0)) (gV hjl wd_399 wd_400 wd_401 wd_16 wd_402) rfl 1 (by decide +kernel) rfl ⟨Nat.le_of_ble_eq_true rfl, Nat.le_of_ble_eq_true rfl⟩ rfl hl.1 (Nat.le_of_ble_eq_true rfl) ⟨by decide, by decide⟩ dL_observes_478) h (fun H locs h => ?_)
              refine lv_iload hx hb dL_observes_481 (lv_at hl 9 rfl) ?_
              refine lv_iload_n hx hb dL_observes_483 rfl (lv_at hl 8 rfl) ?_
              refine lv_iadd hx hb dL_observes_484 ?_
              refine lv_icmp_ne (tgt := 542) hx hb dL_observes_485 (by decide) (fun b_485 => by first | exact absurd b_485 (rfl) | exact absurd (rfl) b_485) (fun b_485 => ?_)
              refine lv_aload_n hx hb dL_observes_488 rfl (lv_at hl 5 rfl) ?_
              refine lv_bipush (v := 7) hx hb dL_observes_489 (by decide) ?_
              refine u_iE (v := R 2 + nI tz) (ru_V (As := [.int 7]) (rest := []) F h hWa3.1 rfl (kw_count l g na3 ca3 hWa3 J2 7 (v := R 2 + nI tz) (lk_2)) (gV hjl wd_399 wd_400 wd_401 wd_16 wd_402) rfl 1 (by decide +kernel) rfl ⟨Nat.le_of_ble_eq_true rfl, Nat.le_of_ble_eq_true rfl⟩ rfl hl.1 (Nat.le_of_ble_eq_true rfl) ⟨by decide, by decide⟩ dL_observes_491) h (fun H locs h => ?_)
              refine lv_iload hx hb dL_observes_494 (lv_at hl 10 rfl) ?_
              refine lv_iload_n hx hb dL_observes_496 rfl (lv_at hl 8 rfl) ?_
              refine lv_iadd hx hb dL_observes_497 ?_
              refine lv_icmp_ne (tgt := 542) hx hb dL_observes_498 (by decide) (fun b_498 => by first | exact absurd b_498 (rfl) | exact absurd (rfl) b_498) (fun b_498 => ?_)
              refine lv_aload_n hx hb dL_observes_501 rfl (lv_at hl 5 rfl) ?_
              refine lv_iconst (v := 5) hx hb dL_observes_502 (by decide) ?_
              refine u_iE (v := vsI R sc + 1) (ru_V (As := [.int 5]) (rest := []) F h hWa3.1 rfl (kw_count l g na3 ca3 hWa3 J2 5 (v := vsI R sc + 1) ((vs_look (m := tz) (cn := cn) hw4 hs5).trans (congrArg (vsI R sc + ·) (if_pos hv)))) (gV hjl wd_399 wd_400 wd_401 wd_16 wd_402) rfl 1 (by decide +kernel) rfl ⟨Nat.le_of_ble_eq_true rfl, Nat.le_of_ble_eq_true rfl⟩ rfl hl.1 (Nat.le_of_ble_eq_true rfl) ⟨by decide, by decide⟩ dL_observes_503) h (fun H locs h => ?_)
              refine lv_iload hx hb dL_observes_506 (lv_at hl 19 rfl) ?_
              refine lv_iload hx hb dL_observes_508 (lv_at hl 18 rfl) ?_
              refine lv_iadd hx hb dL_observes_510 ?_
              refine lv_icmp_ne (tgt := 542) hx hb dL_observes_511 (by decide) (fun b_511 => by first | exact absurd b_511 (rfl) | exact absurd (rfl) b_511) (fun b_511 => ?_)
              refine lv_aload_n hx hb dL_observes_514 rfl (lv_at hl 5 rfl) ?_
              refine lv_iload_n hx hb dL_observes_515 rfl (lv_at hl 6 rfl) ?_
              refine lv_bipush (v := 9) hx hb dL_observes_516 (by decide) ?_
              refine u_iE (v := tkN R tz (5 + 11 * w + 10)) (ru_V (As := [.int (nI w), .int 9]) (rest := []) F h hWa3.1 rfl (kw_wire l g na3 ca3 hWa3 J2 (nI w) 9 (v := tkN R tz (5 + 11 * w + 10)) ((wi_9 hw4 (by rw [lk_no (by omega) (by omega), J.tkw (by omega) hw4 (by decide)]; exact h1)).trans (lk_no (by omega) (by omega)))) (gV hjl wd_390 wd_391 wd_392 wd_16 wd_393) rfl 2 (by decide +kernel) rfl ⟨Nat.le_of_ble_eq_true rfl, Nat.le_of_ble_eq_true rfl⟩ rfl hl.1 (Nat.le_of_ble_eq_true rfl) ⟨by decide, by decide⟩ dL_observes_518) h (fun H locs h => ?_)
              refine lv_iload hx hb dL_observes_521 (lv_at hl 14 rfl) ?_
              refine lv_icmp_ne (tgt := 542) hx hb dL_observes_523 (by decide) (fun b_523 => by first | exact absurd b_523 (rfl) | exact absurd (rfl) b_523) (fun b_523 => ?_)
              refine lv_aload_n hx hb dL_observes_526 rfl (lv_at hl 5 rfl) ?_
              refine lv_iload_n hx hb dL_observes_527 rfl (lv_at hl 6 rfl) ?_
              refine lv_bipush (v := 8) hx hb dL_observes_528 (by decide) ?_
              refine u_iE (v := tkN R tz (5 + 11 * w + 9)) (ru_V (As := [.int (nI w), .int 8]) (rest := []) F h hWa3.1 rfl (kw_wire l g na3 ca3 hWa3 J2 (nI w) 8 (v := tkN R tz (5 + 11 * w + 9)) ((wi_8 hw4 (by rw [lk_no (by omega) (by omega), J.tkw (by omega) hw4 (by decide)]; exact h1)).trans (lk_no (by omega) (by omega)))) (gV hjl wd_390 wd_391 wd_392 wd_16 wd_393) rfl 2 (by decide +kernel) rfl ⟨Nat.le_of_ble_eq_true rfl, Nat.le_of_ble_eq_true rfl⟩ rfl hl.1 (Nat.le_of_ble_eq_true rfl) ⟨by decide, by decide⟩ dL_observes_530) h (fun H locs h => ?_)
              refine lv_iload hx hb dL_observes_533 (lv_at hl 13 rfl) ?_
              refine lv_icmp_ne (tgt := 542) hx hb dL_observes_535 (by decide) (fun b_535 => by first | exact absurd b_535 (rfl) | exact absurd (rfl) b_535) (fun b_535 => ?_)
              refine lv_iconst (v := 1) hx hb dL_observes_538 (by decide) ?_
              refine lv_goto (tgt := 543) hx hb dL_observes_539 (by decide) ?_
              exact ret_z F h (by decide) (by decide) (by decide) dL_observes_543 (⟨rfl, by omega, _, _, _, _, hWa3, J2⟩)
            refine lv_aload hx hb dL_observes_269 (lv_at hl 12 rfl) ?_
            refine lv_iconst (v := 0) hx hb dL_observes_271 (by decide) ?_
            refine r_ialdN F h (k := 0) (mu_eq _ _ _) (rfl) (by omega) (by decide) dL_observes_272 ?_
            refine lv_aload hx hb dL_observes_273 (lv_at hl 11 rfl) ?_
            refine lv_iconst (v := 0) hx hb dL_observes_275 (by decide) ?_
            refine r_ialdN F h (k := 0) ((mu_ne (by omega) _).trans (mu_eq _ _ _)) (rfl) (by omega) (by decide) dL_observes_276 ?_
            refine lv_isub hx hb dL_observes_277 ?_
            refine lv_aload hx hb dL_observes_278 (lv_at hl 12 rfl) ?_
            refine lv_iconst (v := 1) hx hb dL_observes_280 (by decide) ?_
            refine r_ialdN F h (k := 1) (mu_eq _ _ _) (rfl) (by omega) (by decide) dL_observes_281 ?_
            refine lv_aload hx hb dL_observes_282 (lv_at hl 11 rfl) ?_
            refine lv_iconst (v := 1) hx hb dL_observes_284 (by decide) ?_
            refine r_ialdN F h (k := 1) ((mu_ne (by omega) _).trans (mu_eq _ _ _)) (rfl) (by omega) (by decide) dL_observes_285 ?_
            refine lv_isub hx hb dL_observes_286 ?_
            refine lv_icmp_le (tgt := 302) hx hb dL_observes_287 (by decide) (fun b_287 => ?_) (fun b_287 => ?_)
            · skip
              refine lv_aload hx hb dL_observes_302 (lv_at hl 12 rfl) ?_
              refine lv_iconst (v := 1) hx hb dL_observes_304 (by decide) ?_
              refine r_ialdN F h (k := 1) (mu_eq _ _ _) (rfl) (by omega) (by decide) dL_observes_305 ?_
              refine lv_aload hx hb dL_observes_306 (lv_at hl 11 rfl) ?_
              refine lv_iconst (v := 1) hx hb dL_observes_308 (by decide) ?_
              refine r_ialdN F h (k := 1) ((mu_ne (by omega) _).trans (mu_eq _ _ _)) (rfl) (by omega) (by decide) dL_observes_309 ?_
              refine lv_isub hx hb dL_observes_310 ?_
              refine r_top (w := .int (spR R w s1 cn tz)) (congrArg Value.int (sp_y b_287)) ?_
              exact js _ _ _ h (lv_sub hl [0, 1, 2, 3, 4, 5, 6, 7, 8, 9, 10, 11, 12, 13, 14, 15] rfl)
            refine lv_aload hx hb dL_observes_290 (lv_at hl 12 rfl) ?_
            refine lv_iconst (v := 0) hx hb dL_observes_292 (by decide) ?_
            refine r_ialdN F h (k := 0) (mu_eq _ _ _) (rfl) (by omega) (by decide) dL_observes_293 ?_
            refine lv_aload hx hb dL_observes_294 (lv_at hl 11 rfl) ?_
            refine lv_iconst (v := 0) hx hb dL_observes_296 (by decide) ?_
            refine r_ialdN F h (k := 0) ((mu_ne (by omega) _).trans (mu_eq _ _ _)) (rfl) (by omega) (by decide) dL_observes_297 ?_
            refine lv_isub hx hb dL_observes_298 ?_
            refine lv_goto (tgt := 311) hx hb dL_observes_299 (by decide) ?_
            refine r_top (w := .int (spR R w s1 cn tz)) (congrArg Value.int (sp_x b_287)) ?_
            exact js _ _ _ h (lv_sub hl [0, 1, 2, 3, 4, 5, 6, 7, 8, 9, 10, 11, 12, 13, 14, 15] rfl)
          have hk2 : k1 < tz := lp_lt (N := tz) rfl (by omega) (by omega) b_117
          refine lv_iload hx hb dL_observes_120 (lv_at hl 7 rfl) ?_
          refine lv_if_ne (tgt := 269) hx hb dL_observes_122 (by decide) (fun b_122 => by first | exact absurd b_122 (by decide) | exact absurd (by decide) b_122) (fun b_122 => ?_)
          refine lv_iconst (v := 0) hx hb dL_observes_125 (by decide) ?_
          refine lv_istore (lv' := [(16, .int 0), (0, .ref (gz g + 0)), (1, .int (nI w)), (2, .int (nI s1)), (3, .int (nI tz)), (4, .int (R 0)), (5, .int (R 2)), (6, .int (R (69 + 3 * s1))), (7, .int 0), (8, .int (tkN R k1 (5 + 11 * w + 9))), (9, .int (tkN R k1 (5 + 11 * w + 10))), (10, .ref (gz g + n)), (11, .ref (gz g + (n + 1))), (12, .ref (gz g + (n + 2))), (13, .int 1), (14, .int (vsI R sc)), (15, .int (nI k1))]) hx hb dL_observes_126 hl (by decide) rfl (fun ls hl => ?_)
          refine lv_iload hx hb dL_observes_128 (lv_at hl 0 rfl) ?_
          refine lv_iconst (v := 2) hx hb dL_observes_130 (by decide) ?_
          refine lv_icmp_ge (tgt := 225) hx hb dL_observes_131 (by decide) (fun b_131 => by first | exact absurd b_131 (by decide) | exact absurd (by decide) b_131) (fun b_131 => ?_)
          refine lv_aload_n hx hb dL_observes_134 rfl (lv_at hl 1 rfl) ?_
          refine lv_iload_n hx hb dL_observes_135 rfl (lv_at hl 2 rfl) ?_
          refine lv_iload hx hb dL_observes_136 (lv_at hl 7 rfl) ?_
          refine lv_iload hx hb dL_observes_138 (lv_at hl 0 rfl) ?_
          refine lv_iload hx hb dL_observes_140 (lv_at hl 9 rfl) ?_
          refine lv_iload hx hb dL_observes_142 (lv_at hl 10 rfl) ?_
          refine u_iE (v := (reS R w (R (69 + 3 * s1)) (nI 0) cn + (acL (R (5 + 11 * w + 8)) (nI 0) * (swL (tkN R k1 (5 + 11 * w + 9)) ((4 * qdI (R (5 + 11 * w + 4))) / 4) (tkN R k1 (5 + 11 * w + 10)) * (R (69 + 3 * s1)) / R (5 + 11 * w + 4))))) (ru_S (As := [.ref (gz g + 0), .int (nI w), .int (R (69 + 3 * s1)), .int 0, .int (tkN R k1 (5 + 11 * w + 9)), .int (tkN R k1 (5 + 11 * w + 10))]) (rest := []) F h (k_L_at l g (n + 3) (va_up (va_up (va_up c n (some (.inl (g.2.1 0, 2, .inl (obA R w s1 cn k1 1))))) (n + 1) (some (.inl (g.2.1 0, 2, .inl (obA R w s1 cn k1 2))))) (n + 2) (some (.inl (g.2.1 0, 2, .inl (obA R w s1 cn k1 3))))) (((hWd.up (by omega)).up (by omega)).up (by omega)) J w hw4 h1 (R (69 + 3 * s1)) dz hd 0 (show 0 < 2 by decide) (tkN R k1 (5 + 11 * w + 9)) (tkN R k1 (5 + 11 * w + 10))) (gS hjl wd_502 wd_503 wd_15 wd_504) rfl 6 (by decide +kernel) rfl ⟨Nat.le_of_ble_eq_true rfl, Nat.le_of_ble_eq_true rfl⟩ rfl hl.1 (Nat.le_of_ble_eq_true rfl) ⟨by decide, by decide⟩ dL_observes_144) h (fun H locs h => ?_)
          refine r_top (w := .int (rdF R w (R (69 + 3 * s1)) (nI 0) cn k1)) (congrArg Value.int (at_l J (by omega) hw4 h1 (R (69 + 3 * s1)) (show 0 < 2 by decide))) ?_
          refine lv_istore (lv' := [(17, .int (rdF R w (R (69 + 3 * s1)) (nI 0) cn k1)), (16, .int 0), (0, .ref (gz g + 0)), (1, .int (nI w)), (2, .int (nI s1)), (3, .int (nI tz)), (4, .int (R 0)), (5, .int (R 2)), (6, .int (R (69 + 3 * s1))), (7, .int 0), (8, .int (tkN R k1 (5 + 11 * w + 9))), (9, .int (tkN R k1 (5 + 11 * w + 10))), (10, .ref (gz g + n)), (11, .ref (gz g + (n + 1))), (12, .ref (gz g + (n + 2))), (13, .int 1), (14, .int (vsI R sc)), (15, .int (nI k1))]) hx hb dL_observes_147 hl (by decide) rfl (fun ls hl => ?_)
          refine lv_aload hx hb dL_observes_149 (lv_at hl 12 rfl) ?_
          refine lv_iload hx hb dL_observes_151 (lv_at hl 1 rfl) ?_
          refine lv_dup2_11 hx hb dL_observes_153 rfl rfl ?_
          refine r_ialdN F h (k := 0) ((mu_ne (by omega) _).trans ((mu_ne (by omega) _).trans (mu_eq _ _ _))) (rfl) (by decide) (by decide) dL_observes_154 ?_
          refine r_top (w := .int (obA R w s1 cn k1 1 0)) (rfl) ?_
          refine lv_iload hx hb dL_observes_155 (lv_at hl 0 rfl) ?_
          refine lv_iadd hx hb dL_observes_157 ?_
          refine r_iastN F h (k := 0) (f' := upd (obA R w s1 cn k1 1) 0 ((obA R w s1 cn k1 1 0) + (rdF R w (R (69 + 3 * s1)) (nI 0) cn k1))) ((mu_ne (by omega) _).trans ((mu_ne (by omega) _).trans (mu_eq _ _ _))) (rfl) (by decide) (by decide) dL_observes_158 (rfl) (fun H locs h => ?_)
          refine r_mem (c1 := (va_up (va_up (va_up c n (some (.inl (g.2.1 0, 2, .inl (upd (obA R w s1 cn k1 1) 0 ((obA R w s1 cn k1 1 0) + (rdF R w (R (69 + 3 * s1)) (nI 0) cn k1))))))) (n + 1) (some (.inl (g.2.1 0, 2, .inl (obA R w s1 cn k1 2))))) (n + 2) (some (.inl (g.2.1 0, 2, .inl (obA R w s1 cn k1 3)))))) h ((mu_comm (by omega) _ _).trans (congrArg (fun z : Mp => va_up z (n + 2) _) ((mu_comm (by omega) _ _).trans (congrArg (fun z : Mp => va_up z (n + 1) _) (mu_uu _ _ _ _))))) (fun h => ?_)
          have jl0 : ∀ (H : Heap) (locs : List Loc) (ls : Array Slot), Hv g s H locs (n + 3) (va_up (va_up (va_up c n (some (.inl (g.2.1 0, 2, .inl (upd (obA R w s1 cn k1 1) 0 ((obA R w s1 cn k1 1 0) + (rdF R w (R (69 + 3 * s1)) (nI 0) cn k1))))))) (n + 1) (some (.inl (g.2.1 0, 2, .inl (obA R w s1 cn k1 2))))) (n + 2) (some (.inl (g.2.1 0, 2, .inl (obA R w s1 cn k1 3))))) → lv_has ls 20 [(17, .int (rdF R w (R (69 + 3 * s1)) (nI 0) cn k1)), (16, .int 0), (0, .ref (gz g + 0)), (1, .int (nI w)), (2, .int (nI s1)), (3, .int (nI tz)), (4, .int (R 0)), (5, .int (R 2)), (6, .int (R (69 + 3 * s1))), (7, .int 0), (8, .int (tkN R k1 (5 + 11 * w + 9))), (9, .int (tkN R k1 (5 + 11 * w + 10))), (10, .ref (gz g + n)), (11, .ref (gz g + (n + 1))), (12, .ref (gz g + (n + 2))), (13, .int 1), (14, .int (vsI R sc)), (15, .int (nI k1))] → W p l e (Rm 5 130 5 14) s m args below meth c0 H locs (0 + 1 + 1 + 1) (0 + 2 + 2 + 2) (MQ below (Qi g (fun xr n' c' => xr = 1 ∧ n ≤ n' ∧ ∃ (lh' : Nat) (rs' : Int32) (R' : Nat → Int32) (hq' : Nat → Nat → Int32), Wd g c' lh' rs' R' hq' ∧ Jv R' sc cn (tb + 60))) args s 5 14 (mAf g)) (F0 m 188 ls [.int (obA R w s1 cn (k1 + 1) 2 0), .int 0, .ref (gz g + (n + 1))]) := by
            intro H locs ls h hl
            refine r_iastN F h (k := 0) (f' := upd (obA R w s1 cn k1 2) 0 (obA R w s1 cn (k1 + 1) 2 0)) ((mu_ne (by omega) _).trans (mu_eq _ _ _)) (rfl) (by decide) (by decide) dL_observes_188 (rfl) (fun H locs h => ?_)
            refine r_mem (c1 := (va_up (va_up (va_up c n (some (.inl (g.2.1 0, 2, .inl (upd (obA R w s1 cn k1 1) 0 ((obA R w s1 cn k1 1 0) + (rdF R w (R (69 + 3 * s1)) (nI 0) cn k1))))))) (n + 1) (some (.inl (g.2.1 0, 2, .inl (upd (obA R w s1 cn k1 2) 0 (obA R w s1 cn (k1 + 1) 2 0)))))) (n + 2) (some (.inl (g.2.1 0, 2, .inl (obA R w s1 cn k1 3)))))) h ((mu_comm (by omega) _ _).trans (congrArg (fun z : Mp => va_up z (n + 2) _) (mu_uu _ _ _ _))) (fun h => ?_)
            have jm0 : ∀ (H : Heap) (locs : List Loc) (ls : Array Slot), Hv g s H locs (n + 3) (va_up (va_up (va_up c n (some (.inl (g.2.1 0, 2, .inl (upd (obA R w s1 cn k1 1) 0 ((obA R w s1 cn k1 1 0) + (rdF R w (R (69 + 3 * s1)) (nI 0) cn k1))))))) (n + 1) (some (.inl (g.2.1 0, 2, .inl (upd (obA R w s1 cn k1 2) 0 (obA R w s1 cn (k1 + 1) 2 0)))))) (n + 2) (some (.inl (g.2.1 0, 2, .inl (obA R w s1 cn k1 3))))) → lv_has ls 20 [(17, .int (rdF R w (R (69 + 3 * s1)) (nI 0) cn k1)), (16, .int 0), (0, .ref (gz g + 0)), (1, .int (nI w)), (2, .int (nI s1)), (3, .int (nI tz)), (4, .int (R 0)), (5, .int (R 2)), (6, .int (R (69 + 3 * s1))), (7, .int 0), (8, .int (tkN R k1 (5 + 11 * w + 9))), (9, .int (tkN R k1 (5 + 11 * w + 10))), (10, .ref (gz g + n)), (11, .ref (gz g + (n + 1))), (12, .ref (gz g + (n + 2))), (13, .int 1), (14, .int (vsI R sc)), (15, .int (nI k1))] → W p l e (Rm 5 130 5 14) s m args below meth c0 H locs (0 + 1 + 1 + 1) (0 + 2 + 2 + 2) (MQ below (Qi g (fun xr n' c' => xr = 1 ∧ n ≤ n' ∧ ∃ (lh' : Nat) (rs' : Int32) (R' : Nat → Int32) (hq' : Nat → Nat → Int32), Wd g c' lh' rs' R' hq' ∧ Jv R' sc cn (tb + 60))) args s 5 14 (mAf g)) (F0 m 218 ls [.int (obA R w s1 cn (k1 + 1) 3 0), .int 0, .ref (gz g + (n + 2))]) := by
              intro H locs ls h hl
              refine r_iastN F h (k := 0) (f' := upd (obA R w s1 cn k1 3) 0 (obA R w s1 cn (k1 + 1) 3 0)) (mu_eq _ _ _) (rfl) (by decide) (by decide) dL_observes_218 (rfl) (fun H locs h => ?_)
              refine r_mem (c1 := (va_up (va_up (va_up c n (some (.inl (g.2.1 0, 2, .inl (upd (obA R w s1 cn k1 1) 0 ((obA R w s1 cn k1 1 0) + (rdF R w (R (69 + 3 * s1)) (nI 0) cn k1))))))) (n + 1) (some (.inl (g.2.1 0, 2, .inl (upd (obA R w s1 cn k1 2) 0 (obA R w s1 cn (k1 + 1) 2 0)))))) (n + 2) (some (.inl (g.2.1 0, 2, .inl (upd (obA R w s1 cn k1 3) 0 (obA R w s1 cn (k1 + 1) 3 0))))))) h (mu_uu _ _ _ _) (fun h => ?_)
              refine lv_iinc (v := 1) (lv' := [(16, .int 1), (17, .int (rdF R w (R (69 + 3 * s1)) (nI 0) cn k1)), (0, .ref (gz g + 0)), (1, .int (nI w)), (2, .int (nI s1)), (3, .int (nI tz)), (4, .int (R 0)), (5, .int (R 2)), (6, .int (R (69 + 3 * s1))), (7, .int 0), (8, .int (tkN R k1 (5 + 11 * w + 9))), (9, .int (tkN R k1 (5 + 11 * w + 10))), (10, .ref (gz g + n)), (11, .ref (gz g + (n + 1))), (12, .ref (gz g + (n + 2))), (13, .int 1), (14, .int (vsI R sc)), (15, .int (nI k1))]) hx hb dL_observes_219 hl (k := 1) rfl (by decide) (by decide) rfl (fun ls hl => ?_)
              refine lv_goto (tgt := 128) hx hb dL_observes_222 (by decide) ?_
              refine lv_iload hx hb dL_observes_128 (lv_at hl 0 rfl) ?_
              refine lv_iconst (v := 2) hx hb dL_observes_130 (by decide) ?_
              refine lv_icmp_ge (tgt := 225) hx hb dL_observes_131 (by decide) (fun b_131_1 => by first | exact absurd b_131_1 (by decide) | exact absurd (by decide) b_131_1) (fun b_131_1 => ?_)
              refine lv_aload_n hx hb dL_observes_134 rfl (lv_at hl 2 rfl) ?_
              refine lv_iload_n hx hb dL_observes_135 rfl (lv_at hl 3 rfl) ?_
              refine lv_iload hx hb dL_observes_136 (lv_at hl 8 rfl) ?_
              refine lv_iload hx hb dL_observes_138 (lv_at hl 0 rfl) ?_
              refine lv_iload hx hb dL_observes_140 (lv_at hl 10 rfl) ?_
              refine lv_iload hx hb dL_observes_142 (lv_at hl 11 rfl) ?_
              refine u_iE (v := (reS R w (R (69 + 3 * s1)) (nI 1) cn + (acL (R (5 + 11 * w + 8)) (nI 1) * (swL (tkN R k1 (5 + 11 * w + 9)) ((4 * qdI (R (5 + 11 * w + 4))) / 4) (tkN R k1 (5 + 11 * w + 10)) * (R (69 + 3 * s1)) / R (5 + 11 * w + 4))))) (ru_S (As := [.ref (gz g + 0), .int (nI w), .int (R (69 + 3 * s1)), .int 1, .int (tkN R k1 (5 + 11 * w + 9)), .int (tkN R k1 (5 + 11 * w + 10))]) (rest := []) F h (k_L_at l g (n + 3) (va_up (va_up (va_up c n (some (.inl (g.2.1 0, 2, .inl (upd (obA R w s1 cn k1 1) 0 ((obA R w s1 cn k1 1 0) + (rdF R w (R (69 + 3 * s1)) (nI 0) cn k1))))))) (n + 1) (some (.inl (g.2.1 0, 2, .inl (upd (obA R w s1 cn k1 2) 0 (obA R w s1 cn (k1 + 1) 2 0)))))) (n + 2) (some (.inl (g.2.1 0, 2, .inl (upd (obA R w s1 cn k1 3) 0 (obA R w s1 cn (k1 + 1) 3 0)))))) (((hWd.up (by omega)).up (by omega)).up (by omega)) J w hw4 h1 (R (69 + 3 * s1)) dz hd 1 (show 1 < 2 by decide) (tkN R k1 (5 + 11 * w + 9)) (tkN R k1 (5 + 11 * w + 10))) (gS hjl wd_502 wd_503 wd_15 wd_504) rfl 6 (by decide +kernel) rfl ⟨Nat.le_of_ble_eq_true rfl, Nat.le_of_ble_eq_true rfl⟩ rfl hl.1 (Nat.le_of_ble_eq_true rfl) ⟨by decide, by decide⟩ dL_observes_144) h (fun H locs h => ?_)
              refine r_top (w := .int (rdF R w (R (69 + 3 * s1)) (nI 1) cn k1)) (congrArg Value.int (at_l J (by omega) hw4 h1 (R (69 + 3 * s1)) (show 1 < 2 by decide))) ?_
              refine lv_istore (lv' := [(17, .int (rdF R w (R (69 + 3 * s1)) (nI 1) cn k1)), (16, .int 1), (0, .ref (gz g + 0)), (1, .int (nI w)), (2, .int (nI s1)), (3, .int (nI tz)), (4, .int (R 0)), (5, .int (R 2)), (6, .int (R (69 + 3 * s1))), (7, .int 0), (8, .int (tkN R k1 (5 + 11 * w + 9))), (9, .int (tkN R k1 (5 + 11 * w + 10))), (10, .ref (gz g + n)), (11, .ref (gz g + (n + 1))), (12, .ref (gz g + (n + 2))), (13, .int 1), (14, .int (vsI R sc)), (15, .int (nI k1))]) hx hb dL_observes_147 hl (by decide) rfl (fun ls hl => ?_)
              refine lv_aload hx hb dL_observes_149 (lv_at hl 12 rfl) ?_
              refine lv_iload hx hb dL_observes_151 (lv_at hl 1 rfl) ?_
              refine lv_dup2_11 hx hb dL_observes_153 rfl rfl ?_
              refine r_ialdN F h (k := 1) ((mu_ne (by omega) _).trans ((mu_ne (by omega) _).trans (mu_eq _ _ _))) (rfl) (by decide) (by decide) dL_observes_154 ?_
              refine r_top (w := .int (obA R w s1 cn k1 1 1)) (congrArg Value.int (upd_no (by decide))) ?_
              refine lv_iload hx hb dL_observes_155 (lv_at hl 0 rfl) ?_
              refine lv_iadd hx hb dL_observes_157 ?_
              refine r_iastN F h (k := 1) (f' := upd (upd (obA R w s1 cn k1 1) 0 ((obA R w s1 cn k1 1 0) + (rdF R w (R (69 + 3 * s1)) (nI 0) cn k1))) 1 ((obA R w s1 cn k1 1 1) + (rdF R w (R (69 + 3 * s1)) (nI 1) cn k1))) ((mu_ne (by omega) _).trans ((mu_ne (by omega) _).trans (mu_eq _ _ _))) (rfl) (by decide) (by decide) dL_observes_158 (rfl) (fun H locs h => ?_)
              refine r_mem (c1 := (va_up (va_up (va_up c n (some (.inl (g.2.1 0, 2, .inl (upd (upd (obA R w s1 cn k1 1) 0 ((obA R w s1 cn k1 1 0) + (rdF R w (R (69 + 3 * s1)) (nI 0) cn k1))) 1 ((obA R w s1 cn k1 1 1) + (rdF R w (R (69 + 3 * s1)) (nI 1) cn k1))))))) (n + 1) (some (.inl (g.2.1 0, 2, .inl (upd (obA R w s1 cn k1 2) 0 (obA R w s1 cn (k1 + 1) 2 0)))))) (n + 2) (some (.inl (g.2.1 0, 2, .inl (upd (obA R w s1 cn k1 3) 0 (obA R w s1 cn (k1 + 1) 3 0))))))) h ((mu_comm (by omega) _ _).trans (congrArg (fun z : Mp => va_up z (n + 2) _) ((mu_comm (by omega) _ _).trans (congrArg (fun z : Mp => va_up z (n + 1) _) (mu_uu _ _ _ _))))) (fun h => ?_)
              have jl1 : ∀ (H : Heap) (locs : List Loc) (ls : Array Slot), Hv g s H locs (n + 3) (va_up (va_up (va_up c n (some (.inl (g.2.1 0, 2, .inl (upd (upd (obA R w s1 cn k1 1) 0 ((obA R w s1 cn k1 1 0) + (rdF R w (R (69 + 3 * s1)) (nI 0) cn k1))) 1 ((obA R w s1 cn k1 1 1) + (rdF R w (R (69 + 3 * s1)) (nI 1) cn k1))))))) (n + 1) (some (.inl (g.2.1 0, 2, .inl (upd (obA R w s1 cn k1 2) 0 (obA R w s1 cn (k1 + 1) 2 0)))))) (n + 2) (some (.inl (g.2.1 0, 2, .inl (upd (obA R w s1 cn k1 3) 0 (obA R w s1 cn (k1 + 1) 3 0)))))) → lv_has ls 20 [(17, .int (rdF R w (R (69 + 3 * s1)) (nI 1) cn k1)), (16, .int 1), (0, .ref (gz g + 0)), (1, .int (nI w)), (2, .int (nI s1)), (3, .int (nI tz)), (4, .int (R 0)), (5, .int (R 2)), (6, .int (R (69 + 3 * s1))), (7, .int 0), (8, .int (tkN R k1 (5 + 11 * w + 9))), (9, .int (tkN R k1 (5 + 11 * w + 10))), (10, .ref (gz g + n)), (11, .ref (gz g + (n + 1))), (12, .ref (gz g + (n + 2))), (13, .int 1), (14, .int (vsI R sc)), (15, .int (nI k1))] → W p l e (Rm 5 130 5 14) s m args below meth c0 H locs (0 + 1 + 1 + 1) (0 + 2 + 2 + 2) (MQ below (Qi g (fun xr n' c' => xr = 1 ∧ n ≤ n' ∧ ∃ (lh' : Nat) (rs' : Int32) (R' : Nat → Int32) (hq' : Nat → Nat → Int32), Wd g c' lh' rs' R' hq' ∧ Jv R' sc cn (tb + 60))) args s 5 14 (mAf g)) (F0 m 188 ls [.int (obA R w s1 cn (k1 + 1) 2 1), .int 1, .ref (gz g + (n + 1))]) := by
                intro H locs ls h hl
                refine r_iastN F h (k := 1) (f' := upd (upd (obA R w s1 cn k1 2) 0 (obA R w s1 cn (k1 + 1) 2 0)) 1 (obA R w s1 cn (k1 + 1) 2 1)) ((mu_ne (by omega) _).trans (mu_eq _ _ _)) (rfl) (by decide) (by decide) dL_observes_188 (rfl) (fun H locs h => ?_)
                refine r_mem (c1 := (va_up (va_up (va_up c n (some (.inl (g.2.1 0, 2, .inl (upd (upd (obA R w s1 cn k1 1) 0 ((obA R w s1 cn k1 1 0) + (rdF R w (R (69 + 3 * s1)) (nI 0) cn k1))) 1 ((obA R w s1 cn k1 1 1) + (rdF R w (R (69 + 3 * s1)) (nI 1) cn k1))))))) (n + 1) (some (.inl (g.2.1 0, 2, .inl (upd (upd (obA R w s1 cn k1 2) 0 (obA R w s1 cn (k1 + 1) 2 0)) 1 (obA R w s1 cn (k1 + 1) 2 1)))))) (n + 2) (some (.inl (g.2.1 0, 2, .inl (upd (obA R w s1 cn k1 3) 0 (obA R w s1 cn (k1 + 1) 3 0))))))) h ((mu_comm (by omega) _ _).trans (congrArg (fun z : Mp => va_up z (n + 2) _) (mu_uu _ _ _ _))) (fun h => ?_)
                have jm1 : ∀ (H : Heap) (locs : List Loc) (ls : Array Slot), Hv g s H locs (n + 3) (va_up (va_up (va_up c n (some (.inl (g.2.1 0, 2, .inl (upd (upd (obA R w s1 cn k1 1) 0 ((obA R w s1 cn k1 1 0) + (rdF R w (R (69 + 3 * s1)) (nI 0) cn k1))) 1 ((obA R w s1 cn k1 1 1) + (rdF R w (R (69 + 3 * s1)) (nI 1) cn k1))))))) (n + 1) (some (.inl (g.2.1 0, 2, .inl (upd (upd (obA R w s1 cn k1 2) 0 (obA R w s1 cn (k1 + 1) 2 0)) 1 (obA R w s1 cn (k1 + 1) 2 1)))))) (n + 2) (some (.inl (g.2.1 0, 2, .inl (upd (obA R w s1 cn k1 3) 0 (obA R w s1 cn (k1 + 1) 3 0)))))) → lv_has ls 20 [(17, .int (rdF R w (R (69 + 3 * s1)) (nI 1) cn k1)), (16, .int 1), (0, .ref (gz g + 0)), (1, .int (nI w)), (2, .int (nI s1)), (3, .int (nI tz)), (4, .int (R 0)), (5, .int (R 2)), (6, .int (R (69 + 3 * s1))), (7, .int 0), (8, .int (tkN R k1 (5 + 11 * w + 9))), (9, .int (tkN R k1 (5 + 11 * w + 10))), (10, .ref (gz g + n)), (11, .ref (gz g + (n + 1))), (12, .ref (gz g + (n + 2))), (13, .int 1), (14, .int (vsI R sc)), (15, .int (nI k1))] → W p l e (Rm 5 130 5 14) s m args below meth c0 H locs (0 + 1 + 1 + 1) (0 + 2 + 2 + 2) (MQ below (Qi g (fun xr n' c' => xr = 1 ∧ n ≤ n' ∧ ∃ (lh' : Nat) (rs' : Int32) (R' : Nat → Int32) (hq' : Nat → Nat → Int32), Wd g c' lh' rs' R' hq' ∧ Jv R' sc cn (tb + 60))) args s 5 14 (mAf g)) (F0 m 218 ls [.int (obA R w s1 cn (k1 + 1) 3 1), .int 1, .ref (gz g + (n + 2))]) := by
                  intro H locs ls h hl
                  refine r_iastN F h (k := 1) (f' := upd (upd (obA R w s1 cn k1 3) 0 (obA R w s1 cn (k1 + 1) 3 0)) 1 (obA R w s1 cn (k1 + 1) 3 1)) (mu_eq _ _ _) (rfl) (by decide) (by decide) dL_observes_218 (rfl) (fun H locs h => ?_)
                  refine r_mem (c1 := (va_up (va_up (va_up c n (some (.inl (g.2.1 0, 2, .inl (upd (upd (obA R w s1 cn k1 1) 0 ((obA R w s1 cn k1 1 0) + (rdF R w (R (69 + 3 * s1)) (nI 0) cn k1))) 1 ((obA R w s1 cn k1 1 1) + (rdF R w (R (69 + 3 * s1)) (nI 1) cn k1))))))) (n + 1) (some (.inl (g.2.1 0, 2, .inl (upd (upd (obA R w s1 cn k1 2) 0 (obA R w s1 cn (k1 + 1) 2 0)) 1 (obA R w s1 cn (k1 + 1) 2 1)))))) (n + 2) (some (.inl (g.2.1 0, 2, .inl (upd (upd (obA R w s1 cn k1 3) 0 (obA R w s1 cn (k1 + 1) 3 0)) 1 (obA R w s1 cn (k1 + 1) 3 1))))))) h (mu_uu _ _ _ _) (fun h => ?_)
                  refine lv_iinc (v := 2) (lv' := [(16, .int 2), (17, .int (rdF R w (R (69 + 3 * s1)) (nI 1) cn k1)), (0, .ref (gz g + 0)), (1, .int (nI w)), (2, .int (nI s1)), (3, .int (nI tz)), (4, .int (R 0)), (5, .int (R 2)), (6, .int (R (69 + 3 * s1))), (7, .int 0), (8, .int (tkN R k1 (5 + 11 * w + 9))), (9, .int (tkN R k1 (5 + 11 * w + 10))), (10, .ref (gz g + n)), (11, .ref (gz g + (n + 1))), (12, .ref (gz g + (n + 2))), (13, .int 1), (14, .int (vsI R sc)), (15, .int (nI k1))]) hx hb dL_observes_219 hl (k := 1) rfl (by decide) (by decide) rfl (fun ls hl => ?_)
                  refine lv_goto (tgt := 128) hx hb dL_observes_222 (by decide) ?_
                  refine lv_iload hx hb dL_observes_128 (lv_at hl 0 rfl) ?_
                  refine lv_iconst (v := 2) hx hb dL_observes_130 (by decide) ?_
                  refine lv_icmp_ge (tgt := 225) hx hb dL_observes_131 (by decide) (fun b_131_2 => ?_) (fun b_131_2 => by first | exact absurd (by decide) b_131_2 | exact absurd b_131_2 (by decide))
                  refine r_arr (obA R w s1 cn (k1 + 1) 1) h ((mu_ne (by omega) _).trans ((mu_ne (by omega) _).trans (mu_eq _ _ _))) (fun j hj => by rcases (show j = 0 ∨ j = 1 by omega) with rfl | rfl <;> rfl) (fun h => ?_)
                  refine r_mem (c1 := (va_up (va_up (va_up c n (some (.inl (g.2.1 0, 2, .inl (obA R w s1 cn (k1 + 1) 1))))) (n + 1) (some (.inl (g.2.1 0, 2, .inl (upd (upd (obA R w s1 cn k1 2) 0 (obA R w s1 cn (k1 + 1) 2 0)) 1 (obA R w s1 cn (k1 + 1) 2 1)))))) (n + 2) (some (.inl (g.2.1 0, 2, .inl (upd (upd (obA R w s1 cn k1 3) 0 (obA R w s1 cn (k1 + 1) 3 0)) 1 (obA R w s1 cn (k1 + 1) 3 1))))))) h ((mu_comm (by omega) _ _).trans (congrArg (fun z : Mp => va_up z (n + 2) _) ((mu_comm (by omega) _ _).trans (congrArg (fun z : Mp => va_up z (n + 1) _) (mu_uu _ _ _ _))))) (fun h => ?_)
                  refine r_arr (obA R w s1 cn (k1 + 1) 2) h ((mu_ne (by omega) _).trans (mu_eq _ _ _)) (fun j hj => by rcases (show j = 0 ∨ j = 1 by omega) with rfl | rfl <;> rfl) (fun h => ?_)
                  refine r_mem (c1 := (va_up (va_up (va_up c n (some (.inl (g.2.1 0, 2, .inl (obA R w s1 cn (k1 + 1) 1))))) (n + 1) (some (.inl (g.2.1 0, 2, .inl (obA R w s1 cn (k1 + 1) 2))))) (n + 2) (some (.inl (g.2.1 0, 2, .inl (upd (upd (obA R w s1 cn k1 3) 0 (obA R w s1 cn (k1 + 1) 3 0)) 1 (obA R w s1 cn (k1 + 1) 3 1))))))) h ((mu_comm (by omega) _ _).trans (congrArg (fun z : Mp => va_up z (n + 2) _) (mu_uu _ _ _ _))) (fun h => ?_)
                  refine r_arr (obA R w s1 cn (k1 + 1) 3) h (mu_eq _ _ _) (fun j hj => by rcases (show j = 0 ∨ j = 1 by omega) with rfl | rfl <;> rfl) (fun h => ?_)
                  refine r_mem (c1 := (va_up (va_up (va_up c n (some (.inl (g.2.1 0, 2, .inl (obA R w s1 cn (k1 + 1) 1))))) (n + 1) (some (.inl (g.2.1 0, 2, .inl (obA R w s1 cn (k1 + 1) 2))))) (n + 2) (some (.inl (g.2.1 0, 2, .inl (obA R w s1 cn (k1 + 1) 3)))))) h (mu_uu _ _ _ _) (fun h => ?_)
                  refine lv_iload hx hb dL_observes_225 (lv_at hl 11 rfl) ?_
                  refine lv_iconst (v := 1) hx hb dL_observes_227 (by decide) ?_
                  refine lv_iadd hx hb dL_observes_228 ?_
                  refine lv_aload_n hx hb dL_observes_229 rfl (lv_at hl 2 rfl) ?_
                  refine lv_iload_n hx hb dL_observes_230 rfl (lv_at hl 3 rfl) ?_
                  refine lv_bipush (v := 10) hx hb dL_observes_231 (by decide) ?_
                  refine u_iE (v := (4 * qdI (R (5 + 11 * w + 4)))) (ru_V (As := [.int (nI w), .int 10]) (rest := [.int (tkN R k1 (5 + 11 * w + 10) + 1)]) F h ((mu_ne (by omega) _).trans ((mu_ne (by omega) _).trans ((mu_ne (by omega) _).trans hWd.1))) rfl (kw_wire l g (n + 3) (va_up (va_up (va_up c n (some (.inl (g.2.1 0, 2, .inl (obA R w s1 cn (k1 + 1) 1))))) (n + 1) (some (.inl (g.2.1 0, 2, .inl (obA R w s1 cn (k1 + 1) 2))))) (n + 2) (some (.inl (g.2.1 0, 2, .inl (obA R w s1 cn (k1 + 1) 3))))) (((hWd.up (by omega)).up (by omega)).up (by omega)) J (nI w) 10 (v := (4 * qdI (R (5 + 11 * w + 4)))) (wi_10 hw4 h1)) (gV hjl wd_390 wd_391 wd_392 wd_16 wd_393) rfl 2 (by decide +kernel) rfl ⟨Nat.le_of_ble_eq_true rfl, Nat.le_of_ble_eq_true rfl⟩ rfl hl.1 (Nat.le_of_ble_eq_true rfl) ⟨by decide, by decide⟩ dL_observes_233) h (fun H locs h => ?_)
                  refine lv_irem hx hb dL_observes_236 (by have g4 := gw.2.2.2.1; exact fun q => qd_440 g4 (by rw [q]; decide)) ?_
                  refine lv_istore (lv' := [(9, .int ((tkN R k1 (5 + 11 * w + 10) + 1) - (tkN R k1 (5 + 11 * w + 10) + 1) / (4 * qdI (R (5 + 11 * w + 4))) * (4 * qdI (R (5 + 11 * w + 4))))), (16, .int 2), (17, .int (rdF R w (R (69 + 3 * s1)) (nI 1) cn k1)), (0, .ref (gz g + 0)), (1, .int (nI w)), (2, .int (nI s1)), (3, .int (nI tz)), (4, .int (R 0)), (5, .int (R 2)), (6, .int (R (69 + 3 * s1))), (7, .int 0), (8, .int (tkN R k1 (5 + 11 * w + 9))), (10, .ref (gz g + n)), (11, .ref (gz g + (n + 1))), (12, .ref (gz g + (n + 2))), (13, .int 1), (14, .int (vsI R sc)), (15, .int (nI k1))]) hx hb dL_observes_237 hl (by decide) rfl (fun ls hl => ?_)
                  have hl : lv_has ls 20 [(9, .int (tkN R (k1 + 1) (5 + 11 * w + 10))), (16, .int 2), (17, .int (rdF R w (R (69 + 3 * s1)) (nI 1) cn k1)), (0, .ref (gz g + 0)), (1, .int (nI w)), (2, .int (nI s1)), (3, .int (nI tz)), (4, .int (R 0)), (5, .int (R 2)), (6, .int (R (69 + 3 * s1))), (7, .int 0), (8, .int (tkN R k1 (5 + 11 * w + 9))), (10, .ref (gz g + n)), (11, .ref (gz g + (n + 1))), (12, .ref (gz g + (n + 2))), (13, .int 1), (14, .int (vsI R sc)), (15, .int (nI k1))] := by rw [show (tkN R (k1 + 1) (5 + 11 * w + 10) : Int32) = ((tkN R k1 (5 + 11 * w + 10) + 1) - (tkN R k1 (5 + 11 * w + 10) + 1) / (4 * qdI (R (5 + 11 * w + 4))) * (4 * qdI (R (5 + 11 * w + 4)))) from tk_ph J (by omega) hw4 h1]; exact hl
                  refine lv_iload hx hb dL_observes_239 (lv_at hl 0 rfl) ?_
                  refine lv_if_ne (tgt := 259) hx hb dL_observes_241 (by decide) (fun b_241 => ?_) (fun b_241 => ?_)
                  · skip
                    refine lv_iload hx hb dL_observes_259 (lv_at hl 11 rfl) ?_
                    refine lv_istore (lv' := [(8, .int (tkN R k1 (5 + 11 * w + 9))), (9, .int (tkN R (k1 + 1) (5 + 11 * w + 10))), (16, .int 2), (17, .int (rdF R w (R (69 + 3 * s1)) (nI 1) cn k1)), (0, .ref (gz g + 0)), (1, .int (nI w)), (2, .int (nI s1)), (3, .int (nI tz)), (4, .int (R 0)), (5, .int (R 2)), (6, .int (R (69 + 3 * s1))), (7, .int 0), (10, .ref (gz g + n)), (11, .ref (gz g + (n + 1))), (12, .ref (gz g + (n + 2))), (13, .int 1), (14, .int (vsI R sc)), (15, .int (nI k1))]) hx hb dL_observes_261 hl (by decide) rfl (fun ls hl => ?_)
                    have hl : lv_has ls 20 [(8, .int (tkN R (k1 + 1) (5 + 11 * w + 9))), (9, .int (tkN R (k1 + 1) (5 + 11 * w + 10))), (16, .int 2), (17, .int (rdF R w (R (69 + 3 * s1)) (nI 1) cn k1)), (0, .ref (gz g + 0)), (1, .int (nI w)), (2, .int (nI s1)), (3, .int (nI tz)), (4, .int (R 0)), (5, .int (R 2)), (6, .int (R (69 + 3 * s1))), (7, .int 0), (10, .ref (gz g + n)), (11, .ref (gz g + (n + 1))), (12, .ref (gz g + (n + 2))), (13, .int 1), (14, .int (vsI R sc)), (15, .int (nI k1))] := by rw [show (tkN R (k1 + 1) (5 + 11 * w + 9) : Int32) = tkN R k1 (5 + 11 * w + 9) from tk_a1 J (by omega) hw4 h1 b_241]; exact hl
                    refine lv_iinc (v := nI (k1 + 1)) (lv' := [(15, .int (nI (k1 + 1))), (8, .int (tkN R (k1 + 1) (5 + 11 * w + 9))), (9, .int (tkN R (k1 + 1) (5 + 11 * w + 10))), (16, .int 2), (17, .int (rdF R w (R (69 + 3 * s1)) (nI 1) cn k1)), (0, .ref (gz g + 0)), (1, .int (nI w)), (2, .int (nI s1)), (3, .int (nI tz)), (4, .int (R 0)), (5, .int (R 2)), (6, .int (R (69 + 3 * s1))), (7, .int 0), (10, .ref (gz g + n)), (11, .ref (gz g + (n + 1))), (12, .ref (gz g + (n + 2))), (13, .int 1), (14, .int (vsI R sc))]) hx hb dL_observes_263 hl (k := 17) rfl (by exact (nI_succ k1).symm) (by decide) rfl (fun ls hl => ?_)
                    refine lv_goto (tgt := 114) hx hb dL_observes_266 (by decide) ?_
                    exact ih_lt (k1 + 1) (by omega) _ _ _ (by omega) h (lv_sub hl [5, 6, 7, 8, 9, 10, 11, 12, 1, 2, 13, 14, 15, 16, 17, 0] rfl)
                  refine lv_iload hx hb dL_observes_244 (lv_at hl 11 rfl) ?_
                  refine lv_aload_n hx hb dL_observes_246 rfl (lv_at hl 3 rfl) ?_
                  refine lv_iload_n hx hb dL_observes_247 rfl (lv_at hl 4 rfl) ?_
                  refine lv_bipush (v := 6) hx hb dL_observes_248 (by decide) ?_
                  refine u_iE (v := R (5 + 11 * w + 7)) (ru_V (As := [.int (nI w), .int 6]) (rest := [.int (tkN R k1 (5 + 11 * w + 9))]) F h ((mu_ne (by omega) _).trans ((mu_ne (by omega) _).trans ((mu_ne (by omega) _).trans hWd.1))) rfl (kw_wire l g (n + 3) (va_up (va_up (va_up c n (some (.inl (g.2.1 0, 2, .inl (obA R w s1 cn (k1 + 1) 1))))) (n + 1) (some (.inl (g.2.1 0, 2, .inl (obA R w s1 cn (k1 + 1) 2))))) (n + 2) (some (.inl (g.2.1 0, 2, .inl (obA R w s1 cn (k1 + 1) 3))))) (((hWd.up (by omega)).up (by omega)).up (by omega)) J (nI w) 6 (v := R (5 + 11 * w + 7)) (wi_6 hw4 h1)) (gV hjl wd_390 wd_391 wd_392 wd_16 wd_393) rfl 2 (by decide +kernel) rfl ⟨Nat.le_of_ble_eq_true rfl, Nat.le_of_ble_eq_true rfl⟩ rfl hl.1 (Nat.le_of_ble_eq_true rfl) ⟨by decide, by decide⟩ dL_observes_250) h (fun H locs h => ?_)
                  refine u_iE (v := ((tkN R k1 (5 + 11 * w + 9)) * cmI (R (5 + 11 * w + 7)) / 100)) (ru_S (As := [.int (tkN R k1 (5 + 11 * w + 9)), .int (R (5 + 11 * w + 7))]) (rest := []) F h (k_L_calmer l g (n + 3) (va_up (va_up (va_up c n (some (.inl (g.2.1 0, 2, .inl (obA R w s1 cn (k1 + 1) 1))))) (n + 1) (some (.inl (g.2.1 0, 2, .inl (obA R w s1 cn (k1 + 1) 2))))) (n + 2) (some (.inl (g.2.1 0, 2, .inl (obA R w s1 cn (k1 + 1) 3))))) (tkN R k1 (5 + 11 * w + 9)) (R (5 + 11 * w + 7))) (gS hjl wd_511 wd_512 wd_15 wd_513) rfl 2 (by decide +kernel) rfl ⟨Nat.le_of_ble_eq_true rfl, Nat.le_of_ble_eq_true rfl⟩ rfl hl.1 (Nat.le_of_ble_eq_true rfl) ⟨by decide, by decide⟩ dL_observes_253) h (fun H locs h => ?_)
                  refine lv_goto (tgt := 261) hx hb dL_observes_256 (by decide) ?_
                  refine lv_istore (lv' := [(8, .int ((tkN R k1 (5 + 11 * w + 9)) * cmI (R (5 + 11 * w + 7)) / 100)), (9, .int (tkN R (k1 + 1) (5 + 11 * w + 10))), (16, .int 2), (17, .int (rdF R w (R (69 + 3 * s1)) (nI 1) cn k1)), (0, .ref (gz g + 0)), (1, .int (nI w)), (2, .int (nI s1)), (3, .int (nI tz)), (4, .int (R 0)), (5, .int (R 2)), (6, .int (R (69 + 3 * s1))), (7, .int 0), (10, .ref (gz g + n)), (11, .ref (gz g + (n + 1))), (12, .ref (gz g + (n + 2))), (13, .int 1), (14, .int (vsI R sc)), (15, .int (nI k1))]) hx hb dL_observes_261 hl (by decide) rfl (fun ls hl => ?_)
                  have hl : lv_has ls 20 [(8, .int (tkN R (k1 + 1) (5 + 11 * w + 9))), (9, .int (tkN R (k1 + 1) (5 + 11 * w + 10))), (16, .int 2), (17, .int (rdF R w (R (69 + 3 * s1)) (nI 1) cn k1)), (0, .ref (gz g + 0)), (1, .int (nI w)), (2, .int (nI s1)), (3, .int (nI tz)), (4, .int (R 0)), (5, .int (R 2)), (6, .int (R (69 + 3 * s1))), (7, .int 0), (10, .ref (gz g + n)), (11, .ref (gz g + (n + 1))), (12, .ref (gz g + (n + 2))), (13, .int 1), (14, .int (vsI R sc)), (15, .int (nI k1))] := by rw [show (tkN R (k1 + 1) (5 + 11 * w + 9) : Int32) = ((tkN R k1 (5 + 11 * w + 9)) * cmI (R (5 + 11 * w + 7)) / 100) from tk_a0 J (by omega) hw4 h1 b_241]; exact hl
                  refine lv_iinc (v := nI (k1 + 1)) (lv' := [(15, .int (nI (k1 + 1))), (8, .int (tkN R (k1 + 1) (5 + 11 * w + 9))), (9, .int (tkN R (k1 + 1) (5 + 11 * w + 10))), (16, .int 2), (17, .int (rdF R w (R (69 + 3 * s1)) (nI 1) cn k1)), (0, .ref (gz g + 0)), (1, .int (nI w)), (2, .int (nI s1)), (3, .int (nI tz)), (4, .int (R 0)), (5, .int (R 2)), (6, .int (R (69 + 3 * s1))), (7, .int 0), (10, .ref (gz g + n)), (11, .ref (gz g + (n + 1))), (12, .ref (gz g + (n + 2))), (13, .int 1), (14, .int (vsI R sc))]) hx hb dL_observes_263 hl (k := 17) rfl (by exact (nI_succ k1).symm) (by decide) rfl (fun ls hl => ?_)
                  refine lv_goto (tgt := 114) hx hb dL_observes_266 (by decide) ?_
                  exact ih_lt (k1 + 1) (by omega) _ _ _ (by omega) h (lv_sub hl [5, 6, 7, 8, 9, 10, 11, 12, 1, 2, 13, 14, 15, 16, 17, 0] rfl)
                refine lv_aload hx hb dL_observes_189 (lv_at hl 14 rfl) ?_
                refine lv_iload hx hb dL_observes_191 (lv_at hl 1 rfl) ?_
                refine lv_iload hx hb dL_observes_193 (lv_at hl 17 rfl) ?_
                refine lv_if_eq (tgt := 208) hx hb dL_observes_195 (by decide) (fun b_195 => ?_) (fun b_195 => ?_)
                · skip
                  refine lv_iload hx hb dL_observes_208 (lv_at hl 0 rfl) ?_
                  refine lv_goto (tgt := 218) hx hb dL_observes_210 (by decide) ?_
                  refine r_top (w := .int (obA R w s1 cn (k1 + 1) 3 1)) (congrArg Value.int (rm_0 (F := (rdF R w (R (69 + 3 * s1)) (nI 1) cn)) (k := k1) b_195)) ?_
                  exact jm1 _ _ _ h (lv_sub hl [0, 1, 2, 3, 4, 5, 6, 7, 8, 9, 10, 11, 12, 13, 14, 15, 16, 17] rfl)
                refine lv_iload hx hb dL_observes_198 (lv_at hl 0 rfl) ?_
                refine lv_aload hx hb dL_observes_200 (lv_at hl 14 rfl) ?_
                refine lv_iload hx hb dL_observes_202 (lv_at hl 1 rfl) ?_
                refine r_ialdN F h (k := 1) (mu_eq _ _ _) (rfl) (by decide) (by decide) dL_observes_204 ?_
                refine r_top (w := .int (obA R w s1 cn k1 3 1)) (congrArg Value.int (upd_no (by decide))) ?_
                refine lv_icmp_le (tgt := 213) hx hb dL_observes_205 (by decide) (fun b_205 => ?_) (fun b_205 => ?_)
                · skip
                  refine lv_aload hx hb dL_observes_213 (lv_at hl 14 rfl) ?_
                  refine lv_iload hx hb dL_observes_215 (lv_at hl 1 rfl) ?_
                  refine r_ialdN F h (k := 1) (mu_eq _ _ _) (rfl) (by decide) (by decide) dL_observes_217 ?_
                  refine r_top (w := .int (obA R w s1 cn k1 3 1)) (congrArg Value.int (upd_no (by decide))) ?_
                  refine r_top (w := .int (obA R w s1 cn (k1 + 1) 3 1)) (congrArg Value.int (rm_2 (F := (rdF R w (R (69 + 3 * s1)) (nI 1) cn)) (k := k1) b_195 b_205)) ?_
                  exact jm1 _ _ _ h (lv_sub hl [0, 1, 2, 3, 4, 5, 6, 7, 8, 9, 10, 11, 12, 13, 14, 15, 16, 17] rfl)
                refine lv_iload hx hb dL_observes_208 (lv_at hl 0 rfl) ?_
                refine lv_goto (tgt := 218) hx hb dL_observes_210 (by decide) ?_
                refine r_top (w := .int (obA R w s1 cn (k1 + 1) 3 1)) (congrArg Value.int (rm_1 (F := (rdF R w (R (69 + 3 * s1)) (nI 1) cn)) (k := k1) b_195 b_205)) ?_
                exact jm1 _ _ _ h (lv_sub hl [0, 1, 2, 3, 4, 5, 6, 7, 8, 9, 10, 11, 12, 13, 14, 15, 16, 17] rfl)
              refine lv_aload hx hb dL_observes_159 (lv_at hl 13 rfl) ?_
              refine lv_iload hx hb dL_observes_161 (lv_at hl 1 rfl) ?_
              refine lv_iload hx hb dL_observes_163 (lv_at hl 17 rfl) ?_
              refine lv_if_eq (tgt := 178) hx hb dL_observes_165 (by decide) (fun b_165 => ?_) (fun b_165 => ?_)
              · skip
                refine lv_iload hx hb dL_observes_178 (lv_at hl 0 rfl) ?_
                refine lv_goto (tgt := 188) hx hb dL_observes_180 (by decide) ?_
                refine r_top (w := .int (obA R w s1 cn (k1 + 1) 2 1)) (congrArg Value.int (rl_0 (F := (rdF R w (R (69 + 3 * s1)) (nI 1) cn)) (k := k1) b_165)) ?_
                exact jl1 _ _ _ h (lv_sub hl [0, 1, 2, 3, 4, 5, 6, 7, 8, 9, 10, 11, 12, 13, 14, 15, 16, 17] rfl)
              refine lv_iload hx hb dL_observes_168 (lv_at hl 0 rfl) ?_
              refine lv_aload hx hb dL_observes_170 (lv_at hl 13 rfl) ?_
              refine lv_iload hx hb dL_observes_172 (lv_at hl 1 rfl) ?_
              refine r_ialdN F h (k := 1) ((mu_ne (by omega) _).trans (mu_eq _ _ _)) (rfl) (by decide) (by decide) dL_observes_174 ?_
              refine r_top (w := .int (obA R w s1 cn k1 2 1)) (congrArg Value.int (upd_no (by decide))) ?_
              refine lv_icmp_ge (tgt := 183) hx hb dL_observes_175 (by decide) (fun b_175 => ?_) (fun b_175 => ?_)
              · skip
                refine lv_aload hx hb dL_observes_183 (lv_at hl 13 rfl) ?_
                refine lv_iload hx hb dL_observes_185 (lv_at hl 1 rfl) ?_
                refine r_ialdN F h (k := 1) ((mu_ne (by omega) _).trans (mu_eq _ _ _)) (rfl) (by decide) (by decide) dL_observes_187 ?_
                refine r_top (w := .int (obA R w s1 cn k1 2 1)) (congrArg Value.int (upd_no (by decide))) ?_
                refine r_top (w := .int (obA R w s1 cn (k1 + 1) 2 1)) (congrArg Value.int (rl_2 (F := (rdF R w (R (69 + 3 * s1)) (nI 1) cn)) (k := k1) b_165 b_175)) ?_
                exact jl1 _ _ _ h (lv_sub hl [0, 1, 2, 3, 4, 5, 6, 7, 8, 9, 10, 11, 12, 13, 14, 15, 16, 17] rfl)
              refine lv_iload hx hb dL_observes_178 (lv_at hl 0 rfl) ?_
              refine lv_goto (tgt := 188) hx hb dL_observes_180 (by decide) ?_
              refine r_top (w := .int (obA R w s1 cn (k1 + 1) 2 1)) (congrArg Value.int (rl_1 (F := (rdF R w (R (69 + 3 * s1)) (nI 1) cn)) (k := k1) b_165 b_175)) ?_
              exact jl1 _ _ _ h (lv_sub hl [0, 1, 2, 3, 4, 5, 6, 7, 8, 9, 10, 11, 12, 13, 14, 15, 16, 17] rfl)
            refine lv_aload hx hb dL_observes_189 (lv_at hl 14 rfl) ?_
            refine lv_iload hx hb dL_observes_191 (lv_at hl 1 rfl) ?_
            refine lv_iload hx hb dL_observes_193 (lv_at hl 17 rfl) ?_
            refine lv_if_eq (tgt := 208) hx hb dL_observes_195 (by decide) (fun b_195 => ?_) (fun b_195 => ?_)
            · skip
              refine lv_iload hx hb dL_observes_208 (lv_at hl 0 rfl) ?_
              refine lv_goto (tgt := 218) hx hb dL_observes_210 (by decide) ?_
              refine r_top (w := .int (obA R w s1 cn (k1 + 1) 3 0)) (congrArg Value.int (rm_0 (F := (rdF R w (R (69 + 3 * s1)) (nI 0) cn)) (k := k1) b_195)) ?_
              exact jm0 _ _ _ h (lv_sub hl [0, 1, 2, 3, 4, 5, 6, 7, 8, 9, 10, 11, 12, 13, 14, 15, 16, 17] rfl)
            refine lv_iload hx hb dL_observes_198 (lv_at hl 0 rfl) ?_
            refine lv_aload hx hb dL_observes_200 (lv_at hl 14 rfl) ?_
            refine lv_iload hx hb dL_observes_202 (lv_at hl 1 rfl) ?_
            refine r_ialdN F h (k := 0) (mu_eq _ _ _) (rfl) (by decide) (by decide) dL_observes_204 ?_
            refine r_top (w := .int (obA R w s1 cn k1 3 0)) (rfl) ?_
            refine lv_icmp_le (tgt := 213) hx hb dL_observes_205 (by decide) (fun b_205 => ?_) (fun b_205 => ?_)
            · skip
              refine lv_aload hx hb dL_observes_213 (lv_at hl 14 rfl) ?_
              refine lv_iload hx hb dL_observes_215 (lv_at hl 1 rfl) ?_
              refine r_ialdN F h (k := 0) (mu_eq _ _ _) (rfl) (by decide) (by decide) dL_observes_217 ?_
              refine r_top (w := .int (obA R w s1 cn k1 3 0)) (rfl) ?_
              refine r_top (w := .int (obA R w s1 cn (k1 + 1) 3 0)) (congrArg Value.int (rm_2 (F := (rdF R w (R (69 + 3 * s1)) (nI 0) cn)) (k := k1) b_195 b_205)) ?_
              exact jm0 _ _ _ h (lv_sub hl [0, 1, 2, 3, 4, 5, 6, 7, 8, 9, 10, 11, 12, 13, 14, 15, 16, 17] rfl)
            refine lv_iload hx hb dL_observes_208 (lv_at hl 0 rfl) ?_
            refine lv_goto (tgt := 218) hx hb dL_observes_210 (by decide) ?_
            refine r_top (w := .int (obA R w s1 cn (k1 + 1) 3 0)) (congrArg Value.int (rm_1 (F := (rdF R w (R (69 + 3 * s1)) (nI 0) cn)) (k := k1) b_195 b_205)) ?_
            exact jm0 _ _ _ h (lv_sub hl [0, 1, 2, 3, 4, 5, 6, 7, 8, 9, 10, 11, 12, 13, 14, 15, 16, 17] rfl)
          refine lv_aload hx hb dL_observes_159 (lv_at hl 13 rfl) ?_
          refine lv_iload hx hb dL_observes_161 (lv_at hl 1 rfl) ?_
          refine lv_iload hx hb dL_observes_163 (lv_at hl 17 rfl) ?_
          refine lv_if_eq (tgt := 178) hx hb dL_observes_165 (by decide) (fun b_165 => ?_) (fun b_165 => ?_)
          · skip
            refine lv_iload hx hb dL_observes_178 (lv_at hl 0 rfl) ?_
            refine lv_goto (tgt := 188) hx hb dL_observes_180 (by decide) ?_
            refine r_top (w := .int (obA R w s1 cn (k1 + 1) 2 0)) (congrArg Value.int (rl_0 (F := (rdF R w (R (69 + 3 * s1)) (nI 0) cn)) (k := k1) b_165)) ?_
            exact jl0 _ _ _ h (lv_sub hl [0, 1, 2, 3, 4, 5, 6, 7, 8, 9, 10, 11, 12, 13, 14, 15, 16, 17] rfl)
          refine lv_iload hx hb dL_observes_168 (lv_at hl 0 rfl) ?_
          refine lv_aload hx hb dL_observes_170 (lv_at hl 13 rfl) ?_
          refine lv_iload hx hb dL_observes_172 (lv_at hl 1 rfl) ?_
          refine r_ialdN F h (k := 0) ((mu_ne (by omega) _).trans (mu_eq _ _ _)) (rfl) (by decide) (by decide) dL_observes_174 ?_
          refine r_top (w := .int (obA R w s1 cn k1 2 0)) (rfl) ?_
          refine lv_icmp_ge (tgt := 183) hx hb dL_observes_175 (by decide) (fun b_175 => ?_) (fun b_175 => ?_)
          · skip
            refine lv_aload hx hb dL_observes_183 (lv_at hl 13 rfl) ?_
            refine lv_iload hx hb dL_observes_185 (lv_at hl 1 rfl) ?_
            refine r_ialdN F h (k := 0) ((mu_ne (by omega) _).trans (mu_eq _ _ _)) (rfl) (by decide) (by decide) dL_observes_187 ?_
            refine r_top (w := .int (obA R w s1 cn k1 2 0)) (rfl) ?_
            refine r_top (w := .int (obA R w s1 cn (k1 + 1) 2 0)) (congrArg Value.int (rl_2 (F := (rdF R w (R (69 + 3 * s1)) (nI 0) cn)) (k := k1) b_165 b_175)) ?_
            exact jl0 _ _ _ h (lv_sub hl [0, 1, 2, 3, 4, 5, 6, 7, 8, 9, 10, 11, 12, 13, 14, 15, 16, 17] rfl)
          refine lv_iload hx hb dL_observes_178 (lv_at hl 0 rfl) ?_
          refine lv_goto (tgt := 188) hx hb dL_observes_180 (by decide) ?_
          refine r_top (w := .int (obA R w s1 cn (k1 + 1) 2 0)) (congrArg Value.int (rl_1 (F := (rdF R w (R (69 + 3 * s1)) (nI 0) cn)) (k := k1) b_165 b_175)) ?_
          exact jl0 _ _ _ h (lv_sub hl [0, 1, 2, 3, 4, 5, 6, 7, 8, 9, 10, 11, 12, 13, 14, 15, 16, 17] rfl)
      exact lt _ 0 (Nat.zero_le _) _ _ _ (Nat.le_refl _) h (lv_sub hl [12, 13, 14, 15, 11, 10, 9, 8, 7, 6, 5, 4, 3, 2, 1, 0] rfl)
    have dz : Bt (R (69 + 3 * s1)) 0 800 := ⟨by have := (J.st hs5).1.1; omega, (J.st hs5).1.2⟩
    refine lv_aload_n hx hb dL_observes_0 rfl (lv_at hl 0 rfl) ?_
    refine lv_iconst (v := 0) hx hb dL_observes_1 (by decide) ?_
    refine u_iE (v := R 0) (ru_V (As := [.int 0]) (rest := []) F h hWd.1 rfl (kw_count l g n c hWd J 0 (v := R 0) (rfl)) (gV hjl wd_399 wd_400 wd_401 wd_16 wd_402) rfl 1 (by decide +kernel) rfl ⟨Nat.le_of_ble_eq_true rfl, Nat.le_of_ble_eq_true rfl⟩ rfl hl.1 (Nat.le_of_ble_eq_true rfl) ⟨Nat.zero_le _, Nat.zero_le _⟩ dL_observes_2) h (fun H locs h => ?_)
    refine lv_istore (lv' := [(4, .int (R 0)), (0, .ref (gz g + 0)), (1, .int (nI w)), (2, .int (nI s1)), (3, .int (nI tz))]) hx hb dL_observes_5 hl (by decide) rfl (fun ls hl => ?_)
    refine lv_aload_n hx hb dL_observes_7 rfl (lv_at hl 1 rfl) ?_
    refine lv_bipush (v := 7) hx hb dL_observes_8 (by decide) ?_
    refine u_iE (v := R 2) (ru_V (As := [.int 7]) (rest := []) F h hWd.1 rfl (kw_count l g n c hWd J 7 (v := R 2) (rfl)) (gV hjl wd_399 wd_400 wd_401 wd_16 wd_402) rfl 1 (by decide +kernel) rfl ⟨Nat.le_of_ble_eq_true rfl, Nat.le_of_ble_eq_true rfl⟩ rfl hl.1 (Nat.le_of_ble_eq_true rfl) ⟨Nat.zero_le _, Nat.zero_le _⟩ dL_observes_10) h (fun H locs h => ?_)
    refine lv_istore (lv' := [(5, .int (R 2)), (4, .int (R 0)), (0, .ref (gz g + 0)), (1, .int (nI w)), (2, .int (nI s1)), (3, .int (nI tz))]) hx hb dL_observes_13 hl (by decide) rfl (fun ls hl => ?_)
    refine lv_aload_n hx hb dL_observes_15 rfl (lv_at hl 2 rfl) ?_
    refine lv_iload_n hx hb dL_observes_16 rfl (lv_at hl 4 rfl) ?_
    refine lv_iconst (v := 0) hx hb dL_observes_17 (by decide) ?_
    refine u_iE (v := R (69 + 3 * s1)) (ru_V (As := [.int (nI s1), .int 0]) (rest := []) F h hWd.1 rfl (kw_station l g n c hWd J (nI s1) 0 (v := R (69 + 3 * s1)) (st_0 J.s4 J.s5 hs5)) (gV hjl wd_584 wd_585 wd_586 wd_16 wd_587) rfl 2 (by decide +kernel) rfl ⟨Nat.le_of_ble_eq_true rfl, Nat.le_of_ble_eq_true rfl⟩ rfl hl.1 (Nat.le_of_ble_eq_true rfl) ⟨Nat.zero_le _, Nat.zero_le _⟩ dL_observes_18) h (fun H locs h => ?_)
    refine lv_istore (lv' := [(6, .int (R (69 + 3 * s1))), (5, .int (R 2)), (4, .int (R 0)), (0, .ref (gz g + 0)), (1, .int (nI w)), (2, .int (nI s1)), (3, .int (nI tz))]) hx hb dL_observes_21 hl (by decide) rfl (fun ls hl => ?_)
    refine lv_aload_n hx hb dL_observes_23 rfl (lv_at hl 3 rfl) ?_
    refine lv_iload_n hx hb dL_observes_24 rfl (lv_at hl 4 rfl) ?_
    refine lv_iconst (v := 2) hx hb dL_observes_25 (by decide) ?_
    refine u_iE (v := R (5 + 11 * w + 3)) (ru_V (As := [.int (nI w), .int 2]) (rest := []) F h hWd.1 rfl (kw_wire l g n c hWd J (nI w) 2 (v := R (5 + 11 * w + 3)) (wi_2 hw4 h1)) (gV hjl wd_390 wd_391 wd_392 wd_16 wd_393) rfl 2 (by decide +kernel) rfl ⟨Nat.le_of_ble_eq_true rfl, Nat.le_of_ble_eq_true rfl⟩ rfl hl.1 (Nat.le_of_ble_eq_true rfl) ⟨Nat.zero_le _, Nat.zero_le _⟩ dL_observes_26) h (fun H locs h => ?_)
    refine lv_if_ge (tgt := 36) hx hb dL_observes_29 (by decide) (fun b_29 => ?_) (fun b_29 => by first | exact absurd (bt_ge gw.2.2.1 0 (by decide)) b_29 | exact absurd b_29 (bt_ge gw.2.2.1 0 (by decide)))
    refine lv_iload hx hb dL_observes_36 (lv_at hl 0 rfl) ?_
    refine lv_aload_n hx hb dL_observes_38 rfl (lv_at hl 3 rfl) ?_
    refine lv_iload_n hx hb dL_observes_39 rfl (lv_at hl 4 rfl) ?_
    refine lv_iconst (v := 3) hx hb dL_observes_40 (by decide) ?_
    refine u_iE (v := R (5 + 11 * w + 4)) (ru_V (As := [.int (nI w), .int 3]) (rest := [.int (R (69 + 3 * s1))]) F h hWd.1 rfl (kw_wire l g n c hWd J (nI w) 3 (v := R (5 + 11 * w + 4)) (wi_3 hw4 h1)) (gV hjl wd_390 wd_391 wd_392 wd_16 wd_393) rfl 2 (by decide +kernel) rfl ⟨Nat.le_of_ble_eq_true rfl, Nat.le_of_ble_eq_true rfl⟩ rfl hl.1 (Nat.le_of_ble_eq_true rfl) ⟨Nat.zero_le _, Nat.zero_le _⟩ dL_observes_41) h (fun H locs h => ?_)
    refine lv_icmp_le (tgt := 51) hx hb dL_observes_44 (by decide) (fun b_44 => ?_) (fun b_44 => by first | exact absurd ((i_le _ _).mpr hd) b_44 | exact absurd b_44 ((i_le _ _).mpr hd))
    refine lv_iconst (v := 0) hx hb dL_observes_51 (by decide) ?_
    refine lv_istore (lv' := [(7, .int 0), (6, .int (R (69 + 3 * s1))), (5, .int (R 2)), (4, .int (R 0)), (0, .ref (gz g + 0)), (1, .int (nI w)), (2, .int (nI s1)), (3, .int (nI tz))]) hx hb dL_observes_52 hl (by decide) rfl (fun ls hl => ?_)
    refine lv_aload_n hx hb dL_observes_54 rfl (lv_at hl 4 rfl) ?_
    refine lv_iload_n hx hb dL_observes_55 rfl (lv_at hl 5 rfl) ?_
    refine lv_bipush (v := 8) hx hb dL_observes_56 (by decide) ?_
    refine u_iE (v := tkN R 0 (5 + 11 * w + 9)) (ru_V (As := [.int (nI w), .int 8]) (rest := []) F h hWd.1 rfl (kw_wire l g n c hWd J (nI w) 8 (v := tkN R 0 (5 + 11 * w + 9)) (wi_8 hw4 h1)) (gV hjl wd_390 wd_391 wd_392 wd_16 wd_393) rfl 2 (by decide +kernel) rfl ⟨Nat.le_of_ble_eq_true rfl, Nat.le_of_ble_eq_true rfl⟩ rfl hl.1 (Nat.le_of_ble_eq_true rfl) ⟨Nat.zero_le _, Nat.zero_le _⟩ dL_observes_58) h (fun H locs h => ?_)
    refine lv_istore (lv' := [(8, .int (tkN R 0 (5 + 11 * w + 9))), (7, .int 0), (6, .int (R (69 + 3 * s1))), (5, .int (R 2)), (4, .int (R 0)), (0, .ref (gz g + 0)), (1, .int (nI w)), (2, .int (nI s1)), (3, .int (nI tz))]) hx hb dL_observes_61 hl (by decide) rfl (fun ls hl => ?_)
    refine lv_aload_n hx hb dL_observes_63 rfl (lv_at hl 5 rfl) ?_
    refine lv_iload_n hx hb dL_observes_64 rfl (lv_at hl 6 rfl) ?_
    refine lv_bipush (v := 9) hx hb dL_observes_65 (by decide) ?_
    refine u_iE (v := tkN R 0 (5 + 11 * w + 10)) (ru_V (As := [.int (nI w), .int 9]) (rest := []) F h hWd.1 rfl (kw_wire l g n c hWd J (nI w) 9 (v := tkN R 0 (5 + 11 * w + 10)) (wi_9 hw4 h1)) (gV hjl wd_390 wd_391 wd_392 wd_16 wd_393) rfl 2 (by decide +kernel) rfl ⟨Nat.le_of_ble_eq_true rfl, Nat.le_of_ble_eq_true rfl⟩ rfl hl.1 (Nat.le_of_ble_eq_true rfl) ⟨Nat.zero_le _, Nat.zero_le _⟩ dL_observes_67) h (fun H locs h => ?_)
    refine lv_istore (lv' := [(9, .int (tkN R 0 (5 + 11 * w + 10))), (8, .int (tkN R 0 (5 + 11 * w + 9))), (7, .int 0), (6, .int (R (69 + 3 * s1))), (5, .int (R 2)), (4, .int (R 0)), (0, .ref (gz g + 0)), (1, .int (nI w)), (2, .int (nI s1)), (3, .int (nI tz))]) hx hb dL_observes_70 hl (by decide) rfl (fun ls hl => ?_)
    refine lv_iconst (v := 2) hx hb dL_observes_72 (by decide) ?_
    refine r_newa (atype := .int) (ty := .int) F h (List.mem_cons_of_mem _ wd_244) rfl 0 rfl (fun _ z => z) (N := 2) (a0 := (2, .inl (fun _ => 0))) (vp_cell_i _ _ _) (by decide) (by decide) (by decide) (by decide) (by decide) dL_observes_73 (fun H h => ?_)
    refine lv_astore (lv' := [(10, .ref (gz g + n)), (9, .int (tkN R 0 (5 + 11 * w + 10))), (8, .int (tkN R 0 (5 + 11 * w + 9))), (7, .int 0), (6, .int (R (69 + 3 * s1))), (5, .int (R 2)), (4, .int (R 0)), (0, .ref (gz g + 0)), (1, .int (nI w)), (2, .int (nI s1)), (3, .int (nI tz))]) hx hb dL_observes_75 hl (by decide) rfl (fun ls hl => ?_)
    refine lv_iconst (v := 2) hx hb dL_observes_77 (by decide) ?_
    refine r_newa (atype := .int) (ty := .int) F h (List.mem_cons_of_mem _ wd_244) rfl 0 rfl (fun _ z => z) (N := 2) (a0 := (2, .inl (fun _ => 0))) (vp_cell_i _ _ _) (by decide) (by decide) (by decide) (by decide) (by decide) dL_observes_78 (fun H h => ?_)
    refine lv_astore (lv' := [(11, .ref (gz g + (n + 1))), (10, .ref (gz g + n)), (9, .int (tkN R 0 (5 + 11 * w + 10))), (8, .int (tkN R 0 (5 + 11 * w + 9))), (7, .int 0), (6, .int (R (69 + 3 * s1))), (5, .int (R 2)), (4, .int (R 0)), (0, .ref (gz g + 0)), (1, .int (nI w)), (2, .int (nI s1)), (3, .int (nI tz))]) hx hb dL_observes_80 hl (by decide) rfl (fun ls hl => ?_)
    refine lv_iconst (v := 2) hx hb dL_observes_82 (by decide) ?_
    refine r_newa (atype := .int) (ty := .int) F h (List.mem_cons_of_mem _ wd_244) rfl 0 rfl (fun _ z => z) (N := 2) (a0 := (2, .inl (fun _ => 0))) (vp_cell_i _ _ _) (by decide) (by decide) (by decide) (by decide) (by decide) dL_observes_83 (fun H h => ?_)
    refine lv_astore (lv' := [(12, .ref (gz g + (n + 2))), (11, .ref (gz g + (n + 1))), (10, .ref (gz g + n)), (9, .int (tkN R 0 (5 + 11 * w + 10))), (8, .int (tkN R 0 (5 + 11 * w + 9))), (7, .int 0), (6, .int (R (69 + 3 * s1))), (5, .int (R 2)), (4, .int (R 0)), (0, .ref (gz g + 0)), (1, .int (nI w)), (2, .int (nI s1)), (3, .int (nI tz))]) hx hb dL_observes_85 hl (by decide) rfl (fun ls hl => ?_)
    refine lv_aload_n hx hb dL_observes_87 rfl (lv_at hl 9 rfl) ?_
    refine lv_iload_n hx hb dL_observes_88 rfl (lv_at hl 11 rfl) ?_
    refine lv_iload_n hx hb dL_observes_89 rfl (lv_at hl 10 rfl) ?_
    refine lv_iconst (v := 3) hx hb dL_observes_90 (by decide) ?_
    refine u_iE (v := R (84 + 6 * (4 * s1 + w) + 4)) (ru_V (As := [.int (nI s1), .int (nI w), .int 3]) (rest := []) F h ((mu_ne (by omega) _).trans ((mu_ne (by omega) _).trans ((mu_ne (by omega) _).trans hWd.1))) rfl (kw_observation l g (n + 3) (va_up (va_up (va_up c n (some (.inl (g.2.1 0, 2, .inl (fun _ => 0))))) (n + 1) (some (.inl (g.2.1 0, 2, .inl (fun _ => 0))))) (n + 2) (some (.inl (g.2.1 0, 2, .inl (fun _ => 0))))) (((hWd.up (by omega)).up (by omega)).up (by omega)) J (nI s1) (nI w) 3 (v := R (84 + 6 * (4 * s1 + w) + 4)) (ob_3 J.s4 J.s5 hs5 hw4 hv)) (gV hjl wd_518 wd_519 wd_520 wd_16 wd_521) rfl 3 (by decide +kernel) rfl ⟨Nat.le_of_ble_eq_true rfl, Nat.le_of_ble_eq_true rfl⟩ rfl hl.1 (Nat.le_of_ble_eq_true rfl) ⟨by decide, by decide⟩ dL_observes_91) h (fun H locs h => ?_)
    refine lv_if_lt (tgt := 101) hx hb dL_observes_94 (by decide) (fun b_94 => by first | exact absurd b_94 (i_nlt (bt_ge (J.v hs5 hw4 (b01_of (J.ob (by omega) hw4) hv)).2.2.1 0 (by decide))) | exact absurd (i_nlt (bt_ge (J.v hs5 hw4 (b01_of (J.ob (by omega) hw4) hv)).2.2.1 0 (by decide))) b_94) (fun b_94 => ?_)
    refine lv_iconst (v := 0) hx hb dL_observes_97 (by decide) ?_
    refine lv_goto (tgt := 102) hx hb dL_observes_98 (by decide) ?_
    refine lv_istore (lv' := [(13, .int 0), (12, .ref (gz g + (n + 2))), (11, .ref (gz g + (n + 1))), (10, .ref (gz g + n)), (9, .int (tkN R 0 (5 + 11 * w + 10))), (8, .int (tkN R 0 (5 + 11 * w + 9))), (7, .int 0), (6, .int (R (69 + 3 * s1))), (5, .int (R 2)), (4, .int (R 0)), (0, .ref (gz g + 0)), (1, .int (nI w)), (2, .int (nI s1)), (3, .int (nI tz))]) hx hb dL_observes_102 hl (by decide) rfl (fun ls hl => ?_)
    refine lv_aload_n hx hb dL_observes_104 rfl (lv_at hl 10 rfl) ?_
    refine lv_iconst (v := 5) hx hb dL_observes_105 (by decide) ?_
    refine u_iE (v := vsI R sc) (ru_V (As := [.int 5]) (rest := []) F h ((mu_ne (by omega) _).trans ((mu_ne (by omega) _).trans ((mu_ne (by omega) _).trans hWd.1))) rfl (kw_count l g (n + 3) (va_up (va_up (va_up c n (some (.inl (g.2.1 0, 2, .inl (fun _ => 0))))) (n + 1) (some (.inl (g.2.1 0, 2, .inl (fun _ => 0))))) (n + 2) (some (.inl (g.2.1 0, 2, .inl (fun _ => 0))))) (((hWd.up (by omega)).up (by omega)).up (by omega)) J 5 (v := vsI R sc) (rfl)) (gV hjl wd_399 wd_400 wd_401 wd_16 wd_402) rfl 1 (by decide +kernel) rfl ⟨Nat.le_of_ble_eq_true rfl, Nat.le_of_ble_eq_true rfl⟩ rfl hl.1 (Nat.le_of_ble_eq_true rfl) ⟨by decide, by decide⟩ dL_observes_106) h (fun H locs h => ?_)
    refine lv_istore (lv' := [(14, .int (vsI R sc)), (13, .int 0), (12, .ref (gz g + (n + 2))), (11, .ref (gz g + (n + 1))), (10, .ref (gz g + n)), (9, .int (tkN R 0 (5 + 11 * w + 10))), (8, .int (tkN R 0 (5 + 11 * w + 9))), (7, .int 0), (6, .int (R (69 + 3 * s1))), (5, .int (R 2)), (4, .int (R 0)), (0, .ref (gz g + 0)), (1, .int (nI w)), (2, .int (nI s1)), (3, .int (nI tz))]) hx hb dL_observes_109 hl (by decide) rfl (fun ls hl => ?_)
    refine lv_iconst (v := 0) hx hb dL_observes_111 (by decide) ?_
    refine lv_istore (lv' := [(15, .int 0), (14, .int (vsI R sc)), (13, .int 0), (12, .ref (gz g + (n + 2))), (11, .ref (gz g + (n + 1))), (10, .ref (gz g + n)), (9, .int (tkN R 0 (5 + 11 * w + 10))), (8, .int (tkN R 0 (5 + 11 * w + 9))), (7, .int 0), (6, .int (R (69 + 3 * s1))), (5, .int (R 2)), (4, .int (R 0)), (0, .ref (gz g + 0)), (1, .int (nI w)), (2, .int (nI s1)), (3, .int (nI tz))]) hx hb dL_observes_112 hl (by decide) rfl (fun ls hl => ?_)
    refine r_arr (obA R w s1 cn 0 1) h ((mu_ne (by omega) _).trans ((mu_ne (by omega) _).trans (mu_eq _ _ _))) (fun _ _ => rfl) (fun h => ?_)
    refine r_mem (c1 := (va_up (va_up (va_up c n (some (.inl (g.2.1 0, 2, .inl (obA R w s1 cn 0 1))))) (n + 1) (some (.inl (g.2.1 0, 2, .inl (fun _ => 0))))) (n + 2) (some (.inl (g.2.1 0, 2, .inl (fun _ => 0)))))) h ((mu_comm (by omega) _ _).trans (congrArg (fun z : Mp => va_up z (n + 2) _) ((mu_comm (by omega) _ _).trans (congrArg (fun z : Mp => va_up z (n + 1) _) (mu_uu _ _ _ _))))) (fun h => ?_)
    refine r_arr (obA R w s1 cn 0 2) h ((mu_ne (by omega) _).trans (mu_eq _ _ _)) (fun _ _ => rfl) (fun h => ?_)
    refine r_mem (c1 := (va_up (va_up (va_up c n (some (.inl (g.2.1 0, 2, .inl (obA R w s1 cn 0 1))))) (n + 1) (some (.inl (g.2.1 0, 2, .inl (obA R w s1 cn 0 2))))) (n + 2) (some (.inl (g.2.1 0, 2, .inl (fun _ => 0)))))) h ((mu_comm (by omega) _ _).trans (congrArg (fun z : Mp => va_up z (n + 2) _) (mu_uu _ _ _ _))) (fun h => ?_)
    refine r_arr (obA R w s1 cn 0 3) h (mu_eq _ _ _) (fun _ _ => rfl) (fun h => ?_)
    refine r_mem (c1 := (va_up (va_up (va_up c n (some (.inl (g.2.1 0, 2, .inl (obA R w s1 cn 0 1))))) (n + 1) (some (.inl (g.2.1 0, 2, .inl (obA R w s1 cn 0 2))))) (n + 2) (some (.inl (g.2.1 0, 2, .inl (obA R w s1 cn 0 3)))))) h (mu_uu _ _ _ _) (fun h => ?_)
    have lt : ∀ (k : Nat) (k1 : Nat) (hk1 : k1 ≤ tz) (H : Heap) (locs : List Loc) (ls : Array Slot), (tz + 1 - k1) ≤ k → Hv g s H locs (n + 3) (va_up (va_up (va_up c n (some (.inl (g.2.1 0, 2, .inl (obA R w s1 cn k1 1))))) (n + 1) (some (.inl (g.2.1 0, 2, .inl (obA R w s1 cn k1 2))))) (n + 2) (some (.inl (g.2.1 0, 2, .inl (obA R w s1 cn k1 3))))) → lv_has ls 20 [(0, .ref (gz g + 0)), (1, .int (nI w)), (2, .int (nI s1)), (3, .int (nI tz)), (4, .int (R 0)), (5, .int (R 2)), (6, .int (R (69 + 3 * s1))), (7, .int 0), (8, .int (tkN R k1 (5 + 11 * w + 9))), (9, .int (tkN R k1 (5 + 11 * w + 10))), (10, .ref (gz g + n)), (11, .ref (gz g + (n + 1))), (12, .ref (gz g + (n + 2))), (13, .int 0), (14, .int (vsI R sc)), (15, .int (nI k1))] → W p l e (Rm 5 130 5 14) s m args below meth c0 H locs (0 + 1 + 1 + 1) (0 + 2 + 2 + 2) (MQ below (Qi g (fun xr n' c' => xr = 1 ∧ n ≤ n' ∧ ∃ (lh' : Nat) (rs' : Int32) (R' : Nat → Int32) (hq' : Nat → Nat → Int32), Wd g c' lh' rs' R' hq' ∧ Jv R' sc cn (tb + 60))) args s 5 14 (mAf g)) (F0 m 114 ls []) := by
      intro k_lt
      induction k_lt with
      | zero => intro k1 hk1 H locs ls hk h hl; exact absurd hk (by omega)
      | succ k_lt ih_lt =>
        intro k1 hk1 H locs ls hk_lt h hl
        refine lv_iload hx hb dL_observes_114 (lv_at hl 15 rfl) ?_
        refine lv_iload_n hx hb dL_observes_116 rfl (lv_at hl 3 rfl) ?_
        refine lv_icmp_ge (tgt := 269) hx hb dL_observes_117 (by decide) (fun b_117 => ?_) (fun b_117 => ?_)
        · skip
          have ek : tz = k1 := by have := lp_ge (N := tz) rfl (by omega) (by omega) b_117; omega
          subst ek
          have js : ∀ (H : Heap) (locs : List Loc) (ls : Array Slot), Hv g s H locs (n + 3) (va_up (va_up (va_up c n (some (.inl (g.2.1 0, 2, .inl (obA R w s1 cn tz 1))))) (n + 1) (some (.inl (g.2.1 0, 2, .inl (obA R w s1 cn tz 2))))) (n + 2) (some (.inl (g.2.1 0, 2, .inl (obA R w s1 cn tz 3))))) → lv_has ls 20 [(0, .ref (gz g + 0)), (1, .int (nI w)), (2, .int (nI s1)), (3, .int (nI tz)), (4, .int (R 0)), (5, .int (R 2)), (6, .int (R (69 + 3 * s1))), (7, .int 0), (8, .int (tkN R tz (5 + 11 * w + 9))), (9, .int (tkN R tz (5 + 11 * w + 10))), (10, .ref (gz g + n)), (11, .ref (gz g + (n + 1))), (12, .ref (gz g + (n + 2))), (13, .int 0), (14, .int (vsI R sc)), (15, .int (nI tz))] → W p l e (Rm 5 130 5 14) s m args below meth c0 H locs (0 + 1 + 1 + 1) (0 + 2 + 2 + 2) (MQ below (Qi g (fun xr n' c' => xr = 1 ∧ n ≤ n' ∧ ∃ (lh' : Nat) (rs' : Int32) (R' : Nat → Int32) (hq' : Nat → Nat → Int32), Wd g c' lh' rs' R' hq' ∧ Jv R' sc cn (tb + 60))) args s 5 14 (mAf g)) (F0 m 311 ls [.int (spR R w s1 cn tz)]) := by
            intro H locs ls h hl
            refine lv_istore (lv' := [(15, .int (spR R w s1 cn tz)), (0, .ref (gz g + 0)), (1, .int (nI w)), (2, .int (nI s1)), (3, .int (nI tz)), (4, .int (R 0)), (5, .int (R 2)), (6, .int (R (69 + 3 * s1))), (7, .int 0), (8, .int (tkN R tz (5 + 11 * w + 9))), (9, .int (tkN R tz (5 + 11 * w + 10))), (10, .ref (gz g + n)), (11, .ref (gz g + (n + 1))), (12, .ref (gz g + (n + 2))), (13, .int 0), (14, .int (vsI R sc))]) hx hb dL_observes_311 hl (by decide) rfl (fun ls hl => ?_)
            refine lv_aload_n hx hb dL_observes_313 rfl (lv_at hl 1 rfl) ?_
            refine lv_iload_n hx hb dL_observes_314 rfl (lv_at hl 2 rfl) ?_
            refine lv_iload_n hx hb dL_observes_315 rfl (lv_at hl 3 rfl) ?_
            refine lv_iload_n hx hb dL_observes_316 rfl (lv_at hl 4 rfl) ?_
            have hWua4 : Wd g (va_up (va_up (va_up c n (some (.inl (g.2.1 0, 2, .inl (obA R w s1 cn tz 1))))) (n + 1) (some (.inl (g.2.1 0, 2, .inl (obA R w s1 cn tz 2))))) (n + 2) (some (.inl (g.2.1 0, 2, .inl (obA R w s1 cn tz 3))))) lh rs R hq := (((hWd.up (by omega)).up (by omega)).up (by omega))
            refine u_i (ru_V (As := [.int (nI w), .int (nI s1), .int (nI tz)]) (rest := []) F h ((mu_ne (by omega) _).trans ((mu_ne (by omega) _).trans ((mu_ne (by omega) _).trans hWd.1))) rfl (k_X7_observe l g (n + 3) (va_up (va_up (va_up c n (some (.inl (g.2.1 0, 2, .inl (obA R w s1 cn tz 1))))) (n + 1) (some (.inl (g.2.1 0, 2, .inl (obA R w s1 cn tz 2))))) (n + 2) (some (.inl (g.2.1 0, 2, .inl (obA R w s1 cn tz 3))))) lh 0 rs hWua4.1 R hWua4.2.1 hWua4.2.2.2.2 hq hWua4.2.2.1 J.wb (nI w) (nI s1) (nI tz) sc cn J.s4 J.s5 J.c3 J.c5 (by omega)) (gV hjl wd_610 wd_611 wd_612 wd_16 wd_613) rfl 3 (by decide +kernel) rfl ⟨Nat.le_of_ble_eq_true rfl, Nat.le_of_ble_eq_true rfl⟩ rfl hl.1 (Nat.le_of_ble_eq_true rfl) ⟨by decide, by decide⟩ dL_observes_317) h (fun ra4 na4 ca4 H locs hp h => ?_)
            obtain ⟨hna4, hxa4, hWa4, hFa4⟩ := paW hp hWua4 (by omega) (ob_ok J hz1 hz6 hw4 h1 hs5 hd) (rmL_le (hWua4).2.2.2.2)
            subst hxa4
            have J2 := Jv.look J ht hz1 hz6 hw4 h1 hs5 hd
            have e2 := J2.s4
            refine lv_istore (lv' := [(16, .int (spR R w s1 cn tz)), (15, .int (spR R w s1 cn tz)), (0, .ref (gz g + 0)), (1, .int (nI w)), (2, .int (nI s1)), (3, .int (nI tz)), (4, .int (R 0)), (5, .int (R 2)), (6, .int (R (69 + 3 * s1))), (7, .int 0), (8, .int (tkN R tz (5 + 11 * w + 9))), (9, .int (tkN R tz (5 + 11 * w + 10))), (10, .ref (gz g + n)), (11, .ref (gz g + (n + 1))), (12, .ref (gz g + (n + 2))), (13, .int 0), (14, .int (vsI R sc))]) hx hb dL_observes_320 hl (by decide) rfl (fun ls hl => ?_)
            refine lv_iload hx hb dL_observes_322 (lv_at hl 9 rfl) ?_
            refine lv_if_le (tgt := 361) hx hb dL_observes_324 (by decide) (fun b_324 => ?_) (fun b_324 => by first | exact absurd (by decide) b_324 | exact absurd b_324 (by decide))
            refine lv_iconst (v := 1) hx hb dL_observes_361 (by decide) ?_
            refine lv_istore (lv' := [(17, .int 1), (16, .int (spR R w s1 cn tz)), (15, .int (spR R w s1 cn tz)), (0, .ref (gz g + 0)), (1, .int (nI w)), (2, .int (nI s1)), (3, .int (nI tz)), (4, .int (R 0)), (5, .int (R 2)), (6, .int (R (69 + 3 * s1))), (7, .int 0), (8, .int (tkN R tz (5 + 11 * w + 9))), (9, .int (tkN R tz (5 + 11 * w + 10))), (10, .ref (gz g + n)), (11, .ref (gz g + (n + 1))), (12, .ref (gz g + (n + 2))), (13, .int 0), (14, .int (vsI R sc))]) hx hb dL_observes_362 hl (by decide) rfl (fun ls hl => ?_)
            refine lv_iconst (v := 0) hx hb dL_observes_364 (by decide) ?_
            refine lv_istore (lv' := [(18, .int 0), (17, .int 1), (16, .int (spR R w s1 cn tz)), (15, .int (spR R w s1 cn tz)), (0, .ref (gz g + 0)), (1, .int (nI w)), (2, .int (nI s1)), (3, .int (nI tz)), (4, .int (R 0)), (5, .int (R 2)), (6, .int (R (69 + 3 * s1))), (7, .int 0), (8, .int (tkN R tz (5 + 11 * w + 9))), (9, .int (tkN R tz (5 + 11 * w + 10))), (10, .ref (gz g + n)), (11, .ref (gz g + (n + 1))), (12, .ref (gz g + (n + 2))), (13, .int 0), (14, .int (vsI R sc))]) hx hb dL_observes_365 hl (by decide) rfl (fun ls hl => ?_)
            refine lv_iload hx hb dL_observes_367 (lv_at hl 0 rfl) ?_
            refine lv_iconst (v := 2) hx hb dL_observes_369 (by decide) ?_
            refine lv_icmp_ge (tgt := 427) hx hb dL_observes_370 (by decide) (fun b_370 => by first | exact absurd b_370 (by decide) | exact absurd (by decide) b_370) (fun b_370 => ?_)
            refine lv_aload_n hx hb dL_observes_373 rfl (lv_at hl 4 rfl) ?_
            refine lv_iload_n hx hb dL_observes_374 rfl (lv_at hl 6 rfl) ?_
            refine lv_iload_n hx hb dL_observes_375 rfl (lv_at hl 5 rfl) ?_
            refine lv_iload hx hb dL_observes_376 (lv_at hl 0 rfl) ?_
            refine u_iE (v := sq_mean (rdS (rdF R w (R (69 + 3 * s1)) (nI 0) cn) tz)) (ru_V (As := [.int (nI s1), .int (nI w), .int 0]) (rest := []) F h hWa4.1 rfl (kw_observation l g na4 ca4 hWa4 J2 (nI s1) (nI w) 0 (v := sq_mean (rdS (rdF R w (R (69 + 3 * s1)) (nI 0) cn) tz)) ((ob_0 e2 J.s5 hs5 hw4 (by rw [lk_in (show 0 < 6 by decide)]; show ¬ (1 : Int32) = 0; decide)).trans (lk_in (by decide)))) (gV hjl wd_518 wd_519 wd_520 wd_16 wd_521) rfl 3 (by decide +kernel) rfl ⟨Nat.le_of_ble_eq_true rfl, Nat.le_of_ble_eq_true rfl⟩ rfl hl.1 (Nat.le_of_ble_eq_true rfl) ⟨by decide, by decide⟩ dL_observes_378) h (fun H locs h => ?_)
            refine lv_istore (lv' := [(19, .int (sq_mean (rdS (rdF R w (R (69 + 3 * s1)) (nI 0) cn) tz))), (18, .int 0), (17, .int 1), (16, .int (spR R w s1 cn tz)), (15, .int (spR R w s1 cn tz)), (0, .ref (gz g + 0)), (1, .int (nI w)), (2, .int (nI s1)), (3, .int (nI tz)), (4, .int (R 0)), (5, .int (R 2)), (6, .int (R (69 + 3 * s1))), (7, .int 0), (8, .int (tkN R tz (5 + 11 * w + 9))), (9, .int (tkN R tz (5 + 11 * w + 10))), (10, .ref (gz g + n)), (11, .ref (gz g + (n + 1))), (12, .ref (gz g + (n + 2))), (13, .int 0), (14, .int (vsI R sc))]) hx hb dL_observes_381 hl (by decide) rfl (fun ls hl => ?_)
            refine lv_iload hx hb dL_observes_383 (lv_at hl 2 rfl) ?_
            refine lv_if_eq (tgt := 418) hx hb dL_observes_385 (by decide) (fun b_385 => by first | exact absurd b_385 (by decide) | exact absurd (by decide) b_385) (fun b_385 => ?_)
            have mn0 := mn_1 (F := (rdF R w (R (69 + 3 * s1)) (nI 0) cn)) hz1 hz6 (fun k hk => rdF_b J (by omega) hw4 h1 dz (show 0 < 2 by decide))
            refine lv_iload hx hb dL_observes_388 (lv_at hl 0 rfl) ?_
            refine lv_iload_n hx hb dL_observes_390 rfl (lv_at hl 8 rfl) ?_
            refine lv_imul hx hb dL_observes_391 ?_
            refine lv_aload hx hb dL_observes_392 (lv_at hl 15 rfl) ?_
            refine lv_iload hx hb dL_observes_394 (lv_at hl 1 rfl) ?_
            refine r_ialdN F h (k := 0) ((hFa4 _ (by omega) (by omega)).trans ((mu_ne (by omega) _).trans ((mu_ne (by omega) _).trans (mu_eq _ _ _)))) (rfl) (by omega) (by decide) dL_observes_396 ?_
            refine lv_icmp_gt (tgt := 418) hx hb dL_observes_397 (by decide) (fun b_397 => by first | exact absurd b_397 (i_nlt mn0.1) | exact absurd (i_nlt mn0.1) b_397) (fun b_397 => ?_)
            refine lv_iload hx hb dL_observes_400 (lv_at hl 0 rfl) ?_
            refine lv_iconst (v := 1) hx hb dL_observes_402 (by decide) ?_
            refine lv_iadd hx hb dL_observes_403 ?_
            refine lv_iload_n hx hb dL_observes_404 rfl (lv_at hl 8 rfl) ?_
            refine lv_imul hx hb dL_observes_405 ?_
            refine lv_aload hx hb dL_observes_406 (lv_at hl 15 rfl) ?_
            refine lv_iload hx hb dL_observes_408 (lv_at hl 1 rfl) ?_
            refine r_ialdN F h (k := 0) ((hFa4 _ (by omega) (by omega)).trans ((mu_ne (by omega) _).trans ((mu_ne (by omega) _).trans (mu_eq _ _ _)))) (rfl) (by omega) (by decide) dL_observes_410 ?_
            refine lv_icmp_le (tgt := 418) hx hb dL_observes_411 (by decide) (fun b_411 => by first | exact absurd b_411 (mn0.2) | exact absurd (mn0.2) b_411) (fun b_411 => ?_)
            refine lv_iconst (v := 1) hx hb dL_observes_414 (by decide) ?_
            refine lv_goto (tgt := 419) hx hb dL_observes_415 (by decide) ?_
            refine lv_istore (lv' := [(17, .int 1), (19, .int (sq_mean (rdS (rdF R w (R (69 + 3 * s1)) (nI 0) cn) tz))), (18, .int 0), (16, .int (spR R w s1 cn tz)), (15, .int (spR R w s1 cn tz)), (0, .ref (gz g + 0)), (1, .int (nI w)), (2, .int (nI s1)), (3, .int (nI tz)), (4, .int (R 0)), (5, .int (R 2)), (6, .int (R (69 + 3 * s1))), (7, .int 0), (8, .int (tkN R tz (5 + 11 * w + 9))), (9, .int (tkN R tz (5 + 11 * w + 10))), (10, .ref (gz g + n)), (11, .ref (gz g + (n + 1))), (12, .ref (gz g + (n + 2))), (13, .int 0), (14, .int (vsI R sc))]) hx hb dL_observes_419 hl (by decide) rfl (fun ls hl => ?_)
            refine lv_iinc (v := 1) (lv' := [(18, .int 1), (17, .int 1), (19, .int (sq_mean (rdS (rdF R w (R (69 + 3 * s1)) (nI 0) cn) tz))), (16, .int (spR R w s1 cn tz)), (15, .int (spR R w s1 cn tz)), (0, .ref (gz g + 0)), (1, .int (nI w)), (2, .int (nI s1)), (3, .int (nI tz)), (4, .int (R 0)), (5, .int (R 2)), (6, .int (R (69 + 3 * s1))), (7, .int 0), (8, .int (tkN R tz (5 + 11 * w + 9))), (9, .int (tkN R tz (5 + 11 * w + 10))), (10, .ref (gz g + n)), (11, .ref (gz g + (n + 1))), (12, .ref (gz g + (n + 2))), (13, .int 0), (14, .int (vsI R sc))]) hx hb dL_observes_421 hl (k := 2) rfl (by decide) (by decide) rfl (fun ls hl => ?_)
            refine lv_goto (tgt := 367) hx hb dL_observes_424 (by decide) ?_
            refine lv_iload hx hb dL_observes_367 (lv_at hl 0 rfl) ?_
            refine lv_iconst (v := 2) hx hb dL_observes_369 (by decide) ?_
            refine lv_icmp_ge (tgt := 427) hx hb dL_observes_370 (by decide) (fun b_370_1 => by first | exact absurd b_370_1 (by decide) | exact absurd (by decide) b_370_1) (fun b_370_1 => ?_)
            refine lv_aload_n hx hb dL_observes_373 rfl (lv_at hl 5 rfl) ?_
            refine lv_iload_n hx hb dL_observes_374 rfl (lv_at hl 7 rfl) ?_
            refine lv_iload_n hx hb dL_observes_375 rfl (lv_at hl 6 rfl) ?_
            refine lv_iload hx hb dL_observes_376 (lv_at hl 0 rfl) ?_
            refine u_iE (v := sq_mean (rdS (rdF R w (R (69 + 3 * s1)) (nI 1) cn) tz)) (ru_V (As := [.int (nI s1), .int (nI w), .int 1]) (rest := []) F h hWa4.1 rfl (kw_observation l g na4 ca4 hWa4 J2 (nI s1) (nI w) 1 (v := sq_mean (rdS (rdF R w (R (69 + 3 * s1)) (nI 1) cn) tz)) ((ob_1 e2 J.s5 hs5 hw4 (by rw [lk_in (show 0 < 6 by decide)]; show ¬ (1 : Int32) = 0; decide)).trans (lk_in (by decide)))) (gV hjl wd_518 wd_519 wd_520 wd_16 wd_521) rfl 3 (by decide +kernel) rfl ⟨Nat.le_of_ble_eq_true rfl, Nat.le_of_ble_eq_true rfl⟩ rfl hl.1 (Nat.le_of_ble_eq_true rfl) ⟨by decide, by decide⟩ dL_observes_378) h (fun H locs h => ?_)
            refine lv_istore (lv' := [(19, .int (sq_mean (rdS (rdF R w (R (69 + 3 * s1)) (nI 1) cn) tz))), (18, .int 1), (17, .int 1), (16, .int (spR R w s1 cn tz)), (15, .int (spR R w s1 cn tz)), (0, .ref (gz g + 0)), (1, .int (nI w)), (2, .int (nI s1)), (3, .int (nI tz)), (4, .int (R 0)), (5, .int (R 2)), (6, .int (R (69 + 3 * s1))), (7, .int 0), (8, .int (tkN R tz (5 + 11 * w + 9))), (9, .int (tkN R tz (5 + 11 * w + 10))), (10, .ref (gz g + n)), (11, .ref (gz g + (n + 1))), (12, .ref (gz g + (n + 2))), (13, .int 0), (14, .int (vsI R sc))]) hx hb dL_observes_381 hl (by decide) rfl (fun ls hl => ?_)
            refine lv_iload hx hb dL_observes_383 (lv_at hl 2 rfl) ?_
            refine lv_if_eq (tgt := 418) hx hb dL_observes_385 (by decide) (fun b_385_1 => by first | exact absurd b_385_1 (by decide) | exact absurd (by decide) b_385_1) (fun b_385_1 => ?_)
            have mn1 := mn_1 (F := (rdF R w (R (69 + 3 * s1)) (nI 1) cn)) hz1 hz6 (fun k hk => rdF_b J (by omega) hw4 h1 dz (show 1 < 2 by decide))
            refine lv_iload hx hb dL_observes_388 (lv_at hl 0 rfl) ?_
            refine lv_iload_n hx hb dL_observes_390 rfl (lv_at hl 8 rfl) ?_
            refine lv_imul hx hb dL_observes_391 ?_
            refine lv_aload hx hb dL_observes_392 (lv_at hl 15 rfl) ?_
            refine lv_iload hx hb dL_observes_394 (lv_at hl 1 rfl) ?_
            refine r_ialdN F h (k := 1) ((hFa4 _ (by omega) (by omega)).trans ((mu_ne (by omega) _).trans ((mu_ne (by omega) _).trans (mu_eq _ _ _)))) (rfl) (by omega) (by decide) dL_observes_396 ?_
            refine lv_icmp_gt (tgt := 418) hx hb dL_observes_397 (by decide) (fun b_397_1 => by first | exact absurd b_397_1 (i_nlt mn1.1) | exact absurd (i_nlt mn1.1) b_397_1) (fun b_397_1 => ?_)
            refine lv_iload hx hb dL_observes_400 (lv_at hl 0 rfl) ?_
            refine lv_iconst (v := 1) hx hb dL_observes_402 (by decide) ?_
            refine lv_iadd hx hb dL_observes_403 ?_
            refine lv_iload_n hx hb dL_observes_404 rfl (lv_at hl 8 rfl) ?_
            refine lv_imul hx hb dL_observes_405 ?_
            refine lv_aload hx hb dL_observes_406 (lv_at hl 15 rfl) ?_
            refine lv_iload hx hb dL_observes_408 (lv_at hl 1 rfl) ?_
            refine r_ialdN F h (k := 1) ((hFa4 _ (by omega) (by omega)).trans ((mu_ne (by omega) _).trans ((mu_ne (by omega) _).trans (mu_eq _ _ _)))) (rfl) (by omega) (by decide) dL_observes_410 ?_
            refine lv_icmp_le (tgt := 418) hx hb dL_observes_411 (by decide) (fun b_411_1 => by first | exact absurd b_411_1 (mn1.2) | exact absurd (mn1.2) b_411_1) (fun b_411_1 => ?_)
            refine lv_iconst (v := 1) hx hb dL_observes_414 (by decide) ?_
            refine lv_goto (tgt := 419) hx hb dL_observes_415 (by decide) ?_
            refine lv_istore (lv' := [(17, .int 1), (19, .int (sq_mean (rdS (rdF R w (R (69 + 3 * s1)) (nI 1) cn) tz))), (18, .int 1), (16, .int (spR R w s1 cn tz)), (15, .int (spR R w s1 cn tz)), (0, .ref (gz g + 0)), (1, .int (nI w)), (2, .int (nI s1)), (3, .int (nI tz)), (4, .int (R 0)), (5, .int (R 2)), (6, .int (R (69 + 3 * s1))), (7, .int 0), (8, .int (tkN R tz (5 + 11 * w + 9))), (9, .int (tkN R tz (5 + 11 * w + 10))), (10, .ref (gz g + n)), (11, .ref (gz g + (n + 1))), (12, .ref (gz g + (n + 2))), (13, .int 0), (14, .int (vsI R sc))]) hx hb dL_observes_419 hl (by decide) rfl (fun ls hl => ?_)
            refine lv_iinc (v := 2) (lv' := [(18, .int 2), (17, .int 1), (19, .int (sq_mean (rdS (rdF R w (R (69 + 3 * s1)) (nI 1) cn) tz))), (16, .int (spR R w s1 cn tz)), (15, .int (spR R w s1 cn tz)), (0, .ref (gz g + 0)), (1, .int (nI w)), (2, .int (nI s1)), (3, .int (nI tz)), (4, .int (R 0)), (5, .int (R 2)), (6, .int (R (69 + 3 * s1))), (7, .int 0), (8, .int (tkN R tz (5 + 11 * w + 9))), (9, .int (tkN R tz (5 + 11 * w + 10))), (10, .ref (gz g + n)), (11, .ref (gz g + (n + 1))), (12, .ref (gz g + (n + 2))), (13, .int 0), (14, .int (vsI R sc))]) hx hb dL_observes_421 hl (k := 2) rfl (by decide) (by decide) rfl (fun ls hl => ?_)
            refine lv_goto (tgt := 367) hx hb dL_observes_424 (by decide) ?_
            refine lv_iload hx hb dL_observes_367 (lv_at hl 0 rfl) ?_
            refine lv_iconst (v := 2) hx hb dL_observes_369 (by decide) ?_
            refine lv_icmp_ge (tgt := 427) hx hb dL_observes_370 (by decide) (fun b_370_2 => ?_) (fun b_370_2 => by first | exact absurd (by decide) b_370_2 | exact absurd b_370_2 (by decide))
            refine lv_iload hx hb dL_observes_427 (lv_at hl 3 rfl) ?_
            refine lv_iload hx hb dL_observes_429 (lv_at hl 4 rfl) ?_
            refine lv_icmp_ne (tgt := 542) hx hb dL_observes_431 (by decide) (fun b_431 => by first | exact absurd b_431 (rfl) | exact absurd (rfl) b_431) (fun b_431 => ?_)
            refine lv_iload hx hb dL_observes_434 (lv_at hl 1 rfl) ?_
            refine lv_if_eq (tgt := 542) hx hb dL_observes_436 (by decide) (fun b_436 => by first | exact absurd b_436 (by decide) | exact absurd (by decide) b_436) (fun b_436 => ?_)
            refine lv_aload_n hx hb dL_observes_439 rfl (lv_at hl 5 rfl) ?_
            refine lv_iload_n hx hb dL_observes_440 rfl (lv_at hl 7 rfl) ?_
            refine lv_iload_n hx hb dL_observes_441 rfl (lv_at hl 6 rfl) ?_
            refine lv_iconst (v := 2) hx hb dL_observes_442 (by decide) ?_
            refine u_iE (v := spR R w s1 cn tz) (ru_V (As := [.int (nI s1), .int (nI w), .int 2]) (rest := []) F h hWa4.1 rfl (kw_observation l g na4 ca4 hWa4 J2 (nI s1) (nI w) 2 (v := spR R w s1 cn tz) ((ob_2 e2 J.s5 hs5 hw4 (by rw [lk_in (show 0 < 6 by decide)]; show ¬ (1 : Int32) = 0; decide)).trans (lk_in (by decide)))) (gV hjl wd_518 wd_519 wd_520 wd_16 wd_521) rfl 3 (by decide +kernel) rfl ⟨Nat.le_of_ble_eq_true rfl, Nat.le_of_ble_eq_true rfl⟩ rfl hl.1 (Nat.le_of_ble_eq_true rfl) ⟨by decide, by decide⟩ dL_observes_443) h (fun H locs h => ?_)
            refine lv_iload hx hb dL_observes_446 (lv_at hl 4 rfl) ?_
            refine lv_icmp_ne (tgt := 542) hx hb dL_observes_448 (by decide) (fun b_448 => by first | exact absurd b_448 (rfl) | exact absurd (rfl) b_448) (fun b_448 => ?_)
            refine lv_aload_n hx hb dL_observes_451 rfl (lv_at hl 5 rfl) ?_
            refine lv_iload_n hx hb dL_observes_452 rfl (lv_at hl 7 rfl) ?_
            refine lv_iload_n hx hb dL_observes_453 rfl (lv_at hl 6 rfl) ?_
            refine lv_iconst (v := 3) hx hb dL_observes_454 (by decide) ?_
            refine u_iE (v := nI tz) (ru_V (As := [.int (nI s1), .int (nI w), .int 3]) (rest := []) F h hWa4.1 rfl (kw_observation l g na4 ca4 hWa4 J2 (nI s1) (nI w) 3 (v := nI tz) ((ob_3 e2 J.s5 hs5 hw4 (by rw [lk_in (show 0 < 6 by decide)]; show ¬ (1 : Int32) = 0; decide)).trans (lk_in (by decide)))) (gV hjl wd_518 wd_519 wd_520 wd_16 wd_521) rfl 3 (by decide +kernel) rfl ⟨Nat.le_of_ble_eq_true rfl, Nat.le_of_ble_eq_true rfl⟩ rfl hl.1 (Nat.le_of_ble_eq_true rfl) ⟨by decide, by decide⟩ dL_observes_455) h (fun H locs h => ?_)
            refine lv_iload_n hx hb dL_observes_458 rfl (lv_at hl 8 rfl) ?_
            refine lv_icmp_ne (tgt := 542) hx hb dL_observes_459 (by decide) (fun b_459 => by first | exact absurd b_459 (rfl) | exact absurd (rfl) b_459) (fun b_459 => ?_)
            refine lv_aload_n hx hb dL_observes_462 rfl (lv_at hl 5 rfl) ?_
            refine lv_iload_n hx hb dL_observes_463 rfl (lv_at hl 7 rfl) ?_
            refine lv_iload_n hx hb dL_observes_464 rfl (lv_at hl 6 rfl) ?_
            refine lv_iconst (v := 4) hx hb dL_observes_465 (by decide) ?_
            refine u_iE (v := R 0 + nI tz) (ru_V (As := [.int (nI s1), .int (nI w), .int 4]) (rest := []) F h hWa4.1 rfl (kw_observation l g na4 ca4 hWa4 J2 (nI s1) (nI w) 4 (v := R 0 + nI tz) ((ob_4 e2 J.s5 hs5 hw4 (by rw [lk_in (show 0 < 6 by decide)]; show ¬ (1 : Int32) = 0; decide)).trans (lk_in (by decide)))) (gV hjl wd_518 wd_519 wd_520 wd_16 wd_521) rfl 3 (by decide +kernel) rfl ⟨Nat.le_of_ble_eq_true rfl, Nat.le_of_ble_eq_true rfl⟩ rfl hl.1 (Nat.le_of_ble_eq_true rfl) ⟨by decide, by decide⟩ dL_observes_466) h (fun H locs h => ?_)
            refine lv_iload hx hb dL_observes_469 (lv_at hl 9 rfl) ?_
            refine lv_iload_n hx hb dL_observes_471 rfl (lv_at hl 8 rfl) ?_
            refine lv_iadd hx hb dL_observes_472 ?_
            refine lv_icmp_ne (tgt := 542) hx hb dL_observes_473 (by decide) (fun b_473 => by first | exact absurd b_473 (rfl) | exact absurd (rfl) b_473) (fun b_473 => ?_)
            refine lv_aload_n hx hb dL_observes_476 rfl (lv_at hl 5 rfl) ?_
            refine lv_iconst (v := 0) hx hb dL_observes_477 (by decide) ?_
            refine u_iE (v := R 0 + nI tz) (ru_V (As := [.int 0]) (rest := []) F h hWa4.1 rfl (kw_count l g na4 ca4 hWa4 J2 0 (v := R 0 + nI tz) (lk_0)) (gV hjl wd_399 wd_400 wd_401 wd_16 wd_402) rfl 1 (by decide +kernel) rfl ⟨Nat.le_of_ble_eq_true rfl, Nat.le_of_ble_eq_true rfl⟩ rfl hl.1 (Nat.le_of_ble_eq_true rfl) ⟨by decide, by decide⟩ dL_observes_478) h (fun H locs h => ?_)
            refine lv_iload hx hb dL_observes_481 (lv_at hl 9 rfl) ?_
            refine lv_iload_n hx hb dL_observes_483 rfl (lv_at hl 8 rfl) ?_
            refine lv_iadd hx hb dL_observes_484 ?_
            refine lv_icmp_ne (tgt := 542) hx hb dL_observes_485 (by decide) (fun b_485 => by first | exact absurd b_485 (rfl) | exact absurd (rfl) b_485) (fun b_485 => ?_)
            refine lv_aload_n hx hb dL_observes_488 rfl (lv_at hl 5 rfl) ?_
            refine lv_bipush (v := 7) hx hb dL_observes_489 (by decide) ?_
            refine u_iE (v := R 2 + nI tz) (ru_V (As := [.int 7]) (rest := []) F h hWa4.1 rfl (kw_count l g na4 ca4 hWa4 J2 7 (v := R 2 + nI tz) (lk_2)) (gV hjl wd_399 wd_400 wd_401 wd_16 wd_402) rfl 1 (by decide +kernel) rfl ⟨Nat.le_of_ble_eq_true rfl, Nat.le_of_ble_eq_true rfl⟩ rfl hl.1 (Nat.le_of_ble_eq_true rfl) ⟨by decide, by decide⟩ dL_observes_491) h (fun H locs h => ?_)
            refine lv_iload hx hb dL_observes_494 (lv_at hl 10 rfl) ?_
            refine lv_iload_n hx hb dL_observes_496 rfl (lv_at hl 8 rfl) ?_
            refine lv_iadd hx hb dL_observes_497 ?_
            refine lv_icmp_ne (tgt := 542) hx hb dL_observes_498 (by decide) (fun b_498 => by first | exact absurd b_498 (rfl) | exact absurd (rfl) b_498) (fun b_498 => ?_)
            refine lv_aload_n hx hb dL_observes_501 rfl (lv_at hl 5 rfl) ?_
            refine lv_iconst (v := 5) hx hb dL_observes_502 (by decide) ?_
            refine u_iE (v := vsI R sc + 0) (ru_V (As := [.int 5]) (rest := []) F h hWa4.1 rfl (kw_count l g na4 ca4 hWa4 J2 5 (v := vsI R sc + 0) ((vs_look (m := tz) (cn := cn) hw4 hs5).trans (congrArg (vsI R sc + ·) (if_neg hv)))) (gV hjl wd_399 wd_400 wd_401 wd_16 wd_402) rfl 1 (by decide +kernel) rfl ⟨Nat.le_of_ble_eq_true rfl, Nat.le_of_ble_eq_true rfl⟩ rfl hl.1 (Nat.le_of_ble_eq_true rfl) ⟨by decide, by decide⟩ dL_observes_503) h (fun H locs h => ?_)
            refine lv_iload hx hb dL_observes_506 (lv_at hl 19 rfl) ?_
            refine lv_iload hx hb dL_observes_508 (lv_at hl 18 rfl) ?_
            refine lv_iadd hx hb dL_observes_510 ?_
            refine lv_icmp_ne (tgt := 542) hx hb dL_observes_511 (by decide) (fun b_511 => by first | exact absurd b_511 (rfl) | exact absurd (rfl) b_511) (fun b_511 => ?_)
            refine lv_aload_n hx hb dL_observes_514 rfl (lv_at hl 5 rfl) ?_
            refine lv_iload_n hx hb dL_observes_515 rfl (lv_at hl 6 rfl) ?_
            refine lv_bipush (v := 9) hx hb dL_observes_516 (by decide) ?_
            refine u_iE (v := tkN R tz (5 + 11 * w + 10)) (ru_V (As := [.int (nI w), .int 9]) (rest := []) F h hWa4.1 rfl (kw_wire l g na4 ca4 hWa4 J2 (nI w) 9 (v := tkN R tz (5 + 11 * w + 10)) ((wi_9 hw4 (by rw [lk_no (by omega) (by omega), J.tkw (by omega) hw4 (by decide)]; exact h1)).trans (lk_no (by omega) (by omega)))) (gV hjl wd_390 wd_391 wd_392 wd_16 wd_393) rfl 2 (by decide +kernel) rfl ⟨Nat.le_of_ble_eq_true rfl, Nat.le_of_ble_eq_true rfl⟩ rfl hl.1 (Nat.le_of_ble_eq_true rfl) ⟨by decide, by decide⟩ dL_observes_518) h (fun H locs h => ?_)
            refine lv_iload hx hb dL_observes_521 (lv_at hl 14 rfl) ?_
            refine lv_icmp_ne (tgt := 542) hx hb dL_observes_523 (by decide) (fun b_523 => by first | exact absurd b_523 (rfl) | exact absurd (rfl) b_523) (fun b_523 => ?_)
            refine lv_aload_n hx hb dL_observes_526 rfl (lv_at hl 5 rfl) ?_
            refine lv_iload_n hx hb dL_observes_527 rfl (lv_at hl 6 rfl) ?_
            refine lv_bipush (v := 8) hx hb dL_observes_528 (by decide) ?_
            refine u_iE (v := tkN R tz (5 + 11 * w + 9)) (ru_V (As := [.int (nI w), .int 8]) (rest := []) F h hWa4.1 rfl (kw_wire l g na4 ca4 hWa4 J2 (nI w) 8 (v := tkN R tz (5 + 11 * w + 9)) ((wi_8 hw4 (by rw [lk_no (by omega) (by omega), J.tkw (by omega) hw4 (by decide)]; exact h1)).trans (lk_no (by omega) (by omega)))) (gV hjl wd_390 wd_391 wd_392 wd_16 wd_393) rfl 2 (by decide +kernel) rfl ⟨Nat.le_of_ble_eq_true rfl, Nat.le_of_ble_eq_true rfl⟩ rfl hl.1 (Nat.le_of_ble_eq_true rfl) ⟨by decide, by decide⟩ dL_observes_530) h (fun H locs h => ?_)
            refine lv_iload hx hb dL_observes_533 (lv_at hl 13 rfl) ?_
            refine lv_icmp_ne (tgt := 542) hx hb dL_observes_535 (by decide) (fun b_535 => by first | exact absurd b_535 (rfl) | exact absurd (rfl) b_535) (fun b_535 => ?_)
            refine lv_iconst (v := 1) hx hb dL_observes_538 (by decide) ?_
            refine lv_goto (tgt := 543) hx hb dL_observes_539 (by decide) ?_
            exact ret_z F h (by decide) (by decide) (by decide) dL_observes_543 (⟨rfl, by omega, _, _, _, _, hWa4, J2⟩)
          refine lv_aload hx hb dL_observes_269 (lv_at hl 12 rfl) ?_
          refine lv_iconst (v := 0) hx hb dL_observes_271 (by decide) ?_
          refine r_ialdN F h (k := 0) (mu_eq _ _ _) (rfl) (by omega) (by decide) dL_observes_272 ?_
          refine lv_aload hx hb dL_observes_273 (lv_at hl 11 rfl) ?_
          refine lv_iconst (v := 0) hx hb dL_observes_275 (by decide) ?_
          refine r_ialdN F h (k := 0) ((mu_ne (by omega) _).trans (mu_eq _ _ _)) (rfl) (by omega) (by decide) dL_observes_276 ?_
          refine lv_isub hx hb dL_observes_277 ?_
          refine lv_aload hx hb dL_observes_278 (lv_at hl 12 rfl) ?_
          refine lv_iconst (v := 1) hx hb dL_observes_280 (by decide) ?_
          refine r_ialdN F h (k := 1) (mu_eq _ _ _) (rfl) (by omega) (by decide) dL_observes_281 ?_
          refine lv_aload hx hb dL_observes_282 (lv_at hl 11 rfl) ?_
          refine lv_iconst (v := 1) hx hb dL_observes_284 (by decide) ?_
          refine r_ialdN F h (k := 1) ((mu_ne (by omega) _).trans (mu_eq _ _ _)) (rfl) (by omega) (by decide) dL_observes_285 ?_
          refine lv_isub hx hb dL_observes_286 ?_
          refine lv_icmp_le (tgt := 302) hx hb dL_observes_287 (by decide) (fun b_287 => ?_) (fun b_287 => ?_)
          · skip
            refine lv_aload hx hb dL_observes_302 (lv_at hl 12 rfl) ?_
            refine lv_iconst (v := 1) hx hb dL_observes_304 (by decide) ?_
            refine r_ialdN F h (k := 1) (mu_eq _ _ _) (rfl) (by omega) (by decide) dL_observes_305 ?_
            refine lv_aload hx hb dL_observes_306 (lv_at hl 11 rfl) ?_
            refine lv_iconst (v := 1) hx hb dL_observes_308 (by decide) ?_
            refine r_ialdN F h (k := 1) ((mu_ne (by omega) _).trans (mu_eq _ _ _)) (rfl) (by omega) (by decide) dL_observes_309 ?_
            refine lv_isub hx hb dL_observes_310 ?_
            refine r_top (w := .int (spR R w s1 cn tz)) (congrArg Value.int (sp_y b_287)) ?_
            exact js _ _ _ h (lv_sub hl [0, 1, 2, 3, 4, 5, 6, 7, 8, 9, 10, 11, 12, 13, 14, 15] rfl)
          refine lv_aload hx hb dL_observes_290 (lv_at hl 12 rfl) ?_
          refine lv_iconst (v := 0) hx hb dL_observes_292 (by decide) ?_
          refine r_ialdN F h (k := 0) (mu_eq _ _ _) (rfl) (by omega) (by decide) dL_observes_293 ?_
          refine lv_aload hx hb dL_observes_294 (lv_at hl 11 rfl) ?_
          refine lv_iconst (v := 0) hx hb dL_observes_296 (by decide) ?_
          refine r_ialdN F h (k := 0) ((mu_ne (by omega) _).trans (mu_eq _ _ _)) (rfl) (by omega) (by decide) dL_observes_297 ?_
          refine lv_isub hx hb dL_observes_298 ?_
          refine lv_goto (tgt := 311) hx hb dL_observes_299 (by decide) ?_
          refine r_top (w := .int (spR R w s1 cn tz)) (congrArg Value.int (sp_x b_287)) ?_
          exact js _ _ _ h (lv_sub hl [0, 1, 2, 3, 4, 5, 6, 7, 8, 9, 10, 11, 12, 13, 14, 15] rfl)
        have hk2 : k1 < tz := lp_lt (N := tz) rfl (by omega) (by omega) b_117
        refine lv_iload hx hb dL_observes_120 (lv_at hl 7 rfl) ?_
        refine lv_if_ne (tgt := 269) hx hb dL_observes_122 (by decide) (fun b_122 => by first | exact absurd b_122 (by decide) | exact absurd (by decide) b_122) (fun b_122 => ?_)
        refine lv_iconst (v := 0) hx hb dL_observes_125 (by decide) ?_
        refine lv_istore (lv' := [(16, .int 0), (0, .ref (gz g + 0)), (1, .int (nI w)), (2, .int (nI s1)), (3, .int (nI tz)), (4, .int (R 0)), (5, .int (R 2)), (6, .int (R (69 + 3 * s1))), (7, .int 0), (8, .int (tkN R k1 (5 + 11 * w + 9))), (9, .int (tkN R k1 (5 + 11 * w + 10))), (10, .ref (gz g + n)), (11, .ref (gz g + (n + 1))), (12, .ref (gz g + (n + 2))), (13, .int 0), (14, .int (vsI R sc)), (15, .int (nI k1))]) hx hb dL_observes_126 hl (by decide) rfl (fun ls hl => ?_)
        refine lv_iload hx hb dL_observes_128 (lv_at hl 0 rfl) ?_
        refine lv_iconst (v := 2) hx hb dL_observes_130 (by decide) ?_
        refine lv_icmp_ge (tgt := 225) hx hb dL_observes_131 (by decide) (fun b_131 => by first | exact absurd b_131 (by decide) | exact absurd (by decide) b_131) (fun b_131 => ?_)
        refine lv_aload_n hx hb dL_observes_134 rfl (lv_at hl 1 rfl) ?_
        refine lv_iload_n hx hb dL_observes_135 rfl (lv_at hl 2 rfl) ?_
        refine lv_iload hx hb dL_observes_136 (lv_at hl 7 rfl) ?_
        refine lv_iload hx hb dL_observes_138 (lv_at hl 0 rfl) ?_
        refine lv_iload hx hb dL_observes_140 (lv_at hl 9 rfl) ?_
        refine lv_iload hx hb dL_observes_142 (lv_at hl 10 rfl) ?_
        refine u_iE (v := (reS R w (R (69 + 3 * s1)) (nI 0) cn + (acL (R (5 + 11 * w + 8)) (nI 0) * (swL (tkN R k1 (5 + 11 * w + 9)) ((4 * qdI (R (5 + 11 * w + 4))) / 4) (tkN R k1 (5 + 11 * w + 10)) * (R (69 + 3 * s1)) / R (5 + 11 * w + 4))))) (ru_S (As := [.ref (gz g + 0), .int (nI w), .int (R (69 + 3 * s1)), .int 0, .int (tkN R k1 (5 + 11 * w + 9)), .int (tkN R k1 (5 + 11 * w + 10))]) (rest := []) F h (k_L_at l g (n + 3) (va_up (va_up (va_up c n (some (.inl (g.2.1 0, 2, .inl (obA R w s1 cn k1 1))))) (n + 1) (some (.inl (g.2.1 0, 2, .inl (obA R w s1 cn k1 2))))) (n + 2) (some (.inl (g.2.1 0, 2, .inl (obA R w s1 cn k1 3))))) (((hWd.up (by omega)).up (by omega)).up (by omega)) J w hw4 h1 (R (69 + 3 * s1)) dz hd 0 (show 0 < 2 by decide) (tkN R k1 (5 + 11 * w + 9)) (tkN R k1 (5 + 11 * w + 10))) (gS hjl wd_502 wd_503 wd_15 wd_504) rfl 6 (by decide +kernel) rfl ⟨Nat.le_of_ble_eq_true rfl, Nat.le_of_ble_eq_true rfl⟩ rfl hl.1 (Nat.le_of_ble_eq_true rfl) ⟨by decide, by decide⟩ dL_observes_144) h (fun H locs h => ?_)
        refine r_top (w := .int (rdF R w (R (69 + 3 * s1)) (nI 0) cn k1)) (congrArg Value.int (at_l J (by omega) hw4 h1 (R (69 + 3 * s1)) (show 0 < 2 by decide))) ?_
        refine lv_istore (lv' := [(17, .int (rdF R w (R (69 + 3 * s1)) (nI 0) cn k1)), (16, .int 0), (0, .ref (gz g + 0)), (1, .int (nI w)), (2, .int (nI s1)), (3, .int (nI tz)), (4, .int (R 0)), (5, .int (R 2)), (6, .int (R (69 + 3 * s1))), (7, .int 0), (8, .int (tkN R k1 (5 + 11 * w + 9))), (9, .int (tkN R k1 (5 + 11 * w + 10))), (10, .ref (gz g + n)), (11, .ref (gz g + (n + 1))), (12, .ref (gz g + (n + 2))), (13, .int 0), (14, .int (vsI R sc)), (15, .int (nI k1))]) hx hb dL_observes_147 hl (by decide) rfl (fun ls hl => ?_)
        refine lv_aload hx hb dL_observes_149 (lv_at hl 12 rfl) ?_
        refine lv_iload hx hb dL_observes_151 (lv_at hl 1 rfl) ?_
        refine lv_dup2_11 hx hb dL_observes_153 rfl rfl ?_
        refine r_ialdN F h (k := 0) ((mu_ne (by omega) _).trans ((mu_ne (by omega) _).trans (mu_eq _ _ _))) (rfl) (by decide) (by decide) dL_observes_154 ?_
        refine r_top (w := .int (obA R w s1 cn k1 1 0)) (rfl) ?_
        refine lv_iload hx hb dL_observes_155 (lv_at hl 0 rfl) ?_
        refine lv_iadd hx hb dL_observes_157 ?_
        refine r_iastN F h (k := 0) (f' := upd (obA R w s1 cn k1 1) 0 ((obA R w s1 cn k1 1 0) + (rdF R w (R (69 + 3 * s1)) (nI 0) cn k1))) ((mu_ne (by omega) _).trans ((mu_ne (by omega) _).trans (mu_eq _ _ _))) (rfl) (by decide) (by decide) dL_observes_158 (rfl) (fun H locs h => ?_)
        refine r_mem (c1 := (va_up (va_up (va_up c n (some (.inl (g.2.1 0, 2, .inl (upd (obA R w s1 cn k1 1) 0 ((obA R w s1 cn k1 1 0) + (rdF R w (R (69 + 3 * s1)) (nI 0) cn k1))))))) (n + 1) (some (.inl (g.2.1 0, 2, .inl (obA R w s1 cn k1 2))))) (n + 2) (some (.inl (g.2.1 0, 2, .inl (obA R w s1 cn k1 3)))))) h ((mu_comm (by omega) _ _).trans (congrArg (fun z : Mp => va_up z (n + 2) _) ((mu_comm (by omega) _ _).trans (congrArg (fun z : Mp => va_up z (n + 1) _) (mu_uu _ _ _ _))))) (fun h => ?_)
        have jl0 : ∀ (H : Heap) (locs : List Loc) (ls : Array Slot), Hv g s H locs (n + 3) (va_up (va_up (va_up c n (some (.inl (g.2.1 0, 2, .inl (upd (obA R w s1 cn k1 1) 0 ((obA R w s1 cn k1 1 0) + (rdF R w (R (69 + 3 * s1)) (nI 0) cn k1))))))) (n + 1) (some (.inl (g.2.1 0, 2, .inl (obA R w s1 cn k1 2))))) (n + 2) (some (.inl (g.2.1 0, 2, .inl (obA R w s1 cn k1 3))))) → lv_has ls 20 [(17, .int (rdF R w (R (69 + 3 * s1)) (nI 0) cn k1)), (16, .int 0), (0, .ref (gz g + 0)), (1, .int (nI w)), (2, .int (nI s1)), (3, .int (nI tz)), (4, .int (R 0)), (5, .int (R 2)), (6, .int (R (69 + 3 * s1))), (7, .int 0), (8, .int (tkN R k1 (5 + 11 * w + 9))), (9, .int (tkN R k1 (5 + 11 * w + 10))), (10, .ref (gz g + n)), (11, .ref (gz g + (n + 1))), (12, .ref (gz g + (n + 2))), (13, .int 0), (14, .int (vsI R sc)), (15, .int (nI k1))] → W p l e (Rm 5 130 5 14) s m args below meth c0 H locs (0 + 1 + 1 + 1) (0 + 2 + 2 + 2) (MQ below (Qi g (fun xr n' c' => xr = 1 ∧ n ≤ n' ∧ ∃ (lh' : Nat) (rs' : Int32) (R' : Nat → Int32) (hq' : Nat → Nat → Int32), Wd g c' lh' rs' R' hq' ∧ Jv R' sc cn (tb + 60))) args s 5 14 (mAf g)) (F0 m 188 ls [.int (obA R w s1 cn (k1 + 1) 2 0), .int 0, .ref (gz g + (n + 1))]) := by
          intro H locs ls h hl
          refine r_iastN F h (k := 0) (f' := upd (obA R w s1 cn k1 2) 0 (obA R w s1 cn (k1 + 1) 2 0)) ((mu_ne (by omega) _).trans (mu_eq _ _ _)) (rfl) (by decide) (by decide) dL_observes_188 (rfl) (fun H locs h => ?_)
          refine r_mem (c1 := (va_up (va_up (va_up c n (some (.inl (g.2.1 0, 2, .inl (upd (obA R w s1 cn k1 1) 0 ((obA R w s1 cn k1 1 0) + (rdF R w (R (69 + 3 * s1)) (nI 0) cn k1))))))) (n + 1) (some (.inl (g.2.1 0, 2, .inl (upd (obA R w s1 cn k1 2) 0 (obA R w s1 cn (k1 + 1) 2 0)))))) (n + 2) (some (.inl (g.2.1 0, 2, .inl (obA R w s1 cn k1 3)))))) h ((mu_comm (by omega) _ _).trans (congrArg (fun z : Mp => va_up z (n + 2) _) (mu_uu _ _ _ _))) (fun h => ?_)
          have jm0 : ∀ (H : Heap) (locs : List Loc) (ls : Array Slot), Hv g s H locs (n + 3) (va_up (va_up (va_up c n (some (.inl (g.2.1 0, 2, .inl (upd (obA R w s1 cn k1 1) 0 ((obA R w s1 cn k1 1 0) + (rdF R w (R (69 + 3 * s1)) (nI 0) cn k1))))))) (n + 1) (some (.inl (g.2.1 0, 2, .inl (upd (obA R w s1 cn k1 2) 0 (obA R w s1 cn (k1 + 1) 2 0)))))) (n + 2) (some (.inl (g.2.1 0, 2, .inl (obA R w s1 cn k1 3))))) → lv_has ls 20 [(17, .int (rdF R w (R (69 + 3 * s1)) (nI 0) cn k1)), (16, .int 0), (0, .ref (gz g + 0)), (1, .int (nI w)), (2, .int (nI s1)), (3, .int (nI tz)), (4, .int (R 0)), (5, .int (R 2)), (6, .int (R (69 + 3 * s1))), (7, .int 0), (8, .int (tkN R k1 (5 + 11 * w + 9))), (9, .int (tkN R k1 (5 + 11 * w + 10))), (10, .ref (gz g + n)), (11, .ref (gz g + (n + 1))), (12, .ref (gz g + (n + 2))), (13, .int 0), (14, .int (vsI R sc)), (15, .int (nI k1))] → W p l e (Rm 5 130 5 14) s m args below meth c0 H locs (0 + 1 + 1 + 1) (0 + 2 + 2 + 2) (MQ below (Qi g (fun xr n' c' => xr = 1 ∧ n ≤ n' ∧ ∃ (lh' : Nat) (rs' : Int32) (R' : Nat → Int32) (hq' : Nat → Nat → Int32), Wd g c' lh' rs' R' hq' ∧ Jv R' sc cn (tb + 60))) args s 5 14 (mAf g)) (F0 m 218 ls [.int (obA R w s1 cn (k1 + 1) 3 0), .int 0, .ref (gz g + (n + 2))]) := by
            intro H locs ls h hl
            refine r_iastN F h (k := 0) (f' := upd (obA R w s1 cn k1 3) 0 (obA R w s1 cn (k1 + 1) 3 0)) (mu_eq _ _ _) (rfl) (by decide) (by decide) dL_observes_218 (rfl) (fun H locs h => ?_)
            refine r_mem (c1 := (va_up (va_up (va_up c n (some (.inl (g.2.1 0, 2, .inl (upd (obA R w s1 cn k1 1) 0 ((obA R w s1 cn k1 1 0) + (rdF R w (R (69 + 3 * s1)) (nI 0) cn k1))))))) (n + 1) (some (.inl (g.2.1 0, 2, .inl (upd (obA R w s1 cn k1 2) 0 (obA R w s1 cn (k1 + 1) 2 0)))))) (n + 2) (some (.inl (g.2.1 0, 2, .inl (upd (obA R w s1 cn k1 3) 0 (obA R w s1 cn (k1 + 1) 3 0))))))) h (mu_uu _ _ _ _) (fun h => ?_)
            refine lv_iinc (v := 1) (lv' := [(16, .int 1), (17, .int (rdF R w (R (69 + 3 * s1)) (nI 0) cn k1)), (0, .ref (gz g + 0)), (1, .int (nI w)), (2, .int (nI s1)), (3, .int (nI tz)), (4, .int (R 0)), (5, .int (R 2)), (6, .int (R (69 + 3 * s1))), (7, .int 0), (8, .int (tkN R k1 (5 + 11 * w + 9))), (9, .int (tkN R k1 (5 + 11 * w + 10))), (10, .ref (gz g + n)), (11, .ref (gz g + (n + 1))), (12, .ref (gz g + (n + 2))), (13, .int 0), (14, .int (vsI R sc)), (15, .int (nI k1))]) hx hb dL_observes_219 hl (k := 1) rfl (by decide) (by decide) rfl (fun ls hl => ?_)
            refine lv_goto (tgt := 128) hx hb dL_observes_222 (by decide) ?_
            refine lv_iload hx hb dL_observes_128 (lv_at hl 0 rfl) ?_
            refine lv_iconst (v := 2) hx hb dL_observes_130 (by decide) ?_
            refine lv_icmp_ge (tgt := 225) hx hb dL_observes_131 (by decide) (fun b_131_1 => by first | exact absurd b_131_1 (by decide) | exact absurd (by decide) b_131_1) (fun b_131_1 => ?_)
            refine lv_aload_n hx hb dL_observes_134 rfl (lv_at hl 2 rfl) ?_
            refine lv_iload_n hx hb dL_observes_135 rfl (lv_at hl 3 rfl) ?_
            refine lv_iload hx hb dL_observes_136 (lv_at hl 8 rfl) ?_
            refine lv_iload hx hb dL_observes_138 (lv_at hl 0 rfl) ?_
            refine lv_iload hx hb dL_observes_140 (lv_at hl 10 rfl) ?_
            refine lv_iload hx hb dL_observes_142 (lv_at hl 11 rfl) ?_
            refine u_iE (v := (reS R w (R (69 + 3 * s1)) (nI 1) cn + (acL (R (5 + 11 * w + 8)) (nI 1) * (swL (tkN R k1 (5 + 11 * w + 9)) ((4 * qdI (R (5 + 11 * w + 4))) / 4) (tkN R k1 (5 + 11 * w + 10)) * (R (69 + 3 * s1)) / R (5 + 11 * w + 4))))) (ru_S (As := [.ref (gz g + 0), .int (nI w), .int (R (69 + 3 * s1)), .int 1, .int (tkN R k1 (5 + 11 * w + 9)), .int (tkN R k1 (5 + 11 * w + 10))]) (rest := []) F h (k_L_at l g (n + 3) (va_up (va_up (va_up c n (some (.inl (g.2.1 0, 2, .inl (upd (obA R w s1 cn k1 1) 0 ((obA R w s1 cn k1 1 0) + (rdF R w (R (69 + 3 * s1)) (nI 0) cn k1))))))) (n + 1) (some (.inl (g.2.1 0, 2, .inl (upd (obA R w s1 cn k1 2) 0 (obA R w s1 cn (k1 + 1) 2 0)))))) (n + 2) (some (.inl (g.2.1 0, 2, .inl (upd (obA R w s1 cn k1 3) 0 (obA R w s1 cn (k1 + 1) 3 0)))))) (((hWd.up (by omega)).up (by omega)).up (by omega)) J w hw4 h1 (R (69 + 3 * s1)) dz hd 1 (show 1 < 2 by decide) (tkN R k1 (5 + 11 * w + 9)) (tkN R k1 (5 + 11 * w + 10))) (gS hjl wd_502 wd_503 wd_15 wd_504) rfl 6 (by decide +kernel) rfl ⟨Nat.le_of_ble_eq_true rfl, Nat.le_of_ble_eq_true rfl⟩ rfl hl.1 (Nat.le_of_ble_eq_true rfl) ⟨by decide, by decide⟩ dL_observes_144) h (fun H locs h => ?_)
            refine r_top (w := .int (rdF R w (R (69 + 3 * s1)) (nI 1) cn k1)) (congrArg Value.int (at_l J (by omega) hw4 h1 (R (69 + 3 * s1)) (show 1 < 2 by decide))) ?_
            refine lv_istore (lv' := [(17, .int (rdF R w (R (69 + 3 * s1)) (nI 1) cn k1)), (16, .int 1), (0, .ref (gz g + 0)), (1, .int (nI w)), (2, .int (nI s1)), (3, .int (nI tz)), (4, .int (R 0)), (5, .int (R 2)), (6, .int (R (69 + 3 * s1))), (7, .int 0), (8, .int (tkN R k1 (5 + 11 * w + 9))), (9, .int (tkN R k1 (5 + 11 * w + 10))), (10, .ref (gz g + n)), (11, .ref (gz g + (n + 1))), (12, .ref (gz g + (n + 2))), (13, .int 0), (14, .int (vsI R sc)), (15, .int (nI k1))]) hx hb dL_observes_147 hl (by decide) rfl (fun ls hl => ?_)
            refine lv_aload hx hb dL_observes_149 (lv_at hl 12 rfl) ?_
            refine lv_iload hx hb dL_observes_151 (lv_at hl 1 rfl) ?_
            refine lv_dup2_11 hx hb dL_observes_153 rfl rfl ?_
            refine r_ialdN F h (k := 1) ((mu_ne (by omega) _).trans ((mu_ne (by omega) _).trans (mu_eq _ _ _))) (rfl) (by decide) (by decide) dL_observes_154 ?_
            refine r_top (w := .int (obA R w s1 cn k1 1 1)) (congrArg Value.int (upd_no (by decide))) ?_
            refine lv_iload hx hb dL_observes_155 (lv_at hl 0 rfl) ?_
            refine lv_iadd hx hb dL_observes_157 ?_
            refine r_iastN F h (k := 1) (f' := upd (upd (obA R w s1 cn k1 1) 0 ((obA R w s1 cn k1 1 0) + (rdF R w (R (69 + 3 * s1)) (nI 0) cn k1))) 1 ((obA R w s1 cn k1 1 1) + (rdF R w (R (69 + 3 * s1)) (nI 1) cn k1))) ((mu_ne (by omega) _).trans ((mu_ne (by omega) _).trans (mu_eq _ _ _))) (rfl) (by decide) (by decide) dL_observes_158 (rfl) (fun H locs h => ?_)
            refine r_mem (c1 := (va_up (va_up (va_up c n (some (.inl (g.2.1 0, 2, .inl (upd (upd (obA R w s1 cn k1 1) 0 ((obA R w s1 cn k1 1 0) + (rdF R w (R (69 + 3 * s1)) (nI 0) cn k1))) 1 ((obA R w s1 cn k1 1 1) + (rdF R w (R (69 + 3 * s1)) (nI 1) cn k1))))))) (n + 1) (some (.inl (g.2.1 0, 2, .inl (upd (obA R w s1 cn k1 2) 0 (obA R w s1 cn (k1 + 1) 2 0)))))) (n + 2) (some (.inl (g.2.1 0, 2, .inl (upd (obA R w s1 cn k1 3) 0 (obA R w s1 cn (k1 + 1) 3 0))))))) h ((mu_comm (by omega) _ _).trans (congrArg (fun z : Mp => va_up z (n + 2) _) ((mu_comm (by omega) _ _).trans (congrArg (fun z : Mp => va_up z (n + 1) _) (mu_uu _ _ _ _))))) (fun h => ?_)
            have jl1 : ∀ (H : Heap) (locs : List Loc) (ls : Array Slot), Hv g s H locs (n + 3) (va_up (va_up (va_up c n (some (.inl (g.2.1 0, 2, .inl (upd (upd (obA R w s1 cn k1 1) 0 ((obA R w s1 cn k1 1 0) + (rdF R w (R (69 + 3 * s1)) (nI 0) cn k1))) 1 ((obA R w s1 cn k1 1 1) + (rdF R w (R (69 + 3 * s1)) (nI 1) cn k1))))))) (n + 1) (some (.inl (g.2.1 0, 2, .inl (upd (obA R w s1 cn k1 2) 0 (obA R w s1 cn (k1 + 1) 2 0)))))) (n + 2) (some (.inl (g.2.1 0, 2, .inl (upd (obA R w s1 cn k1 3) 0 (obA R w s1 cn (k1 + 1) 3 0)))))) → lv_has ls 20 [(17, .int (rdF R w (R (69 + 3 * s1)) (nI 1) cn k1)), (16, .int 1), (0, .ref (gz g + 0)), (1, .int (nI w)), (2, .int (nI s1)), (3, .int (nI tz)), (4, .int (R 0)), (5, .int (R 2)), (6, .int (R (69 + 3 * s1))), (7, .int 0), (8, .int (tkN R k1 (5 + 11 * w + 9))), (9, .int (tkN R k1 (5 + 11 * w + 10))), (10, .ref (gz g + n)), (11, .ref (gz g + (n + 1))), (12, .ref (gz g + (n + 2))), (13, .int 0), (14, .int (vsI R sc)), (15, .int (nI k1))] → W p l e (Rm 5 130 5 14) s m args below meth c0 H locs (0 + 1 + 1 + 1) (0 + 2 + 2 + 2) (MQ below (Qi g (fun xr n' c' => xr = 1 ∧ n ≤ n' ∧ ∃ (lh' : Nat) (rs' : Int32) (R' : Nat → Int32) (hq' : Nat → Nat → Int32), Wd g c' lh' rs' R' hq' ∧ Jv R' sc cn (tb + 60))) args s 5 14 (mAf g)) (F0 m 188 ls [.int (obA R w s1 cn (k1 + 1) 2 1), .int 1, .ref (gz g + (n + 1))]) := by
              intro H locs ls h hl
              refine r_iastN F h (k := 1) (f' := upd (upd (obA R w s1 cn k1 2) 0 (obA R w s1 cn (k1 + 1) 2 0)) 1 (obA R w s1 cn (k1 + 1) 2 1)) ((mu_ne (by omega) _).trans (mu_eq _ _ _)) (rfl) (by decide) (by decide) dL_observes_188 (rfl) (fun H locs h => ?_)
              refine r_mem (c1 := (va_up (va_up (va_up c n (some (.inl (g.2.1 0, 2, .inl (upd (upd (obA R w s1 cn k1 1) 0 ((obA R w s1 cn k1 1 0) + (rdF R w (R (69 + 3 * s1)) (nI 0) cn k1))) 1 ((obA R w s1 cn k1 1 1) + (rdF R w (R (69 + 3 * s1)) (nI 1) cn k1))))))) (n + 1) (some (.inl (g.2.1 0, 2, .inl (upd (upd (obA R w s1 cn k1 2) 0 (obA R w s1 cn (k1 + 1) 2 0)) 1 (obA R w s1 cn (k1 + 1) 2 1)))))) (n + 2) (some (.inl (g.2.1 0, 2, .inl (upd (obA R w s1 cn k1 3) 0 (obA R w s1 cn (k1 + 1) 3 0))))))) h ((mu_comm (by omega) _ _).trans (congrArg (fun z : Mp => va_up z (n + 2) _) (mu_uu _ _ _ _))) (fun h => ?_)
              have jm1 : ∀ (H : Heap) (locs : List Loc) (ls : Array Slot), Hv g s H locs (n + 3) (va_up (va_up (va_up c n (some (.inl (g.2.1 0, 2, .inl (upd (upd (obA R w s1 cn k1 1) 0 ((obA R w s1 cn k1 1 0) + (rdF R w (R (69 + 3 * s1)) (nI 0) cn k1))) 1 ((obA R w s1 cn k1 1 1) + (rdF R w (R (69 + 3 * s1)) (nI 1) cn k1))))))) (n + 1) (some (.inl (g.2.1 0, 2, .inl (upd (upd (obA R w s1 cn k1 2) 0 (obA R w s1 cn (k1 + 1) 2 0)) 1 (obA R w s1 cn (k1 + 1) 2 1)))))) (n + 2) (some (.inl (g.2.1 0, 2, .inl (upd (obA R w s1 cn k1 3) 0 (obA R w s1 cn (k1 + 1) 3 0)))))) → lv_has ls 20 [(17, .int (rdF R w (R (69 + 3 * s1)) (nI 1) cn k1)), (16, .int 1), (0, .ref (gz g + 0)), (1, .int (nI w)), (2, .int (nI s1)), (3, .int (nI tz)), (4, .int (R 0)), (5, .int (R 2)), (6, .int (R (69 + 3 * s1))), (7, .int 0), (8, .int (tkN R k1 (5 + 11 * w + 9))), (9, .int (tkN R k1 (5 + 11 * w + 10))), (10, .ref (gz g + n)), (11, .ref (gz g + (n + 1))), (12, .ref (gz g + (n + 2))), (13, .int 0), (14, .int (vsI R sc)), (15, .int (nI k1))] → W p l e (Rm 5 130 5 14) s m args below meth c0 H locs (0 + 1 + 1 + 1) (0 + 2 + 2 + 2) (MQ below (Qi g (fun xr n' c' => xr = 1 ∧ n ≤ n' ∧ ∃ (lh' : Nat) (rs' : Int32) (R' : Nat → Int32) (hq' : Nat → Nat → Int32), Wd g c' lh' rs' R' hq' ∧ Jv R' sc cn (tb + 60))) args s 5 14 (mAf g)) (F0 m 218 ls [.int (obA R w s1 cn (k1 + 1) 3 1), .int 1, .ref (gz g + (n + 2))]) := by
                intro H locs ls h hl
                refine r_iastN F h (k := 1) (f' := upd (upd (obA R w s1 cn k1 3) 0 (obA R w s1 cn (k1 + 1) 3 0)) 1 (obA R w s1 cn (k1 + 1) 3 1)) (mu_eq _ _ _) (rfl) (by decide) (by decide) dL_observes_218 (rfl) (fun H locs h => ?_)
                refine r_mem (c1 := (va_up (va_up (va_up c n (some (.inl (g.2.1 0, 2, .inl (upd (upd (obA R w s1 cn k1 1) 0 ((obA R w s1 cn k1 1 0) + (rdF R w (R (69 + 3 * s1)) (nI 0) cn k1))) 1 ((obA R w s1 cn k1 1 1) + (rdF R w (R (69 + 3 * s1)) (nI 1) cn k1))))))) (n + 1) (some (.inl (g.2.1 0, 2, .inl (upd (upd (obA R w s1 cn k1 2) 0 (obA R w s1 cn (k1 + 1) 2 0)) 1 (obA R w s1 cn (k1 + 1) 2 1)))))) (n + 2) (some (.inl (g.2.1 0, 2, .inl (upd (upd (obA R w s1 cn k1 3) 0 (obA R w s1 cn (k1 + 1) 3 0)) 1 (obA R w s1 cn (k1 + 1) 3 1))))))) h (mu_uu _ _ _ _) (fun h => ?_)
                refine lv_iinc (v := 2) (lv' := [(16, .int 2), (17, .int (rdF R w (R (69 + 3 * s1)) (nI 1) cn k1)), (0, .ref (gz g + 0)), (1, .int (nI w)), (2, .int (nI s1)), (3, .int (nI tz)), (4, .int (R 0)), (5, .int (R 2)), (6, .int (R (69 + 3 * s1))), (7, .int 0), (8, .int (tkN R k1 (5 + 11 * w + 9))), (9, .int (tkN R k1 (5 + 11 * w + 10))), (10, .ref (gz g + n)), (11, .ref (gz g + (n + 1))), (12, .ref (gz g + (n + 2))), (13, .int 0), (14, .int (vsI R sc)), (15, .int (nI k1))]) hx hb dL_observes_219 hl (k := 1) rfl (by decide) (by decide) rfl (fun ls hl => ?_)
                refine lv_goto (tgt := 128) hx hb dL_observes_222 (by decide) ?_
                refine lv_iload hx hb dL_observes_128 (lv_at hl 0 rfl) ?_
                refine lv_iconst (v := 2) hx hb dL_observes_130 (by decide) ?_
                refine lv_icmp_ge (tgt := 225) hx hb dL_observes_131 (by decide) (fun b_131_2 => ?_) (fun b_131_2 => by first | exact absurd (by decide) b_131_2 | exact absurd b_131_2 (by decide))
                refine r_arr (obA R w s1 cn (k1 + 1) 1) h ((mu_ne (by omega) _).trans ((mu_ne (by omega) _).trans (mu_eq _ _ _))) (fun j hj => by rcases (show j = 0 ∨ j = 1 by omega) with rfl | rfl <;> rfl) (fun h => ?_)
                refine r_mem (c1 := (va_up (va_up (va_up c n (some (.inl (g.2.1 0, 2, .inl (obA R w s1 cn (k1 + 1) 1))))) (n + 1) (some (.inl (g.2.1 0, 2, .inl (upd (upd (obA R w s1 cn k1 2) 0 (obA R w s1 cn (k1 + 1) 2 0)) 1 (obA R w s1 cn (k1 + 1) 2 1)))))) (n + 2) (some (.inl (g.2.1 0, 2, .inl (upd (upd (obA R w s1 cn k1 3) 0 (obA R w s1 cn (k1 + 1) 3 0)) 1 (obA R w s1 cn (k1 + 1) 3 1))))))) h ((mu_comm (by omega) _ _).trans (congrArg (fun z : Mp => va_up z (n + 2) _) ((mu_comm (by omega) _ _).trans (congrArg (fun z : Mp => va_up z (n + 1) _) (mu_uu _ _ _ _))))) (fun h => ?_)
                refine r_arr (obA R w s1 cn (k1 + 1) 2) h ((mu_ne (by omega) _).trans (mu_eq _ _ _)) (fun j hj => by rcases (show j = 0 ∨ j = 1 by omega) with rfl | rfl <;> rfl) (fun h => ?_)
                refine r_mem (c1 := (va_up (va_up (va_up c n (some (.inl (g.2.1 0, 2, .inl (obA R w s1 cn (k1 + 1) 1))))) (n + 1) (some (.inl (g.2.1 0, 2, .inl (obA R w s1 cn (k1 + 1) 2))))) (n + 2) (some (.inl (g.2.1 0, 2, .inl (upd (upd (obA R w s1 cn k1 3) 0 (obA R w s1 cn (k1 + 1) 3 0)) 1 (obA R w s1 cn (k1 + 1) 3 1))))))) h ((mu_comm (by omega) _ _).trans (congrArg (fun z : Mp => va_up z (n + 2) _) (mu_uu _ _ _ _))) (fun h => ?_)
                refine r_arr (obA R w s1 cn (k1 + 1) 3) h (mu_eq _ _ _) (fun j hj => by rcases (show j = 0 ∨ j = 1 by omega) with rfl | rfl <;> rfl) (fun h => ?_)
                refine r_mem (c1 := (va_up (va_up (va_up c n (some (.inl (g.2.1 0, 2, .inl (obA R w s1 cn (k1 + 1) 1))))) (n + 1) (some (.inl (g.2.1 0, 2, .inl (obA R w s1 cn (k1 + 1) 2))))) (n + 2) (some (.inl (g.2.1 0, 2, .inl (obA R w s1 cn (k1 + 1) 3)))))) h (mu_uu _ _ _ _) (fun h => ?_)
                refine lv_iload hx hb dL_observes_225 (lv_at hl 11 rfl) ?_
                refine lv_iconst (v := 1) hx hb dL_observes_227 (by decide) ?_
                refine lv_iadd hx hb dL_observes_228 ?_
                refine lv_aload_n hx hb dL_observes_229 rfl (lv_at hl 2 rfl) ?_
                refine lv_iload_n hx hb dL_observes_230 rfl (lv_at hl 3 rfl) ?_
                refine lv_bipush (v := 10) hx hb dL_observes_231 (by decide) ?_
                refine u_iE (v := (4 * qdI (R (5 + 11 * w + 4)))) (ru_V (As := [.int (nI w), .int 10]) (rest := [.int (tkN R k1 (5 + 11 * w + 10) + 1)]) F h ((mu_ne (by omega) _).trans ((mu_ne (by omega) _).trans ((mu_ne (by omega) _).trans hWd.1))) rfl (kw_wire l g (n + 3) (va_up (va_up (va_up c n (some (.inl (g.2.1 0, 2, .inl (obA R w s1 cn (k1 + 1) 1))))) (n + 1) (some (.inl (g.2.1 0, 2, .inl (obA R w s1 cn (k1 + 1) 2))))) (n + 2) (some (.inl (g.2.1 0, 2, .inl (obA R w s1 cn (k1 + 1) 3))))) (((hWd.up (by omega)).up (by omega)).up (by omega)) J (nI w) 10 (v := (4 * qdI (R (5 + 11 * w + 4)))) (wi_10 hw4 h1)) (gV hjl wd_390 wd_391 wd_392 wd_16 wd_393) rfl 2 (by decide +kernel) rfl ⟨Nat.le_of_ble_eq_true rfl, Nat.le_of_ble_eq_true rfl⟩ rfl hl.1 (Nat.le_of_ble_eq_true rfl) ⟨by decide, by decide⟩ dL_observes_233) h (fun H locs h => ?_)
                refine lv_irem hx hb dL_observes_236 (by have g4 := gw.2.2.2.1; exact fun q => qd_440 g4 (by rw [q]; decide)) ?_
                refine lv_istore (lv' := [(9, .int ((tkN R k1 (5 + 11 * w + 10) + 1) - (tkN R k1 (5 + 11 * w + 10) + 1) / (4 * qdI (R (5 + 11 * w + 4))) * (4 * qdI (R (5 + 11 * w + 4))))), (16, .int 2), (17, .int (rdF R w (R (69 + 3 * s1)) (nI 1) cn k1)), (0, .ref (gz g + 0)), (1, .int (nI w)), (2, .int (nI s1)), (3, .int (nI tz)), (4, .int (R 0)), (5, .int (R 2)), (6, .int (R (69 + 3 * s1))), (7, .int 0), (8, .int (tkN R k1 (5 + 11 * w + 9))), (10, .ref (gz g + n)), (11, .ref (gz g + (n + 1))), (12, .ref (gz g + (n + 2))), (13, .int 0), (14, .int (vsI R sc)), (15, .int (nI k1))]) hx hb dL_observes_237 hl (by decide) rfl (fun ls hl => ?_)
                have hl : lv_has ls 20 [(9, .int (tkN R (k1 + 1) (5 + 11 * w + 10))), (16, .int 2), (17, .int (rdF R w (R (69 + 3 * s1)) (nI 1) cn k1)), (0, .ref (gz g + 0)), (1, .int (nI w)), (2, .int (nI s1)), (3, .int (nI tz)), (4, .int (R 0)), (5, .int (R 2)), (6, .int (R (69 + 3 * s1))), (7, .int 0), (8, .int (tkN R k1 (5 + 11 * w + 9))), (10, .ref (gz g + n)), (11, .ref (gz g + (n + 1))), (12, .ref (gz g + (n + 2))), (13, .int 0), (14, .int (vsI R sc)), (15, .int (nI k1))] := by rw [show (tkN R (k1 + 1) (5 + 11 * w + 10) : Int32) = ((tkN R k1 (5 + 11 * w + 10) + 1) - (tkN R k1 (5 + 11 * w + 10) + 1) / (4 * qdI (R (5 + 11 * w + 4))) * (4 * qdI (R (5 + 11 * w + 4)))) from tk_ph J (by omega) hw4 h1]; exact hl
                refine lv_iload hx hb dL_observes_239 (lv_at hl 0 rfl) ?_
                refine lv_if_ne (tgt := 259) hx hb dL_observes_241 (by decide) (fun b_241 => ?_) (fun b_241 => ?_)
                · skip
                  refine lv_iload hx hb dL_observes_259 (lv_at hl 11 rfl) ?_
                  refine lv_istore (lv' := [(8, .int (tkN R k1 (5 + 11 * w + 9))), (9, .int (tkN R (k1 + 1) (5 + 11 * w + 10))), (16, .int 2), (17, .int (rdF R w (R (69 + 3 * s1)) (nI 1) cn k1)), (0, .ref (gz g + 0)), (1, .int (nI w)), (2, .int (nI s1)), (3, .int (nI tz)), (4, .int (R 0)), (5, .int (R 2)), (6, .int (R (69 + 3 * s1))), (7, .int 0), (10, .ref (gz g + n)), (11, .ref (gz g + (n + 1))), (12, .ref (gz g + (n + 2))), (13, .int 0), (14, .int (vsI R sc)), (15, .int (nI k1))]) hx hb dL_observes_261 hl (by decide) rfl (fun ls hl => ?_)
                  have hl : lv_has ls 20 [(8, .int (tkN R (k1 + 1) (5 + 11 * w + 9))), (9, .int (tkN R (k1 + 1) (5 + 11 * w + 10))), (16, .int 2), (17, .int (rdF R w (R (69 + 3 * s1)) (nI 1) cn k1)), (0, .ref (gz g + 0)), (1, .int (nI w)), (2, .int (nI s1)), (3, .int (nI tz)), (4, .int (R 0)), (5, .int (R 2)), (6, .int (R (69 + 3 * s1))), (7, .int 0), (10, .ref (gz g + n)), (11, .ref (gz g + (n + 1))), (12, .ref (gz g + (n + 2))), (13, .int 0), (14, .int (vsI R sc)), (15, .int (nI k1))] := by rw [show (tkN R (k1 + 1) (5 + 11 * w + 9) : Int32) = tkN R k1 (5 + 11 * w + 9) from tk_a1 J (by omega) hw4 h1 b_241]; exact hl
                  refine lv_iinc (v := nI (k1 + 1)) (lv' := [(15, .int (nI (k1 + 1))), (8, .int (tkN R (k1 + 1) (5 + 11 * w + 9))), (9, .int (tkN R (k1 + 1) (5 + 11 * w + 10))), (16, .int 2), (17, .int (rdF R w (R (69 + 3 * s1)) (nI 1) cn k1)), (0, .ref (gz g + 0)), (1, .int (nI w)), (2, .int (nI s1)), (3, .int (nI tz)), (4, .int (R 0)), (5, .int (R 2)), (6, .int (R (69 + 3 * s1))), (7, .int 0), (10, .ref (gz g + n)), (11, .ref (gz g + (n + 1))), (12, .ref (gz g + (n + 2))), (13, .int 0), (14, .int (vsI R sc))]) hx hb dL_observes_263 hl (k := 17) rfl (by exact (nI_succ k1).symm) (by decide) rfl (fun ls hl => ?_)
                  refine lv_goto (tgt := 114) hx hb dL_observes_266 (by decide) ?_
                  exact ih_lt (k1 + 1) (by omega) _ _ _ (by omega) h (lv_sub hl [5, 6, 7, 8, 9, 10, 11, 12, 1, 2, 13, 14, 15, 16, 17, 0] rfl)
                refine lv_iload hx hb dL_observes_244 (lv_at hl 11 rfl) ?_
                refine lv_aload_n hx hb dL_observes_246 rfl (lv_at hl 3 rfl) ?_
                refine lv_iload_n hx hb dL_observes_247 rfl (lv_at hl 4 rfl) ?_
                refine lv_bipush (v := 6) hx hb dL_observes_248 (by decide) ?_
                refine u_iE (v := R (5 + 11 * w + 7)) (ru_V (As := [.int (nI w), .int 6]) (rest := [.int (tkN R k1 (5 + 11 * w + 9))]) F h ((mu_ne (by omega) _).trans ((mu_ne (by omega) _).trans ((mu_ne (by omega) _).trans hWd.1))) rfl (kw_wire l g (n + 3) (va_up (va_up (va_up c n (some (.inl (g.2.1 0, 2, .inl (obA R w s1 cn (k1 + 1) 1))))) (n + 1) (some (.inl (g.2.1 0, 2, .inl (obA R w s1 cn (k1 + 1) 2))))) (n + 2) (some (.inl (g.2.1 0, 2, .inl (obA R w s1 cn (k1 + 1) 3))))) (((hWd.up (by omega)).up (by omega)).up (by omega)) J (nI w) 6 (v := R (5 + 11 * w + 7)) (wi_6 hw4 h1)) (gV hjl wd_390 wd_391 wd_392 wd_16 wd_393) rfl 2 (by decide +kernel) rfl ⟨Nat.le_of_ble_eq_true rfl, Nat.le_of_ble_eq_true rfl⟩ rfl hl.1 (Nat.le_of_ble_eq_true rfl) ⟨by decide, by decide⟩ dL_observes_250) h (fun H locs h => ?_)
                refine u_iE (v := ((tkN R k1 (5 + 11 * w + 9)) * cmI (R (5 + 11 * w + 7)) / 100)) (ru_S (As := [.int (tkN R k1 (5 + 11 * w + 9)), .int (R (5 + 11 * w + 7))]) (rest := []) F h (k_L_calmer l g (n + 3) (va_up (va_up (va_up c n (some (.inl (g.2.1 0, 2, .inl (obA R w s1 cn (k1 + 1) 1))))) (n + 1) (some (.inl (g.2.1 0, 2, .inl (obA R w s1 cn (k1 + 1) 2))))) (n + 2) (some (.inl (g.2.1 0, 2, .inl (obA R w s1 cn (k1 + 1) 3))))) (tkN R k1 (5 + 11 * w + 9)) (R (5 + 11 * w + 7))) (gS hjl wd_511 wd_512 wd_15 wd_513) rfl 2 (by decide +kernel) rfl ⟨Nat.le_of_ble_eq_true rfl, Nat.le_of_ble_eq_true rfl⟩ rfl hl.1 (Nat.le_of_ble_eq_true rfl) ⟨by decide, by decide⟩ dL_observes_253) h (fun H locs h => ?_)
                refine lv_goto (tgt := 261) hx hb dL_observes_256 (by decide) ?_
                refine lv_istore (lv' := [(8, .int ((tkN R k1 (5 + 11 * w + 9)) * cmI (R (5 + 11 * w + 7)) / 100)), (9, .int (tkN R (k1 + 1) (5 + 11 * w + 10))), (16, .int 2), (17, .int (rdF R w (R (69 + 3 * s1)) (nI 1) cn k1)), (0, .ref (gz g + 0)), (1, .int (nI w)), (2, .int (nI s1)), (3, .int (nI tz)), (4, .int (R 0)), (5, .int (R 2)), (6, .int (R (69 + 3 * s1))), (7, .int 0), (10, .ref (gz g + n)), (11, .ref (gz g + (n + 1))), (12, .ref (gz g + (n + 2))), (13, .int 0), (14, .int (vsI R sc)), (15, .int (nI k1))]) hx hb dL_observes_261 hl (by decide) rfl (fun ls hl => ?_)
                have hl : lv_has ls 20 [(8, .int (tkN R (k1 + 1) (5 + 11 * w + 9))), (9, .int (tkN R (k1 + 1) (5 + 11 * w + 10))), (16, .int 2), (17, .int (rdF R w (R (69 + 3 * s1)) (nI 1) cn k1)), (0, .ref (gz g + 0)), (1, .int (nI w)), (2, .int (nI s1)), (3, .int (nI tz)), (4, .int (R 0)), (5, .int (R 2)), (6, .int (R (69 + 3 * s1))), (7, .int 0), (10, .ref (gz g + n)), (11, .ref (gz g + (n + 1))), (12, .ref (gz g + (n + 2))), (13, .int 0), (14, .int (vsI R sc)), (15, .int (nI k1))] := by rw [show (tkN R (k1 + 1) (5 + 11 * w + 9) : Int32) = ((tkN R k1 (5 + 11 * w + 9)) * cmI (R (5 + 11 * w + 7)) / 100) from tk_a0 J (by omega) hw4 h1 b_241]; exact hl
                refine lv_iinc (v := nI (k1 + 1)) (lv' := [(15, .int (nI (k1 + 1))), (8, .int (tkN R (k1 + 1) (5 + 11 * w + 9))), (9, .int (tkN R (k1 + 1) (5 + 11 * w + 10))), (16, .int 2), (17, .int (rdF R w (R (69 + 3 * s1)) (nI 1) cn k1)), (0, .ref (gz g + 0)), (1, .int (nI w)), (2, .int (nI s1)), (3, .int (nI tz)), (4, .int (R 0)), (5, .int (R 2)), (6, .int (R (69 + 3 * s1))), (7, .int 0), (10, .ref (gz g + n)), (11, .ref (gz g + (n + 1))), (12, .ref (gz g + (n + 2))), (13, .int 0), (14, .int (vsI R sc))]) hx hb dL_observes_263 hl (k := 17) rfl (by exact (nI_succ k1).symm) (by decide) rfl (fun ls hl => ?_)
                refine lv_goto (tgt := 114) hx hb dL_observes_266 (by decide) ?_
                exact ih_lt (k1 + 1) (by omega) _ _ _ (by omega) h (lv_sub hl [5, 6, 7, 8, 9, 10, 11, 12, 1, 2, 13, 14, 15, 16, 17, 0] rfl)
              refine lv_aload hx hb dL_observes_189 (lv_at hl 14 rfl) ?_
              refine lv_iload hx hb dL_observes_191 (lv_at hl 1 rfl) ?_
              refine lv_iload hx hb dL_observes_193 (lv_at hl 17 rfl) ?_
              refine lv_if_eq (tgt := 208) hx hb dL_observes_195 (by decide) (fun b_195 => ?_) (fun b_195 => ?_)
              · skip
                refine lv_iload hx hb dL_observes_208 (lv_at hl 0 rfl) ?_
                refine lv_goto (tgt := 218) hx hb dL_observes_210 (by decide) ?_
                refine r_top (w := .int (obA R w s1 cn (k1 + 1) 3 1)) (congrArg Value.int (rm_0 (F := (rdF R w (R (69 + 3 * s1)) (nI 1) cn)) (k := k1) b_195)) ?_
                exact jm1 _ _ _ h (lv_sub hl [0, 1, 2, 3, 4, 5, 6, 7, 8, 9, 10, 11, 12, 13, 14, 15, 16, 17] rfl)
              refine lv_iload hx hb dL_observes_198 (lv_at hl 0 rfl) ?_
              refine lv_aload hx hb dL_observes_200 (lv_at hl 14 rfl) ?_
              refine lv_iload hx hb dL_observes_202 (lv_at hl 1 rfl) ?_
              refine r_ialdN F h (k := 1) (mu_eq _ _ _) (rfl) (by decide) (by decide) dL_observes_204 ?_
              refine r_top (w := .int (obA R w s1 cn k1 3 1)) (congrArg Value.int (upd_no (by decide))) ?_
              refine lv_icmp_le (tgt := 213) hx hb dL_observes_205 (by decide) (fun b_205 => ?_) (fun b_205 => ?_)
              · skip
                refine lv_aload hx hb dL_observes_213 (lv_at hl 14 rfl) ?_
                refine lv_iload hx hb dL_observes_215 (lv_at hl 1 rfl) ?_
                refine r_ialdN F h (k := 1) (mu_eq _ _ _) (rfl) (by decide) (by decide) dL_observes_217 ?_
                refine r_top (w := .int (obA R w s1 cn k1 3 1)) (congrArg Value.int (upd_no (by decide))) ?_
                refine r_top (w := .int (obA R w s1 cn (k1 + 1) 3 1)) (congrArg Value.int (rm_2 (F := (rdF R w (R (69 + 3 * s1)) (nI 1) cn)) (k := k1) b_195 b_205)) ?_
                exact jm1 _ _ _ h (lv_sub hl [0, 1, 2, 3, 4, 5, 6, 7, 8, 9, 10, 11, 12, 13, 14, 15, 16, 17] rfl)
              refine lv_iload hx hb dL_observes_208 (lv_at hl 0 rfl) ?_
              refine lv_goto (tgt := 218) hx hb dL_observes_210 (by decide) ?_
              refine r_top (w := .int (obA R w s1 cn (k1 + 1) 3 1)) (congrArg Value.int (rm_1 (F := (rdF R w (R (69 + 3 * s1)) (nI 1) cn)) (k := k1) b_195 b_205)) ?_
              exact jm1 _ _ _ h (lv_sub hl [0, 1, 2, 3, 4, 5, 6, 7, 8, 9, 10, 11, 12, 13, 14, 15, 16, 17] rfl)
            refine lv_aload hx hb dL_observes_159 (lv_at hl 13 rfl) ?_
            refine lv_iload hx hb dL_observes_161 (lv_at hl 1 rfl) ?_
            refine lv_iload hx hb dL_observes_163 (lv_at hl 17 rfl) ?_
            refine lv_if_eq (tgt := 178) hx hb dL_observes_165 (by decide) (fun b_165 => ?_) (fun b_165 => ?_)
            · skip
              refine lv_iload hx hb dL_observes_178 (lv_at hl 0 rfl) ?_
              refine lv_goto (tgt := 188) hx hb dL_observes_180 (by decide) ?_
              refine r_top (w := .int (obA R w s1 cn (k1 + 1) 2 1)) (congrArg Value.int (rl_0 (F := (rdF R w (R (69 + 3 * s1)) (nI 1) cn)) (k := k1) b_165)) ?_
              exact jl1 _ _ _ h (lv_sub hl [0, 1, 2, 3, 4, 5, 6, 7, 8, 9, 10, 11, 12, 13, 14, 15, 16, 17] rfl)
            refine lv_iload hx hb dL_observes_168 (lv_at hl 0 rfl) ?_
            refine lv_aload hx hb dL_observes_170 (lv_at hl 13 rfl) ?_
            refine lv_iload hx hb dL_observes_172 (lv_at hl 1 rfl) ?_
            refine r_ialdN F h (k := 1) ((mu_ne (by omega) _).trans (mu_eq _ _ _)) (rfl) (by decide) (by decide) dL_observes_174 ?_
            refine r_top (w := .int (obA R w s1 cn k1 2 1)) (congrArg Value.int (upd_no (by decide))) ?_
            refine lv_icmp_ge (tgt := 183) hx hb dL_observes_175 (by decide) (fun b_175 => ?_) (fun b_175 => ?_)
            · skip
              refine lv_aload hx hb dL_observes_183 (lv_at hl 13 rfl) ?_
              refine lv_iload hx hb dL_observes_185 (lv_at hl 1 rfl) ?_
              refine r_ialdN F h (k := 1) ((mu_ne (by omega) _).trans (mu_eq _ _ _)) (rfl) (by decide) (by decide) dL_observes_187 ?_
              refine r_top (w := .int (obA R w s1 cn k1 2 1)) (congrArg Value.int (upd_no (by decide))) ?_
              refine r_top (w := .int (obA R w s1 cn (k1 + 1) 2 1)) (congrArg Value.int (rl_2 (F := (rdF R w (R (69 + 3 * s1)) (nI 1) cn)) (k := k1) b_165 b_175)) ?_
              exact jl1 _ _ _ h (lv_sub hl [0, 1, 2, 3, 4, 5, 6, 7, 8, 9, 10, 11, 12, 13, 14, 15, 16, 17] rfl)
            refine lv_iload hx hb dL_observes_178 (lv_at hl 0 rfl) ?_
            refine lv_goto (tgt := 188) hx hb dL_observes_180 (by decide) ?_
            refine r_top (w := .int (obA R w s1 cn (k1 + 1) 2 1)) (congrArg Value.int (rl_1 (F := (rdF R w (R (69 + 3 * s1)) (nI 1) cn)) (k := k1) b_165 b_175)) ?_
            exact jl1 _ _ _ h (lv_sub hl [0, 1, 2, 3, 4, 5, 6, 7, 8, 9, 10, 11, 12, 13, 14, 15, 16, 17] rfl)
          refine lv_aload hx hb dL_observes_189 (lv_at hl 14 rfl) ?_
          refine lv_iload hx hb dL_observes_191 (lv_at hl 1 rfl) ?_
          refine lv_iload hx hb dL_observes_193 (lv_at hl 17 rfl) ?_
          refine lv_if_eq (tgt := 208) hx hb dL_observes_195 (by decide) (fun b_195 => ?_) (fun b_195 => ?_)
          · skip
            refine lv_iload hx hb dL_observes_208 (lv_at hl 0 rfl) ?_
            refine lv_goto (tgt := 218) hx hb dL_observes_210 (by decide) ?_
            refine r_top (w := .int (obA R w s1 cn (k1 + 1) 3 0)) (congrArg Value.int (rm_0 (F := (rdF R w (R (69 + 3 * s1)) (nI 0) cn)) (k := k1) b_195)) ?_
            exact jm0 _ _ _ h (lv_sub hl [0, 1, 2, 3, 4, 5, 6, 7, 8, 9, 10, 11, 12, 13, 14, 15, 16, 17] rfl)
          refine lv_iload hx hb dL_observes_198 (lv_at hl 0 rfl) ?_
          refine lv_aload hx hb dL_observes_200 (lv_at hl 14 rfl) ?_
          refine lv_iload hx hb dL_observes_202 (lv_at hl 1 rfl) ?_
          refine r_ialdN F h (k := 0) (mu_eq _ _ _) (rfl) (by decide) (by decide) dL_observes_204 ?_
          refine r_top (w := .int (obA R w s1 cn k1 3 0)) (rfl) ?_
          refine lv_icmp_le (tgt := 213) hx hb dL_observes_205 (by decide) (fun b_205 => ?_) (fun b_205 => ?_)
          · skip
            refine lv_aload hx hb dL_observes_213 (lv_at hl 14 rfl) ?_
            refine lv_iload hx hb dL_observes_215 (lv_at hl 1 rfl) ?_
            refine r_ialdN F h (k := 0) (mu_eq _ _ _) (rfl) (by decide) (by decide) dL_observes_217 ?_
            refine r_top (w := .int (obA R w s1 cn k1 3 0)) (rfl) ?_
            refine r_top (w := .int (obA R w s1 cn (k1 + 1) 3 0)) (congrArg Value.int (rm_2 (F := (rdF R w (R (69 + 3 * s1)) (nI 0) cn)) (k := k1) b_195 b_205)) ?_
            exact jm0 _ _ _ h (lv_sub hl [0, 1, 2, 3, 4, 5, 6, 7, 8, 9, 10, 11, 12, 13, 14, 15, 16, 17] rfl)
          refine lv_iload hx hb dL_observes_208 (lv_at hl 0 rfl) ?_
          refine lv_goto (tgt := 218) hx hb dL_observes_210 (by decide) ?_
          refine r_top (w := .int (obA R w s1 cn (k1 + 1) 3 0)) (congrArg Value.int (rm_1 (F := (rdF R w (R (69 + 3 * s1)) (nI 0) cn)) (k := k1) b_195 b_205)) ?_
          exact jm0 _ _ _ h (lv_sub hl [0, 1, 2, 3, 4, 5, 6, 7, 8, 9, 10, 11, 12, 13, 14, 15, 16, 17] rfl)
        refine lv_aload hx hb dL_observes_159 (lv_at hl 13 rfl) ?_
        refine lv_iload hx hb dL_observes_161 (lv_at hl 1 rfl) ?_
        refine lv_iload hx hb dL_observes_163 (lv_at hl 17 rfl) ?_
        refine lv_if_eq (tgt := 178) hx hb dL_observes_165 (by decide) (fun b_165 => ?_) (fun b_165 => ?_)
        · skip
          refine lv_iload hx hb dL_observes_178 (lv_at hl 0 rfl) ?_
          refine lv_goto (tgt := 188) hx hb dL_observes_180 (by decide) ?_
          refine r_top (w := .int (obA R w s1 cn (k1 + 1) 2 0)) (congrArg Value.int (rl_0 (F := (rdF R w (R (69 + 3 * s1)) (nI 0) cn)) (k := k1) b_165)) ?_
          exact jl0 _ _ _ h (lv_sub hl [0, 1, 2, 3, 4, 5, 6, 7, 8, 9, 10, 11, 12, 13, 14, 15, 16, 17] rfl)
        refine lv_iload hx hb dL_observes_168 (lv_at hl 0 rfl) ?_
        refine lv_aload hx hb dL_observes_170 (lv_at hl 13 rfl) ?_
        refine lv_iload hx hb dL_observes_172 (lv_at hl 1 rfl) ?_
        refine r_ialdN F h (k := 0) ((mu_ne (by omega) _).trans (mu_eq _ _ _)) (rfl) (by decide) (by decide) dL_observes_174 ?_
        refine r_top (w := .int (obA R w s1 cn k1 2 0)) (rfl) ?_
        refine lv_icmp_ge (tgt := 183) hx hb dL_observes_175 (by decide) (fun b_175 => ?_) (fun b_175 => ?_)
        · skip
          refine lv_aload hx hb dL_observes_183 (lv_at hl 13 rfl) ?_
          refine lv_iload hx hb dL_observes_185 (lv_at hl 1 rfl) ?_
          refine r_ialdN F h (k := 0) ((mu_ne (by omega) _).trans (mu_eq _ _ _)) (rfl) (by decide) (by decide) dL_observes_187 ?_
          refine r_top (w := .int (obA R w s1 cn k1 2 0)) (rfl) ?_
          refine r_top (w := .int (obA R w s1 cn (k1 + 1) 2 0)) (congrArg Value.int (rl_2 (F := (rdF R w (R (69 + 3 * s1)) (nI 0) cn)) (k := k1) b_165 b_175)) ?_
          exact jl0 _ _ _ h (lv_sub hl [0, 1, 2, 3, 4, 5, 6, 7, 8, 9, 10, 11, 12, 13, 14, 15, 16, 17] rfl)
        refine lv_iload hx hb dL_observes_178 (lv_at hl 0 rfl) ?_
        refine lv_goto (tgt := 188) hx hb dL_observes_180 (by decide) ?_
        refine r_top (w := .int (obA R w s1 cn (k1 + 1) 2 0)) (congrArg Value.int (rl_1 (F := (rdF R w (R (69 + 3 * s1)) (nI 0) cn)) (k := k1) b_165 b_175)) ?_
        exact jl0 _ _ _ h (lv_sub hl [0, 1, 2, 3, 4, 5, 6, 7, 8, 9, 10, 11, 12, 13, 14, 15, 16, 17] rfl)
    exact lt _ 0 (Nat.zero_le _) _ _ _ (Nat.le_refl _) h (lv_sub hl [12, 13, 14, 15, 11, 10, 9, 8, 7, 6, 5, 4, 3, 2, 1, 0] rfl)
  by_cases hv : R (84 + 6 * (4 * s1 + w) + 0) = 0
  · skip
    have h1 : R (5 + 11 * w + 0) = 1 := b01_of (J.b hw4) h0
    have gw := J.wg hw4 h1
    refine lv_aload_n hx hb dL_observes_0 rfl (lv_at hl 0 rfl) ?_
    refine lv_iconst (v := 0) hx hb dL_observes_1 (by decide) ?_
    refine u_iE (v := R 0) (ru_V (As := [.int 0]) (rest := []) F h hWd.1 rfl (kw_count l g n c hWd J 0 (v := R 0) (rfl)) (gV hjl wd_399 wd_400 wd_401 wd_16 wd_402) rfl 1 (by decide +kernel) rfl ⟨Nat.le_of_ble_eq_true rfl, Nat.le_of_ble_eq_true rfl⟩ rfl hl.1 (Nat.le_of_ble_eq_true rfl) ⟨Nat.zero_le _, Nat.zero_le _⟩ dL_observes_2) h (fun H locs h => ?_)
    refine lv_istore (lv' := [(4, .int (R 0)), (0, .ref (gz g + 0)), (1, .int (nI w)), (2, .int (nI s1)), (3, .int (nI tz))]) hx hb dL_observes_5 hl (by decide) rfl (fun ls hl => ?_)
    refine lv_aload_n hx hb dL_observes_7 rfl (lv_at hl 1 rfl) ?_
    refine lv_bipush (v := 7) hx hb dL_observes_8 (by decide) ?_
    refine u_iE (v := R 2) (ru_V (As := [.int 7]) (rest := []) F h hWd.1 rfl (kw_count l g n c hWd J 7 (v := R 2) (rfl)) (gV hjl wd_399 wd_400 wd_401 wd_16 wd_402) rfl 1 (by decide +kernel) rfl ⟨Nat.le_of_ble_eq_true rfl, Nat.le_of_ble_eq_true rfl⟩ rfl hl.1 (Nat.le_of_ble_eq_true rfl) ⟨Nat.zero_le _, Nat.zero_le _⟩ dL_observes_10) h (fun H locs h => ?_)
    refine lv_istore (lv' := [(5, .int (R 2)), (4, .int (R 0)), (0, .ref (gz g + 0)), (1, .int (nI w)), (2, .int (nI s1)), (3, .int (nI tz))]) hx hb dL_observes_13 hl (by decide) rfl (fun ls hl => ?_)
    refine lv_aload_n hx hb dL_observes_15 rfl (lv_at hl 2 rfl) ?_
    refine lv_iload_n hx hb dL_observes_16 rfl (lv_at hl 4 rfl) ?_
    refine lv_iconst (v := 0) hx hb dL_observes_17 (by decide) ?_
    refine u_iE (v := R (69 + 3 * s1)) (ru_V (As := [.int (nI s1), .int 0]) (rest := []) F h hWd.1 rfl (kw_station l g n c hWd J (nI s1) 0 (v := R (69 + 3 * s1)) (st_0 J.s4 J.s5 hs5)) (gV hjl wd_584 wd_585 wd_586 wd_16 wd_587) rfl 2 (by decide +kernel) rfl ⟨Nat.le_of_ble_eq_true rfl, Nat.le_of_ble_eq_true rfl⟩ rfl hl.1 (Nat.le_of_ble_eq_true rfl) ⟨Nat.zero_le _, Nat.zero_le _⟩ dL_observes_18) h (fun H locs h => ?_)
    refine lv_istore (lv' := [(6, .int (R (69 + 3 * s1))), (5, .int (R 2)), (4, .int (R 0)), (0, .ref (gz g + 0)), (1, .int (nI w)), (2, .int (nI s1)), (3, .int (nI tz))]) hx hb dL_observes_21 hl (by decide) rfl (fun ls hl => ?_)
    refine lv_aload_n hx hb dL_observes_23 rfl (lv_at hl 3 rfl) ?_
    refine lv_iload_n hx hb dL_observes_24 rfl (lv_at hl 4 rfl) ?_
    refine lv_iconst (v := 2) hx hb dL_observes_25 (by decide) ?_
    refine u_iE (v := R (5 + 11 * w + 3)) (ru_V (As := [.int (nI w), .int 2]) (rest := []) F h hWd.1 rfl (kw_wire l g n c hWd J (nI w) 2 (v := R (5 + 11 * w + 3)) (wi_2 hw4 h1)) (gV hjl wd_390 wd_391 wd_392 wd_16 wd_393) rfl 2 (by decide +kernel) rfl ⟨Nat.le_of_ble_eq_true rfl, Nat.le_of_ble_eq_true rfl⟩ rfl hl.1 (Nat.le_of_ble_eq_true rfl) ⟨Nat.zero_le _, Nat.zero_le _⟩ dL_observes_26) h (fun H locs h => ?_)
    refine lv_if_ge (tgt := 36) hx hb dL_observes_29 (by decide) (fun b_29 => ?_) (fun b_29 => by first | exact absurd (bt_ge gw.2.2.1 0 (by decide)) b_29 | exact absurd b_29 (bt_ge gw.2.2.1 0 (by decide)))
    refine lv_iload hx hb dL_observes_36 (lv_at hl 0 rfl) ?_
    refine lv_aload_n hx hb dL_observes_38 rfl (lv_at hl 3 rfl) ?_
    refine lv_iload_n hx hb dL_observes_39 rfl (lv_at hl 4 rfl) ?_
    refine lv_iconst (v := 3) hx hb dL_observes_40 (by decide) ?_
    refine u_iE (v := R (5 + 11 * w + 4)) (ru_V (As := [.int (nI w), .int 3]) (rest := [.int (R (69 + 3 * s1))]) F h hWd.1 rfl (kw_wire l g n c hWd J (nI w) 3 (v := R (5 + 11 * w + 4)) (wi_3 hw4 h1)) (gV hjl wd_390 wd_391 wd_392 wd_16 wd_393) rfl 2 (by decide +kernel) rfl ⟨Nat.le_of_ble_eq_true rfl, Nat.le_of_ble_eq_true rfl⟩ rfl hl.1 (Nat.le_of_ble_eq_true rfl) ⟨Nat.zero_le _, Nat.zero_le _⟩ dL_observes_41) h (fun H locs h => ?_)
    refine lv_icmp_le (tgt := 51) hx hb dL_observes_44 (by decide) (fun b_44 => by first | exact absurd b_44 (fun z => hd ((i_le _ _).mp z)) | exact absurd (fun z => hd ((i_le _ _).mp z)) b_44) (fun b_44 => ?_)
    refine lv_iconst (v := 2) hx hb dL_observes_47 (by decide) ?_
    refine lv_goto (tgt := 52) hx hb dL_observes_48 (by decide) ?_
    refine lv_istore (lv' := [(7, .int 2), (6, .int (R (69 + 3 * s1))), (5, .int (R 2)), (4, .int (R 0)), (0, .ref (gz g + 0)), (1, .int (nI w)), (2, .int (nI s1)), (3, .int (nI tz))]) hx hb dL_observes_52 hl (by decide) rfl (fun ls hl => ?_)
    refine lv_aload_n hx hb dL_observes_54 rfl (lv_at hl 4 rfl) ?_
    refine lv_iload_n hx hb dL_observes_55 rfl (lv_at hl 5 rfl) ?_
    refine lv_bipush (v := 8) hx hb dL_observes_56 (by decide) ?_
    refine u_iE (v := tkN R 0 (5 + 11 * w + 9)) (ru_V (As := [.int (nI w), .int 8]) (rest := []) F h hWd.1 rfl (kw_wire l g n c hWd J (nI w) 8 (v := tkN R 0 (5 + 11 * w + 9)) (wi_8 hw4 h1)) (gV hjl wd_390 wd_391 wd_392 wd_16 wd_393) rfl 2 (by decide +kernel) rfl ⟨Nat.le_of_ble_eq_true rfl, Nat.le_of_ble_eq_true rfl⟩ rfl hl.1 (Nat.le_of_ble_eq_true rfl) ⟨Nat.zero_le _, Nat.zero_le _⟩ dL_observes_58) h (fun H locs h => ?_)
    refine lv_istore (lv' := [(8, .int (tkN R 0 (5 + 11 * w + 9))), (7, .int 2), (6, .int (R (69 + 3 * s1))), (5, .int (R 2)), (4, .int (R 0)), (0, .ref (gz g + 0)), (1, .int (nI w)), (2, .int (nI s1)), (3, .int (nI tz))]) hx hb dL_observes_61 hl (by decide) rfl (fun ls hl => ?_)
    refine lv_aload_n hx hb dL_observes_63 rfl (lv_at hl 5 rfl) ?_
    refine lv_iload_n hx hb dL_observes_64 rfl (lv_at hl 6 rfl) ?_
    refine lv_bipush (v := 9) hx hb dL_observes_65 (by decide) ?_
    refine u_iE (v := tkN R 0 (5 + 11 * w + 10)) (ru_V (As := [.int (nI w), .int 9]) (rest := []) F h hWd.1 rfl (kw_wire l g n c hWd J (nI w) 9 (v := tkN R 0 (5 + 11 * w + 10)) (wi_9 hw4 h1)) (gV hjl wd_390 wd_391 wd_392 wd_16 wd_393) rfl 2 (by decide +kernel) rfl ⟨Nat.le_of_ble_eq_true rfl, Nat.le_of_ble_eq_true rfl⟩ rfl hl.1 (Nat.le_of_ble_eq_true rfl) ⟨Nat.zero_le _, Nat.zero_le _⟩ dL_observes_67) h (fun H locs h => ?_)
    refine lv_istore (lv' := [(9, .int (tkN R 0 (5 + 11 * w + 10))), (8, .int (tkN R 0 (5 + 11 * w + 9))), (7, .int 2), (6, .int (R (69 + 3 * s1))), (5, .int (R 2)), (4, .int (R 0)), (0, .ref (gz g + 0)), (1, .int (nI w)), (2, .int (nI s1)), (3, .int (nI tz))]) hx hb dL_observes_70 hl (by decide) rfl (fun ls hl => ?_)
    refine lv_iconst (v := 2) hx hb dL_observes_72 (by decide) ?_
    refine r_newa (atype := .int) (ty := .int) F h (List.mem_cons_of_mem _ wd_244) rfl 0 rfl (fun _ z => z) (N := 2) (a0 := (2, .inl (fun _ => 0))) (vp_cell_i _ _ _) (by decide) (by decide) (by decide) (by decide) (by decide) dL_observes_73 (fun H h => ?_)
    refine lv_astore (lv' := [(10, .ref (gz g + n)), (9, .int (tkN R 0 (5 + 11 * w + 10))), (8, .int (tkN R 0 (5 + 11 * w + 9))), (7, .int 2), (6, .int (R (69 + 3 * s1))), (5, .int (R 2)), (4, .int (R 0)), (0, .ref (gz g + 0)), (1, .int (nI w)), (2, .int (nI s1)), (3, .int (nI tz))]) hx hb dL_observes_75 hl (by decide) rfl (fun ls hl => ?_)
    refine lv_iconst (v := 2) hx hb dL_observes_77 (by decide) ?_
    refine r_newa (atype := .int) (ty := .int) F h (List.mem_cons_of_mem _ wd_244) rfl 0 rfl (fun _ z => z) (N := 2) (a0 := (2, .inl (fun _ => 0))) (vp_cell_i _ _ _) (by decide) (by decide) (by decide) (by decide) (by decide) dL_observes_78 (fun H h => ?_)
    refine lv_astore (lv' := [(11, .ref (gz g + (n + 1))), (10, .ref (gz g + n)), (9, .int (tkN R 0 (5 + 11 * w + 10))), (8, .int (tkN R 0 (5 + 11 * w + 9))), (7, .int 2), (6, .int (R (69 + 3 * s1))), (5, .int (R 2)), (4, .int (R 0)), (0, .ref (gz g + 0)), (1, .int (nI w)), (2, .int (nI s1)), (3, .int (nI tz))]) hx hb dL_observes_80 hl (by decide) rfl (fun ls hl => ?_)
    refine lv_iconst (v := 2) hx hb dL_observes_82 (by decide) ?_
    refine r_newa (atype := .int) (ty := .int) F h (List.mem_cons_of_mem _ wd_244) rfl 0 rfl (fun _ z => z) (N := 2) (a0 := (2, .inl (fun _ => 0))) (vp_cell_i _ _ _) (by decide) (by decide) (by decide) (by decide) (by decide) dL_observes_83 (fun H h => ?_)
    refine lv_astore (lv' := [(12, .ref (gz g + (n + 2))), (11, .ref (gz g + (n + 1))), (10, .ref (gz g + n)), (9, .int (tkN R 0 (5 + 11 * w + 10))), (8, .int (tkN R 0 (5 + 11 * w + 9))), (7, .int 2), (6, .int (R (69 + 3 * s1))), (5, .int (R 2)), (4, .int (R 0)), (0, .ref (gz g + 0)), (1, .int (nI w)), (2, .int (nI s1)), (3, .int (nI tz))]) hx hb dL_observes_85 hl (by decide) rfl (fun ls hl => ?_)
    refine lv_aload_n hx hb dL_observes_87 rfl (lv_at hl 9 rfl) ?_
    refine lv_iload_n hx hb dL_observes_88 rfl (lv_at hl 11 rfl) ?_
    refine lv_iload_n hx hb dL_observes_89 rfl (lv_at hl 10 rfl) ?_
    refine lv_iconst (v := 3) hx hb dL_observes_90 (by decide) ?_
    refine u_iE (v := (-100005)) (ru_V (As := [.int (nI s1), .int (nI w), .int 3]) (rest := []) F h ((mu_ne (by omega) _).trans ((mu_ne (by omega) _).trans ((mu_ne (by omega) _).trans hWd.1))) rfl (kw_observation l g (n + 3) (va_up (va_up (va_up c n (some (.inl (g.2.1 0, 2, .inl (fun _ => 0))))) (n + 1) (some (.inl (g.2.1 0, 2, .inl (fun _ => 0))))) (n + 2) (some (.inl (g.2.1 0, 2, .inl (fun _ => 0))))) (((hWd.up (by omega)).up (by omega)).up (by omega)) J (nI s1) (nI w) 3 (v := (-100005)) (ob_n J.s4 J.s5 hs5 hw4 hv (by decide))) (gV hjl wd_518 wd_519 wd_520 wd_16 wd_521) rfl 3 (by decide +kernel) rfl ⟨Nat.le_of_ble_eq_true rfl, Nat.le_of_ble_eq_true rfl⟩ rfl hl.1 (Nat.le_of_ble_eq_true rfl) ⟨by decide, by decide⟩ dL_observes_91) h (fun H locs h => ?_)
    refine lv_if_lt (tgt := 101) hx hb dL_observes_94 (by decide) (fun b_94 => ?_) (fun b_94 => by first | exact absurd (by decide) b_94 | exact absurd b_94 (by decide))
    refine lv_iconst (v := 1) hx hb dL_observes_101 (by decide) ?_
    refine lv_istore (lv' := [(13, .int 1), (12, .ref (gz g + (n + 2))), (11, .ref (gz g + (n + 1))), (10, .ref (gz g + n)), (9, .int (tkN R 0 (5 + 11 * w + 10))), (8, .int (tkN R 0 (5 + 11 * w + 9))), (7, .int 2), (6, .int (R (69 + 3 * s1))), (5, .int (R 2)), (4, .int (R 0)), (0, .ref (gz g + 0)), (1, .int (nI w)), (2, .int (nI s1)), (3, .int (nI tz))]) hx hb dL_observes_102 hl (by decide) rfl (fun ls hl => ?_)
    refine lv_aload_n hx hb dL_observes_104 rfl (lv_at hl 10 rfl) ?_
    refine lv_iconst (v := 5) hx hb dL_observes_105 (by decide) ?_
    refine u_iE (v := vsI R sc) (ru_V (As := [.int 5]) (rest := []) F h ((mu_ne (by omega) _).trans ((mu_ne (by omega) _).trans ((mu_ne (by omega) _).trans hWd.1))) rfl (kw_count l g (n + 3) (va_up (va_up (va_up c n (some (.inl (g.2.1 0, 2, .inl (fun _ => 0))))) (n + 1) (some (.inl (g.2.1 0, 2, .inl (fun _ => 0))))) (n + 2) (some (.inl (g.2.1 0, 2, .inl (fun _ => 0))))) (((hWd.up (by omega)).up (by omega)).up (by omega)) J 5 (v := vsI R sc) (rfl)) (gV hjl wd_399 wd_400 wd_401 wd_16 wd_402) rfl 1 (by decide +kernel) rfl ⟨Nat.le_of_ble_eq_true rfl, Nat.le_of_ble_eq_true rfl⟩ rfl hl.1 (Nat.le_of_ble_eq_true rfl) ⟨by decide, by decide⟩ dL_observes_106) h (fun H locs h => ?_)
    refine lv_istore (lv' := [(14, .int (vsI R sc)), (13, .int 1), (12, .ref (gz g + (n + 2))), (11, .ref (gz g + (n + 1))), (10, .ref (gz g + n)), (9, .int (tkN R 0 (5 + 11 * w + 10))), (8, .int (tkN R 0 (5 + 11 * w + 9))), (7, .int 2), (6, .int (R (69 + 3 * s1))), (5, .int (R 2)), (4, .int (R 0)), (0, .ref (gz g + 0)), (1, .int (nI w)), (2, .int (nI s1)), (3, .int (nI tz))]) hx hb dL_observes_109 hl (by decide) rfl (fun ls hl => ?_)
    refine lv_iconst (v := 0) hx hb dL_observes_111 (by decide) ?_
    refine lv_istore (lv' := [(15, .int 0), (14, .int (vsI R sc)), (13, .int 1), (12, .ref (gz g + (n + 2))), (11, .ref (gz g + (n + 1))), (10, .ref (gz g + n)), (9, .int (tkN R 0 (5 + 11 * w + 10))), (8, .int (tkN R 0 (5 + 11 * w + 9))), (7, .int 2), (6, .int (R (69 + 3 * s1))), (5, .int (R 2)), (4, .int (R 0)), (0, .ref (gz g + 0)), (1, .int (nI w)), (2, .int (nI s1)), (3, .int (nI tz))]) hx hb dL_observes_112 hl (by decide) rfl (fun ls hl => ?_)
    refine lv_iload hx hb dL_observes_114 (lv_at hl 0 rfl) ?_
    refine lv_iload_n hx hb dL_observes_116 rfl (lv_at hl 15 rfl) ?_
    refine lv_icmp_ge (tgt := 269) hx hb dL_observes_117 (by decide) (fun b_117 => by first | exact absurd b_117 (nI_nle (by omega) (by omega)) | exact absurd (nI_nle (by omega) (by omega)) b_117) (fun b_117 => ?_)
    refine lv_iload hx hb dL_observes_120 (lv_at hl 8 rfl) ?_
    refine lv_if_ne (tgt := 269) hx hb dL_observes_122 (by decide) (fun b_122 => ?_) (fun b_122 => by first | exact absurd (by decide) b_122 | exact absurd b_122 (by decide))
    refine lv_aload hx hb dL_observes_269 (lv_at hl 3 rfl) ?_
    refine lv_iconst (v := 0) hx hb dL_observes_271 (by decide) ?_
    refine r_ialdN F h (k := 0) (mu_eq _ _ _) (rfl) (by omega) (by decide) dL_observes_272 ?_
    refine lv_aload hx hb dL_observes_273 (lv_at hl 4 rfl) ?_
    refine lv_iconst (v := 0) hx hb dL_observes_275 (by decide) ?_
    refine r_ialdN F h (k := 0) ((mu_ne (by omega) _).trans (mu_eq _ _ _)) (rfl) (by omega) (by decide) dL_observes_276 ?_
    refine lv_isub hx hb dL_observes_277 ?_
    refine lv_aload hx hb dL_observes_278 (lv_at hl 3 rfl) ?_
    refine lv_iconst (v := 1) hx hb dL_observes_280 (by decide) ?_
    refine r_ialdN F h (k := 1) (mu_eq _ _ _) (rfl) (by omega) (by decide) dL_observes_281 ?_
    refine lv_aload hx hb dL_observes_282 (lv_at hl 4 rfl) ?_
    refine lv_iconst (v := 1) hx hb dL_observes_284 (by decide) ?_
    refine r_ialdN F h (k := 1) ((mu_ne (by omega) _).trans (mu_eq _ _ _)) (rfl) (by omega) (by decide) dL_observes_285 ?_
    refine lv_isub hx hb dL_observes_286 ?_
    refine lv_icmp_le (tgt := 302) hx hb dL_observes_287 (by decide) (fun b_287 => ?_) (fun b_287 => by first | exact absurd (by decide) b_287 | exact absurd b_287 (by decide))
    refine lv_aload hx hb dL_observes_302 (lv_at hl 3 rfl) ?_
    refine lv_iconst (v := 1) hx hb dL_observes_304 (by decide) ?_
    refine r_ialdN F h (k := 1) (mu_eq _ _ _) (rfl) (by omega) (by decide) dL_observes_305 ?_
    refine lv_aload hx hb dL_observes_306 (lv_at hl 4 rfl) ?_
    refine lv_iconst (v := 1) hx hb dL_observes_308 (by decide) ?_
    refine r_ialdN F h (k := 1) ((mu_ne (by omega) _).trans (mu_eq _ _ _)) (rfl) (by omega) (by decide) dL_observes_309 ?_
    refine lv_isub hx hb dL_observes_310 ?_
    refine lv_istore (lv' := [(15, .int (((fun _ => 0) 1) - ((fun _ => 0) 1))), (14, .int (vsI R sc)), (13, .int 1), (12, .ref (gz g + (n + 2))), (11, .ref (gz g + (n + 1))), (10, .ref (gz g + n)), (9, .int (tkN R 0 (5 + 11 * w + 10))), (8, .int (tkN R 0 (5 + 11 * w + 9))), (7, .int 2), (6, .int (R (69 + 3 * s1))), (5, .int (R 2)), (4, .int (R 0)), (0, .ref (gz g + 0)), (1, .int (nI w)), (2, .int (nI s1)), (3, .int (nI tz))]) hx hb dL_observes_311 hl (by decide) rfl (fun ls hl => ?_)
    refine lv_aload_n hx hb dL_observes_313 rfl (lv_at hl 12 rfl) ?_
    refine lv_iload_n hx hb dL_observes_314 rfl (lv_at hl 13 rfl) ?_
    refine lv_iload_n hx hb dL_observes_315 rfl (lv_at hl 14 rfl) ?_
    refine lv_iload_n hx hb dL_observes_316 rfl (lv_at hl 15 rfl) ?_
    have hWua5 : Wd g (va_up (va_up (va_up c n (some (.inl (g.2.1 0, 2, .inl (fun _ => 0))))) (n + 1) (some (.inl (g.2.1 0, 2, .inl (fun _ => 0))))) (n + 2) (some (.inl (g.2.1 0, 2, .inl (fun _ => 0))))) lh rs R hq := (((hWd.up (by omega)).up (by omega)).up (by omega))
    refine u_i (ru_V (As := [.int (nI w), .int (nI s1), .int (nI tz)]) (rest := []) F h ((mu_ne (by omega) _).trans ((mu_ne (by omega) _).trans ((mu_ne (by omega) _).trans hWd.1))) rfl (k_X7_observe l g (n + 3) (va_up (va_up (va_up c n (some (.inl (g.2.1 0, 2, .inl (fun _ => 0))))) (n + 1) (some (.inl (g.2.1 0, 2, .inl (fun _ => 0))))) (n + 2) (some (.inl (g.2.1 0, 2, .inl (fun _ => 0))))) lh 0 rs hWua5.1 R hWua5.2.1 hWua5.2.2.2.2 hq hWua5.2.2.1 J.wb (nI w) (nI s1) (nI tz) sc cn J.s4 J.s5 J.c3 J.c5 (by omega)) (gV hjl wd_610 wd_611 wd_612 wd_16 wd_613) rfl 3 (by decide +kernel) rfl ⟨Nat.le_of_ble_eq_true rfl, Nat.le_of_ble_eq_true rfl⟩ rfl hl.1 (Nat.le_of_ble_eq_true rfl) ⟨by decide, by decide⟩ dL_observes_317) h (fun ra5 na5 ca5 H locs hp h => ?_)
    obtain ⟨hna5, hxa5, hWa5, hFa5⟩ := paW hp hWua5 (by omega) (ob_r2 J hz1 hz6 hw4 h1 hs5 (fun z => hd ((i_le _ _).mp z))) (hWua5).2.2.2.2
    subst hxa5
    refine lv_istore (lv' := [(16, .int (-100003)), (15, .int (((fun _ => 0) 1) - ((fun _ => 0) 1))), (14, .int (vsI R sc)), (13, .int 1), (12, .ref (gz g + (n + 2))), (11, .ref (gz g + (n + 1))), (10, .ref (gz g + n)), (9, .int (tkN R 0 (5 + 11 * w + 10))), (8, .int (tkN R 0 (5 + 11 * w + 9))), (7, .int 2), (6, .int (R (69 + 3 * s1))), (5, .int (R 2)), (4, .int (R 0)), (0, .ref (gz g + 0)), (1, .int (nI w)), (2, .int (nI s1)), (3, .int (nI tz))]) hx hb dL_observes_320 hl (by decide) rfl (fun ls hl => ?_)
    refine lv_iload hx hb dL_observes_322 (lv_at hl 9 rfl) ?_
    refine lv_if_le (tgt := 361) hx hb dL_observes_324 (by decide) (fun b_324 => by first | exact absurd b_324 (by decide) | exact absurd (by decide) b_324) (fun b_324 => ?_)
    refine lv_iload hx hb dL_observes_327 (lv_at hl 0 rfl) ?_
    refine lv_ldc (v := (-100003)) hx hb F.2.2.2.1 (F.2.2.2.2.1 (Cond.constant RL 74 (-100003)) (List.mem_cons_of_mem _ wd_660)) dL_observes_329 ?_
    refine lv_icmp_ne (tgt := 359) hx hb dL_observes_331 (by decide) (fun b_331 => by first | exact absurd b_331 (by decide) | exact absurd (by decide) b_331) (fun b_331 => ?_)
    refine lv_aload_n hx hb dL_observes_334 rfl (lv_at hl 13 rfl) ?_
    refine lv_bipush (v := 8) hx hb dL_observes_335 (by decide) ?_
    refine u_iE (v := 2) (ru_V (As := [.int 8]) (rest := []) F h hWa5.1 rfl (kw_count l g na5 ca5 hWa5 J 8 (v := 2) (rfl)) (gV hjl wd_399 wd_400 wd_401 wd_16 wd_402) rfl 1 (by decide +kernel) rfl ⟨Nat.le_of_ble_eq_true rfl, Nat.le_of_ble_eq_true rfl⟩ rfl hl.1 (Nat.le_of_ble_eq_true rfl) ⟨by decide, by decide⟩ dL_observes_337) h (fun H locs h => ?_)
    refine lv_iload hx hb dL_observes_340 (lv_at hl 9 rfl) ?_
    refine lv_icmp_ne (tgt := 359) hx hb dL_observes_342 (by decide) (fun b_342 => by first | exact absurd b_342 (by decide) | exact absurd (by decide) b_342) (fun b_342 => ?_)
    refine lv_aload_n hx hb dL_observes_345 rfl (lv_at hl 13 rfl) ?_
    refine lv_iconst (v := 0) hx hb dL_observes_346 (by decide) ?_
    refine u_iE (v := R 0) (ru_V (As := [.int 0]) (rest := []) F h hWa5.1 rfl (kw_count l g na5 ca5 hWa5 J 0 (v := R 0) (rfl)) (gV hjl wd_399 wd_400 wd_401 wd_16 wd_402) rfl 1 (by decide +kernel) rfl ⟨Nat.le_of_ble_eq_true rfl, Nat.le_of_ble_eq_true rfl⟩ rfl hl.1 (Nat.le_of_ble_eq_true rfl) ⟨by decide, by decide⟩ dL_observes_347) h (fun H locs h => ?_)
    refine lv_iload hx hb dL_observes_350 (lv_at hl 12 rfl) ?_
    refine lv_icmp_ne (tgt := 359) hx hb dL_observes_352 (by decide) (fun b_352 => by first | exact absurd b_352 (rfl) | exact absurd (rfl) b_352) (fun b_352 => ?_)
    refine lv_iconst (v := 1) hx hb dL_observes_355 (by decide) ?_
    refine lv_goto (tgt := 360) hx hb dL_observes_356 (by decide) ?_
    exact ret_z F h (by decide) (by decide) (by decide) dL_observes_360 (⟨rfl, by omega, _, _, _, _, hWa5, J.le (by omega)⟩)
  refine lv_aload_n hx hb dL_observes_0 rfl (lv_at hl 0 rfl) ?_
  refine lv_iconst (v := 0) hx hb dL_observes_1 (by decide) ?_
  refine u_iE (v := R 0) (ru_V (As := [.int 0]) (rest := []) F h hWd.1 rfl (kw_count l g n c hWd J 0 (v := R 0) (rfl)) (gV hjl wd_399 wd_400 wd_401 wd_16 wd_402) rfl 1 (by decide +kernel) rfl ⟨Nat.le_of_ble_eq_true rfl, Nat.le_of_ble_eq_true rfl⟩ rfl hl.1 (Nat.le_of_ble_eq_true rfl) ⟨Nat.zero_le _, Nat.zero_le _⟩ dL_observes_2) h (fun H locs h => ?_)
  refine lv_istore (lv' := [(4, .int (R 0)), (0, .ref (gz g + 0)), (1, .int (nI w)), (2, .int (nI s1)), (3, .int (nI tz))]) hx hb dL_observes_5 hl (by decide) rfl (fun ls hl => ?_)
  refine lv_aload_n hx hb dL_observes_7 rfl (lv_at hl 1 rfl) ?_
  refine lv_bipush (v := 7) hx hb dL_observes_8 (by decide) ?_
  refine u_iE (v := R 2) (ru_V (As := [.int 7]) (rest := []) F h hWd.1 rfl (kw_count l g n c hWd J 7 (v := R 2) (rfl)) (gV hjl wd_399 wd_400 wd_401 wd_16 wd_402) rfl 1 (by decide +kernel) rfl ⟨Nat.le_of_ble_eq_true rfl, Nat.le_of_ble_eq_true rfl⟩ rfl hl.1 (Nat.le_of_ble_eq_true rfl) ⟨Nat.zero_le _, Nat.zero_le _⟩ dL_observes_10) h (fun H locs h => ?_)
  refine lv_istore (lv' := [(5, .int (R 2)), (4, .int (R 0)), (0, .ref (gz g + 0)), (1, .int (nI w)), (2, .int (nI s1)), (3, .int (nI tz))]) hx hb dL_observes_13 hl (by decide) rfl (fun ls hl => ?_)
  refine lv_aload_n hx hb dL_observes_15 rfl (lv_at hl 2 rfl) ?_
  refine lv_iload_n hx hb dL_observes_16 rfl (lv_at hl 4 rfl) ?_
  refine lv_iconst (v := 0) hx hb dL_observes_17 (by decide) ?_
  refine u_iE (v := R (69 + 3 * s1)) (ru_V (As := [.int (nI s1), .int 0]) (rest := []) F h hWd.1 rfl (kw_station l g n c hWd J (nI s1) 0 (v := R (69 + 3 * s1)) (st_0 J.s4 J.s5 hs5)) (gV hjl wd_584 wd_585 wd_586 wd_16 wd_587) rfl 2 (by decide +kernel) rfl ⟨Nat.le_of_ble_eq_true rfl, Nat.le_of_ble_eq_true rfl⟩ rfl hl.1 (Nat.le_of_ble_eq_true rfl) ⟨Nat.zero_le _, Nat.zero_le _⟩ dL_observes_18) h (fun H locs h => ?_)
  refine lv_istore (lv' := [(6, .int (R (69 + 3 * s1))), (5, .int (R 2)), (4, .int (R 0)), (0, .ref (gz g + 0)), (1, .int (nI w)), (2, .int (nI s1)), (3, .int (nI tz))]) hx hb dL_observes_21 hl (by decide) rfl (fun ls hl => ?_)
  refine lv_aload_n hx hb dL_observes_23 rfl (lv_at hl 3 rfl) ?_
  refine lv_iload_n hx hb dL_observes_24 rfl (lv_at hl 4 rfl) ?_
  refine lv_iconst (v := 2) hx hb dL_observes_25 (by decide) ?_
  refine u_iE (v := R (5 + 11 * w + 3)) (ru_V (As := [.int (nI w), .int 2]) (rest := []) F h hWd.1 rfl (kw_wire l g n c hWd J (nI w) 2 (v := R (5 + 11 * w + 3)) (wi_2 hw4 h1)) (gV hjl wd_390 wd_391 wd_392 wd_16 wd_393) rfl 2 (by decide +kernel) rfl ⟨Nat.le_of_ble_eq_true rfl, Nat.le_of_ble_eq_true rfl⟩ rfl hl.1 (Nat.le_of_ble_eq_true rfl) ⟨Nat.zero_le _, Nat.zero_le _⟩ dL_observes_26) h (fun H locs h => ?_)
  refine lv_if_ge (tgt := 36) hx hb dL_observes_29 (by decide) (fun b_29 => ?_) (fun b_29 => by first | exact absurd (bt_ge gw.2.2.1 0 (by decide)) b_29 | exact absurd b_29 (bt_ge gw.2.2.1 0 (by decide)))
  refine lv_iload hx hb dL_observes_36 (lv_at hl 0 rfl) ?_
  refine lv_aload_n hx hb dL_observes_38 rfl (lv_at hl 3 rfl) ?_
  refine lv_iload_n hx hb dL_observes_39 rfl (lv_at hl 4 rfl) ?_
  refine lv_iconst (v := 3) hx hb dL_observes_40 (by decide) ?_
  refine u_iE (v := R (5 + 11 * w + 4)) (ru_V (As := [.int (nI w), .int 3]) (rest := [.int (R (69 + 3 * s1))]) F h hWd.1 rfl (kw_wire l g n c hWd J (nI w) 3 (v := R (5 + 11 * w + 4)) (wi_3 hw4 h1)) (gV hjl wd_390 wd_391 wd_392 wd_16 wd_393) rfl 2 (by decide +kernel) rfl ⟨Nat.le_of_ble_eq_true rfl, Nat.le_of_ble_eq_true rfl⟩ rfl hl.1 (Nat.le_of_ble_eq_true rfl) ⟨Nat.zero_le _, Nat.zero_le _⟩ dL_observes_41) h (fun H locs h => ?_)
  refine lv_icmp_le (tgt := 51) hx hb dL_observes_44 (by decide) (fun b_44 => by first | exact absurd b_44 (fun z => hd ((i_le _ _).mp z)) | exact absurd (fun z => hd ((i_le _ _).mp z)) b_44) (fun b_44 => ?_)
  refine lv_iconst (v := 2) hx hb dL_observes_47 (by decide) ?_
  refine lv_goto (tgt := 52) hx hb dL_observes_48 (by decide) ?_
  refine lv_istore (lv' := [(7, .int 2), (6, .int (R (69 + 3 * s1))), (5, .int (R 2)), (4, .int (R 0)), (0, .ref (gz g + 0)), (1, .int (nI w)), (2, .int (nI s1)), (3, .int (nI tz))]) hx hb dL_observes_52 hl (by decide) rfl (fun ls hl => ?_)
  refine lv_aload_n hx hb dL_observes_54 rfl (lv_at hl 4 rfl) ?_
  refine lv_iload_n hx hb dL_observes_55 rfl (lv_at hl 5 rfl) ?_
  refine lv_bipush (v := 8) hx hb dL_observes_56 (by decide) ?_
  refine u_iE (v := tkN R 0 (5 + 11 * w + 9)) (ru_V (As := [.int (nI w), .int 8]) (rest := []) F h hWd.1 rfl (kw_wire l g n c hWd J (nI w) 8 (v := tkN R 0 (5 + 11 * w + 9)) (wi_8 hw4 h1)) (gV hjl wd_390 wd_391 wd_392 wd_16 wd_393) rfl 2 (by decide +kernel) rfl ⟨Nat.le_of_ble_eq_true rfl, Nat.le_of_ble_eq_true rfl⟩ rfl hl.1 (Nat.le_of_ble_eq_true rfl) ⟨Nat.zero_le _, Nat.zero_le _⟩ dL_observes_58) h (fun H locs h => ?_)
  refine lv_istore (lv' := [(8, .int (tkN R 0 (5 + 11 * w + 9))), (7, .int 2), (6, .int (R (69 + 3 * s1))), (5, .int (R 2)), (4, .int (R 0)), (0, .ref (gz g + 0)), (1, .int (nI w)), (2, .int (nI s1)), (3, .int (nI tz))]) hx hb dL_observes_61 hl (by decide) rfl (fun ls hl => ?_)
  refine lv_aload_n hx hb dL_observes_63 rfl (lv_at hl 5 rfl) ?_
  refine lv_iload_n hx hb dL_observes_64 rfl (lv_at hl 6 rfl) ?_
  refine lv_bipush (v := 9) hx hb dL_observes_65 (by decide) ?_
  refine u_iE (v := tkN R 0 (5 + 11 * w + 10)) (ru_V (As := [.int (nI w), .int 9]) (rest := []) F h hWd.1 rfl (kw_wire l g n c hWd J (nI w) 9 (v := tkN R 0 (5 + 11 * w + 10)) (wi_9 hw4 h1)) (gV hjl wd_390 wd_391 wd_392 wd_16 wd_393) rfl 2 (by decide +kernel) rfl ⟨Nat.le_of_ble_eq_true rfl, Nat.le_of_ble_eq_true rfl⟩ rfl hl.1 (Nat.le_of_ble_eq_true rfl) ⟨Nat.zero_le _, Nat.zero_le _⟩ dL_observes_67) h (fun H locs h => ?_)
  refine lv_istore (lv' := [(9, .int (tkN R 0 (5 + 11 * w + 10))), (8, .int (tkN R 0 (5 + 11 * w + 9))), (7, .int 2), (6, .int (R (69 + 3 * s1))), (5, .int (R 2)), (4, .int (R 0)), (0, .ref (gz g + 0)), (1, .int (nI w)), (2, .int (nI s1)), (3, .int (nI tz))]) hx hb dL_observes_70 hl (by decide) rfl (fun ls hl => ?_)
  refine lv_iconst (v := 2) hx hb dL_observes_72 (by decide) ?_
  refine r_newa (atype := .int) (ty := .int) F h (List.mem_cons_of_mem _ wd_244) rfl 0 rfl (fun _ z => z) (N := 2) (a0 := (2, .inl (fun _ => 0))) (vp_cell_i _ _ _) (by decide) (by decide) (by decide) (by decide) (by decide) dL_observes_73 (fun H h => ?_)
  refine lv_astore (lv' := [(10, .ref (gz g + n)), (9, .int (tkN R 0 (5 + 11 * w + 10))), (8, .int (tkN R 0 (5 + 11 * w + 9))), (7, .int 2), (6, .int (R (69 + 3 * s1))), (5, .int (R 2)), (4, .int (R 0)), (0, .ref (gz g + 0)), (1, .int (nI w)), (2, .int (nI s1)), (3, .int (nI tz))]) hx hb dL_observes_75 hl (by decide) rfl (fun ls hl => ?_)
  refine lv_iconst (v := 2) hx hb dL_observes_77 (by decide) ?_
  refine r_newa (atype := .int) (ty := .int) F h (List.mem_cons_of_mem _ wd_244) rfl 0 rfl (fun _ z => z) (N := 2) (a0 := (2, .inl (fun _ => 0))) (vp_cell_i _ _ _) (by decide) (by decide) (by decide) (by decide) (by decide) dL_observes_78 (fun H h => ?_)
  refine lv_astore (lv' := [(11, .ref (gz g + (n + 1))), (10, .ref (gz g + n)), (9, .int (tkN R 0 (5 + 11 * w + 10))), (8, .int (tkN R 0 (5 + 11 * w + 9))), (7, .int 2), (6, .int (R (69 + 3 * s1))), (5, .int (R 2)), (4, .int (R 0)), (0, .ref (gz g + 0)), (1, .int (nI w)), (2, .int (nI s1)), (3, .int (nI tz))]) hx hb dL_observes_80 hl (by decide) rfl (fun ls hl => ?_)
  refine lv_iconst (v := 2) hx hb dL_observes_82 (by decide) ?_
  refine r_newa (atype := .int) (ty := .int) F h (List.mem_cons_of_mem _ wd_244) rfl 0 rfl (fun _ z => z) (N := 2) (a0 := (2, .inl (fun _ => 0))) (vp_cell_i _ _ _) (by decide) (by decide) (by decide) (by decide) (by decide) dL_observes_83 (fun H h => ?_)
  refine lv_astore (lv' := [(12, .ref (gz g + (n + 2))), (11, .ref (gz g + (n + 1))), (10, .ref (gz g + n)), (9, .int (tkN R 0 (5 + 11 * w + 10))), (8, .int (tkN R 0 (5 + 11 * w + 9))), (7, .int 2), (6, .int (R (69 + 3 * s1))), (5, .int (R 2)), (4, .int (R 0)), (0, .ref (gz g + 0)), (1, .int (nI w)), (2, .int (nI s1)), (3, .int (nI tz))]) hx hb dL_observes_85 hl (by decide) rfl (fun ls hl => ?_)
  refine lv_aload_n hx hb dL_observes_87 rfl (lv_at hl 9 rfl) ?_
  refine lv_iload_n hx hb dL_observes_88 rfl (lv_at hl 11 rfl) ?_
  refine lv_iload_n hx hb dL_observes_89 rfl (lv_at hl 10 rfl) ?_
  refine lv_iconst (v := 3) hx hb dL_observes_90 (by decide) ?_
  refine u_iE (v := R (84 + 6 * (4 * s1 + w) + 4)) (ru_V (As := [.int (nI s1), .int (nI w), .int 3]) (rest := []) F h ((mu_ne (by omega) _).trans ((mu_ne (by omega) _).trans ((mu_ne (by omega) _).trans hWd.1))) rfl (kw_observation l g (n + 3) (va_up (va_up (va_up c n (some (.inl (g.2.1 0, 2, .inl (fun _ => 0))))) (n + 1) (some (.inl (g.2.1 0, 2, .inl (fun _ => 0))))) (n + 2) (some (.inl (g.2.1 0, 2, .inl (fun _ => 0))))) (((hWd.up (by omega)).up (by omega)).up (by omega)) J (nI s1) (nI w) 3 (v := R (84 + 6 * (4 * s1 + w) + 4)) (ob_3 J.s4 J.s5 hs5 hw4 hv)) (gV hjl wd_518 wd_519 wd_520 wd_16 wd_521) rfl 3 (by decide +kernel) rfl ⟨Nat.le_of_ble_eq_true rfl, Nat.le_of_ble_eq_true rfl⟩ rfl hl.1 (Nat.le_of_ble_eq_true rfl) ⟨by decide, by decide⟩ dL_observes_91) h (fun H locs h => ?_)
  refine lv_if_lt (tgt := 101) hx hb dL_observes_94 (by decide) (fun b_94 => by first | exact absurd b_94 (i_nlt (bt_ge (J.v hs5 hw4 (b01_of (J.ob (by omega) hw4) hv)).2.2.1 0 (by decide))) | exact absurd (i_nlt (bt_ge (J.v hs5 hw4 (b01_of (J.ob (by omega) hw4) hv)).2.2.1 0 (by decide))) b_94) (fun b_94 => ?_)
  refine lv_iconst (v := 0) hx hb dL_observes_97 (by decide) ?_
  refine lv_goto (tgt := 102) hx hb dL_observes_98 (by decide) ?_
  refine lv_istore (lv' := [(13, .int 0), (12, .ref (gz g + (n + 2))), (11, .ref (gz g + (n + 1))), (10, .ref (gz g + n)), (9, .int (tkN R 0 (5 + 11 * w + 10))), (8, .int (tkN R 0 (5 + 11 * w + 9))), (7, .int 2), (6, .int (R (69 + 3 * s1))), (5, .int (R 2)), (4, .int (R 0)), (0, .ref (gz g + 0)), (1, .int (nI w)), (2, .int (nI s1)), (3, .int (nI tz))]) hx hb dL_observes_102 hl (by decide) rfl (fun ls hl => ?_)
  refine lv_aload_n hx hb dL_observes_104 rfl (lv_at hl 10 rfl) ?_
  refine lv_iconst (v := 5) hx hb dL_observes_105 (by decide) ?_
  refine u_iE (v := vsI R sc) (ru_V (As := [.int 5]) (rest := []) F h ((mu_ne (by omega) _).trans ((mu_ne (by omega) _).trans ((mu_ne (by omega) _).trans hWd.1))) rfl (kw_count l g (n + 3) (va_up (va_up (va_up c n (some (.inl (g.2.1 0, 2, .inl (fun _ => 0))))) (n + 1) (some (.inl (g.2.1 0, 2, .inl (fun _ => 0))))) (n + 2) (some (.inl (g.2.1 0, 2, .inl (fun _ => 0))))) (((hWd.up (by omega)).up (by omega)).up (by omega)) J 5 (v := vsI R sc) (rfl)) (gV hjl wd_399 wd_400 wd_401 wd_16 wd_402) rfl 1 (by decide +kernel) rfl ⟨Nat.le_of_ble_eq_true rfl, Nat.le_of_ble_eq_true rfl⟩ rfl hl.1 (Nat.le_of_ble_eq_true rfl) ⟨by decide, by decide⟩ dL_observes_106) h (fun H locs h => ?_)
  refine lv_istore (lv' := [(14, .int (vsI R sc)), (13, .int 0), (12, .ref (gz g + (n + 2))), (11, .ref (gz g + (n + 1))), (10, .ref (gz g + n)), (9, .int (tkN R 0 (5 + 11 * w + 10))), (8, .int (tkN R 0 (5 + 11 * w + 9))), (7, .int 2), (6, .int (R (69 + 3 * s1))), (5, .int (R 2)), (4, .int (R 0)), (0, .ref (gz g + 0)), (1, .int (nI w)), (2, .int (nI s1)), (3, .int (nI tz))]) hx hb dL_observes_109 hl (by decide) rfl (fun ls hl => ?_)
  refine lv_iconst (v := 0) hx hb dL_observes_111 (by decide) ?_
  refine lv_istore (lv' := [(15, .int 0), (14, .int (vsI R sc)), (13, .int 0), (12, .ref (gz g + (n + 2))), (11, .ref (gz g + (n + 1))), (10, .ref (gz g + n)), (9, .int (tkN R 0 (5 + 11 * w + 10))), (8, .int (tkN R 0 (5 + 11 * w + 9))), (7, .int 2), (6, .int (R (69 + 3 * s1))), (5, .int (R 2)), (4, .int (R 0)), (0, .ref (gz g + 0)), (1, .int (nI w)), (2, .int (nI s1)), (3, .int (nI tz))]) hx hb dL_observes_112 hl (by decide) rfl (fun ls hl => ?_)
  refine lv_iload hx hb dL_observes_114 (lv_at hl 0 rfl) ?_
  refine lv_iload_n hx hb dL_observes_116 rfl (lv_at hl 15 rfl) ?_
  refine lv_icmp_ge (tgt := 269) hx hb dL_observes_117 (by decide) (fun b_117 => by first | exact absurd b_117 (nI_nle (by omega) (by omega)) | exact absurd (nI_nle (by omega) (by omega)) b_117) (fun b_117 => ?_)
  refine lv_iload hx hb dL_observes_120 (lv_at hl 8 rfl) ?_
  refine lv_if_ne (tgt := 269) hx hb dL_observes_122 (by decide) (fun b_122 => ?_) (fun b_122 => by first | exact absurd (by decide) b_122 | exact absurd b_122 (by decide))
  refine lv_aload hx hb dL_observes_269 (lv_at hl 3 rfl) ?_
  refine lv_iconst (v := 0) hx hb dL_observes_271 (by decide) ?_
  refine r_ialdN F h (k := 0) (mu_eq _ _ _) (rfl) (by omega) (by decide) dL_observes_272 ?_
  refine lv_aload hx hb dL_observes_273 (lv_at hl 4 rfl) ?_
  refine lv_iconst (v := 0) hx hb dL_observes_275 (by decide) ?_
  refine r_ialdN F h (k := 0) ((mu_ne (by omega) _).trans (mu_eq _ _ _)) (rfl) (by omega) (by decide) dL_observes_276 ?_
  refine lv_isub hx hb dL_observes_277 ?_
  refine lv_aload hx hb dL_observes_278 (lv_at hl 3 rfl) ?_
  refine lv_iconst (v := 1) hx hb dL_observes_280 (by decide) ?_
  refine r_ialdN F h (k := 1) (mu_eq _ _ _) (rfl) (by omega) (by decide) dL_observes_281 ?_
  refine lv_aload hx hb dL_observes_282 (lv_at hl 4 rfl) ?_
  refine lv_iconst (v := 1) hx hb dL_observes_284 (by decide) ?_
  refine r_ialdN F h (k := 1) ((mu_ne (by omega) _).trans (mu_eq _ _ _)) (rfl) (by omega) (by decide) dL_observes_285 ?_
  refine lv_isub hx hb dL_observes_286 ?_
  refine lv_icmp_le (tgt := 302) hx hb dL_observes_287 (by decide) (fun b_287 => ?_) (fun b_287 => by first | exact absurd (by decide) b_287 | exact absurd b_287 (by decide))
  refine lv_aload hx hb dL_observes_302 (lv_at hl 3 rfl) ?_
  refine lv_iconst (v := 1) hx hb dL_observes_304 (by decide) ?_
  refine r_ialdN F h (k := 1) (mu_eq _ _ _) (rfl) (by omega) (by decide) dL_observes_305 ?_
  refine lv_aload hx hb dL_observes_306 (lv_at hl 4 rfl) ?_
  refine lv_iconst (v := 1) hx hb dL_observes_308 (by decide) ?_
  refine r_ialdN F h (k := 1) ((mu_ne (by omega) _).trans (mu_eq _ _ _)) (rfl) (by omega) (by decide) dL_observes_309 ?_
  refine lv_isub hx hb dL_observes_310 ?_
  refine lv_istore (lv' := [(15, .int (((fun _ => 0) 1) - ((fun _ => 0) 1))), (14, .int (vsI R sc)), (13, .int 0), (12, .ref (gz g + (n + 2))), (11, .ref (gz g + (n + 1))), (10, .ref (gz g + n)), (9, .int (tkN R 0 (5 + 11 * w + 10))), (8, .int (tkN R 0 (5 + 11 * w + 9))), (7, .int 2), (6, .int (R (69 + 3 * s1))), (5, .int (R 2)), (4, .int (R 0)), (0, .ref (gz g + 0)), (1, .int (nI w)), (2, .int (nI s1)), (3, .int (nI tz))]) hx hb dL_observes_311 hl (by decide) rfl (fun ls hl => ?_)
  refine lv_aload_n hx hb dL_observes_313 rfl (lv_at hl 12 rfl) ?_
  refine lv_iload_n hx hb dL_observes_314 rfl (lv_at hl 13 rfl) ?_
  refine lv_iload_n hx hb dL_observes_315 rfl (lv_at hl 14 rfl) ?_
  refine lv_iload_n hx hb dL_observes_316 rfl (lv_at hl 15 rfl) ?_
  have hWua6 : Wd g (va_up (va_up (va_up c n (some (.inl (g.2.1 0, 2, .inl (fun _ => 0))))) (n + 1) (some (.inl (g.2.1 0, 2, .inl (fun _ => 0))))) (n + 2) (some (.inl (g.2.1 0, 2, .inl (fun _ => 0))))) lh rs R hq := (((hWd.up (by omega)).up (by omega)).up (by omega))
  refine u_i (ru_V (As := [.int (nI w), .int (nI s1), .int (nI tz)]) (rest := []) F h ((mu_ne (by omega) _).trans ((mu_ne (by omega) _).trans ((mu_ne (by omega) _).trans hWd.1))) rfl (k_X7_observe l g (n + 3) (va_up (va_up (va_up c n (some (.inl (g.2.1 0, 2, .inl (fun _ => 0))))) (n + 1) (some (.inl (g.2.1 0, 2, .inl (fun _ => 0))))) (n + 2) (some (.inl (g.2.1 0, 2, .inl (fun _ => 0))))) lh 0 rs hWua6.1 R hWua6.2.1 hWua6.2.2.2.2 hq hWua6.2.2.1 J.wb (nI w) (nI s1) (nI tz) sc cn J.s4 J.s5 J.c3 J.c5 (by omega)) (gV hjl wd_610 wd_611 wd_612 wd_16 wd_613) rfl 3 (by decide +kernel) rfl ⟨Nat.le_of_ble_eq_true rfl, Nat.le_of_ble_eq_true rfl⟩ rfl hl.1 (Nat.le_of_ble_eq_true rfl) ⟨by decide, by decide⟩ dL_observes_317) h (fun ra6 na6 ca6 H locs hp h => ?_)
  obtain ⟨hna6, hxa6, hWa6, hFa6⟩ := paW hp hWua6 (by omega) (ob_r2 J hz1 hz6 hw4 h1 hs5 (fun z => hd ((i_le _ _).mp z))) (hWua6).2.2.2.2
  subst hxa6
  refine lv_istore (lv' := [(16, .int (-100003)), (15, .int (((fun _ => 0) 1) - ((fun _ => 0) 1))), (14, .int (vsI R sc)), (13, .int 0), (12, .ref (gz g + (n + 2))), (11, .ref (gz g + (n + 1))), (10, .ref (gz g + n)), (9, .int (tkN R 0 (5 + 11 * w + 10))), (8, .int (tkN R 0 (5 + 11 * w + 9))), (7, .int 2), (6, .int (R (69 + 3 * s1))), (5, .int (R 2)), (4, .int (R 0)), (0, .ref (gz g + 0)), (1, .int (nI w)), (2, .int (nI s1)), (3, .int (nI tz))]) hx hb dL_observes_320 hl (by decide) rfl (fun ls hl => ?_)
  refine lv_iload hx hb dL_observes_322 (lv_at hl 9 rfl) ?_
  refine lv_if_le (tgt := 361) hx hb dL_observes_324 (by decide) (fun b_324 => by first | exact absurd b_324 (by decide) | exact absurd (by decide) b_324) (fun b_324 => ?_)
  refine lv_iload hx hb dL_observes_327 (lv_at hl 0 rfl) ?_
  refine lv_ldc (v := (-100003)) hx hb F.2.2.2.1 (F.2.2.2.2.1 (Cond.constant RL 74 (-100003)) (List.mem_cons_of_mem _ wd_660)) dL_observes_329 ?_
  refine lv_icmp_ne (tgt := 359) hx hb dL_observes_331 (by decide) (fun b_331 => by first | exact absurd b_331 (by decide) | exact absurd (by decide) b_331) (fun b_331 => ?_)
  refine lv_aload_n hx hb dL_observes_334 rfl (lv_at hl 13 rfl) ?_
  refine lv_bipush (v := 8) hx hb dL_observes_335 (by decide) ?_
  refine u_iE (v := 2) (ru_V (As := [.int 8]) (rest := []) F h hWa6.1 rfl (kw_count l g na6 ca6 hWa6 J 8 (v := 2) (rfl)) (gV hjl wd_399 wd_400 wd_401 wd_16 wd_402) rfl 1 (by decide +kernel) rfl ⟨Nat.le_of_ble_eq_true rfl, Nat.le_of_ble_eq_true rfl⟩ rfl hl.1 (Nat.le_of_ble_eq_true rfl) ⟨by decide, by decide⟩ dL_observes_337) h (fun H locs h => ?_)
  refine lv_iload hx hb dL_observes_340 (lv_at hl 9 rfl) ?_
  refine lv_icmp_ne (tgt := 359) hx hb dL_observes_342 (by decide) (fun b_342 => by first | exact absurd b_342 (by decide) | exact absurd (by decide) b_342) (fun b_342 => ?_)
  refine lv_aload_n hx hb dL_observes_345 rfl (lv_at hl 13 rfl) ?_
  refine lv_iconst (v := 0) hx hb dL_observes_346 (by decide) ?_
  refine u_iE (v := R 0) (ru_V (As := [.int 0]) (rest := []) F h hWa6.1 rfl (kw_count l g na6 ca6 hWa6 J 0 (v := R 0) (rfl)) (gV hjl wd_399 wd_400 wd_401 wd_16 wd_402) rfl 1 (by decide +kernel) rfl ⟨Nat.le_of_ble_eq_true rfl, Nat.le_of_ble_eq_true rfl⟩ rfl hl.1 (Nat.le_of_ble_eq_true rfl) ⟨by decide, by decide⟩ dL_observes_347) h (fun H locs h => ?_)
  refine lv_iload hx hb dL_observes_350 (lv_at hl 12 rfl) ?_
  refine lv_icmp_ne (tgt := 359) hx hb dL_observes_352 (by decide) (fun b_352 => by first | exact absurd b_352 (rfl) | exact absurd (rfl) b_352) (fun b_352 => ?_)
  refine lv_iconst (v := 1) hx hb dL_observes_355 (by decide) ?_
  refine lv_goto (tgt := 360) hx hb dL_observes_356 (by decide) ?_
  exact ret_z F h (by decide) (by decide) (by decide) dL_observes_360 (⟨rfl, by omega, _, _, _, _, hWa6, J.le (by omega)⟩)
