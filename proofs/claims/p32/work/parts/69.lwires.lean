/-! The law: wires. -/
set_option maxHeartbeats 4000000 in
set_option maxRecDepth 100000 in
theorem k_L_wires (l : Launch) (g : Gf) (n : Nat) (c : Mp) {lh : Nat} {rs : Int32} {R : Nat → Int32} {hq : Nat → Nat → Int32} (hWd : Wd g c lh rs R hq) {sc cn tb : Nat} (J : Jv R sc cn tb) (z : Int32) (hz : Bt z 0 800) : Ct l g yL_wires wsL_wires 5 127 0 0 [.ref (gz g + 0), .int z] n c (Qi g (fun xr n' c' => xr = 1 ∧ n' = n ∧ c' = c)) := by
  refine ent (by decide) rfl (Nat.le_of_ble_eq_true rfl) ?_
  intro p e s m args below meth c0 F h ls hl
  have hx := F.1
  have hb := F.2.1
  have hl : lv_has ls 13 [(0, .ref (gz g + 0)), (1, .int z)] := hl
  refine lv_iconst (v := 0) hx hb dL_wires_0 (by decide) ?_
  refine lv_istore_n (lv' := [(2, .int 0), (0, .ref (gz g + 0)), (1, .int z)]) hx hb dL_wires_1 rfl hl (by decide) rfl (fun ls hl => ?_)
  refine lv_iconst (v := 0) hx hb dL_wires_2 (by decide) ?_
  refine lv_istore_n (lv' := [(3, .int 0), (2, .int 0), (0, .ref (gz g + 0)), (1, .int z)]) hx hb dL_wires_3 rfl hl (by decide) rfl (fun ls hl => ?_)
  have lw : ∀ (k : Nat) (w : Nat) (hw : w ≤ 4) (H : Heap) (locs : List Loc) (ls : Array Slot), (5 - w) ≤ k → Hv g s H locs n c → lv_has ls 13 [(0, .ref (gz g + 0)), (1, .int z), (2, .int (ctI (fun v => R (5 + 11 * v)) w)), (3, .int (nI w))] → W p l e (Rm 5 127 0 0) s m args below meth c0 H locs 0 0 (MQ below (Qi g (fun xr n' c' => xr = 1 ∧ n' = n ∧ c' = c)) args s 0 0 (mAf g)) (F0 m 4 ls []) := by
    intro k_lw
    induction k_lw with
    | zero => intro w hw H locs ls hk h hl; exact absurd hk (by omega)
    | succ k_lw ih_lw =>
      intro w hw H locs ls hk_lw h hl
      refine lv_iload_n hx hb dL_wires_4 rfl (lv_at hl 3 rfl) ?_
      refine lv_iconst (v := 4) hx hb dL_wires_5 (by decide) ?_
      refine lv_icmp_ge (tgt := 392) hx hb dL_wires_6 (by decide) (fun b_6 => ?_) (fun b_6 => ?_)
      · skip
        have e4 : w = 4 := by have := lp_ge (N := 4) rfl (by omega) (by decide) b_6; omega
        subst e4
        refine lv_aload_n hx hb dL_wires_392 rfl (lv_at hl 0 rfl) ?_
        refine lv_iconst (v := 1) hx hb dL_wires_393 (by decide) ?_
        refine u_iE (v := ctI (fun v => R (5 + 11 * v)) 4) (ru_V (As := [.int 1]) (rest := []) F h hWd.1 rfl (kw_count l g n c hWd J 1 (v := ctI (fun v => R (5 + 11 * v)) 4) (rfl)) (gV hjl wd_399 wd_400 wd_401 wd_16 wd_402) rfl 1 (by decide +kernel) rfl ⟨Nat.le_of_ble_eq_true rfl, Nat.le_of_ble_eq_true rfl⟩ rfl hl.1 (Nat.le_of_ble_eq_true rfl) ⟨Nat.zero_le _, Nat.zero_le _⟩ dL_wires_394) h (fun H locs h => ?_)
        refine lv_iload_n hx hb dL_wires_397 rfl (lv_at hl 2 rfl) ?_
        refine lv_icmp_ne (tgt := 416) hx hb dL_wires_398 (by decide) (fun b_398 => by first | exact absurd b_398 (rfl) | exact absurd (rfl) b_398) (fun b_398 => ?_)
        refine lv_aload_n hx hb dL_wires_401 rfl (lv_at hl 0 rfl) ?_
        refine lv_iconst (v := 4) hx hb dL_wires_402 (by decide) ?_
        refine lv_iconst (v := 0) hx hb dL_wires_403 (by decide) ?_
        refine u_iE (v := (-100001)) (ru_V (As := [.int 4, .int 0]) (rest := []) F h hWd.1 rfl (kw_wire l g n c hWd J 4 0 (v := (-100001)) (wi_u)) (gV hjl wd_390 wd_391 wd_392 wd_16 wd_393) rfl 2 (by decide +kernel) rfl ⟨Nat.le_of_ble_eq_true rfl, Nat.le_of_ble_eq_true rfl⟩ rfl hl.1 (Nat.le_of_ble_eq_true rfl) ⟨Nat.zero_le _, Nat.zero_le _⟩ dL_wires_404) h (fun H locs h => ?_)
        refine lv_ldc (v := (-100001)) hx hb F.2.2.2.1 (F.2.2.2.2.1 (Cond.constant RL 52 (-100001)) (List.mem_cons_of_mem _ wd_514)) dL_wires_407 ?_
        refine lv_icmp_ne (tgt := 416) hx hb dL_wires_409 (by decide) (fun b_409 => by first | exact absurd b_409 (by decide) | exact absurd (by decide) b_409) (fun b_409 => ?_)
        refine lv_iconst (v := 1) hx hb dL_wires_412 (by decide) ?_
        refine lv_goto (tgt := 417) hx hb dL_wires_413 (by decide) ?_
        exact ret_z F h (by decide) (Nat.zero_le _) (Nat.zero_le _) dL_wires_417 (⟨rfl, rfl, rfl⟩)
      have hw4 : w < 4 := lp_lt (N := 4) rfl (by omega) (by decide) b_6
      by_cases h0 : R (5 + 11 * w + 0) = 0
      · skip
        have hw4 : w < 4 := lp_lt (N := 4) rfl (by omega) (by decide) b_6
        refine lv_aload_n hx hb dL_wires_9 rfl (lv_at hl 0 rfl) ?_
        refine lv_iload_n hx hb dL_wires_10 rfl (lv_at hl 3 rfl) ?_
        refine lv_iconst (v := 0) hx hb dL_wires_11 (by decide) ?_
        refine u_iE (v := (-100005)) (ru_V (As := [.int (nI w), .int 0]) (rest := []) F h hWd.1 rfl (kw_wire l g n c hWd J (nI w) 0 (v := (-100005)) (wi_n hw4 h0 (by decide))) (gV hjl wd_390 wd_391 wd_392 wd_16 wd_393) rfl 2 (by decide +kernel) rfl ⟨Nat.le_of_ble_eq_true rfl, Nat.le_of_ble_eq_true rfl⟩ rfl hl.1 (Nat.le_of_ble_eq_true rfl) ⟨Nat.zero_le _, Nat.zero_le _⟩ dL_wires_12) h (fun H locs h => ?_)
        refine lv_ldc (v := (-100005)) hx hb F.2.2.2.1 (F.2.2.2.2.1 (Cond.constant RL 35 (-100005)) (List.mem_cons_of_mem _ wd_446)) dL_wires_15 ?_
        refine lv_icmp_ne (tgt := 57) hx hb dL_wires_17 (by decide) (fun b_17 => by first | exact absurd b_17 (by decide) | exact absurd (by decide) b_17) (fun b_17 => ?_)
        refine lv_aload_n hx hb dL_wires_20 rfl (lv_at hl 0 rfl) ?_
        refine lv_iload_n hx hb dL_wires_21 rfl (lv_at hl 3 rfl) ?_
        refine lv_iconst (v := 0) hx hb dL_wires_22 (by decide) ?_
        refine lv_iconst (v := 0) hx hb dL_wires_23 (by decide) ?_
        refine u_iE (v := (-100005)) (ru_V (As := [.int (nI w), .int 0, .int 0]) (rest := []) F h hWd.1 rfl (kw_rest l g n c hWd J (nI w) 0 0 (v := (-100005)) (re_n hw4 h0)) (gV hjl wd_447 wd_448 wd_449 wd_16 wd_450) rfl 3 (by decide +kernel) rfl ⟨Nat.le_of_ble_eq_true rfl, Nat.le_of_ble_eq_true rfl⟩ rfl hl.1 (Nat.le_of_ble_eq_true rfl) ⟨Nat.zero_le _, Nat.zero_le _⟩ dL_wires_24) h (fun H locs h => ?_)
        refine lv_ldc (v := (-100005)) hx hb F.2.2.2.1 (F.2.2.2.2.1 (Cond.constant RL 35 (-100005)) (List.mem_cons_of_mem _ wd_446)) dL_wires_27 ?_
        refine lv_icmp_ne (tgt := 55) hx hb dL_wires_29 (by decide) (fun b_29 => by first | exact absurd b_29 (by decide) | exact absurd (by decide) b_29) (fun b_29 => ?_)
        refine lv_aload_n hx hb dL_wires_32 rfl (lv_at hl 0 rfl) ?_
        refine lv_iload_n hx hb dL_wires_33 rfl (lv_at hl 3 rfl) ?_
        refine lv_iconst (v := 0) hx hb dL_wires_34 (by decide) ?_
        refine lv_iconst (v := 1) hx hb dL_wires_35 (by decide) ?_
        refine u_iE (v := (-100005)) (ru_V (As := [.int (nI w), .int 0, .int 1]) (rest := []) F h hWd.1 rfl (kw_position l g n c hWd J (nI w) 0 1 (v := (-100005)) (po_n hw4 h0)) (gV hjl wd_470 wd_471 wd_472 wd_16 wd_473) rfl 3 (by decide +kernel) rfl ⟨Nat.le_of_ble_eq_true rfl, Nat.le_of_ble_eq_true rfl⟩ rfl hl.1 (Nat.le_of_ble_eq_true rfl) ⟨Nat.zero_le _, Nat.zero_le _⟩ dL_wires_36) h (fun H locs h => ?_)
        refine lv_ldc (v := (-100005)) hx hb F.2.2.2.1 (F.2.2.2.2.1 (Cond.constant RL 35 (-100005)) (List.mem_cons_of_mem _ wd_446)) dL_wires_39 ?_
        refine lv_icmp_ne (tgt := 55) hx hb dL_wires_41 (by decide) (fun b_41 => by first | exact absurd b_41 (by decide) | exact absurd (by decide) b_41) (fun b_41 => ?_)
        refine lv_aload_n hx hb dL_wires_44 rfl (lv_at hl 0 rfl) ?_
        refine lv_iload_n hx hb dL_wires_45 rfl (lv_at hl 3 rfl) ?_
        refine lv_iconst (v := 0) hx hb dL_wires_46 (by decide) ?_
        refine u_iE (v := (-100005)) (ru_V (As := [.int (nI w), .int 0]) (rest := []) F h hWd.1 rfl (kw_calmIn l g n c hWd J (nI w) 0 (v := (-100005)) (ca_n hw4 h0)) (gV hjl wd_490 wd_491 wd_492 wd_16 wd_493) rfl 2 (by decide +kernel) rfl ⟨Nat.le_of_ble_eq_true rfl, Nat.le_of_ble_eq_true rfl⟩ rfl hl.1 (Nat.le_of_ble_eq_true rfl) ⟨Nat.zero_le _, Nat.zero_le _⟩ dL_wires_47) h (fun H locs h => ?_)
        refine lv_ldc (v := (-100005)) hx hb F.2.2.2.1 (F.2.2.2.2.1 (Cond.constant RL 35 (-100005)) (List.mem_cons_of_mem _ wd_446)) dL_wires_50 ?_
        refine lv_icmp_eq (tgt := 386) hx hb dL_wires_52 (by decide) (fun b_52 => ?_) (fun b_52 => by first | exact absurd (by decide) b_52 | exact absurd b_52 (by decide))
        have hl : lv_has ls 13 [(0, .ref (gz g + 0)), (1, .int z), (2, .int (ctI (fun v => R (5 + 11 * v)) (w + 1))), (3, .int (nI w))] := by rw [show (ctI (fun v => R (5 + 11 * v)) (w + 1) : Int32) = ctI (fun v => R (5 + 11 * v)) w from ctI_pos (f := fun v => R (5 + 11 * v)) (k := w) h0]; exact hl
        refine lv_iinc (v := nI (w + 1)) (lv' := [(3, .int (nI (w + 1))), (0, .ref (gz g + 0)), (1, .int z), (2, .int (ctI (fun v => R (5 + 11 * v)) (w + 1)))]) hx hb dL_wires_386 hl (k := 3) rfl (by exact (nI_succ w).symm) (by decide) rfl (fun ls hl => ?_)
        refine lv_goto (tgt := 4) hx hb dL_wires_389 (by decide) ?_
        exact ih_lw (w + 1) (by omega) _ _ _ (by omega) h (lv_sub hl [1, 2, 3, 0] rfl)
      have h1 : R (5 + 11 * w + 0) = 1 := b01_of (J.b hw4) h0
      have gw := J.wg hw4 h1
      obtain ⟨g1, g2, g3, g4, g5, g6, g7, g8, g9, g10, g11⟩ := id gw
      refine lv_aload_n hx hb dL_wires_9 rfl (lv_at hl 0 rfl) ?_
      refine lv_iload_n hx hb dL_wires_10 rfl (lv_at hl 3 rfl) ?_
      refine lv_iconst (v := 0) hx hb dL_wires_11 (by decide) ?_
      refine u_iE (v := R (5 + 11 * w + 1)) (ru_V (As := [.int (nI w), .int 0]) (rest := []) F h hWd.1 rfl (kw_wire l g n c hWd J (nI w) 0 (v := R (5 + 11 * w + 1)) (wi_0 hw4 h1)) (gV hjl wd_390 wd_391 wd_392 wd_16 wd_393) rfl 2 (by decide +kernel) rfl ⟨Nat.le_of_ble_eq_true rfl, Nat.le_of_ble_eq_true rfl⟩ rfl hl.1 (Nat.le_of_ble_eq_true rfl) ⟨Nat.zero_le _, Nat.zero_le _⟩ dL_wires_12) h (fun H locs h => ?_)
      refine lv_ldc (v := (-100005)) hx hb F.2.2.2.1 (F.2.2.2.2.1 (Cond.constant RL 35 (-100005)) (List.mem_cons_of_mem _ wd_446)) dL_wires_15 ?_
      refine lv_icmp_ne (tgt := 57) hx hb dL_wires_17 (by decide) (fun b_17 => ?_) (fun b_17 => by first | exact absurd (bt_nn g1 (-100005) (by decide)) b_17 | exact absurd b_17 (bt_nn g1 (-100005) (by decide)))
      refine lv_iinc (v := ctI (fun v => R (5 + 11 * v)) (w + 1)) (lv' := [(2, .int (ctI (fun v => R (5 + 11 * v)) (w + 1))), (0, .ref (gz g + 0)), (1, .int z), (3, .int (nI w))]) hx hb dL_wires_57 hl (k := 2) rfl (by exact (ctI_neg (f := fun v => R (5 + 11 * v)) (k := w) h0).symm) (by decide) rfl (fun ls hl => ?_)
      refine lv_aload_n hx hb dL_wires_60 rfl (lv_at hl 1 rfl) ?_
      refine lv_iload_n hx hb dL_wires_61 rfl (lv_at hl 3 rfl) ?_
      refine lv_iconst (v := 3) hx hb dL_wires_62 (by decide) ?_
      refine u_iE (v := R (5 + 11 * w + 4)) (ru_V (As := [.int (nI w), .int 3]) (rest := []) F h hWd.1 rfl (kw_wire l g n c hWd J (nI w) 3 (v := R (5 + 11 * w + 4)) (wi_3 hw4 h1)) (gV hjl wd_390 wd_391 wd_392 wd_16 wd_393) rfl 2 (by decide +kernel) rfl ⟨Nat.le_of_ble_eq_true rfl, Nat.le_of_ble_eq_true rfl⟩ rfl hl.1 (Nat.le_of_ble_eq_true rfl) ⟨Nat.zero_le _, Nat.zero_le _⟩ dL_wires_63) h (fun H locs h => ?_)
      refine lv_istore (lv' := [(4, .int (R (5 + 11 * w + 4))), (2, .int (ctI (fun v => R (5 + 11 * v)) (w + 1))), (0, .ref (gz g + 0)), (1, .int z), (3, .int (nI w))]) hx hb dL_wires_66 hl (by decide) rfl (fun ls hl => ?_)
      refine lv_aload_n hx hb dL_wires_68 rfl (lv_at hl 2 rfl) ?_
      refine lv_iload_n hx hb dL_wires_69 rfl (lv_at hl 4 rfl) ?_
      refine lv_bipush (v := 10) hx hb dL_wires_70 (by decide) ?_
      refine u_iE (v := 4 * qdI (R (5 + 11 * w + 4))) (ru_V (As := [.int (nI w), .int 10]) (rest := []) F h hWd.1 rfl (kw_wire l g n c hWd J (nI w) 10 (v := 4 * qdI (R (5 + 11 * w + 4))) (wi_10 hw4 h1)) (gV hjl wd_390 wd_391 wd_392 wd_16 wd_393) rfl 2 (by decide +kernel) rfl ⟨Nat.le_of_ble_eq_true rfl, Nat.le_of_ble_eq_true rfl⟩ rfl hl.1 (Nat.le_of_ble_eq_true rfl) ⟨Nat.zero_le _, Nat.zero_le _⟩ dL_wires_72) h (fun H locs h => ?_)
      refine lv_istore (lv' := [(5, .int (4 * qdI (R (5 + 11 * w + 4)))), (4, .int (R (5 + 11 * w + 4))), (2, .int (ctI (fun v => R (5 + 11 * v)) (w + 1))), (0, .ref (gz g + 0)), (1, .int z), (3, .int (nI w))]) hx hb dL_wires_75 hl (by decide) rfl (fun ls hl => ?_)
      refine lv_aload_n hx hb dL_wires_77 rfl (lv_at hl 3 rfl) ?_
      refine lv_iload_n hx hb dL_wires_78 rfl (lv_at hl 5 rfl) ?_
      refine lv_bipush (v := 9) hx hb dL_wires_79 (by decide) ?_
      refine u_iE (v := R (5 + 11 * w + 10)) (ru_V (As := [.int (nI w), .int 9]) (rest := []) F h hWd.1 rfl (kw_wire l g n c hWd J (nI w) 9 (v := R (5 + 11 * w + 10)) (wi_9 hw4 h1)) (gV hjl wd_390 wd_391 wd_392 wd_16 wd_393) rfl 2 (by decide +kernel) rfl ⟨Nat.le_of_ble_eq_true rfl, Nat.le_of_ble_eq_true rfl⟩ rfl hl.1 (Nat.le_of_ble_eq_true rfl) ⟨Nat.zero_le _, Nat.zero_le _⟩ dL_wires_81) h (fun H locs h => ?_)
      refine lv_istore (lv' := [(6, .int (R (5 + 11 * w + 10))), (5, .int (4 * qdI (R (5 + 11 * w + 4)))), (4, .int (R (5 + 11 * w + 4))), (2, .int (ctI (fun v => R (5 + 11 * v)) (w + 1))), (0, .ref (gz g + 0)), (1, .int z), (3, .int (nI w))]) hx hb dL_wires_84 hl (by decide) rfl (fun ls hl => ?_)
      refine lv_aload_n hx hb dL_wires_86 rfl (lv_at hl 4 rfl) ?_
      refine lv_iload_n hx hb dL_wires_87 rfl (lv_at hl 6 rfl) ?_
      refine lv_bipush (v := 8) hx hb dL_wires_88 (by decide) ?_
      refine u_iE (v := R (5 + 11 * w + 9)) (ru_V (As := [.int (nI w), .int 8]) (rest := []) F h hWd.1 rfl (kw_wire l g n c hWd J (nI w) 8 (v := R (5 + 11 * w + 9)) (wi_8 hw4 h1)) (gV hjl wd_390 wd_391 wd_392 wd_16 wd_393) rfl 2 (by decide +kernel) rfl ⟨Nat.le_of_ble_eq_true rfl, Nat.le_of_ble_eq_true rfl⟩ rfl hl.1 (Nat.le_of_ble_eq_true rfl) ⟨Nat.zero_le _, Nat.zero_le _⟩ dL_wires_90) h (fun H locs h => ?_)
      refine lv_istore (lv' := [(7, .int (R (5 + 11 * w + 9))), (6, .int (R (5 + 11 * w + 10))), (5, .int (4 * qdI (R (5 + 11 * w + 4)))), (4, .int (R (5 + 11 * w + 4))), (2, .int (ctI (fun v => R (5 + 11 * v)) (w + 1))), (0, .ref (gz g + 0)), (1, .int z), (3, .int (nI w))]) hx hb dL_wires_93 hl (by decide) rfl (fun ls hl => ?_)
      have hd1 : (R (5 + 11 * w + 4) + 1).toInt = (R (5 + 11 * w + 4)).toInt + 1 := by have a1 := g4.1; have a2 := g4.2; dsimp only at a1 a2; rw [fb_addI (by show _ ≤ _ + (1 : Int); omega) (by show _ + (1 : Int) < _; omega)]; rfl
      refine lv_iload_n hx hb dL_wires_95 rfl (lv_at hl 6 rfl) ?_
      refine lv_iload hx hb dL_wires_96 (lv_at hl 3 rfl) ?_
      refine lv_iconst (v := 1) hx hb dL_wires_98 (by decide) ?_
      refine lv_iadd hx hb dL_wires_99 ?_
      refine lv_irem hx hb dL_wires_100 (fun q => by have a1 := g4.1; dsimp only at a1; rw [q] at hd1; have hd1 : (0 : Int) = _ := hd1; omega) ?_
      refine lv_istore (lv' := [(8, .int (z - z / (R (5 + 11 * w + 4) + 1) * (R (5 + 11 * w + 4) + 1))), (7, .int (R (5 + 11 * w + 9))), (6, .int (R (5 + 11 * w + 10))), (5, .int (4 * qdI (R (5 + 11 * w + 4)))), (4, .int (R (5 + 11 * w + 4))), (2, .int (ctI (fun v => R (5 + 11 * v)) (w + 1))), (0, .ref (gz g + 0)), (1, .int z), (3, .int (nI w))]) hx hb dL_wires_101 hl (by decide) rfl (fun ls hl => ?_)
      obtain ⟨dp, e_dp⟩ : ∃ x : Int32, x = (z - z / (R (5 + 11 * w + 4) + 1) * (R (5 + 11 * w + 4) + 1)) := ⟨_, rfl⟩
      have hl : lv_has ls 13 [(8, .int dp), (7, .int (R (5 + 11 * w + 9))), (6, .int (R (5 + 11 * w + 10))), (5, .int (4 * qdI (R (5 + 11 * w + 4)))), (4, .int (R (5 + 11 * w + 4))), (2, .int (ctI (fun v => R (5 + 11 * v)) (w + 1))), (0, .ref (gz g + 0)), (1, .int z), (3, .int (nI w))] := by rw [show (dp : Int32) = (z - z / (R (5 + 11 * w + 4) + 1) * (R (5 + 11 * w + 4) + 1)) from e_dp]; exact hl
      have hdp : Bt dp 0 800 ∧ dp.toInt ≤ (R (5 + 11 * w + 4)).toInt := by
        rw [e_dp]
        have a1 := g4.1; have a2 := g4.2; dsimp only at a1 a2
        have q := rm_b hz hd1 (by omega)
        have q1 := q.1.1; have q2 := q.1.2
        exact ⟨⟨q1, by omega⟩, by omega⟩
      refine lv_iload hx hb dL_wires_103 (lv_at hl 3 rfl) ?_
      refine lv_iconst (v := 4) hx hb dL_wires_105 (by decide) ?_
      refine lv_iconst (v := 4) hx hb dL_wires_106 (by decide) ?_
      refine lv_iload hx hb dL_wires_107 (lv_at hl 4 rfl) ?_
      refine lv_bipush (v := 100) hx hb dL_wires_109 (by decide) ?_
      refine lv_idiv hx hb dL_wires_111 (by decide) ?_
      refine lv_imul hx hb dL_wires_112 ?_
      refine lv_iadd hx hb dL_wires_113 ?_
      refine lv_icmp_ne (tgt := 146) hx hb dL_wires_114 (by decide) (fun b_114 => by first | exact absurd b_114 (per_e g4) | exact absurd (per_e g4) b_114) (fun b_114 => ?_)
      refine lv_iload hx hb dL_wires_117 (lv_at hl 2 rfl) ?_
      refine lv_if_lt (tgt := 146) hx hb dL_wires_119 (by decide) (fun b_119 => by first | exact absurd b_119 (i_nlt ((i_le _ _).mpr g10)) | exact absurd (i_nlt ((i_le _ _).mpr g10)) b_119) (fun b_119 => ?_)
      refine lv_iload hx hb dL_wires_122 (lv_at hl 2 rfl) ?_
      refine lv_iload hx hb dL_wires_124 (lv_at hl 3 rfl) ?_
      refine lv_icmp_ge (tgt := 146) hx hb dL_wires_126 (by decide) (fun b_126 => by first | exact absurd b_126 (i_nle ((i_lt _ _).mpr (cm_p gw).2.2.2)) | exact absurd (i_nle ((i_lt _ _).mpr (cm_p gw).2.2.2)) b_126) (fun b_126 => ?_)
      refine lv_iload hx hb dL_wires_129 (lv_at hl 1 rfl) ?_
      refine lv_if_lt (tgt := 146) hx hb dL_wires_131 (by decide) (fun b_131 => by first | exact absurd b_131 (i_nlt (bt_ge g9 0 (by decide))) | exact absurd (i_nlt (bt_ge g9 0 (by decide))) b_131) (fun b_131 => ?_)
      refine lv_iload hx hb dL_wires_134 (lv_at hl 1 rfl) ?_
      refine lv_sipush (v := 500) hx hb dL_wires_136 (by decide) ?_
      refine lv_icmp_gt (tgt := 146) hx hb dL_wires_139 (by decide) (fun b_139 => by first | exact absurd b_139 (i_nlt (bt_le g9 500 (by decide))) | exact absurd (i_nlt (bt_le g9 500 (by decide))) b_139) (fun b_139 => ?_)
      refine lv_iconst (v := 1) hx hb dL_wires_142 (by decide) ?_
      refine lv_goto (tgt := 147) hx hb dL_wires_143 (by decide) ?_
      refine lv_istore (lv' := [(9, .int 1), (8, .int dp), (7, .int (R (5 + 11 * w + 9))), (6, .int (R (5 + 11 * w + 10))), (5, .int (4 * qdI (R (5 + 11 * w + 4)))), (4, .int (R (5 + 11 * w + 4))), (2, .int (ctI (fun v => R (5 + 11 * v)) (w + 1))), (0, .ref (gz g + 0)), (1, .int z), (3, .int (nI w))]) hx hb dL_wires_147 hl (by decide) rfl (fun ls hl => ?_)
      refine lv_iconst (v := 0) hx hb dL_wires_149 (by decide) ?_
      refine lv_istore (lv' := [(10, .int 0), (9, .int 1), (8, .int dp), (7, .int (R (5 + 11 * w + 9))), (6, .int (R (5 + 11 * w + 10))), (5, .int (4 * qdI (R (5 + 11 * w + 4)))), (4, .int (R (5 + 11 * w + 4))), (2, .int (ctI (fun v => R (5 + 11 * v)) (w + 1))), (0, .ref (gz g + 0)), (1, .int z), (3, .int (nI w))]) hx hb dL_wires_150 hl (by decide) rfl (fun ls hl => ?_)
      have la : ∀ (k : Nat) (a : Nat) (ha2 : a ≤ 2) (H : Heap) (locs : List Loc) (ls : Array Slot), (3 - a) ≤ k → Hv g s H locs n c → lv_has ls 13 [(0, .ref (gz g + 0)), (1, .int z), (2, .int (ctI (fun v => R (5 + 11 * v)) (w + 1))), (3, .int (nI w)), (4, .int (R (5 + 11 * w + 4))), (5, .int (4 * qdI (R (5 + 11 * w + 4)))), (6, .int (R (5 + 11 * w + 10))), (7, .int (R (5 + 11 * w + 9))), (8, .int dp), (9, .int 1), (10, .int (nI a))] → W p l e (Rm 5 127 0 0) s m args below meth c0 H locs 0 0 (MQ below (Qi g (fun xr n' c' => xr = 1 ∧ n' = n ∧ c' = c)) args s 0 0 (mAf g)) (F0 m 152 ls []) := by
        intro k_la
        induction k_la with
        | zero => intro a ha2 H locs ls hk h hl; exact absurd hk (by omega)
        | succ k_la ih_la =>
          intro a ha2 H locs ls hk_la h hl
          refine lv_iload hx hb dL_wires_152 (lv_at hl 10 rfl) ?_
          refine lv_iconst (v := 2) hx hb dL_wires_154 (by decide) ?_
          refine lv_icmp_ge (tgt := 272) hx hb dL_wires_155 (by decide) (fun b_155 => ?_) (fun b_155 => ?_)
          · skip
            refine lv_iload_n hx hb dL_wires_272 rfl (lv_at hl 1 rfl) ?_
            refine lv_bipush (v := 100) hx hb dL_wires_273 (by decide) ?_
            refine lv_irem hx hb dL_wires_275 (by decide) ?_
            refine lv_istore (lv' := [(10, .int (z - z / 100 * 100)), (0, .ref (gz g + 0)), (1, .int z), (2, .int (ctI (fun v => R (5 + 11 * v)) (w + 1))), (3, .int (nI w)), (4, .int (R (5 + 11 * w + 4))), (5, .int (4 * qdI (R (5 + 11 * w + 4)))), (6, .int (R (5 + 11 * w + 10))), (7, .int (R (5 + 11 * w + 9))), (8, .int dp), (9, .int 1)]) hx hb dL_wires_276 hl (by decide) rfl (fun ls hl => ?_)
            obtain ⟨lm, e_lm⟩ : ∃ x : Int32, x = (z - z / 100 * 100) := ⟨_, rfl⟩
            have hl : lv_has ls 13 [(10, .int lm), (0, .ref (gz g + 0)), (1, .int z), (2, .int (ctI (fun v => R (5 + 11 * v)) (w + 1))), (3, .int (nI w)), (4, .int (R (5 + 11 * w + 4))), (5, .int (4 * qdI (R (5 + 11 * w + 4)))), (6, .int (R (5 + 11 * w + 10))), (7, .int (R (5 + 11 * w + 9))), (8, .int dp), (9, .int 1)] := by rw [show (lm : Int32) = (z - z / 100 * 100) from e_lm]; exact hl
            have hlm : Bt lm 0 99 := by rw [e_lm]; exact (rm_b hz (y := 100) rfl (by decide)).1
            have hlm0 := hlm.1
            refine lv_iconst (v := 0) hx hb dL_wires_278 (by decide) ?_
            refine lv_istore (lv' := [(11, .int 0), (10, .int lm), (0, .ref (gz g + 0)), (1, .int z), (2, .int (ctI (fun v => R (5 + 11 * v)) (w + 1))), (3, .int (nI w)), (4, .int (R (5 + 11 * w + 4))), (5, .int (4 * qdI (R (5 + 11 * w + 4)))), (6, .int (R (5 + 11 * w + 10))), (7, .int (R (5 + 11 * w + 9))), (8, .int dp), (9, .int 1)]) hx hb dL_wires_279 hl (by decide) rfl (fun ls hl => ?_)
            refine lv_iload hx hb dL_wires_281 (lv_at hl 9 rfl) ?_
            refine lv_istore (lv' := [(12, .int (R (5 + 11 * w + 9))), (11, .int 0), (10, .int lm), (0, .ref (gz g + 0)), (1, .int z), (2, .int (ctI (fun v => R (5 + 11 * v)) (w + 1))), (3, .int (nI w)), (4, .int (R (5 + 11 * w + 4))), (5, .int (4 * qdI (R (5 + 11 * w + 4)))), (6, .int (R (5 + 11 * w + 10))), (7, .int (R (5 + 11 * w + 9))), (8, .int dp), (9, .int 1)]) hx hb dL_wires_283 hl (by decide) rfl (fun ls hl => ?_)
            have lc : ∀ (k : Nat) (a1 t1 : Int32) (hc : CmI (fun q => R (5 + 11 * w + q)) lm a1 t1) (H : Heap) (locs : List Loc) (ls : Array Slot), (a1.toInt.toNat + 1) ≤ k → Hv g s H locs n c → lv_has ls 13 [(0, .ref (gz g + 0)), (1, .int z), (2, .int (ctI (fun v => R (5 + 11 * v)) (w + 1))), (3, .int (nI w)), (4, .int (R (5 + 11 * w + 4))), (5, .int (4 * qdI (R (5 + 11 * w + 4)))), (6, .int (R (5 + 11 * w + 10))), (7, .int (R (5 + 11 * w + 9))), (9, .int 1), (10, .int lm), (11, .int t1), (12, .int a1)] → W p l e (Rm 5 127 0 0) s m args below meth c0 H locs 0 0 (MQ below (Qi g (fun xr n' c' => xr = 1 ∧ n' = n ∧ c' = c)) args s 0 0 (mAf g)) (F0 m 285 ls []) := by
              intro k_lc
              induction k_lc with
              | zero => intro a1 t1 hc H locs ls hk h hl; exact absurd hk (by omega)
              | succ k_lc ih_lc =>
                intro a1 t1 hc H locs ls hk_lc h hl
                refine lv_iload hx hb dL_wires_285 (lv_at hl 11 rfl) ?_
                refine lv_iload hx hb dL_wires_287 (lv_at hl 9 rfl) ?_
                refine lv_icmp_le (tgt := 329) hx hb dL_wires_289 (by decide) (fun b_289 => ?_) (fun b_289 => ?_)
                · skip
                  refine lv_iload hx hb dL_wires_329 (lv_at hl 8 rfl) ?_
                  refine lv_if_eq (tgt := 384) hx hb dL_wires_331 (by decide) (fun b_331 => by first | exact absurd b_331 (by decide) | exact absurd (by decide) b_331) (fun b_331 => ?_)
                  refine lv_aload_n hx hb dL_wires_334 rfl (lv_at hl 0 rfl) ?_
                  refine lv_iload_n hx hb dL_wires_335 rfl (lv_at hl 3 rfl) ?_
                  refine lv_iload hx hb dL_wires_336 (lv_at hl 9 rfl) ?_
                  refine u_iE (v := t1) (ru_V (As := [.int (nI w), .int lm]) (rest := []) F h hWd.1 rfl (kw_calmIn l g n c hWd J (nI w) lm (v := t1) ((ca_v hw4 h1 ⟨hlm.1, by have := hlm.2; omega⟩).trans (cm_e hc b_289))) (gV hjl wd_490 wd_491 wd_492 wd_16 wd_493) rfl 2 (by decide +kernel) rfl ⟨Nat.le_of_ble_eq_true rfl, Nat.le_of_ble_eq_true rfl⟩ rfl hl.1 (Nat.le_of_ble_eq_true rfl) ⟨Nat.zero_le _, Nat.zero_le _⟩ dL_wires_338) h (fun H locs h => ?_)
                  refine lv_iload hx hb dL_wires_341 (lv_at hl 10 rfl) ?_
                  refine lv_icmp_ne (tgt := 384) hx hb dL_wires_343 (by decide) (fun b_343 => by first | exact absurd b_343 (rfl) | exact absurd (rfl) b_343) (fun b_343 => ?_)
                  refine lv_aload_n hx hb dL_wires_346 rfl (lv_at hl 0 rfl) ?_
                  refine lv_iload_n hx hb dL_wires_347 rfl (lv_at hl 3 rfl) ?_
                  refine lv_sipush (v := 801) hx hb dL_wires_348 (by decide) ?_
                  refine lv_iconst (v := 0) hx hb dL_wires_351 (by decide) ?_
                  refine u_iE (v := (-100002)) (ru_V (As := [.int (nI w), .int 801, .int 0]) (rest := []) F h hWd.1 rfl (kw_rest l g n c hWd J (nI w) 801 0 (v := (-100002)) (re_e5 (er_8 hw4) (by decide))) (gV hjl wd_447 wd_448 wd_449 wd_16 wd_450) rfl 3 (by decide +kernel) rfl ⟨Nat.le_of_ble_eq_true rfl, Nat.le_of_ble_eq_true rfl⟩ rfl hl.1 (Nat.le_of_ble_eq_true rfl) ⟨Nat.zero_le _, Nat.zero_le _⟩ dL_wires_352) h (fun H locs h => ?_)
                  refine lv_ldc (v := (-100002)) hx hb F.2.2.2.1 (F.2.2.2.2.1 (Cond.constant RL 15 (-100002)) (List.mem_cons_of_mem _ wd_442)) dL_wires_355 ?_
                  refine lv_icmp_ne (tgt := 384) hx hb dL_wires_357 (by decide) (fun b_357 => by first | exact absurd b_357 (by decide) | exact absurd (by decide) b_357) (fun b_357 => ?_)
                  refine lv_aload_n hx hb dL_wires_360 rfl (lv_at hl 0 rfl) ?_
                  refine lv_iload_n hx hb dL_wires_361 rfl (lv_at hl 3 rfl) ?_
                  refine lv_iconst (v := 0) hx hb dL_wires_362 (by decide) ?_
                  refine lv_iconst (v := 2) hx hb dL_wires_363 (by decide) ?_
                  refine u_iE (v := (-100002)) (ru_V (As := [.int (nI w), .int 0, .int 2]) (rest := []) F h hWd.1 rfl (kw_rest l g n c hWd J (nI w) 0 2 (v := (-100002)) (re_e5 (er_a hw4) (by decide))) (gV hjl wd_447 wd_448 wd_449 wd_16 wd_450) rfl 3 (by decide +kernel) rfl ⟨Nat.le_of_ble_eq_true rfl, Nat.le_of_ble_eq_true rfl⟩ rfl hl.1 (Nat.le_of_ble_eq_true rfl) ⟨Nat.zero_le _, Nat.zero_le _⟩ dL_wires_364) h (fun H locs h => ?_)
                  refine lv_ldc (v := (-100002)) hx hb F.2.2.2.1 (F.2.2.2.2.1 (Cond.constant RL 15 (-100002)) (List.mem_cons_of_mem _ wd_442)) dL_wires_367 ?_
                  refine lv_icmp_ne (tgt := 384) hx hb dL_wires_369 (by decide) (fun b_369 => by first | exact absurd b_369 (by decide) | exact absurd (by decide) b_369) (fun b_369 => ?_)
                  refine lv_aload_n hx hb dL_wires_372 rfl (lv_at hl 0 rfl) ?_
                  refine lv_iload_n hx hb dL_wires_373 rfl (lv_at hl 3 rfl) ?_
                  refine lv_bipush (v := 11) hx hb dL_wires_374 (by decide) ?_
                  refine u_iE (v := (-100002)) (ru_V (As := [.int (nI w), .int 11]) (rest := []) F h hWd.1 rfl (kw_wire l g n c hWd J (nI w) 11 (v := (-100002)) (wi_b hw4 (by decide))) (gV hjl wd_390 wd_391 wd_392 wd_16 wd_393) rfl 2 (by decide +kernel) rfl ⟨Nat.le_of_ble_eq_true rfl, Nat.le_of_ble_eq_true rfl⟩ rfl hl.1 (Nat.le_of_ble_eq_true rfl) ⟨Nat.zero_le _, Nat.zero_le _⟩ dL_wires_376) h (fun H locs h => ?_)
                  refine lv_ldc (v := (-100002)) hx hb F.2.2.2.1 (F.2.2.2.2.1 (Cond.constant RL 15 (-100002)) (List.mem_cons_of_mem _ wd_442)) dL_wires_379 ?_
                  refine lv_icmp_eq (tgt := 386) hx hb dL_wires_381 (by decide) (fun b_381 => ?_) (fun b_381 => by first | exact absurd (by decide) b_381 | exact absurd b_381 (by decide))
                  refine lv_iinc (v := nI (w + 1)) (lv' := [(3, .int (nI (w + 1))), (0, .ref (gz g + 0)), (1, .int z), (2, .int (ctI (fun v => R (5 + 11 * v)) (w + 1))), (4, .int (R (5 + 11 * w + 4))), (5, .int (4 * qdI (R (5 + 11 * w + 4)))), (6, .int (R (5 + 11 * w + 10))), (7, .int (R (5 + 11 * w + 9))), (9, .int 1), (10, .int lm), (11, .int t1), (12, .int a1)]) hx hb dL_wires_386 hl (k := 3) rfl (by exact (nI_succ w).symm) (by decide) rfl (fun ls hl => ?_)
                  refine lv_goto (tgt := 4) hx hb dL_wires_389 (by decide) ?_
                  exact ih_lw (w + 1) (by omega) _ _ _ (by omega) h (lv_sub hl [1, 2, 3, 0] rfl)
                refine lv_iload hx hb dL_wires_292 (lv_at hl 11 rfl) ?_
                refine lv_aload_n hx hb dL_wires_294 rfl (lv_at hl 0 rfl) ?_
                refine lv_iload_n hx hb dL_wires_295 rfl (lv_at hl 3 rfl) ?_
                refine lv_bipush (v := 6) hx hb dL_wires_296 (by decide) ?_
                refine u_iE (v := R (5 + 11 * w + 7)) (ru_V (As := [.int (nI w), .int 6]) (rest := [.int a1]) F h hWd.1 rfl (kw_wire l g n c hWd J (nI w) 6 (v := R (5 + 11 * w + 7)) (wi_6 hw4 h1)) (gV hjl wd_390 wd_391 wd_392 wd_16 wd_393) rfl 2 (by decide +kernel) rfl ⟨Nat.le_of_ble_eq_true rfl, Nat.le_of_ble_eq_true rfl⟩ rfl hl.1 (Nat.le_of_ble_eq_true rfl) ⟨Nat.zero_le _, Nat.zero_le _⟩ dL_wires_298) h (fun H locs h => ?_)
                refine u_iE (v := (a1 * cmI (R (5 + 11 * w + 7)) / 100)) (ru_S (As := [.int a1, .int (R (5 + 11 * w + 7))]) (rest := []) F h (k_L_calmer l g n c a1 (R (5 + 11 * w + 7))) (gS hjl wd_511 wd_512 wd_15 wd_513) rfl 2 (by decide +kernel) rfl ⟨Nat.le_of_ble_eq_true rfl, Nat.le_of_ble_eq_true rfl⟩ rfl hl.1 (Nat.le_of_ble_eq_true rfl) ⟨Nat.zero_le _, Nat.zero_le _⟩ dL_wires_301) h (fun H locs h => ?_)
                refine lv_istore (lv' := [(12, .int (a1 * cmI (R (5 + 11 * w + 7)) / 100)), (0, .ref (gz g + 0)), (1, .int z), (2, .int (ctI (fun v => R (5 + 11 * v)) (w + 1))), (3, .int (nI w)), (4, .int (R (5 + 11 * w + 4))), (5, .int (4 * qdI (R (5 + 11 * w + 4)))), (6, .int (R (5 + 11 * w + 10))), (7, .int (R (5 + 11 * w + 9))), (9, .int 1), (10, .int lm), (11, .int t1)]) hx hb dL_wires_304 hl (by decide) rfl (fun ls hl => ?_)
                refine lv_iload hx hb dL_wires_306 (lv_at hl 11 rfl) ?_
                refine lv_if_ne (tgt := 319) hx hb dL_wires_308 (by decide) (fun b_308 => ?_) (fun b_308 => ?_)
                · skip
                  refine lv_iload hx hb dL_wires_319 (lv_at hl 11 rfl) ?_
                  refine lv_iload hx hb dL_wires_321 (lv_at hl 6 rfl) ?_
                  refine lv_iadd hx hb dL_wires_323 ?_
                  refine lv_istore (lv' := [(11, .int (t1 + 4 * qdI (R (5 + 11 * w + 4)))), (12, .int (a1 * cmI (R (5 + 11 * w + 7)) / 100)), (0, .ref (gz g + 0)), (1, .int z), (2, .int (ctI (fun v => R (5 + 11 * v)) (w + 1))), (3, .int (nI w)), (4, .int (R (5 + 11 * w + 4))), (5, .int (4 * qdI (R (5 + 11 * w + 4)))), (6, .int (R (5 + 11 * w + 10))), (7, .int (R (5 + 11 * w + 9))), (9, .int 1), (10, .int lm)]) hx hb dL_wires_324 hl (by decide) rfl (fun ls hl => ?_)
                  refine lv_goto (tgt := 285) hx hb dL_wires_326 (by decide) ?_
                  exact ih_lc _ _ (cm_2 gw hc hlm0 b_289 b_308) _ _ _ (by have := cm_d gw hc hlm0 b_289; omega) h (lv_sub hl [2, 3, 4, 5, 6, 7, 8, 9, 10, 11, 0, 1] rfl)
                refine lv_iload hx hb dL_wires_311 (lv_at hl 6 rfl) ?_
                refine lv_iload hx hb dL_wires_313 (lv_at hl 7 rfl) ?_
                refine lv_isub hx hb dL_wires_315 ?_
                refine lv_goto (tgt := 324) hx hb dL_wires_316 (by decide) ?_
                refine lv_istore (lv' := [(11, .int (4 * qdI (R (5 + 11 * w + 4)) - R (5 + 11 * w + 10))), (12, .int (a1 * cmI (R (5 + 11 * w + 7)) / 100)), (0, .ref (gz g + 0)), (1, .int z), (2, .int (ctI (fun v => R (5 + 11 * v)) (w + 1))), (3, .int (nI w)), (4, .int (R (5 + 11 * w + 4))), (5, .int (4 * qdI (R (5 + 11 * w + 4)))), (6, .int (R (5 + 11 * w + 10))), (7, .int (R (5 + 11 * w + 9))), (9, .int 1), (10, .int lm)]) hx hb dL_wires_324 hl (by decide) rfl (fun ls hl => ?_)
                refine lv_goto (tgt := 285) hx hb dL_wires_326 (by decide) ?_
                exact ih_lc _ _ (cm_1 gw hc hlm0 b_289 b_308) _ _ _ (by have := cm_d gw hc hlm0 b_289; omega) h (lv_sub hl [2, 3, 4, 5, 6, 7, 8, 9, 10, 11, 0, 1] rfl)
            exact lc _ _ _ (cm_0 gw lm) _ _ _ (Nat.le_refl _) h (lv_sub hl [3, 4, 5, 6, 7, 8, 9, 10, 12, 2, 1, 0] rfl)
          have ha : a < 2 := lp_lt (N := 2) rfl (by omega) (by decide) b_155
          refine lv_iload hx hb dL_wires_158 (lv_at hl 9 rfl) ?_
          refine lv_if_eq (tgt := 263) hx hb dL_wires_160 (by decide) (fun b_160 => by first | exact absurd b_160 (by decide) | exact absurd (by decide) b_160) (fun b_160 => ?_)
          refine lv_aload_n hx hb dL_wires_163 rfl (lv_at hl 0 rfl) ?_
          refine lv_iload_n hx hb dL_wires_164 rfl (lv_at hl 3 rfl) ?_
          refine lv_iload hx hb dL_wires_165 (lv_at hl 8 rfl) ?_
          refine lv_iload hx hb dL_wires_167 (lv_at hl 10 rfl) ?_
          refine u_iE (v := (reS R w dp (nI a) cn + syF (fun q => R (5 + 11 * w + q)) dp (nI a))) (ru_V (As := [.int (nI w), .int dp, .int (nI a)]) (rest := []) F h hWd.1 rfl (kw_position l g n c hWd J (nI w) dp (nI a) (v := (reS R w dp (nI a) cn + syF (fun q => R (5 + 11 * w + q)) dp (nI a))) (po_v hw4 h1 hdp.1 ha hdp.2)) (gV hjl wd_470 wd_471 wd_472 wd_16 wd_473) rfl 3 (by decide +kernel) rfl ⟨Nat.le_of_ble_eq_true rfl, Nat.le_of_ble_eq_true rfl⟩ rfl hl.1 (Nat.le_of_ble_eq_true rfl) ⟨Nat.zero_le _, Nat.zero_le _⟩ dL_wires_169) h (fun H locs h => ?_)
          refine lv_aload_n hx hb dL_wires_172 rfl (lv_at hl 0 rfl) ?_
          refine lv_iload_n hx hb dL_wires_173 rfl (lv_at hl 3 rfl) ?_
          refine lv_iload hx hb dL_wires_174 (lv_at hl 8 rfl) ?_
          refine lv_iload hx hb dL_wires_176 (lv_at hl 10 rfl) ?_
          refine lv_iload hx hb dL_wires_178 (lv_at hl 7 rfl) ?_
          refine lv_iload hx hb dL_wires_180 (lv_at hl 6 rfl) ?_
          refine u_iE (v := (reS R w dp (nI a) cn + (acL (R (5 + 11 * w + 8)) (nI a) * (swL (R (5 + 11 * w + 9)) ((4 * qdI (R (5 + 11 * w + 4))) / 4) (R (5 + 11 * w + 10)) * dp / R (5 + 11 * w + 4))))) (ru_S (As := [.ref (gz g + 0), .int (nI w), .int dp, .int (nI a), .int (R (5 + 11 * w + 9)), .int (R (5 + 11 * w + 10))]) (rest := [.int (reS R w dp (nI a) cn + syF (fun q => R (5 + 11 * w + q)) dp (nI a))]) F h (k_L_at l g n c hWd J w hw4 h1 dp hdp.1 hdp.2 a ha (R (5 + 11 * w + 9)) (R (5 + 11 * w + 10))) (gS hjl wd_502 wd_503 wd_15 wd_504) rfl 6 (by decide +kernel) rfl ⟨Nat.le_of_ble_eq_true rfl, Nat.le_of_ble_eq_true rfl⟩ rfl hl.1 (Nat.le_of_ble_eq_true rfl) ⟨Nat.zero_le _, Nat.zero_le _⟩ dL_wires_182) h (fun H locs h => ?_)
          refine lv_icmp_ne (tgt := 263) hx hb dL_wires_185 (by decide) (fun b_185 => by first | exact absurd b_185 (congrArg (reS R w dp (nI a) cn + ·) (at_sy gw dp ha).symm) | exact absurd (congrArg (reS R w dp (nI a) cn + ·) (at_sy gw dp ha).symm) b_185) (fun b_185 => ?_)
          refine lv_aload_n hx hb dL_wires_188 rfl (lv_at hl 0 rfl) ?_
          refine lv_iload_n hx hb dL_wires_189 rfl (lv_at hl 3 rfl) ?_
          refine lv_iconst (v := 0) hx hb dL_wires_190 (by decide) ?_
          refine lv_iload hx hb dL_wires_191 (lv_at hl 10 rfl) ?_
          refine u_iE (v := reS R w 0 (nI a) cn) (ru_V (As := [.int (nI w), .int 0, .int (nI a)]) (rest := []) F h hWd.1 rfl (kw_rest l g n c hWd J (nI w) 0 (nI a) (v := reS R w 0 (nI a) cn) (re_v hw4 h1 bt_z ha (by have a1 := g4.1; dsimp only at a1; show (0 : Int) ≤ _; omega))) (gV hjl wd_447 wd_448 wd_449 wd_16 wd_450) rfl 3 (by decide +kernel) rfl ⟨Nat.le_of_ble_eq_true rfl, Nat.le_of_ble_eq_true rfl⟩ rfl hl.1 (Nat.le_of_ble_eq_true rfl) ⟨Nat.zero_le _, Nat.zero_le _⟩ dL_wires_193) h (fun H locs h => ?_)
          refine lv_aload_n hx hb dL_wires_196 rfl (lv_at hl 0 rfl) ?_
          refine lv_iload_n hx hb dL_wires_197 rfl (lv_at hl 3 rfl) ?_
          refine lv_iload hx hb dL_wires_198 (lv_at hl 10 rfl) ?_
          refine u_iE (v := sq_X7_wire R (nI w) (nI a)) (ru_V (As := [.int (nI w), .int (nI a)]) (rest := [.int (reS R w 0 (nI a) cn)]) F h hWd.1 rfl (kw_wire l g n c hWd J (nI w) (nI a) (v := sq_X7_wire R (nI w) (nI a)) (rfl)) (gV hjl wd_390 wd_391 wd_392 wd_16 wd_393) rfl 2 (by decide +kernel) rfl ⟨Nat.le_of_ble_eq_true rfl, Nat.le_of_ble_eq_true rfl⟩ rfl hl.1 (Nat.le_of_ble_eq_true rfl) ⟨Nat.zero_le _, Nat.zero_le _⟩ dL_wires_200) h (fun H locs h => ?_)
          refine lv_aload_n hx hb dL_wires_203 rfl (lv_at hl 0 rfl) ?_
          refine lv_iload_n hx hb dL_wires_204 rfl (lv_at hl 3 rfl) ?_
          refine lv_iconst (v := 4) hx hb dL_wires_205 (by decide) ?_
          refine lv_iload hx hb dL_wires_206 (lv_at hl 10 rfl) ?_
          refine lv_iadd hx hb dL_wires_208 ?_
          refine u_iE (v := sq_X7_wire R (nI w) (4 + nI a)) (ru_V (As := [.int (nI w), .int (4 + nI a)]) (rest := [.int (sq_X7_wire R (nI w) (nI a)), .int (reS R w 0 (nI a) cn)]) F h hWd.1 rfl (kw_wire l g n c hWd J (nI w) (4 + nI a) (v := sq_X7_wire R (nI w) (4 + nI a)) (rfl)) (gV hjl wd_390 wd_391 wd_392 wd_16 wd_393) rfl 2 (by decide +kernel) rfl ⟨Nat.le_of_ble_eq_true rfl, Nat.le_of_ble_eq_true rfl⟩ rfl hl.1 (Nat.le_of_ble_eq_true rfl) ⟨Nat.zero_le _, Nat.zero_le _⟩ dL_wires_209) h (fun H locs h => ?_)
          refine lv_iadd hx hb dL_wires_212 ?_
          refine lv_icmp_ne (tgt := 263) hx hb dL_wires_213 (by decide) (fun b_213 => by first | exact absurd b_213 (wa_v hw4 h1 ha) | exact absurd (wa_v hw4 h1 ha) b_213) (fun b_213 => ?_)
          refine lv_aload_n hx hb dL_wires_216 rfl (lv_at hl 0 rfl) ?_
          refine lv_iload_n hx hb dL_wires_217 rfl (lv_at hl 3 rfl) ?_
          refine lv_iconst (v := 0) hx hb dL_wires_218 (by decide) ?_
          refine lv_iload hx hb dL_wires_219 (lv_at hl 10 rfl) ?_
          refine u_iE (v := reS R w 0 (nI a) cn) (ru_V (As := [.int (nI w), .int 0, .int (nI a)]) (rest := []) F h hWd.1 rfl (kw_position l g n c hWd J (nI w) 0 (nI a) (v := reS R w 0 (nI a) cn) ((po_v hw4 h1 bt_z ha (by have a1 := g4.1; dsimp only at a1; show (0 : Int) ≤ _; omega)).trans (by rw [sy_0, Int32.add_zero]))) (gV hjl wd_470 wd_471 wd_472 wd_16 wd_473) rfl 3 (by decide +kernel) rfl ⟨Nat.le_of_ble_eq_true rfl, Nat.le_of_ble_eq_true rfl⟩ rfl hl.1 (Nat.le_of_ble_eq_true rfl) ⟨Nat.zero_le _, Nat.zero_le _⟩ dL_wires_221) h (fun H locs h => ?_)
          refine lv_aload_n hx hb dL_wires_224 rfl (lv_at hl 0 rfl) ?_
          refine lv_iload_n hx hb dL_wires_225 rfl (lv_at hl 3 rfl) ?_
          refine lv_iconst (v := 0) hx hb dL_wires_226 (by decide) ?_
          refine lv_iload hx hb dL_wires_227 (lv_at hl 10 rfl) ?_
          refine u_iE (v := reS R w 0 (nI a) cn) (ru_V (As := [.int (nI w), .int 0, .int (nI a)]) (rest := [.int (reS R w 0 (nI a) cn)]) F h hWd.1 rfl (kw_rest l g n c hWd J (nI w) 0 (nI a) (v := reS R w 0 (nI a) cn) (re_v hw4 h1 bt_z ha (by have a1 := g4.1; dsimp only at a1; show (0 : Int) ≤ _; omega))) (gV hjl wd_447 wd_448 wd_449 wd_16 wd_450) rfl 3 (by decide +kernel) rfl ⟨Nat.le_of_ble_eq_true rfl, Nat.le_of_ble_eq_true rfl⟩ rfl hl.1 (Nat.le_of_ble_eq_true rfl) ⟨Nat.zero_le _, Nat.zero_le _⟩ dL_wires_229) h (fun H locs h => ?_)
          refine lv_icmp_ne (tgt := 263) hx hb dL_wires_232 (by decide) (fun b_232 => by first | exact absurd b_232 (rfl) | exact absurd (rfl) b_232) (fun b_232 => ?_)
          refine lv_iload hx hb dL_wires_235 (lv_at hl 4 rfl) ?_
          refine lv_sipush (v := 800) hx hb dL_wires_237 (by decide) ?_
          refine lv_icmp_eq (tgt := 259) hx hb dL_wires_240 (by decide) (fun b_240 => ?_) (fun b_240 => ?_)
          · skip
            refine lv_iconst (v := 1) hx hb dL_wires_259 (by decide) ?_
            refine lv_goto (tgt := 264) hx hb dL_wires_260 (by decide) ?_
            refine lv_istore (lv' := [(9, .int 1), (0, .ref (gz g + 0)), (1, .int z), (2, .int (ctI (fun v => R (5 + 11 * v)) (w + 1))), (3, .int (nI w)), (4, .int (R (5 + 11 * w + 4))), (5, .int (4 * qdI (R (5 + 11 * w + 4)))), (6, .int (R (5 + 11 * w + 10))), (7, .int (R (5 + 11 * w + 9))), (8, .int dp), (10, .int (nI a))]) hx hb dL_wires_264 hl (by decide) rfl (fun ls hl => ?_)
            refine lv_iinc (v := nI (a + 1)) (lv' := [(10, .int (nI (a + 1))), (9, .int 1), (0, .ref (gz g + 0)), (1, .int z), (2, .int (ctI (fun v => R (5 + 11 * v)) (w + 1))), (3, .int (nI w)), (4, .int (R (5 + 11 * w + 4))), (5, .int (4 * qdI (R (5 + 11 * w + 4)))), (6, .int (R (5 + 11 * w + 10))), (7, .int (R (5 + 11 * w + 9))), (8, .int dp)]) hx hb dL_wires_266 hl (k := 10) rfl (by exact (nI_succ a).symm) (by decide) rfl (fun ls hl => ?_)
            refine lv_goto (tgt := 152) hx hb dL_wires_269 (by decide) ?_
            exact ih_la (a + 1) (by omega) _ _ _ (by omega) h (lv_sub hl [2, 3, 4, 5, 6, 7, 8, 9, 10, 1, 0] rfl)
          refine lv_aload_n hx hb dL_wires_243 rfl (lv_at hl 0 rfl) ?_
          refine lv_iload_n hx hb dL_wires_244 rfl (lv_at hl 3 rfl) ?_
          refine lv_iload hx hb dL_wires_245 (lv_at hl 4 rfl) ?_
          refine lv_iconst (v := 1) hx hb dL_wires_247 (by decide) ?_
          refine lv_iadd hx hb dL_wires_248 ?_
          refine lv_iload hx hb dL_wires_249 (lv_at hl 10 rfl) ?_
          refine u_iE (v := (-100005)) (ru_V (As := [.int (nI w), .int (R (5 + 11 * w + 4) + 1), .int (nI a)]) (rest := []) F h hWd.1 rfl (kw_rest l g n c hWd J (nI w) (R (5 + 11 * w + 4) + 1) (nI a) (v := (-100005)) (re_e5 (er_d hw4 (by have a1 := g4.1; have a2 := g4.2; dsimp only at a1 a2; have a3 : (R (5 + 11 * w + 4)).toInt ≠ 800 := fun q => b_240 ((i_eq _ _).mpr q); unfold Bt; rw [hd1]; omega) ha (by rw [hd1]; omega)) (by decide))) (gV hjl wd_447 wd_448 wd_449 wd_16 wd_450) rfl 3 (by decide +kernel) rfl ⟨Nat.le_of_ble_eq_true rfl, Nat.le_of_ble_eq_true rfl⟩ rfl hl.1 (Nat.le_of_ble_eq_true rfl) ⟨Nat.zero_le _, Nat.zero_le _⟩ dL_wires_251) h (fun H locs h => ?_)
          refine lv_ldc (v := (-100005)) hx hb F.2.2.2.1 (F.2.2.2.2.1 (Cond.constant RL 35 (-100005)) (List.mem_cons_of_mem _ wd_446)) dL_wires_254 ?_
          refine lv_icmp_ne (tgt := 263) hx hb dL_wires_256 (by decide) (fun b_256 => by first | exact absurd b_256 (by decide) | exact absurd (by decide) b_256) (fun b_256 => ?_)
          refine lv_iconst (v := 1) hx hb dL_wires_259 (by decide) ?_
          refine lv_goto (tgt := 264) hx hb dL_wires_260 (by decide) ?_
          refine lv_istore (lv' := [(9, .int 1), (0, .ref (gz g + 0)), (1, .int z), (2, .int (ctI (fun v => R (5 + 11 * v)) (w + 1))), (3, .int (nI w)), (4, .int (R (5 + 11 * w + 4))), (5, .int (4 * qdI (R (5 + 11 * w + 4)))), (6, .int (R (5 + 11 * w + 10))), (7, .int (R (5 + 11 * w + 9))), (8, .int dp), (10, .int (nI a))]) hx hb dL_wires_264 hl (by decide) rfl (fun ls hl => ?_)
          refine lv_iinc (v := nI (a + 1)) (lv' := [(10, .int (nI (a + 1))), (9, .int 1), (0, .ref (gz g + 0)), (1, .int z), (2, .int (ctI (fun v => R (5 + 11 * v)) (w + 1))), (3, .int (nI w)), (4, .int (R (5 + 11 * w + 4))), (5, .int (4 * qdI (R (5 + 11 * w + 4)))), (6, .int (R (5 + 11 * w + 10))), (7, .int (R (5 + 11 * w + 9))), (8, .int dp)]) hx hb dL_wires_266 hl (k := 10) rfl (by exact (nI_succ a).symm) (by decide) rfl (fun ls hl => ?_)
          refine lv_goto (tgt := 152) hx hb dL_wires_269 (by decide) ?_
          exact ih_la (a + 1) (by omega) _ _ _ (by omega) h (lv_sub hl [2, 3, 4, 5, 6, 7, 8, 9, 10, 1, 0] rfl)
      exact la _ 0 (Nat.zero_le _) _ _ _ (Nat.le_refl _) h (lv_sub hl [8, 9, 7, 10, 6, 5, 4, 3, 2, 1, 0] rfl)
  exact lw _ 0 (Nat.zero_le _) _ _ _ (Nat.le_refl _) h (lv_sub hl [2, 3, 1, 0] rfl)
