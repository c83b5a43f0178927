/-! The law: bearings. -/
set_option maxHeartbeats 4000000 in
set_option maxRecDepth 100000 in
theorem k_L_bearings (l : Launch) (g : Gf) (n : Nat) (c : Mp) {lh : Nat} {rs : Int32} {R : Nat → Int32} {hq : Nat → Nat → Int32} (hWd : Wd g c lh rs R hq) {sc cn tb : Nat} (J : Jv R sc cn tb) (dx dy : Int32) (hx : Bt dx (-2000) 2000) (hy : Bt dy (-2000) 2000) : Ct l g yL_bearings wsL_bearings 3 68 0 0 [.ref (gz g + 0), .int dx, .int dy] n c (Qi g (fun xr n' c' => xr = 1 ∧ n' = n ∧ c' = c)) := by
  have hx1 := hx
  have hy1 := hy
  refine ent (by decide) rfl (Nat.le_of_ble_eq_true rfl) ?_
  intro p e s m args below meth c0 F h ls hl
  have hx := F.1
  have hb := F.2.1
  have hl : lv_has ls 6 [(0, .ref (gz g + 0)), (1, .int dx), (2, .int dy)] := hl
  by_cases h00 : dx = 0 ∧ dy = 0
  · skip
    refine lv_iload_n hx hb dL_bearings_0 rfl (lv_at hl 1 rfl) ?_
    refine lv_if_ne (tgt := 25) hx hb dL_bearings_1 (by decide) (fun b_1 => by first | exact absurd b_1 (h00.1) | exact absurd (h00.1) b_1) (fun b_1 => ?_)
    refine lv_iload_n hx hb dL_bearings_4 rfl (lv_at hl 2 rfl) ?_
    refine lv_if_ne (tgt := 25) hx hb dL_bearings_5 (by decide) (fun b_5 => by first | exact absurd b_5 (h00.2) | exact absurd (h00.2) b_5) (fun b_5 => ?_)
    refine lv_aload_n hx hb dL_bearings_8 rfl (lv_at hl 0 rfl) ?_
    refine lv_iconst (v := 0) hx hb dL_bearings_9 (by decide) ?_
    refine lv_iconst (v := 0) hx hb dL_bearings_10 (by decide) ?_
    refine u_iE (v := (-100002)) (ru_V (As := [.int 0, .int 0]) (rest := []) F h hWd.1 rfl (kw_bearing l g n c hWd J 0 0 (v := (-100002)) (bg_0)) (gV hjl wd_429 wd_430 wd_431 wd_16 wd_432) rfl 2 (by decide +kernel) rfl ⟨Nat.le_of_ble_eq_true rfl, Nat.le_of_ble_eq_true rfl⟩ rfl hl.1 (Nat.le_of_ble_eq_true rfl) ⟨Nat.zero_le _, Nat.zero_le _⟩ dL_bearings_11) h (fun H locs h => ?_)
    refine lv_ldc (v := (-100002)) hx hb F.2.2.2.1 (F.2.2.2.2.1 (Cond.constant RL 15 (-100002)) (List.mem_cons_of_mem _ wd_442)) dL_bearings_14 ?_
    refine lv_icmp_ne (tgt := 23) hx hb dL_bearings_16 (by decide) (fun b_16 => by first | exact absurd b_16 (by decide) | exact absurd (by decide) b_16) (fun b_16 => ?_)
    refine lv_iconst (v := 1) hx hb dL_bearings_19 (by decide) ?_
    refine lv_goto (tgt := 24) hx hb dL_bearings_20 (by decide) ?_
    exact ret_z F h (by decide) (Nat.zero_le _) (Nat.zero_le _) dL_bearings_24 (⟨rfl, rfl, rfl⟩)
  refine lv_iload_n hx hb dL_bearings_0 rfl (lv_at hl 1 rfl) ?_
  refine lv_if_ne (tgt := 25) hx hb dL_bearings_1 (by decide) (fun b_1 => ?_) (fun b_1 => ?_)
  · skip
    have hr := bg_r (R := R) (bt_w hx1 (a' := -20000) (b' := 20000) (by decide) (by decide)) (bt_w hy1 (a' := -20000) (b' := 20000) (by decide) (by decide)) h00
    refine lv_aload_n hx hb dL_bearings_25 rfl (lv_at hl 0 rfl) ?_
    refine lv_iload_n hx hb dL_bearings_26 rfl (lv_at hl 1 rfl) ?_
    refine lv_iload_n hx hb dL_bearings_27 rfl (lv_at hl 2 rfl) ?_
    refine u_iE (v := sq_X7_bearing R dx dy) (ru_V (As := [.int dx, .int dy]) (rest := []) F h hWd.1 rfl (kw_bearing l g n c hWd J dx dy (v := sq_X7_bearing R dx dy) (rfl)) (gV hjl wd_429 wd_430 wd_431 wd_16 wd_432) rfl 2 (by decide +kernel) rfl ⟨Nat.le_of_ble_eq_true rfl, Nat.le_of_ble_eq_true rfl⟩ rfl hl.1 (Nat.le_of_ble_eq_true rfl) ⟨Nat.zero_le _, Nat.zero_le _⟩ dL_bearings_28) h (fun H locs h => ?_)
    refine lv_istore_n (lv' := [(3, .int (sq_X7_bearing R dx dy)), (0, .ref (gz g + 0)), (1, .int dx), (2, .int dy)]) hx hb dL_bearings_31 rfl hl (by decide) rfl (fun ls hl => ?_)
    refine lv_aload_n hx hb dL_bearings_32 rfl (lv_at hl 1 rfl) ?_
    refine lv_iload_n hx hb dL_bearings_33 rfl (lv_at hl 3 rfl) ?_
    refine lv_ineg hx hb dL_bearings_34 ?_
    refine lv_iload_n hx hb dL_bearings_35 rfl (lv_at hl 2 rfl) ?_
    refine u_iE (v := sq_X7_bearing R (-dy) dx) (ru_V (As := [.int (-dy), .int dx]) (rest := []) F h hWd.1 rfl (kw_bearing l g n c hWd J (-dy) dx (v := sq_X7_bearing R (-dy) dx) (rfl)) (gV hjl wd_429 wd_430 wd_431 wd_16 wd_432) rfl 2 (by decide +kernel) rfl ⟨Nat.le_of_ble_eq_true rfl, Nat.le_of_ble_eq_true rfl⟩ rfl hl.1 (Nat.le_of_ble_eq_true rfl) ⟨Nat.zero_le _, Nat.zero_le _⟩ dL_bearings_36) h (fun H locs h => ?_)
    refine lv_iload_n hx hb dL_bearings_39 rfl (lv_at hl 0 rfl) ?_
    refine lv_sipush (v := 2000) hx hb dL_bearings_40 (by decide) ?_
    refine lv_iadd hx hb dL_bearings_43 ?_
    refine lv_sipush (v := 8000) hx hb dL_bearings_44 (by decide) ?_
    refine lv_irem hx hb dL_bearings_47 (by decide) ?_
    refine lv_icmp_ne (tgt := 94) hx hb dL_bearings_48 (by decide) (fun b_48 => by first | exact absurd b_48 (bg_q hx1 hy1 h00) | exact absurd (bg_q hx1 hy1 h00) b_48) (fun b_48 => ?_)
    refine lv_aload_n hx hb dL_bearings_51 rfl (lv_at hl 1 rfl) ?_
    refine lv_iload_n hx hb dL_bearings_52 rfl (lv_at hl 2 rfl) ?_
    refine lv_ineg hx hb dL_bearings_53 ?_
    refine lv_iload_n hx hb dL_bearings_54 rfl (lv_at hl 3 rfl) ?_
    refine lv_ineg hx hb dL_bearings_55 ?_
    refine u_iE (v := sq_X7_bearing R (-dx) (-dy)) (ru_V (As := [.int (-dx), .int (-dy)]) (rest := []) F h hWd.1 rfl (kw_bearing l g n c hWd J (-dx) (-dy) (v := sq_X7_bearing R (-dx) (-dy)) (rfl)) (gV hjl wd_429 wd_430 wd_431 wd_16 wd_432) rfl 2 (by decide +kernel) rfl ⟨Nat.le_of_ble_eq_true rfl, Nat.le_of_ble_eq_true rfl⟩ rfl hl.1 (Nat.le_of_ble_eq_true rfl) ⟨Nat.zero_le _, Nat.zero_le _⟩ dL_bearings_56) h (fun H locs h => ?_)
    refine lv_iload_n hx hb dL_bearings_59 rfl (lv_at hl 0 rfl) ?_
    refine lv_sipush (v := 4000) hx hb dL_bearings_60 (by decide) ?_
    refine lv_iadd hx hb dL_bearings_63 ?_
    refine lv_sipush (v := 8000) hx hb dL_bearings_64 (by decide) ?_
    refine lv_irem hx hb dL_bearings_67 (by decide) ?_
    refine lv_icmp_ne (tgt := 94) hx hb dL_bearings_68 (by decide) (fun b_68 => by first | exact absurd b_68 (bg_h hx1 hy1 h00) | exact absurd (bg_h hx1 hy1 h00) b_68) (fun b_68 => ?_)
    refine lv_aload_n hx hb dL_bearings_71 rfl (lv_at hl 1 rfl) ?_
    refine lv_iload_n hx hb dL_bearings_72 rfl (lv_at hl 3 rfl) ?_
    refine lv_iload_n hx hb dL_bearings_73 rfl (lv_at hl 2 rfl) ?_
    refine lv_ineg hx hb dL_bearings_74 ?_
    refine u_iE (v := sq_X7_bearing R dy (-dx)) (ru_V (As := [.int dy, .int (-dx)]) (rest := []) F h hWd.1 rfl (kw_bearing l g n c hWd J dy (-dx) (v := sq_X7_bearing R dy (-dx)) (rfl)) (gV hjl wd_429 wd_430 wd_431 wd_16 wd_432) rfl 2 (by decide +kernel) rfl ⟨Nat.le_of_ble_eq_true rfl, Nat.le_of_ble_eq_true rfl⟩ rfl hl.1 (Nat.le_of_ble_eq_true rfl) ⟨Nat.zero_le _, Nat.zero_le _⟩ dL_bearings_75) h (fun H locs h => ?_)
    refine lv_iload_n hx hb dL_bearings_78 rfl (lv_at hl 0 rfl) ?_
    refine lv_sipush (v := 6000) hx hb dL_bearings_79 (by decide) ?_
    refine lv_iadd hx hb dL_bearings_82 ?_
    refine lv_sipush (v := 8000) hx hb dL_bearings_83 (by decide) ?_
    refine lv_irem hx hb dL_bearings_86 (by decide) ?_
    refine lv_icmp_ne (tgt := 94) hx hb dL_bearings_87 (by decide) (fun b_87 => by first | exact absurd b_87 (bg_t hx1 hy1 h00) | exact absurd (bg_t hx1 hy1 h00) b_87) (fun b_87 => ?_)
    refine lv_iconst (v := 1) hx hb dL_bearings_90 (by decide) ?_
    refine lv_goto (tgt := 95) hx hb dL_bearings_91 (by decide) ?_
    refine lv_istore (lv' := [(4, .int 1), (3, .int (sq_X7_bearing R dx dy)), (0, .ref (gz g + 0)), (1, .int dx), (2, .int dy)]) hx hb dL_bearings_95 hl (by decide) rfl (fun ls hl => ?_)
    refine lv_iload_n hx hb dL_bearings_97 rfl (lv_at hl 3 rfl) ?_
    refine u_iE (v := (szI dx)) (ru_S (As := [.int dx]) (rest := []) F h (k_L_size l g n c dx) (gS hjl wd_423 wd_424 wd_15 wd_425) rfl 1 (by decide +kernel) rfl ⟨Nat.le_of_ble_eq_true rfl, Nat.le_of_ble_eq_true rfl⟩ rfl hl.1 (Nat.le_of_ble_eq_true rfl) ⟨Nat.zero_le _, Nat.zero_le _⟩ dL_bearings_98) h (fun H locs h => ?_)
    refine lv_sipush (v := 10000) hx hb dL_bearings_101 (by decide) ?_
    refine lv_icmp_gt (tgt := 131) hx hb dL_bearings_104 (by decide) (fun b_104 => by first | exact absurd b_104 (i_nlt (sz_le hx1 (by decide) 10000 (by decide))) | exact absurd (i_nlt (sz_le hx1 (by decide) 10000 (by decide))) b_104) (fun b_104 => ?_)
    refine lv_iload_n hx hb dL_bearings_107 rfl (lv_at hl 4 rfl) ?_
    refine u_iE (v := (szI dy)) (ru_S (As := [.int dy]) (rest := []) F h (k_L_size l g n c dy) (gS hjl wd_423 wd_424 wd_15 wd_425) rfl 1 (by decide +kernel) rfl ⟨Nat.le_of_ble_eq_true rfl, Nat.le_of_ble_eq_true rfl⟩ rfl hl.1 (Nat.le_of_ble_eq_true rfl) ⟨Nat.zero_le _, Nat.zero_le _⟩ dL_bearings_108) h (fun H locs h => ?_)
    refine lv_sipush (v := 10000) hx hb dL_bearings_111 (by decide) ?_
    refine lv_icmp_gt (tgt := 131) hx hb dL_bearings_114 (by decide) (fun b_114 => by first | exact absurd b_114 (i_nlt (sz_le hy1 (by decide) 10000 (by decide))) | exact absurd (i_nlt (sz_le hy1 (by decide) 10000 (by decide))) b_114) (fun b_114 => ?_)
    refine lv_aload_n hx hb dL_bearings_117 rfl (lv_at hl 2 rfl) ?_
    refine lv_iconst (v := 2) hx hb dL_bearings_118 (by decide) ?_
    refine lv_iload_n hx hb dL_bearings_119 rfl (lv_at hl 3 rfl) ?_
    refine lv_imul hx hb dL_bearings_120 ?_
    refine lv_iconst (v := 2) hx hb dL_bearings_121 (by decide) ?_
    refine lv_iload_n hx hb dL_bearings_122 rfl (lv_at hl 4 rfl) ?_
    refine lv_imul hx hb dL_bearings_123 ?_
    refine u_iE (v := sq_X7_bearing R (2 * dx) (2 * dy)) (ru_V (As := [.int (2 * dx), .int (2 * dy)]) (rest := []) F h hWd.1 rfl (kw_bearing l g n c hWd J (2 * dx) (2 * dy) (v := sq_X7_bearing R (2 * dx) (2 * dy)) (rfl)) (gV hjl wd_429 wd_430 wd_431 wd_16 wd_432) rfl 2 (by decide +kernel) rfl ⟨Nat.le_of_ble_eq_true rfl, Nat.le_of_ble_eq_true rfl⟩ rfl hl.1 (Nat.le_of_ble_eq_true rfl) ⟨Nat.zero_le _, Nat.zero_le _⟩ dL_bearings_124) h (fun H locs h => ?_)
    refine lv_iload_n hx hb dL_bearings_127 rfl (lv_at hl 1 rfl) ?_
    refine lv_icmp_ne (tgt := 135) hx hb dL_bearings_128 (by decide) (fun b_128 => by first | exact absurd b_128 (bg_d hx1 hy1 h00) | exact absurd (bg_d hx1 hy1 h00) b_128) (fun b_128 => ?_)
    refine lv_iconst (v := 1) hx hb dL_bearings_131 (by decide) ?_
    refine lv_goto (tgt := 136) hx hb dL_bearings_132 (by decide) ?_
    refine lv_istore (lv' := [(5, .int 1), (4, .int 1), (3, .int (sq_X7_bearing R dx dy)), (0, .ref (gz g + 0)), (1, .int dx), (2, .int dy)]) hx hb dL_bearings_136 hl (by decide) rfl (fun ls hl => ?_)
    refine lv_iload hx hb dL_bearings_138 (lv_at hl 1 rfl) ?_
    refine lv_if_eq (tgt := 189) hx hb dL_bearings_140 (by decide) (fun b_140 => by first | exact absurd b_140 (by decide) | exact absurd (by decide) b_140) (fun b_140 => ?_)
    refine lv_iload hx hb dL_bearings_143 (lv_at hl 0 rfl) ?_
    refine lv_if_eq (tgt := 189) hx hb dL_bearings_145 (by decide) (fun b_145 => by first | exact absurd b_145 (by decide) | exact absurd (by decide) b_145) (fun b_145 => ?_)
    refine lv_iload_n hx hb dL_bearings_148 rfl (lv_at hl 2 rfl) ?_
    refine lv_if_lt (tgt := 189) hx hb dL_bearings_149 (by decide) (fun b_149 => by first | exact absurd b_149 (i_nlt (bt_ge hr 0 (by decide))) | exact absurd (i_nlt (bt_ge hr 0 (by decide))) b_149) (fun b_149 => ?_)
    refine lv_iload_n hx hb dL_bearings_152 rfl (lv_at hl 2 rfl) ?_
    refine lv_sipush (v := 8000) hx hb dL_bearings_153 (by decide) ?_
    refine lv_icmp_ge (tgt := 189) hx hb dL_bearings_156 (by decide) (fun b_156 => by first | exact absurd b_156 (i_nle (bt_lt hr 8000 (by decide))) | exact absurd (i_nle (bt_lt hr 8000 (by decide))) b_156) (fun b_156 => ?_)
    refine lv_aload_n hx hb dL_bearings_159 rfl (lv_at hl 3 rfl) ?_
    refine lv_sipush (v := 20001) hx hb dL_bearings_160 (by decide) ?_
    refine lv_iconst (v := 0) hx hb dL_bearings_163 (by decide) ?_
    refine u_iE (v := (-100002)) (ru_V (As := [.int 20001, .int 0]) (rest := []) F h hWd.1 rfl (kw_bearing l g n c hWd J 20001 0 (v := (-100002)) (bg_b (by decide))) (gV hjl wd_429 wd_430 wd_431 wd_16 wd_432) rfl 2 (by decide +kernel) rfl ⟨Nat.le_of_ble_eq_true rfl, Nat.le_of_ble_eq_true rfl⟩ rfl hl.1 (Nat.le_of_ble_eq_true rfl) ⟨Nat.zero_le _, Nat.zero_le _⟩ dL_bearings_164) h (fun H locs h => ?_)
    refine lv_ldc (v := (-100002)) hx hb F.2.2.2.1 (F.2.2.2.2.1 (Cond.constant RL 15 (-100002)) (List.mem_cons_of_mem _ wd_442)) dL_bearings_167 ?_
    refine lv_icmp_ne (tgt := 189) hx hb dL_bearings_169 (by decide) (fun b_169 => by first | exact absurd b_169 (by decide) | exact absurd (by decide) b_169) (fun b_169 => ?_)
    refine lv_aload_n hx hb dL_bearings_172 rfl (lv_at hl 3 rfl) ?_
    refine lv_iconst (v := 0) hx hb dL_bearings_173 (by decide) ?_
    refine lv_sipush (v := (-20001)) hx hb dL_bearings_174 (by decide) ?_
    refine u_iE (v := (-100002)) (ru_V (As := [.int 0, .int (-20001)]) (rest := []) F h hWd.1 rfl (kw_bearing l g n c hWd J 0 (-20001) (v := (-100002)) (bg_c)) (gV hjl wd_429 wd_430 wd_431 wd_16 wd_432) rfl 2 (by decide +kernel) rfl ⟨Nat.le_of_ble_eq_true rfl, Nat.le_of_ble_eq_true rfl⟩ rfl hl.1 (Nat.le_of_ble_eq_true rfl) ⟨Nat.zero_le _, Nat.zero_le _⟩ dL_bearings_177) h (fun H locs h => ?_)
    refine lv_ldc (v := (-100002)) hx hb F.2.2.2.1 (F.2.2.2.2.1 (Cond.constant RL 15 (-100002)) (List.mem_cons_of_mem _ wd_442)) dL_bearings_180 ?_
    refine lv_icmp_ne (tgt := 189) hx hb dL_bearings_182 (by decide) (fun b_182 => by first | exact absurd b_182 (by decide) | exact absurd (by decide) b_182) (fun b_182 => ?_)
    refine lv_iconst (v := 1) hx hb dL_bearings_185 (by decide) ?_
    refine lv_goto (tgt := 190) hx hb dL_bearings_186 (by decide) ?_
    exact ret_z F h (by decide) (Nat.zero_le _) (Nat.zero_le _) dL_bearings_190 (⟨rfl, rfl, rfl⟩)
  refine lv_iload_n hx hb dL_bearings_4 rfl (lv_at hl 2 rfl) ?_
  refine lv_if_ne (tgt := 25) hx hb dL_bearings_5 (by decide) (fun b_5 => ?_) (fun b_5 => by first | exact absurd (fun q => h00 ⟨b_1, q⟩) b_5 | exact absurd b_5 (fun q => h00 ⟨b_1, q⟩))
  have hr := bg_r (R := R) (bt_w hx1 (a' := -20000) (b' := 20000) (by decide) (by decide)) (bt_w hy1 (a' := -20000) (b' := 20000) (by decide) (by decide)) h00
  refine lv_aload_n hx hb dL_bearings_25 rfl (lv_at hl 0 rfl) ?_
  refine lv_iload_n hx hb dL_bearings_26 rfl (lv_at hl 1 rfl) ?_
  refine lv_iload_n hx hb dL_bearings_27 rfl (lv_at hl 2 rfl) ?_
  refine u_iE (v := sq_X7_bearing R dx dy) (ru_V (As := [.int dx, .int dy]) (rest := []) F h hWd.1 rfl (kw_bearing l g n c hWd J dx dy (v := sq_X7_bearing R dx dy) (rfl)) (gV hjl wd_429 wd_430 wd_431 wd_16 wd_432) rfl 2 (by decide +kernel) rfl ⟨Nat.le_of_ble_eq_true rfl, Nat.le_of_ble_eq_true rfl⟩ rfl hl.1 (Nat.le_of_ble_eq_true rfl) ⟨Nat.zero_le _, Nat.zero_le _⟩ dL_bearings_28) h (fun H locs h => ?_)
  refine lv_istore_n (lv' := [(3, .int (sq_X7_bearing R dx dy)), (0, .ref (gz g + 0)), (1, .int dx), (2, .int dy)]) hx hb dL_bearings_31 rfl hl (by decide) rfl (fun ls hl => ?_)
  refine lv_aload_n hx hb dL_bearings_32 rfl (lv_at hl 1 rfl) ?_
  refine lv_iload_n hx hb dL_bearings_33 rfl (lv_at hl 3 rfl) ?_
  refine lv_ineg hx hb dL_bearings_34 ?_
  refine lv_iload_n hx hb dL_bearings_35 rfl (lv_at hl 2 rfl) ?_
  refine u_iE (v := sq_X7_bearing R (-dy) dx) (ru_V (As := [.int (-dy), .int dx]) (rest := []) F h hWd.1 rfl (kw_bearing l g n c hWd J (-dy) dx (v := sq_X7_bearing R (-dy) dx) (rfl)) (gV hjl wd_429 wd_430 wd_431 wd_16 wd_432) rfl 2 (by decide +kernel) rfl ⟨Nat.le_of_ble_eq_true rfl, Nat.le_of_ble_eq_true rfl⟩ rfl hl.1 (Nat.le_of_ble_eq_true rfl) ⟨Nat.zero_le _, Nat.zero_le _⟩ dL_bearings_36) h (fun H locs h => ?_)
  refine lv_iload_n hx hb dL_bearings_39 rfl (lv_at hl 0 rfl) ?_
  refine lv_sipush (v := 2000) hx hb dL_bearings_40 (by decide) ?_
  refine lv_iadd hx hb dL_bearings_43 ?_
  refine lv_sipush (v := 8000) hx hb dL_bearings_44 (by decide) ?_
  refine lv_irem hx hb dL_bearings_47 (by decide) ?_
  refine lv_icmp_ne (tgt := 94) hx hb dL_bearings_48 (by decide) (fun b_48 => by first | exact absurd b_48 (bg_q hx1 hy1 h00) | exact absurd (bg_q hx1 hy1 h00) b_48) (fun b_48 => ?_)
  refine lv_aload_n hx hb dL_bearings_51 rfl (lv_at hl 1 rfl) ?_
  refine lv_iload_n hx hb dL_bearings_52 rfl (lv_at hl 2 rfl) ?_
  refine lv_ineg hx hb dL_bearings_53 ?_
  refine lv_iload_n hx hb dL_bearings_54 rfl (lv_at hl 3 rfl) ?_
  refine lv_ineg hx hb dL_bearings_55 ?_
  refine u_iE (v := sq_X7_bearing R (-dx) (-dy)) (ru_V (As := [.int (-dx), .int (-dy)]) (rest := []) F h hWd.1 rfl (kw_bearing l g n c hWd J (-dx) (-dy) (v := sq_X7_bearing R (-dx) (-dy)) (rfl)) (gV hjl wd_429 wd_430 wd_431 wd_16 wd_432) rfl 2 (by decide +kernel) rfl ⟨Nat.le_of_ble_eq_true rfl, Nat.le_of_ble_eq_true rfl⟩ rfl hl.1 (Nat.le_of_ble_eq_true rfl) ⟨Nat.zero_le _, Nat.zero_le _⟩ dL_bearings_56) h (fun H locs h => ?_)
  refine lv_iload_n hx hb dL_bearings_59 rfl (lv_at hl 0 rfl) ?_
  refine lv_sipush (v := 4000) hx hb dL_bearings_60 (by decide) ?_
  refine lv_iadd hx hb dL_bearings_63 ?_
  refine lv_sipush (v := 8000) hx hb dL_bearings_64 (by decide) ?_
  refine lv_irem hx hb dL_bearings_67 (by decide) ?_
  refine lv_icmp_ne (tgt := 94) hx hb dL_bearings_68 (by decide) (fun b_68 => by first | exact absurd b_68 (bg_h hx1 hy1 h00) | exact absurd (bg_h hx1 hy1 h00) b_68) (fun b_68 => ?_)
  refine lv_aload_n hx hb dL_bearings_71 rfl (lv_at hl 1 rfl) ?_
  refine lv_iload_n hx hb dL_bearings_72 rfl (lv_at hl 3 rfl) ?_
  refine lv_iload_n hx hb dL_bearings_73 rfl (lv_at hl 2 rfl) ?_
  refine lv_ineg hx hb dL_bearings_74 ?_
  refine u_iE (v := sq_X7_bearing R dy (-dx)) (ru_V (As := [.int dy, .int (-dx)]) (rest := []) F h hWd.1 rfl (kw_bearing l g n c hWd J dy (-dx) (v := sq_X7_bearing R dy (-dx)) (rfl)) (gV hjl wd_429 wd_430 wd_431 wd_16 wd_432) rfl 2 (by decide +kernel) rfl ⟨Nat.le_of_ble_eq_true rfl, Nat.le_of_ble_eq_true rfl⟩ rfl hl.1 (Nat.le_of_ble_eq_true rfl) ⟨Nat.zero_le _, Nat.zero_le _⟩ dL_bearings_75) h (fun H locs h => ?_)
  refine lv_iload_n hx hb dL_bearings_78 rfl (lv_at hl 0 rfl) ?_
  refine lv_sipush (v := 6000) hx hb dL_bearings_79 (by decide) ?_
  refine lv_iadd hx hb dL_bearings_82 ?_
  refine lv_sipush (v := 8000) hx hb dL_bearings_83 (by decide) ?_
  refine lv_irem hx hb dL_bearings_86 (by decide) ?_
  refine lv_icmp_ne (tgt := 94) hx hb dL_bearings_87 (by decide) (fun b_87 => by first | exact absurd b_87 (bg_t hx1 hy1 h00) | exact absurd (bg_t hx1 hy1 h00) b_87) (fun b_87 => ?_)
  refine lv_iconst (v := 1) hx hb dL_bearings_90 (by decide) ?_
  refine lv_goto (tgt := 95) hx hb dL_bearings_91 (by decide) ?_
  refine lv_istore (lv' := [(4, .int 1), (3, .int (sq_X7_bearing R dx dy)), (0, .ref (gz g + 0)), (1, .int dx), (2, .int dy)]) hx hb dL_bearings_95 hl (by decide) rfl (fun ls hl => ?_)
  refine lv_iload_n hx hb dL_bearings_97 rfl (lv_at hl 3 rfl) ?_
  refine u_iE (v := (szI dx)) (ru_S (As := [.int dx]) (rest := []) F h (k_L_size l g n c dx) (gS hjl wd_423 wd_424 wd_15 wd_425) rfl 1 (by decide +kernel) rfl ⟨Nat.le_of_ble_eq_true rfl, Nat.le_of_ble_eq_true rfl⟩ rfl hl.1 (Nat.le_of_ble_eq_true rfl) ⟨Nat.zero_le _, Nat.zero_le _⟩ dL_bearings_98) h (fun H locs h => ?_)
  refine lv_sipush (v := 10000) hx hb dL_bearings_101 (by decide) ?_
  refine lv_icmp_gt (tgt := 131) hx hb dL_bearings_104 (by decide) (fun b_104 => by first | exact absurd b_104 (i_nlt (sz_le hx1 (by decide) 10000 (by decide))) | exact absurd (i_nlt (sz_le hx1 (by decide) 10000 (by decide))) b_104) (fun b_104 => ?_)
  refine lv_iload_n hx hb dL_bearings_107 rfl (lv_at hl 4 rfl) ?_
  refine u_iE (v := (szI dy)) (ru_S (As := [.int dy]) (rest := []) F h (k_L_size l g n c dy) (gS hjl wd_423 wd_424 wd_15 wd_425) rfl 1 (by decide +kernel) rfl ⟨Nat.le_of_ble_eq_true rfl, Nat.le_of_ble_eq_true rfl⟩ rfl hl.1 (Nat.le_of_ble_eq_true rfl) ⟨Nat.zero_le _, Nat.zero_le _⟩ dL_bearings_108) h (fun H locs h => ?_)
  refine lv_sipush (v := 10000) hx hb dL_bearings_111 (by decide) ?_
  refine lv_icmp_gt (tgt := 131) hx hb dL_bearings_114 (by decide) (fun b_114 => by first | exact absurd b_114 (i_nlt (sz_le hy1 (by decide) 10000 (by decide))) | exact absurd (i_nlt (sz_le hy1 (by decide) 10000 (by decide))) b_114) (fun b_114 => ?_)
  refine lv_aload_n hx hb dL_bearings_117 rfl (lv_at hl 2 rfl) ?_
  refine lv_iconst (v := 2) hx hb dL_bearings_118 (by decide) ?_
  refine lv_iload_n hx hb dL_bearings_119 rfl (lv_at hl 3 rfl) ?_
  refine lv_imul hx hb dL_bearings_120 ?_
  refine lv_iconst (v := 2) hx hb dL_bearings_121 (by decide) ?_
  refine lv_iload_n hx hb dL_bearings_122 rfl (lv_at hl 4 rfl) ?_
  refine lv_imul hx hb dL_bearings_123 ?_
  refine u_iE (v := sq_X7_bearing R (2 * dx) (2 * dy)) (ru_V (As := [.int (2 * dx), .int (2 * dy)]) (rest := []) F h hWd.1 rfl (kw_bearing l g n c hWd J (2 * dx) (2 * dy) (v := sq_X7_bearing R (2 * dx) (2 * dy)) (rfl)) (gV hjl wd_429 wd_430 wd_431 wd_16 wd_432) rfl 2 (by decide +kernel) rfl ⟨Nat.le_of_ble_eq_true rfl, Nat.le_of_ble_eq_true rfl⟩ rfl hl.1 (Nat.le_of_ble_eq_true rfl) ⟨Nat.zero_le _, Nat.zero_le _⟩ dL_bearings_124) h (fun H locs h => ?_)
  refine lv_iload_n hx hb dL_bearings_127 rfl (lv_at hl 1 rfl) ?_
  refine lv_icmp_ne (tgt := 135) hx hb dL_bearings_128 (by decide) (fun b_128 => by first | exact absurd b_128 (bg_d hx1 hy1 h00) | exact absurd (bg_d hx1 hy1 h00) b_128) (fun b_128 => ?_)
  refine lv_iconst (v := 1) hx hb dL_bearings_131 (by decide) ?_
  refine lv_goto (tgt := 136) hx hb dL_bearings_132 (by decide) ?_
  refine lv_istore (lv' := [(5, .int 1), (4, .int 1), (3, .int (sq_X7_bearing R dx dy)), (0, .ref (gz g + 0)), (1, .int dx), (2, .int dy)]) hx hb dL_bearings_136 hl (by decide) rfl (fun ls hl => ?_)
  refine lv_iload hx hb dL_bearings_138 (lv_at hl 1 rfl) ?_
  refine lv_if_eq (tgt := 189) hx hb dL_bearings_140 (by decide) (fun b_140 => by first | exact absurd b_140 (by decide) | exact absurd (by decide) b_140) (fun b_140 => ?_)
  refine lv_iload hx hb dL_bearings_143 (lv_at hl 0 rfl) ?_
  refine lv_if_eq (tgt := 189) hx hb dL_bearings_145 (by decide) (fun b_145 => by first | exact absurd b_145 (by decide) | exact absurd (by decide) b_145) (fun b_145 => ?_)
  refine lv_iload_n hx hb dL_bearings_148 rfl (lv_at hl 2 rfl) ?_
  refine lv_if_lt (tgt := 189) hx hb dL_bearings_149 (by decide) (fun b_149 => by first | exact absurd b_149 (i_nlt (bt_ge hr 0 (by decide))) | exact absurd (i_nlt (bt_ge hr 0 (by decide))) b_149) (fun b_149 => ?_)
  refine lv_iload_n hx hb dL_bearings_152 rfl (lv_at hl 2 rfl) ?_
  refine lv_sipush (v := 8000) hx hb dL_bearings_153 (by decide) ?_
  refine lv_icmp_ge (tgt := 189) hx hb dL_bearings_156 (by decide) (fun b_156 => by first | exact absurd b_156 (i_nle (bt_lt hr 8000 (by decide))) | exact absurd (i_nle (bt_lt hr 8000 (by decide))) b_156) (fun b_156 => ?_)
  refine lv_aload_n hx hb dL_bearings_159 rfl (lv_at hl 3 rfl) ?_
  refine lv_sipush (v := 20001) hx hb dL_bearings_160 (by decide) ?_
  refine lv_iconst (v := 0) hx hb dL_bearings_163 (by decide) ?_
  refine u_iE (v := (-100002)) (ru_V (As := [.int 20001, .int 0]) (rest := []) F h hWd.1 rfl (kw_bearing l g n c hWd J 20001 0 (v := (-100002)) (bg_b (by decide))) (gV hjl wd_429 wd_430 wd_431 wd_16 wd_432) rfl 2 (by decide +kernel) rfl ⟨Nat.le_of_ble_eq_true rfl, Nat.le_of_ble_eq_true rfl⟩ rfl hl.1 (Nat.le_of_ble_eq_true rfl) ⟨Nat.zero_le _, Nat.zero_le _⟩ dL_bearings_164) h (fun H locs h => ?_)
  refine lv_ldc (v := (-100002)) hx hb F.2.2.2.1 (F.2.2.2.2.1 (Cond.constant RL 15 (-100002)) (List.mem_cons_of_mem _ wd_442)) dL_bearings_167 ?_
  refine lv_icmp_ne (tgt := 189) hx hb dL_bearings_169 (by decide) (fun b_169 => by first | exact absurd b_169 (by decide) | exact absurd (by decide) b_169) (fun b_169 => ?_)
  refine lv_aload_n hx hb dL_bearings_172 rfl (lv_at hl 3 rfl) ?_
  refine lv_iconst (v := 0) hx hb dL_bearings_173 (by decide) ?_
  refine lv_sipush (v := (-20001)) hx hb dL_bearings_174 (by decide) ?_
  refine u_iE (v := (-100002)) (ru_V (As := [.int 0, .int (-20001)]) (rest := []) F h hWd.1 rfl (kw_bearing l g n c hWd J 0 (-20001) (v := (-100002)) (bg_c)) (gV hjl wd_429 wd_430 wd_431 wd_16 wd_432) rfl 2 (by decide +kernel) rfl ⟨Nat.le_of_ble_eq_true rfl, Nat.le_of_ble_eq_true rfl⟩ rfl hl.1 (Nat.le_of_ble_eq_true rfl) ⟨Nat.zero_le _, Nat.zero_le _⟩ dL_bearings_177) h (fun H locs h => ?_)
  refine lv_ldc (v := (-100002)) hx hb F.2.2.2.1 (F.2.2.2.2.1 (Cond.constant RL 15 (-100002)) (List.mem_cons_of_mem _ wd_442)) dL_bearings_180 ?_
  refine lv_icmp_ne (tgt := 189) hx hb dL_bearings_182 (by decide) (fun b_182 => by first | exact absurd b_182 (by decide) | exact absurd (by decide) b_182) (fun b_182 => ?_)
  refine lv_iconst (v := 1) hx hb dL_bearings_185 (by decide) ?_
  refine lv_goto (tgt := 190) hx hb dL_bearings_186 (by decide) ?_
  exact ret_z F h (by decide) (Nat.zero_le _) (Nat.zero_le _) dL_bearings_190 (⟨rfl, rfl, rfl⟩)
