/-! The reference: questions over the row. -/
def sp_X8_part (d ax : Int32) : Int32 := if ax = 0 then (if d = 7 then (1) else (if 2 ≤ d then (if d ≤ 2 then (0) else (if 6 ≤ d then (0) else ((-1)))) else (1))) else (if ((d + 6) - (d + 6) / 8 * 8) = 7 then (1) else (if 2 ≤ ((d + 6) - (d + 6) / 8 * 8) then (if ((d + 6) - (d + 6) / 8 * 8) ≤ 2 then (0) else (if 6 ≤ ((d + 6) - (d + 6) / 8 * 8) then (0) else ((-1)))) else (1)))
set_option maxHeartbeats 4000000 in
set_option maxRecDepth 100000 in
theorem k_X8_part (l : Launch) (g : Gf) (n : Nat) (c : Mp) (d ax : Int32) : Ct l g yX8_part wsX8_part 0 0 0 0 [.int d, .int ax] n c (Qi g (fun xr n' c' => xr = sp_X8_part d ax ∧ n' = n ∧ c' = c)) := by
  refine ent (by decide) rfl (Nat.le_of_ble_eq_true rfl) ?_
  intro p e s m args below meth c0 F h ls hl
  have hx := F.1
  have hb := F.2.1
  have hl : lv_has ls 3 [(0, .int d), (1, .int ax)] := hl
  refine lv_iload_n hx hb dX8_part_0 rfl (lv_at hl 1 rfl) ?_
  refine lv_if_ne (tgt := 8) hx hb dX8_part_1 (by decide) (fun b_1 => ?_) (fun b_1 => ?_)
  · skip
    refine lv_iload_n hx hb dX8_part_8 rfl (lv_at hl 0 rfl) ?_
    refine lv_bipush (v := 6) hx hb dX8_part_9 (by decide) ?_
    refine lv_iadd hx hb dX8_part_11 ?_
    refine lv_bipush (v := 8) hx hb dX8_part_12 (by decide) ?_
    refine lv_irem hx hb dX8_part_14 (by decide) ?_
    refine lv_istore_n (lv' := [(2, .int ((d + 6) - (d + 6) / 8 * 8)), (0, .int d), (1, .int ax)]) hx hb dX8_part_15 rfl hl (by decide) rfl (fun ls hl => ?_)
    refine lv_iload_n hx hb dX8_part_16 rfl (lv_at hl 0 rfl) ?_
    refine lv_bipush (v := 7) hx hb dX8_part_17 (by decide) ?_
    refine lv_icmp_eq (tgt := 27) hx hb dX8_part_19 (by decide) (fun b_19 => ?_) (fun b_19 => ?_)
    · skip
      refine lv_iconst (v := 1) hx hb dX8_part_27 (by decide) ?_
      refine lv_goto (tgt := 47) hx hb dX8_part_28 (by decide) ?_
      exact ret_i F h (Nat.zero_le _) (Nat.zero_le _) dX8_part_47 (⟨((show sp_X8_part d ax = 1 by rw [sp_X8_part, if_neg (c := ax = 0) b_1, if_pos (c := ((d + 6) - (d + 6) / 8 * 8) = 7) b_19])).symm, rfl, rfl⟩)
    refine lv_iload_n hx hb dX8_part_22 rfl (lv_at hl 0 rfl) ?_
    refine lv_iconst (v := 2) hx hb dX8_part_23 (by decide) ?_
    refine lv_icmp_ge (tgt := 31) hx hb dX8_part_24 (by decide) (fun b_24 => ?_) (fun b_24 => ?_)
    · skip
      refine lv_iload_n hx hb dX8_part_31 rfl (lv_at hl 0 rfl) ?_
      refine lv_iconst (v := 2) hx hb dX8_part_32 (by decide) ?_
      refine lv_icmp_le (tgt := 46) hx hb dX8_part_33 (by decide) (fun b_33 => ?_) (fun b_33 => ?_)
      · skip
        refine lv_iconst (v := 0) hx hb dX8_part_46 (by decide) ?_
        exact ret_i F h (Nat.zero_le _) (Nat.zero_le _) dX8_part_47 (⟨((show sp_X8_part d ax = 0 by rw [sp_X8_part, if_neg (c := ax = 0) b_1, if_neg (c := ((d + 6) - (d + 6) / 8 * 8) = 7) b_19, if_pos (c := 2 ≤ ((d + 6) - (d + 6) / 8 * 8)) b_24, if_pos (c := ((d + 6) - (d + 6) / 8 * 8) ≤ 2) b_33])).symm, rfl, rfl⟩)
      refine lv_iload_n hx hb dX8_part_36 rfl (lv_at hl 0 rfl) ?_
      refine lv_bipush (v := 6) hx hb dX8_part_37 (by decide) ?_
      refine lv_icmp_ge (tgt := 46) hx hb dX8_part_39 (by decide) (fun b_39 => ?_) (fun b_39 => ?_)
      · skip
        refine lv_iconst (v := 0) hx hb dX8_part_46 (by decide) ?_
        exact ret_i F h (Nat.zero_le _) (Nat.zero_le _) dX8_part_47 (⟨((show sp_X8_part d ax = 0 by rw [sp_X8_part, if_neg (c := ax = 0) b_1, if_neg (c := ((d + 6) - (d + 6) / 8 * 8) = 7) b_19, if_pos (c := 2 ≤ ((d + 6) - (d + 6) / 8 * 8)) b_24, if_neg (c := ((d + 6) - (d + 6) / 8 * 8) ≤ 2) b_33, if_pos (c := 6 ≤ ((d + 6) - (d + 6) / 8 * 8)) b_39])).symm, rfl, rfl⟩)
      refine lv_iconst (v := (-1)) hx hb dX8_part_42 (by decide) ?_
      refine lv_goto (tgt := 47) hx hb dX8_part_43 (by decide) ?_
      exact ret_i F h (Nat.zero_le _) (Nat.zero_le _) dX8_part_47 (⟨((show sp_X8_part d ax = (-1) by rw [sp_X8_part, if_neg (c := ax = 0) b_1, if_neg (c := ((d + 6) - (d + 6) / 8 * 8) = 7) b_19, if_pos (c := 2 ≤ ((d + 6) - (d + 6) / 8 * 8)) b_24, if_neg (c := ((d + 6) - (d + 6) / 8 * 8) ≤ 2) b_33, if_neg (c := 6 ≤ ((d + 6) - (d + 6) / 8 * 8)) b_39])).symm, rfl, rfl⟩)
    refine lv_iconst (v := 1) hx hb dX8_part_27 (by decide) ?_
    refine lv_goto (tgt := 47) hx hb dX8_part_28 (by decide) ?_
    exact ret_i F h (Nat.zero_le _) (Nat.zero_le _) dX8_part_47 (⟨((show sp_X8_part d ax = 1 by rw [sp_X8_part, if_neg (c := ax = 0) b_1, if_neg (c := ((d + 6) - (d + 6) / 8 * 8) = 7) b_19, if_neg (c := 2 ≤ ((d + 6) - (d + 6) / 8 * 8)) b_24])).symm, rfl, rfl⟩)
  refine lv_iload_n hx hb dX8_part_4 rfl (lv_at hl 0 rfl) ?_
  refine lv_goto (tgt := 15) hx hb dX8_part_5 (by decide) ?_
  refine lv_istore_n (lv' := [(2, .int d), (0, .int d), (1, .int ax)]) hx hb dX8_part_15 rfl hl (by decide) rfl (fun ls hl => ?_)
  refine lv_iload_n hx hb dX8_part_16 rfl (lv_at hl 0 rfl) ?_
  refine lv_bipush (v := 7) hx hb dX8_part_17 (by decide) ?_
  refine lv_icmp_eq (tgt := 27) hx hb dX8_part_19 (by decide) (fun b_19 => ?_) (fun b_19 => ?_)
  · skip
    refine lv_iconst (v := 1) hx hb dX8_part_27 (by decide) ?_
    refine lv_goto (tgt := 47) hx hb dX8_part_28 (by decide) ?_
    exact ret_i F h (Nat.zero_le _) (Nat.zero_le _) dX8_part_47 (⟨((show sp_X8_part d ax = 1 by rw [sp_X8_part, if_pos (c := ax = 0) b_1, if_pos (c := d = 7) b_19])).symm, rfl, rfl⟩)
  refine lv_iload_n hx hb dX8_part_22 rfl (lv_at hl 0 rfl) ?_
  refine lv_iconst (v := 2) hx hb dX8_part_23 (by decide) ?_
  refine lv_icmp_ge (tgt := 31) hx hb dX8_part_24 (by decide) (fun b_24 => ?_) (fun b_24 => ?_)
  · skip
    refine lv_iload_n hx hb dX8_part_31 rfl (lv_at hl 0 rfl) ?_
    refine lv_iconst (v := 2) hx hb dX8_part_32 (by decide) ?_
    refine lv_icmp_le (tgt := 46) hx hb dX8_part_33 (by decide) (fun b_33 => ?_) (fun b_33 => ?_)
    · skip
      refine lv_iconst (v := 0) hx hb dX8_part_46 (by decide) ?_
      exact ret_i F h (Nat.zero_le _) (Nat.zero_le _) dX8_part_47 (⟨((show sp_X8_part d ax = 0 by rw [sp_X8_part, if_pos (c := ax = 0) b_1, if_neg (c := d = 7) b_19, if_pos (c := 2 ≤ d) b_24, if_pos (c := d ≤ 2) b_33])).symm, rfl, rfl⟩)
    refine lv_iload_n hx hb dX8_part_36 rfl (lv_at hl 0 rfl) ?_
    refine lv_bipush (v := 6) hx hb dX8_part_37 (by decide) ?_
    refine lv_icmp_ge (tgt := 46) hx hb dX8_part_39 (by decide) (fun b_39 => ?_) (fun b_39 => ?_)
    · skip
      refine lv_iconst (v := 0) hx hb dX8_part_46 (by decide) ?_
      exact ret_i F h (Nat.zero_le _) (Nat.zero_le _) dX8_part_47 (⟨((show sp_X8_part d ax = 0 by rw [sp_X8_part, if_pos (c := ax = 0) b_1, if_neg (c := d = 7) b_19, if_pos (c := 2 ≤ d) b_24, if_neg (c := d ≤ 2) b_33, if_pos (c := 6 ≤ d) b_39])).symm, rfl, rfl⟩)
    refine lv_iconst (v := (-1)) hx hb dX8_part_42 (by decide) ?_
    refine lv_goto (tgt := 47) hx hb dX8_part_43 (by decide) ?_
    exact ret_i F h (Nat.zero_le _) (Nat.zero_le _) dX8_part_47 (⟨((show sp_X8_part d ax = (-1) by rw [sp_X8_part, if_pos (c := ax = 0) b_1, if_neg (c := d = 7) b_19, if_pos (c := 2 ≤ d) b_24, if_neg (c := d ≤ 2) b_33, if_neg (c := 6 ≤ d) b_39])).symm, rfl, rfl⟩)
  refine lv_iconst (v := 1) hx hb dX8_part_27 (by decide) ?_
  refine lv_goto (tgt := 47) hx hb dX8_part_28 (by decide) ?_
  exact ret_i F h (Nat.zero_le _) (Nat.zero_le _) dX8_part_47 (⟨((show sp_X8_part d ax = 1 by rw [sp_X8_part, if_pos (c := ax = 0) b_1, if_neg (c := d = 7) b_19, if_neg (c := 2 ≤ d) b_24])).symm, rfl, rfl⟩)
def sp_X8_bearingOf (dx dy : Int32) : Int32 := if dx ≤ 0 then (if dy ≤ 0 then (if 0 ≤ dx then ((6000 + ((2000 * dx.toInt64) / ((szI dx).toInt64 + (szI dy).toInt64))).toInt32) else (if 0 < dy then ((6000 + ((2000 * dx.toInt64) / ((szI dx).toInt64 + (szI dy).toInt64))).toInt32) else ((4000 + ((2000 * (-dy).toInt64) / ((szI dx).toInt64 + (szI dy).toInt64))).toInt32))) else (if 0 < dx then (if 0 ≤ dx then ((6000 + ((2000 * dx.toInt64) / ((szI dx).toInt64 + (szI dy).toInt64))).toInt32) else (if 0 < dy then ((6000 + ((2000 * dx.toInt64) / ((szI dx).toInt64 + (szI dy).toInt64))).toInt32) else ((4000 + ((2000 * (-dy).toInt64) / ((szI dx).toInt64 + (szI dy).toInt64))).toInt32))) else ((2000 + ((2000 * (-dx).toInt64) / ((szI dx).toInt64 + (szI dy).toInt64))).toInt32))) else (if dy < 0 then (if dy ≤ 0 then (if 0 ≤ dx then ((6000 + ((2000 * dx.toInt64) / ((szI dx).toInt64 + (szI dy).toInt64))).toInt32) else (if 0 < dy then ((6000 + ((2000 * dx.toInt64) / ((szI dx).toInt64 + (szI dy).toInt64))).toInt32) else ((4000 + ((2000 * (-dy).toInt64) / ((szI dx).toInt64 + (szI dy).toInt64))).toInt32))) else (if 0 < dx then (if 0 ≤ dx then ((6000 + ((2000 * dx.toInt64) / ((szI dx).toInt64 + (szI dy).toInt64))).toInt32) else (if 0 < dy then ((6000 + ((2000 * dx.toInt64) / ((szI dx).toInt64 + (szI dy).toInt64))).toInt32) else ((4000 + ((2000 * (-dy).toInt64) / ((szI dx).toInt64 + (szI dy).toInt64))).toInt32))) else ((2000 + ((2000 * (-dx).toInt64) / ((szI dx).toInt64 + (szI dy).toInt64))).toInt32))) else (((2000 * dy.toInt64) / ((szI dx).toInt64 + (szI dy).toInt64)).toInt32))
set_option maxHeartbeats 4000000 in
set_option maxRecDepth 100000 in
theorem k_X8_bearingOf (l : Launch) (g : Gf) (n : Nat) (c : Mp) (dx dy : Int32) (hm0 : ¬ (szI dx).toInt64 + (szI dy).toInt64 = 0) : Ct l g yX8_bearingOf wsX8_bearingOf 1 20 0 0 [.int dx, .int dy] n c (Qi g (fun xr n' c' => xr = sp_X8_bearingOf dx dy ∧ n' = n ∧ c' = c)) := by
  refine ent (by decide) rfl (Nat.le_of_ble_eq_true rfl) ?_
  intro p e s m args below meth c0 F h ls hl
  have hx := F.1
  have hb := F.2.1
  have hl : lv_has ls 4 [(0, .int dx), (1, .int dy)] := hl
  refine lv_iload_n hx hb dX8_bearingOf_0 rfl (lv_at hl 0 rfl) ?_
  refine u_iE (v := (szI dx)) (ru_S (As := [.int dx]) (rest := []) F h (k_X8_size l g n c dx) (gS hjl wd_937 wd_938 wd_58 wd_939) rfl 1 (by decide +kernel) rfl ⟨Nat.le_of_ble_eq_true rfl, Nat.le_of_ble_eq_true rfl⟩ rfl hl.1 (Nat.le_of_ble_eq_true rfl) ⟨Nat.zero_le _, Nat.zero_le _⟩ dX8_bearingOf_1) h (fun H locs h => ?_)
  refine lv_i2l hx hb dX8_bearingOf_4 rfl ?_
  refine lv_iload_n hx hb dX8_bearingOf_5 rfl (lv_at hl 1 rfl) ?_
  refine u_iE (v := (szI dy)) (ru_S (As := [.int dy]) (rest := [.long ((szI dx).toInt64)]) F h (k_X8_size l g n c dy) (gS hjl wd_937 wd_938 wd_58 wd_939) rfl 1 (by decide +kernel) rfl ⟨Nat.le_of_ble_eq_true rfl, Nat.le_of_ble_eq_true rfl⟩ rfl hl.1 (Nat.le_of_ble_eq_true rfl) ⟨Nat.zero_le _, Nat.zero_le _⟩ dX8_bearingOf_6) h (fun H locs h => ?_)
  refine lv_i2l hx hb dX8_bearingOf_9 rfl ?_
  refine lv_ladd hx hb dX8_bearingOf_10 ?_
  refine lv_lstore_n (lv' := [(2, .long ((szI dx).toInt64 + (szI dy).toInt64)), (0, .int dx), (1, .int dy)]) hx hb dX8_bearingOf_11 rfl hl (by decide) rfl (fun ls hl => ?_)
  refine lv_iload_n hx hb dX8_bearingOf_12 rfl (lv_at hl 1 rfl) ?_
  refine lv_if_le (tgt := 30) hx hb dX8_bearingOf_13 (by decide) (fun b_13 => ?_) (fun b_13 => ?_)
  · skip
    refine lv_iload_n hx hb dX8_bearingOf_30 rfl (lv_at hl 2 rfl) ?_
    refine lv_if_le (tgt := 53) hx hb dX8_bearingOf_31 (by decide) (fun b_31 => ?_) (fun b_31 => ?_)
    · skip
      refine lv_iload_n hx hb dX8_bearingOf_53 rfl (lv_at hl 1 rfl) ?_
      refine lv_if_ge (tgt := 76) hx hb dX8_bearingOf_54 (by decide) (fun b_54 => ?_) (fun b_54 => ?_)
      · skip
        refine lv_ldc2 (v := 6000) hx hb F.2.2.2.1 (F.2.2.2.2.1 (Cond.constantLong RX8 142 6000) (List.mem_cons_of_mem _ wd_1043)) dX8_bearingOf_76 ?_
        refine lv_ldc2 (v := 2000) hx hb F.2.2.2.1 (F.2.2.2.2.1 (Cond.constantLong RX8 138 2000) (List.mem_cons_of_mem _ wd_1041)) dX8_bearingOf_79 ?_
        refine lv_iload_n hx hb dX8_bearingOf_82 rfl (lv_at hl 1 rfl) ?_
        refine lv_i2l hx hb dX8_bearingOf_83 rfl ?_
        refine lv_lmul hx hb dX8_bearingOf_84 ?_
        refine lv_lload_n hx hb dX8_bearingOf_85 rfl (lv_at hl 0 rfl) ?_
        refine lv_ldiv hx hb dX8_bearingOf_86 (hm0) ?_
        refine lv_ladd hx hb dX8_bearingOf_87 ?_
        refine lv_l2i hx hb dX8_bearingOf_88 rfl ?_
        exact ret_i F h (Nat.zero_le _) (Nat.zero_le _) dX8_bearingOf_89 (⟨((show sp_X8_bearingOf dx dy = (6000 + ((2000 * dx.toInt64) / ((szI dx).toInt64 + (szI dy).toInt64))).toInt32 by rw [sp_X8_bearingOf, if_pos (c := dx ≤ 0) b_13, if_pos (c := dy ≤ 0) b_31, if_pos (c := 0 ≤ dx) b_54])).symm, rfl, rfl⟩)
      refine lv_iload_n hx hb dX8_bearingOf_57 rfl (lv_at hl 2 rfl) ?_
      refine lv_if_gt (tgt := 76) hx hb dX8_bearingOf_58 (by decide) (fun b_58 => ?_) (fun b_58 => ?_)
      · skip
        refine lv_ldc2 (v := 6000) hx hb F.2.2.2.1 (F.2.2.2.2.1 (Cond.constantLong RX8 142 6000) (List.mem_cons_of_mem _ wd_1043)) dX8_bearingOf_76 ?_
        refine lv_ldc2 (v := 2000) hx hb F.2.2.2.1 (F.2.2.2.2.1 (Cond.constantLong RX8 138 2000) (List.mem_cons_of_mem _ wd_1041)) dX8_bearingOf_79 ?_
        refine lv_iload_n hx hb dX8_bearingOf_82 rfl (lv_at hl 1 rfl) ?_
        refine lv_i2l hx hb dX8_bearingOf_83 rfl ?_
        refine lv_lmul hx hb dX8_bearingOf_84 ?_
        refine lv_lload_n hx hb dX8_bearingOf_85 rfl (lv_at hl 0 rfl) ?_
        refine lv_ldiv hx hb dX8_bearingOf_86 (hm0) ?_
        refine lv_ladd hx hb dX8_bearingOf_87 ?_
        refine lv_l2i hx hb dX8_bearingOf_88 rfl ?_
        exact ret_i F h (Nat.zero_le _) (Nat.zero_le _) dX8_bearingOf_89 (⟨((show sp_X8_bearingOf dx dy = (6000 + ((2000 * dx.toInt64) / ((szI dx).toInt64 + (szI dy).toInt64))).toInt32 by rw [sp_X8_bearingOf, if_pos (c := dx ≤ 0) b_13, if_pos (c := dy ≤ 0) b_31, if_neg (c := 0 ≤ dx) b_54, if_pos (c := 0 < dy) b_58])).symm, rfl, rfl⟩)
      refine lv_ldc2 (v := 4000) hx hb F.2.2.2.1 (F.2.2.2.2.1 (Cond.constantLong RX8 140 4000) (List.mem_cons_of_mem _ wd_1042)) dX8_bearingOf_61 ?_
      refine lv_ldc2 (v := 2000) hx hb F.2.2.2.1 (F.2.2.2.2.1 (Cond.constantLong RX8 138 2000) (List.mem_cons_of_mem _ wd_1041)) dX8_bearingOf_64 ?_
      refine lv_iload_n hx hb dX8_bearingOf_67 rfl (lv_at hl 2 rfl) ?_
      refine lv_ineg hx hb dX8_bearingOf_68 ?_
      refine lv_i2l hx hb dX8_bearingOf_69 rfl ?_
      refine lv_lmul hx hb dX8_bearingOf_70 ?_
      refine lv_lload_n hx hb dX8_bearingOf_71 rfl (lv_at hl 0 rfl) ?_
      refine lv_ldiv hx hb dX8_bearingOf_72 (hm0) ?_
      refine lv_ladd hx hb dX8_bearingOf_73 ?_
      refine lv_l2i hx hb dX8_bearingOf_74 rfl ?_
      exact ret_i F h (Nat.zero_le _) (Nat.zero_le _) dX8_bearingOf_75 (⟨((show sp_X8_bearingOf dx dy = (4000 + ((2000 * (-dy).toInt64) / ((szI dx).toInt64 + (szI dy).toInt64))).toInt32 by rw [sp_X8_bearingOf, if_pos (c := dx ≤ 0) b_13, if_pos (c := dy ≤ 0) b_31, if_neg (c := 0 ≤ dx) b_54, if_neg (c := 0 < dy) b_58])).symm, rfl, rfl⟩)
    refine lv_iload_n hx hb dX8_bearingOf_34 rfl (lv_at hl 1 rfl) ?_
    refine lv_if_gt (tgt := 53) hx hb dX8_bearingOf_35 (by decide) (fun b_35 => ?_) (fun b_35 => ?_)
    · skip
      refine lv_iload_n hx hb dX8_bearingOf_53 rfl (lv_at hl 1 rfl) ?_
      refine lv_if_ge (tgt := 76) hx hb dX8_bearingOf_54 (by decide) (fun b_54 => ?_) (fun b_54 => ?_)
      · skip
        refine lv_ldc2 (v := 6000) hx hb F.2.2.2.1 (F.2.2.2.2.1 (Cond.constantLong RX8 142 6000) (List.mem_cons_of_mem _ wd_1043)) dX8_bearingOf_76 ?_
        refine lv_ldc2 (v := 2000) hx hb F.2.2.2.1 (F.2.2.2.2.1 (Cond.constantLong RX8 138 2000) (List.mem_cons_of_mem _ wd_1041)) dX8_bearingOf_79 ?_
        refine lv_iload_n hx hb dX8_bearingOf_82 rfl (lv_at hl 1 rfl) ?_
        refine lv_i2l hx hb dX8_bearingOf_83 rfl ?_
        refine lv_lmul hx hb dX8_bearingOf_84 ?_
        refine lv_lload_n hx hb dX8_bearingOf_85 rfl (lv_at hl 0 rfl) ?_
        refine lv_ldiv hx hb dX8_bearingOf_86 (hm0) ?_
        refine lv_ladd hx hb dX8_bearingOf_87 ?_
        refine lv_l2i hx hb dX8_bearingOf_88 rfl ?_
        exact ret_i F h (Nat.zero_le _) (Nat.zero_le _) dX8_bearingOf_89 (⟨((show sp_X8_bearingOf dx dy = (6000 + ((2000 * dx.toInt64) / ((szI dx).toInt64 + (szI dy).toInt64))).toInt32 by rw [sp_X8_bearingOf, if_pos (c := dx ≤ 0) b_13, if_neg (c := dy ≤ 0) b_31, if_pos (c := 0 < dx) b_35, if_pos (c := 0 ≤ dx) b_54])).symm, rfl, rfl⟩)
      refine lv_iload_n hx hb dX8_bearingOf_57 rfl (lv_at hl 2 rfl) ?_
      refine lv_if_gt (tgt := 76) hx hb dX8_bearingOf_58 (by decide) (fun b_58 => ?_) (fun b_58 => ?_)
      · skip
        refine lv_ldc2 (v := 6000) hx hb F.2.2.2.1 (F.2.2.2.2.1 (Cond.constantLong RX8 142 6000) (List.mem_cons_of_mem _ wd_1043)) dX8_bearingOf_76 ?_
        refine lv_ldc2 (v := 2000) hx hb F.2.2.2.1 (F.2.2.2.2.1 (Cond.constantLong RX8 138 2000) (List.mem_cons_of_mem _ wd_1041)) dX8_bearingOf_79 ?_
        refine lv_iload_n hx hb dX8_bearingOf_82 rfl (lv_at hl 1 rfl) ?_
        refine lv_i2l hx hb dX8_bearingOf_83 rfl ?_
        refine lv_lmul hx hb dX8_bearingOf_84 ?_
        refine lv_lload_n hx hb dX8_bearingOf_85 rfl (lv_at hl 0 rfl) ?_
        refine lv_ldiv hx hb dX8_bearingOf_86 (hm0) ?_
        refine lv_ladd hx hb dX8_bearingOf_87 ?_
        refine lv_l2i hx hb dX8_bearingOf_88 rfl ?_
        exact ret_i F h (Nat.zero_le _) (Nat.zero_le _) dX8_bearingOf_89 (⟨((show sp_X8_bearingOf dx dy = (6000 + ((2000 * dx.toInt64) / ((szI dx).toInt64 + (szI dy).toInt64))).toInt32 by rw [sp_X8_bearingOf, if_pos (c := dx ≤ 0) b_13, if_neg (c := dy ≤ 0) b_31, if_pos (c := 0 < dx) b_35, if_neg (c := 0 ≤ dx) b_54, if_pos (c := 0 < dy) b_58])).symm, rfl, rfl⟩)
      refine lv_ldc2 (v := 4000) hx hb F.2.2.2.1 (F.2.2.2.2.1 (Cond.constantLong RX8 140 4000) (List.mem_cons_of_mem _ wd_1042)) dX8_bearingOf_61 ?_
      refine lv_ldc2 (v := 2000) hx hb F.2.2.2.1 (F.2.2.2.2.1 (Cond.constantLong RX8 138 2000) (List.mem_cons_of_mem _ wd_1041)) dX8_bearingOf_64 ?_
      refine lv_iload_n hx hb dX8_bearingOf_67 rfl (lv_at hl 2 rfl) ?_
      refine lv_ineg hx hb dX8_bearingOf_68 ?_
      refine lv_i2l hx hb dX8_bearingOf_69 rfl ?_
      refine lv_lmul hx hb dX8_bearingOf_70 ?_
      refine lv_lload_n hx hb dX8_bearingOf_71 rfl (lv_at hl 0 rfl) ?_
      refine lv_ldiv hx hb dX8_bearingOf_72 (hm0) ?_
      refine lv_ladd hx hb dX8_bearingOf_73 ?_
      refine lv_l2i hx hb dX8_bearingOf_74 rfl ?_
      exact ret_i F h (Nat.zero_le _) (Nat.zero_le _) dX8_bearingOf_75 (⟨((show sp_X8_bearingOf dx dy = (4000 + ((2000 * (-dy).toInt64) / ((szI dx).toInt64 + (szI dy).toInt64))).toInt32 by rw [sp_X8_bearingOf, if_pos (c := dx ≤ 0) b_13, if_neg (c := dy ≤ 0) b_31, if_pos (c := 0 < dx) b_35, if_neg (c := 0 ≤ dx) b_54, if_neg (c := 0 < dy) b_58])).symm, rfl, rfl⟩)
    refine lv_ldc2 (v := 2000) hx hb F.2.2.2.1 (F.2.2.2.2.1 (Cond.constantLong RX8 138 2000) (List.mem_cons_of_mem _ wd_1041)) dX8_bearingOf_38 ?_
    refine lv_ldc2 (v := 2000) hx hb F.2.2.2.1 (F.2.2.2.2.1 (Cond.constantLong RX8 138 2000) (List.mem_cons_of_mem _ wd_1041)) dX8_bearingOf_41 ?_
    refine lv_iload_n hx hb dX8_bearingOf_44 rfl (lv_at hl 1 rfl) ?_
    refine lv_ineg hx hb dX8_bearingOf_45 ?_
    refine lv_i2l hx hb dX8_bearingOf_46 rfl ?_
    refine lv_lmul hx hb dX8_bearingOf_47 ?_
    refine lv_lload_n hx hb dX8_bearingOf_48 rfl (lv_at hl 0 rfl) ?_
    refine lv_ldiv hx hb dX8_bearingOf_49 (hm0) ?_
    refine lv_ladd hx hb dX8_bearingOf_50 ?_
    refine lv_l2i hx hb dX8_bearingOf_51 rfl ?_
    exact ret_i F h (Nat.zero_le _) (Nat.zero_le _) dX8_bearingOf_52 (⟨((show sp_X8_bearingOf dx dy = (2000 + ((2000 * (-dx).toInt64) / ((szI dx).toInt64 + (szI dy).toInt64))).toInt32 by rw [sp_X8_bearingOf, if_pos (c := dx ≤ 0) b_13, if_neg (c := dy ≤ 0) b_31, if_neg (c := 0 < dx) b_35])).symm, rfl, rfl⟩)
  refine lv_iload_n hx hb dX8_bearingOf_16 rfl (lv_at hl 2 rfl) ?_
  refine lv_if_lt (tgt := 30) hx hb dX8_bearingOf_17 (by decide) (fun b_17 => ?_) (fun b_17 => ?_)
  · skip
    refine lv_iload_n hx hb dX8_bearingOf_30 rfl (lv_at hl 2 rfl) ?_
    refine lv_if_le (tgt := 53) hx hb dX8_bearingOf_31 (by decide) (fun b_31 => ?_) (fun b_31 => ?_)
    · skip
      refine lv_iload_n hx hb dX8_bearingOf_53 rfl (lv_at hl 1 rfl) ?_
      refine lv_if_ge (tgt := 76) hx hb dX8_bearingOf_54 (by decide) (fun b_54 => ?_) (fun b_54 => ?_)
      · skip
        refine lv_ldc2 (v := 6000) hx hb F.2.2.2.1 (F.2.2.2.2.1 (Cond.constantLong RX8 142 6000) (List.mem_cons_of_mem _ wd_1043)) dX8_bearingOf_76 ?_
        refine lv_ldc2 (v := 2000) hx hb F.2.2.2.1 (F.2.2.2.2.1 (Cond.constantLong RX8 138 2000) (List.mem_cons_of_mem _ wd_1041)) dX8_bearingOf_79 ?_
        refine lv_iload_n hx hb dX8_bearingOf_82 rfl (lv_at hl 1 rfl) ?_
        refine lv_i2l hx hb dX8_bearingOf_83 rfl ?_
        refine lv_lmul hx hb dX8_bearingOf_84 ?_
        refine lv_lload_n hx hb dX8_bearingOf_85 rfl (lv_at hl 0 rfl) ?_
        refine lv_ldiv hx hb dX8_bearingOf_86 (hm0) ?_
        refine lv_ladd hx hb dX8_bearingOf_87 ?_
        refine lv_l2i hx hb dX8_bearingOf_88 rfl ?_
        exact ret_i F h (Nat.zero_le _) (Nat.zero_le _) dX8_bearingOf_89 (⟨((show sp_X8_bearingOf dx dy = (6000 + ((2000 * dx.toInt64) / ((szI dx).toInt64 + (szI dy).toInt64))).toInt32 by rw [sp_X8_bearingOf, if_neg (c := dx ≤ 0) b_13, if_pos (c := dy < 0) b_17, if_pos (c := dy ≤ 0) b_31, if_pos (c := 0 ≤ dx) b_54])).symm, rfl, rfl⟩)
      refine lv_iload_n hx hb dX8_bearingOf_57 rfl (lv_at hl 2 rfl) ?_
      refine lv_if_gt (tgt := 76) hx hb dX8_bearingOf_58 (by decide) (fun b_58 => ?_) (fun b_58 => ?_)
      · skip
        refine lv_ldc2 (v := 6000) hx hb F.2.2.2.1 (F.2.2.2.2.1 (Cond.constantLong RX8 142 6000) (List.mem_cons_of_mem _ wd_1043)) dX8_bearingOf_76 ?_
        refine lv_ldc2 (v := 2000) hx hb F.2.2.2.1 (F.2.2.2.2.1 (Cond.constantLong RX8 138 2000) (List.mem_cons_of_mem _ wd_1041)) dX8_bearingOf_79 ?_
        refine lv_iload_n hx hb dX8_bearingOf_82 rfl (lv_at hl 1 rfl) ?_
        refine lv_i2l hx hb dX8_bearingOf_83 rfl ?_
        refine lv_lmul hx hb dX8_bearingOf_84 ?_
        refine lv_lload_n hx hb dX8_bearingOf_85 rfl (lv_at hl 0 rfl) ?_
        refine lv_ldiv hx hb dX8_bearingOf_86 (hm0) ?_
        refine lv_ladd hx hb dX8_bearingOf_87 ?_
        refine lv_l2i hx hb dX8_bearingOf_88 rfl ?_
        exact ret_i F h (Nat.zero_le _) (Nat.zero_le _) dX8_bearingOf_89 (⟨((show sp_X8_bearingOf dx dy = (6000 + ((2000 * dx.toInt64) / ((szI dx).toInt64 + (szI dy).toInt64))).toInt32 by rw [sp_X8_bearingOf, if_neg (c := dx ≤ 0) b_13, if_pos (c := dy < 0) b_17, if_pos (c := dy ≤ 0) b_31, if_neg (c := 0 ≤ dx) b_54, if_pos (c := 0 < dy) b_58])).symm, rfl, rfl⟩)
      refine lv_ldc2 (v := 4000) hx hb F.2.2.2.1 (F.2.2.2.2.1 (Cond.constantLong RX8 140 4000) (List.mem_cons_of_mem _ wd_1042)) dX8_bearingOf_61 ?_
      refine lv_ldc2 (v := 2000) hx hb F.2.2.2.1 (F.2.2.2.2.1 (Cond.constantLong RX8 138 2000) (List.mem_cons_of_mem _ wd_1041)) dX8_bearingOf_64 ?_
      refine lv_iload_n hx hb dX8_bearingOf_67 rfl (lv_at hl 2 rfl) ?_
      refine lv_ineg hx hb dX8_bearingOf_68 ?_
      refine lv_i2l hx hb dX8_bearingOf_69 rfl ?_
      refine lv_lmul hx hb dX8_bearingOf_70 ?_
      refine lv_lload_n hx hb dX8_bearingOf_71 rfl (lv_at hl 0 rfl) ?_
      refine lv_ldiv hx hb dX8_bearingOf_72 (hm0) ?_
      refine lv_ladd hx hb dX8_bearingOf_73 ?_
      refine lv_l2i hx hb dX8_bearingOf_74 rfl ?_
      exact ret_i F h (Nat.zero_le _) (Nat.zero_le _) dX8_bearingOf_75 (⟨((show sp_X8_bearingOf dx dy = (4000 + ((2000 * (-dy).toInt64) / ((szI dx).toInt64 + (szI dy).toInt64))).toInt32 by rw [sp_X8_bearingOf, if_neg (c := dx ≤ 0) b_13, if_pos (c := dy < 0) b_17, if_pos (c := dy ≤ 0) b_31, if_neg (c := 0 ≤ dx) b_54, if_neg (c := 0 < dy) b_58])).symm, rfl, rfl⟩)
    refine lv_iload_n hx hb dX8_bearingOf_34 rfl (lv_at hl 1 rfl) ?_
    refine lv_if_gt (tgt := 53) hx hb dX8_bearingOf_35 (by decide) (fun b_35 => ?_) (fun b_35 => ?_)
    · skip
      refine lv_iload_n hx hb dX8_bearingOf_53 rfl (lv_at hl 1 rfl) ?_
      refine lv_if_ge (tgt := 76) hx hb dX8_bearingOf_54 (by decide) (fun b_54 => ?_) (fun b_54 => ?_)
      · skip
        refine lv_ldc2 (v := 6000) hx hb F.2.2.2.1 (F.2.2.2.2.1 (Cond.constantLong RX8 142 6000) (List.mem_cons_of_mem _ wd_1043)) dX8_bearingOf_76 ?_
        refine lv_ldc2 (v := 2000) hx hb F.2.2.2.1 (F.2.2.2.2.1 (Cond.constantLong RX8 138 2000) (List.mem_cons_of_mem _ wd_1041)) dX8_bearingOf_79 ?_
        refine lv_iload_n hx hb dX8_bearingOf_82 rfl (lv_at hl 1 rfl) ?_
        refine lv_i2l hx hb dX8_bearingOf_83 rfl ?_
        refine lv_lmul hx hb dX8_bearingOf_84 ?_
        refine lv_lload_n hx hb dX8_bearingOf_85 rfl (lv_at hl 0 rfl) ?_
        refine lv_ldiv hx hb dX8_bearingOf_86 (hm0) ?_
        refine lv_ladd hx hb dX8_bearingOf_87 ?_
        refine lv_l2i hx hb dX8_bearingOf_88 rfl ?_
        exact ret_i F h (Nat.zero_le _) (Nat.zero_le _) dX8_bearingOf_89 (⟨((show sp_X8_bearingOf dx dy = (6000 + ((2000 * dx.toInt64) / ((szI dx).toInt64 + (szI dy).toInt64))).toInt32 by rw [sp_X8_bearingOf, if_neg (c := dx ≤ 0) b_13, if_pos (c := dy < 0) b_17, if_neg (c := dy ≤ 0) b_31, if_pos (c := 0 < dx) b_35, if_pos (c := 0 ≤ dx) b_54])).symm, rfl, rfl⟩)
      refine lv_iload_n hx hb dX8_bearingOf_57 rfl (lv_at hl 2 rfl) ?_
      refine lv_if_gt (tgt := 76) hx hb dX8_bearingOf_58 (by decide) (fun b_58 => ?_) (fun b_58 => ?_)
      · skip
        refine lv_ldc2 (v := 6000) hx hb F.2.2.2.1 (F.2.2.2.2.1 (Cond.constantLong RX8 142 6000) (List.mem_cons_of_mem _ wd_1043)) dX8_bearingOf_76 ?_
        refine lv_ldc2 (v := 2000) hx hb F.2.2.2.1 (F.2.2.2.2.1 (Cond.constantLong RX8 138 2000) (List.mem_cons_of_mem _ wd_1041)) dX8_bearingOf_79 ?_
        refine lv_iload_n hx hb dX8_bearingOf_82 rfl (lv_at hl 1 rfl) ?_
        refine lv_i2l hx hb dX8_bearingOf_83 rfl ?_
        refine lv_lmul hx hb dX8_bearingOf_84 ?_
        refine lv_lload_n hx hb dX8_bearingOf_85 rfl (lv_at hl 0 rfl) ?_
        refine lv_ldiv hx hb dX8_bearingOf_86 (hm0) ?_
        refine lv_ladd hx hb dX8_bearingOf_87 ?_
        refine lv_l2i hx hb dX8_bearingOf_88 rfl ?_
        exact ret_i F h (Nat.zero_le _) (Nat.zero_le _) dX8_bearingOf_89 (⟨((show sp_X8_bearingOf dx dy = (6000 + ((2000 * dx.toInt64) / ((szI dx).toInt64 + (szI dy).toInt64))).toInt32 by rw [sp_X8_bearingOf, if_neg (c := dx ≤ 0) b_13, if_pos (c := dy < 0) b_17, if_neg (c := dy ≤ 0) b_31, if_pos (c := 0 < dx) b_35, if_neg (c := 0 ≤ dx) b_54, if_pos (c := 0 < dy) b_58])).symm, rfl, rfl⟩)
      refine lv_ldc2 (v := 4000) hx hb F.2.2.2.1 (F.2.2.2.2.1 (Cond.constantLong RX8 140 4000) (List.mem_cons_of_mem _ wd_1042)) dX8_bearingOf_61 ?_
      refine lv_ldc2 (v := 2000) hx hb F.2.2.2.1 (F.2.2.2.2.1 (Cond.constantLong RX8 138 2000) (List.mem_cons_of_mem _ wd_1041)) dX8_bearingOf_64 ?_
      refine lv_iload_n hx hb dX8_bearingOf_67 rfl (lv_at hl 2 rfl) ?_
      refine lv_ineg hx hb dX8_bearingOf_68 ?_
      refine lv_i2l hx hb dX8_bearingOf_69 rfl ?_
      refine lv_lmul hx hb dX8_bearingOf_70 ?_
      refine lv_lload_n hx hb dX8_bearingOf_71 rfl (lv_at hl 0 rfl) ?_
      refine lv_ldiv hx hb dX8_bearingOf_72 (hm0) ?_
      refine lv_ladd hx hb dX8_bearingOf_73 ?_
      refine lv_l2i hx hb dX8_bearingOf_74 rfl ?_
      exact ret_i F h (Nat.zero_le _) (Nat.zero_le _) dX8_bearingOf_75 (⟨((show sp_X8_bearingOf dx dy = (4000 + ((2000 * (-dy).toInt64) / ((szI dx).toInt64 + (szI dy).toInt64))).toInt32 by rw [sp_X8_bearingOf, if_neg (c := dx ≤ 0) b_13, if_pos (c := dy < 0) b_17, if_neg (c := dy ≤ 0) b_31, if_pos (c := 0 < dx) b_35, if_neg (c := 0 ≤ dx) b_54, if_neg (c := 0 < dy) b_58])).symm, rfl, rfl⟩)
    refine lv_ldc2 (v := 2000) hx hb F.2.2.2.1 (F.2.2.2.2.1 (Cond.constantLong RX8 138 2000) (List.mem_cons_of_mem _ wd_1041)) dX8_bearingOf_38 ?_
    refine lv_ldc2 (v := 2000) hx hb F.2.2.2.1 (F.2.2.2.2.1 (Cond.constantLong RX8 138 2000) (List.mem_cons_of_mem _ wd_1041)) dX8_bearingOf_41 ?_
    refine lv_iload_n hx hb dX8_bearingOf_44 rfl (lv_at hl 1 rfl) ?_
    refine lv_ineg hx hb dX8_bearingOf_45 ?_
    refine lv_i2l hx hb dX8_bearingOf_46 rfl ?_
    refine lv_lmul hx hb dX8_bearingOf_47 ?_
    refine lv_lload_n hx hb dX8_bearingOf_48 rfl (lv_at hl 0 rfl) ?_
    refine lv_ldiv hx hb dX8_bearingOf_49 (hm0) ?_
    refine lv_ladd hx hb dX8_bearingOf_50 ?_
    refine lv_l2i hx hb dX8_bearingOf_51 rfl ?_
    exact ret_i F h (Nat.zero_le _) (Nat.zero_le _) dX8_bearingOf_52 (⟨((show sp_X8_bearingOf dx dy = (2000 + ((2000 * (-dx).toInt64) / ((szI dx).toInt64 + (szI dy).toInt64))).toInt32 by rw [sp_X8_bearingOf, if_neg (c := dx ≤ 0) b_13, if_pos (c := dy < 0) b_17, if_neg (c := dy ≤ 0) b_31, if_neg (c := 0 < dx) b_35])).symm, rfl, rfl⟩)
  refine lv_ldc2 (v := 2000) hx hb F.2.2.2.1 (F.2.2.2.2.1 (Cond.constantLong RX8 138 2000) (List.mem_cons_of_mem _ wd_1041)) dX8_bearingOf_20 ?_
  refine lv_iload_n hx hb dX8_bearingOf_23 rfl (lv_at hl 2 rfl) ?_
  refine lv_i2l hx hb dX8_bearingOf_24 rfl ?_
  refine lv_lmul hx hb dX8_bearingOf_25 ?_
  refine lv_lload_n hx hb dX8_bearingOf_26 rfl (lv_at hl 0 rfl) ?_
  refine lv_ldiv hx hb dX8_bearingOf_27 (hm0) ?_
  refine lv_l2i hx hb dX8_bearingOf_28 rfl ?_
  exact ret_i F h (Nat.zero_le _) (Nat.zero_le _) dX8_bearingOf_29 (⟨((show sp_X8_bearingOf dx dy = ((2000 * dy.toInt64) / ((szI dx).toInt64 + (szI dy).toInt64)).toInt32 by rw [sp_X8_bearingOf, if_neg (c := dx ≤ 0) b_13, if_neg (c := dy < 0) b_17])).symm, rfl, rfl⟩)
def raS (r : Nat → Int32) (w : Nat) (z : Int32) (a : Nat) : Nat → Int64
  | 0 => (r (5 + 11 * w + (1 + a)) + r (5 + 11 * w + (5 + a))).toInt64
  | k + 1 => raS r w z a k + fdL ((mnI (r (49 + 4 * k + 1)) z - mnI (r (49 + 4 * k)) z).toInt64 * (r (49 + 4 * k + 2 + a)).toInt64 * z.toInt64) (100 * (r (5 + 11 * w + 3)).toInt64)
set_option maxHeartbeats 4000000 in
set_option maxRecDepth 100000 in
theorem k_X8_restAt (l : Launch) (g : Gf) (n : Nat) (c : Mp) (b : Nat) (kp rs ty pl fa od : Int32) (hm : c b = moC g b kp rs ty pl fa od) (r : Nat → Int32) (hr : c (b + 1) = iaA (g.2.1 0) 204 r) (w : Nat) (zz : Int32) (a cn : Nat) (hw : w < 4) (ha : a < 2) (hcn : r 3 = nI cn) (h5 : cn ≤ 5) (hma : ¬ r (5 + 11 * w + 3) < 1) : Ct l g yX8_restAt wsX8_restAt 1 25 0 0 [.ref (gz g + b), .int (nI w), .int zz, .int (nI a)] n c (Qi g (fun xr n' c' => xr = (raS r w zz a cn).toInt32 ∧ n' = n ∧ c' = c)) := by
  refine ent (by decide) rfl (Nat.le_of_ble_eq_true rfl) ?_
  intro p e s m args below meth c0 F h ls hl
  have hx := F.1
  have hb := F.2.1
  have hl : lv_has ls 10 [(0, .ref (gz g + b)), (1, .int (nI w)), (2, .int zz), (3, .int (nI a))] := hl
  refine lv_aload_n hx hb dX8_restAt_0 rfl (lv_at hl 0 rfl) ?_
  refine lv_iload_n hx hb dX8_restAt_1 rfl (lv_at hl 1 rfl) ?_
  refine lv_iconst (v := 1) hx hb dX8_restAt_2 (by decide) ?_
  refine lv_iload_n hx hb dX8_restAt_3 rfl (lv_at hl 3 rfl) ?_
  refine lv_iadd hx hb dX8_restAt_4 ?_
  refine r_top (w := .int (nI (1 + a))) (congrArg Value.int (by simp only [fa_lit, pk_mul, nI_add]; first | done | (refine congrArg nI ?_; omega))) ?_
  refine u_iE (v := (r (5 + 11 * w + (1 + a)))) (ru_V (As := [.int (nI w), .int (nI (1 + a))]) (rest := []) F h hm rfl (k_X8_of l g n c b kp rs ty pl fa od hm r hr w (1 + a) (by omega) (by omega)) (gV hjl wd_916 wd_918 wd_21 wd_58 wd_919) rfl 2 (by decide +kernel) rfl ⟨Nat.le_of_ble_eq_true rfl, Nat.le_of_ble_eq_true rfl⟩ rfl hl.1 (Nat.le_of_ble_eq_true rfl) ⟨Nat.zero_le _, Nat.zero_le _⟩ dX8_restAt_5) h (fun H locs h => ?_)
  refine lv_aload_n hx hb dX8_restAt_8 rfl (lv_at hl 0 rfl) ?_
  refine lv_iload_n hx hb dX8_restAt_9 rfl (lv_at hl 1 rfl) ?_
  refine lv_iconst (v := 5) hx hb dX8_restAt_10 (by decide) ?_
  refine lv_iload_n hx hb dX8_restAt_11 rfl (lv_at hl 3 rfl) ?_
  refine lv_iadd hx hb dX8_restAt_12 ?_
  refine r_top (w := .int (nI (5 + a))) (congrArg Value.int (by simp only [fa_lit, pk_mul, nI_add]; first | done | (refine congrArg nI ?_; omega))) ?_
  refine u_iE (v := (r (5 + 11 * w + (5 + a)))) (ru_V (As := [.int (nI w), .int (nI (5 + a))]) (rest := [.int (r (5 + 11 * w + (1 + a)))]) F h hm rfl (k_X8_of l g n c b kp rs ty pl fa od hm r hr w (5 + a) (by omega) (by omega)) (gV hjl wd_916 wd_918 wd_21 wd_58 wd_919) rfl 2 (by decide +kernel) rfl ⟨Nat.le_of_ble_eq_true rfl, Nat.le_of_ble_eq_true rfl⟩ rfl hl.1 (Nat.le_of_ble_eq_true rfl) ⟨Nat.zero_le _, Nat.zero_le _⟩ dX8_restAt_13) h (fun H locs h => ?_)
  refine lv_iadd hx hb dX8_restAt_16 ?_
  refine lv_i2l hx hb dX8_restAt_17 rfl ?_
  refine lv_lstore (lv' := [(4, .long (((r (5 + 11 * w + (1 + a))) + (r (5 + 11 * w + (5 + a)))).toInt64)), (0, .ref (gz g + b)), (1, .int (nI w)), (2, .int zz), (3, .int (nI a))]) hx hb dX8_restAt_18 hl (by decide) rfl (fun ls hl => ?_)
  have hl : lv_has ls 10 [(4, .long (raS r w zz a 0)), (0, .ref (gz g + b)), (1, .int (nI w)), (2, .int zz), (3, .int (nI a))] := by rw [show (raS r w zz a 0 : Int64) = ((r (5 + 11 * w + (1 + a))) + (r (5 + 11 * w + (5 + a)))).toInt64 from rfl]; exact hl
  refine lv_iconst (v := 0) hx hb dX8_restAt_20 (by decide) ?_
  refine lv_istore (lv' := [(6, .int 0), (4, .long (raS r w zz a 0)), (0, .ref (gz g + b)), (1, .int (nI w)), (2, .int zz), (3, .int (nI a))]) hx hb dX8_restAt_21 hl (by decide) rfl (fun ls hl => ?_)
  have lp : ∀ (k : Nat) (k1 : Nat) (hk1 : k1 ≤ cn) (H : Heap) (locs : List Loc) (ls : Array Slot), (6 - k1) ≤ k → Hv g s H locs n c → lv_has ls 10 [(0, .ref (gz g + b)), (1, .int (nI w)), (2, .int zz), (3, .int (nI a)), (4, .long (raS r w zz a k1)), (6, .int (nI k1))] → W p l e (Rm 1 25 0 0) s m args below meth c0 H locs 0 0 (MQ below (Qi g (fun xr n' c' => xr = (raS r w zz a cn).toInt32 ∧ n' = n ∧ c' = c)) args s 0 0 (mAf g)) (F0 m 23 ls []) := by
    intro k
    induction k with
    | zero => intro k1 hk1 H locs ls hk h hl; exact absurd hk (by omega)
    | succ k ih =>
      intro k1 hk1 H locs ls hk h hl
      refine lv_iload hx hb dX8_restAt_23 (lv_at hl 5 rfl) ?_
      refine lv_aload_n hx hb dX8_restAt_25 rfl (lv_at hl 0 rfl) ?_
      refine r_get F h (C := RX8) (T := TX8) (N := 13) (hjc hi_X8) rfl hm 0 (by decide) (List.mem_cons_of_mem _ wd_828) rfl dX8_restAt_26 ?_
      refine lv_iconst (v := 3) hx hb dX8_restAt_29 (by decide) ?_
      refine r_ialdN F h (k := 3) hr (rfl) (by decide) (by decide) dX8_restAt_30 ?_
      refine lv_icmp_ge (tgt := 114) hx hb dX8_restAt_31 (by decide) (fun b_31 => ?_) (fun b_31 => ?_)
      · skip
        have e4 : k1 = cn := by have := lp_ge (N := cn) hcn (by omega) (by omega) b_31; omega
        have hl : lv_has ls 10 [(0, .ref (gz g + b)), (1, .int (nI w)), (2, .int zz), (3, .int (nI a)), (4, .long (raS r w zz a cn)), (6, .int (nI k1))] := by rw [show (raS r w zz a cn : Int64) = raS r w zz a k1 from (by rw [e4])]; exact hl
        refine lv_lload hx hb dX8_restAt_114 (lv_at hl 4 rfl) ?_
        refine lv_l2i hx hb dX8_restAt_116 rfl ?_
        exact ret_i F h (Nat.zero_le _) (Nat.zero_le _) dX8_restAt_117 (⟨rfl, rfl, rfl⟩)
      have hk4 : k1 < cn := lp_lt (N := cn) hcn (by omega) (by omega) b_31
      refine lv_bipush (v := 49) hx hb dX8_restAt_34 (by decide) ?_
      refine lv_iconst (v := 4) hx hb dX8_restAt_36 (by decide) ?_
      refine lv_iload hx hb dX8_restAt_37 (lv_at hl 5 rfl) ?_
      refine lv_imul hx hb dX8_restAt_39 ?_
      refine lv_iadd hx hb dX8_restAt_40 ?_
      refine r_top (w := .int (nI (49 + 4 * k1))) (congrArg Value.int (by simp only [fa_lit, pk_mul, nI_add]; first | done | (refine congrArg nI ?_; omega))) ?_
      refine lv_istore (lv' := [(7, .int (nI (49 + 4 * k1))), (0, .ref (gz g + b)), (1, .int (nI w)), (2, .int zz), (3, .int (nI a)), (4, .long (raS r w zz a k1)), (6, .int (nI k1))]) hx hb dX8_restAt_41 hl (by decide) rfl (fun ls hl => ?_)
      refine lv_aload_n hx hb dX8_restAt_43 rfl (lv_at hl 1 rfl) ?_
      refine r_get F h (C := RX8) (T := TX8) (N := 13) (hjc hi_X8) rfl hm 0 (by decide) (List.mem_cons_of_mem _ wd_828) rfl dX8_restAt_44 ?_
      refine lv_iload hx hb dX8_restAt_47 (lv_at hl 0 rfl) ?_
      refine lv_iconst (v := 1) hx hb dX8_restAt_49 (by decide) ?_
      refine lv_iadd hx hb dX8_restAt_50 ?_
      refine r_ialdN F h (k := 49 + 4 * k1 + 1) hr (by simp only [fa_lit, pk_mul, nI_add]; first | done | (refine congrArg nI ?_; omega)) (by omega) (by decide) dX8_restAt_51 ?_
      refine lv_iload_n hx hb dX8_restAt_52 rfl (lv_at hl 3 rfl) ?_
      refine u_iE (v := (mnI (r (49 + 4 * k1 + 1)) zz)) (ru_S (As := [.int (r (49 + 4 * k1 + 1)), .int zz]) (rest := []) F h (k_X8_lesser l g n c (r (49 + 4 * k1 + 1)) zz) (gS hjl wd_1020 wd_1021 wd_58 wd_1022) rfl 2 (by decide +kernel) rfl ⟨Nat.le_of_ble_eq_true rfl, Nat.le_of_ble_eq_true rfl⟩ rfl hl.1 (Nat.le_of_ble_eq_true rfl) ⟨Nat.zero_le _, Nat.zero_le _⟩ dX8_restAt_53) h (fun H locs h => ?_)
      refine lv_aload_n hx hb dX8_restAt_56 rfl (lv_at hl 1 rfl) ?_
      refine r_get F h (C := RX8) (T := TX8) (N := 13) (hjc hi_X8) rfl hm 0 (by decide) (List.mem_cons_of_mem _ wd_828) rfl dX8_restAt_57 ?_
      refine lv_iload hx hb dX8_restAt_60 (lv_at hl 0 rfl) ?_
      refine r_ialdN F h (k := 49 + 4 * k1) hr (rfl) (by omega) (by decide) dX8_restAt_62 ?_
      refine lv_iload_n hx hb dX8_restAt_63 rfl (lv_at hl 3 rfl) ?_
      refine u_iE (v := (mnI (r (49 + 4 * k1)) zz)) (ru_S (As := [.int (r (49 + 4 * k1)), .int zz]) (rest := [.int (mnI (r (49 + 4 * k1 + 1)) zz)]) F h (k_X8_lesser l g n c (r (49 + 4 * k1)) zz) (gS hjl wd_1020 wd_1021 wd_58 wd_1022) rfl 2 (by decide +kernel) rfl ⟨Nat.le_of_ble_eq_true rfl, Nat.le_of_ble_eq_true rfl⟩ rfl hl.1 (Nat.le_of_ble_eq_true rfl) ⟨Nat.zero_le _, Nat.zero_le _⟩ dX8_restAt_64) h (fun H locs h => ?_)
      refine lv_isub hx hb dX8_restAt_67 ?_
      refine lv_i2l hx hb dX8_restAt_68 rfl ?_
      refine lv_lstore (lv' := [(8, .long (((mnI (r (49 + 4 * k1 + 1)) zz) - (mnI (r (49 + 4 * k1)) zz)).toInt64)), (7, .int (nI (49 + 4 * k1))), (0, .ref (gz g + b)), (1, .int (nI w)), (2, .int zz), (3, .int (nI a)), (4, .long (raS r w zz a k1)), (6, .int (nI k1))]) hx hb dX8_restAt_69 hl (by decide) rfl (fun ls hl => ?_)
      refine lv_lload hx hb dX8_restAt_71 (lv_at hl 6 rfl) ?_
      refine lv_lload hx hb dX8_restAt_73 (lv_at hl 0 rfl) ?_
      refine lv_aload_n hx hb dX8_restAt_75 rfl (lv_at hl 2 rfl) ?_
      refine r_get F h (C := RX8) (T := TX8) (N := 13) (hjc hi_X8) rfl hm 0 (by decide) (List.mem_cons_of_mem _ wd_828) rfl dX8_restAt_76 ?_
      refine lv_iload hx hb dX8_restAt_79 (lv_at hl 1 rfl) ?_
      refine lv_iconst (v := 2) hx hb dX8_restAt_81 (by decide) ?_
      refine lv_iadd hx hb dX8_restAt_82 ?_
      refine lv_iload_n hx hb dX8_restAt_83 rfl (lv_at hl 5 rfl) ?_
      refine lv_iadd hx hb dX8_restAt_84 ?_
      refine r_ialdN F h (k := 49 + 4 * k1 + 2 + a) hr (by simp only [fa_lit, pk_mul, nI_add]; first | done | (refine congrArg nI ?_; omega)) (by omega) (by decide) dX8_restAt_85 ?_
      refine lv_i2l hx hb dX8_restAt_86 rfl ?_
      refine lv_lmul hx hb dX8_restAt_87 ?_
      refine lv_iload_n hx hb dX8_restAt_88 rfl (lv_at hl 4 rfl) ?_
      refine lv_i2l hx hb dX8_restAt_89 rfl ?_
      refine lv_lmul hx hb dX8_restAt_90 ?_
      refine lv_ldc2 (v := 100) hx hb F.2.2.2.1 (F.2.2.2.2.1 (Cond.constantLong RX8 105 100) (List.mem_cons_of_mem _ wd_1023)) dX8_restAt_91 ?_
      refine lv_aload_n hx hb dX8_restAt_94 rfl (lv_at hl 2 rfl) ?_
      refine lv_iload_n hx hb dX8_restAt_95 rfl (lv_at hl 3 rfl) ?_
      refine lv_iconst (v := 3) hx hb dX8_restAt_96 (by decide) ?_
      refine u_iE (v := (r (5 + 11 * w + 3))) (ru_V (As := [.int (nI w), .int 3]) (rest := [.long 100, .long ((((mnI (r (49 + 4 * k1 + 1)) zz) - (mnI (r (49 + 4 * k1)) zz)).toInt64 * (r (49 + 4 * k1 + 2 + a)).toInt64) * zz.toInt64), .long (raS r w zz a k1)]) F h hm rfl (k_X8_of l g n c b kp rs ty pl fa od hm r hr w 3 (by omega) (by decide)) (gV hjl wd_916 wd_918 wd_21 wd_58 wd_919) rfl 2 (by decide +kernel) rfl ⟨Nat.le_of_ble_eq_true rfl, Nat.le_of_ble_eq_true rfl⟩ rfl hl.1 (Nat.le_of_ble_eq_true rfl) ⟨Nat.zero_le _, Nat.zero_le _⟩ dX8_restAt_97) h (fun H locs h => ?_)
      refine lv_i2l hx hb dX8_restAt_100 rfl ?_
      refine lv_lmul hx hb dX8_restAt_101 ?_
      refine u_lE (v := (fdL ((((mnI (r (49 + 4 * k1 + 1)) zz) - (mnI (r (49 + 4 * k1)) zz)).toInt64 * (r (49 + 4 * k1 + 2 + a)).toInt64) * zz.toInt64) (100 * (r (5 + 11 * w + 3)).toInt64))) (ru_S (As := [.long ((((mnI (r (49 + 4 * k1 + 1)) zz) - (mnI (r (49 + 4 * k1)) zz)).toInt64 * (r (49 + 4 * k1 + 2 + a)).toInt64) * zz.toInt64), .long (100 * (r (5 + 11 * w + 3)).toInt64)]) (rest := [.long (raS r w zz a k1)]) F h (k_X8_down l g n c ((((mnI (r (49 + 4 * k1 + 1)) zz) - (mnI (r (49 + 4 * k1)) zz)).toInt64 * (r (49 + 4 * k1 + 2 + a)).toInt64) * zz.toInt64) (100 * (r (5 + 11 * w + 3)).toInt64) (ma_pos hma)) (gS hjl wd_1024 wd_1025 wd_58 wd_1026) rfl 2 (by decide +kernel) rfl ⟨Nat.le_of_ble_eq_true rfl, Nat.le_of_ble_eq_true rfl⟩ rfl hl.1 (Nat.le_of_ble_eq_true rfl) ⟨Nat.zero_le _, Nat.zero_le _⟩ dX8_restAt_102) h (fun H locs h => ?_)
      refine lv_ladd hx hb dX8_restAt_105 ?_
      refine lv_lstore (lv' := [(4, .long (raS r w zz a k1 + (fdL ((((mnI (r (49 + 4 * k1 + 1)) zz) - (mnI (r (49 + 4 * k1)) zz)).toInt64 * (r (49 + 4 * k1 + 2 + a)).toInt64) * zz.toInt64) (100 * (r (5 + 11 * w + 3)).toInt64)))), (8, .long (((mnI (r (49 + 4 * k1 + 1)) zz) - (mnI (r (49 + 4 * k1)) zz)).toInt64)), (7, .int (nI (49 + 4 * k1))), (0, .ref (gz g + b)), (1, .int (nI w)), (2, .int zz), (3, .int (nI a)), (6, .int (nI k1))]) hx hb dX8_restAt_106 hl (by decide) rfl (fun ls hl => ?_)
      have hl : lv_has ls 10 [(4, .long (raS r w zz a (k1 + 1))), (8, .long (((mnI (r (49 + 4 * k1 + 1)) zz) - (mnI (r (49 + 4 * k1)) zz)).toInt64)), (7, .int (nI (49 + 4 * k1))), (0, .ref (gz g + b)), (1, .int (nI w)), (2, .int zz), (3, .int (nI a)), (6, .int (nI k1))] := by rw [show (raS r w zz a (k1 + 1) : Int64) = (raS r w zz a k1 + (fdL ((((mnI (r (49 + 4 * k1 + 1)) zz) - (mnI (r (49 + 4 * k1)) zz)).toInt64 * (r (49 + 4 * k1 + 2 + a)).toInt64) * zz.toInt64) (100 * (r (5 + 11 * w + 3)).toInt64))) from rfl]; exact hl
      refine lv_iinc (v := nI (k1 + 1)) (lv' := [(6, .int (nI (k1 + 1))), (4, .long (raS r w zz a (k1 + 1))), (8, .long (((mnI (r (49 + 4 * k1 + 1)) zz) - (mnI (r (49 + 4 * k1)) zz)).toInt64)), (7, .int (nI (49 + 4 * k1))), (0, .ref (gz g + b)), (1, .int (nI w)), (2, .int zz), (3, .int (nI a))]) hx hb dX8_restAt_108 hl (k := 7) rfl (by exact (nI_succ k1).symm) (by decide) rfl (fun ls hl => ?_)
      refine lv_goto (tgt := 23) hx hb dX8_restAt_111 (by decide) ?_
      exact ih (k1 + 1) (by omega) _ _ _ (by omega) h (lv_sub hl [4, 5, 6, 7, 1, 0] rfl)
  exact lp _ 0 (Nat.zero_le _) _ _ _ (Nat.le_refl _) h (lv_sub hl [2, 3, 4, 5, 1, 0] rfl)
def sp_X8_swing (r : Nat → Int32) (w : Nat) : Int32 := if (1 + r (5 + 11 * w + 4) / 100) ≤ (r (5 + 11 * w + 10)) then (if (3 * (1 + r (5 + 11 * w + 4) / 100)) ≤ (r (5 + 11 * w + 10)) then ((((r (5 + 11 * w + 9)) * ((r (5 + 11 * w + 10)) - (4 * (1 + r (5 + 11 * w + 4) / 100)))) / (1 + r (5 + 11 * w + 4) / 100))) else ((((r (5 + 11 * w + 9)) * ((2 * (1 + r (5 + 11 * w + 4) / 100)) - (r (5 + 11 * w + 10)))) / (1 + r (5 + 11 * w + 4) / 100)))) else ((((r (5 + 11 * w + 9)) * (r (5 + 11 * w + 10))) / (1 + r (5 + 11 * w + 4) / 100)))
set_option maxHeartbeats 4000000 in
set_option maxRecDepth 100000 in
theorem k_X8_swing (l : Launch) (g : Gf) (n : Nat) (c : Mp) (b : Nat) (kp rs ty pl fa od : Int32) (hm : c b = moC g b kp rs ty pl fa od) (r : Nat → Int32) (hr : c (b + 1) = iaA (g.2.1 0) 204 r) (w : Nat) (hw : w < 4) (hqz : ¬ (1 + r (5 + 11 * w + 4) / 100) = 0) : Ct l g yX8_swing wsX8_swing 2 43 0 0 [.ref (gz g + b), .int (nI w)] n c (Qi g (fun xr n' c' => xr = sp_X8_swing r w ∧ n' = n ∧ c' = c)) := by
  refine ent (by decide) rfl (Nat.le_of_ble_eq_true rfl) ?_
  intro p e s m args below meth c0 F h ls hl
  have hx := F.1
  have hb := F.2.1
  have hl : lv_has ls 5 [(0, .ref (gz g + b)), (1, .int (nI w))] := hl
  refine lv_aload_n hx hb dX8_swing_0 rfl (lv_at hl 0 rfl) ?_
  refine lv_iload_n hx hb dX8_swing_1 rfl (lv_at hl 1 rfl) ?_
  refine u_iE (v := (1 + r (5 + 11 * w + 4) / 100)) (ru_V (As := [.int (nI w)]) (rest := []) F h hm rfl (k_X8_quarter l g n c b kp rs ty pl fa od hm r hr w (by omega)) (gV hjl wd_952 wd_954 wd_25 wd_58 wd_955) rfl 1 (by decide +kernel) rfl ⟨Nat.le_of_ble_eq_true rfl, Nat.le_of_ble_eq_true rfl⟩ rfl hl.1 (Nat.le_of_ble_eq_true rfl) ⟨Nat.zero_le _, Nat.zero_le _⟩ dX8_swing_2) h (fun H locs h => ?_)
  refine lv_istore_n (lv' := [(2, .int (1 + r (5 + 11 * w + 4) / 100)), (0, .ref (gz g + b)), (1, .int (nI w))]) hx hb dX8_swing_5 rfl hl (by decide) rfl (fun ls hl => ?_)
  refine lv_aload_n hx hb dX8_swing_6 rfl (lv_at hl 1 rfl) ?_
  refine lv_iload_n hx hb dX8_swing_7 rfl (lv_at hl 2 rfl) ?_
  refine lv_bipush (v := 10) hx hb dX8_swing_8 (by decide) ?_
  refine u_iE (v := (r (5 + 11 * w + 10))) (ru_V (As := [.int (nI w), .int 10]) (rest := []) F h hm rfl (k_X8_of l g n c b kp rs ty pl fa od hm r hr w 10 (by omega) (by decide)) (gV hjl wd_916 wd_918 wd_21 wd_58 wd_919) rfl 2 (by decide +kernel) rfl ⟨Nat.le_of_ble_eq_true rfl, Nat.le_of_ble_eq_true rfl⟩ rfl hl.1 (Nat.le_of_ble_eq_true rfl) ⟨Nat.zero_le _, Nat.zero_le _⟩ dX8_swing_10) h (fun H locs h => ?_)
  refine lv_istore_n (lv' := [(3, .int (r (5 + 11 * w + 10))), (2, .int (1 + r (5 + 11 * w + 4) / 100)), (0, .ref (gz g + b)), (1, .int (nI w))]) hx hb dX8_swing_13 rfl hl (by decide) rfl (fun ls hl => ?_)
  refine lv_aload_n hx hb dX8_swing_14 rfl (lv_at hl 2 rfl) ?_
  refine lv_iload_n hx hb dX8_swing_15 rfl (lv_at hl 3 rfl) ?_
  refine lv_bipush (v := 9) hx hb dX8_swing_16 (by decide) ?_
  refine u_iE (v := (r (5 + 11 * w + 9))) (ru_V (As := [.int (nI w), .int 9]) (rest := []) F h hm rfl (k_X8_of l g n c b kp rs ty pl fa od hm r hr w 9 (by omega) (by decide)) (gV hjl wd_916 wd_918 wd_21 wd_58 wd_919) rfl 2 (by decide +kernel) rfl ⟨Nat.le_of_ble_eq_true rfl, Nat.le_of_ble_eq_true rfl⟩ rfl hl.1 (Nat.le_of_ble_eq_true rfl) ⟨Nat.zero_le _, Nat.zero_le _⟩ dX8_swing_18) h (fun H locs h => ?_)
  refine lv_istore (lv' := [(4, .int (r (5 + 11 * w + 9))), (3, .int (r (5 + 11 * w + 10))), (2, .int (1 + r (5 + 11 * w + 4) / 100)), (0, .ref (gz g + b)), (1, .int (nI w))]) hx hb dX8_swing_21 hl (by decide) rfl (fun ls hl => ?_)
  refine lv_iload_n hx hb dX8_swing_23 rfl (lv_at hl 1 rfl) ?_
  refine lv_iload_n hx hb dX8_swing_24 rfl (lv_at hl 2 rfl) ?_
  refine lv_icmp_ge (tgt := 37) hx hb dX8_swing_25 (by decide) (fun b_25 => ?_) (fun b_25 => ?_)
  · skip
    refine lv_iload_n hx hb dX8_swing_37 rfl (lv_at hl 1 rfl) ?_
    refine lv_iconst (v := 3) hx hb dX8_swing_38 (by decide) ?_
    refine lv_iload_n hx hb dX8_swing_39 rfl (lv_at hl 2 rfl) ?_
    refine lv_imul hx hb dX8_swing_40 ?_
    refine lv_icmp_ge (tgt := 57) hx hb dX8_swing_41 (by decide) (fun b_41 => ?_) (fun b_41 => ?_)
    · skip
      refine lv_iload hx hb dX8_swing_57 (lv_at hl 0 rfl) ?_
      refine lv_iload_n hx hb dX8_swing_59 rfl (lv_at hl 1 rfl) ?_
      refine lv_iconst (v := 4) hx hb dX8_swing_60 (by decide) ?_
      refine lv_iload_n hx hb dX8_swing_61 rfl (lv_at hl 2 rfl) ?_
      refine lv_imul hx hb dX8_swing_62 ?_
      refine lv_isub hx hb dX8_swing_63 ?_
      refine lv_imul hx hb dX8_swing_64 ?_
      refine lv_iload_n hx hb dX8_swing_65 rfl (lv_at hl 2 rfl) ?_
      refine lv_idiv hx hb dX8_swing_66 (hqz) ?_
      exact ret_i F h (Nat.zero_le _) (Nat.zero_le _) dX8_swing_67 (⟨((show sp_X8_swing r w = (((r (5 + 11 * w + 9)) * ((r (5 + 11 * w + 10)) - (4 * (1 + r (5 + 11 * w + 4) / 100)))) / (1 + r (5 + 11 * w + 4) / 100)) by rw [sp_X8_swing, if_pos (c := (1 + r (5 + 11 * w + 4) / 100) ≤ (r (5 + 11 * w + 10))) b_25, if_pos (c := (3 * (1 + r (5 + 11 * w + 4) / 100)) ≤ (r (5 + 11 * w + 10))) b_41])).symm, rfl, rfl⟩)
    refine lv_iload hx hb dX8_swing_44 (lv_at hl 0 rfl) ?_
    refine lv_iconst (v := 2) hx hb dX8_swing_46 (by decide) ?_
    refine lv_iload_n hx hb dX8_swing_47 rfl (lv_at hl 2 rfl) ?_
    refine lv_imul hx hb dX8_swing_48 ?_
    refine lv_iload_n hx hb dX8_swing_49 rfl (lv_at hl 1 rfl) ?_
    refine lv_isub hx hb dX8_swing_50 ?_
    refine lv_imul hx hb dX8_swing_51 ?_
    refine lv_iload_n hx hb dX8_swing_52 rfl (lv_at hl 2 rfl) ?_
    refine lv_idiv hx hb dX8_swing_53 (hqz) ?_
    refine lv_goto (tgt := 67) hx hb dX8_swing_54 (by decide) ?_
    exact ret_i F h (Nat.zero_le _) (Nat.zero_le _) dX8_swing_67 (⟨((show sp_X8_swing r w = (((r (5 + 11 * w + 9)) * ((2 * (1 + r (5 + 11 * w + 4) / 100)) - (r (5 + 11 * w + 10)))) / (1 + r (5 + 11 * w + 4) / 100)) by rw [sp_X8_swing, if_pos (c := (1 + r (5 + 11 * w + 4) / 100) ≤ (r (5 + 11 * w + 10))) b_25, if_neg (c := (3 * (1 + r (5 + 11 * w + 4) / 100)) ≤ (r (5 + 11 * w + 10))) b_41])).symm, rfl, rfl⟩)
  refine lv_iload hx hb dX8_swing_28 (lv_at hl 0 rfl) ?_
  refine lv_iload_n hx hb dX8_swing_30 rfl (lv_at hl 1 rfl) ?_
  refine lv_imul hx hb dX8_swing_31 ?_
  refine lv_iload_n hx hb dX8_swing_32 rfl (lv_at hl 2 rfl) ?_
  refine lv_idiv hx hb dX8_swing_33 (hqz) ?_
  refine lv_goto (tgt := 67) hx hb dX8_swing_34 (by decide) ?_
  exact ret_i F h (Nat.zero_le _) (Nat.zero_le _) dX8_swing_67 (⟨((show sp_X8_swing r w = (((r (5 + 11 * w + 9)) * (r (5 + 11 * w + 10))) / (1 + r (5 + 11 * w + 4) / 100)) by rw [sp_X8_swing, if_neg (c := (1 + r (5 + 11 * w + 4) / 100) ≤ (r (5 + 11 * w + 10))) b_25])).symm, rfl, rfl⟩)
def sp_X8_positionAt (r : Nat → Int32) (w : Nat) (zz : Int32) (a cn : Nat) : Int32 := ((raS r w zz a cn).toInt32 + ((sp_X8_part (r (5 + 11 * w + 8)) (nI a)) * (((sp_X8_swing r w) * zz) / (r (5 + 11 * w + 4)))))
set_option maxHeartbeats 4000000 in
set_option maxRecDepth 100000 in
theorem k_X8_positionAt (l : Launch) (g : Gf) (n : Nat) (c : Mp) (b : Nat) (kp rs ty pl fa od : Int32) (hm : c b = moC g b kp rs ty pl fa od) (r : Nat → Int32) (hr : c (b + 1) = iaA (g.2.1 0) 204 r) (w : Nat) (zz : Int32) (a cn : Nat) (hw : w < 4) (ha : a < 2) (hcn : r 3 = nI cn) (h5 : cn ≤ 5) (hma : ¬ r (5 + 11 * w + 3) < 1) (hqz : ¬ (1 + r (5 + 11 * w + 4) / 100) = 0) (hdz : ¬ r (5 + 11 * w + 4) = 0) : Ct l g yX8_positionAt wsX8_positionAt 3 67 0 0 [.ref (gz g + b), .int (nI w), .int zz, .int (nI a)] n c (Qi g (fun xr n' c' => xr = sp_X8_positionAt r w zz a cn ∧ n' = n ∧ c' = c)) := by
  refine ent (by decide) rfl (Nat.le_of_ble_eq_true rfl) ?_
  intro p e s m args below meth c0 F h ls hl
  have hx := F.1
  have hb := F.2.1
  have hl : lv_has ls 4 [(0, .ref (gz g + b)), (1, .int (nI w)), (2, .int zz), (3, .int (nI a))] := hl
  refine lv_aload_n hx hb dX8_positionAt_0 rfl (lv_at hl 0 rfl) ?_
  refine lv_iload_n hx hb dX8_positionAt_1 rfl (lv_at hl 1 rfl) ?_
  refine lv_iload_n hx hb dX8_positionAt_2 rfl (lv_at hl 2 rfl) ?_
  refine lv_iload_n hx hb dX8_positionAt_3 rfl (lv_at hl 3 rfl) ?_
  refine u_iE (v := (raS r w zz a cn).toInt32) (ru_V (As := [.int (nI w), .int zz, .int (nI a)]) (rest := []) F h hm rfl (k_X8_restAt l g n c b kp rs ty pl fa od hm r hr w zz a cn (by omega) (by omega) hcn h5 hma) (gV hjl wd_1016 wd_1018 wd_33 wd_58 wd_1019) rfl 3 (by decide +kernel) rfl ⟨Nat.le_of_ble_eq_true rfl, Nat.le_of_ble_eq_true rfl⟩ rfl hl.1 (Nat.le_of_ble_eq_true rfl) ⟨Nat.zero_le _, Nat.zero_le _⟩ dX8_positionAt_4) h (fun H locs h => ?_)
  refine lv_aload_n hx hb dX8_positionAt_7 rfl (lv_at hl 0 rfl) ?_
  refine lv_iload_n hx hb dX8_positionAt_8 rfl (lv_at hl 1 rfl) ?_
  refine lv_bipush (v := 8) hx hb dX8_positionAt_9 (by decide) ?_
  refine u_iE (v := (r (5 + 11 * w + 8))) (ru_V (As := [.int (nI w), .int 8]) (rest := [.int ((raS r w zz a cn).toInt32)]) F h hm rfl (k_X8_of l g n c b kp rs ty pl fa od hm r hr w 8 (by omega) (by decide)) (gV hjl wd_916 wd_918 wd_21 wd_58 wd_919) rfl 2 (by decide +kernel) rfl ⟨Nat.le_of_ble_eq_true rfl, Nat.le_of_ble_eq_true rfl⟩ rfl hl.1 (Nat.le_of_ble_eq_true rfl) ⟨Nat.zero_le _, Nat.zero_le _⟩ dX8_positionAt_11) h (fun H locs h => ?_)
  refine lv_iload_n hx hb dX8_positionAt_14 rfl (lv_at hl 3 rfl) ?_
  refine u_iE (v := (sp_X8_part (r (5 + 11 * w + 8)) (nI a))) (ru_S (As := [.int (r (5 + 11 * w + 8)), .int (nI a)]) (rest := [.int ((raS r w zz a cn).toInt32)]) F h (k_X8_part l g n c (r (5 + 11 * w + 8)) (nI a) ) (gS hjl wd_1027 wd_1028 wd_58 wd_1029) rfl 2 (by decide +kernel) rfl ⟨Nat.le_of_ble_eq_true rfl, Nat.le_of_ble_eq_true rfl⟩ rfl hl.1 (Nat.le_of_ble_eq_true rfl) ⟨Nat.zero_le _, Nat.zero_le _⟩ dX8_positionAt_15) h (fun H locs h => ?_)
  refine lv_aload_n hx hb dX8_positionAt_18 rfl (lv_at hl 0 rfl) ?_
  refine lv_iload_n hx hb dX8_positionAt_19 rfl (lv_at hl 1 rfl) ?_
  refine u_iE (v := (sp_X8_swing r w)) (ru_V (As := [.int (nI w)]) (rest := [.int (sp_X8_part (r (5 + 11 * w + 8)) (nI a)), .int ((raS r w zz a cn).toInt32)]) F h hm rfl (k_X8_swing l g n c b kp rs ty pl fa od hm r hr w (by omega) hqz) (gV hjl wd_1030 wd_1032 wd_34 wd_58 wd_1033) rfl 1 (by decide +kernel) rfl ⟨Nat.le_of_ble_eq_true rfl, Nat.le_of_ble_eq_true rfl⟩ rfl hl.1 (Nat.le_of_ble_eq_true rfl) ⟨Nat.zero_le _, Nat.zero_le _⟩ dX8_positionAt_20) h (fun H locs h => ?_)
  refine lv_iload_n hx hb dX8_positionAt_23 rfl (lv_at hl 2 rfl) ?_
  refine lv_imul hx hb dX8_positionAt_24 ?_
  refine lv_aload_n hx hb dX8_positionAt_25 rfl (lv_at hl 0 rfl) ?_
  refine lv_iload_n hx hb dX8_positionAt_26 rfl (lv_at hl 1 rfl) ?_
  refine lv_iconst (v := 4) hx hb dX8_positionAt_27 (by decide) ?_
  refine u_iE (v := (r (5 + 11 * w + 4))) (ru_V (As := [.int (nI w), .int 4]) (rest := [.int ((sp_X8_swing r w) * zz), .int (sp_X8_part (r (5 + 11 * w + 8)) (nI a)), .int ((raS r w zz a cn).toInt32)]) F h hm rfl (k_X8_of l g n c b kp rs ty pl fa od hm r hr w 4 (by omega) (by decide)) (gV hjl wd_916 wd_918 wd_21 wd_58 wd_919) rfl 2 (by decide +kernel) rfl ⟨Nat.le_of_ble_eq_true rfl, Nat.le_of_ble_eq_true rfl⟩ rfl hl.1 (Nat.le_of_ble_eq_true rfl) ⟨Nat.zero_le _, Nat.zero_le _⟩ dX8_positionAt_28) h (fun H locs h => ?_)
  refine lv_idiv hx hb dX8_positionAt_31 (hdz) ?_
  refine lv_imul hx hb dX8_positionAt_32 ?_
  refine lv_iadd hx hb dX8_positionAt_33 ?_
  exact ret_i F h (Nat.zero_le _) (Nat.zero_le _) dX8_positionAt_34 (⟨((show sp_X8_positionAt r w zz a cn = ((raS r w zz a cn).toInt32 + ((sp_X8_part (r (5 + 11 * w + 8)) (nI a)) * (((sp_X8_swing r w) * zz) / (r (5 + 11 * w + 4))))) by rw [sp_X8_positionAt])).symm, rfl, rfl⟩)
def sp_X8_hasPair (r : Nat → Int32) (q : Nat) : Int32 := if (hgI r (2 * q)) = 0 then (0) else (if (hgI r (2 * q + 1)) = 0 then (0) else (1))
set_option maxHeartbeats 4000000 in
set_option maxRecDepth 100000 in
theorem k_X8_hasPair (l : Launch) (g : Gf) (n : Nat) (c : Mp) (b : Nat) (kp rs ty pl fa od : Int32) (hm : c b = moC g b kp rs ty pl fa od) (r : Nat → Int32) (hr : c (b + 1) = iaA (g.2.1 0) 204 r) (q : Nat) (hq2 : q < 2) : Ct l g yX8_hasPair wsX8_hasPair 2 43 0 0 [.ref (gz g + b), .int (nI q)] n c (Qi g (fun xr n' c' => xr = sp_X8_hasPair r q ∧ n' = n ∧ c' = c)) := by
  refine ent (by decide) rfl (Nat.le_of_ble_eq_true rfl) ?_
  intro p e s m args below meth c0 F h ls hl
  have hx := F.1
  have hb := F.2.1
  have hl : lv_has ls 2 [(0, .ref (gz g + b)), (1, .int (nI q))] := hl
  refine lv_aload_n hx hb dX8_hasPair_0 rfl (lv_at hl 0 rfl) ?_
  refine lv_iconst (v := 2) hx hb dX8_hasPair_1 (by decide) ?_
  refine lv_iload_n hx hb dX8_hasPair_2 rfl (lv_at hl 1 rfl) ?_
  refine lv_imul hx hb dX8_hasPair_3 ?_
  refine r_top (w := .int (nI (2 * q))) (congrArg Value.int (by simp only [fa_lit, pk_mul, nI_add]; first | done | (refine congrArg nI ?_; omega))) ?_
  refine u_iE (v := (hgI r (2 * q))) (ru_V (As := [.int (nI (2 * q))]) (rest := []) F h hm rfl (k_X8_isHung l g n c b kp rs ty pl fa od hm r hr (2 * q) (by omega)) (gV hjl wd_924 wd_926 wd_22 wd_58 wd_927) rfl 1 (by decide +kernel) rfl ⟨Nat.le_of_ble_eq_true rfl, Nat.le_of_ble_eq_true rfl⟩ rfl hl.1 (Nat.le_of_ble_eq_true rfl) ⟨Nat.zero_le _, Nat.zero_le _⟩ dX8_hasPair_4) h (fun H locs h => ?_)
  refine lv_if_eq (tgt := 26) hx hb dX8_hasPair_7 (by decide) (fun b_7 => ?_) (fun b_7 => ?_)
  · skip
    refine lv_iconst (v := 0) hx hb dX8_hasPair_26 (by decide) ?_
    exact ret_z F h (by decide) (Nat.zero_le _) (Nat.zero_le _) dX8_hasPair_27 (⟨((show sp_X8_hasPair r q = 0 by rw [sp_X8_hasPair, if_pos (c := (hgI r (2 * q)) = 0) b_7])).symm, rfl, rfl⟩)
  refine lv_aload_n hx hb dX8_hasPair_10 rfl (lv_at hl 0 rfl) ?_
  refine lv_iconst (v := 2) hx hb dX8_hasPair_11 (by decide) ?_
  refine lv_iload_n hx hb dX8_hasPair_12 rfl (lv_at hl 1 rfl) ?_
  refine lv_imul hx hb dX8_hasPair_13 ?_
  refine lv_iconst (v := 1) hx hb dX8_hasPair_14 (by decide) ?_
  refine lv_iadd hx hb dX8_hasPair_15 ?_
  refine r_top (w := .int (nI (2 * q + 1))) (congrArg Value.int (by simp only [fa_lit, pk_mul, nI_add]; first | done | (refine congrArg nI ?_; omega))) ?_
  refine u_iE (v := (hgI r (2 * q + 1))) (ru_V (As := [.int (nI (2 * q + 1))]) (rest := []) F h hm rfl (k_X8_isHung l g n c b kp rs ty pl fa od hm r hr (2 * q + 1) (by omega)) (gV hjl wd_924 wd_926 wd_22 wd_58 wd_927) rfl 1 (by decide +kernel) rfl ⟨Nat.le_of_ble_eq_true rfl, Nat.le_of_ble_eq_true rfl⟩ rfl hl.1 (Nat.le_of_ble_eq_true rfl) ⟨Nat.zero_le _, Nat.zero_le _⟩ dX8_hasPair_16) h (fun H locs h => ?_)
  refine lv_if_eq (tgt := 26) hx hb dX8_hasPair_19 (by decide) (fun b_19 => ?_) (fun b_19 => ?_)
  · skip
    refine lv_iconst (v := 0) hx hb dX8_hasPair_26 (by decide) ?_
    exact ret_z F h (by decide) (Nat.zero_le _) (Nat.zero_le _) dX8_hasPair_27 (⟨((show sp_X8_hasPair r q = 0 by rw [sp_X8_hasPair, if_neg (c := (hgI r (2 * q)) = 0) b_7, if_pos (c := (hgI r (2 * q + 1)) = 0) b_19])).symm, rfl, rfl⟩)
  refine lv_iconst (v := 1) hx hb dX8_hasPair_22 (by decide) ?_
  refine lv_goto (tgt := 27) hx hb dX8_hasPair_23 (by decide) ?_
  exact ret_z F h (by decide) (Nat.zero_le _) (Nat.zero_le _) dX8_hasPair_27 (⟨((show sp_X8_hasPair r q = 1 by rw [sp_X8_hasPair, if_neg (c := (hgI r (2 * q)) = 0) b_7, if_neg (c := (hgI r (2 * q + 1)) = 0) b_19])).symm, rfl, rfl⟩)
def sp_X8_acrossTop (r : Nat → Int32) (q a : Nat) : Int32 := ((r (5 + 11 * (2 * q + 1) + (1 + a))) - (r (5 + 11 * (2 * q) + (1 + a))))
set_option maxHeartbeats 4000000 in
set_option maxRecDepth 100000 in
theorem k_X8_acrossTop (l : Launch) (g : Gf) (n : Nat) (c : Mp) (b : Nat) (kp rs ty pl fa od : Int32) (hm : c b = moC g b kp rs ty pl fa od) (r : Nat → Int32) (hr : c (b + 1) = iaA (g.2.1 0) 204 r) (q a : Nat) (hq2 : q < 2) (ha : a < 2) : Ct l g yX8_acrossTop wsX8_acrossTop 1 22 0 0 [.ref (gz g + b), .int (nI q), .int (nI a)] n c (Qi g (fun xr n' c' => xr = sp_X8_acrossTop r q a ∧ n' = n ∧ c' = c)) := by
  refine ent (by decide) rfl (Nat.le_of_ble_eq_true rfl) ?_
  intro p e s m args below meth c0 F h ls hl
  have hx := F.1
  have hb := F.2.1
  have hl : lv_has ls 3 [(0, .ref (gz g + b)), (1, .int (nI q)), (2, .int (nI a))] := hl
  refine lv_aload_n hx hb dX8_acrossTop_0 rfl (lv_at hl 0 rfl) ?_
  refine lv_iconst (v := 2) hx hb dX8_acrossTop_1 (by decide) ?_
  refine lv_iload_n hx hb dX8_acrossTop_2 rfl (lv_at hl 1 rfl) ?_
  refine lv_imul hx hb dX8_acrossTop_3 ?_
  refine lv_iconst (v := 1) hx hb dX8_acrossTop_4 (by decide) ?_
  refine lv_iadd hx hb dX8_acrossTop_5 ?_
  refine r_top (w := .int (nI (2 * q + 1))) (congrArg Value.int (by simp only [fa_lit, pk_mul, nI_add]; first | done | (refine congrArg nI ?_; omega))) ?_
  refine lv_iconst (v := 1) hx hb dX8_acrossTop_6 (by decide) ?_
  refine lv_iload_n hx hb dX8_acrossTop_7 rfl (lv_at hl 2 rfl) ?_
  refine lv_iadd hx hb dX8_acrossTop_8 ?_
  refine r_top (w := .int (nI (1 + a))) (congrArg Value.int (by simp only [fa_lit, pk_mul, nI_add]; first | done | (refine congrArg nI ?_; omega))) ?_
  refine u_iE (v := (r (5 + 11 * (2 * q + 1) + (1 + a)))) (ru_V (As := [.int (nI (2 * q + 1)), .int (nI (1 + a))]) (rest := []) F h hm rfl (k_X8_of l g n c b kp rs ty pl fa od hm r hr (2 * q + 1) (1 + a) (by omega) (by omega)) (gV hjl wd_916 wd_918 wd_21 wd_58 wd_919) rfl 2 (by decide +kernel) rfl ⟨Nat.le_of_ble_eq_true rfl, Nat.le_of_ble_eq_true rfl⟩ rfl hl.1 (Nat.le_of_ble_eq_true rfl) ⟨Nat.zero_le _, Nat.zero_le _⟩ dX8_acrossTop_9) h (fun H locs h => ?_)
  refine lv_aload_n hx hb dX8_acrossTop_12 rfl (lv_at hl 0 rfl) ?_
  refine lv_iconst (v := 2) hx hb dX8_acrossTop_13 (by decide) ?_
  refine lv_iload_n hx hb dX8_acrossTop_14 rfl (lv_at hl 1 rfl) ?_
  refine lv_imul hx hb dX8_acrossTop_15 ?_
  refine r_top (w := .int (nI (2 * q))) (congrArg Value.int (by simp only [fa_lit, pk_mul, nI_add]; first | done | (refine congrArg nI ?_; omega))) ?_
  refine lv_iconst (v := 1) hx hb dX8_acrossTop_16 (by decide) ?_
  refine lv_iload_n hx hb dX8_acrossTop_17 rfl (lv_at hl 2 rfl) ?_
  refine lv_iadd hx hb dX8_acrossTop_18 ?_
  refine r_top (w := .int (nI (1 + a))) (congrArg Value.int (by simp only [fa_lit, pk_mul, nI_add]; first | done | (refine congrArg nI ?_; omega))) ?_
  refine u_iE (v := (r (5 + 11 * (2 * q) + (1 + a)))) (ru_V (As := [.int (nI (2 * q)), .int (nI (1 + a))]) (rest := [.int (r (5 + 11 * (2 * q + 1) + (1 + a)))]) F h hm rfl (k_X8_of l g n c b kp rs ty pl fa od hm r hr (2 * q) (1 + a) (by omega) (by omega)) (gV hjl wd_916 wd_918 wd_21 wd_58 wd_919) rfl 2 (by decide +kernel) rfl ⟨Nat.le_of_ble_eq_true rfl, Nat.le_of_ble_eq_true rfl⟩ rfl hl.1 (Nat.le_of_ble_eq_true rfl) ⟨Nat.zero_le _, Nat.zero_le _⟩ dX8_acrossTop_19) h (fun H locs h => ?_)
  refine lv_isub hx hb dX8_acrossTop_22 ?_
  exact ret_i F h (Nat.zero_le _) (Nat.zero_le _) dX8_acrossTop_23 (⟨((show sp_X8_acrossTop r q a = ((r (5 + 11 * (2 * q + 1) + (1 + a))) - (r (5 + 11 * (2 * q) + (1 + a)))) by rw [sp_X8_acrossTop])).symm, rfl, rfl⟩)
def sp_X8_acrossAt (r : Nat → Int32) (s1 q a : Nat) : Int32 := ((r (84 + 6 * (4 * s1 + (2 * q + 1)) + 1 + a)) - (r (84 + 6 * (4 * s1 + 2 * q) + 1 + a)))
set_option maxHeartbeats 4000000 in
set_option maxRecDepth 100000 in
theorem k_X8_acrossAt (l : Launch) (g : Gf) (n : Nat) (c : Mp) (b : Nat) (kp rs ty pl fa od : Int32) (hm : c b = moC g b kp rs ty pl fa od) (r : Nat → Int32) (hr : c (b + 1) = iaA (g.2.1 0) 204 r) (s1 q a : Nat) (hs5 : s1 < 5) (hq2 : q < 2) (ha : a < 2) : Ct l g yX8_acrossAt wsX8_acrossAt 1 21 0 0 [.ref (gz g + b), .int (nI s1), .int (nI q), .int (nI a)] n c (Qi g (fun xr n' c' => xr = sp_X8_acrossAt r s1 q a ∧ n' = n ∧ c' = c)) := by
  refine ent (by decide) rfl (Nat.le_of_ble_eq_true rfl) ?_
  intro p e s m args below meth c0 F h ls hl
  have hx := F.1
  have hb := F.2.1
  have hl : lv_has ls 4 [(0, .ref (gz g + b)), (1, .int (nI s1)), (2, .int (nI q)), (3, .int (nI a))] := hl
  refine lv_aload_n hx hb dX8_acrossAt_0 rfl (lv_at hl 0 rfl) ?_
  refine r_get F h (C := RX8) (T := TX8) (N := 13) (hjc hi_X8) rfl hm 0 (by decide) (List.mem_cons_of_mem _ wd_828) rfl dX8_acrossAt_1 ?_
  refine lv_iload_n hx hb dX8_acrossAt_4 rfl (lv_at hl 1 rfl) ?_
  refine lv_iconst (v := 2) hx hb dX8_acrossAt_5 (by decide) ?_
  refine lv_iload_n hx hb dX8_acrossAt_6 rfl (lv_at hl 2 rfl) ?_
  refine lv_imul hx hb dX8_acrossAt_7 ?_
  refine lv_iconst (v := 1) hx hb dX8_acrossAt_8 (by decide) ?_
  refine lv_iadd hx hb dX8_acrossAt_9 ?_
  refine u_iE (v := (84 + 6 * (4 * (nI s1) + ((2 * nI q) + 1)))) (ru_S (As := [.int (nI s1), .int ((2 * nI q) + 1)]) (rest := [.ref (gz g + (b + 1))]) F h (k_X8_seenAt l g n c (nI s1) ((2 * nI q) + 1)) (gS hjl wd_909 wd_910 wd_58 wd_911) rfl 2 (by decide +kernel) rfl ⟨Nat.le_of_ble_eq_true rfl, Nat.le_of_ble_eq_true rfl⟩ rfl hl.1 (Nat.le_of_ble_eq_true rfl) ⟨Nat.zero_le _, Nat.zero_le _⟩ dX8_acrossAt_10) h (fun H locs h => ?_)
  refine lv_iconst (v := 1) hx hb dX8_acrossAt_13 (by decide) ?_
  refine lv_iadd hx hb dX8_acrossAt_14 ?_
  refine lv_iload_n hx hb dX8_acrossAt_15 rfl (lv_at hl 3 rfl) ?_
  refine lv_iadd hx hb dX8_acrossAt_16 ?_
  refine r_ialdN F h (k := 84 + 6 * (4 * s1 + (2 * q + 1)) + 1 + a) hr (by simp only [fa_lit, pk_mul, nI_add]; first | done | (refine congrArg nI ?_; omega)) (by omega) (by decide) dX8_acrossAt_17 ?_
  refine lv_aload_n hx hb dX8_acrossAt_18 rfl (lv_at hl 0 rfl) ?_
  refine r_get F h (C := RX8) (T := TX8) (N := 13) (hjc hi_X8) rfl hm 0 (by decide) (List.mem_cons_of_mem _ wd_828) rfl dX8_acrossAt_19 ?_
  refine lv_iload_n hx hb dX8_acrossAt_22 rfl (lv_at hl 1 rfl) ?_
  refine lv_iconst (v := 2) hx hb dX8_acrossAt_23 (by decide) ?_
  refine lv_iload_n hx hb dX8_acrossAt_24 rfl (lv_at hl 2 rfl) ?_
  refine lv_imul hx hb dX8_acrossAt_25 ?_
  refine u_iE (v := (84 + 6 * (4 * (nI s1) + (2 * nI q)))) (ru_S (As := [.int (nI s1), .int (2 * nI q)]) (rest := [.ref (gz g + (b + 1)), .int (r (84 + 6 * (4 * s1 + (2 * q + 1)) + 1 + a))]) F h (k_X8_seenAt l g n c (nI s1) (2 * nI q)) (gS hjl wd_909 wd_910 wd_58 wd_911) rfl 2 (by decide +kernel) rfl ⟨Nat.le_of_ble_eq_true rfl, Nat.le_of_ble_eq_true rfl⟩ rfl hl.1 (Nat.le_of_ble_eq_true rfl) ⟨Nat.zero_le _, Nat.zero_le _⟩ dX8_acrossAt_26) h (fun H locs h => ?_)
  refine lv_iconst (v := 1) hx hb dX8_acrossAt_29 (by decide) ?_
  refine lv_iadd hx hb dX8_acrossAt_30 ?_
  refine lv_iload_n hx hb dX8_acrossAt_31 rfl (lv_at hl 3 rfl) ?_
  refine lv_iadd hx hb dX8_acrossAt_32 ?_
  refine r_ialdN F h (k := 84 + 6 * (4 * s1 + 2 * q) + 1 + a) hr (by simp only [fa_lit, pk_mul, nI_add]; first | done | (refine congrArg nI ?_; omega)) (by omega) (by decide) dX8_acrossAt_33 ?_
  refine lv_isub hx hb dX8_acrossAt_34 ?_
  exact ret_i F h (Nat.zero_le _) (Nat.zero_le _) dX8_acrossAt_35 (⟨((show sp_X8_acrossAt r s1 q a = ((r (84 + 6 * (4 * s1 + (2 * q + 1)) + 1 + a)) - (r (84 + 6 * (4 * s1 + 2 * q) + 1 + a))) by rw [sp_X8_acrossAt])).symm, rfl, rfl⟩)
def sp_X8_missing (r : Nat → Int32) (s1 q : Nat) : Int32 := if (sp_X8_hasPair r q) = 0 then (1) else (if (r (84 + 6 * (4 * s1 + 2 * q) + 0)) = 0 then (3) else (if (r (84 + 6 * (4 * s1 + (2 * q + 1)) + 0)) = 0 then (3) else (if (sp_X8_acrossTop r q 0) = 0 then (if (sp_X8_acrossTop r q 1) = 0 then (if (sp_X8_acrossAt r s1 q 0) = 0 then (if (sp_X8_acrossAt r s1 q 1) = 0 then (4) else (4)) else (4)) else (if (sp_X8_acrossAt r s1 q 0) = 0 then (if (sp_X8_acrossAt r s1 q 1) = 0 then (4) else (0)) else (0))) else (if (sp_X8_acrossAt r s1 q 0) = 0 then (if (sp_X8_acrossAt r s1 q 1) = 0 then (4) else (0)) else (0)))))
set_option maxHeartbeats 4000000 in
set_option maxRecDepth 100000 in
theorem k_X8_missing (l : Launch) (g : Gf) (n : Nat) (c : Mp) (b : Nat) (kp rs ty pl fa od : Int32) (hm : c b = moC g b kp rs ty pl fa od) (r : Nat → Int32) (hr : c (b + 1) = iaA (g.2.1 0) 204 r) (s1 q : Nat) (hs5 : s1 < 5) (hq2 : q < 2) : Ct l g yX8_missing wsX8_missing 3 64 0 0 [.ref (gz g + b), .int (nI s1), .int (nI q)] n c (Qi g (fun xr n' c' => xr = sp_X8_missing r s1 q ∧ n' = n ∧ c' = c)) := by
  refine ent (by decide) rfl (Nat.le_of_ble_eq_true rfl) ?_
  intro p e s m args below meth c0 F h ls hl
  have hx := F.1
  have hb := F.2.1
  have hl : lv_has ls 5 [(0, .ref (gz g + b)), (1, .int (nI s1)), (2, .int (nI q))] := hl
  refine lv_aload_n hx hb dX8_missing_0 rfl (lv_at hl 0 rfl) ?_
  refine lv_iload_n hx hb dX8_missing_1 rfl (lv_at hl 2 rfl) ?_
  refine u_iE (v := (sp_X8_hasPair r q)) (ru_V (As := [.int (nI q)]) (rest := []) F h hm rfl (k_X8_hasPair l g n c b kp rs ty pl fa od hm r hr q (by omega)) (gV hjl wd_1048 wd_1050 wd_35 wd_58 wd_1051) rfl 1 (by decide +kernel) rfl ⟨Nat.le_of_ble_eq_true rfl, Nat.le_of_ble_eq_true rfl⟩ rfl hl.1 (Nat.le_of_ble_eq_true rfl) ⟨Nat.zero_le _, Nat.zero_le _⟩ dX8_missing_2) h (fun H locs h => ?_)
  refine lv_if_ne (tgt := 10) hx hb dX8_missing_5 (by decide) (fun b_5 => ?_) (fun b_5 => ?_)
  · skip
    refine lv_aload_n hx hb dX8_missing_10 rfl (lv_at hl 0 rfl) ?_
    refine r_get F h (C := RX8) (T := TX8) (N := 13) (hjc hi_X8) rfl hm 0 (by decide) (List.mem_cons_of_mem _ wd_828) rfl dX8_missing_11 ?_
    refine lv_iload_n hx hb dX8_missing_14 rfl (lv_at hl 1 rfl) ?_
    refine lv_iconst (v := 2) hx hb dX8_missing_15 (by decide) ?_
    refine lv_iload_n hx hb dX8_missing_16 rfl (lv_at hl 2 rfl) ?_
    refine lv_imul hx hb dX8_missing_17 ?_
    refine u_iE (v := (84 + 6 * (4 * (nI s1) + (2 * nI q)))) (ru_S (As := [.int (nI s1), .int (2 * nI q)]) (rest := [.ref (gz g + (b + 1))]) F h (k_X8_seenAt l g n c (nI s1) (2 * nI q)) (gS hjl wd_909 wd_910 wd_58 wd_911) rfl 2 (by decide +kernel) rfl ⟨Nat.le_of_ble_eq_true rfl, Nat.le_of_ble_eq_true rfl⟩ rfl hl.1 (Nat.le_of_ble_eq_true rfl) ⟨Nat.zero_le _, Nat.zero_le _⟩ dX8_missing_18) h (fun H locs h => ?_)
    refine lv_iconst (v := 0) hx hb dX8_missing_21 (by decide) ?_
    refine lv_iadd hx hb dX8_missing_22 ?_
    refine r_ialdN F h (k := 84 + 6 * (4 * s1 + 2 * q) + 0) hr (by simp only [fa_lit, pk_mul, nI_add]; first | done | (refine congrArg nI ?_; omega)) (by omega) (by decide) dX8_missing_23 ?_
    refine lv_if_eq (tgt := 46) hx hb dX8_missing_24 (by decide) (fun b_24 => ?_) (fun b_24 => ?_)
    · skip
      refine lv_iconst (v := 3) hx hb dX8_missing_46 (by decide) ?_
      exact ret_i F h (Nat.zero_le _) (Nat.zero_le _) dX8_missing_47 (⟨((show sp_X8_missing r s1 q = 3 by rw [sp_X8_missing, if_neg (c := (sp_X8_hasPair r q) = 0) b_5, if_pos (c := (r (84 + 6 * (4 * s1 + 2 * q) + 0)) = 0) b_24])).symm, rfl, rfl⟩)
    refine lv_aload_n hx hb dX8_missing_27 rfl (lv_at hl 0 rfl) ?_
    refine r_get F h (C := RX8) (T := TX8) (N := 13) (hjc hi_X8) rfl hm 0 (by decide) (List.mem_cons_of_mem _ wd_828) rfl dX8_missing_28 ?_
    refine lv_iload_n hx hb dX8_missing_31 rfl (lv_at hl 1 rfl) ?_
    refine lv_iconst (v := 2) hx hb dX8_missing_32 (by decide) ?_
    refine lv_iload_n hx hb dX8_missing_33 rfl (lv_at hl 2 rfl) ?_
    refine lv_imul hx hb dX8_missing_34 ?_
    refine lv_iconst (v := 1) hx hb dX8_missing_35 (by decide) ?_
    refine lv_iadd hx hb dX8_missing_36 ?_
    refine u_iE (v := (84 + 6 * (4 * (nI s1) + ((2 * nI q) + 1)))) (ru_S (As := [.int (nI s1), .int ((2 * nI q) + 1)]) (rest := [.ref (gz g + (b + 1))]) F h (k_X8_seenAt l g n c (nI s1) ((2 * nI q) + 1)) (gS hjl wd_909 wd_910 wd_58 wd_911) rfl 2 (by decide +kernel) rfl ⟨Nat.le_of_ble_eq_true rfl, Nat.le_of_ble_eq_true rfl⟩ rfl hl.1 (Nat.le_of_ble_eq_true rfl) ⟨Nat.zero_le _, Nat.zero_le _⟩ dX8_missing_37) h (fun H locs h => ?_)
    refine lv_iconst (v := 0) hx hb dX8_missing_40 (by decide) ?_
    refine lv_iadd hx hb dX8_missing_41 ?_
    refine r_ialdN F h (k := 84 + 6 * (4 * s1 + (2 * q + 1)) + 0) hr (by simp only [fa_lit, pk_mul, nI_add]; first | done | (refine congrArg nI ?_; omega)) (by omega) (by decide) dX8_missing_42 ?_
    refine lv_if_ne (tgt := 48) hx hb dX8_missing_43 (by decide) (fun b_43 => ?_) (fun b_43 => ?_)
    · skip
      refine lv_aload_n hx hb dX8_missing_48 rfl (lv_at hl 0 rfl) ?_
      refine lv_iload_n hx hb dX8_missing_49 rfl (lv_at hl 2 rfl) ?_
      refine lv_iconst (v := 0) hx hb dX8_missing_50 (by decide) ?_
      refine u_iE (v := (sp_X8_acrossTop r q 0)) (ru_V (As := [.int (nI q), .int 0]) (rest := []) F h hm rfl (k_X8_acrossTop l g n c b kp rs ty pl fa od hm r hr q 0 (by omega) (by decide)) (gV hjl wd_1052 wd_1054 wd_36 wd_58 wd_1055) rfl 2 (by decide +kernel) rfl ⟨Nat.le_of_ble_eq_true rfl, Nat.le_of_ble_eq_true rfl⟩ rfl hl.1 (Nat.le_of_ble_eq_true rfl) ⟨Nat.zero_le _, Nat.zero_le _⟩ dX8_missing_51) h (fun H locs h => ?_)
      refine lv_if_ne (tgt := 70) hx hb dX8_missing_54 (by decide) (fun b_54 => ?_) (fun b_54 => ?_)
      · skip
        refine lv_iconst (v := 0) hx hb dX8_missing_70 (by decide) ?_
        refine lv_istore_n (lv' := [(3, .int 0), (0, .ref (gz g + b)), (1, .int (nI s1)), (2, .int (nI q))]) hx hb dX8_missing_71 rfl hl (by decide) rfl (fun ls hl => ?_)
        refine lv_aload_n hx hb dX8_missing_72 rfl (lv_at hl 1 rfl) ?_
        refine lv_iload_n hx hb dX8_missing_73 rfl (lv_at hl 2 rfl) ?_
        refine lv_iload_n hx hb dX8_missing_74 rfl (lv_at hl 3 rfl) ?_
        refine lv_iconst (v := 0) hx hb dX8_missing_75 (by decide) ?_
        refine u_iE (v := (sp_X8_acrossAt r s1 q 0)) (ru_V (As := [.int (nI s1), .int (nI q), .int 0]) (rest := []) F h hm rfl (k_X8_acrossAt l g n c b kp rs ty pl fa od hm r hr s1 q 0 (by omega) (by omega) (by decide)) (gV hjl wd_1064 wd_1066 wd_38 wd_58 wd_1067) rfl 3 (by decide +kernel) rfl ⟨Nat.le_of_ble_eq_true rfl, Nat.le_of_ble_eq_true rfl⟩ rfl hl.1 (Nat.le_of_ble_eq_true rfl) ⟨Nat.zero_le _, Nat.zero_le _⟩ dX8_missing_76) h (fun H locs h => ?_)
        refine lv_if_ne (tgt := 96) hx hb dX8_missing_79 (by decide) (fun b_79 => ?_) (fun b_79 => ?_)
        · skip
          refine lv_iconst (v := 0) hx hb dX8_missing_96 (by decide) ?_
          refine lv_istore (lv' := [(4, .int 0), (3, .int 0), (0, .ref (gz g + b)), (1, .int (nI s1)), (2, .int (nI q))]) hx hb dX8_missing_97 hl (by decide) rfl (fun ls hl => ?_)
          refine lv_iload_n hx hb dX8_missing_99 rfl (lv_at hl 1 rfl) ?_
          refine lv_if_ne (tgt := 108) hx hb dX8_missing_100 (by decide) (fun b_100 => by first | exact absurd b_100 (by decide) | exact absurd (by decide) b_100) (fun b_100 => ?_)
          refine lv_iload hx hb dX8_missing_103 (lv_at hl 0 rfl) ?_
          refine lv_if_eq (tgt := 112) hx hb dX8_missing_105 (by decide) (fun b_105 => ?_) (fun b_105 => by first | exact absurd (by decide) b_105 | exact absurd b_105 (by decide))
          refine lv_iconst (v := 0) hx hb dX8_missing_112 (by decide) ?_
          exact ret_i F h (Nat.zero_le _) (Nat.zero_le _) dX8_missing_113 (⟨((show sp_X8_missing r s1 q = 0 by rw [sp_X8_missing, if_neg (c := (sp_X8_hasPair r q) = 0) b_5, if_neg (c := (r (84 + 6 * (4 * s1 + 2 * q) + 0)) = 0) b_24, if_neg (c := (r (84 + 6 * (4 * s1 + (2 * q + 1)) + 0)) = 0) b_43, if_neg (c := (sp_X8_acrossTop r q 0) = 0) b_54, if_neg (c := (sp_X8_acrossAt r s1 q 0) = 0) b_79])).symm, rfl, rfl⟩)
        refine lv_aload_n hx hb dX8_missing_82 rfl (lv_at hl 1 rfl) ?_
        refine lv_iload_n hx hb dX8_missing_83 rfl (lv_at hl 2 rfl) ?_
        refine lv_iload_n hx hb dX8_missing_84 rfl (lv_at hl 3 rfl) ?_
        refine lv_iconst (v := 1) hx hb dX8_missing_85 (by decide) ?_
        refine u_iE (v := (sp_X8_acrossAt r s1 q 1)) (ru_V (As := [.int (nI s1), .int (nI q), .int 1]) (rest := []) F h hm rfl (k_X8_acrossAt l g n c b kp rs ty pl fa od hm r hr s1 q 1 (by omega) (by omega) (by decide)) (gV hjl wd_1064 wd_1066 wd_38 wd_58 wd_1067) rfl 3 (by decide +kernel) rfl ⟨Nat.le_of_ble_eq_true rfl, Nat.le_of_ble_eq_true rfl⟩ rfl hl.1 (Nat.le_of_ble_eq_true rfl) ⟨Nat.zero_le _, Nat.zero_le _⟩ dX8_missing_86) h (fun H locs h => ?_)
        refine lv_if_ne (tgt := 96) hx hb dX8_missing_89 (by decide) (fun b_89 => ?_) (fun b_89 => ?_)
        · skip
          refine lv_iconst (v := 0) hx hb dX8_missing_96 (by decide) ?_
          refine lv_istore (lv' := [(4, .int 0), (3, .int 0), (0, .ref (gz g + b)), (1, .int (nI s1)), (2, .int (nI q))]) hx hb dX8_missing_97 hl (by decide) rfl (fun ls hl => ?_)
          refine lv_iload_n hx hb dX8_missing_99 rfl (lv_at hl 1 rfl) ?_
          refine lv_if_ne (tgt := 108) hx hb dX8_missing_100 (by decide) (fun b_100 => by first | exact absurd b_100 (by decide) | exact absurd (by decide) b_100) (fun b_100 => ?_)
          refine lv_iload hx hb dX8_missing_103 (lv_at hl 0 rfl) ?_
          refine lv_if_eq (tgt := 112) hx hb dX8_missing_105 (by decide) (fun b_105 => ?_) (fun b_105 => by first | exact absurd (by decide) b_105 | exact absurd b_105 (by decide))
          refine lv_iconst (v := 0) hx hb dX8_missing_112 (by decide) ?_
          exact ret_i F h (Nat.zero_le _) (Nat.zero_le _) dX8_missing_113 (⟨((show sp_X8_missing r s1 q = 0 by rw [sp_X8_missing, if_neg (c := (sp_X8_hasPair r q) = 0) b_5, if_neg (c := (r (84 + 6 * (4 * s1 + 2 * q) + 0)) = 0) b_24, if_neg (c := (r (84 + 6 * (4 * s1 + (2 * q + 1)) + 0)) = 0) b_43, if_neg (c := (sp_X8_acrossTop r q 0) = 0) b_54, if_pos (c := (sp_X8_acrossAt r s1 q 0) = 0) b_79, if_neg (c := (sp_X8_acrossAt r s1 q 1) = 0) b_89])).symm, rfl, rfl⟩)
        refine lv_iconst (v := 1) hx hb dX8_missing_92 (by decide) ?_
        refine lv_goto (tgt := 97) hx hb dX8_missing_93 (by decide) ?_
        refine lv_istore (lv' := [(4, .int 1), (3, .int 0), (0, .ref (gz g + b)), (1, .int (nI s1)), (2, .int (nI q))]) hx hb dX8_missing_97 hl (by decide) rfl (fun ls hl => ?_)
        refine lv_iload_n hx hb dX8_missing_99 rfl (lv_at hl 1 rfl) ?_
        refine lv_if_ne (tgt := 108) hx hb dX8_missing_100 (by decide) (fun b_100 => by first | exact absurd b_100 (by decide) | exact absurd (by decide) b_100) (fun b_100 => ?_)
        refine lv_iload hx hb dX8_missing_103 (lv_at hl 0 rfl) ?_
        refine lv_if_eq (tgt := 112) hx hb dX8_missing_105 (by decide) (fun b_105 => by first | exact absurd b_105 (by decide) | exact absurd (by decide) b_105) (fun b_105 => ?_)
        refine lv_iconst (v := 4) hx hb dX8_missing_108 (by decide) ?_
        refine lv_goto (tgt := 113) hx hb dX8_missing_109 (by decide) ?_
        exact ret_i F h (Nat.zero_le _) (Nat.zero_le _) dX8_missing_113 (⟨((show sp_X8_missing r s1 q = 4 by rw [sp_X8_missing, if_neg (c := (sp_X8_hasPair r q) = 0) b_5, if_neg (c := (r (84 + 6 * (4 * s1 + 2 * q) + 0)) = 0) b_24, if_neg (c := (r (84 + 6 * (4 * s1 + (2 * q + 1)) + 0)) = 0) b_43, if_neg (c := (sp_X8_acrossTop r q 0) = 0) b_54, if_pos (c := (sp_X8_acrossAt r s1 q 0) = 0) b_79, if_pos (c := (sp_X8_acrossAt r s1 q 1) = 0) b_89])).symm, rfl, rfl⟩)
      refine lv_aload_n hx hb dX8_missing_57 rfl (lv_at hl 0 rfl) ?_
      refine lv_iload_n hx hb dX8_missing_58 rfl (lv_at hl 2 rfl) ?_
      refine lv_iconst (v := 1) hx hb dX8_missing_59 (by decide) ?_
      refine u_iE (v := (sp_X8_acrossTop r q 1)) (ru_V (As := [.int (nI q), .int 1]) (rest := []) F h hm rfl (k_X8_acrossTop l g n c b kp rs ty pl fa od hm r hr q 1 (by omega) (by decide)) (gV hjl wd_1052 wd_1054 wd_36 wd_58 wd_1055) rfl 2 (by decide +kernel) rfl ⟨Nat.le_of_ble_eq_true rfl, Nat.le_of_ble_eq_true rfl⟩ rfl hl.1 (Nat.le_of_ble_eq_true rfl) ⟨Nat.zero_le _, Nat.zero_le _⟩ dX8_missing_60) h (fun H locs h => ?_)
      refine lv_if_ne (tgt := 70) hx hb dX8_missing_63 (by decide) (fun b_63 => ?_) (fun b_63 => ?_)
      · skip
        refine lv_iconst (v := 0) hx hb dX8_missing_70 (by decide) ?_
        refine lv_istore_n (lv' := [(3, .int 0), (0, .ref (gz g + b)), (1, .int (nI s1)), (2, .int (nI q))]) hx hb dX8_missing_71 rfl hl (by decide) rfl (fun ls hl => ?_)
        refine lv_aload_n hx hb dX8_missing_72 rfl (lv_at hl 1 rfl) ?_
        refine lv_iload_n hx hb dX8_missing_73 rfl (lv_at hl 2 rfl) ?_
        refine lv_iload_n hx hb dX8_missing_74 rfl (lv_at hl 3 rfl) ?_
        refine lv_iconst (v := 0) hx hb dX8_missing_75 (by decide) ?_
        refine u_iE (v := (sp_X8_acrossAt r s1 q 0)) (ru_V (As := [.int (nI s1), .int (nI q), .int 0]) (rest := []) F h hm rfl (k_X8_acrossAt l g n c b kp rs ty pl fa od hm r hr s1 q 0 (by omega) (by omega) (by decide)) (gV hjl wd_1064 wd_1066 wd_38 wd_58 wd_1067) rfl 3 (by decide +kernel) rfl ⟨Nat.le_of_ble_eq_true rfl, Nat.le_of_ble_eq_true rfl⟩ rfl hl.1 (Nat.le_of_ble_eq_true rfl) ⟨Nat.zero_le _, Nat.zero_le _⟩ dX8_missing_76) h (fun H locs h => ?_)
        refine lv_if_ne (tgt := 96) hx hb dX8_missing_79 (by decide) (fun b_79 => ?_) (fun b_79 => ?_)
        · skip
          refine lv_iconst (v := 0) hx hb dX8_missing_96 (by decide) ?_
          refine lv_istore (lv' := [(4, .int 0), (3, .int 0), (0, .ref (gz g + b)), (1, .int (nI s1)), (2, .int (nI q))]) hx hb dX8_missing_97 hl (by decide) rfl (fun ls hl => ?_)
          refine lv_iload_n hx hb dX8_missing_99 rfl (lv_at hl 1 rfl) ?_
          refine lv_if_ne (tgt := 108) hx hb dX8_missing_100 (by decide) (fun b_100 => by first | exact absurd b_100 (by decide) | exact absurd (by decide) b_100) (fun b_100 => ?_)
          refine lv_iload hx hb dX8_missing_103 (lv_at hl 0 rfl) ?_
          refine lv_if_eq (tgt := 112) hx hb dX8_missing_105 (by decide) (fun b_105 => ?_) (fun b_105 => by first | exact absurd (by decide) b_105 | exact absurd b_105 (by decide))
          refine lv_iconst (v := 0) hx hb dX8_missing_112 (by decide) ?_
          exact ret_i F h (Nat.zero_le _) (Nat.zero_le _) dX8_missing_113 (⟨((show sp_X8_missing r s1 q = 0 by rw [sp_X8_missing, if_neg (c := (sp_X8_hasPair r q) = 0) b_5, if_neg (c := (r (84 + 6 * (4 * s1 + 2 * q) + 0)) = 0) b_24, if_neg (c := (r (84 + 6 * (4 * s1 + (2 * q + 1)) + 0)) = 0) b_43, if_pos (c := (sp_X8_acrossTop r q 0) = 0) b_54, if_neg (c := (sp_X8_acrossTop r q 1) = 0) b_63, if_neg (c := (sp_X8_acrossAt r s1 q 0) = 0) b_79])).symm, rfl, rfl⟩)
        refine lv_aload_n hx hb dX8_missing_82 rfl (lv_at hl 1 rfl) ?_
        refine lv_iload_n hx hb dX8_missing_83 rfl (lv_at hl 2 rfl) ?_
        refine lv_iload_n hx hb dX8_missing_84 rfl (lv_at hl 3 rfl) ?_
        refine lv_iconst (v := 1) hx hb dX8_missing_85 (by decide) ?_
        refine u_iE (v := (sp_X8_acrossAt r s1 q 1)) (ru_V (As := [.int (nI s1), .int (nI q), .int 1]) (rest := []) F h hm rfl (k_X8_acrossAt l g n c b kp rs ty pl fa od hm r hr s1 q 1 (by omega) (by omega) (by decide)) (gV hjl wd_1064 wd_1066 wd_38 wd_58 wd_1067) rfl 3 (by decide +kernel) rfl ⟨Nat.le_of_ble_eq_true rfl, Nat.le_of_ble_eq_true rfl⟩ rfl hl.1 (Nat.le_of_ble_eq_true rfl) ⟨Nat.zero_le _, Nat.zero_le _⟩ dX8_missing_86) h (fun H locs h => ?_)
        refine lv_if_ne (tgt := 96) hx hb dX8_missing_89 (by decide) (fun b_89 => ?_) (fun b_89 => ?_)
        · skip
          refine lv_iconst (v := 0) hx hb dX8_missing_96 (by decide) ?_
          refine lv_istore (lv' := [(4, .int 0), (3, .int 0), (0, .ref (gz g + b)), (1, .int (nI s1)), (2, .int (nI q))]) hx hb dX8_missing_97 hl (by decide) rfl (fun ls hl => ?_)
          refine lv_iload_n hx hb dX8_missing_99 rfl (lv_at hl 1 rfl) ?_
          refine lv_if_ne (tgt := 108) hx hb dX8_missing_100 (by decide) (fun b_100 => by first | exact absurd b_100 (by decide) | exact absurd (by decide) b_100) (fun b_100 => ?_)
          refine lv_iload hx hb dX8_missing_103 (lv_at hl 0 rfl) ?_
          refine lv_if_eq (tgt := 112) hx hb dX8_missing_105 (by decide) (fun b_105 => ?_) (fun b_105 => by first | exact absurd (by decide) b_105 | exact absurd b_105 (by decide))
          refine lv_iconst (v := 0) hx hb dX8_missing_112 (by decide) ?_
          exact ret_i F h (Nat.zero_le _) (Nat.zero_le _) dX8_missing_113 (⟨((show sp_X8_missing r s1 q = 0 by rw [sp_X8_missing, if_neg (c := (sp_X8_hasPair r q) = 0) b_5, if_neg (c := (r (84 + 6 * (4 * s1 + 2 * q) + 0)) = 0) b_24, if_neg (c := (r (84 + 6 * (4 * s1 + (2 * q + 1)) + 0)) = 0) b_43, if_pos (c := (sp_X8_acrossTop r q 0) = 0) b_54, if_neg (c := (sp_X8_acrossTop r q 1) = 0) b_63, if_pos (c := (sp_X8_acrossAt r s1 q 0) = 0) b_79, if_neg (c := (sp_X8_acrossAt r s1 q 1) = 0) b_89])).symm, rfl, rfl⟩)
        refine lv_iconst (v := 1) hx hb dX8_missing_92 (by decide) ?_
        refine lv_goto (tgt := 97) hx hb dX8_missing_93 (by decide) ?_
        refine lv_istore (lv' := [(4, .int 1), (3, .int 0), (0, .ref (gz g + b)), (1, .int (nI s1)), (2, .int (nI q))]) hx hb dX8_missing_97 hl (by decide) rfl (fun ls hl => ?_)
        refine lv_iload_n hx hb dX8_missing_99 rfl (lv_at hl 1 rfl) ?_
        refine lv_if_ne (tgt := 108) hx hb dX8_missing_100 (by decide) (fun b_100 => by first | exact absurd b_100 (by decide) | exact absurd (by decide) b_100) (fun b_100 => ?_)
        refine lv_iload hx hb dX8_missing_103 (lv_at hl 0 rfl) ?_
        refine lv_if_eq (tgt := 112) hx hb dX8_missing_105 (by decide) (fun b_105 => by first | exact absurd b_105 (by decide) | exact absurd (by decide) b_105) (fun b_105 => ?_)
        refine lv_iconst (v := 4) hx hb dX8_missing_108 (by decide) ?_
        refine lv_goto (tgt := 113) hx hb dX8_missing_109 (by decide) ?_
        exact ret_i F h (Nat.zero_le _) (Nat.zero_le _) dX8_missing_113 (⟨((show sp_X8_missing r s1 q = 4 by rw [sp_X8_missing, if_neg (c := (sp_X8_hasPair r q) = 0) b_5, if_neg (c := (r (84 + 6 * (4 * s1 + 2 * q) + 0)) = 0) b_24, if_neg (c := (r (84 + 6 * (4 * s1 + (2 * q + 1)) + 0)) = 0) b_43, if_pos (c := (sp_X8_acrossTop r q 0) = 0) b_54, if_neg (c := (sp_X8_acrossTop r q 1) = 0) b_63, if_pos (c := (sp_X8_acrossAt r s1 q 0) = 0) b_79, if_pos (c := (sp_X8_acrossAt r s1 q 1) = 0) b_89])).symm, rfl, rfl⟩)
      refine lv_iconst (v := 1) hx hb dX8_missing_66 (by decide) ?_
      refine lv_goto (tgt := 71) hx hb dX8_missing_67 (by decide) ?_
      refine lv_istore_n (lv' := [(3, .int 1), (0, .ref (gz g + b)), (1, .int (nI s1)), (2, .int (nI q))]) hx hb dX8_missing_71 rfl hl (by decide) rfl (fun ls hl => ?_)
      refine lv_aload_n hx hb dX8_missing_72 rfl (lv_at hl 1 rfl) ?_
      refine lv_iload_n hx hb dX8_missing_73 rfl (lv_at hl 2 rfl) ?_
      refine lv_iload_n hx hb dX8_missing_74 rfl (lv_at hl 3 rfl) ?_
      refine lv_iconst (v := 0) hx hb dX8_missing_75 (by decide) ?_
      refine u_iE (v := (sp_X8_acrossAt r s1 q 0)) (ru_V (As := [.int (nI s1), .int (nI q), .int 0]) (rest := []) F h hm rfl (k_X8_acrossAt l g n c b kp rs ty pl fa od hm r hr s1 q 0 (by omega) (by omega) (by decide)) (gV hjl wd_1064 wd_1066 wd_38 wd_58 wd_1067) rfl 3 (by decide +kernel) rfl ⟨Nat.le_of_ble_eq_true rfl, Nat.le_of_ble_eq_true rfl⟩ rfl hl.1 (Nat.le_of_ble_eq_true rfl) ⟨Nat.zero_le _, Nat.zero_le _⟩ dX8_missing_76) h (fun H locs h => ?_)
      refine lv_if_ne (tgt := 96) hx hb dX8_missing_79 (by decide) (fun b_79 => ?_) (fun b_79 => ?_)
      · skip
        refine lv_iconst (v := 0) hx hb dX8_missing_96 (by decide) ?_
        refine lv_istore (lv' := [(4, .int 0), (3, .int 1), (0, .ref (gz g + b)), (1, .int (nI s1)), (2, .int (nI q))]) hx hb dX8_missing_97 hl (by decide) rfl (fun ls hl => ?_)
        refine lv_iload_n hx hb dX8_missing_99 rfl (lv_at hl 1 rfl) ?_
        refine lv_if_ne (tgt := 108) hx hb dX8_missing_100 (by decide) (fun b_100 => ?_) (fun b_100 => by first | exact absurd (by decide) b_100 | exact absurd b_100 (by decide))
        refine lv_iconst (v := 4) hx hb dX8_missing_108 (by decide) ?_
        refine lv_goto (tgt := 113) hx hb dX8_missing_109 (by decide) ?_
        exact ret_i F h (Nat.zero_le _) (Nat.zero_le _) dX8_missing_113 (⟨((show sp_X8_missing r s1 q = 4 by rw [sp_X8_missing, if_neg (c := (sp_X8_hasPair r q) = 0) b_5, if_neg (c := (r (84 + 6 * (4 * s1 + 2 * q) + 0)) = 0) b_24, if_neg (c := (r (84 + 6 * (4 * s1 + (2 * q + 1)) + 0)) = 0) b_43, if_pos (c := (sp_X8_acrossTop r q 0) = 0) b_54, if_pos (c := (sp_X8_acrossTop r q 1) = 0) b_63, if_neg (c := (sp_X8_acrossAt r s1 q 0) = 0) b_79])).symm, rfl, rfl⟩)
      refine lv_aload_n hx hb dX8_missing_82 rfl (lv_at hl 1 rfl) ?_
      refine lv_iload_n hx hb dX8_missing_83 rfl (lv_at hl 2 rfl) ?_
      refine lv_iload_n hx hb dX8_missing_84 rfl (lv_at hl 3 rfl) ?_
      refine lv_iconst (v := 1) hx hb dX8_missing_85 (by decide) ?_
      refine u_iE (v := (sp_X8_acrossAt r s1 q 1)) (ru_V (As := [.int (nI s1), .int (nI q), .int 1]) (rest := []) F h hm rfl (k_X8_acrossAt l g n c b kp rs ty pl fa od hm r hr s1 q 1 (by omega) (by omega) (by decide)) (gV hjl wd_1064 wd_1066 wd_38 wd_58 wd_1067) rfl 3 (by decide +kernel) rfl ⟨Nat.le_of_ble_eq_true rfl, Nat.le_of_ble_eq_true rfl⟩ rfl hl.1 (Nat.le_of_ble_eq_true rfl) ⟨Nat.zero_le _, Nat.zero_le _⟩ dX8_missing_86) h (fun H locs h => ?_)
      refine lv_if_ne (tgt := 96) hx hb dX8_missing_89 (by decide) (fun b_89 => ?_) (fun b_89 => ?_)
      · skip
        refine lv_iconst (v := 0) hx hb dX8_missing_96 (by decide) ?_
        refine lv_istore (lv' := [(4, .int 0), (3, .int 1), (0, .ref (gz g + b)), (1, .int (nI s1)), (2, .int (nI q))]) hx hb dX8_missing_97 hl (by decide) rfl (fun ls hl => ?_)
        refine lv_iload_n hx hb dX8_missing_99 rfl (lv_at hl 1 rfl) ?_
        refine lv_if_ne (tgt := 108) hx hb dX8_missing_100 (by decide) (fun b_100 => ?_) (fun b_100 => by first | exact absurd (by decide) b_100 | exact absurd b_100 (by decide))
        refine lv_iconst (v := 4) hx hb dX8_missing_108 (by decide) ?_
        refine lv_goto (tgt := 113) hx hb dX8_missing_109 (by decide) ?_
        exact ret_i F h (Nat.zero_le _) (Nat.zero_le _) dX8_missing_113 (⟨((show sp_X8_missing r s1 q = 4 by rw [sp_X8_missing, if_neg (c := (sp_X8_hasPair r q) = 0) b_5, if_neg (c := (r (84 + 6 * (4 * s1 + 2 * q) + 0)) = 0) b_24, if_neg (c := (r (84 + 6 * (4 * s1 + (2 * q + 1)) + 0)) = 0) b_43, if_pos (c := (sp_X8_acrossTop r q 0) = 0) b_54, if_pos (c := (sp_X8_acrossTop r q 1) = 0) b_63, if_pos (c := (sp_X8_acrossAt r s1 q 0) = 0) b_79, if_neg (c := (sp_X8_acrossAt r s1 q 1) = 0) b_89])).symm, rfl, rfl⟩)
      refine lv_iconst (v := 1) hx hb dX8_missing_92 (by decide) ?_
      refine lv_goto (tgt := 97) hx hb dX8_missing_93 (by decide) ?_
      refine lv_istore (lv' := [(4, .int 1), (3, .int 1), (0, .ref (gz g + b)), (1, .int (nI s1)), (2, .int (nI q))]) hx hb dX8_missing_97 hl (by decide) rfl (fun ls hl => ?_)
      refine lv_iload_n hx hb dX8_missing_99 rfl (lv_at hl 1 rfl) ?_
      refine lv_if_ne (tgt := 108) hx hb dX8_missing_100 (by decide) (fun b_100 => ?_) (fun b_100 => by first | exact absurd (by decide) b_100 | exact absurd b_100 (by decide))
      refine lv_iconst (v := 4) hx hb dX8_missing_108 (by decide) ?_
      refine lv_goto (tgt := 113) hx hb dX8_missing_109 (by decide) ?_
      exact ret_i F h (Nat.zero_le _) (Nat.zero_le _) dX8_missing_113 (⟨((show sp_X8_missing r s1 q = 4 by rw [sp_X8_missing, if_neg (c := (sp_X8_hasPair r q) = 0) b_5, if_neg (c := (r (84 + 6 * (4 * s1 + 2 * q) + 0)) = 0) b_24, if_neg (c := (r (84 + 6 * (4 * s1 + (2 * q + 1)) + 0)) = 0) b_43, if_pos (c := (sp_X8_acrossTop r q 0) = 0) b_54, if_pos (c := (sp_X8_acrossTop r q 1) = 0) b_63, if_pos (c := (sp_X8_acrossAt r s1 q 0) = 0) b_79, if_pos (c := (sp_X8_acrossAt r s1 q 1) = 0) b_89])).symm, rfl, rfl⟩)
    refine lv_iconst (v := 3) hx hb dX8_missing_46 (by decide) ?_
    exact ret_i F h (Nat.zero_le _) (Nat.zero_le _) dX8_missing_47 (⟨((show sp_X8_missing r s1 q = 3 by rw [sp_X8_missing, if_neg (c := (sp_X8_hasPair r q) = 0) b_5, if_neg (c := (r (84 + 6 * (4 * s1 + 2 * q) + 0)) = 0) b_24, if_pos (c := (r (84 + 6 * (4 * s1 + (2 * q + 1)) + 0)) = 0) b_43])).symm, rfl, rfl⟩)
  refine lv_iconst (v := 1) hx hb dX8_missing_8 (by decide) ?_
  exact ret_i F h (Nat.zero_le _) (Nat.zero_le _) dX8_missing_9 (⟨((show sp_X8_missing r s1 q = 1 by rw [sp_X8_missing, if_pos (c := (sp_X8_hasPair r q) = 0) b_5])).symm, rfl, rfl⟩)
theorem szI_0 {x : Int32} : szI x = 0 ↔ x = 0 := by
  unfold szI
  by_cases h : (0 : Int32) ≤ x
  · rw [if_pos h]
  · rw [if_neg h]
    constructor
    · intro z
      have e : -(-x) = -(0 : Int32) := by rw [z]
      rw [Int32.neg_neg] at e
      exact e.trans (by decide)
    · intro z; rw [z]; decide
theorem szI_b (x : Int32) : (-2147483648 ≤ (szI x).toInt) ∧ ((szI x).toInt < 2147483648) := by have := fb_rng (szI x); omega
def sp_X8_givenBy (r : Nat → Int32) (s1 q : Nat) : Int32 := (ciI (((sp_X8_bearingOf (sp_X8_acrossTop r q 0) (sp_X8_acrossTop r q 1)) - (ciI ((sp_X8_bearingOf (sp_X8_acrossAt r s1 q 0) (sp_X8_acrossAt r s1 q 1)).toInt64 + (r (69 + 3 * s1 + 1)).toInt64))).toInt64))
set_option maxHeartbeats 4000000 in
set_option maxRecDepth 100000 in
theorem k_X8_givenBy (l : Launch) (g : Gf) (n : Nat) (c : Mp) (b : Nat) (kp rs ty pl fa od : Int32) (hm : c b = moC g b kp rs ty pl fa od) (r : Nat → Int32) (hr : c (b + 1) = iaA (g.2.1 0) 204 r) (s1 q : Nat) (hs5 : s1 < 5) (hq2 : q < 2) (hm0 : ¬ (szI (sp_X8_acrossTop r q 0)).toInt64 + (szI (sp_X8_acrossTop r q 1)).toInt64 = 0) (hm1 : ¬ (szI (sp_X8_acrossAt r s1 q 0)).toInt64 + (szI (sp_X8_acrossAt r s1 q 1)).toInt64 = 0) : Ct l g yX8_givenBy wsX8_givenBy 2 44 0 0 [.ref (gz g + b), .int (nI s1), .int (nI q)] n c (Qi g (fun xr n' c' => xr = sp_X8_givenBy r s1 q ∧ n' = n ∧ c' = c)) := by
  refine ent (by decide) rfl (Nat.le_of_ble_eq_true rfl) ?_
  intro p e s m args below meth c0 F h ls hl
  have hx := F.1
  have hb := F.2.1
  have hl : lv_has ls 5 [(0, .ref (gz g + b)), (1, .int (nI s1)), (2, .int (nI q))] := hl
  refine lv_aload_n hx hb dX8_givenBy_0 rfl (lv_at hl 0 rfl) ?_
  refine lv_iload_n hx hb dX8_givenBy_1 rfl (lv_at hl 2 rfl) ?_
  refine lv_iconst (v := 0) hx hb dX8_givenBy_2 (by decide) ?_
  refine u_iE (v := (sp_X8_acrossTop r q 0)) (ru_V (As := [.int (nI q), .int 0]) (rest := []) F h hm rfl (k_X8_acrossTop l g n c b kp rs ty pl fa od hm r hr q 0 (by omega) (by decide)) (gV hjl wd_1052 wd_1054 wd_36 wd_58 wd_1055) rfl 2 (by decide +kernel) rfl ⟨Nat.le_of_ble_eq_true rfl, Nat.le_of_ble_eq_true rfl⟩ rfl hl.1 (Nat.le_of_ble_eq_true rfl) ⟨Nat.zero_le _, Nat.zero_le _⟩ dX8_givenBy_3) h (fun H locs h => ?_)
  refine lv_aload_n hx hb dX8_givenBy_6 rfl (lv_at hl 0 rfl) ?_
  refine lv_iload_n hx hb dX8_givenBy_7 rfl (lv_at hl 2 rfl) ?_
  refine lv_iconst (v := 1) hx hb dX8_givenBy_8 (by decide) ?_
  refine u_iE (v := (sp_X8_acrossTop r q 1)) (ru_V (As := [.int (nI q), .int 1]) (rest := [.int (sp_X8_acrossTop r q 0)]) F h hm rfl (k_X8_acrossTop l g n c b kp rs ty pl fa od hm r hr q 1 (by omega) (by decide)) (gV hjl wd_1052 wd_1054 wd_36 wd_58 wd_1055) rfl 2 (by decide +kernel) rfl ⟨Nat.le_of_ble_eq_true rfl, Nat.le_of_ble_eq_true rfl⟩ rfl hl.1 (Nat.le_of_ble_eq_true rfl) ⟨Nat.zero_le _, Nat.zero_le _⟩ dX8_givenBy_9) h (fun H locs h => ?_)
  refine u_iE (v := (sp_X8_bearingOf (sp_X8_acrossTop r q 0) (sp_X8_acrossTop r q 1))) (ru_S (As := [.int (sp_X8_acrossTop r q 0), .int (sp_X8_acrossTop r q 1)]) (rest := []) F h (k_X8_bearingOf l g n c (sp_X8_acrossTop r q 0) (sp_X8_acrossTop r q 1) hm0) (gS hjl wd_1038 wd_1039 wd_58 wd_1040) rfl 2 (by decide +kernel) rfl ⟨Nat.le_of_ble_eq_true rfl, Nat.le_of_ble_eq_true rfl⟩ rfl hl.1 (Nat.le_of_ble_eq_true rfl) ⟨Nat.zero_le _, Nat.zero_le _⟩ dX8_givenBy_12) h (fun H locs h => ?_)
  refine lv_istore_n (lv' := [(3, .int (sp_X8_bearingOf (sp_X8_acrossTop r q 0) (sp_X8_acrossTop r q 1))), (0, .ref (gz g + b)), (1, .int (nI s1)), (2, .int (nI q))]) hx hb dX8_givenBy_15 rfl hl (by decide) rfl (fun ls hl => ?_)
  refine lv_aload_n hx hb dX8_givenBy_16 rfl (lv_at hl 1 rfl) ?_
  refine lv_iload_n hx hb dX8_givenBy_17 rfl (lv_at hl 2 rfl) ?_
  refine lv_iload_n hx hb dX8_givenBy_18 rfl (lv_at hl 3 rfl) ?_
  refine lv_iconst (v := 0) hx hb dX8_givenBy_19 (by decide) ?_
  refine u_iE (v := (sp_X8_acrossAt r s1 q 0)) (ru_V (As := [.int (nI s1), .int (nI q), .int 0]) (rest := []) F h hm rfl (k_X8_acrossAt l g n c b kp rs ty pl fa od hm r hr s1 q 0 (by omega) (by omega) (by decide)) (gV hjl wd_1064 wd_1066 wd_38 wd_58 wd_1067) rfl 3 (by decide +kernel) rfl ⟨Nat.le_of_ble_eq_true rfl, Nat.le_of_ble_eq_true rfl⟩ rfl hl.1 (Nat.le_of_ble_eq_true rfl) ⟨Nat.zero_le _, Nat.zero_le _⟩ dX8_givenBy_20) h (fun H locs h => ?_)
  refine lv_aload_n hx hb dX8_givenBy_23 rfl (lv_at hl 1 rfl) ?_
  refine lv_iload_n hx hb dX8_givenBy_24 rfl (lv_at hl 2 rfl) ?_
  refine lv_iload_n hx hb dX8_givenBy_25 rfl (lv_at hl 3 rfl) ?_
  refine lv_iconst (v := 1) hx hb dX8_givenBy_26 (by decide) ?_
  refine u_iE (v := (sp_X8_acrossAt r s1 q 1)) (ru_V (As := [.int (nI s1), .int (nI q), .int 1]) (rest := [.int (sp_X8_acrossAt r s1 q 0)]) F h hm rfl (k_X8_acrossAt l g n c b kp rs ty pl fa od hm r hr s1 q 1 (by omega) (by omega) (by decide)) (gV hjl wd_1064 wd_1066 wd_38 wd_58 wd_1067) rfl 3 (by decide +kernel) rfl ⟨Nat.le_of_ble_eq_true rfl, Nat.le_of_ble_eq_true rfl⟩ rfl hl.1 (Nat.le_of_ble_eq_true rfl) ⟨Nat.zero_le _, Nat.zero_le _⟩ dX8_givenBy_27) h (fun H locs h => ?_)
  refine u_iE (v := (sp_X8_bearingOf (sp_X8_acrossAt r s1 q 0) (sp_X8_acrossAt r s1 q 1))) (ru_S (As := [.int (sp_X8_acrossAt r s1 q 0), .int (sp_X8_acrossAt r s1 q 1)]) (rest := []) F h (k_X8_bearingOf l g n c (sp_X8_acrossAt r s1 q 0) (sp_X8_acrossAt r s1 q 1) hm1) (gS hjl wd_1038 wd_1039 wd_58 wd_1040) rfl 2 (by decide +kernel) rfl ⟨Nat.le_of_ble_eq_true rfl, Nat.le_of_ble_eq_true rfl⟩ rfl hl.1 (Nat.le_of_ble_eq_true rfl) ⟨Nat.zero_le _, Nat.zero_le _⟩ dX8_givenBy_30) h (fun H locs h => ?_)
  refine lv_i2l hx hb dX8_givenBy_33 rfl ?_
  refine lv_aload_n hx hb dX8_givenBy_34 rfl (lv_at hl 1 rfl) ?_
  refine r_get F h (C := RX8) (T := TX8) (N := 13) (hjc hi_X8) rfl hm 0 (by decide) (List.mem_cons_of_mem _ wd_828) rfl dX8_givenBy_35 ?_
  refine lv_bipush (v := 69) hx hb dX8_givenBy_38 (by decide) ?_
  refine lv_iconst (v := 3) hx hb dX8_givenBy_40 (by decide) ?_
  refine lv_iload_n hx hb dX8_givenBy_41 rfl (lv_at hl 2 rfl) ?_
  refine lv_imul hx hb dX8_givenBy_42 ?_
  refine lv_iadd hx hb dX8_givenBy_43 ?_
  refine lv_iconst (v := 1) hx hb dX8_givenBy_44 (by decide) ?_
  refine lv_iadd hx hb dX8_givenBy_45 ?_
  refine r_ialdN F h (k := 69 + 3 * s1 + 1) hr (by simp only [fa_lit, pk_mul, nI_add]; first | done | (refine congrArg nI ?_; omega)) (by omega) (by decide) dX8_givenBy_46 ?_
  refine lv_i2l hx hb dX8_givenBy_47 rfl ?_
  refine lv_ladd hx hb dX8_givenBy_48 ?_
  refine u_iE (v := (ciI ((sp_X8_bearingOf (sp_X8_acrossAt r s1 q 0) (sp_X8_acrossAt r s1 q 1)).toInt64 + (r (69 + 3 * s1 + 1)).toInt64))) (ru_S (As := [.long ((sp_X8_bearingOf (sp_X8_acrossAt r s1 q 0) (sp_X8_acrossAt r s1 q 1)).toInt64 + (r (69 + 3 * s1 + 1)).toInt64)]) (rest := []) F h (k_X8_round l g n c ((sp_X8_bearingOf (sp_X8_acrossAt r s1 q 0) (sp_X8_acrossAt r s1 q 1)).toInt64 + (r (69 + 3 * s1 + 1)).toInt64)) (gS hjl wd_1072 wd_1073 wd_58 wd_1074) rfl 1 (by decide +kernel) rfl ⟨Nat.le_of_ble_eq_true rfl, Nat.le_of_ble_eq_true rfl⟩ rfl hl.1 (Nat.le_of_ble_eq_true rfl) ⟨Nat.zero_le _, Nat.zero_le _⟩ dX8_givenBy_49) h (fun H locs h => ?_)
  refine lv_istore (lv' := [(4, .int (ciI ((sp_X8_bearingOf (sp_X8_acrossAt r s1 q 0) (sp_X8_acrossAt r s1 q 1)).toInt64 + (r (69 + 3 * s1 + 1)).toInt64))), (3, .int (sp_X8_bearingOf (sp_X8_acrossTop r q 0) (sp_X8_acrossTop r q 1))), (0, .ref (gz g + b)), (1, .int (nI s1)), (2, .int (nI q))]) hx hb dX8_givenBy_52 hl (by decide) rfl (fun ls hl => ?_)
  refine lv_iload_n hx hb dX8_givenBy_54 rfl (lv_at hl 1 rfl) ?_
  refine lv_iload hx hb dX8_givenBy_55 (lv_at hl 0 rfl) ?_
  refine lv_isub hx hb dX8_givenBy_57 ?_
  refine lv_i2l hx hb dX8_givenBy_58 rfl ?_
  refine u_iE (v := (ciI (((sp_X8_bearingOf (sp_X8_acrossTop r q 0) (sp_X8_acrossTop r q 1)) - (ciI ((sp_X8_bearingOf (sp_X8_acrossAt r s1 q 0) (sp_X8_acrossAt r s1 q 1)).toInt64 + (r (69 + 3 * s1 + 1)).toInt64))).toInt64))) (ru_S (As := [.long (((sp_X8_bearingOf (sp_X8_acrossTop r q 0) (sp_X8_acrossTop r q 1)) - (ciI ((sp_X8_bearingOf (sp_X8_acrossAt r s1 q 0) (sp_X8_acrossAt r s1 q 1)).toInt64 + (r (69 + 3 * s1 + 1)).toInt64))).toInt64)]) (rest := []) F h (k_X8_round l g n c (((sp_X8_bearingOf (sp_X8_acrossTop r q 0) (sp_X8_acrossTop r q 1)) - (ciI ((sp_X8_bearingOf (sp_X8_acrossAt r s1 q 0) (sp_X8_acrossAt r s1 q 1)).toInt64 + (r (69 + 3 * s1 + 1)).toInt64))).toInt64)) (gS hjl wd_1072 wd_1073 wd_58 wd_1074) rfl 1 (by decide +kernel) rfl ⟨Nat.le_of_ble_eq_true rfl, Nat.le_of_ble_eq_true rfl⟩ rfl hl.1 (Nat.le_of_ble_eq_true rfl) ⟨Nat.zero_le _, Nat.zero_le _⟩ dX8_givenBy_59) h (fun H locs h => ?_)
  exact ret_i F h (Nat.zero_le _) (Nat.zero_le _) dX8_givenBy_62 (⟨((show sp_X8_givenBy r s1 q = (ciI (((sp_X8_bearingOf (sp_X8_acrossTop r q 0) (sp_X8_acrossTop r q 1)) - (ciI ((sp_X8_bearingOf (sp_X8_acrossAt r s1 q 0) (sp_X8_acrossAt r s1 q 1)).toInt64 + (r (69 + 3 * s1 + 1)).toInt64))).toInt64)) by rw [sp_X8_givenBy])).symm, rfl, rfl⟩)
