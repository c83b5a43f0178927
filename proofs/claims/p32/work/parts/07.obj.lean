/-! The objects of a state, one by one. -/
/-- the ticks of a quarter, as the wire keeps them: none before it is hung for the first time -/
def qdI (d : Int32) : Int32 := if d = 0 then 0 else 1 + d / 100
theorem qd_ne {d : Int32} (h : ¬ d = 0) : qdI d = 1 + d / 100 := if_neg h
theorem qd_0 : qdI 0 = 0 := if_pos rfl
theorem qd_in {d : Int32} (h : ¬ inI d 10 800 = 0) : ¬ d = 0 := fun z => h (by rw [z]; decide)
def l4 (a0 a1 a2 a3 : Int32) : Nat → Int32 := fun k => match k with
  | 0 => a0
  | 1 => a1
  | 2 => a2
  | _ => a3
def l6 (a0 a1 a2 a3 a4 a5 : Int32) : Nat → Int32 := fun k => match k with
  | 0 => a0
  | 1 => a1
  | 2 => a2
  | 3 => a3
  | 4 => a4
  | _ => a5
def l11 (a0 a1 a2 a3 a4 a5 a6 a7 a8 a9 a10 : Int32) : Nat → Int32 := fun k => match k with
  | 0 => a0
  | 1 => a1
  | 2 => a2
  | 3 => a3
  | 4 => a4
  | 5 => a5
  | 6 => a6
  | 7 => a7
  | 8 => a8
  | 9 => a9
  | _ => a10
abbrev wiC (f : Nat → Int32) : Option va_E := some (.inr (6, [.int (f 0), .int (f 1), .int (f 2), .int (f 3), .int (f 4), .int (qdI (f 4)), .int (f 5), .int (f 6), .int (f 7), .int (f 8), .int (f 9), .int (f 10)]))
abbrev cuC (f : Nat → Int32) : Option va_E := some (.inr (0, [.int (f 0), .int (f 1), .int (f 2), .int (f 3)]))
abbrev obC (f : Nat → Int32) : Option va_E := some (.inr (1, [.int (f 0), .int (f 1), .int (f 2), .int (f 3), .int (f 4), .int (f 5)]))
abbrev reC (f : Nat → Int32) : Option va_E := some (.inr (3, [.int (f 0), .int (f 1), .int (f 2), .int (f 3)]))
def B01 (x : Int32) : Prop := x = 0 ∨ x = 1
theorem b01n {x : Int32} (h : B01 x) : narrow .boolean (.int x) = .int x := by rcases h with h | h <;> rw [h] <;> decide
theorem b01f {x : Int32} (h : B01 x) : fits .boolean (.int x) = true := by rcases h with h | h <;> rw [h] <;> decide
set_option maxHeartbeats 4000000 in
set_option maxRecDepth 100000 in
theorem k_X6_startSway (l : Launch) (g : Gf) (n : Nat) (c : Mp) (i : Nat) (f : Nat → Int32) (hi : c i = wiC f) (a : Int32) : Ct l g yX6_startSway wsX6_startSway 0 0 0 0 [.ref (gz g + i), .int a] n c (Qv g (fun n' c' => n' = n ∧ c' = va_up c i (wiC (upd (upd f 9 a) 10 0)))) := by
  refine ent (by decide) rfl (Nat.le_of_ble_eq_true rfl) ?_
  intro p e s m args below meth c0 F h ls hl
  have hx := F.1
  have hb := F.2.1
  have hl : lv_has ls 2 [(0, .ref (gz g + i)), (1, .int a)] := hl
  refine lv_aload_n hx hb dX6_startSway_0 rfl (lv_at hl 0 rfl) ?_
  refine lv_iload_n hx hb dX6_startSway_1 rfl (lv_at hl 1 rfl) ?_
  refine r_put F h (C := RX6) (T := TX6) (N := 12) (fs' := [.int (f 0), .int (f 1), .int (f 2), .int (f 3), .int (f 4), .int (qdI (f 4)), .int (f 5), .int (f 6), .int (f 7), .int (f 8), .int a, .int (f 10)]) (hjc hi_X6) tyX6 tyX6_ok nmX6 rfl hi 10 (by decide) (List.mem_cons_of_mem _ wd_70) rfl (rfl) (rfl) (Nat.le_of_ble_eq_true rfl) rfl dX6_startSway_2 (fun H locs h => ?_)
  refine lv_aload_n hx hb dX6_startSway_5 rfl (lv_at hl 0 rfl) ?_
  refine lv_iconst (v := 0) hx hb dX6_startSway_6 (by decide) ?_
  refine r_put F h (C := RX6) (T := TX6) (N := 12) (fs' := [.int (f 0), .int (f 1), .int (f 2), .int (f 3), .int (f 4), .int (qdI (f 4)), .int (f 5), .int (f 6), .int (f 7), .int (f 8), .int a, .int 0]) (hjc hi_X6) tyX6 tyX6_ok nmX6 rfl (mu_eq _ _ _) 11 (by decide) (List.mem_cons_of_mem _ wd_71) rfl (rfl) (rfl) (Nat.le_of_ble_eq_true rfl) rfl dX6_startSway_7 (fun H locs h => ?_)
  refine r_mem (c1 := (va_up c i (some (.inr (6, [.int (f 0), .int (f 1), .int (f 2), .int (f 3), .int (f 4), .int (qdI (f 4)), .int (f 5), .int (f 6), .int (f 7), .int (f 8), .int a, .int 0]))))) h (mu_uu _ _ _ _) (fun h => ?_)
  exact ret_v F h (Nat.zero_le _) (Nat.zero_le _) dX6_startSway_10 (⟨rfl, rfl⟩)
set_option maxHeartbeats 4000000 in
set_option maxRecDepth 100000 in
theorem k_X6_periodTicks (l : Launch) (g : Gf) (n : Nat) (c : Mp) (i : Nat) (f : Nat → Int32) (hi : c i = wiC f) : Ct l g yX6_periodTicks wsX6_periodTicks 0 0 0 0 [.ref (gz g + i)] n c (Qi g (fun xr n' c' => xr = 4 * qdI (f 4) ∧ n' = n ∧ c' = c)) := by
  refine ent (by decide) rfl (Nat.le_of_ble_eq_true rfl) ?_
  intro p e s m args below meth c0 F h ls hl
  have hx := F.1
  have hb := F.2.1
  have hl : lv_has ls 1 [(0, .ref (gz g + i))] := hl
  refine lv_iconst (v := 4) hx hb dX6_periodTicks_0 (by decide) ?_
  refine lv_aload_n hx hb dX6_periodTicks_1 rfl (lv_at hl 0 rfl) ?_
  refine r_get F h (C := RX6) (T := TX6) (N := 12) (hjc hi_X6) rfl hi 5 (by decide) (List.mem_cons_of_mem _ wd_59) rfl dX6_periodTicks_2 ?_
  refine lv_imul hx hb dX6_periodTicks_5 ?_
  exact ret_i F h (Nat.zero_le _) (Nat.zero_le _) dX6_periodTicks_6 (⟨rfl, rfl, rfl⟩)
def caC (b a : Int32) : Int32 := if b = 1 then a * 70 / 100 else if b = 2 then a * 50 / 100 else a * 95 / 100
set_option maxHeartbeats 4000000 in
set_option maxRecDepth 100000 in
theorem k_X6_calmed (l : Launch) (g : Gf) (n : Nat) (c : Mp) (i : Nat) (f : Nat → Int32) (hi : c i = wiC f) (a : Int32) : Ct l g yX6_calmed wsX6_calmed 0 0 0 0 [.ref (gz g + i), .int a] n c (Qi g (fun xr n' c' => xr = caC (f 7) a ∧ n' = n ∧ c' = c)) := by
  refine ent (by decide) rfl (Nat.le_of_ble_eq_true rfl) ?_
  intro p e s m args below meth c0 F h ls hl
  have hx := F.1
  have hb := F.2.1
  have hl : lv_has ls 2 [(0, .ref (gz g + i)), (1, .int a)] := hl
  refine lv_aload_n hx hb dX6_calmed_0 rfl (lv_at hl 0 rfl) ?_
  refine r_get F h (C := RX6) (T := TX6) (N := 12) (hjc hi_X6) rfl hi 8 (by decide) (List.mem_cons_of_mem _ wd_66) rfl dX6_calmed_1 ?_
  by_cases q_4_1 : f 7 = 1
  · skip
    refine lv_lookup (off := 28) (tgt := 32) hx hb dX6_calmed_4 (by decide) (by rw [q_4_1]; rfl) (by decide) ?_
    refine lv_iload_n hx hb dX6_calmed_32 rfl (lv_at hl 1 rfl) ?_
    refine lv_bipush (v := 70) hx hb dX6_calmed_33 (by decide) ?_
    refine lv_imul hx hb dX6_calmed_35 ?_
    refine lv_bipush (v := 100) hx hb dX6_calmed_36 (by decide) ?_
    refine lv_idiv hx hb dX6_calmed_38 (by decide) ?_
    exact ret_i F h (Nat.zero_le _) (Nat.zero_le _) dX6_calmed_39 (⟨by simp [caC, *], rfl, rfl⟩)
  by_cases q_4_2 : f 7 = 2
  · skip
    refine lv_lookup (off := 36) (tgt := 40) hx hb dX6_calmed_4 (by decide) (by rw [q_4_2]; rfl) (by decide) ?_
    refine lv_iload_n hx hb dX6_calmed_40 rfl (lv_at hl 1 rfl) ?_
    refine lv_bipush (v := 50) hx hb dX6_calmed_41 (by decide) ?_
    refine lv_imul hx hb dX6_calmed_43 ?_
    refine lv_bipush (v := 100) hx hb dX6_calmed_44 (by decide) ?_
    refine lv_idiv hx hb dX6_calmed_46 (by decide) ?_
    exact ret_i F h (Nat.zero_le _) (Nat.zero_le _) dX6_calmed_47 (⟨by simp [caC, *], rfl, rfl⟩)
  refine lv_lookup (off := 44) (tgt := 48) hx hb dX6_calmed_4 (by decide) (by show Op.lookupswitch.offset [(1, 28), (2, 36)] 44 (f 7).toInt = 44; rw [Op.lookupswitch.offset_cons, if_neg (fun z => q_4_1 ((i_eq _ _).mpr z.symm)), Op.lookupswitch.offset_cons, if_neg (fun z => q_4_2 ((i_eq _ _).mpr z.symm)), Op.lookupswitch.offset_nil]) (by decide) ?_
  refine lv_iload_n hx hb dX6_calmed_48 rfl (lv_at hl 1 rfl) ?_
  refine lv_bipush (v := 95) hx hb dX6_calmed_49 (by decide) ?_
  refine lv_imul hx hb dX6_calmed_51 ?_
  refine lv_bipush (v := 100) hx hb dX6_calmed_52 (by decide) ?_
  refine lv_idiv hx hb dX6_calmed_54 (by decide) ?_
  exact ret_i F h (Nat.zero_le _) (Nat.zero_le _) dX6_calmed_55 (⟨by simp [caC, *], rfl, rfl⟩)
set_option maxHeartbeats 4000000 in
set_option maxRecDepth 100000 in
theorem k_X6_copyFrom (l : Launch) (g : Gf) (n : Nat) (c : Mp) (i : Nat) (f : Nat → Int32) (hi : c i = wiC f) (j : Nat) (f2 : Nat → Int32) (hj : c j = wiC f2) (hij : i ≠ j) (hb2 : B01 (f2 0)) : Ct l g yX6_copyFrom wsX6_copyFrom 0 0 0 0 [.ref (gz g + i), .ref (gz g + j)] n c (Qv g (fun n' c' => n' = n ∧ c' = va_up c i (wiC f2))) := by
  refine ent (by decide) rfl (Nat.le_of_ble_eq_true rfl) ?_
  intro p e s m args below meth c0 F h ls hl
  have hx := F.1
  have hb := F.2.1
  have hl : lv_has ls 2 [(0, .ref (gz g + i)), (1, .ref (gz g + j))] := hl
  refine lv_aload_n hx hb dX6_copyFrom_0 rfl (lv_at hl 0 rfl) ?_
  refine lv_aload_n hx hb dX6_copyFrom_1 rfl (lv_at hl 1 rfl) ?_
  refine r_get F h (C := RX6) (T := TX6) (N := 12) (hjc hi_X6) rfl hj 0 (by decide) (List.mem_cons_of_mem _ wd_46) rfl dX6_copyFrom_2 ?_
  refine r_put F h (C := RX6) (T := TX6) (N := 12) (fs' := [.int (f2 0), .int (f 1), .int (f 2), .int (f 3), .int (f 4), .int (qdI (f 4)), .int (f 5), .int (f 6), .int (f 7), .int (f 8), .int (f 9), .int (f 10)]) (hjc hi_X6) tyX6 tyX6_ok nmX6 rfl hi 0 (by decide) (List.mem_cons_of_mem _ wd_46) rfl (b01n hb2) (b01f hb2) (Nat.le_of_ble_eq_true rfl) rfl dX6_copyFrom_5 (fun H locs h => ?_)
  refine lv_aload_n hx hb dX6_copyFrom_8 rfl (lv_at hl 0 rfl) ?_
  refine lv_aload_n hx hb dX6_copyFrom_9 rfl (lv_at hl 1 rfl) ?_
  refine r_get F h (C := RX6) (T := TX6) (N := 12) (hjc hi_X6) rfl ((mu_ne (hij.symm) _).trans hj) 1 (by decide) (List.mem_cons_of_mem _ wd_49) rfl dX6_copyFrom_10 ?_
  refine r_put F h (C := RX6) (T := TX6) (N := 12) (fs' := [.int (f2 0), .int (f2 1), .int (f 2), .int (f 3), .int (f 4), .int (qdI (f 4)), .int (f 5), .int (f 6), .int (f 7), .int (f 8), .int (f 9), .int (f 10)]) (hjc hi_X6) tyX6 tyX6_ok nmX6 rfl (mu_eq _ _ _) 1 (by decide) (List.mem_cons_of_mem _ wd_49) rfl (rfl) (rfl) (Nat.le_of_ble_eq_true rfl) rfl dX6_copyFrom_13 (fun H locs h => ?_)
  refine r_mem (c1 := (va_up c i (some (.inr (6, [.int (f2 0), .int (f2 1), .int (f 2), .int (f 3), .int (f 4), .int (qdI (f 4)), .int (f 5), .int (f 6), .int (f 7), .int (f 8), .int (f 9), .int (f 10)]))))) h (mu_uu _ _ _ _) (fun h => ?_)
  refine lv_aload_n hx hb dX6_copyFrom_16 rfl (lv_at hl 0 rfl) ?_
  refine lv_aload_n hx hb dX6_copyFrom_17 rfl (lv_at hl 1 rfl) ?_
  refine r_get F h (C := RX6) (T := TX6) (N := 12) (hjc hi_X6) rfl ((mu_ne (hij.symm) _).trans hj) 2 (by decide) (List.mem_cons_of_mem _ wd_52) rfl dX6_copyFrom_18 ?_
  refine r_put F h (C := RX6) (T := TX6) (N := 12) (fs' := [.int (f2 0), .int (f2 1), .int (f2 2), .int (f 3), .int (f 4), .int (qdI (f 4)), .int (f 5), .int (f 6), .int (f 7), .int (f 8), .int (f 9), .int (f 10)]) (hjc hi_X6) tyX6 tyX6_ok nmX6 rfl (mu_eq _ _ _) 2 (by decide) (List.mem_cons_of_mem _ wd_52) rfl (rfl) (rfl) (Nat.le_of_ble_eq_true rfl) rfl dX6_copyFrom_21 (fun H locs h => ?_)
  refine r_mem (c1 := (va_up c i (some (.inr (6, [.int (f2 0), .int (f2 1), .int (f2 2), .int (f 3), .int (f 4), .int (qdI (f 4)), .int (f 5), .int (f 6), .int (f 7), .int (f 8), .int (f 9), .int (f 10)]))))) h (mu_uu _ _ _ _) (fun h => ?_)
  refine lv_aload_n hx hb dX6_copyFrom_24 rfl (lv_at hl 0 rfl) ?_
  refine lv_aload_n hx hb dX6_copyFrom_25 rfl (lv_at hl 1 rfl) ?_
  refine r_get F h (C := RX6) (T := TX6) (N := 12) (hjc hi_X6) rfl ((mu_ne (hij.symm) _).trans hj) 3 (by decide) (List.mem_cons_of_mem _ wd_55) rfl dX6_copyFrom_26 ?_
  refine r_put F h (C := RX6) (T := TX6) (N := 12) (fs' := [.int (f2 0), .int (f2 1), .int (f2 2), .int (f2 3), .int (f 4), .int (qdI (f 4)), .int (f 5), .int (f 6), .int (f 7), .int (f 8), .int (f 9), .int (f 10)]) (hjc hi_X6) tyX6 tyX6_ok nmX6 rfl (mu_eq _ _ _) 3 (by decide) (List.mem_cons_of_mem _ wd_55) rfl (rfl) (rfl) (Nat.le_of_ble_eq_true rfl) rfl dX6_copyFrom_29 (fun H locs h => ?_)
  refine r_mem (c1 := (va_up c i (some (.inr (6, [.int (f2 0), .int (f2 1), .int (f2 2), .int (f2 3), .int (f 4), .int (qdI (f 4)), .int (f 5), .int (f 6), .int (f 7), .int (f 8), .int (f 9), .int (f 10)]))))) h (mu_uu _ _ _ _) (fun h => ?_)
  refine lv_aload_n hx hb dX6_copyFrom_32 rfl (lv_at hl 0 rfl) ?_
  refine lv_aload_n hx hb dX6_copyFrom_33 rfl (lv_at hl 1 rfl) ?_
  refine r_get F h (C := RX6) (T := TX6) (N := 12) (hjc hi_X6) rfl ((mu_ne (hij.symm) _).trans hj) 4 (by decide) (List.mem_cons_of_mem _ wd_57) rfl dX6_copyFrom_34 ?_
  refine r_put F h (C := RX6) (T := TX6) (N := 12) (fs' := [.int (f2 0), .int (f2 1), .int (f2 2), .int (f2 3), .int (f2 4), .int (qdI (f 4)), .int (f 5), .int (f 6), .int (f 7), .int (f 8), .int (f 9), .int (f 10)]) (hjc hi_X6) tyX6 tyX6_ok nmX6 rfl (mu_eq _ _ _) 4 (by decide) (List.mem_cons_of_mem _ wd_57) rfl (rfl) (rfl) (Nat.le_of_ble_eq_true rfl) rfl dX6_copyFrom_37 (fun H locs h => ?_)
  refine r_mem (c1 := (va_up c i (some (.inr (6, [.int (f2 0), .int (f2 1), .int (f2 2), .int (f2 3), .int (f2 4), .int (qdI (f 4)), .int (f 5), .int (f 6), .int (f 7), .int (f 8), .int (f 9), .int (f 10)]))))) h (mu_uu _ _ _ _) (fun h => ?_)
  refine lv_aload_n hx hb dX6_copyFrom_40 rfl (lv_at hl 0 rfl) ?_
  refine lv_aload_n hx hb dX6_copyFrom_41 rfl (lv_at hl 1 rfl) ?_
  refine r_get F h (C := RX6) (T := TX6) (N := 12) (hjc hi_X6) rfl ((mu_ne (hij.symm) _).trans hj) 5 (by decide) (List.mem_cons_of_mem _ wd_59) rfl dX6_copyFrom_42 ?_
  refine r_put F h (C := RX6) (T := TX6) (N := 12) (fs' := [.int (f2 0), .int (f2 1), .int (f2 2), .int (f2 3), .int (f2 4), .int (qdI (f2 4)), .int (f 5), .int (f 6), .int (f 7), .int (f 8), .int (f 9), .int (f 10)]) (hjc hi_X6) tyX6 tyX6_ok nmX6 rfl (mu_eq _ _ _) 5 (by decide) (List.mem_cons_of_mem _ wd_59) rfl (rfl) (rfl) (Nat.le_of_ble_eq_true rfl) rfl dX6_copyFrom_45 (fun H locs h => ?_)
  refine r_mem (c1 := (va_up c i (some (.inr (6, [.int (f2 0), .int (f2 1), .int (f2 2), .int (f2 3), .int (f2 4), .int (qdI (f2 4)), .int (f 5), .int (f 6), .int (f 7), .int (f 8), .int (f 9), .int (f 10)]))))) h (mu_uu _ _ _ _) (fun h => ?_)
  refine lv_aload_n hx hb dX6_copyFrom_48 rfl (lv_at hl 0 rfl) ?_
  refine lv_aload_n hx hb dX6_copyFrom_49 rfl (lv_at hl 1 rfl) ?_
  refine r_get F h (C := RX6) (T := TX6) (N := 12) (hjc hi_X6) rfl ((mu_ne (hij.symm) _).trans hj) 6 (by decide) (List.mem_cons_of_mem _ wd_60) rfl dX6_copyFrom_50 ?_
  refine r_put F h (C := RX6) (T := TX6) (N := 12) (fs' := [.int (f2 0), .int (f2 1), .int (f2 2), .int (f2 3), .int (f2 4), .int (qdI (f2 4)), .int (f2 5), .int (f 6), .int (f 7), .int (f 8), .int (f 9), .int (f 10)]) (hjc hi_X6) tyX6 tyX6_ok nmX6 rfl (mu_eq _ _ _) 6 (by decide) (List.mem_cons_of_mem _ wd_60) rfl (rfl) (rfl) (Nat.le_of_ble_eq_true rfl) rfl dX6_copyFrom_53 (fun H locs h => ?_)
  refine r_mem (c1 := (va_up c i (some (.inr (6, [.int (f2 0), .int (f2 1), .int (f2 2), .int (f2 3), .int (f2 4), .int (qdI (f2 4)), .int (f2 5), .int (f 6), .int (f 7), .int (f 8), .int (f 9), .int (f 10)]))))) h (mu_uu _ _ _ _) (fun h => ?_)
  refine lv_aload_n hx hb dX6_copyFrom_56 rfl (lv_at hl 0 rfl) ?_
  refine lv_aload_n hx hb dX6_copyFrom_57 rfl (lv_at hl 1 rfl) ?_
  refine r_get F h (C := RX6) (T := TX6) (N := 12) (hjc hi_X6) rfl ((mu_ne (hij.symm) _).trans hj) 7 (by decide) (List.mem_cons_of_mem _ wd_63) rfl dX6_copyFrom_58 ?_
  refine r_put F h (C := RX6) (T := TX6) (N := 12) (fs' := [.int (f2 0), .int (f2 1), .int (f2 2), .int (f2 3), .int (f2 4), .int (qdI (f2 4)), .int (f2 5), .int (f2 6), .int (f 7), .int (f 8), .int (f 9), .int (f 10)]) (hjc hi_X6) tyX6 tyX6_ok nmX6 rfl (mu_eq _ _ _) 7 (by decide) (List.mem_cons_of_mem _ wd_63) rfl (rfl) (rfl) (Nat.le_of_ble_eq_true rfl) rfl dX6_copyFrom_61 (fun H locs h => ?_)
  refine r_mem (c1 := (va_up c i (some (.inr (6, [.int (f2 0), .int (f2 1), .int (f2 2), .int (f2 3), .int (f2 4), .int (qdI (f2 4)), .int (f2 5), .int (f2 6), .int (f 7), .int (f 8), .int (f 9), .int (f 10)]))))) h (mu_uu _ _ _ _) (fun h => ?_)
  refine lv_aload_n hx hb dX6_copyFrom_64 rfl (lv_at hl 0 rfl) ?_
  refine lv_aload_n hx hb dX6_copyFrom_65 rfl (lv_at hl 1 rfl) ?_
  refine r_get F h (C := RX6) (T := TX6) (N := 12) (hjc hi_X6) rfl ((mu_ne (hij.symm) _).trans hj) 8 (by decide) (List.mem_cons_of_mem _ wd_66) rfl dX6_copyFrom_66 ?_
  refine r_put F h (C := RX6) (T := TX6) (N := 12) (fs' := [.int (f2 0), .int (f2 1), .int (f2 2), .int (f2 3), .int (f2 4), .int (qdI (f2 4)), .int (f2 5), .int (f2 6), .int (f2 7), .int (f 8), .int (f 9), .int (f 10)]) (hjc hi_X6) tyX6 tyX6_ok nmX6 rfl (mu_eq _ _ _) 8 (by decide) (List.mem_cons_of_mem _ wd_66) rfl (rfl) (rfl) (Nat.le_of_ble_eq_true rfl) rfl dX6_copyFrom_69 (fun H locs h => ?_)
  refine r_mem (c1 := (va_up c i (some (.inr (6, [.int (f2 0), .int (f2 1), .int (f2 2), .int (f2 3), .int (f2 4), .int (qdI (f2 4)), .int (f2 5), .int (f2 6), .int (f2 7), .int (f 8), .int (f 9), .int (f 10)]))))) h (mu_uu _ _ _ _) (fun h => ?_)
  refine lv_aload_n hx hb dX6_copyFrom_72 rfl (lv_at hl 0 rfl) ?_
  refine lv_aload_n hx hb dX6_copyFrom_73 rfl (lv_at hl 1 rfl) ?_
  refine r_get F h (C := RX6) (T := TX6) (N := 12) (hjc hi_X6) rfl ((mu_ne (hij.symm) _).trans hj) 9 (by decide) (List.mem_cons_of_mem _ wd_68) rfl dX6_copyFrom_74 ?_
  refine r_put F h (C := RX6) (T := TX6) (N := 12) (fs' := [.int (f2 0), .int (f2 1), .int (f2 2), .int (f2 3), .int (f2 4), .int (qdI (f2 4)), .int (f2 5), .int (f2 6), .int (f2 7), .int (f2 8), .int (f 9), .int (f 10)]) (hjc hi_X6) tyX6 tyX6_ok nmX6 rfl (mu_eq _ _ _) 9 (by decide) (List.mem_cons_of_mem _ wd_68) rfl (rfl) (rfl) (Nat.le_of_ble_eq_true rfl) rfl dX6_copyFrom_77 (fun H locs h => ?_)
  refine r_mem (c1 := (va_up c i (some (.inr (6, [.int (f2 0), .int (f2 1), .int (f2 2), .int (f2 3), .int (f2 4), .int (qdI (f2 4)), .int (f2 5), .int (f2 6), .int (f2 7), .int (f2 8), .int (f 9), .int (f 10)]))))) h (mu_uu _ _ _ _) (fun h => ?_)
  refine lv_aload_n hx hb dX6_copyFrom_80 rfl (lv_at hl 0 rfl) ?_
  refine lv_aload_n hx hb dX6_copyFrom_81 rfl (lv_at hl 1 rfl) ?_
  refine r_get F h (C := RX6) (T := TX6) (N := 12) (hjc hi_X6) rfl ((mu_ne (hij.symm) _).trans hj) 10 (by decide) (List.mem_cons_of_mem _ wd_70) rfl dX6_copyFrom_82 ?_
  refine r_put F h (C := RX6) (T := TX6) (N := 12) (fs' := [.int (f2 0), .int (f2 1), .int (f2 2), .int (f2 3), .int (f2 4), .int (qdI (f2 4)), .int (f2 5), .int (f2 6), .int (f2 7), .int (f2 8), .int (f2 9), .int (f 10)]) (hjc hi_X6) tyX6 tyX6_ok nmX6 rfl (mu_eq _ _ _) 10 (by decide) (List.mem_cons_of_mem _ wd_70) rfl (rfl) (rfl) (Nat.le_of_ble_eq_true rfl) rfl dX6_copyFrom_85 (fun H locs h => ?_)
  refine r_mem (c1 := (va_up c i (some (.inr (6, [.int (f2 0), .int (f2 1), .int (f2 2), .int (f2 3), .int (f2 4), .int (qdI (f2 4)), .int (f2 5), .int (f2 6), .int (f2 7), .int (f2 8), .int (f2 9), .int (f 10)]))))) h (mu_uu _ _ _ _) (fun h => ?_)
  refine lv_aload_n hx hb dX6_copyFrom_88 rfl (lv_at hl 0 rfl) ?_
  refine lv_aload_n hx hb dX6_copyFrom_89 rfl (lv_at hl 1 rfl) ?_
  refine r_get F h (C := RX6) (T := TX6) (N := 12) (hjc hi_X6) rfl ((mu_ne (hij.symm) _).trans hj) 11 (by decide) (List.mem_cons_of_mem _ wd_71) rfl dX6_copyFrom_90 ?_
  refine r_put F h (C := RX6) (T := TX6) (N := 12) (fs' := [.int (f2 0), .int (f2 1), .int (f2 2), .int (f2 3), .int (f2 4), .int (qdI (f2 4)), .int (f2 5), .int (f2 6), .int (f2 7), .int (f2 8), .int (f2 9), .int (f2 10)]) (hjc hi_X6) tyX6 tyX6_ok nmX6 rfl (mu_eq _ _ _) 11 (by decide) (List.mem_cons_of_mem _ wd_71) rfl (rfl) (rfl) (Nat.le_of_ble_eq_true rfl) rfl dX6_copyFrom_93 (fun H locs h => ?_)
  refine r_mem (c1 := (va_up c i (some (.inr (6, [.int (f2 0), .int (f2 1), .int (f2 2), .int (f2 3), .int (f2 4), .int (qdI (f2 4)), .int (f2 5), .int (f2 6), .int (f2 7), .int (f2 8), .int (f2 9), .int (f2 10)]))))) h (mu_uu _ _ _ _) (fun h => ?_)
  exact ret_v F h (Nat.zero_le _) (Nat.zero_le _) dX6_copyFrom_96 (⟨rfl, rfl⟩)
set_option maxHeartbeats 4000000 in
set_option maxRecDepth 100000 in
theorem k_X0_copyFrom (l : Launch) (g : Gf) (n : Nat) (c : Mp) (i : Nat) (f : Nat → Int32) (hi : c i = cuC f) (j : Nat) (f2 : Nat → Int32) (hj : c j = cuC f2) (hij : i ≠ j) : Ct l g yX0_copyFrom wsX0_copyFrom 0 0 0 0 [.ref (gz g + i), .ref (gz g + j)] n c (Qv g (fun n' c' => n' = n ∧ c' = va_up c i (cuC f2))) := by
  refine ent (by decide) rfl (Nat.le_of_ble_eq_true rfl) ?_
  intro p e s m args below meth c0 F h ls hl
  have hx := F.1
  have hb := F.2.1
  have hl : lv_has ls 2 [(0, .ref (gz g + i)), (1, .ref (gz g + j))] := hl
  refine lv_aload_n hx hb dX0_copyFrom_0 rfl (lv_at hl 0 rfl) ?_
  refine lv_aload_n hx hb dX0_copyFrom_1 rfl (lv_at hl 1 rfl) ?_
  refine r_get F h (C := RX0) (T := TX0) (N := 4) (hjc hi_X0) rfl hj 0 (by decide) (List.mem_cons_of_mem _ wd_104) rfl dX0_copyFrom_2 ?_
  refine r_put F h (C := RX0) (T := TX0) (N := 4) (fs' := [.int (f2 0), .int (f 1), .int (f 2), .int (f 3)]) (hjc hi_X0) tyX0 tyX0_ok nmX0 rfl hi 0 (by decide) (List.mem_cons_of_mem _ wd_104) rfl (rfl) (rfl) (Nat.le_of_ble_eq_true rfl) rfl dX0_copyFrom_5 (fun H locs h => ?_)
  refine lv_aload_n hx hb dX0_copyFrom_8 rfl (lv_at hl 0 rfl) ?_
  refine lv_aload_n hx hb dX0_copyFrom_9 rfl (lv_at hl 1 rfl) ?_
  refine r_get F h (C := RX0) (T := TX0) (N := 4) (hjc hi_X0) rfl ((mu_ne (hij.symm) _).trans hj) 1 (by decide) (List.mem_cons_of_mem _ wd_105) rfl dX0_copyFrom_10 ?_
  refine r_put F h (C := RX0) (T := TX0) (N := 4) (fs' := [.int (f2 0), .int (f2 1), .int (f 2), .int (f 3)]) (hjc hi_X0) tyX0 tyX0_ok nmX0 rfl (mu_eq _ _ _) 1 (by decide) (List.mem_cons_of_mem _ wd_105) rfl (rfl) (rfl) (Nat.le_of_ble_eq_true rfl) rfl dX0_copyFrom_13 (fun H locs h => ?_)
  refine r_mem (c1 := (va_up c i (some (.inr (0, [.int (f2 0), .int (f2 1), .int (f 2), .int (f 3)]))))) h (mu_uu _ _ _ _) (fun h => ?_)
  refine lv_aload_n hx hb dX0_copyFrom_16 rfl (lv_at hl 0 rfl) ?_
  refine lv_aload_n hx hb dX0_copyFrom_17 rfl (lv_at hl 1 rfl) ?_
  refine r_get F h (C := RX0) (T := TX0) (N := 4) (hjc hi_X0) rfl ((mu_ne (hij.symm) _).trans hj) 2 (by decide) (List.mem_cons_of_mem _ wd_106) rfl dX0_copyFrom_18 ?_
  refine r_put F h (C := RX0) (T := TX0) (N := 4) (fs' := [.int (f2 0), .int (f2 1), .int (f2 2), .int (f 3)]) (hjc hi_X0) tyX0 tyX0_ok nmX0 rfl (mu_eq _ _ _) 2 (by decide) (List.mem_cons_of_mem _ wd_106) rfl (rfl) (rfl) (Nat.le_of_ble_eq_true rfl) rfl dX0_copyFrom_21 (fun H locs h => ?_)
  refine r_mem (c1 := (va_up c i (some (.inr (0, [.int (f2 0), .int (f2 1), .int (f2 2), .int (f 3)]))))) h (mu_uu _ _ _ _) (fun h => ?_)
  refine lv_aload_n hx hb dX0_copyFrom_24 rfl (lv_at hl 0 rfl) ?_
  refine lv_aload_n hx hb dX0_copyFrom_25 rfl (lv_at hl 1 rfl) ?_
  refine r_get F h (C := RX0) (T := TX0) (N := 4) (hjc hi_X0) rfl ((mu_ne (hij.symm) _).trans hj) 3 (by decide) (List.mem_cons_of_mem _ wd_107) rfl dX0_copyFrom_26 ?_
  refine r_put F h (C := RX0) (T := TX0) (N := 4) (fs' := [.int (f2 0), .int (f2 1), .int (f2 2), .int (f2 3)]) (hjc hi_X0) tyX0 tyX0_ok nmX0 rfl (mu_eq _ _ _) 3 (by decide) (List.mem_cons_of_mem _ wd_107) rfl (rfl) (rfl) (Nat.le_of_ble_eq_true rfl) rfl dX0_copyFrom_29 (fun H locs h => ?_)
  refine r_mem (c1 := (va_up c i (some (.inr (0, [.int (f2 0), .int (f2 1), .int (f2 2), .int (f2 3)]))))) h (mu_uu _ _ _ _) (fun h => ?_)
  exact ret_v F h (Nat.zero_le _) (Nat.zero_le _) dX0_copyFrom_32 (⟨rfl, rfl⟩)
set_option maxHeartbeats 4000000 in
set_option maxRecDepth 100000 in
theorem k_X1_copyFrom (l : Launch) (g : Gf) (n : Nat) (c : Mp) (i : Nat) (f : Nat → Int32) (hi : c i = obC f) (j : Nat) (f2 : Nat → Int32) (hj : c j = obC f2) (hij : i ≠ j) (hb2 : B01 (f2 0)) : Ct l g yX1_copyFrom wsX1_copyFrom 0 0 0 0 [.ref (gz g + i), .ref (gz g + j)] n c (Qv g (fun n' c' => n' = n ∧ c' = va_up c i (obC f2))) := by
  refine ent (by decide) rfl (Nat.le_of_ble_eq_true rfl) ?_
  intro p e s m args below meth c0 F h ls hl
  have hx := F.1
  have hb := F.2.1
  have hl : lv_has ls 2 [(0, .ref (gz g + i)), (1, .ref (gz g + j))] := hl
  refine lv_aload_n hx hb dX1_copyFrom_0 rfl (lv_at hl 0 rfl) ?_
  refine lv_aload_n hx hb dX1_copyFrom_1 rfl (lv_at hl 1 rfl) ?_
  refine r_get F h (C := RX1) (T := TX1) (N := 6) (hjc hi_X1) rfl hj 0 (by decide) (List.mem_cons_of_mem _ wd_131) rfl dX1_copyFrom_2 ?_
  refine r_put F h (C := RX1) (T := TX1) (N := 6) (fs' := [.int (f2 0), .int (f 1), .int (f 2), .int (f 3), .int (f 4), .int (f 5)]) (hjc hi_X1) tyX1 tyX1_ok nmX1 rfl hi 0 (by decide) (List.mem_cons_of_mem _ wd_131) rfl (b01n hb2) (b01f hb2) (Nat.le_of_ble_eq_true rfl) rfl dX1_copyFrom_5 (fun H locs h => ?_)
  refine lv_aload_n hx hb dX1_copyFrom_8 rfl (lv_at hl 0 rfl) ?_
  refine lv_aload_n hx hb dX1_copyFrom_9 rfl (lv_at hl 1 rfl) ?_
  refine r_get F h (C := RX1) (T := TX1) (N := 6) (hjc hi_X1) rfl ((mu_ne (hij.symm) _).trans hj) 1 (by decide) (List.mem_cons_of_mem _ wd_135) rfl dX1_copyFrom_10 ?_
  refine r_put F h (C := RX1) (T := TX1) (N := 6) (fs' := [.int (f2 0), .int (f2 1), .int (f 2), .int (f 3), .int (f 4), .int (f 5)]) (hjc hi_X1) tyX1 tyX1_ok nmX1 rfl (mu_eq _ _ _) 1 (by decide) (List.mem_cons_of_mem _ wd_135) rfl (rfl) (rfl) (Nat.le_of_ble_eq_true rfl) rfl dX1_copyFrom_13 (fun H locs h => ?_)
  refine r_mem (c1 := (va_up c i (some (.inr (1, [.int (f2 0), .int (f2 1), .int (f 2), .int (f 3), .int (f 4), .int (f 5)]))))) h (mu_uu _ _ _ _) (fun h => ?_)
  refine lv_aload_n hx hb dX1_copyFrom_16 rfl (lv_at hl 0 rfl) ?_
  refine lv_aload_n hx hb dX1_copyFrom_17 rfl (lv_at hl 1 rfl) ?_
  refine r_get F h (C := RX1) (T := TX1) (N := 6) (hjc hi_X1) rfl ((mu_ne (hij.symm) _).trans hj) 2 (by decide) (List.mem_cons_of_mem _ wd_138) rfl dX1_copyFrom_18 ?_
  refine r_put F h (C := RX1) (T := TX1) (N := 6) (fs' := [.int (f2 0), .int (f2 1), .int (f2 2), .int (f 3), .int (f 4), .int (f 5)]) (hjc hi_X1) tyX1 tyX1_ok nmX1 rfl (mu_eq _ _ _) 2 (by decide) (List.mem_cons_of_mem _ wd_138) rfl (rfl) (rfl) (Nat.le_of_ble_eq_true rfl) rfl dX1_copyFrom_21 (fun H locs h => ?_)
  refine r_mem (c1 := (va_up c i (some (.inr (1, [.int (f2 0), .int (f2 1), .int (f2 2), .int (f 3), .int (f 4), .int (f 5)]))))) h (mu_uu _ _ _ _) (fun h => ?_)
  refine lv_aload_n hx hb dX1_copyFrom_24 rfl (lv_at hl 0 rfl) ?_
  refine lv_aload_n hx hb dX1_copyFrom_25 rfl (lv_at hl 1 rfl) ?_
  refine r_get F h (C := RX1) (T := TX1) (N := 6) (hjc hi_X1) rfl ((mu_ne (hij.symm) _).trans hj) 3 (by decide) (List.mem_cons_of_mem _ wd_141) rfl dX1_copyFrom_26 ?_
  refine r_put F h (C := RX1) (T := TX1) (N := 6) (fs' := [.int (f2 0), .int (f2 1), .int (f2 2), .int (f2 3), .int (f 4), .int (f 5)]) (hjc hi_X1) tyX1 tyX1_ok nmX1 rfl (mu_eq _ _ _) 3 (by decide) (List.mem_cons_of_mem _ wd_141) rfl (rfl) (rfl) (Nat.le_of_ble_eq_true rfl) rfl dX1_copyFrom_29 (fun H locs h => ?_)
  refine r_mem (c1 := (va_up c i (some (.inr (1, [.int (f2 0), .int (f2 1), .int (f2 2), .int (f2 3), .int (f 4), .int (f 5)]))))) h (mu_uu _ _ _ _) (fun h => ?_)
  refine lv_aload_n hx hb dX1_copyFrom_32 rfl (lv_at hl 0 rfl) ?_
  refine lv_aload_n hx hb dX1_copyFrom_33 rfl (lv_at hl 1 rfl) ?_
  refine r_get F h (C := RX1) (T := TX1) (N := 6) (hjc hi_X1) rfl ((mu_ne (hij.symm) _).trans hj) 4 (by decide) (List.mem_cons_of_mem _ wd_144) rfl dX1_copyFrom_34 ?_
  refine r_put F h (C := RX1) (T := TX1) (N := 6) (fs' := [.int (f2 0), .int (f2 1), .int (f2 2), .int (f2 3), .int (f2 4), .int (f 5)]) (hjc hi_X1) tyX1 tyX1_ok nmX1 rfl (mu_eq _ _ _) 4 (by decide) (List.mem_cons_of_mem _ wd_144) rfl (rfl) (rfl) (Nat.le_of_ble_eq_true rfl) rfl dX1_copyFrom_37 (fun H locs h => ?_)
  refine r_mem (c1 := (va_up c i (some (.inr (1, [.int (f2 0), .int (f2 1), .int (f2 2), .int (f2 3), .int (f2 4), .int (f 5)]))))) h (mu_uu _ _ _ _) (fun h => ?_)
  refine lv_aload_n hx hb dX1_copyFrom_40 rfl (lv_at hl 0 rfl) ?_
  refine lv_aload_n hx hb dX1_copyFrom_41 rfl (lv_at hl 1 rfl) ?_
  refine r_get F h (C := RX1) (T := TX1) (N := 6) (hjc hi_X1) rfl ((mu_ne (hij.symm) _).trans hj) 5 (by decide) (List.mem_cons_of_mem _ wd_146) rfl dX1_copyFrom_42 ?_
  refine r_put F h (C := RX1) (T := TX1) (N := 6) (fs' := [.int (f2 0), .int (f2 1), .int (f2 2), .int (f2 3), .int (f2 4), .int (f2 5)]) (hjc hi_X1) tyX1 tyX1_ok nmX1 rfl (mu_eq _ _ _) 5 (by decide) (List.mem_cons_of_mem _ wd_146) rfl (rfl) (rfl) (Nat.le_of_ble_eq_true rfl) rfl dX1_copyFrom_45 (fun H locs h => ?_)
  refine r_mem (c1 := (va_up c i (some (.inr (1, [.int (f2 0), .int (f2 1), .int (f2 2), .int (f2 3), .int (f2 4), .int (f2 5)]))))) h (mu_uu _ _ _ _) (fun h => ?_)
  exact ret_v F h (Nat.zero_le _) (Nat.zero_le _) dX1_copyFrom_48 (⟨rfl, rfl⟩)
set_option maxHeartbeats 4000000 in
set_option maxRecDepth 100000 in
theorem k_X6_hangAnew (l : Launch) (g : Gf) (n : Nat) (c : Mp) (i : Nat) (f : Nat → Int32) (hi : c i = wiC f) (x y ma de : Int32) (hde : ¬ de = 0) : Ct l g yX6_hangAnew wsX6_hangAnew 1 21 0 0 [.ref (gz g + i), .int x, .int y, .int ma, .int de] n c (Qv g (fun n' c' => n' = n ∧ c' = va_up c i (wiC (l11 1 x y ma de 0 0 0 0 0 0)))) := by
  refine ent (by decide) rfl (Nat.le_of_ble_eq_true rfl) ?_
  intro p e s m args below meth c0 F h ls hl
  have hx := F.1
  have hb := F.2.1
  have hl : lv_has ls 5 [(0, .ref (gz g + i)), (1, .int x), (2, .int y), (3, .int ma), (4, .int de)] := hl
  refine lv_aload_n hx hb dX6_hangAnew_0 rfl (lv_at hl 0 rfl) ?_
  refine lv_iconst (v := 1) hx hb dX6_hangAnew_1 (by decide) ?_
  refine r_put F h (C := RX6) (T := TX6) (N := 12) (fs' := [.int 1, .int (f 1), .int (f 2), .int (f 3), .int (f 4), .int (qdI (f 4)), .int (f 5), .int (f 6), .int (f 7), .int (f 8), .int (f 9), .int (f 10)]) (hjc hi_X6) tyX6 tyX6_ok nmX6 rfl hi 0 (by decide) (List.mem_cons_of_mem _ wd_46) rfl (by decide) (by decide) (Nat.le_of_ble_eq_true rfl) rfl dX6_hangAnew_2 (fun H locs h => ?_)
  refine lv_aload_n hx hb dX6_hangAnew_5 rfl (lv_at hl 0 rfl) ?_
  refine lv_iload_n hx hb dX6_hangAnew_6 rfl (lv_at hl 1 rfl) ?_
  refine r_put F h (C := RX6) (T := TX6) (N := 12) (fs' := [.int 1, .int x, .int (f 2), .int (f 3), .int (f 4), .int (qdI (f 4)), .int (f 5), .int (f 6), .int (f 7), .int (f 8), .int (f 9), .int (f 10)]) (hjc hi_X6) tyX6 tyX6_ok nmX6 rfl (mu_eq _ _ _) 1 (by decide) (List.mem_cons_of_mem _ wd_49) rfl (rfl) (rfl) (Nat.le_of_ble_eq_true rfl) rfl dX6_hangAnew_7 (fun H locs h => ?_)
  refine r_mem (c1 := (va_up c i (some (.inr (6, [.int 1, .int x, .int (f 2), .int (f 3), .int (f 4), .int (qdI (f 4)), .int (f 5), .int (f 6), .int (f 7), .int (f 8), .int (f 9), .int (f 10)]))))) h (mu_uu _ _ _ _) (fun h => ?_)
  refine lv_aload_n hx hb dX6_hangAnew_10 rfl (lv_at hl 0 rfl) ?_
  refine lv_iload_n hx hb dX6_hangAnew_11 rfl (lv_at hl 2 rfl) ?_
  refine r_put F h (C := RX6) (T := TX6) (N := 12) (fs' := [.int 1, .int x, .int y, .int (f 3), .int (f 4), .int (qdI (f 4)), .int (f 5), .int (f 6), .int (f 7), .int (f 8), .int (f 9), .int (f 10)]) (hjc hi_X6) tyX6 tyX6_ok nmX6 rfl (mu_eq _ _ _) 2 (by decide) (List.mem_cons_of_mem _ wd_52) rfl (rfl) (rfl) (Nat.le_of_ble_eq_true rfl) rfl dX6_hangAnew_12 (fun H locs h => ?_)
  refine r_mem (c1 := (va_up c i (some (.inr (6, [.int 1, .int x, .int y, .int (f 3), .int (f 4), .int (qdI (f 4)), .int (f 5), .int (f 6), .int (f 7), .int (f 8), .int (f 9), .int (f 10)]))))) h (mu_uu _ _ _ _) (fun h => ?_)
  refine lv_aload_n hx hb dX6_hangAnew_15 rfl (lv_at hl 0 rfl) ?_
  refine lv_iload_n hx hb dX6_hangAnew_16 rfl (lv_at hl 3 rfl) ?_
  refine r_put F h (C := RX6) (T := TX6) (N := 12) (fs' := [.int 1, .int x, .int y, .int ma, .int (f 4), .int (qdI (f 4)), .int (f 5), .int (f 6), .int (f 7), .int (f 8), .int (f 9), .int (f 10)]) (hjc hi_X6) tyX6 tyX6_ok nmX6 rfl (mu_eq _ _ _) 3 (by decide) (List.mem_cons_of_mem _ wd_55) rfl (rfl) (rfl) (Nat.le_of_ble_eq_true rfl) rfl dX6_hangAnew_17 (fun H locs h => ?_)
  refine r_mem (c1 := (va_up c i (some (.inr (6, [.int 1, .int x, .int y, .int ma, .int (f 4), .int (qdI (f 4)), .int (f 5), .int (f 6), .int (f 7), .int (f 8), .int (f 9), .int (f 10)]))))) h (mu_uu _ _ _ _) (fun h => ?_)
  refine lv_aload_n hx hb dX6_hangAnew_20 rfl (lv_at hl 0 rfl) ?_
  refine lv_iload hx hb dX6_hangAnew_21 (lv_at hl 4 rfl) ?_
  refine r_put F h (C := RX6) (T := TX6) (N := 12) (fs' := [.int 1, .int x, .int y, .int ma, .int de, .int (qdI (f 4)), .int (f 5), .int (f 6), .int (f 7), .int (f 8), .int (f 9), .int (f 10)]) (hjc hi_X6) tyX6 tyX6_ok nmX6 rfl (mu_eq _ _ _) 4 (by decide) (List.mem_cons_of_mem _ wd_57) rfl (rfl) (rfl) (Nat.le_of_ble_eq_true rfl) rfl dX6_hangAnew_23 (fun H locs h => ?_)
  refine r_mem (c1 := (va_up c i (some (.inr (6, [.int 1, .int x, .int y, .int ma, .int de, .int (qdI (f 4)), .int (f 5), .int (f 6), .int (f 7), .int (f 8), .int (f 9), .int (f 10)]))))) h (mu_uu _ _ _ _) (fun h => ?_)
  refine lv_aload_n hx hb dX6_hangAnew_26 rfl (lv_at hl 0 rfl) ?_
  refine lv_iconst (v := 1) hx hb dX6_hangAnew_27 (by decide) ?_
  refine lv_iload hx hb dX6_hangAnew_28 (lv_at hl 4 rfl) ?_
  refine lv_bipush (v := 100) hx hb dX6_hangAnew_30 (by decide) ?_
  refine lv_idiv hx hb dX6_hangAnew_32 (by decide) ?_
  refine lv_iadd hx hb dX6_hangAnew_33 ?_
  refine r_top (w := .int (qdI de)) (congrArg Value.int (qd_ne hde).symm) ?_
  refine r_put F h (C := RX6) (T := TX6) (N := 12) (fs' := [.int 1, .int x, .int y, .int ma, .int de, .int (qdI de), .int (f 5), .int (f 6), .int (f 7), .int (f 8), .int (f 9), .int (f 10)]) (hjc hi_X6) tyX6 tyX6_ok nmX6 rfl (mu_eq _ _ _) 5 (by decide) (List.mem_cons_of_mem _ wd_59) rfl (rfl) (rfl) (Nat.le_of_ble_eq_true rfl) rfl dX6_hangAnew_34 (fun H locs h => ?_)
  refine r_mem (c1 := (va_up c i (some (.inr (6, [.int 1, .int x, .int y, .int ma, .int de, .int (qdI de), .int (f 5), .int (f 6), .int (f 7), .int (f 8), .int (f 9), .int (f 10)]))))) h (mu_uu _ _ _ _) (fun h => ?_)
  refine lv_aload_n hx hb dX6_hangAnew_37 rfl (lv_at hl 0 rfl) ?_
  refine lv_iconst (v := 0) hx hb dX6_hangAnew_38 (by decide) ?_
  refine r_put F h (C := RX6) (T := TX6) (N := 12) (fs' := [.int 1, .int x, .int y, .int ma, .int de, .int (qdI de), .int 0, .int (f 6), .int (f 7), .int (f 8), .int (f 9), .int (f 10)]) (hjc hi_X6) tyX6 tyX6_ok nmX6 rfl (mu_eq _ _ _) 6 (by decide) (List.mem_cons_of_mem _ wd_60) rfl (rfl) (rfl) (Nat.le_of_ble_eq_true rfl) rfl dX6_hangAnew_39 (fun H locs h => ?_)
  refine r_mem (c1 := (va_up c i (some (.inr (6, [.int 1, .int x, .int y, .int ma, .int de, .int (qdI de), .int 0, .int (f 6), .int (f 7), .int (f 8), .int (f 9), .int (f 10)]))))) h (mu_uu _ _ _ _) (fun h => ?_)
  refine lv_aload_n hx hb dX6_hangAnew_42 rfl (lv_at hl 0 rfl) ?_
  refine lv_iconst (v := 0) hx hb dX6_hangAnew_43 (by decide) ?_
  refine r_put F h (C := RX6) (T := TX6) (N := 12) (fs' := [.int 1, .int x, .int y, .int ma, .int de, .int (qdI de), .int 0, .int 0, .int (f 7), .int (f 8), .int (f 9), .int (f 10)]) (hjc hi_X6) tyX6 tyX6_ok nmX6 rfl (mu_eq _ _ _) 7 (by decide) (List.mem_cons_of_mem _ wd_63) rfl (rfl) (rfl) (Nat.le_of_ble_eq_true rfl) rfl dX6_hangAnew_44 (fun H locs h => ?_)
  refine r_mem (c1 := (va_up c i (some (.inr (6, [.int 1, .int x, .int y, .int ma, .int de, .int (qdI de), .int 0, .int 0, .int (f 7), .int (f 8), .int (f 9), .int (f 10)]))))) h (mu_uu _ _ _ _) (fun h => ?_)
  refine lv_aload_n hx hb dX6_hangAnew_47 rfl (lv_at hl 0 rfl) ?_
  refine lv_iconst (v := 0) hx hb dX6_hangAnew_48 (by decide) ?_
  refine r_put F h (C := RX6) (T := TX6) (N := 12) (fs' := [.int 1, .int x, .int y, .int ma, .int de, .int (qdI de), .int 0, .int 0, .int 0, .int (f 8), .int (f 9), .int (f 10)]) (hjc hi_X6) tyX6 tyX6_ok nmX6 rfl (mu_eq _ _ _) 8 (by decide) (List.mem_cons_of_mem _ wd_66) rfl (rfl) (rfl) (Nat.le_of_ble_eq_true rfl) rfl dX6_hangAnew_49 (fun H locs h => ?_)
  refine r_mem (c1 := (va_up c i (some (.inr (6, [.int 1, .int x, .int y, .int ma, .int de, .int (qdI de), .int 0, .int 0, .int 0, .int (f 8), .int (f 9), .int (f 10)]))))) h (mu_uu _ _ _ _) (fun h => ?_)
  refine lv_aload_n hx hb dX6_hangAnew_52 rfl (lv_at hl 0 rfl) ?_
  refine lv_iconst (v := 0) hx hb dX6_hangAnew_53 (by decide) ?_
  refine r_put F h (C := RX6) (T := TX6) (N := 12) (fs' := [.int 1, .int x, .int y, .int ma, .int de, .int (qdI de), .int 0, .int 0, .int 0, .int 0, .int (f 9), .int (f 10)]) (hjc hi_X6) tyX6 tyX6_ok nmX6 rfl (mu_eq _ _ _) 9 (by decide) (List.mem_cons_of_mem _ wd_68) rfl (rfl) (rfl) (Nat.le_of_ble_eq_true rfl) rfl dX6_hangAnew_54 (fun H locs h => ?_)
  refine r_mem (c1 := (va_up c i (some (.inr (6, [.int 1, .int x, .int y, .int ma, .int de, .int (qdI de), .int 0, .int 0, .int 0, .int 0, .int (f 9), .int (f 10)]))))) h (mu_uu _ _ _ _) (fun h => ?_)
  refine lv_aload_n hx hb dX6_hangAnew_57 rfl (lv_at hl 0 rfl) ?_
  refine lv_iconst (v := 0) hx hb dX6_hangAnew_58 (by decide) ?_
  refine u_vE (ru_V (As := [.int 0]) (rest := []) F h (mu_eq _ _ _) rfl (k_X6_startSway l g n (va_up c i (some (.inr (6, [.int 1, .int x, .int y, .int ma, .int de, .int (qdI de), .int 0, .int 0, .int 0, .int 0, .int (f 9), .int (f 10)])))) i (l11 1 x y ma de 0 0 0 0 (f 9) (f 10)) (mu_eq _ _ _) 0) (gV hjl wd_314 wd_315 wd_316 wd_18 wd_317) rfl 1 (by decide +kernel) rfl ⟨Nat.le_of_ble_eq_true rfl, Nat.le_of_ble_eq_true rfl⟩ rfl hl.1 (Nat.le_of_ble_eq_true rfl) ⟨Nat.zero_le _, Nat.zero_le _⟩ dX6_hangAnew_59) h (fun H locs h => ?_)
  refine r_mem (c1 := (va_up c i (some (.inr (6, [.int 1, .int x, .int y, .int ma, .int de, .int (qdI de), .int 0, .int 0, .int 0, .int 0, .int 0, .int 0]))))) h (mu_uu _ _ _ _) (fun h => ?_)
  exact ret_v F h (Nat.zero_le _) (Nat.zero_le _) dX6_hangAnew_62 (⟨rfl, rfl⟩)
set_option maxHeartbeats 4000000 in
set_option maxRecDepth 100000 in
theorem k_X0_become (l : Launch) (g : Gf) (n : Nat) (c : Mp) (i : Nat) (f : Nat → Int32) (hi : c i = cuC f) (x y ma de : Int32) : Ct l g yX0_become wsX0_become 0 0 0 0 [.ref (gz g + i), .int x, .int y, .int ma, .int de] n c (Qv g (fun n' c' => n' = n ∧ c' = va_up c i (cuC (l4 x y ma de)))) := by
  refine ent (by decide) rfl (Nat.le_of_ble_eq_true rfl) ?_
  intro p e s m args below meth c0 F h ls hl
  have hx := F.1
  have hb := F.2.1
  have hl : lv_has ls 5 [(0, .ref (gz g + i)), (1, .int x), (2, .int y), (3, .int ma), (4, .int de)] := hl
  refine lv_aload_n hx hb dX0_become_0 rfl (lv_at hl 0 rfl) ?_
  refine lv_iload_n hx hb dX0_become_1 rfl (lv_at hl 1 rfl) ?_
  refine r_put F h (C := RX0) (T := TX0) (N := 4) (fs' := [.int x, .int (f 1), .int (f 2), .int (f 3)]) (hjc hi_X0) tyX0 tyX0_ok nmX0 rfl hi 0 (by decide) (List.mem_cons_of_mem _ wd_104) rfl (rfl) (rfl) (Nat.le_of_ble_eq_true rfl) rfl dX0_become_2 (fun H locs h => ?_)
  refine lv_aload_n hx hb dX0_become_5 rfl (lv_at hl 0 rfl) ?_
  refine lv_iload_n hx hb dX0_become_6 rfl (lv_at hl 2 rfl) ?_
  refine r_put F h (C := RX0) (T := TX0) (N := 4) (fs' := [.int x, .int y, .int (f 2), .int (f 3)]) (hjc hi_X0) tyX0 tyX0_ok nmX0 rfl (mu_eq _ _ _) 1 (by decide) (List.mem_cons_of_mem _ wd_105) rfl (rfl) (rfl) (Nat.le_of_ble_eq_true rfl) rfl dX0_become_7 (fun H locs h => ?_)
  refine r_mem (c1 := (va_up c i (some (.inr (0, [.int x, .int y, .int (f 2), .int (f 3)]))))) h (mu_uu _ _ _ _) (fun h => ?_)
  refine lv_aload_n hx hb dX0_become_10 rfl (lv_at hl 0 rfl) ?_
  refine lv_iload_n hx hb dX0_become_11 rfl (lv_at hl 3 rfl) ?_
  refine r_put F h (C := RX0) (T := TX0) (N := 4) (fs' := [.int x, .int y, .int ma, .int (f 3)]) (hjc hi_X0) tyX0 tyX0_ok nmX0 rfl (mu_eq _ _ _) 2 (by decide) (List.mem_cons_of_mem _ wd_106) rfl (rfl) (rfl) (Nat.le_of_ble_eq_true rfl) rfl dX0_become_12 (fun H locs h => ?_)
  refine r_mem (c1 := (va_up c i (some (.inr (0, [.int x, .int y, .int ma, .int (f 3)]))))) h (mu_uu _ _ _ _) (fun h => ?_)
  refine lv_aload_n hx hb dX0_become_15 rfl (lv_at hl 0 rfl) ?_
  refine lv_iload hx hb dX0_become_16 (lv_at hl 4 rfl) ?_
  refine r_put F h (C := RX0) (T := TX0) (N := 4) (fs' := [.int x, .int y, .int ma, .int de]) (hjc hi_X0) tyX0 tyX0_ok nmX0 rfl (mu_eq _ _ _) 3 (by decide) (List.mem_cons_of_mem _ wd_107) rfl (rfl) (rfl) (Nat.le_of_ble_eq_true rfl) rfl dX0_become_18 (fun H locs h => ?_)
  refine r_mem (c1 := (va_up c i (some (.inr (0, [.int x, .int y, .int ma, .int de]))))) h (mu_uu _ _ _ _) (fun h => ?_)
  exact ret_v F h (Nat.zero_le _) (Nat.zero_le _) dX0_become_21 (⟨rfl, rfl⟩)
set_option maxHeartbeats 4000000 in
set_option maxRecDepth 100000 in
theorem k_X6_tradePlaces (l : Launch) (g : Gf) (n : Nat) (c : Mp) (i : Nat) (f : Nat → Int32) (hi : c i = wiC f) (j : Nat) (f2 : Nat → Int32) (hj : c j = wiC f2) (hij : i ≠ j) : Ct l g yX6_tradePlaces wsX6_tradePlaces 0 0 0 0 [.ref (gz g + i), .ref (gz g + j)] n c (Qv g (fun n' c' => n' = n ∧ c' = va_up (va_up c i (wiC (upd (upd f 1 (f2 1)) 2 (f2 2)))) j (wiC (upd (upd f2 1 (f 1)) 2 (f 2))))) := by
  refine ent (by decide) rfl (Nat.le_of_ble_eq_true rfl) ?_
  intro p e s m args below meth c0 F h ls hl
  have hx := F.1
  have hb := F.2.1
  have hl : lv_has ls 4 [(0, .ref (gz g + i)), (1, .ref (gz g + j))] := hl
  refine lv_aload_n hx hb dX6_tradePlaces_0 rfl (lv_at hl 0 rfl) ?_
  refine r_get F h (C := RX6) (T := TX6) (N := 12) (hjc hi_X6) rfl hi 1 (by decide) (List.mem_cons_of_mem _ wd_49) rfl dX6_tradePlaces_1 ?_
  refine lv_istore_n (lv' := [(2, .int (f 1)), (0, .ref (gz g + i)), (1, .ref (gz g + j))]) hx hb dX6_tradePlaces_4 rfl hl (by decide) rfl (fun ls hl => ?_)
  refine lv_aload_n hx hb dX6_tradePlaces_5 rfl (lv_at hl 1 rfl) ?_
  refine r_get F h (C := RX6) (T := TX6) (N := 12) (hjc hi_X6) rfl hi 2 (by decide) (List.mem_cons_of_mem _ wd_52) rfl dX6_tradePlaces_6 ?_
  refine lv_istore_n (lv' := [(3, .int (f 2)), (2, .int (f 1)), (0, .ref (gz g + i)), (1, .ref (gz g + j))]) hx hb dX6_tradePlaces_9 rfl hl (by decide) rfl (fun ls hl => ?_)
  refine lv_aload_n hx hb dX6_tradePlaces_10 rfl (lv_at hl 2 rfl) ?_
  refine lv_aload_n hx hb dX6_tradePlaces_11 rfl (lv_at hl 3 rfl) ?_
  refine r_get F h (C := RX6) (T := TX6) (N := 12) (hjc hi_X6) rfl hj 1 (by decide) (List.mem_cons_of_mem _ wd_49) rfl dX6_tradePlaces_12 ?_
  refine r_put F h (C := RX6) (T := TX6) (N := 12) (fs' := [.int (f 0), .int (f2 1), .int (f 2), .int (f 3), .int (f 4), .int (qdI (f 4)), .int (f 5), .int (f 6), .int (f 7), .int (f 8), .int (f 9), .int (f 10)]) (hjc hi_X6) tyX6 tyX6_ok nmX6 rfl hi 1 (by decide) (List.mem_cons_of_mem _ wd_49) rfl (rfl) (rfl) (Nat.le_of_ble_eq_true rfl) rfl dX6_tradePlaces_15 (fun H locs h => ?_)
  refine lv_aload_n hx hb dX6_tradePlaces_18 rfl (lv_at hl 2 rfl) ?_
  refine lv_aload_n hx hb dX6_tradePlaces_19 rfl (lv_at hl 3 rfl) ?_
  refine r_get F h (C := RX6) (T := TX6) (N := 12) (hjc hi_X6) rfl ((mu_ne (hij.symm) _).trans hj) 2 (by decide) (List.mem_cons_of_mem _ wd_52) rfl dX6_tradePlaces_20 ?_
  refine r_put F h (C := RX6) (T := TX6) (N := 12) (fs' := [.int (f 0), .int (f2 1), .int (f2 2), .int (f 3), .int (f 4), .int (qdI (f 4)), .int (f 5), .int (f 6), .int (f 7), .int (f 8), .int (f 9), .int (f 10)]) (hjc hi_X6) tyX6 tyX6_ok nmX6 rfl (mu_eq _ _ _) 2 (by decide) (List.mem_cons_of_mem _ wd_52) rfl (rfl) (rfl) (Nat.le_of_ble_eq_true rfl) rfl dX6_tradePlaces_23 (fun H locs h => ?_)
  refine r_mem (c1 := (va_up c i (some (.inr (6, [.int (f 0), .int (f2 1), .int (f2 2), .int (f 3), .int (f 4), .int (qdI (f 4)), .int (f 5), .int (f 6), .int (f 7), .int (f 8), .int (f 9), .int (f 10)]))))) h (mu_uu _ _ _ _) (fun h => ?_)
  refine lv_aload_n hx hb dX6_tradePlaces_26 rfl (lv_at hl 3 rfl) ?_
  refine lv_iload_n hx hb dX6_tradePlaces_27 rfl (lv_at hl 1 rfl) ?_
  refine r_put F h (C := RX6) (T := TX6) (N := 12) (fs' := [.int (f2 0), .int (f 1), .int (f2 2), .int (f2 3), .int (f2 4), .int (qdI (f2 4)), .int (f2 5), .int (f2 6), .int (f2 7), .int (f2 8), .int (f2 9), .int (f2 10)]) (hjc hi_X6) tyX6 tyX6_ok nmX6 rfl ((mu_ne (hij.symm) _).trans hj) 1 (by decide) (List.mem_cons_of_mem _ wd_49) rfl (rfl) (rfl) (Nat.le_of_ble_eq_true rfl) rfl dX6_tradePlaces_28 (fun H locs h => ?_)
  refine lv_aload_n hx hb dX6_tradePlaces_31 rfl (lv_at hl 3 rfl) ?_
  refine lv_iload_n hx hb dX6_tradePlaces_32 rfl (lv_at hl 0 rfl) ?_
  refine r_put F h (C := RX6) (T := TX6) (N := 12) (fs' := [.int (f2 0), .int (f 1), .int (f 2), .int (f2 3), .int (f2 4), .int (qdI (f2 4)), .int (f2 5), .int (f2 6), .int (f2 7), .int (f2 8), .int (f2 9), .int (f2 10)]) (hjc hi_X6) tyX6 tyX6_ok nmX6 rfl (mu_eq _ _ _) 2 (by decide) (List.mem_cons_of_mem _ wd_52) rfl (rfl) (rfl) (Nat.le_of_ble_eq_true rfl) rfl dX6_tradePlaces_33 (fun H locs h => ?_)
  refine r_mem (c1 := (va_up (va_up c i (some (.inr (6, [.int (f 0), .int (f2 1), .int (f2 2), .int (f 3), .int (f 4), .int (qdI (f 4)), .int (f 5), .int (f 6), .int (f 7), .int (f 8), .int (f 9), .int (f 10)])))) j (some (.inr (6, [.int (f2 0), .int (f 1), .int (f 2), .int (f2 3), .int (f2 4), .int (qdI (f2 4)), .int (f2 5), .int (f2 6), .int (f2 7), .int (f2 8), .int (f2 9), .int (f2 10)]))))) h (mu_uu _ _ _ _) (fun h => ?_)
  exact ret_v F h (Nat.zero_le _) (Nat.zero_le _) dX6_tradePlaces_36 (⟨rfl, rfl⟩)
/-- a wire behind a tick -/
def tkW (f : Nat → Int32) : Nat → Int32 := if f 10 + 1 < 4 * qdI (f 4) then upd f 10 (f 10 + 1) else upd (upd f 10 0) 9 (caC (f 7) (f 9))
set_option maxHeartbeats 4000000 in
set_option maxRecDepth 100000 in
theorem k_X6_swayOneTick (l : Launch) (g : Gf) (n : Nat) (c : Mp) (i : Nat) (f : Nat → Int32) (hi : c i = wiC f) : Ct l g yX6_swayOneTick wsX6_swayOneTick 1 21 0 0 [.ref (gz g + i)] n c (Qv g (fun n' c' => n' = n ∧ c' = va_up c i (wiC (tkW f)))) := by
  refine ent (by decide) rfl (Nat.le_of_ble_eq_true rfl) ?_
  intro p e s m args below meth c0 F h ls hl
  have hx := F.1
  have hb := F.2.1
  have hl : lv_has ls 1 [(0, .ref (gz g + i))] := hl
  refine lv_aload_n hx hb dX6_swayOneTick_0 rfl (lv_at hl 0 rfl) ?_
  refine lv_dup hx hb dX6_swayOneTick_1 rfl ?_
  refine r_get F h (C := RX6) (T := TX6) (N := 12) (hjc hi_X6) rfl hi 11 (by decide) (List.mem_cons_of_mem _ wd_71) rfl dX6_swayOneTick_2 ?_
  refine lv_iconst (v := 1) hx hb dX6_swayOneTick_5 (by decide) ?_
  refine lv_iadd hx hb dX6_swayOneTick_6 ?_
  refine r_put F h (C := RX6) (T := TX6) (N := 12) (fs' := [.int (f 0), .int (f 1), .int (f 2), .int (f 3), .int (f 4), .int (qdI (f 4)), .int (f 5), .int (f 6), .int (f 7), .int (f 8), .int (f 9), .int (f 10 + 1)]) (hjc hi_X6) tyX6 tyX6_ok nmX6 rfl hi 11 (by decide) (List.mem_cons_of_mem _ wd_71) rfl (rfl) (rfl) (Nat.le_of_ble_eq_true rfl) rfl dX6_swayOneTick_7 (fun H locs h => ?_)
  refine lv_aload_n hx hb dX6_swayOneTick_10 rfl (lv_at hl 0 rfl) ?_
  refine r_get F h (C := RX6) (T := TX6) (N := 12) (hjc hi_X6) rfl (mu_eq _ _ _) 11 (by decide) (List.mem_cons_of_mem _ wd_71) rfl dX6_swayOneTick_11 ?_
  refine lv_aload_n hx hb dX6_swayOneTick_14 rfl (lv_at hl 0 rfl) ?_
  refine u_iE (v := (4 * qdI (f 4))) (ru_V (As := []) (rest := [.int (f 10 + 1)]) F h (mu_eq _ _ _) rfl (k_X6_periodTicks l g n (va_up c i (some (.inr (6, [.int (f 0), .int (f 1), .int (f 2), .int (f 3), .int (f 4), .int (qdI (f 4)), .int (f 5), .int (f 6), .int (f 7), .int (f 8), .int (f 9), .int (f 10 + 1)])))) i (l11 (f 0) (f 1) (f 2) (f 3) (f 4) (f 5) (f 6) (f 7) (f 8) (f 9) (f 10 + 1)) (mu_eq _ _ _) ) (gV hjl wd_398 wd_356 wd_357 wd_18 wd_358) rfl 0 (by decide +kernel) rfl ⟨Nat.le_of_ble_eq_true rfl, Nat.le_of_ble_eq_true rfl⟩ rfl hl.1 (Nat.le_of_ble_eq_true rfl) ⟨Nat.zero_le _, Nat.zero_le _⟩ dX6_swayOneTick_15) h (fun H locs h => ?_)
  refine lv_icmp_lt (tgt := 38) hx hb dX6_swayOneTick_18 (by decide) (fun b_18 => ?_) (fun b_18 => ?_)
  · skip
    exact ret_v F h (Nat.zero_le _) (Nat.zero_le _) dX6_swayOneTick_38 (⟨rfl, by rw [tkW, if_pos (show f 10 + 1 < 4 * qdI (f 4) from b_18)]; rfl⟩)
  refine lv_aload_n hx hb dX6_swayOneTick_21 rfl (lv_at hl 0 rfl) ?_
  refine lv_iconst (v := 0) hx hb dX6_swayOneTick_22 (by decide) ?_
  refine r_put F h (C := RX6) (T := TX6) (N := 12) (fs' := [.int (f 0), .int (f 1), .int (f 2), .int (f 3), .int (f 4), .int (qdI (f 4)), .int (f 5), .int (f 6), .int (f 7), .int (f 8), .int (f 9), .int 0]) (hjc hi_X6) tyX6 tyX6_ok nmX6 rfl (mu_eq _ _ _) 11 (by decide) (List.mem_cons_of_mem _ wd_71) rfl (rfl) (rfl) (Nat.le_of_ble_eq_true rfl) rfl dX6_swayOneTick_23 (fun H locs h => ?_)
  refine r_mem (c1 := (va_up c i (some (.inr (6, [.int (f 0), .int (f 1), .int (f 2), .int (f 3), .int (f 4), .int (qdI (f 4)), .int (f 5), .int (f 6), .int (f 7), .int (f 8), .int (f 9), .int 0]))))) h (mu_uu _ _ _ _) (fun h => ?_)
  refine lv_aload_n hx hb dX6_swayOneTick_26 rfl (lv_at hl 0 rfl) ?_
  refine lv_aload_n hx hb dX6_swayOneTick_27 rfl (lv_at hl 0 rfl) ?_
  refine lv_aload_n hx hb dX6_swayOneTick_28 rfl (lv_at hl 0 rfl) ?_
  refine r_get F h (C := RX6) (T := TX6) (N := 12) (hjc hi_X6) rfl (mu_eq _ _ _) 10 (by decide) (List.mem_cons_of_mem _ wd_70) rfl dX6_swayOneTick_29 ?_
  refine u_iE (v := (caC (f 7) (f 9))) (ru_V (As := [.int (f 9)]) (rest := [.ref (gz g + i)]) F h (mu_eq _ _ _) rfl (k_X6_calmed l g n (va_up c i (some (.inr (6, [.int (f 0), .int (f 1), .int (f 2), .int (f 3), .int (f 4), .int (qdI (f 4)), .int (f 5), .int (f 6), .int (f 7), .int (f 8), .int (f 9), .int 0])))) i (l11 (f 0) (f 1) (f 2) (f 3) (f 4) (f 5) (f 6) (f 7) (f 8) (f 9) 0) (mu_eq _ _ _) (f 9)) (gV hjl wd_498 wd_499 wd_500 wd_18 wd_501) rfl 1 (by decide +kernel) rfl ⟨Nat.le_of_ble_eq_true rfl, Nat.le_of_ble_eq_true rfl⟩ rfl hl.1 (Nat.le_of_ble_eq_true rfl) ⟨Nat.zero_le _, Nat.zero_le _⟩ dX6_swayOneTick_32) h (fun H locs h => ?_)
  refine r_put F h (C := RX6) (T := TX6) (N := 12) (fs' := [.int (f 0), .int (f 1), .int (f 2), .int (f 3), .int (f 4), .int (qdI (f 4)), .int (f 5), .int (f 6), .int (f 7), .int (f 8), .int (caC (f 7) (f 9)), .int 0]) (hjc hi_X6) tyX6 tyX6_ok nmX6 rfl (mu_eq _ _ _) 10 (by decide) (List.mem_cons_of_mem _ wd_70) rfl (rfl) (rfl) (Nat.le_of_ble_eq_true rfl) rfl dX6_swayOneTick_35 (fun H locs h => ?_)
  refine r_mem (c1 := (va_up c i (some (.inr (6, [.int (f 0), .int (f 1), .int (f 2), .int (f 3), .int (f 4), .int (qdI (f 4)), .int (f 5), .int (f 6), .int (f 7), .int (f 8), .int (caC (f 7) (f 9)), .int 0]))))) h (mu_uu _ _ _ _) (fun h => ?_)
  exact ret_v F h (Nat.zero_le _) (Nat.zero_le _) dX6_swayOneTick_38 (⟨rfl, by rw [tkW, if_neg (show ¬ f 10 + 1 < 4 * qdI (f 4) from b_18)]; rfl⟩)
def swF (f : Nat → Int32) : Int32 := if qdI (f 4) ≤ f 10 then (if 3 * qdI (f 4) ≤ f 10 then rz (f 9 * (f 10 - 4 * qdI (f 4))) (qdI (f 4)) else rz (f 9 * (2 * qdI (f 4) - f 10)) (qdI (f 4))) else rz (f 9 * f 10) (qdI (f 4))
set_option maxHeartbeats 4000000 in
set_option maxRecDepth 100000 in
theorem k_X6_swing (l : Launch) (g : Gf) (n : Nat) (c : Mp) (i : Nat) (f : Nat → Int32) (hi : c i = wiC f) : Ct l g yX6_swing wsX6_swing 1 21 0 0 [.ref (gz g + i)] n c (Qi g (fun xr n' c' => xr = swF f ∧ n' = n ∧ c' = c)) := by
  refine ent (by decide) rfl (Nat.le_of_ble_eq_true rfl) ?_
  intro p e s m args below meth c0 F h ls hl
  have hx := F.1
  have hb := F.2.1
  have hl : lv_has ls 1 [(0, .ref (gz g + i))] := hl
  refine lv_aload_n hx hb dX6_swing_0 rfl (lv_at hl 0 rfl) ?_
  refine r_get F h (C := RX6) (T := TX6) (N := 12) (hjc hi_X6) rfl hi 11 (by decide) (List.mem_cons_of_mem _ wd_71) rfl dX6_swing_1 ?_
  refine lv_aload_n hx hb dX6_swing_4 rfl (lv_at hl 0 rfl) ?_
  refine r_get F h (C := RX6) (T := TX6) (N := 12) (hjc hi_X6) rfl hi 5 (by decide) (List.mem_cons_of_mem _ wd_59) rfl dX6_swing_5 ?_
  refine lv_icmp_ge (tgt := 28) hx hb dX6_swing_8 (by decide) (fun b_8 => ?_) (fun b_8 => ?_)
  · skip
    refine lv_aload_n hx hb dX6_swing_28 rfl (lv_at hl 0 rfl) ?_
    refine r_get F h (C := RX6) (T := TX6) (N := 12) (hjc hi_X6) rfl hi 11 (by decide) (List.mem_cons_of_mem _ wd_71) rfl dX6_swing_29 ?_
    refine lv_iconst (v := 3) hx hb dX6_swing_32 (by decide) ?_
    refine lv_aload_n hx hb dX6_swing_33 rfl (lv_at hl 0 rfl) ?_
    refine r_get F h (C := RX6) (T := TX6) (N := 12) (hjc hi_X6) rfl hi 5 (by decide) (List.mem_cons_of_mem _ wd_59) rfl dX6_swing_34 ?_
    refine lv_imul hx hb dX6_swing_37 ?_
    refine lv_icmp_ge (tgt := 65) hx hb dX6_swing_38 (by decide) (fun b_38 => ?_) (fun b_38 => ?_)
    · skip
      refine lv_aload_n hx hb dX6_swing_65 rfl (lv_at hl 0 rfl) ?_
      refine r_get F h (C := RX6) (T := TX6) (N := 12) (hjc hi_X6) rfl hi 10 (by decide) (List.mem_cons_of_mem _ wd_70) rfl dX6_swing_66 ?_
      refine lv_aload_n hx hb dX6_swing_69 rfl (lv_at hl 0 rfl) ?_
      refine r_get F h (C := RX6) (T := TX6) (N := 12) (hjc hi_X6) rfl hi 11 (by decide) (List.mem_cons_of_mem _ wd_71) rfl dX6_swing_70 ?_
      refine lv_iconst (v := 4) hx hb dX6_swing_73 (by decide) ?_
      refine lv_aload_n hx hb dX6_swing_74 rfl (lv_at hl 0 rfl) ?_
      refine r_get F h (C := RX6) (T := TX6) (N := 12) (hjc hi_X6) rfl hi 5 (by decide) (List.mem_cons_of_mem _ wd_59) rfl dX6_swing_75 ?_
      refine lv_imul hx hb dX6_swing_78 ?_
      refine lv_isub hx hb dX6_swing_79 ?_
      refine lv_imul hx hb dX6_swing_80 ?_
      refine lv_aload_n hx hb dX6_swing_81 rfl (lv_at hl 0 rfl) ?_
      refine r_get F h (C := RX6) (T := TX6) (N := 12) (hjc hi_X6) rfl hi 5 (by decide) (List.mem_cons_of_mem _ wd_59) rfl dX6_swing_82 ?_
      refine u_iE (v := (rz (f 9 * (f 10 - (4 * (qdI (f 4))))) (qdI (f 4)))) (ru_SN (As := [.int (f 9 * (f 10 - (4 * (qdI (f 4))))), .int (qdI (f 4))]) (rest := []) F h (k_X7_roundedToZero l g n c (f 9 * (f 10 - (4 * (qdI (f 4))))) (qdI (f 4))) (List.mem_of_getElem? (i := 4) rfl) (gG hjl wd_489) rfl (List.mem_cons_of_mem _ wd_16) (List.mem_cons_of_mem _ wd_488) 2 (by decide +kernel) rfl ⟨Nat.le_of_ble_eq_true rfl, Nat.le_of_ble_eq_true rfl⟩ rfl hl.1 (Nat.le_of_ble_eq_true rfl) ⟨Nat.zero_le _, Nat.zero_le _⟩ dX6_swing_85) h (fun H locs h => ?_)
      exact ret_i F h (Nat.zero_le _) (Nat.zero_le _) dX6_swing_88 (⟨by simp only [swF, if_pos, if_neg, not_false_eq_true, *], rfl, rfl⟩)
    refine lv_aload_n hx hb dX6_swing_41 rfl (lv_at hl 0 rfl) ?_
    refine r_get F h (C := RX6) (T := TX6) (N := 12) (hjc hi_X6) rfl hi 10 (by decide) (List.mem_cons_of_mem _ wd_70) rfl dX6_swing_42 ?_
    refine lv_iconst (v := 2) hx hb dX6_swing_45 (by decide) ?_
    refine lv_aload_n hx hb dX6_swing_46 rfl (lv_at hl 0 rfl) ?_
    refine r_get F h (C := RX6) (T := TX6) (N := 12) (hjc hi_X6) rfl hi 5 (by decide) (List.mem_cons_of_mem _ wd_59) rfl dX6_swing_47 ?_
    refine lv_imul hx hb dX6_swing_50 ?_
    refine lv_aload_n hx hb dX6_swing_51 rfl (lv_at hl 0 rfl) ?_
    refine r_get F h (C := RX6) (T := TX6) (N := 12) (hjc hi_X6) rfl hi 11 (by decide) (List.mem_cons_of_mem _ wd_71) rfl dX6_swing_52 ?_
    refine lv_isub hx hb dX6_swing_55 ?_
    refine lv_imul hx hb dX6_swing_56 ?_
    refine lv_aload_n hx hb dX6_swing_57 rfl (lv_at hl 0 rfl) ?_
    refine r_get F h (C := RX6) (T := TX6) (N := 12) (hjc hi_X6) rfl hi 5 (by decide) (List.mem_cons_of_mem _ wd_59) rfl dX6_swing_58 ?_
    refine u_iE (v := (rz (f 9 * ((2 * (qdI (f 4))) - f 10)) (qdI (f 4)))) (ru_SN (As := [.int (f 9 * ((2 * (qdI (f 4))) - f 10)), .int (qdI (f 4))]) (rest := []) F h (k_X7_roundedToZero l g n c (f 9 * ((2 * (qdI (f 4))) - f 10)) (qdI (f 4))) (List.mem_of_getElem? (i := 4) rfl) (gG hjl wd_489) rfl (List.mem_cons_of_mem _ wd_16) (List.mem_cons_of_mem _ wd_488) 2 (by decide +kernel) rfl ⟨Nat.le_of_ble_eq_true rfl, Nat.le_of_ble_eq_true rfl⟩ rfl hl.1 (Nat.le_of_ble_eq_true rfl) ⟨Nat.zero_le _, Nat.zero_le _⟩ dX6_swing_61) h (fun H locs h => ?_)
    exact ret_i F h (Nat.zero_le _) (Nat.zero_le _) dX6_swing_64 (⟨by simp only [swF, if_pos, if_neg, not_false_eq_true, *], rfl, rfl⟩)
  refine lv_aload_n hx hb dX6_swing_11 rfl (lv_at hl 0 rfl) ?_
  refine r_get F h (C := RX6) (T := TX6) (N := 12) (hjc hi_X6) rfl hi 10 (by decide) (List.mem_cons_of_mem _ wd_70) rfl dX6_swing_12 ?_
  refine lv_aload_n hx hb dX6_swing_15 rfl (lv_at hl 0 rfl) ?_
  refine r_get F h (C := RX6) (T := TX6) (N := 12) (hjc hi_X6) rfl hi 11 (by decide) (List.mem_cons_of_mem _ wd_71) rfl dX6_swing_16 ?_
  refine lv_imul hx hb dX6_swing_19 ?_
  refine lv_aload_n hx hb dX6_swing_20 rfl (lv_at hl 0 rfl) ?_
  refine r_get F h (C := RX6) (T := TX6) (N := 12) (hjc hi_X6) rfl hi 5 (by decide) (List.mem_cons_of_mem _ wd_59) rfl dX6_swing_21 ?_
  refine u_iE (v := (rz (f 9 * f 10) (qdI (f 4)))) (ru_SN (As := [.int (f 9 * f 10), .int (qdI (f 4))]) (rest := []) F h (k_X7_roundedToZero l g n c (f 9 * f 10) (qdI (f 4))) (List.mem_of_getElem? (i := 4) rfl) (gG hjl wd_489) rfl (List.mem_cons_of_mem _ wd_16) (List.mem_cons_of_mem _ wd_488) 2 (by decide +kernel) rfl ⟨Nat.le_of_ble_eq_true rfl, Nat.le_of_ble_eq_true rfl⟩ rfl hl.1 (Nat.le_of_ble_eq_true rfl) ⟨Nat.zero_le _, Nat.zero_le _⟩ dX6_swing_24) h (fun H locs h => ?_)
  exact ret_i F h (Nat.zero_le _) (Nat.zero_le _) dX6_swing_27 (⟨by simp only [swF, if_pos, if_neg, not_false_eq_true, *], rfl, rfl⟩)
def ptC (d ax : Int32) : Int32 := if ax = 0 then dXs d.toNatClampNeg else dYs d.toNatClampNeg
def syF (f : Nat → Int32) (z ax : Int32) : Int32 := if inI (f 8) 0 7 = 0 then 0 else ptC (f 8) ax * rz (swF f * z) (f 4)
set_option maxHeartbeats 4000000 in
set_option maxRecDepth 100000 in
theorem k_X6_swayAt (l : Launch) (g : Gf) (n : Nat) (c : Mp) (i : Nat) (f : Nat → Int32) (hi : c i = wiC f) (zz ax : Int32) : Ct l g yX6_swayAt wsX6_swayAt 2 41 0 0 [.ref (gz g + i), .int zz, .int ax] n c (Qi g (fun xr n' c' => xr = syF f zz ax ∧ n' = n ∧ c' = c)) := by
  refine ent (by decide) rfl (Nat.le_of_ble_eq_true rfl) ?_
  intro p e s m args below meth c0 F h ls hl
  have hx := F.1
  have hb := F.2.1
  have hl : lv_has ls 4 [(0, .ref (gz g + i)), (1, .int zz), (2, .int ax)] := hl
  refine lv_aload_n hx hb dX6_swayAt_0 rfl (lv_at hl 0 rfl) ?_
  refine r_get F h (C := RX6) (T := TX6) (N := 12) (hjc hi_X6) rfl hi 9 (by decide) (List.mem_cons_of_mem _ wd_68) rfl dX6_swayAt_1 ?_
  refine lv_iconst (v := 0) hx hb dX6_swayAt_4 (by decide) ?_
  refine lv_bipush (v := 7) hx hb dX6_swayAt_5 (by decide) ?_
  refine u_iE (v := (inI (f 8) 0 7)) (ru_SN (As := [.int (f 8), .int 0, .int 7]) (rest := []) F h (k_X7_isWithin l g n c (f 8) 0 7) (List.mem_of_getElem? (i := 5) rfl) (gG hjl wd_279) rfl (List.mem_cons_of_mem _ wd_16) (List.mem_cons_of_mem _ wd_278) 3 (by decide +kernel) rfl ⟨Nat.le_of_ble_eq_true rfl, Nat.le_of_ble_eq_true rfl⟩ rfl hl.1 (Nat.le_of_ble_eq_true rfl) ⟨Nat.zero_le _, Nat.zero_le _⟩ dX6_swayAt_7) h (fun H locs h => ?_)
  refine lv_if_ne (tgt := 15) hx hb dX6_swayAt_10 (by decide) (fun b_10 => ?_) (fun b_10 => ?_)
  · skip
    refine lv_iload_n hx hb dX6_swayAt_15 rfl (lv_at hl 2 rfl) ?_
    refine lv_if_ne (tgt := 30) hx hb dX6_swayAt_16 (by decide) (fun b_16 => ?_) (fun b_16 => ?_)
    · skip
      refine va_getsN hx hb (F.2.2.2.2.2.2.2.2.dY.1) h.2 F.2.2.2.1 (va_Nw.use rfl (F.2.2.2.2.2.2.2.2.fl (List.mem_of_getElem? (i := 1) rfl))) (fun _ h9 => h9) dX6_swayAt_30 ?_
      refine lv_aload_n hx hb dX6_swayAt_33 rfl (lv_at hl 0 rfl) ?_
      refine r_get F h (C := RX6) (T := TX6) (N := 12) (hjc hi_X6) rfl hi 9 (by decide) (List.mem_cons_of_mem _ wd_68) rfl dX6_swayAt_34 ?_
      refine r_tti F h (F.2.2.2.2.2.2.2.2.dY.2) (by obtain ⟨k, hk, e⟩ := inI_n (N := 7) (by decide) b_10; rw [e]; exact vp_in_nI hk (by decide)) dX6_swayAt_37 ?_
      refine lv_istore_n (lv' := [(3, .int (dYs (f 8).toNatClampNeg)), (0, .ref (gz g + i)), (1, .int zz), (2, .int ax)]) hx hb dX6_swayAt_38 rfl hl (by decide) rfl (fun ls hl => ?_)
      refine lv_iload_n hx hb dX6_swayAt_39 rfl (lv_at hl 0 rfl) ?_
      refine lv_aload_n hx hb dX6_swayAt_40 rfl (lv_at hl 1 rfl) ?_
      refine u_iE (v := (swF f)) (ru_V (As := []) (rest := [.int (dYs (f 8).toNatClampNeg)]) F h hi rfl (k_X6_swing l g n c i f hi ) (gV hjl wd_483 wd_484 wd_485 wd_18 wd_486) rfl 0 (by decide +kernel) rfl ⟨Nat.le_of_ble_eq_true rfl, Nat.le_of_ble_eq_true rfl⟩ rfl hl.1 (Nat.le_of_ble_eq_true rfl) ⟨Nat.zero_le _, Nat.zero_le _⟩ dX6_swayAt_41) h (fun H locs h => ?_)
      refine lv_iload_n hx hb dX6_swayAt_44 rfl (lv_at hl 2 rfl) ?_
      refine lv_imul hx hb dX6_swayAt_45 ?_
      refine lv_aload_n hx hb dX6_swayAt_46 rfl (lv_at hl 1 rfl) ?_
      refine r_get F h (C := RX6) (T := TX6) (N := 12) (hjc hi_X6) rfl hi 4 (by decide) (List.mem_cons_of_mem _ wd_57) rfl dX6_swayAt_47 ?_
      refine u_iE (v := (rz ((swF f) * zz) (f 4))) (ru_SN (As := [.int ((swF f) * zz), .int (f 4)]) (rest := [.int (dYs (f 8).toNatClampNeg)]) F h (k_X7_roundedToZero l g n c ((swF f) * zz) (f 4)) (List.mem_of_getElem? (i := 4) rfl) (gG hjl wd_489) rfl (List.mem_cons_of_mem _ wd_16) (List.mem_cons_of_mem _ wd_488) 2 (by decide +kernel) rfl ⟨Nat.le_of_ble_eq_true rfl, Nat.le_of_ble_eq_true rfl⟩ rfl hl.1 (Nat.le_of_ble_eq_true rfl) ⟨Nat.zero_le _, Nat.zero_le _⟩ dX6_swayAt_50) h (fun H locs h => ?_)
      refine lv_imul hx hb dX6_swayAt_53 ?_
      exact ret_i F h (Nat.zero_le _) (Nat.zero_le _) dX6_swayAt_54 (⟨by simp only [syF, ptC, if_pos, if_neg, not_false_eq_true, *], rfl, rfl⟩)
    refine va_getsN hx hb (F.2.2.2.2.2.2.2.2.dX.1) h.2 F.2.2.2.1 (va_Nw.use rfl (F.2.2.2.2.2.2.2.2.fl (List.mem_of_getElem? (i := 0) rfl))) (fun _ h9 => h9) dX6_swayAt_19 ?_
    refine lv_aload_n hx hb dX6_swayAt_22 rfl (lv_at hl 0 rfl) ?_
    refine r_get F h (C := RX6) (T := TX6) (N := 12) (hjc hi_X6) rfl hi 9 (by decide) (List.mem_cons_of_mem _ wd_68) rfl dX6_swayAt_23 ?_
    refine r_tti F h (F.2.2.2.2.2.2.2.2.dX.2) (by obtain ⟨k, hk, e⟩ := inI_n (N := 7) (by decide) b_10; rw [e]; exact vp_in_nI hk (by decide)) dX6_swayAt_26 ?_
    refine lv_goto (tgt := 38) hx hb dX6_swayAt_27 (by decide) ?_
    refine lv_istore_n (lv' := [(3, .int (dXs (f 8).toNatClampNeg)), (0, .ref (gz g + i)), (1, .int zz), (2, .int ax)]) hx hb dX6_swayAt_38 rfl hl (by decide) rfl (fun ls hl => ?_)
    refine lv_iload_n hx hb dX6_swayAt_39 rfl (lv_at hl 0 rfl) ?_
    refine lv_aload_n hx hb dX6_swayAt_40 rfl (lv_at hl 1 rfl) ?_
    refine u_iE (v := (swF f)) (ru_V (As := []) (rest := [.int (dXs (f 8).toNatClampNeg)]) F h hi rfl (k_X6_swing l g n c i f hi ) (gV hjl wd_483 wd_484 wd_485 wd_18 wd_486) rfl 0 (by decide +kernel) rfl ⟨Nat.le_of_ble_eq_true rfl, Nat.le_of_ble_eq_true rfl⟩ rfl hl.1 (Nat.le_of_ble_eq_true rfl) ⟨Nat.zero_le _, Nat.zero_le _⟩ dX6_swayAt_41) h (fun H locs h => ?_)
    refine lv_iload_n hx hb dX6_swayAt_44 rfl (lv_at hl 2 rfl) ?_
    refine lv_imul hx hb dX6_swayAt_45 ?_
    refine lv_aload_n hx hb dX6_swayAt_46 rfl (lv_at hl 1 rfl) ?_
    refine r_get F h (C := RX6) (T := TX6) (N := 12) (hjc hi_X6) rfl hi 4 (by decide) (List.mem_cons_of_mem _ wd_57) rfl dX6_swayAt_47 ?_
    refine u_iE (v := (rz ((swF f) * zz) (f 4))) (ru_SN (As := [.int ((swF f) * zz), .int (f 4)]) (rest := [.int (dXs (f 8).toNatClampNeg)]) F h (k_X7_roundedToZero l g n c ((swF f) * zz) (f 4)) (List.mem_of_getElem? (i := 4) rfl) (gG hjl wd_489) rfl (List.mem_cons_of_mem _ wd_16) (List.mem_cons_of_mem _ wd_488) 2 (by decide +kernel) rfl ⟨Nat.le_of_ble_eq_true rfl, Nat.le_of_ble_eq_true rfl⟩ rfl hl.1 (Nat.le_of_ble_eq_true rfl) ⟨Nat.zero_le _, Nat.zero_le _⟩ dX6_swayAt_50) h (fun H locs h => ?_)
    refine lv_imul hx hb dX6_swayAt_53 ?_
    exact ret_i F h (Nat.zero_le _) (Nat.zero_le _) dX6_swayAt_54 (⟨by simp only [syF, ptC, if_pos, if_neg, not_false_eq_true, *], rfl, rfl⟩)
  refine lv_iconst (v := 0) hx hb dX6_swayAt_13 (by decide) ?_
  exact ret_i F h (Nat.zero_le _) (Nat.zero_le _) dX6_swayAt_14 (⟨by simp only [syF, ptC, if_pos, if_neg, not_false_eq_true, *], rfl, rfl⟩)
def prW (f : Nat → Int32) (w : Int32) : Int32 := if w = 0 then f 1 else if w = 1 then f 2 else if w = 2 then f 3 else if w = 3 then f 4 else if w = 4 then f 5 else if w = 5 then f 6 else if w = 6 then f 7 else if w = 7 then f 8 else if w = 8 then f 9 else if w = 9 then f 10 else 4 * qdI (f 4)
set_option maxHeartbeats 4000000 in
set_option maxRecDepth 100000 in
theorem k_X6_property (l : Launch) (g : Gf) (n : Nat) (c : Mp) (i : Nat) (f : Nat → Int32) (hi : c i = wiC f) (w : Int32) : Ct l g yX6_property wsX6_property 1 20 0 0 [.ref (gz g + i), .int w] n c (Qi g (fun xr n' c' => xr = prW f w ∧ n' = n ∧ c' = c)) := by
  refine ent (by decide) rfl (Nat.le_of_ble_eq_true rfl) ?_
  intro p e s m args below meth c0 F h ls hl
  have hx := F.1
  have hb := F.2.1
  have hl : lv_has ls 2 [(0, .ref (gz g + i)), (1, .int w)] := hl
  refine lv_iload_n hx hb dX6_property_0 rfl (lv_at hl 1 rfl) ?_
  by_cases q_1_0 : w = 0
  · skip
    refine lv_tableIn (off := 55) (tgt := 56) hx hb dX6_property_1 (by rw [q_1_0]; decide) (by rw [q_1_0]; decide) (by rw [q_1_0]; rfl) (by decide) ?_
    refine lv_aload_n hx hb dX6_property_56 rfl (lv_at hl 0 rfl) ?_
    refine r_get F h (C := RX6) (T := TX6) (N := 12) (hjc hi_X6) rfl hi 1 (by decide) (List.mem_cons_of_mem _ wd_49) rfl dX6_property_57 ?_
    exact ret_i F h (Nat.zero_le _) (Nat.zero_le _) dX6_property_60 (⟨by (simp only [prW, if_neg, not_false_eq_true, *] <;> first | rfl | simp), rfl, rfl⟩)
  by_cases q_1_1 : w = 1
  · skip
    refine lv_tableIn (off := 60) (tgt := 61) hx hb dX6_property_1 (by rw [q_1_1]; decide) (by rw [q_1_1]; decide) (by rw [q_1_1]; rfl) (by decide) ?_
    refine lv_aload_n hx hb dX6_property_61 rfl (lv_at hl 0 rfl) ?_
    refine r_get F h (C := RX6) (T := TX6) (N := 12) (hjc hi_X6) rfl hi 2 (by decide) (List.mem_cons_of_mem _ wd_52) rfl dX6_property_62 ?_
    exact ret_i F h (Nat.zero_le _) (Nat.zero_le _) dX6_property_65 (⟨by (simp only [prW, if_neg, not_false_eq_true, *] <;> first | rfl | simp), rfl, rfl⟩)
  by_cases q_1_2 : w = 2
  · skip
    refine lv_tableIn (off := 65) (tgt := 66) hx hb dX6_property_1 (by rw [q_1_2]; decide) (by rw [q_1_2]; decide) (by rw [q_1_2]; rfl) (by decide) ?_
    refine lv_aload_n hx hb dX6_property_66 rfl (lv_at hl 0 rfl) ?_
    refine r_get F h (C := RX6) (T := TX6) (N := 12) (hjc hi_X6) rfl hi 3 (by decide) (List.mem_cons_of_mem _ wd_55) rfl dX6_property_67 ?_
    exact ret_i F h (Nat.zero_le _) (Nat.zero_le _) dX6_property_70 (⟨by (simp only [prW, if_neg, not_false_eq_true, *] <;> first | rfl | simp), rfl, rfl⟩)
  by_cases q_1_3 : w = 3
  · skip
    refine lv_tableIn (off := 70) (tgt := 71) hx hb dX6_property_1 (by rw [q_1_3]; decide) (by rw [q_1_3]; decide) (by rw [q_1_3]; rfl) (by decide) ?_
    refine lv_aload_n hx hb dX6_property_71 rfl (lv_at hl 0 rfl) ?_
    refine r_get F h (C := RX6) (T := TX6) (N := 12) (hjc hi_X6) rfl hi 4 (by decide) (List.mem_cons_of_mem _ wd_57) rfl dX6_property_72 ?_
    exact ret_i F h (Nat.zero_le _) (Nat.zero_le _) dX6_property_75 (⟨by (simp only [prW, if_neg, not_false_eq_true, *] <;> first | rfl | simp), rfl, rfl⟩)
  by_cases q_1_4 : w = 4
  · skip
    refine lv_tableIn (off := 75) (tgt := 76) hx hb dX6_property_1 (by rw [q_1_4]; decide) (by rw [q_1_4]; decide) (by rw [q_1_4]; rfl) (by decide) ?_
    refine lv_aload_n hx hb dX6_property_76 rfl (lv_at hl 0 rfl) ?_
    refine r_get F h (C := RX6) (T := TX6) (N := 12) (hjc hi_X6) rfl hi 6 (by decide) (List.mem_cons_of_mem _ wd_60) rfl dX6_property_77 ?_
    exact ret_i F h (Nat.zero_le _) (Nat.zero_le _) dX6_property_80 (⟨by (simp only [prW, if_neg, not_false_eq_true, *] <;> first | rfl | simp), rfl, rfl⟩)
  by_cases q_1_5 : w = 5
  · skip
    refine lv_tableIn (off := 80) (tgt := 81) hx hb dX6_property_1 (by rw [q_1_5]; decide) (by rw [q_1_5]; decide) (by rw [q_1_5]; rfl) (by decide) ?_
    refine lv_aload_n hx hb dX6_property_81 rfl (lv_at hl 0 rfl) ?_
    refine r_get F h (C := RX6) (T := TX6) (N := 12) (hjc hi_X6) rfl hi 7 (by decide) (List.mem_cons_of_mem _ wd_63) rfl dX6_property_82 ?_
    exact ret_i F h (Nat.zero_le _) (Nat.zero_le _) dX6_property_85 (⟨by (simp only [prW, if_neg, not_false_eq_true, *] <;> first | rfl | simp), rfl, rfl⟩)
  by_cases q_1_6 : w = 6
  · skip
    refine lv_tableIn (off := 85) (tgt := 86) hx hb dX6_property_1 (by rw [q_1_6]; decide) (by rw [q_1_6]; decide) (by rw [q_1_6]; rfl) (by decide) ?_
    refine lv_aload_n hx hb dX6_property_86 rfl (lv_at hl 0 rfl) ?_
    refine r_get F h (C := RX6) (T := TX6) (N := 12) (hjc hi_X6) rfl hi 8 (by decide) (List.mem_cons_of_mem _ wd_66) rfl dX6_property_87 ?_
    exact ret_i F h (Nat.zero_le _) (Nat.zero_le _) dX6_property_90 (⟨by (simp only [prW, if_neg, not_false_eq_true, *] <;> first | rfl | simp), rfl, rfl⟩)
  by_cases q_1_7 : w = 7
  · skip
    refine lv_tableIn (off := 90) (tgt := 91) hx hb dX6_property_1 (by rw [q_1_7]; decide) (by rw [q_1_7]; decide) (by rw [q_1_7]; rfl) (by decide) ?_
    refine lv_aload_n hx hb dX6_property_91 rfl (lv_at hl 0 rfl) ?_
    refine r_get F h (C := RX6) (T := TX6) (N := 12) (hjc hi_X6) rfl hi 9 (by decide) (List.mem_cons_of_mem _ wd_68) rfl dX6_property_92 ?_
    exact ret_i F h (Nat.zero_le _) (Nat.zero_le _) dX6_property_95 (⟨by (simp only [prW, if_neg, not_false_eq_true, *] <;> first | rfl | simp), rfl, rfl⟩)
  by_cases q_1_8 : w = 8
  · skip
    refine lv_tableIn (off := 95) (tgt := 96) hx hb dX6_property_1 (by rw [q_1_8]; decide) (by rw [q_1_8]; decide) (by rw [q_1_8]; rfl) (by decide) ?_
    refine lv_aload_n hx hb dX6_property_96 rfl (lv_at hl 0 rfl) ?_
    refine r_get F h (C := RX6) (T := TX6) (N := 12) (hjc hi_X6) rfl hi 10 (by decide) (List.mem_cons_of_mem _ wd_70) rfl dX6_property_97 ?_
    exact ret_i F h (Nat.zero_le _) (Nat.zero_le _) dX6_property_100 (⟨by (simp only [prW, if_neg, not_false_eq_true, *] <;> first | rfl | simp), rfl, rfl⟩)
  by_cases q_1_9 : w = 9
  · skip
    refine lv_tableIn (off := 100) (tgt := 101) hx hb dX6_property_1 (by rw [q_1_9]; decide) (by rw [q_1_9]; decide) (by rw [q_1_9]; rfl) (by decide) ?_
    refine lv_aload_n hx hb dX6_property_101 rfl (lv_at hl 0 rfl) ?_
    refine r_get F h (C := RX6) (T := TX6) (N := 12) (hjc hi_X6) rfl hi 11 (by decide) (List.mem_cons_of_mem _ wd_71) rfl dX6_property_102 ?_
    exact ret_i F h (Nat.zero_le _) (Nat.zero_le _) dX6_property_105 (⟨by (simp only [prW, if_neg, not_false_eq_true, *] <;> first | rfl | simp), rfl, rfl⟩)
  refine lv_tableOut (tgt := 106) hx hb dX6_property_1 (by have z0 : ¬ (w).toInt = 0 := fun z => q_1_0 ((i_eq _ _).mpr z); have z1 : ¬ (w).toInt = 1 := fun z => q_1_1 ((i_eq _ _).mpr z); have z2 : ¬ (w).toInt = 2 := fun z => q_1_2 ((i_eq _ _).mpr z); have z3 : ¬ (w).toInt = 3 := fun z => q_1_3 ((i_eq _ _).mpr z); have z4 : ¬ (w).toInt = 4 := fun z => q_1_4 ((i_eq _ _).mpr z); have z5 : ¬ (w).toInt = 5 := fun z => q_1_5 ((i_eq _ _).mpr z); have z6 : ¬ (w).toInt = 6 := fun z => q_1_6 ((i_eq _ _).mpr z); have z7 : ¬ (w).toInt = 7 := fun z => q_1_7 ((i_eq _ _).mpr z); have z8 : ¬ (w).toInt = 8 := fun z => q_1_8 ((i_eq _ _).mpr z); have z9 : ¬ (w).toInt = 9 := fun z => q_1_9 ((i_eq _ _).mpr z); omega) (by decide) ?_
  refine lv_aload_n hx hb dX6_property_106 rfl (lv_at hl 0 rfl) ?_
  refine u_iE (v := (4 * qdI (f 4))) (ru_V (As := []) (rest := []) F h hi rfl (k_X6_periodTicks l g n c i f hi ) (gV hjl wd_398 wd_356 wd_357 wd_18 wd_358) rfl 0 (by decide +kernel) rfl ⟨Nat.le_of_ble_eq_true rfl, Nat.le_of_ble_eq_true rfl⟩ rfl hl.1 (Nat.le_of_ble_eq_true rfl) ⟨Nat.zero_le _, Nat.zero_le _⟩ dX6_property_107) h (fun H locs h => ?_)
  exact ret_i F h (Nat.zero_le _) (Nat.zero_le _) dX6_property_110 (⟨by (simp only [prW, if_neg, not_false_eq_true, *] <;> first | rfl | simp), rfl, rfl⟩)
def prO (f : Nat → Int32) (w : Int32) : Int32 := if w = 0 then f 1 else if w = 1 then f 2 else if w = 2 then f 3 else if w = 3 then f 4 else f 5
set_option maxHeartbeats 4000000 in
set_option maxRecDepth 100000 in
theorem k_X1_property (l : Launch) (g : Gf) (n : Nat) (c : Mp) (i : Nat) (f : Nat → Int32) (hi : c i = obC f) (w : Int32) : Ct l g yX1_property wsX1_property 0 0 0 0 [.ref (gz g + i), .int w] n c (Qi g (fun xr n' c' => xr = prO f w ∧ n' = n ∧ c' = c)) := by
  refine ent (by decide) rfl (Nat.le_of_ble_eq_true rfl) ?_
  intro p e s m args below meth c0 F h ls hl
  have hx := F.1
  have hb := F.2.1
  have hl : lv_has ls 2 [(0, .ref (gz g + i)), (1, .int w)] := hl
  refine lv_iload_n hx hb dX1_property_0 rfl (lv_at hl 1 rfl) ?_
  by_cases q_1_0 : w = 0
  · skip
    refine lv_tableIn (off := 31) (tgt := 32) hx hb dX1_property_1 (by rw [q_1_0]; decide) (by rw [q_1_0]; decide) (by rw [q_1_0]; rfl) (by decide) ?_
    refine lv_aload_n hx hb dX1_property_32 rfl (lv_at hl 0 rfl) ?_
    refine r_get F h (C := RX1) (T := TX1) (N := 6) (hjc hi_X1) rfl hi 1 (by decide) (List.mem_cons_of_mem _ wd_135) rfl dX1_property_33 ?_
    exact ret_i F h (Nat.zero_le _) (Nat.zero_le _) dX1_property_36 (⟨by (simp only [prO, if_neg, not_false_eq_true, *] <;> first | rfl | simp), rfl, rfl⟩)
  by_cases q_1_1 : w = 1
  · skip
    refine lv_tableIn (off := 36) (tgt := 37) hx hb dX1_property_1 (by rw [q_1_1]; decide) (by rw [q_1_1]; decide) (by rw [q_1_1]; rfl) (by decide) ?_
    refine lv_aload_n hx hb dX1_property_37 rfl (lv_at hl 0 rfl) ?_
    refine r_get F h (C := RX1) (T := TX1) (N := 6) (hjc hi_X1) rfl hi 2 (by decide) (List.mem_cons_of_mem _ wd_138) rfl dX1_property_38 ?_
    exact ret_i F h (Nat.zero_le _) (Nat.zero_le _) dX1_property_41 (⟨by (simp only [prO, if_neg, not_false_eq_true, *] <;> first | rfl | simp), rfl, rfl⟩)
  by_cases q_1_2 : w = 2
  · skip
    refine lv_tableIn (off := 41) (tgt := 42) hx hb dX1_property_1 (by rw [q_1_2]; decide) (by rw [q_1_2]; decide) (by rw [q_1_2]; rfl) (by decide) ?_
    refine lv_aload_n hx hb dX1_property_42 rfl (lv_at hl 0 rfl) ?_
    refine r_get F h (C := RX1) (T := TX1) (N := 6) (hjc hi_X1) rfl hi 3 (by decide) (List.mem_cons_of_mem _ wd_141) rfl dX1_property_43 ?_
    exact ret_i F h (Nat.zero_le _) (Nat.zero_le _) dX1_property_46 (⟨by (simp only [prO, if_neg, not_false_eq_true, *] <;> first | rfl | simp), rfl, rfl⟩)
  by_cases q_1_3 : w = 3
  · skip
    refine lv_tableIn (off := 46) (tgt := 47) hx hb dX1_property_1 (by rw [q_1_3]; decide) (by rw [q_1_3]; decide) (by rw [q_1_3]; rfl) (by decide) ?_
    refine lv_aload_n hx hb dX1_property_47 rfl (lv_at hl 0 rfl) ?_
    refine r_get F h (C := RX1) (T := TX1) (N := 6) (hjc hi_X1) rfl hi 4 (by decide) (List.mem_cons_of_mem _ wd_144) rfl dX1_property_48 ?_
    exact ret_i F h (Nat.zero_le _) (Nat.zero_le _) dX1_property_51 (⟨by (simp only [prO, if_neg, not_false_eq_true, *] <;> first | rfl | simp), rfl, rfl⟩)
  refine lv_tableOut (tgt := 52) hx hb dX1_property_1 (by have z0 : ¬ (w).toInt = 0 := fun z => q_1_0 ((i_eq _ _).mpr z); have z1 : ¬ (w).toInt = 1 := fun z => q_1_1 ((i_eq _ _).mpr z); have z2 : ¬ (w).toInt = 2 := fun z => q_1_2 ((i_eq _ _).mpr z); have z3 : ¬ (w).toInt = 3 := fun z => q_1_3 ((i_eq _ _).mpr z); omega) (by decide) ?_
  refine lv_aload_n hx hb dX1_property_52 rfl (lv_at hl 0 rfl) ?_
  refine r_get F h (C := RX1) (T := TX1) (N := 6) (hjc hi_X1) rfl hi 5 (by decide) (List.mem_cons_of_mem _ wd_146) rfl dX1_property_53 ?_
  exact ret_i F h (Nat.zero_le _) (Nat.zero_le _) dX1_property_56 (⟨by (simp only [prO, if_neg, not_false_eq_true, *] <;> first | rfl | simp), rfl, rfl⟩)
def fcF (f : Nat → Int32) (ax : Int32) : Int32 := if ax = 0 then f 2 else f 3
def ovF (f : Nat → Int32) (z : Int32) : Int32 := (if z < f 1 then z else f 1) - (if z < f 0 then z else f 0)
def beF (f : Nat → Int32) (ma z ax : Int32) : Int32 := if ma < 1 then 0 else (fdL ((fcF f ax).toInt64 * (ovF f z).toInt64 * z.toInt64) (100 * ma.toInt64)).toInt32
theorem ma_pos {ma : Int32} (h : ¬ ma < 1) : 0 < ((100 : Int64) * ma.toInt64).toInt := by
  rw [i_lt] at h
  have h : ¬ ma.toInt < 1 := h
  have h1 := fb_rng ma
  rw [Int64.toInt_mul, Int32.toInt_toInt64, show (100 : Int64).toInt = 100 from rfl, fb_bmodL (by omega) (by omega)]
  omega
set_option maxHeartbeats 4000000 in
set_option maxRecDepth 100000 in
theorem k_X0_bend (l : Launch) (g : Gf) (n : Nat) (c : Mp) (i : Nat) (f : Nat → Int32) (hi : c i = cuC f) (ma zz ax : Int32) : Ct l g yX0_bend wsX0_bend 1 25 0 0 [.ref (gz g + i), .int ma, .int zz, .int ax] n c (Qi g (fun xr n' c' => xr = beF f ma zz ax ∧ n' = n ∧ c' = c)) := by
  refine ent (by decide) rfl (Nat.le_of_ble_eq_true rfl) ?_
  intro p e s m args below meth c0 F h ls hl
  have hx := F.1
  have hb := F.2.1
  have hl : lv_has ls 8 [(0, .ref (gz g + i)), (1, .int ma), (2, .int zz), (3, .int ax)] := hl
  refine lv_iload_n hx hb dX0_bend_0 rfl (lv_at hl 1 rfl) ?_
  refine lv_iconst (v := 1) hx hb dX0_bend_1 (by decide) ?_
  refine lv_icmp_ge (tgt := 7) hx hb dX0_bend_2 (by decide) (fun b_2 => ?_) (fun b_2 => ?_)
  · skip
    refine lv_iload_n hx hb dX0_bend_7 rfl (lv_at hl 3 rfl) ?_
    refine lv_if_ne (tgt := 19) hx hb dX0_bend_8 (by decide) (fun b_8 => ?_) (fun b_8 => ?_)
    · skip
      refine lv_aload_n hx hb dX0_bend_19 rfl (lv_at hl 0 rfl) ?_
      refine r_get F h (C := RX0) (T := TX0) (N := 4) (hjc hi_X0) rfl hi 3 (by decide) (List.mem_cons_of_mem _ wd_107) rfl dX0_bend_20 ?_
      refine lv_i2l hx hb dX0_bend_23 rfl ?_
      refine lv_lstore (lv' := [(4, .long ((f 3).toInt64)), (0, .ref (gz g + i)), (1, .int ma), (2, .int zz), (3, .int ax)]) hx hb dX0_bend_24 hl (by decide) rfl (fun ls hl => ?_)
      refine lv_aload_n hx hb dX0_bend_26 rfl (lv_at hl 1 rfl) ?_
      refine r_get F h (C := RX0) (T := TX0) (N := 4) (hjc hi_X0) rfl hi 1 (by decide) (List.mem_cons_of_mem _ wd_105) rfl dX0_bend_27 ?_
      refine lv_iload_n hx hb dX0_bend_30 rfl (lv_at hl 3 rfl) ?_
      refine va_mmin hx hb (F.2.2.1.trans hl.1.symm) F.2.2.2.1 (F.2.2.2.2.1 _ (List.mem_cons_of_mem _ wd_463)) (F.2.2.2.2.1 _ (List.mem_cons_of_mem _ wd_464)) (F.2.2.2.2.1 _ (List.mem_cons_of_mem _ wd_23)) (F.2.2.2.2.1 _ (List.mem_cons_of_mem _ wd_465)) (Nat.le_of_ble_eq_true rfl) (Nat.le_of_ble_eq_true rfl) (Nat.zero_le _) (Nat.zero_le _) dX0_bend_31 ?_
      refine lv_aload_n hx hb dX0_bend_34 rfl (lv_at hl 1 rfl) ?_
      refine r_get F h (C := RX0) (T := TX0) (N := 4) (hjc hi_X0) rfl hi 0 (by decide) (List.mem_cons_of_mem _ wd_104) rfl dX0_bend_35 ?_
      refine lv_iload_n hx hb dX0_bend_38 rfl (lv_at hl 3 rfl) ?_
      refine va_mmin hx hb (F.2.2.1.trans hl.1.symm) F.2.2.2.1 (F.2.2.2.2.1 _ (List.mem_cons_of_mem _ wd_463)) (F.2.2.2.2.1 _ (List.mem_cons_of_mem _ wd_464)) (F.2.2.2.2.1 _ (List.mem_cons_of_mem _ wd_23)) (F.2.2.2.2.1 _ (List.mem_cons_of_mem _ wd_465)) (Nat.le_of_ble_eq_true rfl) (Nat.le_of_ble_eq_true rfl) (Nat.zero_le _) (Nat.zero_le _) dX0_bend_39 ?_
      refine lv_isub hx hb dX0_bend_42 ?_
      refine lv_i2l hx hb dX0_bend_43 rfl ?_
      refine lv_lstore (lv' := [(6, .long (((if zz < f 1 then zz else f 1) - (if zz < f 0 then zz else f 0)).toInt64)), (4, .long ((f 3).toInt64)), (0, .ref (gz g + i)), (1, .int ma), (2, .int zz), (3, .int ax)]) hx hb dX0_bend_44 hl (by decide) rfl (fun ls hl => ?_)
      refine lv_lload hx hb dX0_bend_46 (lv_at hl 1 rfl) ?_
      refine lv_lload hx hb dX0_bend_48 (lv_at hl 0 rfl) ?_
      refine lv_lmul hx hb dX0_bend_50 ?_
      refine lv_iload_n hx hb dX0_bend_51 rfl (lv_at hl 4 rfl) ?_
      refine lv_i2l hx hb dX0_bend_52 rfl ?_
      refine lv_lmul hx hb dX0_bend_53 ?_
      refine lv_ldc2 (v := 100) hx hb F.2.2.2.1 (F.2.2.2.2.1 (Cond.constantLong RX0 30 100) (List.mem_cons_of_mem _ wd_466)) dX0_bend_54 ?_
      refine lv_iload_n hx hb dX0_bend_57 rfl (lv_at hl 3 rfl) ?_
      refine lv_i2l hx hb dX0_bend_58 rfl ?_
      refine lv_lmul hx hb dX0_bend_59 ?_
      refine u_lE (v := (fdL (((f 3).toInt64 * ((if zz < f 1 then zz else f 1) - (if zz < f 0 then zz else f 0)).toInt64) * zz.toInt64) (100 * ma.toInt64))) (ru_S (As := [.long (((f 3).toInt64 * ((if zz < f 1 then zz else f 1) - (if zz < f 0 then zz else f 0)).toInt64) * zz.toInt64), .long (100 * ma.toInt64)]) (rest := []) F h (k_J9_floorDiv_f86c9 l g n c (((f 3).toInt64 * ((if zz < f 1 then zz else f 1) - (if zz < f 0 then zz else f 0)).toInt64) * zz.toInt64) (100 * ma.toInt64) (ma_pos (ge_nlt b_2))) (gS hjl wd_467 wd_468 wd_23b wd_469) rfl 2 (by decide +kernel) rfl ⟨Nat.le_of_ble_eq_true rfl, Nat.le_of_ble_eq_true rfl⟩ rfl hl.1 (Nat.le_of_ble_eq_true rfl) ⟨Nat.zero_le _, Nat.zero_le _⟩ dX0_bend_60) h (fun H locs h => ?_)
      refine lv_l2i hx hb dX0_bend_63 rfl ?_
      exact ret_i F h (Nat.zero_le _) (Nat.zero_le _) dX0_bend_64 (⟨by rw [beF, if_neg (ge_nlt b_2), fcF, if_neg b_8]; rfl, rfl, rfl⟩)
    refine lv_aload_n hx hb dX0_bend_11 rfl (lv_at hl 0 rfl) ?_
    refine r_get F h (C := RX0) (T := TX0) (N := 4) (hjc hi_X0) rfl hi 2 (by decide) (List.mem_cons_of_mem _ wd_106) rfl dX0_bend_12 ?_
    refine lv_i2l hx hb dX0_bend_15 rfl ?_
    refine lv_goto (tgt := 24) hx hb dX0_bend_16 (by decide) ?_
    refine lv_lstore (lv' := [(4, .long ((f 2).toInt64)), (0, .ref (gz g + i)), (1, .int ma), (2, .int zz), (3, .int ax)]) hx hb dX0_bend_24 hl (by decide) rfl (fun ls hl => ?_)
    refine lv_aload_n hx hb dX0_bend_26 rfl (lv_at hl 1 rfl) ?_
    refine r_get F h (C := RX0) (T := TX0) (N := 4) (hjc hi_X0) rfl hi 1 (by decide) (List.mem_cons_of_mem _ wd_105) rfl dX0_bend_27 ?_
    refine lv_iload_n hx hb dX0_bend_30 rfl (lv_at hl 3 rfl) ?_
    refine va_mmin hx hb (F.2.2.1.trans hl.1.symm) F.2.2.2.1 (F.2.2.2.2.1 _ (List.mem_cons_of_mem _ wd_463)) (F.2.2.2.2.1 _ (List.mem_cons_of_mem _ wd_464)) (F.2.2.2.2.1 _ (List.mem_cons_of_mem _ wd_23)) (F.2.2.2.2.1 _ (List.mem_cons_of_mem _ wd_465)) (Nat.le_of_ble_eq_true rfl) (Nat.le_of_ble_eq_true rfl) (Nat.zero_le _) (Nat.zero_le _) dX0_bend_31 ?_
    refine lv_aload_n hx hb dX0_bend_34 rfl (lv_at hl 1 rfl) ?_
    refine r_get F h (C := RX0) (T := TX0) (N := 4) (hjc hi_X0) rfl hi 0 (by decide) (List.mem_cons_of_mem _ wd_104) rfl dX0_bend_35 ?_
    refine lv_iload_n hx hb dX0_bend_38 rfl (lv_at hl 3 rfl) ?_
    refine va_mmin hx hb (F.2.2.1.trans hl.1.symm) F.2.2.2.1 (F.2.2.2.2.1 _ (List.mem_cons_of_mem _ wd_463)) (F.2.2.2.2.1 _ (List.mem_cons_of_mem _ wd_464)) (F.2.2.2.2.1 _ (List.mem_cons_of_mem _ wd_23)) (F.2.2.2.2.1 _ (List.mem_cons_of_mem _ wd_465)) (Nat.le_of_ble_eq_true rfl) (Nat.le_of_ble_eq_true rfl) (Nat.zero_le _) (Nat.zero_le _) dX0_bend_39 ?_
    refine lv_isub hx hb dX0_bend_42 ?_
    refine lv_i2l hx hb dX0_bend_43 rfl ?_
    refine lv_lstore (lv' := [(6, .long (((if zz < f 1 then zz else f 1) - (if zz < f 0 then zz else f 0)).toInt64)), (4, .long ((f 2).toInt64)), (0, .ref (gz g + i)), (1, .int ma), (2, .int zz), (3, .int ax)]) hx hb dX0_bend_44 hl (by decide) rfl (fun ls hl => ?_)
    refine lv_lload hx hb dX0_bend_46 (lv_at hl 1 rfl) ?_
    refine lv_lload hx hb dX0_bend_48 (lv_at hl 0 rfl) ?_
    refine lv_lmul hx hb dX0_bend_50 ?_
    refine lv_iload_n hx hb dX0_bend_51 rfl (lv_at hl 4 rfl) ?_
    refine lv_i2l hx hb dX0_bend_52 rfl ?_
    refine lv_lmul hx hb dX0_bend_53 ?_
    refine lv_ldc2 (v := 100) hx hb F.2.2.2.1 (F.2.2.2.2.1 (Cond.constantLong RX0 30 100) (List.mem_cons_of_mem _ wd_466)) dX0_bend_54 ?_
    refine lv_iload_n hx hb dX0_bend_57 rfl (lv_at hl 3 rfl) ?_
    refine lv_i2l hx hb dX0_bend_58 rfl ?_
    refine lv_lmul hx hb dX0_bend_59 ?_
    refine u_lE (v := (fdL (((f 2).toInt64 * ((if zz < f 1 then zz else f 1) - (if zz < f 0 then zz else f 0)).toInt64) * zz.toInt64) (100 * ma.toInt64))) (ru_S (As := [.long (((f 2).toInt64 * ((if zz < f 1 then zz else f 1) - (if zz < f 0 then zz else f 0)).toInt64) * zz.toInt64), .long (100 * ma.toInt64)]) (rest := []) F h (k_J9_floorDiv_f86c9 l g n c (((f 2).toInt64 * ((if zz < f 1 then zz else f 1) - (if zz < f 0 then zz else f 0)).toInt64) * zz.toInt64) (100 * ma.toInt64) (ma_pos (ge_nlt b_2))) (gS hjl wd_467 wd_468 wd_23b wd_469) rfl 2 (by decide +kernel) rfl ⟨Nat.le_of_ble_eq_true rfl, Nat.le_of_ble_eq_true rfl⟩ rfl hl.1 (Nat.le_of_ble_eq_true rfl) ⟨Nat.zero_le _, Nat.zero_le _⟩ dX0_bend_60) h (fun H locs h => ?_)
    refine lv_l2i hx hb dX0_bend_63 rfl ?_
    exact ret_i F h (Nat.zero_le _) (Nat.zero_le _) dX0_bend_64 (⟨by rw [beF, if_neg (ge_nlt b_2), fcF, if_pos b_8]; rfl, rfl, rfl⟩)
  refine lv_iconst (v := 0) hx hb dX0_bend_5 (by decide) ?_
  exact ret_i F h (Nat.zero_le _) (Nat.zero_le _) dX0_bend_6 (⟨by rw [beF, if_pos (nle_lt b_2)], rfl, rfl⟩)
def adR (f : Nat → Int32) (v : Int32) : Nat → Int32 := l4 (f 0 + 1) (f 1 + v) (if f 0 = 0 then v else if v < f 2 then v else f 2) (if f 0 = 0 then v else if f 3 < v then v else f 3)
set_option maxHeartbeats 4000000 in
set_option maxRecDepth 100000 in
theorem k_X3_add (l : Launch) (g : Gf) (n : Nat) (c : Mp) (i : Nat) (f : Nat → Int32) (hi : c i = reC f) (v : Int32) : Ct l g yX3_add wsX3_add 1 21 0 0 [.ref (gz g + i), .int v] n c (Qv g (fun n' c' => n' = n ∧ c' = va_up c i (reC (adR f v)))) := by
  refine ent (by decide) rfl (Nat.le_of_ble_eq_true rfl) ?_
  intro p e s m args below meth c0 F h ls hl
  have hx := F.1
  have hb := F.2.1
  have hl : lv_has ls 2 [(0, .ref (gz g + i)), (1, .int v)] := hl
  refine lv_aload_n hx hb dX3_add_0 rfl (lv_at hl 0 rfl) ?_
  refine lv_aload_n hx hb dX3_add_1 rfl (lv_at hl 0 rfl) ?_
  refine r_get F h (C := RX3) (T := TX3) (N := 4) (hjc hi_X3) rfl hi 0 (by decide) (List.mem_cons_of_mem _ wd_625) rfl dX3_add_2 ?_
  refine lv_if_ne (tgt := 12) hx hb dX3_add_5 (by decide) (fun b_5 => ?_) (fun b_5 => ?_)
  · skip
    refine lv_aload_n hx hb dX3_add_12 rfl (lv_at hl 0 rfl) ?_
    refine r_get F h (C := RX3) (T := TX3) (N := 4) (hjc hi_X3) rfl hi 2 (by decide) (List.mem_cons_of_mem _ wd_627) rfl dX3_add_13 ?_
    refine lv_iload_n hx hb dX3_add_16 rfl (lv_at hl 1 rfl) ?_
    refine va_mmin hx hb (F.2.2.1.trans hl.1.symm) F.2.2.2.1 (F.2.2.2.2.1 _ (List.mem_cons_of_mem _ wd_643)) (F.2.2.2.2.1 _ (List.mem_cons_of_mem _ wd_464)) (F.2.2.2.2.1 _ (List.mem_cons_of_mem _ wd_23)) (F.2.2.2.2.1 _ (List.mem_cons_of_mem _ wd_465)) (Nat.le_of_ble_eq_true rfl) (Nat.le_of_ble_eq_true rfl) (Nat.zero_le _) (Nat.zero_le _) dX3_add_17 ?_
    refine r_put F h (C := RX3) (T := TX3) (N := 4) (fs' := [.int (f 0), .int (f 1), .int (if v < f 2 then v else f 2), .int (f 3)]) (hjc hi_X3) tyX3 tyX3_ok nmX3 rfl hi 2 (by decide) (List.mem_cons_of_mem _ wd_627) rfl (rfl) (rfl) (Nat.le_of_ble_eq_true rfl) rfl dX3_add_20 (fun H locs h => ?_)
    refine lv_aload_n hx hb dX3_add_23 rfl (lv_at hl 0 rfl) ?_
    refine lv_aload_n hx hb dX3_add_24 rfl (lv_at hl 0 rfl) ?_
    refine r_get F h (C := RX3) (T := TX3) (N := 4) (hjc hi_X3) rfl (mu_eq _ _ _) 0 (by decide) (List.mem_cons_of_mem _ wd_625) rfl dX3_add_25 ?_
    refine lv_if_ne (tgt := 35) hx hb dX3_add_28 (by decide) (fun b_28 => ?_) (fun b_28 => by first | exact absurd (b_5) b_28 | exact absurd b_28 (b_5))
    refine lv_aload_n hx hb dX3_add_35 rfl (lv_at hl 0 rfl) ?_
    refine r_get F h (C := RX3) (T := TX3) (N := 4) (hjc hi_X3) rfl (mu_eq _ _ _) 3 (by decide) (List.mem_cons_of_mem _ wd_628) rfl dX3_add_36 ?_
    refine lv_iload_n hx hb dX3_add_39 rfl (lv_at hl 1 rfl) ?_
    refine va_mmax hx hb (F.2.2.1.trans hl.1.symm) F.2.2.2.1 (F.2.2.2.2.1 _ (List.mem_cons_of_mem _ wd_644)) (F.2.2.2.2.1 _ (List.mem_cons_of_mem _ wd_645)) (F.2.2.2.2.1 _ (List.mem_cons_of_mem _ wd_23)) (F.2.2.2.2.1 _ (List.mem_cons_of_mem _ wd_646)) (Nat.le_of_ble_eq_true rfl) (Nat.le_of_ble_eq_true rfl) (Nat.zero_le _) (Nat.zero_le _) dX3_add_40 ?_
    refine r_put F h (C := RX3) (T := TX3) (N := 4) (fs' := [.int (f 0), .int (f 1), .int (if v < f 2 then v else f 2), .int (if f 3 < v then v else f 3)]) (hjc hi_X3) tyX3 tyX3_ok nmX3 rfl (mu_eq _ _ _) 3 (by decide) (List.mem_cons_of_mem _ wd_628) rfl (rfl) (rfl) (Nat.le_of_ble_eq_true rfl) rfl dX3_add_43 (fun H locs h => ?_)
    refine r_mem (c1 := (va_up c i (some (.inr (3, [.int (f 0), .int (f 1), .int (if v < f 2 then v else f 2), .int (if f 3 < v then v else f 3)]))))) h (mu_uu _ _ _ _) (fun h => ?_)
    refine lv_aload_n hx hb dX3_add_46 rfl (lv_at hl 0 rfl) ?_
    refine lv_dup hx hb dX3_add_47 rfl ?_
    refine r_get F h (C := RX3) (T := TX3) (N := 4) (hjc hi_X3) rfl (mu_eq _ _ _) 1 (by decide) (List.mem_cons_of_mem _ wd_626) rfl dX3_add_48 ?_
    refine lv_iload_n hx hb dX3_add_51 rfl (lv_at hl 1 rfl) ?_
    refine lv_iadd hx hb dX3_add_52 ?_
    refine r_put F h (C := RX3) (T := TX3) (N := 4) (fs' := [.int (f 0), .int (f 1 + v), .int (if v < f 2 then v else f 2), .int (if f 3 < v then v else f 3)]) (hjc hi_X3) tyX3 tyX3_ok nmX3 rfl (mu_eq _ _ _) 1 (by decide) (List.mem_cons_of_mem _ wd_626) rfl (rfl) (rfl) (Nat.le_of_ble_eq_true rfl) rfl dX3_add_53 (fun H locs h => ?_)
    refine r_mem (c1 := (va_up c i (some (.inr (3, [.int (f 0), .int (f 1 + v), .int (if v < f 2 then v else f 2), .int (if f 3 < v then v else f 3)]))))) h (mu_uu _ _ _ _) (fun h => ?_)
    refine lv_aload_n hx hb dX3_add_56 rfl (lv_at hl 0 rfl) ?_
    refine lv_dup hx hb dX3_add_57 rfl ?_
    refine r_get F h (C := RX3) (T := TX3) (N := 4) (hjc hi_X3) rfl (mu_eq _ _ _) 0 (by decide) (List.mem_cons_of_mem _ wd_625) rfl dX3_add_58 ?_
    refine lv_iconst (v := 1) hx hb dX3_add_61 (by decide) ?_
    refine lv_iadd hx hb dX3_add_62 ?_
    refine r_put F h (C := RX3) (T := TX3) (N := 4) (fs' := [.int (f 0 + 1), .int (f 1 + v), .int (if v < f 2 then v else f 2), .int (if f 3 < v then v else f 3)]) (hjc hi_X3) tyX3 tyX3_ok nmX3 rfl (mu_eq _ _ _) 0 (by decide) (List.mem_cons_of_mem _ wd_625) rfl (rfl) (rfl) (Nat.le_of_ble_eq_true rfl) rfl dX3_add_63 (fun H locs h => ?_)
    refine r_mem (c1 := (va_up c i (some (.inr (3, [.int (f 0 + 1), .int (f 1 + v), .int (if v < f 2 then v else f 2), .int (if f 3 < v then v else f 3)]))))) h (mu_uu _ _ _ _) (fun h => ?_)
    exact ret_v F h (Nat.zero_le _) (Nat.zero_le _) dX3_add_66 (⟨rfl, by rw [adR, if_neg b_5, if_neg b_5]; rfl⟩)
  refine lv_iload_n hx hb dX3_add_8 rfl (lv_at hl 1 rfl) ?_
  refine lv_goto (tgt := 20) hx hb dX3_add_9 (by decide) ?_
  refine r_put F h (C := RX3) (T := TX3) (N := 4) (fs' := [.int (f 0), .int (f 1), .int v, .int (f 3)]) (hjc hi_X3) tyX3 tyX3_ok nmX3 rfl hi 2 (by decide) (List.mem_cons_of_mem _ wd_627) rfl (rfl) (rfl) (Nat.le_of_ble_eq_true rfl) rfl dX3_add_20 (fun H locs h => ?_)
  refine lv_aload_n hx hb dX3_add_23 rfl (lv_at hl 0 rfl) ?_
  refine lv_aload_n hx hb dX3_add_24 rfl (lv_at hl 0 rfl) ?_
  refine r_get F h (C := RX3) (T := TX3) (N := 4) (hjc hi_X3) rfl (mu_eq _ _ _) 0 (by decide) (List.mem_cons_of_mem _ wd_625) rfl dX3_add_25 ?_
  refine lv_if_ne (tgt := 35) hx hb dX3_add_28 (by decide) (fun b_28 => by first | exact absurd b_28 (b_5) | exact absurd (b_5) b_28) (fun b_28 => ?_)
  refine lv_iload_n hx hb dX3_add_31 rfl (lv_at hl 1 rfl) ?_
  refine lv_goto (tgt := 43) hx hb dX3_add_32 (by decide) ?_
  refine r_put F h (C := RX3) (T := TX3) (N := 4) (fs' := [.int (f 0), .int (f 1), .int v, .int v]) (hjc hi_X3) tyX3 tyX3_ok nmX3 rfl (mu_eq _ _ _) 3 (by decide) (List.mem_cons_of_mem _ wd_628) rfl (rfl) (rfl) (Nat.le_of_ble_eq_true rfl) rfl dX3_add_43 (fun H locs h => ?_)
  refine r_mem (c1 := (va_up c i (some (.inr (3, [.int (f 0), .int (f 1), .int v, .int v]))))) h (mu_uu _ _ _ _) (fun h => ?_)
  refine lv_aload_n hx hb dX3_add_46 rfl (lv_at hl 0 rfl) ?_
  refine lv_dup hx hb dX3_add_47 rfl ?_
  refine r_get F h (C := RX3) (T := TX3) (N := 4) (hjc hi_X3) rfl (mu_eq _ _ _) 1 (by decide) (List.mem_cons_of_mem _ wd_626) rfl dX3_add_48 ?_
  refine lv_iload_n hx hb dX3_add_51 rfl (lv_at hl 1 rfl) ?_
  refine lv_iadd hx hb dX3_add_52 ?_
  refine r_put F h (C := RX3) (T := TX3) (N := 4) (fs' := [.int (f 0), .int (f 1 + v), .int v, .int v]) (hjc hi_X3) tyX3 tyX3_ok nmX3 rfl (mu_eq _ _ _) 1 (by decide) (List.mem_cons_of_mem _ wd_626) rfl (rfl) (rfl) (Nat.le_of_ble_eq_true rfl) rfl dX3_add_53 (fun H locs h => ?_)
  refine r_mem (c1 := (va_up c i (some (.inr (3, [.int (f 0), .int (f 1 + v), .int v, .int v]))))) h (mu_uu _ _ _ _) (fun h => ?_)
  refine lv_aload_n hx hb dX3_add_56 rfl (lv_at hl 0 rfl) ?_
  refine lv_dup hx hb dX3_add_57 rfl ?_
  refine r_get F h (C := RX3) (T := TX3) (N := 4) (hjc hi_X3) rfl (mu_eq _ _ _) 0 (by decide) (List.mem_cons_of_mem _ wd_625) rfl dX3_add_58 ?_
  refine lv_iconst (v := 1) hx hb dX3_add_61 (by decide) ?_
  refine lv_iadd hx hb dX3_add_62 ?_
  refine r_put F h (C := RX3) (T := TX3) (N := 4) (fs' := [.int (f 0 + 1), .int (f 1 + v), .int v, .int v]) (hjc hi_X3) tyX3 tyX3_ok nmX3 rfl (mu_eq _ _ _) 0 (by decide) (List.mem_cons_of_mem _ wd_625) rfl (rfl) (rfl) (Nat.le_of_ble_eq_true rfl) rfl dX3_add_63 (fun H locs h => ?_)
  refine r_mem (c1 := (va_up c i (some (.inr (3, [.int (f 0 + 1), .int (f 1 + v), .int v, .int v]))))) h (mu_uu _ _ _ _) (fun h => ?_)
  exact ret_v F h (Nat.zero_le _) (Nat.zero_le _) dX3_add_66 (⟨rfl, by rw [adR, if_pos b_5, if_pos b_5]; rfl⟩)
/-- the quotient rounded down, of ints, by one above 0 -/
def fdI (x y : Int32) : Int32 := Int32.ofInt (x.toInt / y.toInt)
set_option maxHeartbeats 4000000 in
set_option maxRecDepth 100000 in
theorem k_X3_spread (l : Launch) (g : Gf) (n : Nat) (c : Mp) (i : Nat) (f : Nat → Int32) (hi : c i = reC f) : Ct l g yX3_spread wsX3_spread 0 0 0 0 [.ref (gz g + i)] n c (Qi g (fun xr n' c' => xr = f 3 - f 2 ∧ n' = n ∧ c' = c)) := by
  refine ent (by decide) rfl (Nat.le_of_ble_eq_true rfl) ?_
  intro p e s m args below meth c0 F h ls hl
  have hx := F.1
  have hb := F.2.1
  have hl : lv_has ls 1 [(0, .ref (gz g + i))] := hl
  refine lv_aload_n hx hb dX3_spread_0 rfl (lv_at hl 0 rfl) ?_
  refine r_get F h (C := RX3) (T := TX3) (N := 4) (hjc hi_X3) rfl hi 3 (by decide) (List.mem_cons_of_mem _ wd_628) rfl dX3_spread_1 ?_
  refine lv_aload_n hx hb dX3_spread_4 rfl (lv_at hl 0 rfl) ?_
  refine r_get F h (C := RX3) (T := TX3) (N := 4) (hjc hi_X3) rfl hi 2 (by decide) (List.mem_cons_of_mem _ wd_627) rfl dX3_spread_5 ?_
  refine lv_isub hx hb dX3_spread_8 ?_
  exact ret_i F h (Nat.zero_le _) (Nat.zero_le _) dX3_spread_9 (⟨rfl, rfl, rfl⟩)
