/-! What is made: the text. -/
set_option maxHeartbeats 4000000 in
set_option maxRecDepth 100000 in
theorem k_X2_init (l : Launch) (g : Gf) (n : Nat) (c : Mp) (hi : c 348 = some (.inr (2, [.null, .int 0, .null, .null, .int 0, .int 0]))) : Ct l g yX2_init wsX2_init 1 12 3 114 [.ref (gz g + 348)] 349 c (Qv g (fun n' c' => n' = 352 ∧ c' 348 = otC g 0 0 0 ∧ c' 349 = some (.inl (g.2.1 2, 70, .inl (fun _ => 0))) ∧ c' 350 = iaA (g.2.1 0) 11 (fun _ => 0) ∧ c' 351 = iaA (g.2.1 0) 33 (fun _ => 0) ∧ Lo c c' 348)) := by
  refine ent (by decide) rfl (Nat.le_of_ble_eq_true rfl) ?_
  intro p e s m args below meth c0 F h ls hl
  have hx := F.1
  have hb := F.2.1
  have hl : lv_has ls 1 [(0, .ref (gz g + 348))] := hl
  refine lv_aload_n hx hb dX2_init_0 rfl (lv_at hl 0 rfl) ?_
  refine W.objInit hx hb F.2.2.2.1 (F.2.2.2.2.1 _ (List.mem_cons_of_mem _ wd_224)) (F.2.2.2.2.1 _ (List.mem_cons_of_mem _ wd_31)) (F.2.2.2.2.1 _ (List.mem_cons_of_mem _ wd_32)) rfl (by rw [F.2.2.1]; exact hl.1) rfl dX2_init_1 (Nat.le_of_ble_eq_true rfl) (Nat.le_of_ble_eq_true rfl) ?_
  refine W.eq (g2 := F0 m 4 ls []) rfl ?_
  refine lv_aload_n hx hb dX2_init_4 rfl (lv_at hl 0 rfl) ?_
  refine lv_bipush (v := 70) hx hb dX2_init_5 (by decide) ?_
  refine r_newa (atype := .char) (ty := .char) F h (List.mem_cons_of_mem _ wd_243) rfl 2 rfl (fun _ z => z) (N := 70) (a0 := (70, .inl (fun _ => 0))) (vp_cell_i _ _ _) (by decide) (by decide) (by decide) (by decide) (by decide) dX2_init_7 (fun H h => ?_)
  refine r_putF F h (C := RX2) (T := TX2) (N := 6) (fs' := [.ref (gz g + 349), .int 0, .null, .null, .int 0, .int 0]) (hjc hi_X2) tyX2 tyX2_ok nmX2 rfl ((mu_ne (by decide) _).trans hi) 0 (by decide) (List.mem_cons_of_mem _ wd_225) rfl rfl rfl (rfl) (rfl) (Nat.le_of_ble_eq_true rfl) rfl dX2_init_9 (fun H locs h => ?_)
  refine lv_aload_n hx hb dX2_init_12 rfl (lv_at hl 0 rfl) ?_
  refine lv_bipush (v := 11) hx hb dX2_init_13 (by decide) ?_
  refine r_newa (atype := .int) (ty := .int) F h (List.mem_cons_of_mem _ wd_244) rfl 0 rfl (fun _ z => z) (N := 11) (a0 := (11, .inl (fun _ => 0))) (vp_cell_i _ _ _) (by decide) (by decide) (by decide) (by decide) (by decide) dX2_init_15 (fun H h => ?_)
  refine r_putF F h (C := RX2) (T := TX2) (N := 6) (fs' := [.ref (gz g + 349), .int 0, .ref (gz g + 350), .null, .int 0, .int 0]) (hjc hi_X2) tyX2 tyX2_ok nmX2 rfl ((mu_ne (by decide) _).trans (mu_eq _ _ _)) 2 (by decide) (List.mem_cons_of_mem _ wd_227) rfl rfl rfl (rfl) (rfl) (Nat.le_of_ble_eq_true rfl) rfl dX2_init_17 (fun H locs h => ?_)
  refine r_mem (c1 := (va_up (va_up (va_up c 349 (some (.inl (g.2.1 2, 70, .inl (fun _ => 0))))) 348 (some (.inr (2, [.ref (gz g + 349), .int 0, .ref (gz g + 350), .null, .int 0, .int 0])))) 350 (some (.inl (g.2.1 0, 11, .inl (fun _ => 0)))))) h ((mu_comm (by decide) _ _).trans (congrArg (fun z : Mp => va_up z 350 _) (mu_uu _ _ _ _))) (fun h => ?_)
  refine lv_aload_n hx hb dX2_init_20 rfl (lv_at hl 0 rfl) ?_
  refine lv_bipush (v := 33) hx hb dX2_init_21 (by decide) ?_
  refine r_newa (atype := .int) (ty := .int) F h (List.mem_cons_of_mem _ wd_244) rfl 0 rfl (fun _ z => z) (N := 33) (a0 := (33, .inl (fun _ => 0))) (vp_cell_i _ _ _) (by decide) (by decide) (by decide) (by decide) (by decide) dX2_init_23 (fun H h => ?_)
  refine r_putF F h (C := RX2) (T := TX2) (N := 6) (fs' := [.ref (gz g + 349), .int 0, .ref (gz g + 350), .ref (gz g + 351), .int 0, .int 0]) (hjc hi_X2) tyX2 tyX2_ok nmX2 rfl ((mu_ne (by decide) _).trans ((mu_ne (by decide) _).trans (mu_eq _ _ _))) 3 (by decide) (List.mem_cons_of_mem _ wd_228) rfl rfl rfl (rfl) (rfl) (Nat.le_of_ble_eq_true rfl) rfl dX2_init_25 (fun H locs h => ?_)
  refine r_mem (c1 := (va_up (va_up (va_up (va_up c 349 (some (.inl (g.2.1 2, 70, .inl (fun _ => 0))))) 348 (some (.inr (2, [.ref (gz g + 349), .int 0, .ref (gz g + 350), .ref (gz g + 351), .int 0, .int 0])))) 350 (some (.inl (g.2.1 0, 11, .inl (fun _ => 0))))) 351 (some (.inl (g.2.1 0, 33, .inl (fun _ => 0)))))) h ((mu_comm (by decide) _ _).trans (congrArg (fun z : Mp => va_up z 351 _) ((mu_comm (by decide) _ _).trans (congrArg (fun z : Mp => va_up z 350 _) (mu_uu _ _ _ _))))) (fun h => ?_)
  exact ret_v F h (by decide) (by decide) dX2_init_28 (⟨rfl, ((mu_ne (by decide) _).trans ((mu_ne (by decide) _).trans (mu_eq _ _ _))), ((mu_ne (by decide) _).trans ((mu_ne (by decide) _).trans ((mu_ne (by decide) _).trans (mu_eq _ _ _)))), ((mu_ne (by decide) _).trans (mu_eq _ _ _)), (mu_eq _ _ _), ((((Lo.rfl'.up (by omega)).up (by omega)).up (by omega)).up (by omega))⟩)
