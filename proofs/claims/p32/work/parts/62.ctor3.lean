/-! What is made: the object. -/
set_option maxHeartbeats 4000000 in
set_option maxRecDepth 100000 in
theorem k_X7_init (l : Launch) (g : Gf) (n : Nat) (c : Mp) (hi : c 0 = some (.inr (7, [.null, .null, .int 0, .null, .null, .null, .int 0, .int 0]))) : Ct l g yX7_init wsX7_init 4 74 351 2169 [.ref (gz g + 0)] 1 c (Qv g (fun n' c' => n' = 352 ∧ c' 0 = plC g 0 0 0 ∧ Bk g c' 1 rw0 ∧ Hq g c' (fun k => k) (fun _ => rw0) ∧ Sl g c' (fun _ => rw0) ∧ c' 347 = some (.inl (g.2.1 1, 2, .inl (fun _ => 0))) ∧ c' 348 = otC g 0 0 0 ∧ c' 349 = some (.inl (g.2.1 2, 70, .inl (fun _ => 0))) ∧ c' 350 = iaA (g.2.1 0) 11 (fun _ => 0) ∧ c' 351 = iaA (g.2.1 0) 33 (fun _ => 0))) := by
  refine ent (by decide) rfl (Nat.le_of_ble_eq_true rfl) ?_
  intro p e s m args below meth c0 F h ls hl
  have hx := F.1
  have hb := F.2.1
  have hl : lv_has ls 2 [(0, .ref (gz g + 0))] := hl
  refine lv_aload_n hx hb dX7_init_0 rfl (lv_at hl 0 rfl) ?_
  refine W.objInit hx hb F.2.2.2.1 (F.2.2.2.2.1 _ (List.mem_cons_of_mem _ wd_30)) (F.2.2.2.2.1 _ (List.mem_cons_of_mem _ wd_31)) (F.2.2.2.2.1 _ (List.mem_cons_of_mem _ wd_32)) rfl (by rw [F.2.2.1]; exact hl.1) rfl dX7_init_1 (Nat.le_of_ble_eq_true rfl) (Nat.le_of_ble_eq_true rfl) ?_
  refine W.eq (g2 := F0 m 4 ls []) rfl ?_
  refine lv_aload_n hx hb dX7_init_4 rfl (lv_at hl 0 rfl) ?_
  refine r_new F h (ci := 4) (fs := [.null, .null, .int 0, .null, .int 0, .int 0, .int 0, .int 0]) (C := RX4) (T := TX4) (N := 8) (hjc hi_X4) tyX4 tyX4_ok (List.mem_cons_of_mem _ wd_33) (List.mem_cons_of_mem _ wd_34) (List.mem_cons_of_mem _ wd_17) rfl (fun j hj => by rcases (show j = 0 ∨ j = 1 ∨ j = 2 ∨ j = 3 ∨ j = 4 ∨ j = 5 ∨ j = 6 ∨ j = 7 by omega) with rfl | rfl | rfl | rfl | rfl | rfl | rfl | rfl <;> rfl) (by decide) (by decide) dX7_init_5 (fun H h => ?_)
  refine lv_dup hx hb dX7_init_8 rfl ?_
  refine u_v (ru_I (As := []) (rest := [.ref (gz g + 1), .ref (gz g + 0)]) F h (k_X4_init l g 2 (va_up c 1 (some (.inr (4, [.null, .null, .int 0, .null, .int 0, .int 0, .int 0, .int 0])))) 1 (mu_eq _ _ _)) (gG hjl wd_37) rfl (List.mem_cons_of_mem _ wd_17) (List.mem_cons_of_mem _ wd_35) (List.mem_cons_of_mem _ wd_36) rfl 0 (by decide +kernel) rfl ⟨Nat.le_of_ble_eq_true rfl, Nat.le_of_ble_eq_true rfl⟩ rfl hl.1 (Nat.le_of_ble_eq_true rfl) ⟨by decide, by decide⟩ dX7_init_9) h (fun n1 cz1 H locs hp h => ?_)
  obtain ⟨hnz1, hBz1, hFz1⟩ := hp
  rw [hnz1] at h
  refine r_putF F h (C := RX7) (T := TX7) (N := 8) (fs' := [.ref (gz g + 1), .null, .int 0, .null, .null, .null, .int 0, .int 0]) (hjc hi_X7) tyX7 tyX7_ok nmX7 rfl ((hFz1 _ (by omega)).trans ((mu_ne (by decide) _).trans hi)) 0 (by decide) (List.mem_cons_of_mem _ wd_245) rfl rfl rfl (rfl) (rfl) (Nat.le_of_ble_eq_true rfl) rfl dX7_init_12 (fun H locs h => ?_)
  refine lv_aload_n hx hb dX7_init_15 rfl (lv_at hl 0 rfl) ?_
  refine lv_iconst (v := 5) hx hb dX7_init_16 (by decide) ?_
  refine r_newq F h (List.mem_cons_of_mem _ wd_33) (List.mem_of_getElem? (i := 0) rfl) 3 rfl (N := 5) (by decide) (by decide) (by decide) (by decide) (by decide) dX7_init_17 (fun H h => ?_)
  refine r_putF F h (C := RX7) (T := TX7) (N := 8) (fs' := [.ref (gz g + 1), .ref (gz g + 44), .int 0, .null, .null, .null, .int 0, .int 0]) (hjc hi_X7) tyX7 tyX7_ok nmX7 rfl ((mu_ne (by decide) _).trans (mu_eq _ _ _)) 1 (by decide) (List.mem_cons_of_mem _ wd_246) rfl rfl rfl (rfl) (rfl) (Nat.le_of_ble_eq_true rfl) rfl dX7_init_20 (fun H locs h => ?_)
  refine r_mem (c1 := (va_up (va_up cz1 0 (some (.inr (7, [.ref (gz g + 1), .ref (gz g + 44), .int 0, .null, .null, .null, .int 0, .int 0])))) 44 (some (.inl (g.2.1 3, 5, .inr (.inr (.inr (.inr (fun _ => none))))))))) h ((mu_comm (by decide) _ _).trans (congrArg (fun z : Mp => va_up z 44 _) (mu_uu _ _ _ _))) (fun h => ?_)
  refine lv_iconst (v := 0) hx hb dX7_init_23 (by decide) ?_
  refine lv_istore_n (lv' := [(1, .int 0), (0, .ref (gz g + 0))]) hx hb dX7_init_24 rfl hl (by decide) rfl (fun ls hl => ?_)
  refine lv_iload_n hx hb dX7_init_25 rfl (lv_at hl 0 rfl) ?_
  refine lv_iconst (v := 5) hx hb dX7_init_26 (by decide) ?_
  refine lv_icmp_ge (tgt := 49) hx hb dX7_init_27 (by decide) (fun b_27 => by first | exact absurd b_27 (by decide) | exact absurd (by decide) b_27) (fun b_27 => ?_)
  refine lv_aload_n hx hb dX7_init_30 rfl (lv_at hl 1 rfl) ?_
  refine r_get F h (C := RX7) (T := TX7) (N := 8) (hjc hi_X7) rfl ((mu_ne (by decide) _).trans (mu_eq _ _ _)) 1 (by decide) (List.mem_cons_of_mem _ wd_246) rfl dX7_init_31 ?_
  refine lv_iload_n hx hb dX7_init_34 rfl (lv_at hl 0 rfl) ?_
  refine r_new F h (ci := 4) (fs := [.null, .null, .int 0, .null, .int 0, .int 0, .int 0, .int 0]) (C := RX4) (T := TX4) (N := 8) (hjc hi_X4) tyX4 tyX4_ok (List.mem_cons_of_mem _ wd_33) (List.mem_cons_of_mem _ wd_34) (List.mem_cons_of_mem _ wd_17) rfl (fun j hj => by rcases (show j = 0 ∨ j = 1 ∨ j = 2 ∨ j = 3 ∨ j = 4 ∨ j = 5 ∨ j = 6 ∨ j = 7 by omega) with rfl | rfl | rfl | rfl | rfl | rfl | rfl | rfl <;> rfl) (by decide) (by decide) dX7_init_35 (fun H h => ?_)
  refine lv_dup hx hb dX7_init_38 rfl ?_
  refine u_v (ru_I (As := []) (rest := [.ref (gz g + 45), .int 0, .ref (gz g + 44)]) F h (k_X4_init l g 46 (va_up (va_up (va_up cz1 0 (some (.inr (7, [.ref (gz g + 1), .ref (gz g + 44), .int 0, .null, .null, .null, .int 0, .int 0])))) 44 (some (.inl (g.2.1 3, 5, .inr (.inr (.inr (.inr (fun _ => none)))))))) 45 (some (.inr (4, [.null, .null, .int 0, .null, .int 0, .int 0, .int 0, .int 0])))) 45 (mu_eq _ _ _)) (gG hjl wd_37) rfl (List.mem_cons_of_mem _ wd_17) (List.mem_cons_of_mem _ wd_35) (List.mem_cons_of_mem _ wd_36) rfl 0 (by decide +kernel) rfl ⟨Nat.le_of_ble_eq_true rfl, Nat.le_of_ble_eq_true rfl⟩ rfl hl.1 (Nat.le_of_ble_eq_true rfl) ⟨by decide, by decide⟩ dX7_init_39) h (fun n1 cz2 H locs hp h => ?_)
  obtain ⟨hnz2, hBz2, hFz2⟩ := hp
  rw [hnz2] at h
  refine r_aast F h (r := (RX4, TX4, 8)) ((hFz2 _ (by omega)).trans ((mu_ne (by decide) _).trans (mu_eq _ _ _))) (t0 := 3) rfl hBz2.1 rfl (vp_in_nI (show 0 < 5 by decide) (by decide)) dX7_init_42 (fun H locs h => ?_)
  refine lv_iinc (v := 1) (lv' := [(1, .int 1), (0, .ref (gz g + 0))]) hx hb dX7_init_43 hl (k := 0) rfl (by decide) (by decide) rfl (fun ls hl => ?_)
  refine lv_goto (tgt := 25) hx hb dX7_init_46 (by decide) ?_
  refine lv_iload_n hx hb dX7_init_25 rfl (lv_at hl 0 rfl) ?_
  refine lv_iconst (v := 5) hx hb dX7_init_26 (by decide) ?_
  refine lv_icmp_ge (tgt := 49) hx hb dX7_init_27 (by decide) (fun b_27_1 => by first | exact absurd b_27_1 (by decide) | exact absurd (by decide) b_27_1) (fun b_27_1 => ?_)
  refine lv_aload_n hx hb dX7_init_30 rfl (lv_at hl 1 rfl) ?_
  refine r_get F h (C := RX7) (T := TX7) (N := 8) (hjc hi_X7) rfl ((mu_ne (by decide) _).trans ((hFz2 _ (by omega)).trans ((mu_ne (by decide) _).trans ((mu_ne (by decide) _).trans (mu_eq _ _ _))))) 1 (by decide) (List.mem_cons_of_mem _ wd_246) rfl dX7_init_31 ?_
  refine lv_iload_n hx hb dX7_init_34 rfl (lv_at hl 0 rfl) ?_
  refine r_new F h (ci := 4) (fs := [.null, .null, .int 0, .null, .int 0, .int 0, .int 0, .int 0]) (C := RX4) (T := TX4) (N := 8) (hjc hi_X4) tyX4 tyX4_ok (List.mem_cons_of_mem _ wd_33) (List.mem_cons_of_mem _ wd_34) (List.mem_cons_of_mem _ wd_17) rfl (fun j hj => by rcases (show j = 0 ∨ j = 1 ∨ j = 2 ∨ j = 3 ∨ j = 4 ∨ j = 5 ∨ j = 6 ∨ j = 7 by omega) with rfl | rfl | rfl | rfl | rfl | rfl | rfl | rfl <;> rfl) (by decide) (by decide) dX7_init_35 (fun H h => ?_)
  refine lv_dup hx hb dX7_init_38 rfl ?_
  refine u_v (ru_I (As := []) (rest := [.ref (gz g + 88), .int 1, .ref (gz g + 44)]) F h (k_X4_init l g 89 (va_up (va_up cz2 44 (some (.inl (g.2.1 3, 5, .inr (.inr (.inr (.inr (va_up (fun _ => none) (0 : Int32).toNatClampNeg (some (gz g + 45)))))))))) 88 (some (.inr (4, [.null, .null, .int 0, .null, .int 0, .int 0, .int 0, .int 0])))) 88 (mu_eq _ _ _)) (gG hjl wd_37) rfl (List.mem_cons_of_mem _ wd_17) (List.mem_cons_of_mem _ wd_35) (List.mem_cons_of_mem _ wd_36) rfl 0 (by decide +kernel) rfl ⟨Nat.le_of_ble_eq_true rfl, Nat.le_of_ble_eq_true rfl⟩ rfl hl.1 (Nat.le_of_ble_eq_true rfl) ⟨by decide, by decide⟩ dX7_init_39) h (fun n1 cz3 H locs hp h => ?_)
  obtain ⟨hnz3, hBz3, hFz3⟩ := hp
  rw [hnz3] at h
  refine r_aast F h (r := (RX4, TX4, 8)) ((hFz3 _ (by omega)).trans ((mu_ne (by decide) _).trans (mu_eq _ _ _))) (t0 := 3) rfl hBz3.1 rfl (vp_in_nI (show 1 < 5 by decide) (by decide)) dX7_init_42 (fun H locs h => ?_)
  refine lv_iinc (v := 2) (lv' := [(1, .int 2), (0, .ref (gz g + 0))]) hx hb dX7_init_43 hl (k := 0) rfl (by decide) (by decide) rfl (fun ls hl => ?_)
  refine lv_goto (tgt := 25) hx hb dX7_init_46 (by decide) ?_
  refine lv_iload_n hx hb dX7_init_25 rfl (lv_at hl 0 rfl) ?_
  refine lv_iconst (v := 5) hx hb dX7_init_26 (by decide) ?_
  refine lv_icmp_ge (tgt := 49) hx hb dX7_init_27 (by decide) (fun b_27_2 => by first | exact absurd b_27_2 (by decide) | exact absurd (by decide) b_27_2) (fun b_27_2 => ?_)
  refine lv_aload_n hx hb dX7_init_30 rfl (lv_at hl 1 rfl) ?_
  refine r_get F h (C := RX7) (T := TX7) (N := 8) (hjc hi_X7) rfl ((mu_ne (by decide) _).trans ((hFz3 _ (by omega)).trans ((mu_ne (by decide) _).trans ((mu_ne (by decide) _).trans ((hFz2 _ (by omega)).trans ((mu_ne (by decide) _).trans ((mu_ne (by decide) _).trans (mu_eq _ _ _)))))))) 1 (by decide) (List.mem_cons_of_mem _ wd_246) rfl dX7_init_31 ?_
  refine lv_iload_n hx hb dX7_init_34 rfl (lv_at hl 0 rfl) ?_
  refine r_new F h (ci := 4) (fs := [.null, .null, .int 0, .null, .int 0, .int 0, .int 0, .int 0]) (C := RX4) (T := TX4) (N := 8) (hjc hi_X4) tyX4 tyX4_ok (List.mem_cons_of_mem _ wd_33) (List.mem_cons_of_mem _ wd_34) (List.mem_cons_of_mem _ wd_17) rfl (fun j hj => by rcases (show j = 0 ∨ j = 1 ∨ j = 2 ∨ j = 3 ∨ j = 4 ∨ j = 5 ∨ j = 6 ∨ j = 7 by omega) with rfl | rfl | rfl | rfl | rfl | rfl | rfl | rfl <;> rfl) (by decide) (by decide) dX7_init_35 (fun H h => ?_)
  refine lv_dup hx hb dX7_init_38 rfl ?_
  refine u_v (ru_I (As := []) (rest := [.ref (gz g + 131), .int 2, .ref (gz g + 44)]) F h (k_X4_init l g 132 (va_up (va_up cz3 44 (some (.inl (g.2.1 3, 5, .inr (.inr (.inr (.inr (va_up (va_up (fun _ => none) (0 : Int32).toNatClampNeg (some (gz g + 45))) (1 : Int32).toNatClampNeg (some (gz g + 88)))))))))) 131 (some (.inr (4, [.null, .null, .int 0, .null, .int 0, .int 0, .int 0, .int 0])))) 131 (mu_eq _ _ _)) (gG hjl wd_37) rfl (List.mem_cons_of_mem _ wd_17) (List.mem_cons_of_mem _ wd_35) (List.mem_cons_of_mem _ wd_36) rfl 0 (by decide +kernel) rfl ⟨Nat.le_of_ble_eq_true rfl, Nat.le_of_ble_eq_true rfl⟩ rfl hl.1 (Nat.le_of_ble_eq_true rfl) ⟨by decide, by decide⟩ dX7_init_39) h (fun n1 cz4 H locs hp h => ?_)
  obtain ⟨hnz4, hBz4, hFz4⟩ := hp
  rw [hnz4] at h
  refine r_aast F h (r := (RX4, TX4, 8)) ((hFz4 _ (by omega)).trans ((mu_ne (by decide) _).trans (mu_eq _ _ _))) (t0 := 3) rfl hBz4.1 rfl (vp_in_nI (show 2 < 5 by decide) (by decide)) dX7_init_42 (fun H locs h => ?_)
  refine lv_iinc (v := 3) (lv' := [(1, .int 3), (0, .ref (gz g + 0))]) hx hb dX7_init_43 hl (k := 0) rfl (by decide) (by decide) rfl (fun ls hl => ?_)
  refine lv_goto (tgt := 25) hx hb dX7_init_46 (by decide) ?_
  refine lv_iload_n hx hb dX7_init_25 rfl (lv_at hl 0 rfl) ?_
  refine lv_iconst (v := 5) hx hb dX7_init_26 (by decide) ?_
  refine lv_icmp_ge (tgt := 49) hx hb dX7_init_27 (by decide) (fun b_27_3 => by first | exact absurd b_27_3 (by decide) | exact absurd (by decide) b_27_3) (fun b_27_3 => ?_)
  refine lv_aload_n hx hb dX7_init_30 rfl (lv_at hl 1 rfl) ?_
  refine r_get F h (C := RX7) (T := TX7) (N := 8) (hjc hi_X7) rfl ((mu_ne (by decide) _).trans ((hFz4 _ (by omega)).trans ((mu_ne (by decide) _).trans ((mu_ne (by decide) _).trans ((hFz3 _ (by omega)).trans ((mu_ne (by decide) _).trans ((mu_ne (by decide) _).trans ((hFz2 _ (by omega)).trans ((mu_ne (by decide) _).trans ((mu_ne (by decide) _).trans (mu_eq _ _ _))))))))))) 1 (by decide) (List.mem_cons_of_mem _ wd_246) rfl dX7_init_31 ?_
  refine lv_iload_n hx hb dX7_init_34 rfl (lv_at hl 0 rfl) ?_
  refine r_new F h (ci := 4) (fs := [.null, .null, .int 0, .null, .int 0, .int 0, .int 0, .int 0]) (C := RX4) (T := TX4) (N := 8) (hjc hi_X4) tyX4 tyX4_ok (List.mem_cons_of_mem _ wd_33) (List.mem_cons_of_mem _ wd_34) (List.mem_cons_of_mem _ wd_17) rfl (fun j hj => by rcases (show j = 0 ∨ j = 1 ∨ j = 2 ∨ j = 3 ∨ j = 4 ∨ j = 5 ∨ j = 6 ∨ j = 7 by omega) with rfl | rfl | rfl | rfl | rfl | rfl | rfl | rfl <;> rfl) (by decide) (by decide) dX7_init_35 (fun H h => ?_)
  refine lv_dup hx hb dX7_init_38 rfl ?_
  refine u_v (ru_I (As := []) (rest := [.ref (gz g + 174), .int 3, .ref (gz g + 44)]) F h (k_X4_init l g 175 (va_up (va_up cz4 44 (some (.inl (g.2.1 3, 5, .inr (.inr (.inr (.inr (va_up (va_up (va_up (fun _ => none) (0 : Int32).toNatClampNeg (some (gz g + 45))) (1 : Int32).toNatClampNeg (some (gz g + 88))) (2 : Int32).toNatClampNeg (some (gz g + 131)))))))))) 174 (some (.inr (4, [.null, .null, .int 0, .null, .int 0, .int 0, .int 0, .int 0])))) 174 (mu_eq _ _ _)) (gG hjl wd_37) rfl (List.mem_cons_of_mem _ wd_17) (List.mem_cons_of_mem _ wd_35) (List.mem_cons_of_mem _ wd_36) rfl 0 (by decide +kernel) rfl ⟨Nat.le_of_ble_eq_true rfl, Nat.le_of_ble_eq_true rfl⟩ rfl hl.1 (Nat.le_of_ble_eq_true rfl) ⟨by decide, by decide⟩ dX7_init_39) h (fun n1 cz5 H locs hp h => ?_)
  obtain ⟨hnz5, hBz5, hFz5⟩ := hp
  rw [hnz5] at h
  refine r_aast F h (r := (RX4, TX4, 8)) ((hFz5 _ (by omega)).trans ((mu_ne (by decide) _).trans (mu_eq _ _ _))) (t0 := 3) rfl hBz5.1 rfl (vp_in_nI (show 3 < 5 by decide) (by decide)) dX7_init_42 (fun H locs h => ?_)
  refine lv_iinc (v := 4) (lv' := [(1, .int 4), (0, .ref (gz g + 0))]) hx hb dX7_init_43 hl (k := 0) rfl (by decide) (by decide) rfl (fun ls hl => ?_)
  refine lv_goto (tgt := 25) hx hb dX7_init_46 (by decide) ?_
  refine lv_iload_n hx hb dX7_init_25 rfl (lv_at hl 0 rfl) ?_
  refine lv_iconst (v := 5) hx hb dX7_init_26 (by decide) ?_
  refine lv_icmp_ge (tgt := 49) hx hb dX7_init_27 (by decide) (fun b_27_4 => by first | exact absurd b_27_4 (by decide) | exact absurd (by decide) b_27_4) (fun b_27_4 => ?_)
  refine lv_aload_n hx hb dX7_init_30 rfl (lv_at hl 1 rfl) ?_
  refine r_get F h (C := RX7) (T := TX7) (N := 8) (hjc hi_X7) rfl ((mu_ne (by decide) _).trans ((hFz5 _ (by omega)).trans ((mu_ne (by decide) _).trans ((mu_ne (by decide) _).trans ((hFz4 _ (by omega)).trans ((mu_ne (by decide) _).trans ((mu_ne (by decide) _).trans ((hFz3 _ (by omega)).trans ((mu_ne (by decide) _).trans ((mu_ne (by decide) _).trans ((hFz2 _ (by omega)).trans ((mu_ne (by decide) _).trans ((mu_ne (by decide) _).trans (mu_eq _ _ _)))))))))))))) 1 (by decide) (List.mem_cons_of_mem _ wd_246) rfl dX7_init_31 ?_
  refine lv_iload_n hx hb dX7_init_34 rfl (lv_at hl 0 rfl) ?_
  refine r_new F h (ci := 4) (fs := [.null, .null, .int 0, .null, .int 0, .int 0, .int 0, .int 0]) (C := RX4) (T := TX4) (N := 8) (hjc hi_X4) tyX4 tyX4_ok (List.mem_cons_of_mem _ wd_33) (List.mem_cons_of_mem _ wd_34) (List.mem_cons_of_mem _ wd_17) rfl (fun j hj => by rcases (show j = 0 ∨ j = 1 ∨ j = 2 ∨ j = 3 ∨ j = 4 ∨ j = 5 ∨ j = 6 ∨ j = 7 by omega) with rfl | rfl | rfl | rfl | rfl | rfl | rfl | rfl <;> rfl) (by decide) (by decide) dX7_init_35 (fun H h => ?_)
  refine lv_dup hx hb dX7_init_38 rfl ?_
  refine u_v (ru_I (As := []) (rest := [.ref (gz g + 217), .int 4, .ref (gz g + 44)]) F h (k_X4_init l g 218 (va_up (va_up cz5 44 (some (.inl (g.2.1 3, 5, .inr (.inr (.inr (.inr (va_up (va_up (va_up (va_up (fun _ => none) (0 : Int32).toNatClampNeg (some (gz g + 45))) (1 : Int32).toNatClampNeg (some (gz g + 88))) (2 : Int32).toNatClampNeg (some (gz g + 131))) (3 : Int32).toNatClampNeg (some (gz g + 174)))))))))) 217 (some (.inr (4, [.null, .null, .int 0, .null, .int 0, .int 0, .int 0, .int 0])))) 217 (mu_eq _ _ _)) (gG hjl wd_37) rfl (List.mem_cons_of_mem _ wd_17) (List.mem_cons_of_mem _ wd_35) (List.mem_cons_of_mem _ wd_36) rfl 0 (by decide +kernel) rfl ⟨Nat.le_of_ble_eq_true rfl, Nat.le_of_ble_eq_true rfl⟩ rfl hl.1 (Nat.le_of_ble_eq_true rfl) ⟨by decide, by decide⟩ dX7_init_39) h (fun n1 cz6 H locs hp h => ?_)
  obtain ⟨hnz6, hBz6, hFz6⟩ := hp
  rw [hnz6] at h
  refine r_aast F h (r := (RX4, TX4, 8)) ((hFz6 _ (by omega)).trans ((mu_ne (by decide) _).trans (mu_eq _ _ _))) (t0 := 3) rfl hBz6.1 rfl (vp_in_nI (show 4 < 5 by decide) (by decide)) dX7_init_42 (fun H locs h => ?_)
  refine lv_iinc (v := 5) (lv' := [(1, .int 5), (0, .ref (gz g + 0))]) hx hb dX7_init_43 hl (k := 0) rfl (by decide) (by decide) rfl (fun ls hl => ?_)
  refine lv_goto (tgt := 25) hx hb dX7_init_46 (by decide) ?_
  refine lv_iload_n hx hb dX7_init_25 rfl (lv_at hl 0 rfl) ?_
  refine lv_iconst (v := 5) hx hb dX7_init_26 (by decide) ?_
  refine lv_icmp_ge (tgt := 49) hx hb dX7_init_27 (by decide) (fun b_27_5 => ?_) (fun b_27_5 => by first | exact absurd (by decide) b_27_5 | exact absurd b_27_5 (by decide))
  refine r_arq (fun k => some (gz g + (45 + 43 * k))) h (mu_eq _ _ _) (five rfl rfl rfl rfl rfl) (fun h => ?_)
  refine r_mem (c1 := (va_up cz6 44 (some (.inl (g.2.1 3, 5, .inr (.inr (.inr (.inr (fun k => some (gz g + (45 + 43 * k))))))))))) h (mu_uu _ _ _ _) (fun h => ?_)
  refine lv_aload_n hx hb dX7_init_49 rfl (lv_at hl 1 rfl) ?_
  refine lv_iconst (v := 2) hx hb dX7_init_50 (by decide) ?_
  refine r_newq F h (List.mem_cons_of_mem _ wd_33) (List.mem_of_getElem? (i := 0) rfl) 3 rfl (N := 2) (by decide) (by decide) (by decide) (by decide) (by decide) dX7_init_51 (fun H h => ?_)
  refine r_putF F h (C := RX7) (T := TX7) (N := 8) (fs' := [.ref (gz g + 1), .ref (gz g + 44), .int 0, .ref (gz g + 260), .null, .null, .int 0, .int 0]) (hjc hi_X7) tyX7 tyX7_ok nmX7 rfl ((mu_ne (by decide) _).trans ((mu_ne (by decide) _).trans ((hFz6 _ (by omega)).trans ((mu_ne (by decide) _).trans ((mu_ne (by decide) _).trans ((hFz5 _ (by omega)).trans ((mu_ne (by decide) _).trans ((mu_ne (by decide) _).trans ((hFz4 _ (by omega)).trans ((mu_ne (by decide) _).trans ((mu_ne (by decide) _).trans ((hFz3 _ (by omega)).trans ((mu_ne (by decide) _).trans ((mu_ne (by decide) _).trans ((hFz2 _ (by omega)).trans ((mu_ne (by decide) _).trans ((mu_ne (by decide) _).trans (mu_eq _ _ _)))))))))))))))))) 3 (by decide) (List.mem_cons_of_mem _ wd_248) rfl rfl rfl (rfl) (rfl) (Nat.le_of_ble_eq_true rfl) rfl dX7_init_54 (fun H locs h => ?_)
  refine lv_iconst (v := 0) hx hb dX7_init_57 (by decide) ?_
  refine lv_istore_n (lv' := [(1, .int 0), (0, .ref (gz g + 0))]) hx hb dX7_init_58 rfl hl (by decide) rfl (fun ls hl => ?_)
  refine lv_iload_n hx hb dX7_init_59 rfl (lv_at hl 0 rfl) ?_
  refine lv_iconst (v := 2) hx hb dX7_init_60 (by decide) ?_
  refine lv_icmp_ge (tgt := 83) hx hb dX7_init_61 (by decide) (fun b_61 => by first | exact absurd b_61 (by decide) | exact absurd (by decide) b_61) (fun b_61 => ?_)
  refine lv_aload_n hx hb dX7_init_64 rfl (lv_at hl 1 rfl) ?_
  refine r_get F h (C := RX7) (T := TX7) (N := 8) (hjc hi_X7) rfl (mu_eq _ _ _) 3 (by decide) (List.mem_cons_of_mem _ wd_248) rfl dX7_init_65 ?_
  refine lv_iload_n hx hb dX7_init_68 rfl (lv_at hl 0 rfl) ?_
  refine r_new F h (ci := 4) (fs := [.null, .null, .int 0, .null, .int 0, .int 0, .int 0, .int 0]) (C := RX4) (T := TX4) (N := 8) (hjc hi_X4) tyX4 tyX4_ok (List.mem_cons_of_mem _ wd_33) (List.mem_cons_of_mem _ wd_34) (List.mem_cons_of_mem _ wd_17) rfl (fun j hj => by rcases (show j = 0 ∨ j = 1 ∨ j = 2 ∨ j = 3 ∨ j = 4 ∨ j = 5 ∨ j = 6 ∨ j = 7 by omega) with rfl | rfl | rfl | rfl | rfl | rfl | rfl | rfl <;> rfl) (by decide) (by decide) dX7_init_69 (fun H h => ?_)
  refine lv_dup hx hb dX7_init_72 rfl ?_
  refine u_v (ru_I (As := []) (rest := [.ref (gz g + 261), .int 0, .ref (gz g + 260)]) F h (k_X4_init l g 262 (va_up (va_up (va_up (va_up cz6 44 (some (.inl (g.2.1 3, 5, .inr (.inr (.inr (.inr (fun k => some (gz g + (45 + 43 * k)))))))))) 260 (some (.inl (g.2.1 3, 2, .inr (.inr (.inr (.inr (fun _ => none)))))))) 0 (some (.inr (7, [.ref (gz g + 1), .ref (gz g + 44), .int 0, .ref (gz g + 260), .null, .null, .int 0, .int 0])))) 261 (some (.inr (4, [.null, .null, .int 0, .null, .int 0, .int 0, .int 0, .int 0])))) 261 (mu_eq _ _ _)) (gG hjl wd_37) rfl (List.mem_cons_of_mem _ wd_17) (List.mem_cons_of_mem _ wd_35) (List.mem_cons_of_mem _ wd_36) rfl 0 (by decide +kernel) rfl ⟨Nat.le_of_ble_eq_true rfl, Nat.le_of_ble_eq_true rfl⟩ rfl hl.1 (Nat.le_of_ble_eq_true rfl) ⟨by decide, by decide⟩ dX7_init_73) h (fun n1 cz7 H locs hp h => ?_)
  obtain ⟨hnz7, hBz7, hFz7⟩ := hp
  rw [hnz7] at h
  refine r_aast F h (r := (RX4, TX4, 8)) ((hFz7 _ (by omega)).trans ((mu_ne (by decide) _).trans ((mu_ne (by decide) _).trans (mu_eq _ _ _)))) (t0 := 3) rfl hBz7.1 rfl (vp_in_nI (show 0 < 2 by decide) (by decide)) dX7_init_76 (fun H locs h => ?_)
  refine lv_iinc (v := 1) (lv' := [(1, .int 1), (0, .ref (gz g + 0))]) hx hb dX7_init_77 hl (k := 0) rfl (by decide) (by decide) rfl (fun ls hl => ?_)
  refine lv_goto (tgt := 59) hx hb dX7_init_80 (by decide) ?_
  refine lv_iload_n hx hb dX7_init_59 rfl (lv_at hl 0 rfl) ?_
  refine lv_iconst (v := 2) hx hb dX7_init_60 (by decide) ?_
  refine lv_icmp_ge (tgt := 83) hx hb dX7_init_61 (by decide) (fun b_61_1 => by first | exact absurd b_61_1 (by decide) | exact absurd (by decide) b_61_1) (fun b_61_1 => ?_)
  refine lv_aload_n hx hb dX7_init_64 rfl (lv_at hl 1 rfl) ?_
  refine r_get F h (C := RX7) (T := TX7) (N := 8) (hjc hi_X7) rfl ((mu_ne (by decide) _).trans ((hFz7 _ (by omega)).trans ((mu_ne (by decide) _).trans (mu_eq _ _ _)))) 3 (by decide) (List.mem_cons_of_mem _ wd_248) rfl dX7_init_65 ?_
  refine lv_iload_n hx hb dX7_init_68 rfl (lv_at hl 0 rfl) ?_
  refine r_new F h (ci := 4) (fs := [.null, .null, .int 0, .null, .int 0, .int 0, .int 0, .int 0]) (C := RX4) (T := TX4) (N := 8) (hjc hi_X4) tyX4 tyX4_ok (List.mem_cons_of_mem _ wd_33) (List.mem_cons_of_mem _ wd_34) (List.mem_cons_of_mem _ wd_17) rfl (fun j hj => by rcases (show j = 0 ∨ j = 1 ∨ j = 2 ∨ j = 3 ∨ j = 4 ∨ j = 5 ∨ j = 6 ∨ j = 7 by omega) with rfl | rfl | rfl | rfl | rfl | rfl | rfl | rfl <;> rfl) (by decide) (by decide) dX7_init_69 (fun H h => ?_)
  refine lv_dup hx hb dX7_init_72 rfl ?_
  refine u_v (ru_I (As := []) (rest := [.ref (gz g + 304), .int 1, .ref (gz g + 260)]) F h (k_X4_init l g 305 (va_up (va_up cz7 260 (some (.inl (g.2.1 3, 2, .inr (.inr (.inr (.inr (va_up (fun _ => none) (0 : Int32).toNatClampNeg (some (gz g + 261)))))))))) 304 (some (.inr (4, [.null, .null, .int 0, .null, .int 0, .int 0, .int 0, .int 0])))) 304 (mu_eq _ _ _)) (gG hjl wd_37) rfl (List.mem_cons_of_mem _ wd_17) (List.mem_cons_of_mem _ wd_35) (List.mem_cons_of_mem _ wd_36) rfl 0 (by decide +kernel) rfl ⟨Nat.le_of_ble_eq_true rfl, Nat.le_of_ble_eq_true rfl⟩ rfl hl.1 (Nat.le_of_ble_eq_true rfl) ⟨by decide, by decide⟩ dX7_init_73) h (fun n1 cz8 H locs hp h => ?_)
  obtain ⟨hnz8, hBz8, hFz8⟩ := hp
  rw [hnz8] at h
  refine r_aast F h (r := (RX4, TX4, 8)) ((hFz8 _ (by omega)).trans ((mu_ne (by decide) _).trans (mu_eq _ _ _))) (t0 := 3) rfl hBz8.1 rfl (vp_in_nI (show 1 < 2 by decide) (by decide)) dX7_init_76 (fun H locs h => ?_)
  refine lv_iinc (v := 2) (lv' := [(1, .int 2), (0, .ref (gz g + 0))]) hx hb dX7_init_77 hl (k := 0) rfl (by decide) (by decide) rfl (fun ls hl => ?_)
  refine lv_goto (tgt := 59) hx hb dX7_init_80 (by decide) ?_
  refine lv_iload_n hx hb dX7_init_59 rfl (lv_at hl 0 rfl) ?_
  refine lv_iconst (v := 2) hx hb dX7_init_60 (by decide) ?_
  refine lv_icmp_ge (tgt := 83) hx hb dX7_init_61 (by decide) (fun b_61_2 => ?_) (fun b_61_2 => by first | exact absurd (by decide) b_61_2 | exact absurd b_61_2 (by decide))
  refine r_arq (fun k => some (gz g + (261 + 43 * k))) h (mu_eq _ _ _) (two2 rfl rfl) (fun h => ?_)
  refine r_mem (c1 := (va_up cz8 260 (some (.inl (g.2.1 3, 2, .inr (.inr (.inr (.inr (fun k => some (gz g + (261 + 43 * k))))))))))) h (mu_uu _ _ _ _) (fun h => ?_)
  refine lv_aload_n hx hb dX7_init_83 rfl (lv_at hl 1 rfl) ?_
  refine lv_iconst (v := 2) hx hb dX7_init_84 (by decide) ?_
  refine r_newa (atype := .boolean) (ty := .boolean) F h (List.mem_cons_of_mem _ wd_242) rfl 1 rfl (fun _ z => z) (N := 2) (a0 := (2, .inl (fun _ => 0))) (vp_cell_i _ _ _) (by decide) (by decide) (by decide) (by decide) (by decide) dX7_init_85 (fun H h => ?_)
  refine r_putF F h (C := RX7) (T := TX7) (N := 8) (fs' := [.ref (gz g + 1), .ref (gz g + 44), .int 0, .ref (gz g + 260), .ref (gz g + 347), .null, .int 0, .int 0]) (hjc hi_X7) tyX7 tyX7_ok nmX7 rfl ((mu_ne (by decide) _).trans ((mu_ne (by decide) _).trans ((hFz8 _ (by omega)).trans ((mu_ne (by decide) _).trans ((mu_ne (by decide) _).trans ((hFz7 _ (by omega)).trans ((mu_ne (by decide) _).trans (mu_eq _ _ _)))))))) 4 (by decide) (List.mem_cons_of_mem _ wd_249) rfl rfl rfl (rfl) (rfl) (Nat.le_of_ble_eq_true rfl) rfl dX7_init_87 (fun H locs h => ?_)
  refine lv_aload_n hx hb dX7_init_90 rfl (lv_at hl 1 rfl) ?_
  refine r_new F h (ci := 2) (fs := [.null, .int 0, .null, .null, .int 0, .int 0]) (C := RX2) (T := TX2) (N := 6) (hjc hi_X2) tyX2 tyX2_ok (List.mem_cons_of_mem _ wd_219) (List.mem_cons_of_mem _ wd_220) (List.mem_cons_of_mem _ wd_22) rfl (fun j hj => by rcases (show j = 0 ∨ j = 1 ∨ j = 2 ∨ j = 3 ∨ j = 4 ∨ j = 5 by omega) with rfl | rfl | rfl | rfl | rfl | rfl <;> rfl) (by decide) (by decide) dX7_init_91 (fun H h => ?_)
  refine lv_dup hx hb dX7_init_94 rfl ?_
  refine u_v (ru_I (As := []) (rest := [.ref (gz g + 348), .ref (gz g + 0)]) F h (k_X2_init l g 349 (va_up (va_up (va_up (va_up cz8 260 (some (.inl (g.2.1 3, 2, .inr (.inr (.inr (.inr (fun k => some (gz g + (261 + 43 * k)))))))))) 347 (some (.inl (g.2.1 1, 2, .inl (fun _ => 0))))) 0 (some (.inr (7, [.ref (gz g + 1), .ref (gz g + 44), .int 0, .ref (gz g + 260), .ref (gz g + 347), .null, .int 0, .int 0])))) 348 (some (.inr (2, [.null, .int 0, .null, .null, .int 0, .int 0])))) (mu_eq _ _ _)) (gG hjl wd_223) rfl (List.mem_cons_of_mem _ wd_22) (List.mem_cons_of_mem _ wd_221) (List.mem_cons_of_mem _ wd_222) rfl 0 (by decide +kernel) rfl ⟨Nat.le_of_ble_eq_true rfl, Nat.le_of_ble_eq_true rfl⟩ rfl hl.1 (Nat.le_of_ble_eq_true rfl) ⟨by decide, by decide⟩ dX7_init_95) h (fun n1 cz9 H locs hp h => ?_)
  obtain ⟨hnz9, hXz9, hYz9, hUz9, hVz9, hLz9⟩ := hp
  rw [hnz9] at h
  refine r_putF F h (C := RX7) (T := TX7) (N := 8) (fs' := [.ref (gz g + 1), .ref (gz g + 44), .int 0, .ref (gz g + 260), .ref (gz g + 347), .ref (gz g + 348), .int 0, .int 0]) (hjc hi_X7) tyX7 tyX7_ok nmX7 rfl ((hLz9 _ (by omega)).trans ((mu_ne (by decide) _).trans (mu_eq _ _ _))) 5 (by decide) (List.mem_cons_of_mem _ wd_250) rfl rfl rfl (rfl) (rfl) (Nat.le_of_ble_eq_true rfl) rfl dX7_init_98 (fun H locs h => ?_)
  refine lv_aload_n hx hb dX7_init_101 rfl (lv_at hl 1 rfl) ?_
  refine lv_iconst (v := 0) hx hb dX7_init_102 (by decide) ?_
  refine r_put F h (C := RX7) (T := TX7) (N := 8) (fs' := [.ref (gz g + 1), .ref (gz g + 44), .int 0, .ref (gz g + 260), .ref (gz g + 347), .ref (gz g + 348), .int 0, .int 0]) (hjc hi_X7) tyX7 tyX7_ok nmX7 rfl (mu_eq _ _ _) 7 (by decide) (List.mem_cons_of_mem _ wd_252) rfl (rfl) (rfl) (Nat.le_of_ble_eq_true rfl) rfl dX7_init_103 (fun H locs h => ?_)
  refine r_mem (c1 := (va_up cz9 0 (some (.inr (7, [.ref (gz g + 1), .ref (gz g + 44), .int 0, .ref (gz g + 260), .ref (gz g + 347), .ref (gz g + 348), .int 0, .int 0]))))) h (mu_uu _ _ _ _) (fun h => ?_)
  exact ret_v F h (by decide) (by decide) dX7_init_106 (⟨rfl, (mu_eq _ _ _), ((((((((((((((((((((((((((((((hBz1.out (by omega)).out (by omega)).out (by omega)).lo hFz2 (by omega)).out (by omega)).out (by omega)).lo hFz3 (by omega)).out (by omega)).out (by omega)).lo hFz4 (by omega)).out (by omega)).out (by omega)).lo hFz5 (by omega)).out (by omega)).out (by omega)).lo hFz6 (by omega)).out (by omega)).out (by omega)).out (by omega)).out (by omega)).lo hFz7 (by omega)).out (by omega)).out (by omega)).lo hFz8 (by omega)).out (by omega)).out (by omega)).out (by omega)).out (by omega)).lo hLz9 (by omega)).out (by omega)), ⟨((mu_ne (by decide) _).trans ((hLz9 _ (by omega)).trans ((mu_ne (by decide) _).trans ((mu_ne (by decide) _).trans ((mu_ne (by decide) _).trans ((mu_ne (by decide) _).trans ((hFz8 _ (by omega)).trans ((mu_ne (by decide) _).trans ((mu_ne (by decide) _).trans ((hFz7 _ (by omega)).trans ((mu_ne (by decide) _).trans ((mu_ne (by decide) _).trans ((mu_ne (by decide) _).trans (mu_eq _ _ _)))))))))))))), ⟨fun _ h => h, fun _ _ _ _ h => h⟩, five ((((((((((((((((((((((((((hBz2.out (by omega)).out (by omega)).lo hFz3 (by omega)).out (by omega)).out (by omega)).lo hFz4 (by omega)).out (by omega)).out (by omega)).lo hFz5 (by omega)).out (by omega)).out (by omega)).lo hFz6 (by omega)).out (by omega)).out (by omega)).out (by omega)).out (by omega)).lo hFz7 (by omega)).out (by omega)).out (by omega)).lo hFz8 (by omega)).out (by omega)).out (by omega)).out (by omega)).out (by omega)).lo hLz9 (by omega)).out (by omega)) (((((((((((((((((((((((hBz3.out (by omega)).out (by omega)).lo hFz4 (by omega)).out (by omega)).out (by omega)).lo hFz5 (by omega)).out (by omega)).out (by omega)).lo hFz6 (by omega)).out (by omega)).out (by omega)).out (by omega)).out (by omega)).lo hFz7 (by omega)).out (by omega)).out (by omega)).lo hFz8 (by omega)).out (by omega)).out (by omega)).out (by omega)).out (by omega)).lo hLz9 (by omega)).out (by omega)) ((((((((((((((((((((hBz4.out (by omega)).out (by omega)).lo hFz5 (by omega)).out (by omega)).out (by omega)).lo hFz6 (by omega)).out (by omega)).out (by omega)).out (by omega)).out (by omega)).lo hFz7 (by omega)).out (by omega)).out (by omega)).lo hFz8 (by omega)).out (by omega)).out (by omega)).out (by omega)).out (by omega)).lo hLz9 (by omega)).out (by omega)) (((((((((((((((((hBz5.out (by omega)).out (by omega)).lo hFz6 (by omega)).out (by omega)).out (by omega)).out (by omega)).out (by omega)).lo hFz7 (by omega)).out (by omega)).out (by omega)).lo hFz8 (by omega)).out (by omega)).out (by omega)).out (by omega)).out (by omega)).lo hLz9 (by omega)).out (by omega)) ((((((((((((((hBz6.out (by omega)).out (by omega)).out (by omega)).out (by omega)).lo hFz7 (by omega)).out (by omega)).out (by omega)).lo hFz8 (by omega)).out (by omega)).out (by omega)).out (by omega)).out (by omega)).lo hLz9 (by omega)).out (by omega))⟩, ⟨((mu_ne (by decide) _).trans ((hLz9 _ (by omega)).trans ((mu_ne (by decide) _).trans ((mu_ne (by decide) _).trans ((mu_ne (by decide) _).trans (mu_eq _ _ _)))))), two2 (((((((((hBz7.out (by omega)).out (by omega)).lo hFz8 (by omega)).out (by omega)).out (by omega)).out (by omega)).out (by omega)).lo hLz9 (by omega)).out (by omega)) ((((((hBz8.out (by omega)).out (by omega)).out (by omega)).out (by omega)).lo hLz9 (by omega)).out (by omega))⟩, ((mu_ne (by decide) _).trans ((hLz9 _ (by omega)).trans ((mu_ne (by decide) _).trans ((mu_ne (by decide) _).trans (mu_eq _ _ _))))), ((mu_ne (by decide) _).trans hXz9), ((mu_ne (by decide) _).trans hYz9), ((mu_ne (by decide) _).trans hUz9), ((mu_ne (by decide) _).trans hVz9)⟩)
