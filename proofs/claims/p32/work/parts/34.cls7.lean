/-! The class: typing, undo, snapshots. -/
/-- the slots: their array, the rows -/
def Sl (g : Gf) (c : Mp) (S : Nat → Nat → Int32) : Prop := c 260 = qsA (g.2.1 3) 2 (fun k => some (gz g + (261 + 43 * k))) ∧ ∀ k : Nat, k < 2 → Bk g c (261 + 43 * k) (S k)
theorem Sl.kept {g : Gf} {c c' : Mp} {S : Nat → Nat → Int32} (h : Sl g c S) (hc : ∀ j : Nat, 260 ≤ j → j < 347 → c' j = c j) : Sl g c' S := ⟨(hc 260 (by decide) (by decide)).trans h.1, fun k hk => (h.2 k hk).kept (fun j _ _ => hc j (by omega) (by omega))⟩
set_option maxHeartbeats 4000000 in
set_option maxRecDepth 100000 in
theorem k_X7_keep_e (l : Launch) (g : Gf) (n : Nat) (c : Mp) (lh : Nat) (ru rs : Int32) (hP : c 0 = plC g (nI lh) ru rs) (R : Nat → Int32) (hB : Bk g c 1 R) (y : Int32) (hy : inI y 0 1 = 0) : Ct l g yX7_keep wsX7_keep 2 42 0 0 [.ref (gz g + 0), .int y] n c (Qi g (fun xr n' c' => xr = -100001 ∧ n' = n ∧ c' = c)) := by
  refine ent (by decide) rfl (Nat.le_of_ble_eq_true rfl) ?_
  intro p e s m args below meth c0 F h ls hl
  have hx := F.1
  have hb := F.2.1
  have hl : lv_has ls 2 [(0, .ref (gz g + 0)), (1, .int y)] := hl
  refine lv_iload_n hx hb dX7_keep_0 rfl (lv_at hl 1 rfl) ?_
  refine u_iE (v := (inI y 0 1)) (ru_S (As := [.int y]) (rest := []) F h (k_X7_isSlot l g n c y) (gS hjl wd_691 wd_692 wd_16 wd_693) rfl 1 (by decide +kernel) rfl ⟨Nat.le_of_ble_eq_true rfl, Nat.le_of_ble_eq_true rfl⟩ rfl hl.1 (Nat.le_of_ble_eq_true rfl) ⟨Nat.zero_le _, Nat.zero_le _⟩ dX7_keep_1) h (fun H locs h => ?_)
  refine lv_if_ne (tgt := 10) hx hb dX7_keep_4 (by decide) (fun b_4 => by first | exact absurd b_4 (hy) | exact absurd (hy) b_4) (fun b_4 => ?_)
  refine lv_ldc (v := (-100001)) hx hb F.2.2.2.1 (F.2.2.2.2.1 (Cond.constant RX7 42 (-100001)) (List.mem_cons_of_mem _ wd_280)) dX7_keep_7 ?_
  exact ret_i F h (Nat.zero_le _) (Nat.zero_le _) dX7_keep_9 (⟨rfl, rfl, rfl⟩)
set_option maxHeartbeats 4000000 in
set_option maxRecDepth 100000 in
theorem k_X7_keep_s (l : Launch) (g : Gf) (n : Nat) (c : Mp) (lh : Nat) (ru rs : Int32) (hP : c 0 = plC g (nI lh) ru rs) (R : Nat → Int32) (hB : Bk g c 1 R) (hW : WB R) (S : Nat → Nat → Int32) (hS : Sl g c S) (zk : Nat → Int32) (hz : c 347 = some (.inl (g.2.1 1, 2, .inl zk))) (y : Int32) (hy : ¬ inI y 0 1 = 0) : Ct l g yX7_keep wsX7_keep 3 65 0 0 [.ref (gz g + 0), .int y] n c (Qi g (fun x n' c' => x = R 0 ∧ n' = n ∧ c' 347 = some (.inl (g.2.1 1, 2, .inl (upd zk (wN y) 1))) ∧ Sl g c' (fun k => if k = wN y then R else S k) ∧ ∀ i : Nat, i < 260 ∨ 348 ≤ i → c' i = c i)) := by
  refine ent (by decide) rfl (Nat.le_of_ble_eq_true rfl) ?_
  intro p e s m args below meth c0 F h ls hl
  have hx := F.1
  have hb := F.2.1
  have hl : lv_has ls 2 [(0, .ref (gz g + 0)), (1, .int y)] := hl
  refine lv_iload_n hx hb dX7_keep_0 rfl (lv_at hl 1 rfl) ?_
  refine u_iE (v := (inI y 0 1)) (ru_S (As := [.int y]) (rest := []) F h (k_X7_isSlot l g n c y) (gS hjl wd_691 wd_692 wd_16 wd_693) rfl 1 (by decide +kernel) rfl ⟨Nat.le_of_ble_eq_true rfl, Nat.le_of_ble_eq_true rfl⟩ rfl hl.1 (Nat.le_of_ble_eq_true rfl) ⟨Nat.zero_le _, Nat.zero_le _⟩ dX7_keep_1) h (fun H locs h => ?_)
  refine lv_if_ne (tgt := 10) hx hb dX7_keep_4 (by decide) (fun b_4 => ?_) (fun b_4 => by first | exact absurd (hy) b_4 | exact absurd b_4 (hy))
  have h_y := inI_w (N := 1) (by decide) hy
  have h4_y : wN y < 2 := h_y.1
  have hl : lv_has ls 2 [(0, .ref (gz g + 0)), (1, .int (nI (wN y)))] := by rw [show (nI (wN y) : Int32) = y from h_y.2]; exact hl
  refine lv_aload_n hx hb dX7_keep_10 rfl (lv_at hl 0 rfl) ?_
  refine r_get F h (C := RX7) (T := TX7) (N := 8) (hjc hi_X7) rfl hP 3 (by decide) (List.mem_cons_of_mem _ wd_248) rfl dX7_keep_11 ?_
  refine lv_iload_n hx hb dX7_keep_14 rfl (lv_at hl 1 rfl) ?_
  refine r_aald F h (C := RX4) hS.1 (t0 := 3) rfl (vp_in_nI (show wN y < 2 by omega) (by decide)) (a := gz g + (261 + 43 * wN y)) (qs_at (fun k => some (gz g + (261 + 43 * k))) (by omega)) dX7_keep_15 ?_
  refine lv_aload_n hx hb dX7_keep_16 rfl (lv_at hl 0 rfl) ?_
  refine r_get F h (C := RX7) (T := TX7) (N := 8) (hjc hi_X7) rfl hP 0 (by decide) (List.mem_cons_of_mem _ wd_245) rfl dX7_keep_17 ?_
  refine u_v (ru_V (As := [.ref (gz g + 1)]) (rest := []) F h ((hS.2 (wN y) (by omega)).1) rfl (k_X4_copyFrom l g n c (261 + 43 * wN y) (S (wN y)) (hS.2 (wN y) (by omega)) 1 R hB (by omega) hW.1 hW.2.1 hW.2.2) (gV hjl wd_290 wd_291 wd_292 wd_17 wd_293) rfl 1 (by decide +kernel) rfl ⟨Nat.le_of_ble_eq_true rfl, Nat.le_of_ble_eq_true rfl⟩ rfl hl.1 (Nat.le_of_ble_eq_true rfl) ⟨Nat.zero_le _, Nat.zero_le _⟩ dX7_keep_20) h (fun n1 c2 H locs hp h => ?_)
  obtain ⟨hn2, hB2, hF2⟩ := hp
  rw [hn2] at h
  refine lv_aload_n hx hb dX7_keep_23 rfl (lv_at hl 0 rfl) ?_
  refine r_get F h (C := RX7) (T := TX7) (N := 8) (hjc hi_X7) rfl ((hF2 0 (by omega)).trans hP) 4 (by decide) (List.mem_cons_of_mem _ wd_249) rfl dX7_keep_24 ?_
  refine lv_iload_n hx hb dX7_keep_27 rfl (lv_at hl 1 rfl) ?_
  refine lv_iconst (v := 1) hx hb dX7_keep_28 (by decide) ?_
  refine r_zastN F h (k := wN y) (f' := upd zk (wN y) 1) ((hF2 347 (by omega)).trans hz) (rfl) (by omega) (by decide) (by decide) dX7_keep_29 (rfl) (fun H locs h => ?_)
  refine lv_aload_n hx hb dX7_keep_30 rfl (lv_at hl 0 rfl) ?_
  refine r_get F h (C := RX7) (T := TX7) (N := 8) (hjc hi_X7) rfl ((mu_ne (by decide) _).trans ((hF2 0 (by omega)).trans hP)) 0 (by decide) (List.mem_cons_of_mem _ wd_245) rfl dX7_keep_31 ?_
  refine r_get F h (C := RX4) (T := TX4) (N := 8) (hjc hi_X4) rfl ((mu_ne (by decide) _).trans ((hB.kept (fun j _ _ => hF2 j (by omega))).1)) 5 (by decide) (List.mem_cons_of_mem _ wd_196) rfl dX7_keep_34 ?_
  exact ret_i F h (Nat.zero_le _) (Nat.zero_le _) dX7_keep_37 (⟨rfl, rfl, mu_eq _ _ _, ⟨(mu_ne (by decide) _).trans ((hF2 260 (by omega)).trans hS.1), fun k hk => by
            by_cases e : k = wN y
            · subst e; simp only [if_pos]; exact hB2.out (by omega)
            · simp only [if_neg e]; exact ((hS.2 k hk).kept (fun j _ _ => hF2 j (by omega))).out (by omega)⟩, fun i hi => (mu_ne (by omega) _).trans (hF2 i (by omega))⟩)
set_option maxHeartbeats 4000000 in
set_option maxRecDepth 100000 in
theorem k_X7_restore_e (l : Launch) (g : Gf) (n : Nat) (c : Mp) (lh : Nat) (ru rs : Int32) (hP : c 0 = plC g (nI lh) ru rs) (R : Nat → Int32) (hB : Bk g c 1 R) (y : Int32) (hy : inI y 0 1 = 0) : Ct l g yX7_restore wsX7_restore 2 42 0 0 [.ref (gz g + 0), .int y] n c (Qi g (fun xr n' c' => xr = -100001 ∧ n' = n ∧ c' = c)) := by
  refine ent (by decide) rfl (Nat.le_of_ble_eq_true rfl) ?_
  intro p e s m args below meth c0 F h ls hl
  have hx := F.1
  have hb := F.2.1
  have hl : lv_has ls 2 [(0, .ref (gz g + 0)), (1, .int y)] := hl
  refine lv_iload_n hx hb dX7_restore_0 rfl (lv_at hl 1 rfl) ?_
  refine u_iE (v := (inI y 0 1)) (ru_S (As := [.int y]) (rest := []) F h (k_X7_isSlot l g n c y) (gS hjl wd_691 wd_692 wd_16 wd_693) rfl 1 (by decide +kernel) rfl ⟨Nat.le_of_ble_eq_true rfl, Nat.le_of_ble_eq_true rfl⟩ rfl hl.1 (Nat.le_of_ble_eq_true rfl) ⟨Nat.zero_le _, Nat.zero_le _⟩ dX7_restore_1) h (fun H locs h => ?_)
  refine lv_if_ne (tgt := 10) hx hb dX7_restore_4 (by decide) (fun b_4 => by first | exact absurd b_4 (hy) | exact absurd (hy) b_4) (fun b_4 => ?_)
  refine lv_ldc (v := (-100001)) hx hb F.2.2.2.1 (F.2.2.2.2.1 (Cond.constant RX7 42 (-100001)) (List.mem_cons_of_mem _ wd_280)) dX7_restore_7 ?_
  exact ret_i F h (Nat.zero_le _) (Nat.zero_le _) dX7_restore_9 (⟨rfl, rfl, rfl⟩)
set_option maxHeartbeats 4000000 in
set_option maxRecDepth 100000 in
theorem k_X7_restore_n (l : Launch) (g : Gf) (n : Nat) (c : Mp) (lh : Nat) (ru rs : Int32) (hP : c 0 = plC g (nI lh) ru rs) (R : Nat → Int32) (hB : Bk g c 1 R) (S : Nat → Nat → Int32) (hS : Sl g c S) (zk : Nat → Int32) (hz : c 347 = some (.inl (g.2.1 1, 2, .inl zk))) (y : Int32) (hy : ¬ inI y 0 1 = 0) (hzz : zk (wN y) = 0) : Ct l g yX7_restore wsX7_restore 2 42 0 0 [.ref (gz g + 0), .int y] n c (Qi g (fun xr n' c' => xr = -100005 ∧ n' = n ∧ c' = c)) := by
  refine ent (by decide) rfl (Nat.le_of_ble_eq_true rfl) ?_
  intro p e s m args below meth c0 F h ls hl
  have hx := F.1
  have hb := F.2.1
  have hl : lv_has ls 2 [(0, .ref (gz g + 0)), (1, .int y)] := hl
  refine lv_iload_n hx hb dX7_restore_0 rfl (lv_at hl 1 rfl) ?_
  refine u_iE (v := (inI y 0 1)) (ru_S (As := [.int y]) (rest := []) F h (k_X7_isSlot l g n c y) (gS hjl wd_691 wd_692 wd_16 wd_693) rfl 1 (by decide +kernel) rfl ⟨Nat.le_of_ble_eq_true rfl, Nat.le_of_ble_eq_true rfl⟩ rfl hl.1 (Nat.le_of_ble_eq_true rfl) ⟨Nat.zero_le _, Nat.zero_le _⟩ dX7_restore_1) h (fun H locs h => ?_)
  refine lv_if_ne (tgt := 10) hx hb dX7_restore_4 (by decide) (fun b_4 => ?_) (fun b_4 => by first | exact absurd (hy) b_4 | exact absurd b_4 (hy))
  have h_y := inI_w (N := 1) (by decide) hy
  have h4_y : wN y < 2 := h_y.1
  have hl : lv_has ls 2 [(0, .ref (gz g + 0)), (1, .int (nI (wN y)))] := by rw [show (nI (wN y) : Int32) = y from h_y.2]; exact hl
  refine lv_aload_n hx hb dX7_restore_10 rfl (lv_at hl 0 rfl) ?_
  refine r_get F h (C := RX7) (T := TX7) (N := 8) (hjc hi_X7) rfl hP 4 (by decide) (List.mem_cons_of_mem _ wd_249) rfl dX7_restore_11 ?_
  refine lv_iload_n hx hb dX7_restore_14 rfl (lv_at hl 1 rfl) ?_
  refine r_zaldN F h (k := wN y) hz (rfl) (by omega) (by decide) dX7_restore_15 ?_
  refine lv_if_ne (tgt := 22) hx hb dX7_restore_16 (by decide) (fun b_16 => by first | exact absurd b_16 (hzz) | exact absurd (hzz) b_16) (fun b_16 => ?_)
  refine lv_ldc (v := (-100005)) hx hb F.2.2.2.1 (F.2.2.2.2.1 (Cond.constant RX7 123 (-100005)) (List.mem_cons_of_mem _ wd_377)) dX7_restore_19 ?_
  exact ret_i F h (Nat.zero_le _) (Nat.zero_le _) dX7_restore_21 (⟨rfl, rfl, rfl⟩)
set_option maxHeartbeats 4000000 in
set_option maxRecDepth 100000 in
theorem k_X7_restore_s (l : Launch) (g : Gf) (n : Nat) (c : Mp) (lh : Nat) (ru rs : Int32) (hP : c 0 = plC g (nI lh) ru rs) (R : Nat → Int32) (hB : Bk g c 1 R) (hk5 : lh ≤ 5) (hq : Nat → Nat → Int32) (hH : Hx g c hq) (hW : WB R) (S : Nat → Nat → Int32) (hS : Sl g c S) (zk : Nat → Int32) (hz : c 347 = some (.inl (g.2.1 1, 2, .inl zk))) (y : Int32) (hy : ¬ inI y 0 1 = 0) (hzz : ¬ zk (wN y) = 0) (hWS : WB (S (wN y))) : Ct l g yX7_restore wsX7_restore 4 85 0 0 [.ref (gz g + 0), .int y] n c (Qi g (fun xr n' c' => PA g c n ru (S (wN y) 0, rs, S (wN y), rmL ru lh, rmQ ru lh hq R) xr n' c')) := by
  refine ent (by decide) rfl (Nat.le_of_ble_eq_true rfl) ?_
  intro p e s m args below meth c0 F h ls hl
  have hx := F.1
  have hb := F.2.1
  have hl : lv_has ls 2 [(0, .ref (gz g + 0)), (1, .int y)] := hl
  refine lv_iload_n hx hb dX7_restore_0 rfl (lv_at hl 1 rfl) ?_
  refine u_iE (v := (inI y 0 1)) (ru_S (As := [.int y]) (rest := []) F h (k_X7_isSlot l g n c y) (gS hjl wd_691 wd_692 wd_16 wd_693) rfl 1 (by decide +kernel) rfl ⟨Nat.le_of_ble_eq_true rfl, Nat.le_of_ble_eq_true rfl⟩ rfl hl.1 (Nat.le_of_ble_eq_true rfl) ⟨Nat.zero_le _, Nat.zero_le _⟩ dX7_restore_1) h (fun H locs h => ?_)
  refine lv_if_ne (tgt := 10) hx hb dX7_restore_4 (by decide) (fun b_4 => ?_) (fun b_4 => by first | exact absurd (hy) b_4 | exact absurd b_4 (hy))
  have h_y := inI_w (N := 1) (by decide) hy
  have h4_y : wN y < 2 := h_y.1
  have hl : lv_has ls 2 [(0, .ref (gz g + 0)), (1, .int (nI (wN y)))] := by rw [show (nI (wN y) : Int32) = y from h_y.2]; exact hl
  refine lv_aload_n hx hb dX7_restore_10 rfl (lv_at hl 0 rfl) ?_
  refine r_get F h (C := RX7) (T := TX7) (N := 8) (hjc hi_X7) rfl hP 4 (by decide) (List.mem_cons_of_mem _ wd_249) rfl dX7_restore_11 ?_
  refine lv_iload_n hx hb dX7_restore_14 rfl (lv_at hl 1 rfl) ?_
  refine r_zaldN F h (k := wN y) hz (rfl) (by omega) (by decide) dX7_restore_15 ?_
  refine lv_if_ne (tgt := 22) hx hb dX7_restore_16 (by decide) (fun b_16 => ?_) (fun b_16 => by first | exact absurd (hzz) b_16 | exact absurd b_16 (hzz))
  refine lv_aload_n hx hb dX7_restore_22 rfl (lv_at hl 0 rfl) ?_
  refine u_v (ru_V (As := []) (rest := []) F h hP rfl (k_X7_remember l g n c lh ru rs hP R hB hk5 hq hH hW) (gV hjl wd_282 wd_284 wd_0 wd_16 wd_285) rfl 0 (by decide +kernel) rfl ⟨Nat.le_of_ble_eq_true rfl, Nat.le_of_ble_eq_true rfl⟩ rfl hl.1 (Nat.le_of_ble_eq_true rfl) ⟨Nat.zero_le _, Nat.zero_le _⟩ dX7_restore_23) h (fun n1 cz1 H locs hp h => ?_)
  obtain ⟨hnz1, hPz1, hBz1, hHz1, hFz1⟩ := hp
  rw [hnz1] at h
  refine lv_aload_n hx hb dX7_restore_26 rfl (lv_at hl 0 rfl) ?_
  refine r_get F h (C := RX7) (T := TX7) (N := 8) (hjc hi_X7) rfl hPz1 0 (by decide) (List.mem_cons_of_mem _ wd_245) rfl dX7_restore_27 ?_
  refine lv_aload_n hx hb dX7_restore_30 rfl (lv_at hl 0 rfl) ?_
  refine r_get F h (C := RX7) (T := TX7) (N := 8) (hjc hi_X7) rfl hPz1 3 (by decide) (List.mem_cons_of_mem _ wd_248) rfl dX7_restore_31 ?_
  refine lv_iload_n hx hb dX7_restore_34 rfl (lv_at hl 1 rfl) ?_
  refine r_aald F h (C := RX4) ((hFz1 260 (by omega)).trans hS.1) (t0 := 3) rfl (vp_in_nI (show wN y < 2 by omega) (by decide)) (a := gz g + (261 + 43 * wN y)) (qs_at (fun k => some (gz g + (261 + 43 * k))) (by omega)) dX7_restore_35 ?_
  refine u_v (ru_V (As := [.ref (gz g + (261 + 43 * wN y))]) (rest := []) F h hBz1.1 rfl (k_X4_copyFrom l g n cz1 1 R hBz1 (261 + 43 * wN y) (S (wN y)) ((hS.2 (wN y) (by omega)).kept (fun j _ _ => hFz1 j (by omega))) (by omega) hWS.1 hWS.2.1 hWS.2.2) (gV hjl wd_290 wd_291 wd_292 wd_17 wd_293) rfl 1 (by decide +kernel) rfl ⟨Nat.le_of_ble_eq_true rfl, Nat.le_of_ble_eq_true rfl⟩ rfl hl.1 (Nat.le_of_ble_eq_true rfl) ⟨Nat.zero_le _, Nat.zero_le _⟩ dX7_restore_36) h (fun n1 cz2 H locs hp h => ?_)
  obtain ⟨hnz2, hBz2, hFz2⟩ := hp
  rw [hnz2] at h
  refine lv_aload_n hx hb dX7_restore_39 rfl (lv_at hl 0 rfl) ?_
  refine r_get F h (C := RX7) (T := TX7) (N := 8) (hjc hi_X7) rfl ((hFz2 _ (by omega)).trans hPz1) 0 (by decide) (List.mem_cons_of_mem _ wd_245) rfl dX7_restore_40 ?_
  refine r_get F h (C := RX4) (T := TX4) (N := 8) (hjc hi_X4) rfl hBz2.1 5 (by decide) (List.mem_cons_of_mem _ wd_196) rfl dX7_restore_43 ?_
  exact ret_i F h (Nat.zero_le _) (Nat.zero_le _) dX7_restore_46 (paE rfl (Nat.le_refl _) ((hFz2 _ (by omega)).trans hPz1) hBz2 (hHz1.fr hFz2 (by decide)) ((Fn.rfl'.fr hFz1 (by decide)).fr hFz2 (by decide)))
