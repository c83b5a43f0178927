/-! The reference: undo, snapshots, calm, counts, typing. -/
set_option maxHeartbeats 4000000 in
set_option maxRecDepth 100000 in
theorem k_X8_undo_e (l : Launch) (g : Gf) (n : Nat) (c : Mp) (b : Nat) (rs ty pl fa od : Int32) (hm : c b = moC g b 0 rs ty pl fa od) : Ct l g yX8_undo wsX8_undo 0 0 0 0 [.ref (gz g + b)] n c (Qi g (fun xr n' c' => xr = -100005 ∧ n' = n ∧ c' = c)) := by
  refine ent (by decide) rfl (Nat.le_of_ble_eq_true rfl) ?_
  intro p e s m args below meth c0 F h ls hl
  have hx := F.1
  have hb := F.2.1
  have hl : lv_has ls 2 [(0, .ref (gz g + b))] := hl
  refine lv_aload_n hx hb dX8_undo_0 rfl (lv_at hl 0 rfl) ?_
  refine r_get F h (C := RX8) (T := TX8) (N := 13) (hjc hi_X8) rfl hm 3 (by decide) (List.mem_cons_of_mem _ wd_831) rfl dX8_undo_1 ?_
  refine lv_if_ne (tgt := 10) hx hb dX8_undo_4 (by decide) (fun b_4 => by first | exact absurd b_4 (by decide) | exact absurd (by decide) b_4) (fun b_4 => ?_)
  refine lv_ldc (v := (-100005)) hx hb F.2.2.2.1 (F.2.2.2.2.1 (Cond.constant RX8 44 (-100005)) (List.mem_cons_of_mem _ wd_872)) dX8_undo_7 ?_
  exact ret_i F h (Nat.zero_le _) (Nat.zero_le _) dX8_undo_9 (⟨rfl, rfl, rfl⟩)
set_option maxHeartbeats 4000000 in
set_option maxRecDepth 100000 in
theorem k_X8_undo_s (l : Launch) (g : Gf) (n : Nat) (c : Mp) (b : Nat) (k0 : Nat) (hk0 : k0 < 5) (rs ty pl fa od : Int32) (hm : c b = moC g b (nI (k0 + 1)) rs ty pl fa od) (r : Nat → Int32) (hr : c (b + 1) = iaA (g.2.1 0) 204 r) (hh : Nat → Int32) (hc3 : c (b + 3) = iaA (g.2.1 0) 1020 hh) : Ct l g yX8_undo wsX8_undo 0 0 0 0 [.ref (gz g + b)] n c (Qi g (fun x n' c' => x = nI k0 ∧ n' = n ∧ c' = va_up (va_up c b (moC g b (nI k0) rs ty pl fa od)) (b + 1) (iaA (g.2.1 0) 204 (fun q => hh (204 * k0 + q))))) := by
  refine ent (by decide) rfl (Nat.le_of_ble_eq_true rfl) ?_
  intro p e s m args below meth c0 F h ls hl
  have hx := F.1
  have hb := F.2.1
  have hl : lv_has ls 2 [(0, .ref (gz g + b))] := hl
  refine lv_aload_n hx hb dX8_undo_0 rfl (lv_at hl 0 rfl) ?_
  refine r_get F h (C := RX8) (T := TX8) (N := 13) (hjc hi_X8) rfl hm 3 (by decide) (List.mem_cons_of_mem _ wd_831) rfl dX8_undo_1 ?_
  refine lv_if_ne (tgt := 10) hx hb dX8_undo_4 (by decide) (fun b_4 => ?_) (fun b_4 => by first | exact absurd (nI_ne0 (by omega) (by omega)) b_4 | exact absurd b_4 (nI_ne0 (by omega) (by omega)))
  refine lv_aload_n hx hb dX8_undo_10 rfl (lv_at hl 0 rfl) ?_
  refine lv_dup hx hb dX8_undo_11 rfl ?_
  refine r_get F h (C := RX8) (T := TX8) (N := 13) (hjc hi_X8) rfl hm 3 (by decide) (List.mem_cons_of_mem _ wd_831) rfl dX8_undo_12 ?_
  refine lv_iconst (v := 1) hx hb dX8_undo_15 (by decide) ?_
  refine lv_isub hx hb dX8_undo_16 ?_
  refine r_top (w := .int (nI k0)) (congrArg Value.int (nI_pred k0)) ?_
  refine r_put F h (C := RX8) (T := TX8) (N := 13) (fs' := [.ref (gz g + (b + 1)), .ref (gz g + (b + 2)), .ref (gz g + (b + 3)), .int (nI k0), .ref (gz g + (b + 4)), .ref (gz g + (b + 5)), .int rs, .int ty, .ref (gz g + (b + 6)), .int pl, .int fa, .int od, .ref (gz g + (b + 7))]) (hjc hi_X8) tyX8 tyX8_ok nmX8 rfl hm 3 (by decide) (List.mem_cons_of_mem _ wd_831) rfl (rfl) (rfl) (Nat.le_of_ble_eq_true rfl) rfl dX8_undo_17 (fun H locs h => ?_)
  refine lv_iconst (v := 0) hx hb dX8_undo_20 (by decide) ?_
  refine lv_istore_n (lv' := [(1, .int 0), (0, .ref (gz g + b))]) hx hb dX8_undo_21 rfl hl (by decide) rfl (fun ls hl => ?_)
  refine r_mem (c1 := (va_up (va_up c b (moC g b (nI k0) rs ty pl fa od)) (b + 1) (iaA (g.2.1 0) 204 (fa_fill (fun q => hh (204 * k0 + q)) r 0)))) h (by rw [fa_fill_0]; exact (mu_self ((mu_ne (by omega) _).trans hr)).symm) (fun h => ?_)
  have lp : ∀ (k : Nat) (k1 : Nat) (hw : k1 ≤ 204) (H : Heap) (locs : List Loc) (ls : Array Slot), (205 - k1) ≤ k → Hv g s H locs n (va_up (va_up c b (some (.inr (8, [.ref (gz g + (b + 1)), .ref (gz g + (b + 2)), .ref (gz g + (b + 3)), .int (nI k0), .ref (gz g + (b + 4)), .ref (gz g + (b + 5)), .int rs, .int ty, .ref (gz g + (b + 6)), .int pl, .int fa, .int od, .ref (gz g + (b + 7))])))) (b + 1) (some (.inl (g.2.1 0, 204, .inl (fa_fill (fun q => hh (204 * k0 + q)) r k1))))) → lv_has ls 2 [(0, .ref (gz g + b)), (1, .int (nI k1))] → W p l e (Rm 0 0 0 0) s m args below meth c0 H locs 0 0 (MQ below (Qi g (fun x n' c' => x = nI k0 ∧ n' = n ∧ c' = va_up (va_up c b (moC g b (nI k0) rs ty pl fa od)) (b + 1) (iaA (g.2.1 0) 204 (fun q => hh (204 * k0 + q))))) args s 0 0 (mAf g)) (F0 m 22 ls []) := by
    intro k
    induction k with
    | zero => intro k1 hw H locs ls hk h hl; exact absurd hk (by omega)
    | succ k ih =>
      intro k1 hw H locs ls hk h hl
      refine lv_iload_n hx hb dX8_undo_22 rfl (lv_at hl 1 rfl) ?_
      refine lv_sipush (v := 204) hx hb dX8_undo_23 (by decide) ?_
      refine lv_icmp_ge (tgt := 56) hx hb dX8_undo_26 (by decide) (fun b_26 => ?_) (fun b_26 => ?_)
      · skip
        have e4 : k1 = 204 := by have := lp_ge (N := 204) rfl (by omega) (by decide) b_26; omega
        refine r_arr (fun q => hh (204 * k0 + q)) h (mu_eq _ _ _) (fun k hk => fa_fill_in (by omega)) (fun h => ?_)
        refine r_mem h (mu_uu _ _ _ _) (fun h => ?_)
        refine lv_aload_n hx hb dX8_undo_56 rfl (lv_at hl 0 rfl) ?_
        refine r_get F h (C := RX8) (T := TX8) (N := 13) (hjc hi_X8) rfl ((mu_ne (by omega) _).trans (mu_eq _ _ _)) 3 (by decide) (List.mem_cons_of_mem _ wd_831) rfl dX8_undo_57 ?_
        exact ret_i F h (Nat.zero_le _) (Nat.zero_le _) dX8_undo_60 (⟨rfl, rfl, rfl⟩)
      have hw4 : k1 < 204 := lp_lt (N := 204) rfl (by omega) (by decide) b_26
      refine lv_aload_n hx hb dX8_undo_29 rfl (lv_at hl 0 rfl) ?_
      refine r_get F h (C := RX8) (T := TX8) (N := 13) (hjc hi_X8) rfl ((mu_ne (by omega) _).trans (mu_eq _ _ _)) 0 (by decide) (List.mem_cons_of_mem _ wd_828) rfl dX8_undo_30 ?_
      refine lv_iload_n hx hb dX8_undo_33 rfl (lv_at hl 1 rfl) ?_
      refine lv_aload_n hx hb dX8_undo_34 rfl (lv_at hl 0 rfl) ?_
      refine r_get F h (C := RX8) (T := TX8) (N := 13) (hjc hi_X8) rfl ((mu_ne (by omega) _).trans (mu_eq _ _ _)) 2 (by decide) (List.mem_cons_of_mem _ wd_830) rfl dX8_undo_35 ?_
      refine lv_sipush (v := 204) hx hb dX8_undo_38 (by decide) ?_
      refine lv_aload_n hx hb dX8_undo_41 rfl (lv_at hl 0 rfl) ?_
      refine r_get F h (C := RX8) (T := TX8) (N := 13) (hjc hi_X8) rfl ((mu_ne (by omega) _).trans (mu_eq _ _ _)) 3 (by decide) (List.mem_cons_of_mem _ wd_831) rfl dX8_undo_42 ?_
      refine lv_imul hx hb dX8_undo_45 ?_
      refine lv_iload_n hx hb dX8_undo_46 rfl (lv_at hl 1 rfl) ?_
      refine lv_iadd hx hb dX8_undo_47 ?_
      refine r_ialdN F h (k := 204 * k0 + k1) ((mu_ne (by omega) _).trans ((mu_ne (by omega) _).trans hc3)) (by simp only [fa_lit, pk_mul, nI_add]; first | done | (refine congrArg nI ?_; omega)) (by omega) (by decide) dX8_undo_48 ?_
      refine r_iastN F h (k := k1) (f' := fa_fill (fun q => hh (204 * k0 + q)) r (k1 + 1)) (mu_eq _ _ _) (rfl) (hw4) (by decide) dX8_undo_49 (fa_fill_succ (fun q => hh (204 * k0 + q)) r k1) (fun H locs h => ?_)
      refine r_mem (c1 := (va_up (va_up c b (some (.inr (8, [.ref (gz g + (b + 1)), .ref (gz g + (b + 2)), .ref (gz g + (b + 3)), .int (nI k0), .ref (gz g + (b + 4)), .ref (gz g + (b + 5)), .int rs, .int ty, .ref (gz g + (b + 6)), .int pl, .int fa, .int od, .ref (gz g + (b + 7))])))) (b + 1) (some (.inl (g.2.1 0, 204, .inl (fa_fill (fun q => hh (204 * k0 + q)) r (k1 + 1))))))) h (mu_uu _ _ _ _) (fun h => ?_)
      refine lv_iinc (v := nI (k1 + 1)) (lv' := [(1, .int (nI (k1 + 1))), (0, .ref (gz g + b))]) hx hb dX8_undo_50 hl (k := 1) rfl (by exact (nI_succ k1).symm) (by decide) rfl (fun ls hl => ?_)
      refine lv_goto (tgt := 22) hx hb dX8_undo_53 (by decide) ?_
      exact ih (k1 + 1) (by omega) _ _ _ (by omega) h (lv_sub hl [1, 0] rfl)
  exact lp _ 0 (Nat.zero_le _) _ _ _ (Nat.le_refl _) h (lv_sub hl [1, 0] rfl)
set_option maxHeartbeats 4000000 in
set_option maxRecDepth 100000 in
theorem k_X8_keep_e (l : Launch) (g : Gf) (n : Nat) (c : Mp) (b : Nat) (kp rs ty pl fa od : Int32) (hm : c b = moC g b kp rs ty pl fa od) (r : Nat → Int32) (hr : c (b + 1) = iaA (g.2.1 0) 204 r) (sl : Nat → Int32) (hc4 : c (b + 4) = iaA (g.2.1 0) 408 sl) (zk : Nat → Int32) (hc5 : c (b + 5) = iaA (g.2.1 1) 2 zk) (y : Int32) (hy : inI y 0 1 = 0) : Ct l g yX8_keep wsX8_keep 1 22 0 0 [.ref (gz g + b), .int y] n c (Qi g (fun xr n' c' => xr = -100001 ∧ n' = n ∧ c' = c)) := by
  refine ent (by decide) rfl (Nat.le_of_ble_eq_true rfl) ?_
  intro p e s m args below meth c0 F h ls hl
  have hx := F.1
  have hb := F.2.1
  have hl : lv_has ls 3 [(0, .ref (gz g + b)), (1, .int y)] := hl
  refine lv_iload_n hx hb dX8_keep_0 rfl (lv_at hl 1 rfl) ?_
  refine lv_iconst (v := 0) hx hb dX8_keep_1 (by decide) ?_
  refine lv_iconst (v := 1) hx hb dX8_keep_2 (by decide) ?_
  refine u_iE (v := (inI y 0 1)) (ru_S (As := [.int y, .int 0, .int 1]) (rest := []) F h (k_X8_in l g n c y 0 1) (gS hjl wd_877 wd_878 wd_58 wd_879) rfl 3 (by decide +kernel) rfl ⟨Nat.le_of_ble_eq_true rfl, Nat.le_of_ble_eq_true rfl⟩ rfl hl.1 (Nat.le_of_ble_eq_true rfl) ⟨Nat.zero_le _, Nat.zero_le _⟩ dX8_keep_3) h (fun H locs h => ?_)
  refine lv_if_ne (tgt := 12) hx hb dX8_keep_6 (by decide) (fun b_6 => by first | exact absurd b_6 (hy) | exact absurd (hy) b_6) (fun b_6 => ?_)
  refine lv_ldc (v := (-100001)) hx hb F.2.2.2.1 (F.2.2.2.2.1 (Cond.constant RX8 40 (-100001)) (List.mem_cons_of_mem _ wd_880)) dX8_keep_9 ?_
  exact ret_i F h (Nat.zero_le _) (Nat.zero_le _) dX8_keep_11 (⟨rfl, rfl, rfl⟩)
set_option maxHeartbeats 4000000 in
set_option maxRecDepth 100000 in
theorem k_X8_keep_s (l : Launch) (g : Gf) (n : Nat) (c : Mp) (b : Nat) (kp rs ty pl fa od : Int32) (hm : c b = moC g b kp rs ty pl fa od) (r : Nat → Int32) (hr : c (b + 1) = iaA (g.2.1 0) 204 r) (sl : Nat → Int32) (hc4 : c (b + 4) = iaA (g.2.1 0) 408 sl) (zk : Nat → Int32) (hc5 : c (b + 5) = iaA (g.2.1 1) 2 zk) (y : Int32) (hy : ¬ inI y 0 1 = 0) : Ct l g yX8_keep wsX8_keep 1 22 0 0 [.ref (gz g + b), .int y] n c (Qi g (fun x n' c' => x = r 0 ∧ n' = n ∧ c' = va_up (va_up c (b + 5) (some (.inl (g.2.1 1, 2, .inl (upd zk (wN y) 1))))) (b + 4) (iaA (g.2.1 0) 408 (fb_put sl r (204 * wN y) 204)))) := by
  refine ent (by decide) rfl (Nat.le_of_ble_eq_true rfl) ?_
  intro p e s m args below meth c0 F h ls hl
  have hx := F.1
  have hb := F.2.1
  have hl : lv_has ls 3 [(0, .ref (gz g + b)), (1, .int y)] := hl
  refine lv_iload_n hx hb dX8_keep_0 rfl (lv_at hl 1 rfl) ?_
  refine lv_iconst (v := 0) hx hb dX8_keep_1 (by decide) ?_
  refine lv_iconst (v := 1) hx hb dX8_keep_2 (by decide) ?_
  refine u_iE (v := (inI y 0 1)) (ru_S (As := [.int y, .int 0, .int 1]) (rest := []) F h (k_X8_in l g n c y 0 1) (gS hjl wd_877 wd_878 wd_58 wd_879) rfl 3 (by decide +kernel) rfl ⟨Nat.le_of_ble_eq_true rfl, Nat.le_of_ble_eq_true rfl⟩ rfl hl.1 (Nat.le_of_ble_eq_true rfl) ⟨Nat.zero_le _, Nat.zero_le _⟩ dX8_keep_3) h (fun H locs h => ?_)
  refine lv_if_ne (tgt := 12) hx hb dX8_keep_6 (by decide) (fun b_6 => ?_) (fun b_6 => by first | exact absurd (hy) b_6 | exact absurd b_6 (hy))
  have h_y := inI_w (N := 1) (by decide) hy
  have h4_y : wN y < 2 := h_y.1
  have hl : lv_has ls 3 [(0, .ref (gz g + b)), (1, .int (nI (wN y)))] := by rw [show (nI (wN y) : Int32) = y from h_y.2]; exact hl
  refine lv_aload_n hx hb dX8_keep_12 rfl (lv_at hl 0 rfl) ?_
  refine r_get F h (C := RX8) (T := TX8) (N := 13) (hjc hi_X8) rfl hm 5 (by decide) (List.mem_cons_of_mem _ wd_833) rfl dX8_keep_13 ?_
  refine lv_iload_n hx hb dX8_keep_16 rfl (lv_at hl 1 rfl) ?_
  refine lv_iconst (v := 1) hx hb dX8_keep_17 (by decide) ?_
  refine r_zastN F h (k := wN y) (f' := upd zk (wN y) 1) hc5 (rfl) (by omega) (by decide) (by decide) dX8_keep_18 (rfl) (fun H locs h => ?_)
  refine lv_iconst (v := 0) hx hb dX8_keep_19 (by decide) ?_
  refine lv_istore_n (lv' := [(2, .int 0), (0, .ref (gz g + b)), (1, .int (nI (wN y)))]) hx hb dX8_keep_20 rfl hl (by decide) rfl (fun ls hl => ?_)
  refine r_mem (c1 := (va_up (va_up c (b + 5) (some (.inl (g.2.1 1, 2, .inl (upd zk (wN y) 1))))) (b + 4) (iaA (g.2.1 0) 408 (fb_put sl r (204 * wN y) 0)))) h (by rw [fb_put_0]; exact (mu_self ((mu_ne (by omega) _).trans hc4)).symm) (fun h => ?_)
  have lp : ∀ (k : Nat) (k1 : Nat) (hw : k1 ≤ 204) (H : Heap) (locs : List Loc) (ls : Array Slot), (205 - k1) ≤ k → Hv g s H locs n (va_up (va_up c (b + 5) (some (.inl (g.2.1 1, 2, .inl (upd zk (wN y) 1))))) (b + 4) (some (.inl (g.2.1 0, 408, .inl (fb_put sl r (204 * wN y) k1))))) → lv_has ls 3 [(0, .ref (gz g + b)), (1, .int (nI (wN y))), (2, .int (nI k1))] → W p l e (Rm 1 22 0 0) s m args below meth c0 H locs 0 0 (MQ below (Qi g (fun x n' c' => x = r 0 ∧ n' = n ∧ c' = va_up (va_up c (b + 5) (some (.inl (g.2.1 1, 2, .inl (upd zk (wN y) 1))))) (b + 4) (iaA (g.2.1 0) 408 (fb_put sl r (204 * wN y) 204)))) args s 0 0 (mAf g)) (F0 m 21 ls []) := by
    intro k
    induction k with
    | zero => intro k1 hw H locs ls hk h hl; exact absurd hk (by omega)
    | succ k ih =>
      intro k1 hw H locs ls hk h hl
      refine lv_iload_n hx hb dX8_keep_21 rfl (lv_at hl 2 rfl) ?_
      refine lv_sipush (v := 204) hx hb dX8_keep_22 (by decide) ?_
      refine lv_icmp_ge (tgt := 52) hx hb dX8_keep_25 (by decide) (fun b_25 => ?_) (fun b_25 => ?_)
      · skip
        have e4 : k1 = 204 := by have := lp_ge (N := 204) rfl (by omega) (by decide) b_25; omega
        subst e4
        refine lv_aload_n hx hb dX8_keep_52 rfl (lv_at hl 0 rfl) ?_
        refine r_get F h (C := RX8) (T := TX8) (N := 13) (hjc hi_X8) rfl ((mu_ne (by omega) _).trans ((mu_ne (by omega) _).trans hm)) 0 (by decide) (List.mem_cons_of_mem _ wd_828) rfl dX8_keep_53 ?_
        refine lv_iconst (v := 0) hx hb dX8_keep_56 (by decide) ?_
        refine r_ialdN F h (k := 0) ((mu_ne (by omega) _).trans ((mu_ne (by omega) _).trans hr)) (rfl) (by decide) (by decide) dX8_keep_57 ?_
        exact ret_i F h (Nat.zero_le _) (Nat.zero_le _) dX8_keep_58 (⟨rfl, rfl, rfl⟩)
      have hw4 : k1 < 204 := lp_lt (N := 204) rfl (by omega) (by decide) b_25
      refine lv_aload_n hx hb dX8_keep_28 rfl (lv_at hl 0 rfl) ?_
      refine r_get F h (C := RX8) (T := TX8) (N := 13) (hjc hi_X8) rfl ((mu_ne (by omega) _).trans ((mu_ne (by omega) _).trans hm)) 4 (by decide) (List.mem_cons_of_mem _ wd_832) rfl dX8_keep_29 ?_
      refine lv_sipush (v := 204) hx hb dX8_keep_32 (by decide) ?_
      refine lv_iload_n hx hb dX8_keep_35 rfl (lv_at hl 1 rfl) ?_
      refine lv_imul hx hb dX8_keep_36 ?_
      refine lv_iload_n hx hb dX8_keep_37 rfl (lv_at hl 2 rfl) ?_
      refine lv_iadd hx hb dX8_keep_38 ?_
      refine lv_aload_n hx hb dX8_keep_39 rfl (lv_at hl 0 rfl) ?_
      refine r_get F h (C := RX8) (T := TX8) (N := 13) (hjc hi_X8) rfl ((mu_ne (by omega) _).trans ((mu_ne (by omega) _).trans hm)) 0 (by decide) (List.mem_cons_of_mem _ wd_828) rfl dX8_keep_40 ?_
      refine lv_iload_n hx hb dX8_keep_43 rfl (lv_at hl 2 rfl) ?_
      refine r_ialdN F h (k := k1) ((mu_ne (by omega) _).trans ((mu_ne (by omega) _).trans hr)) (rfl) (hw4) (by decide) dX8_keep_44 ?_
      refine r_iastN F h (k := 204 * wN y + k1) (f' := fb_put sl r (204 * wN y) (k1 + 1)) (mu_eq _ _ _) (by simp only [fa_lit, pk_mul, nI_add]; first | done | (refine congrArg nI ?_; omega)) (by omega) (by decide) dX8_keep_45 (fb_put_succ sl r (204 * wN y) k1) (fun H locs h => ?_)
      refine r_mem (c1 := (va_up (va_up c (b + 5) (some (.inl (g.2.1 1, 2, .inl (upd zk (wN y) 1))))) (b + 4) (some (.inl (g.2.1 0, 408, .inl (fb_put sl r (204 * wN y) (k1 + 1))))))) h (mu_uu _ _ _ _) (fun h => ?_)
      refine lv_iinc (v := nI (k1 + 1)) (lv' := [(2, .int (nI (k1 + 1))), (0, .ref (gz g + b)), (1, .int (nI (wN y)))]) hx hb dX8_keep_46 hl (k := 2) rfl (by exact (nI_succ k1).symm) (by decide) rfl (fun ls hl => ?_)
      refine lv_goto (tgt := 21) hx hb dX8_keep_49 (by decide) ?_
      exact ih (k1 + 1) (by omega) _ _ _ (by omega) h (lv_sub hl [1, 2, 0] rfl)
  exact lp _ 0 (Nat.zero_le _) _ _ _ (Nat.le_refl _) h (lv_sub hl [1, 2, 0] rfl)
set_option maxHeartbeats 4000000 in
set_option maxRecDepth 100000 in
theorem k_X8_restore_e (l : Launch) (g : Gf) (n : Nat) (c : Mp) (b : Nat) (k0 : Nat) (hk0 : k0 ≤ 5) (rs ty pl fa od : Int32) (hm : c b = moC g b (nI k0) rs ty pl fa od) (r : Nat → Int32) (hr : c (b + 1) = iaA (g.2.1 0) 204 r) (scr : Nat → Int32) (hc2 : c (b + 2) = iaA (g.2.1 0) 204 scr) (hh : Nat → Int32) (hc3 : c (b + 3) = iaA (g.2.1 0) 1020 hh) (sl : Nat → Int32) (hc4 : c (b + 4) = iaA (g.2.1 0) 408 sl) (zk : Nat → Int32) (hc5 : c (b + 5) = iaA (g.2.1 1) 2 zk) (y : Int32) (hy : inI y 0 1 = 0) : Ct l g yX8_restore wsX8_restore 1 22 0 0 [.ref (gz g + b), .int y] n c (Qi g (fun xr n' c' => xr = -100001 ∧ n' = n ∧ c' = c)) := by
  refine ent (by decide) rfl (Nat.le_of_ble_eq_true rfl) ?_
  intro p e s m args below meth c0 F h ls hl
  have hx := F.1
  have hb := F.2.1
  have hl : lv_has ls 3 [(0, .ref (gz g + b)), (1, .int y)] := hl
  refine lv_iload_n hx hb dX8_restore_0 rfl (lv_at hl 1 rfl) ?_
  refine lv_iconst (v := 0) hx hb dX8_restore_1 (by decide) ?_
  refine lv_iconst (v := 1) hx hb dX8_restore_2 (by decide) ?_
  refine u_iE (v := (inI y 0 1)) (ru_S (As := [.int y, .int 0, .int 1]) (rest := []) F h (k_X8_in l g n c y 0 1) (gS hjl wd_877 wd_878 wd_58 wd_879) rfl 3 (by decide +kernel) rfl ⟨Nat.le_of_ble_eq_true rfl, Nat.le_of_ble_eq_true rfl⟩ rfl hl.1 (Nat.le_of_ble_eq_true rfl) ⟨Nat.zero_le _, Nat.zero_le _⟩ dX8_restore_3) h (fun H locs h => ?_)
  refine lv_if_ne (tgt := 12) hx hb dX8_restore_6 (by decide) (fun b_6 => by first | exact absurd b_6 (hy) | exact absurd (hy) b_6) (fun b_6 => ?_)
  refine lv_ldc (v := (-100001)) hx hb F.2.2.2.1 (F.2.2.2.2.1 (Cond.constant RX8 40 (-100001)) (List.mem_cons_of_mem _ wd_880)) dX8_restore_9 ?_
  exact ret_i F h (Nat.zero_le _) (Nat.zero_le _) dX8_restore_11 (⟨rfl, rfl, rfl⟩)
set_option maxHeartbeats 4000000 in
set_option maxRecDepth 100000 in
theorem k_X8_restore_n (l : Launch) (g : Gf) (n : Nat) (c : Mp) (b : Nat) (k0 : Nat) (hk0 : k0 ≤ 5) (rs ty pl fa od : Int32) (hm : c b = moC g b (nI k0) rs ty pl fa od) (r : Nat → Int32) (hr : c (b + 1) = iaA (g.2.1 0) 204 r) (scr : Nat → Int32) (hc2 : c (b + 2) = iaA (g.2.1 0) 204 scr) (hh : Nat → Int32) (hc3 : c (b + 3) = iaA (g.2.1 0) 1020 hh) (sl : Nat → Int32) (hc4 : c (b + 4) = iaA (g.2.1 0) 408 sl) (zk : Nat → Int32) (hc5 : c (b + 5) = iaA (g.2.1 1) 2 zk) (y : Int32) (hy : ¬ inI y 0 1 = 0) (hz : zk (wN y) = 0) : Ct l g yX8_restore wsX8_restore 1 22 0 0 [.ref (gz g + b), .int y] n c (Qi g (fun xr n' c' => xr = -100005 ∧ n' = n ∧ c' = c)) := by
  refine ent (by decide) rfl (Nat.le_of_ble_eq_true rfl) ?_
  intro p e s m args below meth c0 F h ls hl
  have hx := F.1
  have hb := F.2.1
  have hl : lv_has ls 3 [(0, .ref (gz g + b)), (1, .int y)] := hl
  refine lv_iload_n hx hb dX8_restore_0 rfl (lv_at hl 1 rfl) ?_
  refine lv_iconst (v := 0) hx hb dX8_restore_1 (by decide) ?_
  refine lv_iconst (v := 1) hx hb dX8_restore_2 (by decide) ?_
  refine u_iE (v := (inI y 0 1)) (ru_S (As := [.int y, .int 0, .int 1]) (rest := []) F h (k_X8_in l g n c y 0 1) (gS hjl wd_877 wd_878 wd_58 wd_879) rfl 3 (by decide +kernel) rfl ⟨Nat.le_of_ble_eq_true rfl, Nat.le_of_ble_eq_true rfl⟩ rfl hl.1 (Nat.le_of_ble_eq_true rfl) ⟨Nat.zero_le _, Nat.zero_le _⟩ dX8_restore_3) h (fun H locs h => ?_)
  refine lv_if_ne (tgt := 12) hx hb dX8_restore_6 (by decide) (fun b_6 => ?_) (fun b_6 => by first | exact absurd (hy) b_6 | exact absurd b_6 (hy))
  have h_y := inI_w (N := 1) (by decide) hy
  have h4_y : wN y < 2 := h_y.1
  have hl : lv_has ls 3 [(0, .ref (gz g + b)), (1, .int (nI (wN y)))] := by rw [show (nI (wN y) : Int32) = y from h_y.2]; exact hl
  refine lv_aload_n hx hb dX8_restore_12 rfl (lv_at hl 0 rfl) ?_
  refine r_get F h (C := RX8) (T := TX8) (N := 13) (hjc hi_X8) rfl hm 5 (by decide) (List.mem_cons_of_mem _ wd_833) rfl dX8_restore_13 ?_
  refine lv_iload_n hx hb dX8_restore_16 rfl (lv_at hl 1 rfl) ?_
  refine r_zaldN F h (k := wN y) hc5 (rfl) (by omega) (by decide) dX8_restore_17 ?_
  refine lv_if_ne (tgt := 24) hx hb dX8_restore_18 (by decide) (fun b_18 => by first | exact absurd b_18 (hz) | exact absurd (hz) b_18) (fun b_18 => ?_)
  refine lv_ldc (v := (-100005)) hx hb F.2.2.2.1 (F.2.2.2.2.1 (Cond.constant RX8 44 (-100005)) (List.mem_cons_of_mem _ wd_872)) dX8_restore_21 ?_
  exact ret_i F h (Nat.zero_le _) (Nat.zero_le _) dX8_restore_23 (⟨rfl, rfl, rfl⟩)
set_option maxHeartbeats 4000000 in
set_option maxRecDepth 100000 in
theorem k_X8_restore_s (l : Launch) (g : Gf) (n : Nat) (c : Mp) (b : Nat) (k0 : Nat) (hk0 : k0 ≤ 5) (rs ty pl fa od : Int32) (hm : c b = moC g b (nI k0) rs ty pl fa od) (r : Nat → Int32) (hr : c (b + 1) = iaA (g.2.1 0) 204 r) (scr : Nat → Int32) (hc2 : c (b + 2) = iaA (g.2.1 0) 204 scr) (hh : Nat → Int32) (hc3 : c (b + 3) = iaA (g.2.1 0) 1020 hh) (sl : Nat → Int32) (hc4 : c (b + 4) = iaA (g.2.1 0) 408 sl) (zk : Nat → Int32) (hc5 : c (b + 5) = iaA (g.2.1 1) 2 zk) (y : Int32) (hy : ¬ inI y 0 1 = 0) (hz : ¬ zk (wN y) = 0) (hdn : -100001 < (fun q => sl (204 * wN y + q)) 0) : Ct l g yX8_restore wsX8_restore 1 22 0 0 [.ref (gz g + b), .int y] n c (Qi g (fun x n' c' => x = (fun q => sl (204 * wN y + q)) 0 ∧ n' = n ∧ c' = va_up (va_up (va_up (va_up c (b + 2) (iaA (g.2.1 0) 204 r)) (b + 1) (iaA (g.2.1 0) 204 (fun q => sl (204 * wN y + q)))) (b + 3) (iaA (g.2.1 0) 1020 (pushH hh k0 r))) b (moC g b (nI (pushK k0)) rs ty pl fa od))) := by
  refine ent (by decide) rfl (Nat.le_of_ble_eq_true rfl) ?_
  intro p e s m args below meth c0 F h ls hl
  have hx := F.1
  have hb := F.2.1
  have hl : lv_has ls 3 [(0, .ref (gz g + b)), (1, .int y)] := hl
  refine lv_iload_n hx hb dX8_restore_0 rfl (lv_at hl 1 rfl) ?_
  refine lv_iconst (v := 0) hx hb dX8_restore_1 (by decide) ?_
  refine lv_iconst (v := 1) hx hb dX8_restore_2 (by decide) ?_
  refine u_iE (v := (inI y 0 1)) (ru_S (As := [.int y, .int 0, .int 1]) (rest := []) F h (k_X8_in l g n c y 0 1) (gS hjl wd_877 wd_878 wd_58 wd_879) rfl 3 (by decide +kernel) rfl ⟨Nat.le_of_ble_eq_true rfl, Nat.le_of_ble_eq_true rfl⟩ rfl hl.1 (Nat.le_of_ble_eq_true rfl) ⟨Nat.zero_le _, Nat.zero_le _⟩ dX8_restore_3) h (fun H locs h => ?_)
  refine lv_if_ne (tgt := 12) hx hb dX8_restore_6 (by decide) (fun b_6 => ?_) (fun b_6 => by first | exact absurd (hy) b_6 | exact absurd b_6 (hy))
  have h_y := inI_w (N := 1) (by decide) hy
  have h4_y : wN y < 2 := h_y.1
  have hl : lv_has ls 3 [(0, .ref (gz g + b)), (1, .int (nI (wN y)))] := by rw [show (nI (wN y) : Int32) = y from h_y.2]; exact hl
  refine lv_aload_n hx hb dX8_restore_12 rfl (lv_at hl 0 rfl) ?_
  refine r_get F h (C := RX8) (T := TX8) (N := 13) (hjc hi_X8) rfl hm 5 (by decide) (List.mem_cons_of_mem _ wd_833) rfl dX8_restore_13 ?_
  refine lv_iload_n hx hb dX8_restore_16 rfl (lv_at hl 1 rfl) ?_
  refine r_zaldN F h (k := wN y) hc5 (rfl) (by omega) (by decide) dX8_restore_17 ?_
  refine lv_if_ne (tgt := 24) hx hb dX8_restore_18 (by decide) (fun b_18 => ?_) (fun b_18 => by first | exact absurd (hz) b_18 | exact absurd b_18 (hz))
  refine lv_aload_n hx hb dX8_restore_24 rfl (lv_at hl 0 rfl) ?_
  refine u_vE (ru_V (As := []) (rest := []) F h hm rfl (k_X8_begin l g n c b (nI k0) rs ty pl fa od hm r hr scr hc2) (gV hjl wd_885 wd_887 wd_16 wd_58 wd_888) rfl 0 (by decide +kernel) rfl ⟨Nat.le_of_ble_eq_true rfl, Nat.le_of_ble_eq_true rfl⟩ rfl hl.1 (Nat.le_of_ble_eq_true rfl) ⟨Nat.zero_le _, Nat.zero_le _⟩ dX8_restore_25) h (fun H locs h => ?_)
  refine lv_iconst (v := 0) hx hb dX8_restore_28 (by decide) ?_
  refine lv_istore_n (lv' := [(2, .int 0), (0, .ref (gz g + b)), (1, .int (nI (wN y)))]) hx hb dX8_restore_29 rfl hl (by decide) rfl (fun ls hl => ?_)
  refine r_mem (c1 := (va_up (va_up c (b + 2) (iaA (g.2.1 0) 204 r)) (b + 1) (iaA (g.2.1 0) 204 (fa_fill (fun q => sl (204 * wN y + q)) r 0)))) h (by rw [fa_fill_0]; exact (mu_self ((mu_ne (by omega) _).trans hr)).symm) (fun h => ?_)
  have lp : ∀ (k : Nat) (k1 : Nat) (hw : k1 ≤ 204) (H : Heap) (locs : List Loc) (ls : Array Slot), (205 - k1) ≤ k → Hv g s H locs n (va_up (va_up c (b + 2) (some (.inl (g.2.1 0, 204, .inl r)))) (b + 1) (some (.inl (g.2.1 0, 204, .inl (fa_fill (fun q => sl (204 * wN y + q)) r k1))))) → lv_has ls 3 [(0, .ref (gz g + b)), (1, .int (nI (wN y))), (2, .int (nI k1))] → W p l e (Rm 1 22 0 0) s m args below meth c0 H locs 0 0 (MQ below (Qi g (fun x n' c' => x = (fun q => sl (204 * wN y + q)) 0 ∧ n' = n ∧ c' = va_up (va_up (va_up (va_up c (b + 2) (iaA (g.2.1 0) 204 r)) (b + 1) (iaA (g.2.1 0) 204 (fun q => sl (204 * wN y + q)))) (b + 3) (iaA (g.2.1 0) 1020 (pushH hh k0 r))) b (moC g b (nI (pushK k0)) rs ty pl fa od))) args s 0 0 (mAf g)) (F0 m 30 ls []) := by
    intro k
    induction k with
    | zero => intro k1 hw H locs ls hk h hl; exact absurd hk (by omega)
    | succ k ih =>
      intro k1 hw H locs ls hk h hl
      refine lv_iload_n hx hb dX8_restore_30 rfl (lv_at hl 2 rfl) ?_
      refine lv_sipush (v := 204) hx hb dX8_restore_31 (by decide) ?_
      refine lv_icmp_ge (tgt := 61) hx hb dX8_restore_34 (by decide) (fun b_34 => ?_) (fun b_34 => ?_)
      · skip
        have e4 : k1 = 204 := by have := lp_ge (N := 204) rfl (by omega) (by decide) b_34; omega
        refine r_arr (fun q => sl (204 * wN y + q)) h (mu_eq _ _ _) (fun k hk => fa_fill_in (by omega)) (fun h => ?_)
        refine r_mem h (mu_uu _ _ _ _) (fun h => ?_)
        refine lv_aload_n hx hb dX8_restore_61 rfl (lv_at hl 0 rfl) ?_
        refine lv_aload_n hx hb dX8_restore_62 rfl (lv_at hl 0 rfl) ?_
        refine r_get F h (C := RX8) (T := TX8) (N := 13) (hjc hi_X8) rfl ((mu_ne (by omega) _).trans ((mu_ne (by omega) _).trans hm)) 0 (by decide) (List.mem_cons_of_mem _ wd_828) rfl dX8_restore_63 ?_
        refine lv_iconst (v := 0) hx hb dX8_restore_66 (by decide) ?_
        refine r_ialdN F h (k := 0) (mu_eq _ _ _) (rfl) (by decide) (by decide) dX8_restore_67 ?_
        refine u_iE (v := ((fun q => sl (204 * wN y + q)) 0)) (ru_V (As := [.int ((fun q => sl (204 * wN y + q)) 0)]) (rest := []) F h ((mu_ne (by omega) _).trans ((mu_ne (by omega) _).trans hm)) rfl (k_X8_done_a l g n (va_up (va_up c (b + 2) (some (.inl (g.2.1 0, 204, .inl r)))) (b + 1) (some (.inl (g.2.1 0, 204, .inl (fun q => sl (204 * wN y + q)))))) b k0 hk0 rs ty pl fa od ((mu_ne (by omega) _).trans ((mu_ne (by omega) _).trans hm)) r ((mu_ne (by omega) _).trans (mu_eq _ _ _)) hh ((mu_ne (by omega) _).trans ((mu_ne (by omega) _).trans hc3)) ((fun q => sl (204 * wN y + q)) 0) hdn) (gV hjl wd_889 wd_891 wd_17 wd_58 wd_892) rfl 1 (by decide +kernel) rfl ⟨Nat.le_of_ble_eq_true rfl, Nat.le_of_ble_eq_true rfl⟩ rfl hl.1 (Nat.le_of_ble_eq_true rfl) ⟨Nat.zero_le _, Nat.zero_le _⟩ dX8_restore_68) h (fun H locs h => ?_)
        exact ret_i F h (Nat.zero_le _) (Nat.zero_le _) dX8_restore_71 (⟨rfl, rfl, rfl⟩)
      have hw4 : k1 < 204 := lp_lt (N := 204) rfl (by omega) (by decide) b_34
      refine lv_aload_n hx hb dX8_restore_37 rfl (lv_at hl 0 rfl) ?_
      refine r_get F h (C := RX8) (T := TX8) (N := 13) (hjc hi_X8) rfl ((mu_ne (by omega) _).trans ((mu_ne (by omega) _).trans hm)) 0 (by decide) (List.mem_cons_of_mem _ wd_828) rfl dX8_restore_38 ?_
      refine lv_iload_n hx hb dX8_restore_41 rfl (lv_at hl 2 rfl) ?_
      refine lv_aload_n hx hb dX8_restore_42 rfl (lv_at hl 0 rfl) ?_
      refine r_get F h (C := RX8) (T := TX8) (N := 13) (hjc hi_X8) rfl ((mu_ne (by omega) _).trans ((mu_ne (by omega) _).trans hm)) 4 (by decide) (List.mem_cons_of_mem _ wd_832) rfl dX8_restore_43 ?_
      refine lv_sipush (v := 204) hx hb dX8_restore_46 (by decide) ?_
      refine lv_iload_n hx hb dX8_restore_49 rfl (lv_at hl 1 rfl) ?_
      refine lv_imul hx hb dX8_restore_50 ?_
      refine lv_iload_n hx hb dX8_restore_51 rfl (lv_at hl 2 rfl) ?_
      refine lv_iadd hx hb dX8_restore_52 ?_
      refine r_ialdN F h (k := 204 * wN y + k1) ((mu_ne (by omega) _).trans ((mu_ne (by omega) _).trans hc4)) (by simp only [fa_lit, pk_mul, nI_add]; first | done | (refine congrArg nI ?_; omega)) (by omega) (by decide) dX8_restore_53 ?_
      refine r_iastN F h (k := k1) (f' := fa_fill (fun q => sl (204 * wN y + q)) r (k1 + 1)) (mu_eq _ _ _) (rfl) (hw4) (by decide) dX8_restore_54 (fa_fill_succ (fun q => sl (204 * wN y + q)) r k1) (fun H locs h => ?_)
      refine r_mem (c1 := (va_up (va_up c (b + 2) (some (.inl (g.2.1 0, 204, .inl r)))) (b + 1) (some (.inl (g.2.1 0, 204, .inl (fa_fill (fun q => sl (204 * wN y + q)) r (k1 + 1))))))) h (mu_uu _ _ _ _) (fun h => ?_)
      refine lv_iinc (v := nI (k1 + 1)) (lv' := [(2, .int (nI (k1 + 1))), (0, .ref (gz g + b)), (1, .int (nI (wN y)))]) hx hb dX8_restore_55 hl (k := 2) rfl (by exact (nI_succ k1).symm) (by decide) rfl (fun ls hl => ?_)
      refine lv_goto (tgt := 30) hx hb dX8_restore_58 (by decide) ?_
      exact ih (k1 + 1) (by omega) _ _ _ (by omega) h (lv_sub hl [1, 2, 0] rfl)
  exact lp _ 0 (Nat.zero_le _) _ _ _ (Nat.le_refl _) h (lv_sub hl [1, 2, 0] rfl)
def HAw (r : Nat → Int32) : Prop := ∀ w : Nat, w < 4 → r (5 + 11 * w + 0) = 1 → 0 ≤ (r (5 + 11 * w + 9)).toInt ∧ (r (5 + 11 * w + 9)).toInt ≤ 500
/-- ticks till an amplitude is calm: period, phase, calming -/
def caS (lim P ph bk : Int32) : Nat → Int32 → Int32 → Int32
  | 0, _, t => t
  | k + 1, a, t => if lim < a then caS lim P ph bk k (a * bk / 100) (if t = 0 then t + (P - ph) else t + P) else t
theorem cm_dn {a x : Int32} (h0 : 0 < a.toInt) (h1 : a.toInt ≤ 500) : 0 ≤ (a * cmI x / 100).toInt ∧ (a * cmI x / 100).toInt < a.toInt := by
  have hc : (cmI x).toInt = 95 ∨ (cmI x).toInt = 70 ∨ (cmI x).toInt = 50 := by
    unfold cmI
    repeat' split
    all_goals simp
  have hm : (a * cmI x).toInt = a.toInt * (cmI x).toInt := by
    rw [Int32.toInt_mul, fb_bmod (by rcases hc with q | q | q <;> rw [q] <;> omega) (by rcases hc with q | q | q <;> rw [q] <;> omega)]
  have hd : (a * cmI x / 100).toInt = (a * cmI x).toInt / 100 := by
    rw [i_div (by decide)]
    exact Int.tdiv_eq_ediv_of_nonneg (by rw [hm]; rcases hc with q | q | q <;> rw [q] <;> omega)
  rw [hd, hm]
  rcases hc with q | q | q <;> rw [q] <;> omega
def sp_X8_calmIn (r : Nat → Int32) (x y : Int32) : Int32 := if (noW x) = 0 then (if (inI y 0 500) = 0 then ((-100002)) else (if (hgI r (wN x)) = 0 then ((-100005)) else (caS y (4 * (1 + r (5 + 11 * wN x + 4) / 100)) (r (5 + 11 * wN x + 10)) (cmI (r (5 + 11 * wN x + 7))) 501 (r (5 + 11 * wN x + 9)) 0))) else ((-100001))
set_option maxHeartbeats 4000000 in
set_option maxRecDepth 100000 in
theorem k_X8_calmIn (l : Launch) (g : Gf) (n : Nat) (c : Mp) (b : Nat) (kp rs ty pl fa od : Int32) (hm : c b = moC g b kp rs ty pl fa od) (r : Nat → Int32) (hr : c (b + 1) = iaA (g.2.1 0) 204 r) (x y : Int32) (hA : HAw r) : Ct l g yX8_calmIn wsX8_calmIn 2 43 0 0 [.ref (gz g + b), .int x, .int y] n c (Qi g (fun xr n' c' => xr = sp_X8_calmIn r x y ∧ n' = n ∧ c' = c)) := by
  refine ent (by decide) rfl (Nat.le_of_ble_eq_true rfl) ?_
  intro p e s m args below meth c0 F h ls hl
  have hx := F.1
  have hb := F.2.1
  have hl : lv_has ls 5 [(0, .ref (gz g + b)), (1, .int x), (2, .int y)] := hl
  refine lv_iload_n hx hb dX8_calmIn_0 rfl (lv_at hl 1 rfl) ?_
  refine u_iE (v := (noW x)) (ru_S (As := [.int x]) (rest := []) F h (k_X8_noWire l g n c x) (gS hjl wd_897 wd_898 wd_58 wd_899) rfl 1 (by decide +kernel) rfl ⟨Nat.le_of_ble_eq_true rfl, Nat.le_of_ble_eq_true rfl⟩ rfl hl.1 (Nat.le_of_ble_eq_true rfl) ⟨Nat.zero_le _, Nat.zero_le _⟩ dX8_calmIn_1) h (fun H locs h => ?_)
  refine lv_if_eq (tgt := 10) hx hb dX8_calmIn_4 (by decide) (fun b_4 => ?_) (fun b_4 => ?_)
  · skip
    have h_x := noW_w b_4
    have h4_x : wN x < 4 := h_x.1
    have hl : lv_has ls 5 [(0, .ref (gz g + b)), (1, .int (nI (wN x))), (2, .int y)] := by rw [show (nI (wN x) : Int32) = x from h_x.2]; exact hl
    refine lv_iload_n hx hb dX8_calmIn_10 rfl (lv_at hl 2 rfl) ?_
    refine lv_iconst (v := 0) hx hb dX8_calmIn_11 (by decide) ?_
    refine lv_sipush (v := 500) hx hb dX8_calmIn_12 (by decide) ?_
    refine u_iE (v := (inI y 0 500)) (ru_S (As := [.int y, .int 0, .int 500]) (rest := []) F h (k_X8_in l g n c y 0 500) (gS hjl wd_877 wd_878 wd_58 wd_879) rfl 3 (by decide +kernel) rfl ⟨Nat.le_of_ble_eq_true rfl, Nat.le_of_ble_eq_true rfl⟩ rfl hl.1 (Nat.le_of_ble_eq_true rfl) ⟨Nat.zero_le _, Nat.zero_le _⟩ dX8_calmIn_15) h (fun H locs h => ?_)
    refine lv_if_ne (tgt := 24) hx hb dX8_calmIn_18 (by decide) (fun b_18 => ?_) (fun b_18 => ?_)
    · skip
      refine lv_aload_n hx hb dX8_calmIn_24 rfl (lv_at hl 0 rfl) ?_
      refine lv_iload_n hx hb dX8_calmIn_25 rfl (lv_at hl 1 rfl) ?_
      refine u_iE (v := (hgI r (wN x))) (ru_V (As := [.int (nI (wN x))]) (rest := []) F h hm rfl (k_X8_isHung l g n c b kp rs ty pl fa od hm r hr (wN x) (by omega)) (gV hjl wd_924 wd_926 wd_22 wd_58 wd_927) rfl 1 (by decide +kernel) rfl ⟨Nat.le_of_ble_eq_true rfl, Nat.le_of_ble_eq_true rfl⟩ rfl hl.1 (Nat.le_of_ble_eq_true rfl) ⟨Nat.zero_le _, Nat.zero_le _⟩ dX8_calmIn_26) h (fun H locs h => ?_)
      refine lv_if_ne (tgt := 35) hx hb dX8_calmIn_29 (by decide) (fun b_29 => ?_) (fun b_29 => ?_)
      · skip
        have hy0 := (inI_1 b_18).1
        refine lv_aload_n hx hb dX8_calmIn_35 rfl (lv_at hl 0 rfl) ?_
        refine lv_iload_n hx hb dX8_calmIn_36 rfl (lv_at hl 1 rfl) ?_
        refine lv_bipush (v := 9) hx hb dX8_calmIn_37 (by decide) ?_
        refine u_iE (v := (r (5 + 11 * (wN x) + 9))) (ru_V (As := [.int (nI (wN x)), .int 9]) (rest := []) F h hm rfl (k_X8_of l g n c b kp rs ty pl fa od hm r hr (wN x) 9 (by omega) (by decide)) (gV hjl wd_916 wd_918 wd_21 wd_58 wd_919) rfl 2 (by decide +kernel) rfl ⟨Nat.le_of_ble_eq_true rfl, Nat.le_of_ble_eq_true rfl⟩ rfl hl.1 (Nat.le_of_ble_eq_true rfl) ⟨Nat.zero_le _, Nat.zero_le _⟩ dX8_calmIn_39) h (fun H locs h => ?_)
        refine lv_istore_n (lv' := [(3, .int (r (5 + 11 * (wN x) + 9))), (0, .ref (gz g + b)), (1, .int (nI (wN x))), (2, .int y)]) hx hb dX8_calmIn_42 rfl hl (by decide) rfl (fun ls hl => ?_)
        refine lv_iconst (v := 0) hx hb dX8_calmIn_43 (by decide) ?_
        refine lv_istore (lv' := [(4, .int 0), (3, .int (r (5 + 11 * (wN x) + 9))), (0, .ref (gz g + b)), (1, .int (nI (wN x))), (2, .int y)]) hx hb dX8_calmIn_44 hl (by decide) rfl (fun ls hl => ?_)
        have lp : ∀ (k : Nat) (f1 : Nat) (a1 t1 : Int32) (hf : wN a1 < f1) (ha0 : 0 ≤ a1.toInt) (ha5 : a1.toInt ≤ 500) (hR : caS y (4 * (1 + r (5 + 11 * wN x + 4) / 100)) (r (5 + 11 * wN x + 10)) (cmI (r (5 + 11 * wN x + 7))) f1 a1 t1 = caS y (4 * (1 + r (5 + 11 * wN x + 4) / 100)) (r (5 + 11 * wN x + 10)) (cmI (r (5 + 11 * wN x + 7))) 501 (r (5 + 11 * wN x + 9)) 0) (H : Heap) (locs : List Loc) (ls : Array Slot), (f1) ≤ k → Hv g s H locs n c → lv_has ls 5 [(0, .ref (gz g + b)), (1, .int (nI (wN x))), (2, .int y), (3, .int a1), (4, .int t1)] → W p l e (Rm 2 43 0 0) s m args below meth c0 H locs 0 0 (MQ below (Qi g (fun xr n' c' => xr = sp_X8_calmIn r x y ∧ n' = n ∧ c' = c)) args s 0 0 (mAf g)) (F0 m 46 ls []) := by
          intro k
          induction k with
          | zero => intro f1 a1 t1 hf ha0 ha5 hR H locs ls hk h hl; exact absurd hk (by omega)
          | succ k ih =>
            intro f1 a1 t1 hf ha0 ha5 hR H locs ls hk h hl
            obtain ⟨f2, rfl⟩ : ∃ f2, f1 = f2 + 1 := ⟨f1 - 1, by omega⟩
            refine lv_iload_n hx hb dX8_calmIn_46 rfl (lv_at hl 3 rfl) ?_
            refine lv_iload_n hx hb dX8_calmIn_47 rfl (lv_at hl 2 rfl) ?_
            refine lv_icmp_le (tgt := 105) hx hb dX8_calmIn_48 (by decide) (fun b_48 => ?_) (fun b_48 => ?_)
            · skip
              have hl : lv_has ls 5 [(0, .ref (gz g + b)), (1, .int (nI (wN x))), (2, .int y), (3, .int a1), (4, .int (caS y (4 * (1 + r (5 + 11 * wN x + 4) / 100)) (r (5 + 11 * wN x + 10)) (cmI (r (5 + 11 * wN x + 7))) 501 (r (5 + 11 * wN x + 9)) 0))] := by rw [show (caS y (4 * (1 + r (5 + 11 * wN x + 4) / 100)) (r (5 + 11 * wN x + 10)) (cmI (r (5 + 11 * wN x + 7))) 501 (r (5 + 11 * wN x + 9)) 0 : Int32) = t1 from (by rw [← hR, caS, if_neg (Int32.not_lt.mpr b_48)])]; exact hl
              refine lv_iload hx hb dX8_calmIn_105 (lv_at hl 4 rfl) ?_
              exact ret_i F h (Nat.zero_le _) (Nat.zero_le _) dX8_calmIn_107 (⟨((show sp_X8_calmIn r x y = caS y (4 * (1 + r (5 + 11 * wN x + 4) / 100)) (r (5 + 11 * wN x + 10)) (cmI (r (5 + 11 * wN x + 7))) 501 (r (5 + 11 * wN x + 9)) 0 by rw [sp_X8_calmIn, if_pos (c := (noW x) = 0) b_4, if_neg (c := (inI y 0 500) = 0) b_18, if_neg (c := (hgI r (wN x)) = 0) b_29])).symm, rfl, rfl⟩)
            have hap : 0 < a1.toInt := by have h1 : (0 : Int) ≤ y.toInt := hy0; have h2 := (i_lt _ _).mp (Int32.not_le.mp b_48); omega
            refine lv_iload_n hx hb dX8_calmIn_51 rfl (lv_at hl 3 rfl) ?_
            refine lv_aload_n hx hb dX8_calmIn_52 rfl (lv_at hl 0 rfl) ?_
            refine lv_iload_n hx hb dX8_calmIn_53 rfl (lv_at hl 1 rfl) ?_
            refine lv_bipush (v := 7) hx hb dX8_calmIn_54 (by decide) ?_
            refine u_iE (v := (r (5 + 11 * (wN x) + 7))) (ru_V (As := [.int (nI (wN x)), .int 7]) (rest := [.int a1]) F h hm rfl (k_X8_of l g n c b kp rs ty pl fa od hm r hr (wN x) 7 (by omega) (by decide)) (gV hjl wd_916 wd_918 wd_21 wd_58 wd_919) rfl 2 (by decide +kernel) rfl ⟨Nat.le_of_ble_eq_true rfl, Nat.le_of_ble_eq_true rfl⟩ rfl hl.1 (Nat.le_of_ble_eq_true rfl) ⟨Nat.zero_le _, Nat.zero_le _⟩ dX8_calmIn_56) h (fun H locs h => ?_)
            refine u_iE (v := (cmI (r (5 + 11 * (wN x) + 7)))) (ru_S (As := [.int (r (5 + 11 * (wN x) + 7))]) (rest := [.int a1]) F h (k_X8_calming l g n c (r (5 + 11 * (wN x) + 7))) (gS hjl wd_989 wd_990 wd_58 wd_991) rfl 1 (by decide +kernel) rfl ⟨Nat.le_of_ble_eq_true rfl, Nat.le_of_ble_eq_true rfl⟩ rfl hl.1 (Nat.le_of_ble_eq_true rfl) ⟨Nat.zero_le _, Nat.zero_le _⟩ dX8_calmIn_59) h (fun H locs h => ?_)
            refine lv_imul hx hb dX8_calmIn_62 ?_
            refine lv_bipush (v := 100) hx hb dX8_calmIn_63 (by decide) ?_
            refine lv_idiv hx hb dX8_calmIn_65 (by decide) ?_
            refine lv_istore_n (lv' := [(3, .int ((a1 * (cmI (r (5 + 11 * (wN x) + 7)))) / 100)), (0, .ref (gz g + b)), (1, .int (nI (wN x))), (2, .int y), (4, .int t1)]) hx hb dX8_calmIn_66 rfl hl (by decide) rfl (fun ls hl => ?_)
            refine lv_iload hx hb dX8_calmIn_67 (lv_at hl 4 rfl) ?_
            refine lv_iload hx hb dX8_calmIn_69 (lv_at hl 4 rfl) ?_
            refine lv_if_ne (tgt := 92) hx hb dX8_calmIn_71 (by decide) (fun b_71 => ?_) (fun b_71 => ?_)
            · skip
              refine lv_iconst (v := 4) hx hb dX8_calmIn_92 (by decide) ?_
              refine lv_aload_n hx hb dX8_calmIn_93 rfl (lv_at hl 1 rfl) ?_
              refine lv_iload_n hx hb dX8_calmIn_94 rfl (lv_at hl 2 rfl) ?_
              refine u_iE (v := (1 + r (5 + 11 * (wN x) + 4) / 100)) (ru_V (As := [.int (nI (wN x))]) (rest := [.int 4, .int t1]) F h hm rfl (k_X8_quarter l g n c b kp rs ty pl fa od hm r hr (wN x) (by omega)) (gV hjl wd_952 wd_954 wd_25 wd_58 wd_955) rfl 1 (by decide +kernel) rfl ⟨Nat.le_of_ble_eq_true rfl, Nat.le_of_ble_eq_true rfl⟩ rfl hl.1 (Nat.le_of_ble_eq_true rfl) ⟨Nat.zero_le _, Nat.zero_le _⟩ dX8_calmIn_95) h (fun H locs h => ?_)
              refine lv_imul hx hb dX8_calmIn_98 ?_
              refine lv_iadd hx hb dX8_calmIn_99 ?_
              refine lv_istore (lv' := [(4, .int (t1 + (4 * (1 + r (5 + 11 * (wN x) + 4) / 100)))), (3, .int ((a1 * (cmI (r (5 + 11 * (wN x) + 7)))) / 100)), (0, .ref (gz g + b)), (1, .int (nI (wN x))), (2, .int y)]) hx hb dX8_calmIn_100 hl (by decide) rfl (fun ls hl => ?_)
              refine lv_goto (tgt := 46) hx hb dX8_calmIn_102 (by decide) ?_
              have hdn := cm_dn (x := r (5 + 11 * wN x + 7)) hap ha5
              have hgo1 : (a1 * cmI (r (5 + 11 * wN x + 7)) / 100).toInt.toNat < f2 := by have hf : a1.toInt.toNat < f2 + 1 := hf; omega
              have hgo2 := hdn.1
              have hgo3 : (a1 * cmI (r (5 + 11 * wN x + 7)) / 100).toInt ≤ 500 := by omega
              have hgo4 := hR
              rw [caS, if_pos (Int32.not_le.mp b_48), if_neg b_71] at hgo4
              exact ih f2 _ _ hgo1 hgo2 hgo3 hgo4 _ _ _ (by omega) h (lv_sub hl [2, 3, 4, 1, 0] rfl)
            refine lv_iconst (v := 4) hx hb dX8_calmIn_74 (by decide) ?_
            refine lv_aload_n hx hb dX8_calmIn_75 rfl (lv_at hl 1 rfl) ?_
            refine lv_iload_n hx hb dX8_calmIn_76 rfl (lv_at hl 2 rfl) ?_
            refine u_iE (v := (1 + r (5 + 11 * (wN x) + 4) / 100)) (ru_V (As := [.int (nI (wN x))]) (rest := [.int 4, .int t1]) F h hm rfl (k_X8_quarter l g n c b kp rs ty pl fa od hm r hr (wN x) (by omega)) (gV hjl wd_952 wd_954 wd_25 wd_58 wd_955) rfl 1 (by decide +kernel) rfl ⟨Nat.le_of_ble_eq_true rfl, Nat.le_of_ble_eq_true rfl⟩ rfl hl.1 (Nat.le_of_ble_eq_true rfl) ⟨Nat.zero_le _, Nat.zero_le _⟩ dX8_calmIn_77) h (fun H locs h => ?_)
            refine lv_imul hx hb dX8_calmIn_80 ?_
            refine lv_aload_n hx hb dX8_calmIn_81 rfl (lv_at hl 1 rfl) ?_
            refine lv_iload_n hx hb dX8_calmIn_82 rfl (lv_at hl 2 rfl) ?_
            refine lv_bipush (v := 10) hx hb dX8_calmIn_83 (by decide) ?_
            refine u_iE (v := (r (5 + 11 * (wN x) + 10))) (ru_V (As := [.int (nI (wN x)), .int 10]) (rest := [.int (4 * (1 + r (5 + 11 * (wN x) + 4) / 100)), .int t1]) F h hm rfl (k_X8_of l g n c b kp rs ty pl fa od hm r hr (wN x) 10 (by omega) (by decide)) (gV hjl wd_916 wd_918 wd_21 wd_58 wd_919) rfl 2 (by decide +kernel) rfl ⟨Nat.le_of_ble_eq_true rfl, Nat.le_of_ble_eq_true rfl⟩ rfl hl.1 (Nat.le_of_ble_eq_true rfl) ⟨Nat.zero_le _, Nat.zero_le _⟩ dX8_calmIn_85) h (fun H locs h => ?_)
            refine lv_isub hx hb dX8_calmIn_88 ?_
            refine lv_goto (tgt := 99) hx hb dX8_calmIn_89 (by decide) ?_
            refine lv_iadd hx hb dX8_calmIn_99 ?_
            refine lv_istore (lv' := [(4, .int (t1 + ((4 * (1 + r (5 + 11 * (wN x) + 4) / 100)) - (r (5 + 11 * (wN x) + 10))))), (3, .int ((a1 * (cmI (r (5 + 11 * (wN x) + 7)))) / 100)), (0, .ref (gz g + b)), (1, .int (nI (wN x))), (2, .int y)]) hx hb dX8_calmIn_100 hl (by decide) rfl (fun ls hl => ?_)
            refine lv_goto (tgt := 46) hx hb dX8_calmIn_102 (by decide) ?_
            have hdn := cm_dn (x := r (5 + 11 * wN x + 7)) hap ha5
            have hgo1 : (a1 * cmI (r (5 + 11 * wN x + 7)) / 100).toInt.toNat < f2 := by have hf : a1.toInt.toNat < f2 + 1 := hf; omega
            have hgo2 := hdn.1
            have hgo3 : (a1 * cmI (r (5 + 11 * wN x + 7)) / 100).toInt ≤ 500 := by omega
            have hgo4 := hR
            rw [caS, if_pos (Int32.not_le.mp b_48), if_pos b_71] at hgo4
            exact ih f2 _ _ hgo1 hgo2 hgo3 hgo4 _ _ _ (by omega) h (lv_sub hl [2, 3, 4, 1, 0] rfl)
        exact lp _ 501 _ _ (by have q := (hA _ h4_x (hgI_1 b_29)).2; show (r (5 + 11 * wN x + 9)).toInt.toNat < 501; omega) (hA _ h4_x (hgI_1 b_29)).1 (hA _ h4_x (hgI_1 b_29)).2 rfl _ _ _ (Nat.le_refl _) h (lv_sub hl [2, 3, 4, 1, 0] rfl)
      refine lv_ldc (v := (-100005)) hx hb F.2.2.2.1 (F.2.2.2.2.1 (Cond.constant RX8 44 (-100005)) (List.mem_cons_of_mem _ wd_872)) dX8_calmIn_32 ?_
      exact ret_i F h (Nat.zero_le _) (Nat.zero_le _) dX8_calmIn_34 (⟨((show sp_X8_calmIn r x y = (-100005) by rw [sp_X8_calmIn, if_pos (c := (noW x) = 0) b_4, if_neg (c := (inI y 0 500) = 0) b_18, if_pos (c := (hgI r (wN x)) = 0) b_29])).symm, rfl, rfl⟩)
    refine lv_ldc (v := (-100002)) hx hb F.2.2.2.1 (F.2.2.2.2.1 (Cond.constant RX8 70 (-100002)) (List.mem_cons_of_mem _ wd_900)) dX8_calmIn_21 ?_
    exact ret_i F h (Nat.zero_le _) (Nat.zero_le _) dX8_calmIn_23 (⟨((show sp_X8_calmIn r x y = (-100002) by rw [sp_X8_calmIn, if_pos (c := (noW x) = 0) b_4, if_pos (c := (inI y 0 500) = 0) b_18])).symm, rfl, rfl⟩)
  refine lv_ldc (v := (-100001)) hx hb F.2.2.2.1 (F.2.2.2.2.1 (Cond.constant RX8 40 (-100001)) (List.mem_cons_of_mem _ wd_880)) dX8_calmIn_7 ?_
  exact ret_i F h (Nat.zero_le _) (Nat.zero_le _) dX8_calmIn_9 (⟨((show sp_X8_calmIn r x y = (-100001) by rw [sp_X8_calmIn, if_neg (c := (noW x) = 0) b_4])).symm, rfl, rfl⟩)
def orS (r : Nat → Int32) : Nat → Int32
  | 0 => 0
  | k + 1 => orS r k + (if 0 ≤ r (69 + 3 * k + 2) then 1 else 0)
def snS (r : Nat → Int32) : Nat → Int32
  | 0 => 0
  | k + 1 => snS r k + smI (fun w => r (84 + 6 * (4 * k + w) + 0)) 4
def sp_X8_count (r : Nat → Int32) (kp rs ty x : Int32) (sc : Nat) : Int32 := if x = 0 then ((r 0)) else (if x = 1 then ((smI (fun v => r (5 + 11 * v + 0)) 4)) else (if x = 2 then ((r 3)) else (if x = 3 then ((r 4)) else (if x = 4 then (orS r sc) else (if x = 5 then (snS r sc) else (if x = 6 then ((r 1)) else (if x = 7 then ((r 2)) else (if x = 8 then (rs) else (if x = 9 then (kp) else (if x = 10 then (ty) else ((-100002))))))))))))
set_option maxHeartbeats 4000000 in
set_option maxRecDepth 100000 in
theorem k_X8_count (l : Launch) (g : Gf) (n : Nat) (c : Mp) (b : Nat) (kp rs ty pl fa od : Int32) (hm : c b = moC g b kp rs ty pl fa od) (r : Nat → Int32) (hr : c (b + 1) = iaA (g.2.1 0) 204 r) (x : Int32) (sc : Nat) (hsc : r 4 = nI sc) (h5 : sc ≤ 5) : Ct l g yX8_count wsX8_count 2 44 0 0 [.ref (gz g + b), .int x] n c (Qi g (fun xr n' c' => xr = sp_X8_count r kp rs ty x sc ∧ n' = n ∧ c' = c)) := by
  refine ent (by decide) rfl (Nat.le_of_ble_eq_true rfl) ?_
  intro p e s m args below meth c0 F h ls hl
  have hx := F.1
  have hb := F.2.1
  have hl : lv_has ls 5 [(0, .ref (gz g + b)), (1, .int x)] := hl
  refine lv_iconst (v := 0) hx hb dX8_count_0 (by decide) ?_
  refine lv_istore_n (lv' := [(2, .int 0), (0, .ref (gz g + b)), (1, .int x)]) hx hb dX8_count_1 rfl hl (by decide) rfl (fun ls hl => ?_)
  refine lv_iconst (v := 0) hx hb dX8_count_2 (by decide) ?_
  refine lv_istore_n (lv' := [(3, .int 0), (2, .int 0), (0, .ref (gz g + b)), (1, .int x)]) hx hb dX8_count_3 rfl hl (by decide) rfl (fun ls hl => ?_)
  refine lv_iconst (v := 0) hx hb dX8_count_4 (by decide) ?_
  refine lv_istore (lv' := [(4, .int 0), (3, .int 0), (2, .int 0), (0, .ref (gz g + b)), (1, .int x)]) hx hb dX8_count_5 hl (by decide) rfl (fun ls hl => ?_)
  have hl : lv_has ls 5 [(4, .int 0), (3, .int 0), (2, .int (orS r 0)), (0, .ref (gz g + b)), (1, .int x)] := by rw [show (orS r 0 : Int32) = 0 from rfl]; exact hl
  have hl : lv_has ls 5 [(4, .int 0), (3, .int (snS r 0)), (2, .int (orS r 0)), (0, .ref (gz g + b)), (1, .int x)] := by rw [show (snS r 0 : Int32) = 0 from rfl]; exact hl
  have lp : ∀ (k : Nat) (k1 : Nat) (hk1 : k1 ≤ sc) (H : Heap) (locs : List Loc) (ls : Array Slot), (6 - k1) ≤ k → Hv g s H locs n c → lv_has ls 5 [(0, .ref (gz g + b)), (1, .int x), (2, .int (orS r k1)), (3, .int (snS r k1)), (4, .int (nI k1))] → W p l e (Rm 2 44 0 0) s m args below meth c0 H locs 0 0 (MQ below (Qi g (fun xr n' c' => xr = sp_X8_count r kp rs ty x sc ∧ n' = n ∧ c' = c)) args s 0 0 (mAf g)) (F0 m 7 ls []) := by
    intro k
    induction k with
    | zero => intro k1 hk1 H locs ls hk h hl; exact absurd hk (by omega)
    | succ k ih =>
      intro k1 hk1 H locs ls hk h hl
      refine lv_iload hx hb dX8_count_7 (lv_at hl 4 rfl) ?_
      refine lv_aload_n hx hb dX8_count_9 rfl (lv_at hl 0 rfl) ?_
      refine r_get F h (C := RX8) (T := TX8) (N := 13) (hjc hi_X8) rfl hm 0 (by decide) (List.mem_cons_of_mem _ wd_828) rfl dX8_count_10 ?_
      refine lv_iconst (v := 4) hx hb dX8_count_13 (by decide) ?_
      refine r_ialdN F h (k := 4) hr (rfl) (by decide) (by decide) dX8_count_14 ?_
      refine lv_icmp_ge (tgt := 58) hx hb dX8_count_15 (by decide) (fun b_15 => ?_) (fun b_15 => ?_)
      · skip
        have e4 : sc = k1 := by have := lp_ge (N := sc) hsc (by omega) (by omega) b_15; omega
        subst e4
        refine lv_iload_n hx hb dX8_count_58 rfl (lv_at hl 1 rfl) ?_
        by_cases q_59_0 : x = 0
        · skip
          refine lv_tableIn (off := 57) (tgt := 116) hx hb dX8_count_59 (by rw [q_59_0]; decide) (by rw [q_59_0]; decide) (by rw [q_59_0]; rfl) (by decide) ?_
          refine lv_aload_n hx hb dX8_count_116 rfl (lv_at hl 0 rfl) ?_
          refine r_get F h (C := RX8) (T := TX8) (N := 13) (hjc hi_X8) rfl hm 0 (by decide) (List.mem_cons_of_mem _ wd_828) rfl dX8_count_117 ?_
          refine lv_iconst (v := 0) hx hb dX8_count_120 (by decide) ?_
          refine r_ialdN F h (k := 0) hr (rfl) (by decide) (by decide) dX8_count_121 ?_
          exact ret_i F h (Nat.zero_le _) (Nat.zero_le _) dX8_count_122 (⟨((show sp_X8_count r kp rs ty x sc = (r 0) by rw [sp_X8_count, if_pos (c := x = 0) q_59_0])).symm, rfl, rfl⟩)
        by_cases q_59_1 : x = 1
        · skip
          refine lv_tableIn (off := 64) (tgt := 123) hx hb dX8_count_59 (by rw [q_59_1]; decide) (by rw [q_59_1]; decide) (by rw [q_59_1]; rfl) (by decide) ?_
          refine lv_aload_n hx hb dX8_count_123 rfl (lv_at hl 0 rfl) ?_
          refine u_iE (v := (smI (fun v => r (5 + 11 * v + 0)) 4)) (ru_V (As := []) (rest := []) F h hm rfl (k_X8_hungOnes l g n c b kp rs ty pl fa od hm r hr) (gV hjl wd_912 wd_914 wd_20 wd_58 wd_915) rfl 0 (by decide +kernel) rfl ⟨Nat.le_of_ble_eq_true rfl, Nat.le_of_ble_eq_true rfl⟩ rfl hl.1 (Nat.le_of_ble_eq_true rfl) ⟨Nat.zero_le _, Nat.zero_le _⟩ dX8_count_124) h (fun H locs h => ?_)
          exact ret_i F h (Nat.zero_le _) (Nat.zero_le _) dX8_count_127 (⟨((show sp_X8_count r kp rs ty x sc = (smI (fun v => r (5 + 11 * v + 0)) 4) by rw [sp_X8_count, if_neg (c := x = 0) q_59_0, if_pos (c := x = 1) q_59_1])).symm, rfl, rfl⟩)
        by_cases q_59_2 : x = 2
        · skip
          refine lv_tableIn (off := 69) (tgt := 128) hx hb dX8_count_59 (by rw [q_59_2]; decide) (by rw [q_59_2]; decide) (by rw [q_59_2]; rfl) (by decide) ?_
          refine lv_aload_n hx hb dX8_count_128 rfl (lv_at hl 0 rfl) ?_
          refine r_get F h (C := RX8) (T := TX8) (N := 13) (hjc hi_X8) rfl hm 0 (by decide) (List.mem_cons_of_mem _ wd_828) rfl dX8_count_129 ?_
          refine lv_iconst (v := 3) hx hb dX8_count_132 (by decide) ?_
          refine r_ialdN F h (k := 3) hr (rfl) (by decide) (by decide) dX8_count_133 ?_
          exact ret_i F h (Nat.zero_le _) (Nat.zero_le _) dX8_count_134 (⟨((show sp_X8_count r kp rs ty x sc = (r 3) by rw [sp_X8_count, if_neg (c := x = 0) q_59_0, if_neg (c := x = 1) q_59_1, if_pos (c := x = 2) q_59_2])).symm, rfl, rfl⟩)
        by_cases q_59_3 : x = 3
        · skip
          refine lv_tableIn (off := 76) (tgt := 135) hx hb dX8_count_59 (by rw [q_59_3]; decide) (by rw [q_59_3]; decide) (by rw [q_59_3]; rfl) (by decide) ?_
          refine lv_aload_n hx hb dX8_count_135 rfl (lv_at hl 0 rfl) ?_
          refine r_get F h (C := RX8) (T := TX8) (N := 13) (hjc hi_X8) rfl hm 0 (by decide) (List.mem_cons_of_mem _ wd_828) rfl dX8_count_136 ?_
          refine lv_iconst (v := 4) hx hb dX8_count_139 (by decide) ?_
          refine r_ialdN F h (k := 4) hr (rfl) (by decide) (by decide) dX8_count_140 ?_
          exact ret_i F h (Nat.zero_le _) (Nat.zero_le _) dX8_count_141 (⟨((show sp_X8_count r kp rs ty x sc = (r 4) by rw [sp_X8_count, if_neg (c := x = 0) q_59_0, if_neg (c := x = 1) q_59_1, if_neg (c := x = 2) q_59_2, if_pos (c := x = 3) q_59_3])).symm, rfl, rfl⟩)
        by_cases q_59_4 : x = 4
        · skip
          refine lv_tableIn (off := 83) (tgt := 142) hx hb dX8_count_59 (by rw [q_59_4]; decide) (by rw [q_59_4]; decide) (by rw [q_59_4]; rfl) (by decide) ?_
          refine lv_iload_n hx hb dX8_count_142 rfl (lv_at hl 2 rfl) ?_
          exact ret_i F h (Nat.zero_le _) (Nat.zero_le _) dX8_count_143 (⟨((show sp_X8_count r kp rs ty x sc = orS r sc by rw [sp_X8_count, if_neg (c := x = 0) q_59_0, if_neg (c := x = 1) q_59_1, if_neg (c := x = 2) q_59_2, if_neg (c := x = 3) q_59_3, if_pos (c := x = 4) q_59_4])).symm, rfl, rfl⟩)
        by_cases q_59_5 : x = 5
        · skip
          refine lv_tableIn (off := 85) (tgt := 144) hx hb dX8_count_59 (by rw [q_59_5]; decide) (by rw [q_59_5]; decide) (by rw [q_59_5]; rfl) (by decide) ?_
          refine lv_iload_n hx hb dX8_count_144 rfl (lv_at hl 3 rfl) ?_
          exact ret_i F h (Nat.zero_le _) (Nat.zero_le _) dX8_count_145 (⟨((show sp_X8_count r kp rs ty x sc = snS r sc by rw [sp_X8_count, if_neg (c := x = 0) q_59_0, if_neg (c := x = 1) q_59_1, if_neg (c := x = 2) q_59_2, if_neg (c := x = 3) q_59_3, if_neg (c := x = 4) q_59_4, if_pos (c := x = 5) q_59_5])).symm, rfl, rfl⟩)
        by_cases q_59_6 : x = 6
        · skip
          refine lv_tableIn (off := 87) (tgt := 146) hx hb dX8_count_59 (by rw [q_59_6]; decide) (by rw [q_59_6]; decide) (by rw [q_59_6]; rfl) (by decide) ?_
          refine lv_aload_n hx hb dX8_count_146 rfl (lv_at hl 0 rfl) ?_
          refine r_get F h (C := RX8) (T := TX8) (N := 13) (hjc hi_X8) rfl hm 0 (by decide) (List.mem_cons_of_mem _ wd_828) rfl dX8_count_147 ?_
          refine lv_iconst (v := 1) hx hb dX8_count_150 (by decide) ?_
          refine r_ialdN F h (k := 1) hr (rfl) (by decide) (by decide) dX8_count_151 ?_
          exact ret_i F h (Nat.zero_le _) (Nat.zero_le _) dX8_count_152 (⟨((show sp_X8_count r kp rs ty x sc = (r 1) by rw [sp_X8_count, if_neg (c := x = 0) q_59_0, if_neg (c := x = 1) q_59_1, if_neg (c := x = 2) q_59_2, if_neg (c := x = 3) q_59_3, if_neg (c := x = 4) q_59_4, if_neg (c := x = 5) q_59_5, if_pos (c := x = 6) q_59_6])).symm, rfl, rfl⟩)
        by_cases q_59_7 : x = 7
        · skip
          refine lv_tableIn (off := 94) (tgt := 153) hx hb dX8_count_59 (by rw [q_59_7]; decide) (by rw [q_59_7]; decide) (by rw [q_59_7]; rfl) (by decide) ?_
          refine lv_aload_n hx hb dX8_count_153 rfl (lv_at hl 0 rfl) ?_
          refine r_get F h (C := RX8) (T := TX8) (N := 13) (hjc hi_X8) rfl hm 0 (by decide) (List.mem_cons_of_mem _ wd_828) rfl dX8_count_154 ?_
          refine lv_iconst (v := 2) hx hb dX8_count_157 (by decide) ?_
          refine r_ialdN F h (k := 2) hr (rfl) (by decide) (by decide) dX8_count_158 ?_
          exact ret_i F h (Nat.zero_le _) (Nat.zero_le _) dX8_count_159 (⟨((show sp_X8_count r kp rs ty x sc = (r 2) by rw [sp_X8_count, if_neg (c := x = 0) q_59_0, if_neg (c := x = 1) q_59_1, if_neg (c := x = 2) q_59_2, if_neg (c := x = 3) q_59_3, if_neg (c := x = 4) q_59_4, if_neg (c := x = 5) q_59_5, if_neg (c := x = 6) q_59_6, if_pos (c := x = 7) q_59_7])).symm, rfl, rfl⟩)
        by_cases q_59_8 : x = 8
        · skip
          refine lv_tableIn (off := 101) (tgt := 160) hx hb dX8_count_59 (by rw [q_59_8]; decide) (by rw [q_59_8]; decide) (by rw [q_59_8]; rfl) (by decide) ?_
          refine lv_aload_n hx hb dX8_count_160 rfl (lv_at hl 0 rfl) ?_
          refine r_get F h (C := RX8) (T := TX8) (N := 13) (hjc hi_X8) rfl hm 6 (by decide) (List.mem_cons_of_mem _ wd_834) rfl dX8_count_161 ?_
          exact ret_i F h (Nat.zero_le _) (Nat.zero_le _) dX8_count_164 (⟨((show sp_X8_count r kp rs ty x sc = rs by rw [sp_X8_count, if_neg (c := x = 0) q_59_0, if_neg (c := x = 1) q_59_1, if_neg (c := x = 2) q_59_2, if_neg (c := x = 3) q_59_3, if_neg (c := x = 4) q_59_4, if_neg (c := x = 5) q_59_5, if_neg (c := x = 6) q_59_6, if_neg (c := x = 7) q_59_7, if_pos (c := x = 8) q_59_8])).symm, rfl, rfl⟩)
        by_cases q_59_9 : x = 9
        · skip
          refine lv_tableIn (off := 106) (tgt := 165) hx hb dX8_count_59 (by rw [q_59_9]; decide) (by rw [q_59_9]; decide) (by rw [q_59_9]; rfl) (by decide) ?_
          refine lv_aload_n hx hb dX8_count_165 rfl (lv_at hl 0 rfl) ?_
          refine r_get F h (C := RX8) (T := TX8) (N := 13) (hjc hi_X8) rfl hm 3 (by decide) (List.mem_cons_of_mem _ wd_831) rfl dX8_count_166 ?_
          exact ret_i F h (Nat.zero_le _) (Nat.zero_le _) dX8_count_169 (⟨((show sp_X8_count r kp rs ty x sc = kp by rw [sp_X8_count, if_neg (c := x = 0) q_59_0, if_neg (c := x = 1) q_59_1, if_neg (c := x = 2) q_59_2, if_neg (c := x = 3) q_59_3, if_neg (c := x = 4) q_59_4, if_neg (c := x = 5) q_59_5, if_neg (c := x = 6) q_59_6, if_neg (c := x = 7) q_59_7, if_neg (c := x = 8) q_59_8, if_pos (c := x = 9) q_59_9])).symm, rfl, rfl⟩)
        by_cases q_59_10 : x = 10
        · skip
          refine lv_tableIn (off := 111) (tgt := 170) hx hb dX8_count_59 (by rw [q_59_10]; decide) (by rw [q_59_10]; decide) (by rw [q_59_10]; rfl) (by decide) ?_
          refine lv_aload_n hx hb dX8_count_170 rfl (lv_at hl 0 rfl) ?_
          refine r_get F h (C := RX8) (T := TX8) (N := 13) (hjc hi_X8) rfl hm 7 (by decide) (List.mem_cons_of_mem _ wd_835) rfl dX8_count_171 ?_
          exact ret_i F h (Nat.zero_le _) (Nat.zero_le _) dX8_count_174 (⟨((show sp_X8_count r kp rs ty x sc = ty by rw [sp_X8_count, if_neg (c := x = 0) q_59_0, if_neg (c := x = 1) q_59_1, if_neg (c := x = 2) q_59_2, if_neg (c := x = 3) q_59_3, if_neg (c := x = 4) q_59_4, if_neg (c := x = 5) q_59_5, if_neg (c := x = 6) q_59_6, if_neg (c := x = 7) q_59_7, if_neg (c := x = 8) q_59_8, if_neg (c := x = 9) q_59_9, if_pos (c := x = 10) q_59_10])).symm, rfl, rfl⟩)
        refine lv_tableOut (tgt := 175) hx hb dX8_count_59 (by have z0 : ¬ (x).toInt = 0 := fun z => q_59_0 ((i_eq _ _).mpr z); have z1 : ¬ (x).toInt = 1 := fun z => q_59_1 ((i_eq _ _).mpr z); have z2 : ¬ (x).toInt = 2 := fun z => q_59_2 ((i_eq _ _).mpr z); have z3 : ¬ (x).toInt = 3 := fun z => q_59_3 ((i_eq _ _).mpr z); have z4 : ¬ (x).toInt = 4 := fun z => q_59_4 ((i_eq _ _).mpr z); have z5 : ¬ (x).toInt = 5 := fun z => q_59_5 ((i_eq _ _).mpr z); have z6 : ¬ (x).toInt = 6 := fun z => q_59_6 ((i_eq _ _).mpr z); have z7 : ¬ (x).toInt = 7 := fun z => q_59_7 ((i_eq _ _).mpr z); have z8 : ¬ (x).toInt = 8 := fun z => q_59_8 ((i_eq _ _).mpr z); have z9 : ¬ (x).toInt = 9 := fun z => q_59_9 ((i_eq _ _).mpr z); have z10 : ¬ (x).toInt = 10 := fun z => q_59_10 ((i_eq _ _).mpr z); omega) (by decide) ?_
        refine lv_ldc (v := (-100002)) hx hb F.2.2.2.1 (F.2.2.2.2.1 (Cond.constant RX8 70 (-100002)) (List.mem_cons_of_mem _ wd_900)) dX8_count_175 ?_
        exact ret_i F h (Nat.zero_le _) (Nat.zero_le _) dX8_count_177 (⟨((show sp_X8_count r kp rs ty x sc = (-100002) by rw [sp_X8_count, if_neg (c := x = 0) q_59_0, if_neg (c := x = 1) q_59_1, if_neg (c := x = 2) q_59_2, if_neg (c := x = 3) q_59_3, if_neg (c := x = 4) q_59_4, if_neg (c := x = 5) q_59_5, if_neg (c := x = 6) q_59_6, if_neg (c := x = 7) q_59_7, if_neg (c := x = 8) q_59_8, if_neg (c := x = 9) q_59_9, if_neg (c := x = 10) q_59_10])).symm, rfl, rfl⟩)
      have hk5 : k1 < sc := lp_lt (N := sc) hsc (by omega) (by omega) b_15
      refine lv_iload_n hx hb dX8_count_18 rfl (lv_at hl 2 rfl) ?_
      refine lv_aload_n hx hb dX8_count_19 rfl (lv_at hl 0 rfl) ?_
      refine r_get F h (C := RX8) (T := TX8) (N := 13) (hjc hi_X8) rfl hm 0 (by decide) (List.mem_cons_of_mem _ wd_828) rfl dX8_count_20 ?_
      refine lv_bipush (v := 69) hx hb dX8_count_23 (by decide) ?_
      refine lv_iconst (v := 3) hx hb dX8_count_25 (by decide) ?_
      refine lv_iload hx hb dX8_count_26 (lv_at hl 4 rfl) ?_
      refine lv_imul hx hb dX8_count_28 ?_
      refine lv_iadd hx hb dX8_count_29 ?_
      refine lv_iconst (v := 2) hx hb dX8_count_30 (by decide) ?_
      refine lv_iadd hx hb dX8_count_31 ?_
      refine r_ialdN F h (k := 69 + 3 * k1 + 2) hr (by simp only [fa_lit, pk_mul, nI_add]; first | done | (refine congrArg nI ?_; omega)) (by omega) (by decide) dX8_count_32 ?_
      refine lv_if_lt (tgt := 40) hx hb dX8_count_33 (by decide) (fun b_33 => ?_) (fun b_33 => ?_)
      · skip
        refine lv_iconst (v := 0) hx hb dX8_count_40 (by decide) ?_
        refine r_top (w := .int (if 0 ≤ r (69 + 3 * k1 + 2) then 1 else 0)) (congrArg Value.int (by rw [if_neg (Int32.not_le.mpr b_33)])) ?_
        refine lv_iadd hx hb dX8_count_41 ?_
        refine lv_istore_n (lv' := [(2, .int (orS r k1 + (if 0 ≤ r (69 + 3 * k1 + 2) then 1 else 0))), (0, .ref (gz g + b)), (1, .int x), (3, .int (snS r k1)), (4, .int (nI k1))]) hx hb dX8_count_42 rfl hl (by decide) rfl (fun ls hl => ?_)
        have hl : lv_has ls 5 [(2, .int (orS r (k1 + 1))), (0, .ref (gz g + b)), (1, .int x), (3, .int (snS r k1)), (4, .int (nI k1))] := by rw [show (orS r (k1 + 1) : Int32) = (orS r k1 + (if 0 ≤ r (69 + 3 * k1 + 2) then 1 else 0)) from rfl]; exact hl
        refine lv_iload_n hx hb dX8_count_43 rfl (lv_at hl 3 rfl) ?_
        refine lv_aload_n hx hb dX8_count_44 rfl (lv_at hl 1 rfl) ?_
        refine lv_iload hx hb dX8_count_45 (lv_at hl 4 rfl) ?_
        refine u_iE (v := (smI (fun w => r (84 + 6 * (4 * k1 + w) + 0)) 4)) (ru_V (As := [.int (nI k1)]) (rest := [.int (snS r k1)]) F h hm rfl (k_X8_seenHere l g n c b kp rs ty pl fa od hm r hr k1 (by omega)) (gV hjl wd_1149 wd_1151 wd_49 wd_58 wd_1152) rfl 1 (by decide +kernel) rfl ⟨Nat.le_of_ble_eq_true rfl, Nat.le_of_ble_eq_true rfl⟩ rfl hl.1 (Nat.le_of_ble_eq_true rfl) ⟨Nat.zero_le _, Nat.zero_le _⟩ dX8_count_47) h (fun H locs h => ?_)
        refine lv_iadd hx hb dX8_count_50 ?_
        refine lv_istore_n (lv' := [(3, .int (snS r k1 + (smI (fun w => r (84 + 6 * (4 * k1 + w) + 0)) 4))), (2, .int (orS r (k1 + 1))), (0, .ref (gz g + b)), (1, .int x), (4, .int (nI k1))]) hx hb dX8_count_51 rfl hl (by decide) rfl (fun ls hl => ?_)
        have hl : lv_has ls 5 [(3, .int (snS r (k1 + 1))), (2, .int (orS r (k1 + 1))), (0, .ref (gz g + b)), (1, .int x), (4, .int (nI k1))] := by rw [show (snS r (k1 + 1) : Int32) = (snS r k1 + (smI (fun w => r (84 + 6 * (4 * k1 + w) + 0)) 4)) from rfl]; exact hl
        refine lv_iinc (v := nI (k1 + 1)) (lv' := [(4, .int (nI (k1 + 1))), (3, .int (snS r (k1 + 1))), (2, .int (orS r (k1 + 1))), (0, .ref (gz g + b)), (1, .int x)]) hx hb dX8_count_52 hl (k := 4) rfl (by exact (nI_succ k1).symm) (by decide) rfl (fun ls hl => ?_)
        refine lv_goto (tgt := 7) hx hb dX8_count_55 (by decide) ?_
        exact ih (k1 + 1) (by omega) _ _ _ (by omega) h (lv_sub hl [3, 4, 2, 1, 0] rfl)
      refine lv_iconst (v := 1) hx hb dX8_count_36 (by decide) ?_
      refine lv_goto (tgt := 41) hx hb dX8_count_37 (by decide) ?_
      refine r_top (w := .int (if 0 ≤ r (69 + 3 * k1 + 2) then 1 else 0)) (congrArg Value.int (by rw [if_pos (Int32.not_lt.mp b_33)])) ?_
      refine lv_iadd hx hb dX8_count_41 ?_
      refine lv_istore_n (lv' := [(2, .int (orS r k1 + (if 0 ≤ r (69 + 3 * k1 + 2) then 1 else 0))), (0, .ref (gz g + b)), (1, .int x), (3, .int (snS r k1)), (4, .int (nI k1))]) hx hb dX8_count_42 rfl hl (by decide) rfl (fun ls hl => ?_)
      have hl : lv_has ls 5 [(2, .int (orS r (k1 + 1))), (0, .ref (gz g + b)), (1, .int x), (3, .int (snS r k1)), (4, .int (nI k1))] := by rw [show (orS r (k1 + 1) : Int32) = (orS r k1 + (if 0 ≤ r (69 + 3 * k1 + 2) then 1 else 0)) from rfl]; exact hl
      refine lv_iload_n hx hb dX8_count_43 rfl (lv_at hl 3 rfl) ?_
      refine lv_aload_n hx hb dX8_count_44 rfl (lv_at hl 1 rfl) ?_
      refine lv_iload hx hb dX8_count_45 (lv_at hl 4 rfl) ?_
      refine u_iE (v := (smI (fun w => r (84 + 6 * (4 * k1 + w) + 0)) 4)) (ru_V (As := [.int (nI k1)]) (rest := [.int (snS r k1)]) F h hm rfl (k_X8_seenHere l g n c b kp rs ty pl fa od hm r hr k1 (by omega)) (gV hjl wd_1149 wd_1151 wd_49 wd_58 wd_1152) rfl 1 (by decide +kernel) rfl ⟨Nat.le_of_ble_eq_true rfl, Nat.le_of_ble_eq_true rfl⟩ rfl hl.1 (Nat.le_of_ble_eq_true rfl) ⟨Nat.zero_le _, Nat.zero_le _⟩ dX8_count_47) h (fun H locs h => ?_)
      refine lv_iadd hx hb dX8_count_50 ?_
      refine lv_istore_n (lv' := [(3, .int (snS r k1 + (smI (fun w => r (84 + 6 * (4 * k1 + w) + 0)) 4))), (2, .int (orS r (k1 + 1))), (0, .ref (gz g + b)), (1, .int x), (4, .int (nI k1))]) hx hb dX8_count_51 rfl hl (by decide) rfl (fun ls hl => ?_)
      have hl : lv_has ls 5 [(3, .int (snS r (k1 + 1))), (2, .int (orS r (k1 + 1))), (0, .ref (gz g + b)), (1, .int x), (4, .int (nI k1))] := by rw [show (snS r (k1 + 1) : Int32) = (snS r k1 + (smI (fun w => r (84 + 6 * (4 * k1 + w) + 0)) 4)) from rfl]; exact hl
      refine lv_iinc (v := nI (k1 + 1)) (lv' := [(4, .int (nI (k1 + 1))), (3, .int (snS r (k1 + 1))), (2, .int (orS r (k1 + 1))), (0, .ref (gz g + b)), (1, .int x)]) hx hb dX8_count_52 hl (k := 4) rfl (by exact (nI_succ k1).symm) (by decide) rfl (fun ls hl => ?_)
      refine lv_goto (tgt := 7) hx hb dX8_count_55 (by decide) ?_
      exact ih (k1 + 1) (by omega) _ _ _ (by omega) h (lv_sub hl [3, 4, 2, 1, 0] rfl)
  exact lp _ 0 (Nat.zero_le _) _ _ _ (Nat.le_refl _) h (lv_sub hl [3, 4, 2, 1, 0] rfl)
set_option maxHeartbeats 4000000 in
set_option maxRecDepth 100000 in
theorem k_X8_type_e (l : Launch) (g : Gf) (n : Nat) (c : Mp) (b : Nat) (kp rs : Int32) (T : Nat) (hT7 : T ≤ 70) (pl fa od : Int32) (hm : c b = moC g b kp rs (nI T) pl fa od) (tx : Nat → Int32) (hc6 : c (b + 6) = some (.inl (g.2.1 2, 70, .inl tx))) (y : Int32) (he : T = 70) : Ct l g yX8_type wsX8_type 0 0 0 0 [.ref (gz g + b), .int y] n c (Qi g (fun xr n' c' => xr = -100004 ∧ n' = n ∧ c' = c)) := by
  refine ent (by decide) rfl (Nat.le_of_ble_eq_true rfl) ?_
  intro p e s m args below meth c0 F h ls hl
  have hx := F.1
  have hb := F.2.1
  have hl : lv_has ls 2 [(0, .ref (gz g + b)), (1, .int y)] := hl
  refine lv_aload_n hx hb dX8_type_0 rfl (lv_at hl 0 rfl) ?_
  refine r_get F h (C := RX8) (T := TX8) (N := 13) (hjc hi_X8) rfl hm 7 (by decide) (List.mem_cons_of_mem _ wd_835) rfl dX8_type_1 ?_
  refine lv_bipush (v := 70) hx hb dX8_type_4 (by decide) ?_
  refine lv_icmp_ne (tgt := 12) hx hb dX8_type_6 (by decide) (fun b_6 => by first | exact absurd b_6 (by rw [he]; rfl) | exact absurd (by rw [he]; rfl) b_6) (fun b_6 => ?_)
  refine lv_ldc (v := (-100004)) hx hb F.2.2.2.1 (F.2.2.2.2.1 (Cond.constant RX8 98 (-100004)) (List.mem_cons_of_mem _ wd_968)) dX8_type_9 ?_
  exact ret_i F h (Nat.zero_le _) (Nat.zero_le _) dX8_type_11 (⟨rfl, rfl, rfl⟩)
set_option maxHeartbeats 4000000 in
set_option maxRecDepth 100000 in
theorem k_X8_type_s (l : Launch) (g : Gf) (n : Nat) (c : Mp) (b : Nat) (kp rs : Int32) (T : Nat) (hT7 : T ≤ 70) (pl fa od : Int32) (hm : c b = moC g b kp rs (nI T) pl fa od) (tx : Nat → Int32) (hc6 : c (b + 6) = some (.inl (g.2.1 2, 70, .inl tx))) (y : Int32) (hy : narrow .char (.int y) = .int y) (he : ¬ T = 70) : Ct l g yX8_type wsX8_type 0 0 0 0 [.ref (gz g + b), .int y] n c (Qi g (fun x n' c' => x = nI (T + 1) ∧ n' = n ∧ c' = va_up (va_up c (b + 6) (some (.inl (g.2.1 2, 70, .inl (upd tx T y))))) b (moC g b kp rs (nI (T + 1)) pl fa od))) := by
  refine ent (by decide) rfl (Nat.le_of_ble_eq_true rfl) ?_
  intro p e s m args below meth c0 F h ls hl
  have hx := F.1
  have hb := F.2.1
  have hl : lv_has ls 2 [(0, .ref (gz g + b)), (1, .int y)] := hl
  refine lv_aload_n hx hb dX8_type_0 rfl (lv_at hl 0 rfl) ?_
  refine r_get F h (C := RX8) (T := TX8) (N := 13) (hjc hi_X8) rfl hm 7 (by decide) (List.mem_cons_of_mem _ wd_835) rfl dX8_type_1 ?_
  refine lv_bipush (v := 70) hx hb dX8_type_4 (by decide) ?_
  refine lv_icmp_ne (tgt := 12) hx hb dX8_type_6 (by decide) (fun b_6 => ?_) (fun b_6 => by first | exact absurd (fun z => he ((nI_eq (by omega) (by decide)).mp (show nI T = nI 70 from z))) b_6 | exact absurd b_6 (fun z => he ((nI_eq (by omega) (by decide)).mp (show nI T = nI 70 from z))))
  refine lv_aload_n hx hb dX8_type_12 rfl (lv_at hl 0 rfl) ?_
  refine r_get F h (C := RX8) (T := TX8) (N := 13) (hjc hi_X8) rfl hm 8 (by decide) (List.mem_cons_of_mem _ wd_836) rfl dX8_type_13 ?_
  refine lv_aload_n hx hb dX8_type_16 rfl (lv_at hl 0 rfl) ?_
  refine r_get F h (C := RX8) (T := TX8) (N := 13) (hjc hi_X8) rfl hm 7 (by decide) (List.mem_cons_of_mem _ wd_835) rfl dX8_type_17 ?_
  refine lv_iload_n hx hb dX8_type_20 rfl (lv_at hl 1 rfl) ?_
  refine r_castN F h (k := T) (f' := upd tx T y) hc6 (rfl) (by omega) (by decide) (hy) dX8_type_21 (rfl) (fun H locs h => ?_)
  refine lv_aload_n hx hb dX8_type_22 rfl (lv_at hl 0 rfl) ?_
  refine lv_dup hx hb dX8_type_23 rfl ?_
  refine r_get F h (C := RX8) (T := TX8) (N := 13) (hjc hi_X8) rfl ((mu_ne (by omega) _).trans hm) 7 (by decide) (List.mem_cons_of_mem _ wd_835) rfl dX8_type_24 ?_
  refine lv_iconst (v := 1) hx hb dX8_type_27 (by decide) ?_
  refine lv_iadd hx hb dX8_type_28 ?_
  refine r_top (w := .int (nI (T + 1))) (congrArg Value.int (nI_succ T).symm) ?_
  refine r_put F h (C := RX8) (T := TX8) (N := 13) (fs' := [.ref (gz g + (b + 1)), .ref (gz g + (b + 2)), .ref (gz g + (b + 3)), .int kp, .ref (gz g + (b + 4)), .ref (gz g + (b + 5)), .int rs, .int (nI (T + 1)), .ref (gz g + (b + 6)), .int pl, .int fa, .int od, .ref (gz g + (b + 7))]) (hjc hi_X8) tyX8 tyX8_ok nmX8 rfl ((mu_ne (by omega) _).trans hm) 7 (by decide) (List.mem_cons_of_mem _ wd_835) rfl (rfl) (rfl) (Nat.le_of_ble_eq_true rfl) rfl dX8_type_29 (fun H locs h => ?_)
  refine lv_aload_n hx hb dX8_type_32 rfl (lv_at hl 0 rfl) ?_
  refine r_get F h (C := RX8) (T := TX8) (N := 13) (hjc hi_X8) rfl (mu_eq _ _ _) 7 (by decide) (List.mem_cons_of_mem _ wd_835) rfl dX8_type_33 ?_
  exact ret_i F h (Nat.zero_le _) (Nat.zero_le _) dX8_type_36 (⟨rfl, rfl, rfl⟩)
set_option maxHeartbeats 4000000 in
set_option maxRecDepth 100000 in
theorem k_X8_clearText (l : Launch) (g : Gf) (n : Nat) (c : Mp) (b : Nat) (kp rs ty pl fa od : Int32) (hm : c b = moC g b kp rs ty pl fa od) : Ct l g yX8_clearText wsX8_clearText 0 0 0 0 [.ref (gz g + b)] n c (Qi g (fun x n' c' => x = ty ∧ n' = n ∧ c' = va_up c b (moC g b kp rs 0 pl fa od))) := by
  refine ent (by decide) rfl (Nat.le_of_ble_eq_true rfl) ?_
  intro p e s m args below meth c0 F h ls hl
  have hx := F.1
  have hb := F.2.1
  have hl : lv_has ls 2 [(0, .ref (gz g + b))] := hl
  refine lv_aload_n hx hb dX8_clearText_0 rfl (lv_at hl 0 rfl) ?_
  refine r_get F h (C := RX8) (T := TX8) (N := 13) (hjc hi_X8) rfl hm 7 (by decide) (List.mem_cons_of_mem _ wd_835) rfl dX8_clearText_1 ?_
  refine lv_istore_n (lv' := [(1, .int ty), (0, .ref (gz g + b))]) hx hb dX8_clearText_4 rfl hl (by decide) rfl (fun ls hl => ?_)
  refine lv_aload_n hx hb dX8_clearText_5 rfl (lv_at hl 1 rfl) ?_
  refine lv_iconst (v := 0) hx hb dX8_clearText_6 (by decide) ?_
  refine r_put F h (C := RX8) (T := TX8) (N := 13) (fs' := [.ref (gz g + (b + 1)), .ref (gz g + (b + 2)), .ref (gz g + (b + 3)), .int kp, .ref (gz g + (b + 4)), .ref (gz g + (b + 5)), .int rs, .int 0, .ref (gz g + (b + 6)), .int pl, .int fa, .int od, .ref (gz g + (b + 7))]) (hjc hi_X8) tyX8 tyX8_ok nmX8 rfl hm 7 (by decide) (List.mem_cons_of_mem _ wd_835) rfl (rfl) (rfl) (Nat.le_of_ble_eq_true rfl) rfl dX8_clearText_7 (fun H locs h => ?_)
  refine lv_iload_n hx hb dX8_clearText_10 rfl (lv_at hl 0 rfl) ?_
  exact ret_i F h (Nat.zero_le _) (Nat.zero_le _) dX8_clearText_11 (⟨rfl, rfl, rfl⟩)
