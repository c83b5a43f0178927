/-! The reference: its helpers over the row. -/
abbrev moC (g : Gf) (b : Nat) (kp rs ty pl fa od : Int32) : Option va_E := some (.inr (8, [.ref (gz g + (b + 1)), .ref (gz g + (b + 2)), .ref (gz g + (b + 3)), .int kp, .ref (gz g + (b + 4)), .ref (gz g + (b + 5)), .int rs, .int ty, .ref (gz g + (b + 6)), .int pl, .int fa, .int od, .ref (gz g + (b + 7))]))
set_option maxHeartbeats 4000000 in
set_option maxRecDepth 100000 in
theorem k_X8_refuse (l : Launch) (g : Gf) (n : Nat) (c : Mp) (b : Nat) (kp rs ty pl fa od : Int32) (hm : c b = moC g b kp rs ty pl fa od) (y : Int32) : Ct l g yX8_refuse wsX8_refuse 0 0 0 0 [.ref (gz g + b), .int y] n c (Qi g (fun x n' c' => x = -100003 ∧ n' = n ∧ c' = va_up c b (moC g b kp y ty pl fa od))) := by
  refine ent (by decide) rfl (Nat.le_of_ble_eq_true rfl) ?_
  intro p e s m args below meth c0 F h ls hl
  have hx := F.1
  have hb := F.2.1
  have hl : lv_has ls 2 [(0, .ref (gz g + b)), (1, .int y)] := hl
  refine lv_aload_n hx hb dX8_refuse_0 rfl (lv_at hl 0 rfl) ?_
  refine lv_iload_n hx hb dX8_refuse_1 rfl (lv_at hl 1 rfl) ?_
  refine r_put F h (C := RX8) (T := TX8) (N := 13) (fs' := [.ref (gz g + (b + 1)), .ref (gz g + (b + 2)), .ref (gz g + (b + 3)), .int kp, .ref (gz g + (b + 4)), .ref (gz g + (b + 5)), .int y, .int ty, .ref (gz g + (b + 6)), .int pl, .int fa, .int od, .ref (gz g + (b + 7))]) (hjc hi_X8) tyX8 tyX8_ok nmX8 rfl hm 6 (by decide) (List.mem_cons_of_mem _ wd_834) rfl (rfl) (rfl) (Nat.le_of_ble_eq_true rfl) rfl dX8_refuse_2 (fun H locs h => ?_)
  refine lv_ldc (v := (-100003)) hx hb F.2.2.2.1 (F.2.2.2.2.1 (Cond.constant RX8 39 (-100003)) (List.mem_cons_of_mem _ wd_932)) dX8_refuse_5 ?_
  exact ret_i F h (Nat.zero_le _) (Nat.zero_le _) dX8_refuse_7 (⟨rfl, rfl, rfl⟩)
set_option maxHeartbeats 4000000 in
set_option maxRecDepth 100000 in
theorem k_X8_begin (l : Launch) (g : Gf) (n : Nat) (c : Mp) (b : Nat) (kp rs ty pl fa od : Int32) (hm : c b = moC g b kp rs ty pl fa od) (r : Nat → Int32) (hr : c (b + 1) = iaA (g.2.1 0) 204 r) (sc : Nat → Int32) (hc2 : c (b + 2) = iaA (g.2.1 0) 204 sc) : Ct l g yX8_begin wsX8_begin 0 0 0 0 [.ref (gz g + b)] n c (Qv g (fun n' c' => n' = n ∧ c' = va_up c (b + 2) (iaA (g.2.1 0) 204 r))) := by
  refine ent (by decide) rfl (Nat.le_of_ble_eq_true rfl) ?_
  intro p e s m args below meth c0 F h ls hl
  have hx := F.1
  have hb := F.2.1
  have hl : lv_has ls 2 [(0, .ref (gz g + b))] := hl
  refine lv_iconst (v := 0) hx hb dX8_begin_0 (by decide) ?_
  refine lv_istore_n (lv' := [(1, .int 0), (0, .ref (gz g + b))]) hx hb dX8_begin_1 rfl hl (by decide) rfl (fun ls hl => ?_)
  refine r_mem (c1 := (va_up c (b + 2) (iaA (g.2.1 0) 204 (fa_fill r sc 0)))) h (by rw [fa_fill_0]; exact (mu_self hc2).symm) (fun h => ?_)
  have lp : ∀ (k : Nat) (k1 : Nat) (hw : k1 ≤ 204) (H : Heap) (locs : List Loc) (ls : Array Slot), (205 - k1) ≤ k → Hv g s H locs n (va_up c (b + 2) (some (.inl (g.2.1 0, 204, .inl (fa_fill r sc k1))))) → lv_has ls 2 [(0, .ref (gz g + b)), (1, .int (nI k1))] → W p l e (Rm 0 0 0 0) s m args below meth c0 H locs 0 0 (MQ below (Qv g (fun n' c' => n' = n ∧ c' = va_up c (b + 2) (iaA (g.2.1 0) 204 r))) args s 0 0 (mAf g)) (F0 m 2 ls []) := by
    intro k
    induction k with
    | zero => intro k1 hw H locs ls hk h hl; exact absurd hk (by omega)
    | succ k ih =>
      intro k1 hw H locs ls hk h hl
      refine lv_iload_n hx hb dX8_begin_2 rfl (lv_at hl 1 rfl) ?_
      refine lv_sipush (v := 204) hx hb dX8_begin_3 (by decide) ?_
      refine lv_icmp_ge (tgt := 27) hx hb dX8_begin_6 (by decide) (fun b_6 => ?_) (fun b_6 => ?_)
      · skip
        have e4 : k1 = 204 := by have := lp_ge (N := 204) rfl (by omega) (by decide) b_6; omega
        refine r_arr r h (mu_eq _ _ _) (fun k hk => fa_fill_in (by omega)) (fun h => ?_)
        refine r_mem h (mu_uu _ _ _ _) (fun h => ?_)
        exact ret_v F h (Nat.zero_le _) (Nat.zero_le _) dX8_begin_27 (⟨rfl, rfl⟩)
      have hw4 : k1 < 204 := lp_lt (N := 204) rfl (by omega) (by decide) b_6
      refine lv_aload_n hx hb dX8_begin_9 rfl (lv_at hl 0 rfl) ?_
      refine r_get F h (C := RX8) (T := TX8) (N := 13) (hjc hi_X8) rfl ((mu_ne (by omega) _).trans hm) 1 (by decide) (List.mem_cons_of_mem _ wd_829) rfl dX8_begin_10 ?_
      refine lv_iload_n hx hb dX8_begin_13 rfl (lv_at hl 1 rfl) ?_
      refine lv_aload_n hx hb dX8_begin_14 rfl (lv_at hl 0 rfl) ?_
      refine r_get F h (C := RX8) (T := TX8) (N := 13) (hjc hi_X8) rfl ((mu_ne (by omega) _).trans hm) 0 (by decide) (List.mem_cons_of_mem _ wd_828) rfl dX8_begin_15 ?_
      refine lv_iload_n hx hb dX8_begin_18 rfl (lv_at hl 1 rfl) ?_
      refine r_ialdN F h (k := k1) ((mu_ne (by omega) _).trans hr) (rfl) (hw4) (by decide) dX8_begin_19 ?_
      refine r_iastN F h (k := k1) (f' := fa_fill r sc (k1 + 1)) (mu_eq _ _ _) (rfl) (hw4) (by decide) dX8_begin_20 (fa_fill_succ r sc k1) (fun H locs h => ?_)
      refine r_mem (c1 := (va_up c (b + 2) (some (.inl (g.2.1 0, 204, .inl (fa_fill r sc (k1 + 1))))))) h (mu_uu _ _ _ _) (fun h => ?_)
      refine lv_iinc (v := nI (k1 + 1)) (lv' := [(1, .int (nI (k1 + 1))), (0, .ref (gz g + b))]) hx hb dX8_begin_21 hl (k := 1) rfl (by exact (nI_succ k1).symm) (by decide) rfl (fun ls hl => ?_)
      refine lv_goto (tgt := 2) hx hb dX8_begin_24 (by decide) ?_
      exact ih (k1 + 1) (by omega) _ _ _ (by omega) h (lv_sub hl [1, 0] rfl)
  exact lp _ 0 (Nat.zero_le _) _ _ _ (Nat.le_refl _) h (lv_sub hl [1, 0] rfl)
set_option maxHeartbeats 4000000 in
set_option maxRecDepth 100000 in
theorem k_X8_of (l : Launch) (g : Gf) (n : Nat) (c : Mp) (b : Nat) (kp rs ty pl fa od : Int32) (hm : c b = moC g b kp rs ty pl fa od) (r : Nat → Int32) (hr : c (b + 1) = iaA (g.2.1 0) 204 r) (w k1 : Nat) (hw : w < 4) (hk : k1 < 11) : Ct l g yX8_of wsX8_of 0 0 0 0 [.ref (gz g + b), .int (nI w), .int (nI k1)] n c (Qi g (fun xr n' c' => xr = r (5 + 11 * w + k1) ∧ n' = n ∧ c' = c)) := by
  refine ent (by decide) rfl (Nat.le_of_ble_eq_true rfl) ?_
  intro p e s m args below meth c0 F h ls hl
  have hx := F.1
  have hb := F.2.1
  have hl : lv_has ls 3 [(0, .ref (gz g + b)), (1, .int (nI w)), (2, .int (nI k1))] := hl
  refine lv_aload_n hx hb dX8_of_0 rfl (lv_at hl 0 rfl) ?_
  refine r_get F h (C := RX8) (T := TX8) (N := 13) (hjc hi_X8) rfl hm 0 (by decide) (List.mem_cons_of_mem _ wd_828) rfl dX8_of_1 ?_
  refine lv_iconst (v := 5) hx hb dX8_of_4 (by decide) ?_
  refine lv_bipush (v := 11) hx hb dX8_of_5 (by decide) ?_
  refine lv_iload_n hx hb dX8_of_7 rfl (lv_at hl 1 rfl) ?_
  refine lv_imul hx hb dX8_of_8 ?_
  refine lv_iadd hx hb dX8_of_9 ?_
  refine lv_iload_n hx hb dX8_of_10 rfl (lv_at hl 2 rfl) ?_
  refine lv_iadd hx hb dX8_of_11 ?_
  refine r_ialdN F h (k := 5 + 11 * w + k1) hr (by simp only [fa_lit, pk_mul, nI_add]; first | done | (refine congrArg nI ?_; omega)) (by omega) (by decide) dX8_of_12 ?_
  exact ret_i F h (Nat.zero_le _) (Nat.zero_le _) dX8_of_13 (⟨rfl, rfl, rfl⟩)
set_option maxHeartbeats 4000000 in
set_option maxRecDepth 100000 in
theorem k_X8_put (l : Launch) (g : Gf) (n : Nat) (c : Mp) (b : Nat) (kp rs ty pl fa od : Int32) (hm : c b = moC g b kp rs ty pl fa od) (r : Nat → Int32) (hr : c (b + 1) = iaA (g.2.1 0) 204 r) (w k1 : Nat) (hw : w < 4) (hk : k1 < 11) (v : Int32) : Ct l g yX8_put wsX8_put 0 0 0 0 [.ref (gz g + b), .int (nI w), .int (nI k1), .int v] n c (Qv g (fun n' c' => n' = n ∧ c' = va_up c (b + 1) (iaA (g.2.1 0) 204 (upd r (5 + 11 * w + k1) v)))) := by
  refine ent (by decide) rfl (Nat.le_of_ble_eq_true rfl) ?_
  intro p e s m args below meth c0 F h ls hl
  have hx := F.1
  have hb := F.2.1
  have hl : lv_has ls 4 [(0, .ref (gz g + b)), (1, .int (nI w)), (2, .int (nI k1)), (3, .int v)] := hl
  refine lv_aload_n hx hb dX8_put_0 rfl (lv_at hl 0 rfl) ?_
  refine r_get F h (C := RX8) (T := TX8) (N := 13) (hjc hi_X8) rfl hm 0 (by decide) (List.mem_cons_of_mem _ wd_828) rfl dX8_put_1 ?_
  refine lv_iconst (v := 5) hx hb dX8_put_4 (by decide) ?_
  refine lv_bipush (v := 11) hx hb dX8_put_5 (by decide) ?_
  refine lv_iload_n hx hb dX8_put_7 rfl (lv_at hl 1 rfl) ?_
  refine lv_imul hx hb dX8_put_8 ?_
  refine lv_iadd hx hb dX8_put_9 ?_
  refine lv_iload_n hx hb dX8_put_10 rfl (lv_at hl 2 rfl) ?_
  refine lv_iadd hx hb dX8_put_11 ?_
  refine lv_iload_n hx hb dX8_put_12 rfl (lv_at hl 3 rfl) ?_
  refine r_iastN F h (k := 5 + 11 * w + k1) (f' := upd r (5 + 11 * w + k1) v) hr (by simp only [fa_lit, pk_mul, nI_add]; first | done | (refine congrArg nI ?_; omega)) (by omega) (by decide) dX8_put_13 (rfl) (fun H locs h => ?_)
  exact ret_v F h (Nat.zero_le _) (Nat.zero_le _) dX8_put_14 (⟨rfl, rfl⟩)
def noS (r : Nat → Int32) (s : Int32) : Int32 := if inI s 0 (r 4 - 1) = 0 then 1 else 0
set_option maxHeartbeats 4000000 in
set_option maxRecDepth 100000 in
theorem k_X8_noStation (l : Launch) (g : Gf) (n : Nat) (c : Mp) (b : Nat) (kp rs ty pl fa od : Int32) (hm : c b = moC g b kp rs ty pl fa od) (r : Nat → Int32) (hr : c (b + 1) = iaA (g.2.1 0) 204 r) (s1 : Int32) : Ct l g yX8_noStation wsX8_noStation 1 22 0 0 [.ref (gz g + b), .int s1] n c (Qi g (fun xr n' c' => xr = noS r s1 ∧ n' = n ∧ c' = c)) := by
  refine ent (by decide) rfl (Nat.le_of_ble_eq_true rfl) ?_
  intro p e s m args below meth c0 F h ls hl
  have hx := F.1
  have hb := F.2.1
  have hl : lv_has ls 2 [(0, .ref (gz g + b)), (1, .int s1)] := hl
  refine lv_iload_n hx hb dX8_noStation_0 rfl (lv_at hl 1 rfl) ?_
  refine lv_iconst (v := 0) hx hb dX8_noStation_1 (by decide) ?_
  refine lv_aload_n hx hb dX8_noStation_2 rfl (lv_at hl 0 rfl) ?_
  refine r_get F h (C := RX8) (T := TX8) (N := 13) (hjc hi_X8) rfl hm 0 (by decide) (List.mem_cons_of_mem _ wd_828) rfl dX8_noStation_3 ?_
  refine lv_iconst (v := 4) hx hb dX8_noStation_6 (by decide) ?_
  refine r_ialdN F h (k := 4) hr (rfl) (by decide) (by decide) dX8_noStation_7 ?_
  refine lv_iconst (v := 1) hx hb dX8_noStation_8 (by decide) ?_
  refine lv_isub hx hb dX8_noStation_9 ?_
  refine u_iE (v := (inI s1 0 ((r 4) - 1))) (ru_S (As := [.int s1, .int 0, .int ((r 4) - 1)]) (rest := []) F h (k_X8_in l g n c s1 0 ((r 4) - 1)) (gS hjl wd_877 wd_878 wd_58 wd_879) rfl 3 (by decide +kernel) rfl ⟨Nat.le_of_ble_eq_true rfl, Nat.le_of_ble_eq_true rfl⟩ rfl hl.1 (Nat.le_of_ble_eq_true rfl) ⟨Nat.zero_le _, Nat.zero_le _⟩ dX8_noStation_10) h (fun H locs h => ?_)
  refine lv_if_ne (tgt := 20) hx hb dX8_noStation_13 (by decide) (fun b_13 => ?_) (fun b_13 => ?_)
  · skip
    refine lv_iconst (v := 0) hx hb dX8_noStation_20 (by decide) ?_
    exact ret_z F h (by decide) (Nat.zero_le _) (Nat.zero_le _) dX8_noStation_21 (⟨by simp [noS, *], rfl, rfl⟩)
  refine lv_iconst (v := 1) hx hb dX8_noStation_16 (by decide) ?_
  refine lv_goto (tgt := 21) hx hb dX8_noStation_17 (by decide) ?_
  exact ret_z F h (by decide) (Nat.zero_le _) (Nat.zero_le _) dX8_noStation_21 (⟨by simp [noS, *], rfl, rfl⟩)
def hgI (r : Nat → Int32) (w : Nat) : Int32 := if r (5 + 11 * w + 0) = 1 then 1 else 0
set_option maxHeartbeats 4000000 in
set_option maxRecDepth 100000 in
theorem k_X8_isHung (l : Launch) (g : Gf) (n : Nat) (c : Mp) (b : Nat) (kp rs ty pl fa od : Int32) (hm : c b = moC g b kp rs ty pl fa od) (r : Nat → Int32) (hr : c (b + 1) = iaA (g.2.1 0) 204 r) (w : Nat) (hw : w < 4) : Ct l g yX8_isHung wsX8_isHung 1 22 0 0 [.ref (gz g + b), .int (nI w)] n c (Qi g (fun xr n' c' => xr = hgI r w ∧ n' = n ∧ c' = c)) := by
  refine ent (by decide) rfl (Nat.le_of_ble_eq_true rfl) ?_
  intro p e s m args below meth c0 F h ls hl
  have hx := F.1
  have hb := F.2.1
  have hl : lv_has ls 2 [(0, .ref (gz g + b)), (1, .int (nI w))] := hl
  refine lv_aload_n hx hb dX8_isHung_0 rfl (lv_at hl 0 rfl) ?_
  refine lv_iload_n hx hb dX8_isHung_1 rfl (lv_at hl 1 rfl) ?_
  refine lv_iconst (v := 0) hx hb dX8_isHung_2 (by decide) ?_
  refine u_iE (v := (r (5 + 11 * w + 0))) (ru_V (As := [.int (nI w), .int 0]) (rest := []) F h hm rfl (k_X8_of l g n c b kp rs ty pl fa od hm r hr w 0 (by omega) (by decide)) (gV hjl wd_916 wd_918 wd_21 wd_58 wd_919) rfl 2 (by decide +kernel) rfl ⟨Nat.le_of_ble_eq_true rfl, Nat.le_of_ble_eq_true rfl⟩ rfl hl.1 (Nat.le_of_ble_eq_true rfl) ⟨Nat.zero_le _, Nat.zero_le _⟩ dX8_isHung_3) h (fun H locs h => ?_)
  refine lv_iconst (v := 1) hx hb dX8_isHung_6 (by decide) ?_
  refine lv_icmp_ne (tgt := 14) hx hb dX8_isHung_7 (by decide) (fun b_7 => ?_) (fun b_7 => ?_)
  · skip
    refine lv_iconst (v := 0) hx hb dX8_isHung_14 (by decide) ?_
    exact ret_z F h (by decide) (Nat.zero_le _) (Nat.zero_le _) dX8_isHung_15 (⟨by simp only [hgI, if_pos, if_neg, not_false_eq_true, *], rfl, rfl⟩)
  refine lv_iconst (v := 1) hx hb dX8_isHung_10 (by decide) ?_
  refine lv_goto (tgt := 15) hx hb dX8_isHung_11 (by decide) ?_
  exact ret_z F h (by decide) (Nat.zero_le _) (Nat.zero_le _) dX8_isHung_15 (⟨by simp only [hgI, if_pos, if_neg, not_false_eq_true, *], rfl, rfl⟩)
/-- the sum of the first -/
def smI (f : Nat → Int32) : Nat → Int32
  | 0 => 0
  | k + 1 => smI f k + f k
set_option maxHeartbeats 4000000 in
set_option maxRecDepth 100000 in
theorem k_X8_hungOnes (l : Launch) (g : Gf) (n : Nat) (c : Mp) (b : Nat) (kp rs ty pl fa od : Int32) (hm : c b = moC g b kp rs ty pl fa od) (r : Nat → Int32) (hr : c (b + 1) = iaA (g.2.1 0) 204 r) : Ct l g yX8_hungOnes wsX8_hungOnes 1 22 0 0 [.ref (gz g + b)] n c (Qi g (fun xr n' c' => xr = smI (fun v => r (5 + 11 * v + 0)) 4 ∧ n' = n ∧ c' = c)) := by
  refine ent (by decide) rfl (Nat.le_of_ble_eq_true rfl) ?_
  intro p e s m args below meth c0 F h ls hl
  have hx := F.1
  have hb := F.2.1
  have hl : lv_has ls 3 [(0, .ref (gz g + b))] := hl
  refine lv_iconst (v := 0) hx hb dX8_hungOnes_0 (by decide) ?_
  refine lv_istore_n (lv' := [(1, .int 0), (0, .ref (gz g + b))]) hx hb dX8_hungOnes_1 rfl hl (by decide) rfl (fun ls hl => ?_)
  refine lv_iconst (v := 0) hx hb dX8_hungOnes_2 (by decide) ?_
  refine lv_istore_n (lv' := [(2, .int 0), (1, .int 0), (0, .ref (gz g + b))]) hx hb dX8_hungOnes_3 rfl hl (by decide) rfl (fun ls hl => ?_)
  have lp : ∀ (k : Nat) (w : Nat) (hw : w ≤ 4) (H : Heap) (locs : List Loc) (ls : Array Slot), (5 - w) ≤ k → Hv g s H locs n c → lv_has ls 3 [(0, .ref (gz g + b)), (1, .int (smI (fun v => r (5 + 11 * v + 0)) w)), (2, .int (nI w))] → W p l e (Rm 1 22 0 0) s m args below meth c0 H locs 0 0 (MQ below (Qi g (fun xr n' c' => xr = smI (fun v => r (5 + 11 * v + 0)) 4 ∧ n' = n ∧ c' = c)) args s 0 0 (mAf g)) (F0 m 4 ls []) := by
    intro k
    induction k with
    | zero => intro w hw H locs ls hk h hl; exact absurd hk (by omega)
    | succ k ih =>
      intro w hw H locs ls hk h hl
      refine lv_iload_n hx hb dX8_hungOnes_4 rfl (lv_at hl 2 rfl) ?_
      refine lv_iconst (v := 4) hx hb dX8_hungOnes_5 (by decide) ?_
      refine lv_icmp_ge (tgt := 24) hx hb dX8_hungOnes_6 (by decide) (fun b_6 => ?_) (fun b_6 => ?_)
      · skip
        refine lv_iload_n hx hb dX8_hungOnes_24 rfl (lv_at hl 1 rfl) ?_
        exact ret_i F h (Nat.zero_le _) (Nat.zero_le _) dX8_hungOnes_25 (⟨by rw [show w = 4 from by have := lp_ge (N := 4) rfl (by omega) (by decide) b_6; omega], rfl, rfl⟩)
      have hw4 : w < 4 := lp_lt (N := 4) rfl (by omega) (by decide) b_6
      refine lv_iload_n hx hb dX8_hungOnes_9 rfl (lv_at hl 1 rfl) ?_
      refine lv_aload_n hx hb dX8_hungOnes_10 rfl (lv_at hl 0 rfl) ?_
      refine lv_iload_n hx hb dX8_hungOnes_11 rfl (lv_at hl 2 rfl) ?_
      refine lv_iconst (v := 0) hx hb dX8_hungOnes_12 (by decide) ?_
      refine u_iE (v := (r (5 + 11 * w + 0))) (ru_V (As := [.int (nI w), .int 0]) (rest := [.int (smI (fun v => r (5 + 11 * v + 0)) w)]) F h hm rfl (k_X8_of l g n c b kp rs ty pl fa od hm r hr w 0 (by omega) (by decide)) (gV hjl wd_916 wd_918 wd_21 wd_58 wd_919) rfl 2 (by decide +kernel) rfl ⟨Nat.le_of_ble_eq_true rfl, Nat.le_of_ble_eq_true rfl⟩ rfl hl.1 (Nat.le_of_ble_eq_true rfl) ⟨Nat.zero_le _, Nat.zero_le _⟩ dX8_hungOnes_13) h (fun H locs h => ?_)
      refine lv_iadd hx hb dX8_hungOnes_16 ?_
      refine lv_istore_n (lv' := [(1, .int (smI (fun v => r (5 + 11 * v + 0)) w + (r (5 + 11 * w + 0)))), (0, .ref (gz g + b)), (2, .int (nI w))]) hx hb dX8_hungOnes_17 rfl hl (by decide) rfl (fun ls hl => ?_)
      have hl : lv_has ls 3 [(1, .int (smI (fun v => r (5 + 11 * v + 0)) (w + 1))), (0, .ref (gz g + b)), (2, .int (nI w))] := by rw [show (smI (fun v => r (5 + 11 * v + 0)) (w + 1) : Int32) = (smI (fun v => r (5 + 11 * v + 0)) w + (r (5 + 11 * w + 0))) from rfl]; exact hl
      refine lv_iinc (v := nI (w + 1)) (lv' := [(2, .int (nI (w + 1))), (1, .int (smI (fun v => r (5 + 11 * v + 0)) (w + 1))), (0, .ref (gz g + b))]) hx hb dX8_hungOnes_18 hl (k := 2) rfl (by exact (nI_succ w).symm) (by decide) rfl (fun ls hl => ?_)
      refine lv_goto (tgt := 4) hx hb dX8_hungOnes_21 (by decide) ?_
      exact ih (w + 1) (by omega) _ _ _ (by omega) h (lv_sub hl [2, 1, 0] rfl)
  exact lp _ 0 (Nat.zero_le _) _ _ _ (Nat.le_refl _) h (lv_sub hl [2, 1, 0] rfl)
theorem vdR_upd (r : Nat → Int32) {w i : Nat} (hw : w < 4) : upd (vdR r w i) (84 + 6 * (4 * i + w)) 0 = vdR r w (i + 1) := by
  funext k
  by_cases e : k = 84 + 6 * (4 * i + w)
  · subst e; rw [vdR_0at r hw]; simp [upd]
  · have e2 : upd (vdR r w i) (84 + 6 * (4 * i + w)) 0 k = vdR r w i k := by simp [upd, e]
    rw [e2]
    unfold vdR
    by_cases h1 : 84 ≤ k ∧ (k - 84) % 24 = 6 * w ∧ (k - 84) / 24 < i
    · rw [if_pos h1, if_pos ⟨h1.1, h1.2.1, by omega⟩]
    · rw [if_neg h1, if_neg (fun z => h1 ⟨z.1, z.2.1, by omega⟩)]
set_option maxHeartbeats 4000000 in
set_option maxRecDepth 100000 in
theorem k_X8_voidOf (l : Launch) (g : Gf) (n : Nat) (c : Mp) (b : Nat) (kp rs ty pl fa od : Int32) (hm : c b = moC g b kp rs ty pl fa od) (r : Nat → Int32) (hr : c (b + 1) = iaA (g.2.1 0) 204 r) (w : Nat) (hw : w < 4) : Ct l g yX8_voidOf wsX8_voidOf 1 21 0 0 [.ref (gz g + b), .int (nI w)] n c (Qi g (fun x n' c' => x = smI (fun s => r (84 + 6 * (4 * s + w))) 5 ∧ n' = n ∧ c' = va_up c (b + 1) (iaA (g.2.1 0) 204 (vdR r w 5)))) := by
  refine ent (by decide) rfl (Nat.le_of_ble_eq_true rfl) ?_
  intro p e s m args below meth c0 F h ls hl
  have hx := F.1
  have hb := F.2.1
  have hl : lv_has ls 4 [(0, .ref (gz g + b)), (1, .int (nI w))] := hl
  refine lv_iconst (v := 0) hx hb dX8_voidOf_0 (by decide) ?_
  refine lv_istore_n (lv' := [(2, .int 0), (0, .ref (gz g + b)), (1, .int (nI w))]) hx hb dX8_voidOf_1 rfl hl (by decide) rfl (fun ls hl => ?_)
  refine lv_iconst (v := 0) hx hb dX8_voidOf_2 (by decide) ?_
  refine lv_istore_n (lv' := [(3, .int 0), (2, .int 0), (0, .ref (gz g + b)), (1, .int (nI w))]) hx hb dX8_voidOf_3 rfl hl (by decide) rfl (fun ls hl => ?_)
  refine r_mem (c1 := (va_up c (b + 1) (iaA (g.2.1 0) 204 (vdR r w 0)))) h (by rw [vdR_0]; exact (mu_self hr).symm) (fun h => ?_)
  have lp : ∀ (k : Nat) (s1 : Nat) (hs : s1 ≤ 5) (H : Heap) (locs : List Loc) (ls : Array Slot), (6 - s1) ≤ k → Hv g s H locs n (va_up c (b + 1) (some (.inl (g.2.1 0, 204, .inl (vdR r w s1))))) → lv_has ls 4 [(0, .ref (gz g + b)), (1, .int (nI w)), (2, .int (smI (fun s => r (84 + 6 * (4 * s + w))) s1)), (3, .int (nI s1))] → W p l e (Rm 1 21 0 0) s m args below meth c0 H locs 0 0 (MQ below (Qi g (fun x n' c' => x = smI (fun s => r (84 + 6 * (4 * s + w))) 5 ∧ n' = n ∧ c' = va_up c (b + 1) (iaA (g.2.1 0) 204 (vdR r w 5)))) args s 0 0 (mAf g)) (F0 m 4 ls []) := by
    intro k
    induction k with
    | zero => intro s1 hs H locs ls hk h hl; exact absurd hk (by omega)
    | succ k ih =>
      intro s1 hs H locs ls hk h hl
      refine lv_iload_n hx hb dX8_voidOf_4 rfl (lv_at hl 3 rfl) ?_
      refine lv_iconst (v := 5) hx hb dX8_voidOf_5 (by decide) ?_
      refine lv_icmp_ge (tgt := 43) hx hb dX8_voidOf_6 (by decide) (fun b_6 => ?_) (fun b_6 => ?_)
      · skip
        have e4 : s1 = 5 := by have := lp_ge (N := 5) rfl (by omega) (by decide) b_6; omega
        subst e4
        refine lv_iload_n hx hb dX8_voidOf_43 rfl (lv_at hl 2 rfl) ?_
        exact ret_i F h (Nat.zero_le _) (Nat.zero_le _) dX8_voidOf_44 (⟨rfl, rfl, rfl⟩)
      have hw4 : s1 < 5 := lp_lt (N := 5) rfl (by omega) (by decide) b_6
      refine lv_iload_n hx hb dX8_voidOf_9 rfl (lv_at hl 2 rfl) ?_
      refine lv_aload_n hx hb dX8_voidOf_10 rfl (lv_at hl 0 rfl) ?_
      refine r_get F h (C := RX8) (T := TX8) (N := 13) (hjc hi_X8) rfl ((mu_ne (by omega) _).trans hm) 0 (by decide) (List.mem_cons_of_mem _ wd_828) rfl dX8_voidOf_11 ?_
      refine lv_iload_n hx hb dX8_voidOf_14 rfl (lv_at hl 3 rfl) ?_
      refine lv_iload_n hx hb dX8_voidOf_15 rfl (lv_at hl 1 rfl) ?_
      refine u_iE (v := (84 + 6 * (4 * (nI s1) + (nI w)))) (ru_S (As := [.int (nI s1), .int (nI w)]) (rest := [.ref (gz g + (b + 1)), .int (smI (fun s => r (84 + 6 * (4 * s + w))) s1)]) F h (k_X8_seenAt l g n (va_up c (b + 1) (some (.inl (g.2.1 0, 204, .inl (vdR r w s1))))) (nI s1) (nI w)) (gS hjl wd_909 wd_910 wd_58 wd_911) rfl 2 (by decide +kernel) rfl ⟨Nat.le_of_ble_eq_true rfl, Nat.le_of_ble_eq_true rfl⟩ rfl hl.1 (Nat.le_of_ble_eq_true rfl) ⟨Nat.zero_le _, Nat.zero_le _⟩ dX8_voidOf_16) h (fun H locs h => ?_)
      refine lv_iconst (v := 0) hx hb dX8_voidOf_19 (by decide) ?_
      refine lv_iadd hx hb dX8_voidOf_20 ?_
      refine r_ialdN F h (k := 84 + 6 * (4 * s1 + w)) (mu_eq _ _ _) (by simp only [fa_lit, pk_mul, nI_add]; first | done | (refine congrArg nI ?_; omega)) (by omega) (by decide) dX8_voidOf_21 ?_
      refine lv_iadd hx hb dX8_voidOf_22 ?_
      refine lv_istore_n (lv' := [(2, .int (smI (fun s => r (84 + 6 * (4 * s + w))) s1 + ((vdR r w s1) (84 + 6 * (4 * s1 + w))))), (0, .ref (gz g + b)), (1, .int (nI w)), (3, .int (nI s1))]) hx hb dX8_voidOf_23 rfl hl (by decide) rfl (fun ls hl => ?_)
      refine lv_aload_n hx hb dX8_voidOf_24 rfl (lv_at hl 1 rfl) ?_
      refine r_get F h (C := RX8) (T := TX8) (N := 13) (hjc hi_X8) rfl ((mu_ne (by omega) _).trans hm) 0 (by decide) (List.mem_cons_of_mem _ wd_828) rfl dX8_voidOf_25 ?_
      refine lv_iload_n hx hb dX8_voidOf_28 rfl (lv_at hl 3 rfl) ?_
      refine lv_iload_n hx hb dX8_voidOf_29 rfl (lv_at hl 2 rfl) ?_
      refine u_iE (v := (84 + 6 * (4 * (nI s1) + (nI w)))) (ru_S (As := [.int (nI s1), .int (nI w)]) (rest := [.ref (gz g + (b + 1))]) F h (k_X8_seenAt l g n (va_up c (b + 1) (some (.inl (g.2.1 0, 204, .inl (vdR r w s1))))) (nI s1) (nI w)) (gS hjl wd_909 wd_910 wd_58 wd_911) rfl 2 (by decide +kernel) rfl ⟨Nat.le_of_ble_eq_true rfl, Nat.le_of_ble_eq_true rfl⟩ rfl hl.1 (Nat.le_of_ble_eq_true rfl) ⟨Nat.zero_le _, Nat.zero_le _⟩ dX8_voidOf_30) h (fun H locs h => ?_)
      refine lv_iconst (v := 0) hx hb dX8_voidOf_33 (by decide) ?_
      refine lv_iadd hx hb dX8_voidOf_34 ?_
      refine lv_iconst (v := 0) hx hb dX8_voidOf_35 (by decide) ?_
      refine r_iastN F h (k := 84 + 6 * (4 * s1 + w)) (f' := vdR r w (s1 + 1)) (mu_eq _ _ _) (by simp only [fa_lit, pk_mul, nI_add]; first | done | (refine congrArg nI ?_; omega)) (by omega) (by decide) dX8_voidOf_36 (vdR_upd r hw) (fun H locs h => ?_)
      refine r_mem (c1 := (va_up c (b + 1) (some (.inl (g.2.1 0, 204, .inl (vdR r w (s1 + 1))))))) h (mu_uu _ _ _ _) (fun h => ?_)
      have hl : lv_has ls 4 [(2, .int (smI (fun s => r (84 + 6 * (4 * s + w))) (s1 + 1))), (0, .ref (gz g + b)), (1, .int (nI w)), (3, .int (nI s1))] := by rw [show (smI (fun s => r (84 + 6 * (4 * s + w))) (s1 + 1) : Int32) = (smI (fun s => r (84 + 6 * (4 * s + w))) s1 + ((vdR r w s1) (84 + 6 * (4 * s1 + w)))) from (congrArg (fun z : Int32 => smI (fun s => r (84 + 6 * (4 * s + w))) s1 + z) (vdR_at r (q := 0) hw (by decide) (Or.inl (Nat.le_refl _))).symm)]; exact hl
      refine lv_iinc (v := nI (s1 + 1)) (lv' := [(3, .int (nI (s1 + 1))), (2, .int (smI (fun s => r (84 + 6 * (4 * s + w))) (s1 + 1))), (0, .ref (gz g + b)), (1, .int (nI w))]) hx hb dX8_voidOf_37 hl (k := 3) rfl (by exact (nI_succ s1).symm) (by decide) rfl (fun ls hl => ?_)
      refine lv_goto (tgt := 4) hx hb dX8_voidOf_40 (by decide) ?_
      exact ih (s1 + 1) (by omega) _ _ _ (by omega) h (lv_sub hl [2, 3, 1, 0] rfl)
  exact lp _ 0 (Nat.zero_le _) _ _ _ (Nat.le_refl _) h (lv_sub hl [2, 3, 1, 0] rfl)
def vaR (r : Nat → Int32) (sc : Nat) : Nat → Nat → Int32
  | 0 => r
  | w + 1 => vdR (vaR r sc w) w sc
set_option maxHeartbeats 4000000 in
set_option maxRecDepth 100000 in
theorem k_X8_voidAll (l : Launch) (g : Gf) (n : Nat) (c : Mp) (b : Nat) (kp rs ty pl fa od : Int32) (hm : c b = moC g b kp rs ty pl fa od) (r : Nat → Int32) (hr : c (b + 1) = iaA (g.2.1 0) 204 r) : Ct l g yX8_voidAll wsX8_voidAll 2 44 0 0 [.ref (gz g + b)] n c (Qv g (fun n' c' => n' = n ∧ c' = va_up c (b + 1) (iaA (g.2.1 0) 204 (vaR r 5 4)))) := by
  refine ent (by decide) rfl (Nat.le_of_ble_eq_true rfl) ?_
  intro p e s m args below meth c0 F h ls hl
  have hx := F.1
  have hb := F.2.1
  have hl : lv_has ls 3 [(0, .ref (gz g + b))] := hl
  refine lv_iconst (v := 0) hx hb dX8_voidAll_0 (by decide) ?_
  refine lv_istore_n (lv' := [(1, .int 0), (0, .ref (gz g + b))]) hx hb dX8_voidAll_1 rfl hl (by decide) rfl (fun ls hl => ?_)
  refine lv_iconst (v := 0) hx hb dX8_voidAll_2 (by decide) ?_
  refine lv_istore_n (lv' := [(2, .int 0), (1, .int 0), (0, .ref (gz g + b))]) hx hb dX8_voidAll_3 rfl hl (by decide) rfl (fun ls hl => ?_)
  refine r_mem (c1 := (va_up c (b + 1) (iaA (g.2.1 0) 204 (vaR r 5 0)))) h ((mu_self hr).symm) (fun h => ?_)
  have lp : ∀ (k : Nat) (w : Nat) (x1 : Int32) (hw : w ≤ 4) (H : Heap) (locs : List Loc) (ls : Array Slot), (5 - w) ≤ k → Hv g s H locs n (va_up c (b + 1) (some (.inl (g.2.1 0, 204, .inl (vaR r 5 w))))) → lv_has ls 3 [(0, .ref (gz g + b)), (1, .int x1), (2, .int (nI w))] → W p l e (Rm 2 44 0 0) s m args below meth c0 H locs 0 0 (MQ below (Qv g (fun n' c' => n' = n ∧ c' = va_up c (b + 1) (iaA (g.2.1 0) 204 (vaR r 5 4)))) args s 0 0 (mAf g)) (F0 m 4 ls []) := by
    intro k
    induction k with
    | zero => intro w x1 hw H locs ls hk h hl; exact absurd hk (by omega)
    | succ k ih =>
      intro w x1 hw H locs ls hk h hl
      refine lv_iload_n hx hb dX8_voidAll_4 rfl (lv_at hl 2 rfl) ?_
      refine lv_iconst (v := 4) hx hb dX8_voidAll_5 (by decide) ?_
      refine lv_icmp_ge (tgt := 23) hx hb dX8_voidAll_6 (by decide) (fun b_6 => ?_) (fun b_6 => ?_)
      · skip
        have e4 : w = 4 := by have := lp_ge (N := 4) rfl (by omega) (by decide) b_6; omega
        subst e4
        exact ret_v F h (Nat.zero_le _) (Nat.zero_le _) dX8_voidAll_23 (⟨rfl, rfl⟩)
      have hw4 : w < 4 := lp_lt (N := 4) rfl (by omega) (by decide) b_6
      refine lv_iload_n hx hb dX8_voidAll_9 rfl (lv_at hl 1 rfl) ?_
      refine lv_aload_n hx hb dX8_voidAll_10 rfl (lv_at hl 0 rfl) ?_
      refine lv_iload_n hx hb dX8_voidAll_11 rfl (lv_at hl 2 rfl) ?_
      refine u_iE (v := (smI (fun s => (vaR r 5 w) (84 + 6 * (4 * s + w))) 5)) (ru_V (As := [.int (nI w)]) (rest := [.int x1]) F h ((mu_ne (by omega) _).trans hm) rfl (k_X8_voidOf l g n (va_up c (b + 1) (some (.inl (g.2.1 0, 204, .inl (vaR r 5 w))))) b kp rs ty pl fa od ((mu_ne (by omega) _).trans hm) (vaR r 5 w) (mu_eq _ _ _) w (by omega)) (gV hjl wd_905 wd_907 wd_19 wd_58 wd_908) rfl 1 (by decide +kernel) rfl ⟨Nat.le_of_ble_eq_true rfl, Nat.le_of_ble_eq_true rfl⟩ rfl hl.1 (Nat.le_of_ble_eq_true rfl) ⟨Nat.zero_le _, Nat.zero_le _⟩ dX8_voidAll_12) h (fun H locs h => ?_)
      refine r_mem (c1 := (va_up c (b + 1) (some (.inl (g.2.1 0, 204, .inl (vdR (vaR r 5 w) w 5)))))) h (mu_uu _ _ _ _) (fun h => ?_)
      refine lv_iadd hx hb dX8_voidAll_15 ?_
      refine lv_istore_n (lv' := [(1, .int (x1 + (smI (fun s => (vaR r 5 w) (84 + 6 * (4 * s + w))) 5))), (0, .ref (gz g + b)), (2, .int (nI w))]) hx hb dX8_voidAll_16 rfl hl (by decide) rfl (fun ls hl => ?_)
      refine lv_iinc (v := nI (w + 1)) (lv' := [(2, .int (nI (w + 1))), (1, .int (x1 + (smI (fun s => (vaR r 5 w) (84 + 6 * (4 * s + w))) 5))), (0, .ref (gz g + b))]) hx hb dX8_voidAll_17 hl (k := 2) rfl (by exact (nI_succ w).symm) (by decide) rfl (fun ls hl => ?_)
      refine lv_goto (tgt := 4) hx hb dX8_voidAll_20 (by decide) ?_
      exact ih (w + 1) _ (by omega) _ _ _ (by omega) h (lv_sub hl [2, 1, 0] rfl)
  exact lp _ 0 _ (Nat.zero_le _) _ _ _ (Nat.le_refl _) h (lv_sub hl [2, 1, 0] rfl)
set_option maxHeartbeats 4000000 in
set_option maxRecDepth 100000 in
theorem k_X8_quarter (l : Launch) (g : Gf) (n : Nat) (c : Mp) (b : Nat) (kp rs ty pl fa od : Int32) (hm : c b = moC g b kp rs ty pl fa od) (r : Nat → Int32) (hr : c (b + 1) = iaA (g.2.1 0) 204 r) (w : Nat) (hw : w < 4) : Ct l g yX8_quarter wsX8_quarter 1 22 0 0 [.ref (gz g + b), .int (nI w)] n c (Qi g (fun xr n' c' => xr = 1 + r (5 + 11 * w + 4) / 100 ∧ n' = n ∧ c' = c)) := by
  refine ent (by decide) rfl (Nat.le_of_ble_eq_true rfl) ?_
  intro p e s m args below meth c0 F h ls hl
  have hx := F.1
  have hb := F.2.1
  have hl : lv_has ls 2 [(0, .ref (gz g + b)), (1, .int (nI w))] := hl
  refine lv_iconst (v := 1) hx hb dX8_quarter_0 (by decide) ?_
  refine lv_aload_n hx hb dX8_quarter_1 rfl (lv_at hl 0 rfl) ?_
  refine lv_iload_n hx hb dX8_quarter_2 rfl (lv_at hl 1 rfl) ?_
  refine lv_iconst (v := 4) hx hb dX8_quarter_3 (by decide) ?_
  refine u_iE (v := (r (5 + 11 * w + 4))) (ru_V (As := [.int (nI w), .int 4]) (rest := [.int 1]) F h hm rfl (k_X8_of l g n c b kp rs ty pl fa od hm r hr w 4 (by omega) (by decide)) (gV hjl wd_916 wd_918 wd_21 wd_58 wd_919) rfl 2 (by decide +kernel) rfl ⟨Nat.le_of_ble_eq_true rfl, Nat.le_of_ble_eq_true rfl⟩ rfl hl.1 (Nat.le_of_ble_eq_true rfl) ⟨Nat.zero_le _, Nat.zero_le _⟩ dX8_quarter_4) h (fun H locs h => ?_)
  refine lv_bipush (v := 100) hx hb dX8_quarter_7 (by decide) ?_
  refine lv_idiv hx hb dX8_quarter_9 (by decide) ?_
  refine lv_iadd hx hb dX8_quarter_10 ?_
  exact ret_i F h (Nat.zero_le _) (Nat.zero_le _) dX8_quarter_11 (⟨rfl, rfl, rfl⟩)
