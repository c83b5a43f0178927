/-! Stations. -/
set_option maxHeartbeats 4000000 in
set_option maxRecDepth 100000 in
theorem k_X5_copyFrom (l : Launch) (g : Gf) (n : Nat) (c : Mp) (i : Nat) (de fr ho oo : Int32) (f : Nat → Nat → Int32) (hS : Sg g c i de fr ho oo f) (j : Nat) (de2 fr2 ho2 oo2 : Int32) (f2 : Nat → Nat → Int32) (hS2 : Sg g c j de2 fr2 ho2 oo2 f2) (hij : i + 6 ≤ j ∨ j + 6 ≤ i) (hho : B01 ho2) (hob : ∀ w : Nat, w < 4 → B01 (f2 w 0)) : Ct l g yX5_copyFrom wsX5_copyFrom 1 21 0 0 [.ref (gz g + i), .ref (gz g + j)] n c (Qv g (fun n' c' => n' = n ∧ Sg g c' i de2 fr2 ho2 oo2 f2 ∧ Fr c c' i (i + 6))) := by
  refine ent (by decide) rfl (Nat.le_of_ble_eq_true rfl) ?_
  intro p e s m args below meth c0 F h ls hl
  have hx := F.1
  have hb := F.2.1
  have hl : lv_has ls 3 [(0, .ref (gz g + i)), (1, .ref (gz g + j))] := hl
  refine lv_aload_n hx hb dX5_copyFrom_0 rfl (lv_at hl 0 rfl) ?_
  refine lv_aload_n hx hb dX5_copyFrom_1 rfl (lv_at hl 1 rfl) ?_
  refine r_get F h (C := RX5) (T := TX5) (N := 5) (hjc hi_X5) rfl hS2.1 0 (by decide) (List.mem_cons_of_mem _ wd_161) rfl dX5_copyFrom_2 ?_
  refine r_put F h (C := RX5) (T := TX5) (N := 5) (fs' := [.int de2, .int fr, .int ho, .int oo, .ref (gz g + (i + 1))]) (hjc hi_X5) tyX5 tyX5_ok nmX5 rfl hS.1 0 (by decide) (List.mem_cons_of_mem _ wd_161) rfl (rfl) (rfl) (Nat.le_of_ble_eq_true rfl) rfl dX5_copyFrom_5 (fun H locs h => ?_)
  refine lv_aload_n hx hb dX5_copyFrom_8 rfl (lv_at hl 0 rfl) ?_
  refine lv_aload_n hx hb dX5_copyFrom_9 rfl (lv_at hl 1 rfl) ?_
  refine r_get F h (C := RX5) (T := TX5) (N := 5) (hjc hi_X5) rfl ((mu_ne (by omega) _).trans hS2.1) 1 (by decide) (List.mem_cons_of_mem _ wd_164) rfl dX5_copyFrom_10 ?_
  refine r_put F h (C := RX5) (T := TX5) (N := 5) (fs' := [.int de2, .int fr2, .int ho, .int oo, .ref (gz g + (i + 1))]) (hjc hi_X5) tyX5 tyX5_ok nmX5 rfl (mu_eq _ _ _) 1 (by decide) (List.mem_cons_of_mem _ wd_164) rfl (rfl) (rfl) (Nat.le_of_ble_eq_true rfl) rfl dX5_copyFrom_13 (fun H locs h => ?_)
  refine r_mem (c1 := (va_up c i (some (.inr (5, [.int de2, .int fr2, .int ho, .int oo, .ref (gz g + (i + 1))]))))) h (mu_uu _ _ _ _) (fun h => ?_)
  refine lv_aload_n hx hb dX5_copyFrom_16 rfl (lv_at hl 0 rfl) ?_
  refine lv_aload_n hx hb dX5_copyFrom_17 rfl (lv_at hl 1 rfl) ?_
  refine r_get F h (C := RX5) (T := TX5) (N := 5) (hjc hi_X5) rfl ((mu_ne (by omega) _).trans hS2.1) 2 (by decide) (List.mem_cons_of_mem _ wd_166) rfl dX5_copyFrom_18 ?_
  refine r_put F h (C := RX5) (T := TX5) (N := 5) (fs' := [.int de2, .int fr2, .int ho2, .int oo, .ref (gz g + (i + 1))]) (hjc hi_X5) tyX5 tyX5_ok nmX5 rfl (mu_eq _ _ _) 2 (by decide) (List.mem_cons_of_mem _ wd_166) rfl (b01n hho) (b01f hho) (Nat.le_of_ble_eq_true rfl) rfl dX5_copyFrom_21 (fun H locs h => ?_)
  refine r_mem (c1 := (va_up c i (some (.inr (5, [.int de2, .int fr2, .int ho2, .int oo, .ref (gz g + (i + 1))]))))) h (mu_uu _ _ _ _) (fun h => ?_)
  refine lv_aload_n hx hb dX5_copyFrom_24 rfl (lv_at hl 0 rfl) ?_
  refine lv_aload_n hx hb dX5_copyFrom_25 rfl (lv_at hl 1 rfl) ?_
  refine r_get F h (C := RX5) (T := TX5) (N := 5) (hjc hi_X5) rfl ((mu_ne (by omega) _).trans hS2.1) 3 (by decide) (List.mem_cons_of_mem _ wd_169) rfl dX5_copyFrom_26 ?_
  refine r_put F h (C := RX5) (T := TX5) (N := 5) (fs' := [.int de2, .int fr2, .int ho2, .int oo2, .ref (gz g + (i + 1))]) (hjc hi_X5) tyX5 tyX5_ok nmX5 rfl (mu_eq _ _ _) 3 (by decide) (List.mem_cons_of_mem _ wd_169) rfl (rfl) (rfl) (Nat.le_of_ble_eq_true rfl) rfl dX5_copyFrom_29 (fun H locs h => ?_)
  refine r_mem (c1 := (va_up c i (some (.inr (5, [.int de2, .int fr2, .int ho2, .int oo2, .ref (gz g + (i + 1))]))))) h (mu_uu _ _ _ _) (fun h => ?_)
  refine lv_iconst (v := 0) hx hb dX5_copyFrom_32 (by decide) ?_
  refine lv_istore_n (lv' := [(2, .int 0), (0, .ref (gz g + i)), (1, .ref (gz g + j))]) hx hb dX5_copyFrom_33 rfl hl (by decide) rfl (fun ls hl => ?_)
  have hS0 : Sg g (va_up c i (some (.inr (5, [.int de2, .int fr2, .int ho2, .int oo2, .ref (gz g + (i + 1))])))) i de2 fr2 ho2 oo2 (fun v q => if v < 0 then f2 v q else f v q) := (hS.head (e := some (.inr (5, [.int de2, .int fr2, .int ho2, .int oo2, .ref (gz g + (i + 1))]))) rfl).cong (fun _ _ _ => rfl) (fun v q _ _ => if_neg (Nat.not_lt_zero v))
  have hF0 : Fr c (va_up c i (some (.inr (5, [.int de2, .int fr2, .int ho2, .int oo2, .ref (gz g + (i + 1))])))) i (i + 6) := Fr.up (by omega) (by omega)
  have lp : ∀ (k : Nat) (w : Nat) (c1 : Mp) (hw : w ≤ 4) (hS1 : Sg g c1 i de2 fr2 ho2 oo2 (fun v q => if v < w then f2 v q else f v q)) (hF : Fr c c1 i (i + 6)) (H : Heap) (locs : List Loc) (ls : Array Slot), (5 - w) ≤ k → Hv g s H locs n c1 → lv_has ls 3 [(0, .ref (gz g + i)), (1, .ref (gz g + j)), (2, .int (nI w))] → W p l e (Rm 1 21 0 0) s m args below meth c0 H locs 0 0 (MQ below (Qv g (fun n' c' => n' = n ∧ Sg g c' i de2 fr2 ho2 oo2 f2 ∧ Fr c c' i (i + 6))) args s 0 0 (mAf g)) (F0 m 34 ls []) := by
    intro k
    induction k with
    | zero => intro w c1 hw hS1 hF H locs ls hk h hl; exact absurd hk (by omega)
    | succ k ih =>
      intro w c1 hw hS1 hF H locs ls hk h hl
      refine lv_iload_n hx hb dX5_copyFrom_34 rfl (lv_at hl 2 rfl) ?_
      refine lv_iconst (v := 4) hx hb dX5_copyFrom_35 (by decide) ?_
      refine lv_icmp_ge (tgt := 60) hx hb dX5_copyFrom_36 (by decide) (fun b_36 => ?_) (fun b_36 => ?_)
      · skip
        exact ret_v F h (Nat.zero_le _) (Nat.zero_le _) dX5_copyFrom_60 (⟨rfl, hS1.cong (fun _ _ _ => rfl) (fun v q hv hq => (if_pos (by have := lp_ge (N := 4) rfl (by omega) (by decide) b_36; omega)).symm), hF⟩)
      have hw4 : w < 4 := lp_lt (N := 4) rfl (by omega) (by decide) b_36
      refine lv_aload_n hx hb dX5_copyFrom_39 rfl (lv_at hl 0 rfl) ?_
      refine r_get F h (C := RX5) (T := TX5) (N := 5) (hjc hi_X5) rfl hS1.1 4 (by decide) (List.mem_cons_of_mem _ wd_171) rfl dX5_copyFrom_40 ?_
      refine lv_iload_n hx hb dX5_copyFrom_43 rfl (lv_at hl 2 rfl) ?_
      refine r_aald F h (C := RX1) hS1.2.1 (t0 := 7) rfl (vp_in_nI (show w < 4 by omega) (by decide)) (a := gz g + (i + 2 + w)) (qs_at (fun k => some (gz g + (i + 2 + k))) (by omega)) dX5_copyFrom_44 ?_
      refine lv_aload_n hx hb dX5_copyFrom_45 rfl (lv_at hl 1 rfl) ?_
      refine r_get F h (C := RX5) (T := TX5) (N := 5) (hjc hi_X5) rfl ((hF j (by omega)).trans hS2.1) 4 (by decide) (List.mem_cons_of_mem _ wd_171) rfl dX5_copyFrom_46 ?_
      refine lv_iload_n hx hb dX5_copyFrom_49 rfl (lv_at hl 2 rfl) ?_
      refine r_aald F h (C := RX1) ((hF (j + 1) (by omega)).trans hS2.2.1) (t0 := 7) rfl (vp_in_nI (show w < 4 by omega) (by decide)) (a := gz g + (j + 2 + w)) (qs_at (fun k => some (gz g + (j + 2 + k))) (by omega)) dX5_copyFrom_50 ?_
      refine u_vE (ru_V (As := [.ref (gz g + (j + 2 + w))]) (rest := []) F h (hS1.2.2 w hw4) rfl (k_X1_copyFrom l g n c1 (i + 2 + w) _ (hS1.2.2 w hw4) (j + 2 + w) _ ((hF (j + 2 + w) (by omega)).trans (hS2.2.2 w hw4)) (by omega) (hob w hw4)) (gV hjl wd_306 wd_307 wd_308 wd_21 wd_309) rfl 1 (by decide +kernel) rfl ⟨Nat.le_of_ble_eq_true rfl, Nat.le_of_ble_eq_true rfl⟩ rfl hl.1 (Nat.le_of_ble_eq_true rfl) ⟨Nat.zero_le _, Nat.zero_le _⟩ dX5_copyFrom_51) h (fun H locs h => ?_)
      refine lv_iinc (v := nI (w + 1)) (lv' := [(2, .int (nI (w + 1))), (0, .ref (gz g + i)), (1, .ref (gz g + j))]) hx hb dX5_copyFrom_54 hl (k := 2) rfl (by exact (nI_succ w).symm) (by decide) rfl (fun ls hl => ?_)
      refine lv_goto (tgt := 34) hx hb dX5_copyFrom_57 (by decide) ?_
      exact ih (w + 1) _ (by omega) (hS1.obs hw4 (fun q hq => if_pos (Nat.lt_succ_self w)) (fun v q hv e hq => by by_cases q1 : v < w <;> simp [q1] <;> omega)) (hF.put (by omega) (by omega)) _ _ _ (by omega) h (lv_sub hl [1, 2, 0] rfl)
  exact lp _ 0 _ (Nat.zero_le _) hS0 hF0 _ _ _ (Nat.le_refl _) h (lv_sub hl [1, 2, 0] rfl)
set_option maxHeartbeats 4000000 in
set_option maxRecDepth 100000 in
theorem k_X5_become (l : Launch) (g : Gf) (n : Nat) (c : Mp) (i : Nat) (de fr ho oo : Int32) (f : Nat → Nat → Int32) (hS : Sg g c i de fr ho oo f) (x y : Int32) : Ct l g yX5_become wsX5_become 0 0 0 0 [.ref (gz g + i), .int x, .int y] n c (Qv g (fun n' c' => n' = n ∧ Sg g c' i x y 0 0 (fun w q => if q = 0 then 0 else f w q) ∧ Fr c c' i (i + 6))) := by
  refine ent (by decide) rfl (Nat.le_of_ble_eq_true rfl) ?_
  intro p e s m args below meth c0 F h ls hl
  have hx := F.1
  have hb := F.2.1
  have hl : lv_has ls 4 [(0, .ref (gz g + i)), (1, .int x), (2, .int y)] := hl
  refine lv_aload_n hx hb dX5_become_0 rfl (lv_at hl 0 rfl) ?_
  refine lv_iload_n hx hb dX5_become_1 rfl (lv_at hl 1 rfl) ?_
  refine r_put F h (C := RX5) (T := TX5) (N := 5) (fs' := [.int x, .int fr, .int ho, .int oo, .ref (gz g + (i + 1))]) (hjc hi_X5) tyX5 tyX5_ok nmX5 rfl hS.1 0 (by decide) (List.mem_cons_of_mem _ wd_161) rfl (rfl) (rfl) (Nat.le_of_ble_eq_true rfl) rfl dX5_become_2 (fun H locs h => ?_)
  refine lv_aload_n hx hb dX5_become_5 rfl (lv_at hl 0 rfl) ?_
  refine lv_iload_n hx hb dX5_become_6 rfl (lv_at hl 2 rfl) ?_
  refine r_put F h (C := RX5) (T := TX5) (N := 5) (fs' := [.int x, .int y, .int ho, .int oo, .ref (gz g + (i + 1))]) (hjc hi_X5) tyX5 tyX5_ok nmX5 rfl (mu_eq _ _ _) 1 (by decide) (List.mem_cons_of_mem _ wd_164) rfl (rfl) (rfl) (Nat.le_of_ble_eq_true rfl) rfl dX5_become_7 (fun H locs h => ?_)
  refine r_mem (c1 := (va_up c i (some (.inr (5, [.int x, .int y, .int ho, .int oo, .ref (gz g + (i + 1))]))))) h (mu_uu _ _ _ _) (fun h => ?_)
  refine lv_aload_n hx hb dX5_become_10 rfl (lv_at hl 0 rfl) ?_
  refine lv_iconst (v := 0) hx hb dX5_become_11 (by decide) ?_
  refine r_put F h (C := RX5) (T := TX5) (N := 5) (fs' := [.int x, .int y, .int 0, .int oo, .ref (gz g + (i + 1))]) (hjc hi_X5) tyX5 tyX5_ok nmX5 rfl (mu_eq _ _ _) 2 (by decide) (List.mem_cons_of_mem _ wd_166) rfl (by decide) (by decide) (Nat.le_of_ble_eq_true rfl) rfl dX5_become_12 (fun H locs h => ?_)
  refine r_mem (c1 := (va_up c i (some (.inr (5, [.int x, .int y, .int 0, .int oo, .ref (gz g + (i + 1))]))))) h (mu_uu _ _ _ _) (fun h => ?_)
  refine lv_aload_n hx hb dX5_become_15 rfl (lv_at hl 0 rfl) ?_
  refine lv_iconst (v := 0) hx hb dX5_become_16 (by decide) ?_
  refine r_put F h (C := RX5) (T := TX5) (N := 5) (fs' := [.int x, .int y, .int 0, .int 0, .ref (gz g + (i + 1))]) (hjc hi_X5) tyX5 tyX5_ok nmX5 rfl (mu_eq _ _ _) 3 (by decide) (List.mem_cons_of_mem _ wd_169) rfl (rfl) (rfl) (Nat.le_of_ble_eq_true rfl) rfl dX5_become_17 (fun H locs h => ?_)
  refine r_mem (c1 := (va_up c i (some (.inr (5, [.int x, .int y, .int 0, .int 0, .ref (gz g + (i + 1))]))))) h (mu_uu _ _ _ _) (fun h => ?_)
  refine lv_iconst (v := 0) hx hb dX5_become_20 (by decide) ?_
  refine lv_istore_n (lv' := [(3, .int 0), (0, .ref (gz g + i)), (1, .int x), (2, .int y)]) hx hb dX5_become_21 rfl hl (by decide) rfl (fun ls hl => ?_)
  have hS0 : Sg g (va_up c i (some (.inr (5, [.int x, .int y, .int 0, .int 0, .ref (gz g + (i + 1))])))) i x y 0 0 (fun v q => if v < 0 ∧ q = 0 then 0 else f v q) := (hS.head (e := some (.inr (5, [.int x, .int y, .int 0, .int 0, .ref (gz g + (i + 1))]))) rfl).cong (fun _ _ _ => rfl) (fun v q _ _ => if_neg (fun z => Nat.not_lt_zero v z.1))
  have hF0 : Fr c (va_up c i (some (.inr (5, [.int x, .int y, .int 0, .int 0, .ref (gz g + (i + 1))])))) i (i + 6) := Fr.up (by omega) (by omega)
  have lp : ∀ (k : Nat) (w : Nat) (c1 : Mp) (hw : w ≤ 4) (hS1 : Sg g c1 i x y 0 0 (fun v q => if v < w ∧ q = 0 then 0 else f v q)) (hF : Fr c c1 i (i + 6)) (H : Heap) (locs : List Loc) (ls : Array Slot), (5 - w) ≤ k → Hv g s H locs n c1 → lv_has ls 4 [(0, .ref (gz g + i)), (3, .int (nI w))] → W p l e (Rm 0 0 0 0) s m args below meth c0 H locs 0 0 (MQ below (Qv g (fun n' c' => n' = n ∧ Sg g c' i x y 0 0 (fun w q => if q = 0 then 0 else f w q) ∧ Fr c c' i (i + 6))) args s 0 0 (mAf g)) (F0 m 22 ls []) := by
    intro k
    induction k with
    | zero => intro w c1 hw hS1 hF H locs ls hk h hl; exact absurd hk (by omega)
    | succ k ih =>
      intro w c1 hw hS1 hF H locs ls hk h hl
      refine lv_iload_n hx hb dX5_become_22 rfl (lv_at hl 1 rfl) ?_
      refine lv_iconst (v := 4) hx hb dX5_become_23 (by decide) ?_
      refine lv_icmp_ge (tgt := 43) hx hb dX5_become_24 (by decide) (fun b_24 => ?_) (fun b_24 => ?_)
      · skip
        exact ret_v F h (Nat.zero_le _) (Nat.zero_le _) dX5_become_43 (⟨rfl, hS1.cong (fun _ _ _ => rfl) (fun v q hv hq => by have := lp_ge (N := 4) rfl (by omega) (by decide) b_24; by_cases e : q = 0 <;> simp [e] <;> omega), hF⟩)
      have hw4 : w < 4 := lp_lt (N := 4) rfl (by omega) (by decide) b_24
      refine lv_aload_n hx hb dX5_become_27 rfl (lv_at hl 0 rfl) ?_
      refine r_get F h (C := RX5) (T := TX5) (N := 5) (hjc hi_X5) rfl hS1.1 4 (by decide) (List.mem_cons_of_mem _ wd_171) rfl dX5_become_28 ?_
      refine lv_iload_n hx hb dX5_become_31 rfl (lv_at hl 1 rfl) ?_
      refine r_aald F h (C := RX1) hS1.2.1 (t0 := 7) rfl (vp_in_nI (show w < 4 by omega) (by decide)) (a := gz g + (i + 2 + w)) (qs_at (fun k => some (gz g + (i + 2 + k))) (by omega)) dX5_become_32 ?_
      refine lv_iconst (v := 0) hx hb dX5_become_33 (by decide) ?_
      refine r_put F h (C := RX1) (T := TX1) (N := 6) (fs' := [.int 0, .int (if w < w ∧ 1 = 0 then 0 else f w 1), .int (if w < w ∧ 2 = 0 then 0 else f w 2), .int (if w < w ∧ 3 = 0 then 0 else f w 3), .int (if w < w ∧ 4 = 0 then 0 else f w 4), .int (if w < w ∧ 5 = 0 then 0 else f w 5)]) (hjc hi_X1) tyX1 tyX1_ok nmX1 rfl (hS1.2.2 w hw4) 0 (by decide) (List.mem_cons_of_mem _ wd_132) rfl (by decide) (by decide) (Nat.le_of_ble_eq_true rfl) rfl dX5_become_34 (fun H locs h => ?_)
      refine lv_iinc (v := nI (w + 1)) (lv' := [(3, .int (nI (w + 1))), (0, .ref (gz g + i))]) hx hb dX5_become_37 hl (k := 1) rfl (by exact (nI_succ w).symm) (by decide) rfl (fun ls hl => ?_)
      refine lv_goto (tgt := 22) hx hb dX5_become_40 (by decide) ?_
      refine r_mem (c1 := va_up c1 (i + 2 + w) (obC (fun q => if q = 0 then 0 else f w q))) h (by congr 3; simp) (fun h => ?_)
      exact ih (w + 1) _ (by omega) (hS1.obs (o := fun q => if q = 0 then 0 else f w q) hw4 (fun q hq => by by_cases e : q = 0 <;> simp [e]) (fun v q hv e hq => by by_cases q1 : v < w <;> by_cases q2 : q = 0 <;> simp [q1, q2] <;> omega)) (hF.put (by omega) (by omega)) _ _ _ (by omega) h (lv_sub hl [1, 0] rfl)
  exact lp _ 0 _ (Nat.zero_le _) hS0 hF0 _ _ _ (Nat.le_refl _) h (lv_sub hl [1, 0] rfl)
/-- how many of the first are not 0 -/
def ctI (f : Nat → Int32) : Nat → Int32
  | 0 => 0
  | k + 1 => if f k = 0 then ctI f k else ctI f k + 1
theorem ctI_pos {f : Nat → Int32} {k : Nat} (h : f k = 0) : ctI f (k + 1) = ctI f k := by rw [ctI, if_pos h]
theorem ctI_neg {f : Nat → Int32} {k : Nat} (h : ¬ f k = 0) : ctI f (k + 1) = ctI f k + 1 := by rw [ctI, if_neg h]
set_option maxHeartbeats 4000000 in
set_option maxRecDepth 100000 in
theorem k_X5_validObservations (l : Launch) (g : Gf) (n : Nat) (c : Mp) (i : Nat) (de fr ho oo : Int32) (f : Nat → Nat → Int32) (hS : Sg g c i de fr ho oo f) : Ct l g yX5_validObservations wsX5_validObservations 0 0 0 0 [.ref (gz g + i)] n c (Qi g (fun r n' c' => r = ctI (fun v => f v 0) 4 ∧ n' = n ∧ c' = c)) := by
  refine ent (by decide) rfl (Nat.le_of_ble_eq_true rfl) ?_
  intro p e s m args below meth c0 F h ls hl
  have hx := F.1
  have hb := F.2.1
  have hl : lv_has ls 3 [(0, .ref (gz g + i))] := hl
  refine lv_iconst (v := 0) hx hb dX5_validObservations_0 (by decide) ?_
  refine lv_istore_n (lv' := [(1, .int 0), (0, .ref (gz g + i))]) hx hb dX5_validObservations_1 rfl hl (by decide) rfl (fun ls hl => ?_)
  refine lv_iconst (v := 0) hx hb dX5_validObservations_2 (by decide) ?_
  refine lv_istore_n (lv' := [(2, .int 0), (1, .int 0), (0, .ref (gz g + i))]) hx hb dX5_validObservations_3 rfl hl (by decide) rfl (fun ls hl => ?_)
  have lp : ∀ (k : Nat) (w : Nat) (hw : w ≤ 4) (H : Heap) (locs : List Loc) (ls : Array Slot), (5 - w) ≤ k → Hv g s H locs n c → lv_has ls 3 [(0, .ref (gz g + i)), (1, .int (ctI (fun v => f v 0) w)), (2, .int (nI w))] → W p l e (Rm 0 0 0 0) s m args below meth c0 H locs 0 0 (MQ below (Qi g (fun r n' c' => r = ctI (fun v => f v 0) 4 ∧ n' = n ∧ c' = c)) args s 0 0 (mAf g)) (F0 m 4 ls []) := by
    intro k
    induction k with
    | zero => intro w hw H locs ls hk h hl; exact absurd hk (by omega)
    | succ k ih =>
      intro w hw H locs ls hk h hl
      refine lv_iload_n hx hb dX5_validObservations_4 rfl (lv_at hl 2 rfl) ?_
      refine lv_iconst (v := 4) hx hb dX5_validObservations_5 (by decide) ?_
      refine lv_icmp_ge (tgt := 30) hx hb dX5_validObservations_6 (by decide) (fun b_6 => ?_) (fun b_6 => ?_)
      · skip
        refine lv_iload_n hx hb dX5_validObservations_30 rfl (lv_at hl 1 rfl) ?_
        exact ret_i F h (Nat.zero_le _) (Nat.zero_le _) dX5_validObservations_31 (⟨by rw [show w = 4 from by have := lp_ge (N := 4) rfl (by omega) (by decide) b_6; omega], rfl, rfl⟩)
      have hw4 : w < 4 := lp_lt (N := 4) rfl (by omega) (by decide) b_6
      refine lv_aload_n hx hb dX5_validObservations_9 rfl (lv_at hl 0 rfl) ?_
      refine r_get F h (C := RX5) (T := TX5) (N := 5) (hjc hi_X5) rfl hS.1 4 (by decide) (List.mem_cons_of_mem _ wd_171) rfl dX5_validObservations_10 ?_
      refine lv_iload_n hx hb dX5_validObservations_13 rfl (lv_at hl 2 rfl) ?_
      refine r_aald F h (C := RX1) hS.2.1 (t0 := 7) rfl (vp_in_nI (show w < 4 by omega) (by decide)) (a := gz g + (i + 2 + w)) (qs_at (fun k => some (gz g + (i + 2 + k))) (by omega)) dX5_validObservations_14 ?_
      refine r_get F h (C := RX1) (T := TX1) (N := 6) (hjc hi_X1) rfl (hS.2.2 w hw4) 0 (by decide) (List.mem_cons_of_mem _ wd_132) rfl dX5_validObservations_15 ?_
      refine lv_if_eq (tgt := 24) hx hb dX5_validObservations_18 (by decide) (fun b_18 => ?_) (fun b_18 => ?_)
      · skip
        have hl : lv_has ls 3 [(0, .ref (gz g + i)), (1, .int (ctI (fun v => f v 0) (w + 1))), (2, .int (nI w))] := by rw [show (ctI (fun v => f v 0) (w + 1) : Int32) = ctI (fun v => f v 0) w from ctI_pos b_18]; exact hl
        refine lv_iinc (v := nI (w + 1)) (lv' := [(2, .int (nI (w + 1))), (0, .ref (gz g + i)), (1, .int (ctI (fun v => f v 0) (w + 1)))]) hx hb dX5_validObservations_24 hl (k := 2) rfl (by exact (nI_succ w).symm) (by decide) rfl (fun ls hl => ?_)
        refine lv_goto (tgt := 4) hx hb dX5_validObservations_27 (by decide) ?_
        exact ih (w + 1) (by omega) _ _ _ (by omega) h (lv_sub hl [1, 2, 0] rfl)
      refine lv_iinc (v := ctI (fun v => f v 0) w + 1) (lv' := [(1, .int (ctI (fun v => f v 0) w + 1)), (0, .ref (gz g + i)), (2, .int (nI w))]) hx hb dX5_validObservations_21 hl (k := 1) rfl (rfl) (by decide) rfl (fun ls hl => ?_)
      have hl : lv_has ls 3 [(1, .int (ctI (fun v => f v 0) (w + 1))), (0, .ref (gz g + i)), (2, .int (nI w))] := by rw [show (ctI (fun v => f v 0) (w + 1) : Int32) = ctI (fun v => f v 0) w + 1 from ctI_neg b_18]; exact hl
      refine lv_iinc (v := nI (w + 1)) (lv' := [(2, .int (nI (w + 1))), (1, .int (ctI (fun v => f v 0) (w + 1))), (0, .ref (gz g + i))]) hx hb dX5_validObservations_24 hl (k := 2) rfl (by exact (nI_succ w).symm) (by decide) rfl (fun ls hl => ?_)
      refine lv_goto (tgt := 4) hx hb dX5_validObservations_27 (by decide) ?_
      exact ih (w + 1) (by omega) _ _ _ (by omega) h (lv_sub hl [2, 1, 0] rfl)
  exact lp _ 0 (Nat.zero_le _) _ _ _ (Nat.le_refl _) h (lv_sub hl [2, 1, 0] rfl)
