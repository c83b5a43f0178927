/-! A state: counts, what becomes void. -/
set_option maxHeartbeats 4000000 in
set_option maxRecDepth 100000 in
theorem k_X4_hungWires (l : Launch) (g : Gf) (n : Nat) (c : Mp) (b : Nat) (r : Nat → Int32) (hB : Bk g c b r) : Ct l g yX4_hungWires wsX4_hungWires 0 0 0 0 [.ref (gz g + b)] n c (Qi g (fun xr n' c' => xr = ctI (fun v => r (5 + 11 * v)) 4 ∧ n' = n ∧ c' = c)) := by
  refine ent (by decide) rfl (Nat.le_of_ble_eq_true rfl) ?_
  intro p e s m args below meth c0 F h ls hl
  have hx := F.1
  have hb := F.2.1
  have hl : lv_has ls 3 [(0, .ref (gz g + b))] := hl
  refine lv_iconst (v := 0) hx hb dX4_hungWires_0 (by decide) ?_
  refine lv_istore_n (lv' := [(1, .int 0), (0, .ref (gz g + b))]) hx hb dX4_hungWires_1 rfl hl (by decide) rfl (fun ls hl => ?_)
  refine lv_iconst (v := 0) hx hb dX4_hungWires_2 (by decide) ?_
  refine lv_istore_n (lv' := [(2, .int 0), (1, .int 0), (0, .ref (gz g + b))]) hx hb dX4_hungWires_3 rfl hl (by decide) rfl (fun ls hl => ?_)
  have lp : ∀ (k : Nat) (w : Nat) (hw : w ≤ 4) (H : Heap) (locs : List Loc) (ls : Array Slot), (5 - w) ≤ k → Hv g s H locs n c → lv_has ls 3 [(0, .ref (gz g + b)), (1, .int (ctI (fun v => r (5 + 11 * v)) w)), (2, .int (nI w))] → W p l e (Rm 0 0 0 0) s m args below meth c0 H locs 0 0 (MQ below (Qi g (fun xr n' c' => xr = ctI (fun v => r (5 + 11 * v)) 4 ∧ n' = n ∧ c' = c)) args s 0 0 (mAf g)) (F0 m 4 ls []) := by
    intro k
    induction k with
    | zero => intro w hw H locs ls hk h hl; exact absurd hk (by omega)
    | succ k ih =>
      intro w hw H locs ls hk h hl
      refine lv_iload_n hx hb dX4_hungWires_4 rfl (lv_at hl 2 rfl) ?_
      refine lv_iconst (v := 4) hx hb dX4_hungWires_5 (by decide) ?_
      refine lv_icmp_ge (tgt := 30) hx hb dX4_hungWires_6 (by decide) (fun b_6 => ?_) (fun b_6 => ?_)
      · skip
        refine lv_iload_n hx hb dX4_hungWires_30 rfl (lv_at hl 1 rfl) ?_
        exact ret_i F h (Nat.zero_le _) (Nat.zero_le _) dX4_hungWires_31 (⟨by rw [show w = 4 from by have := lp_ge (N := 4) rfl (by omega) (by decide) b_6; omega], rfl, rfl⟩)
      have hw4 : w < 4 := lp_lt (N := 4) rfl (by omega) (by decide) b_6
      refine lv_aload_n hx hb dX4_hungWires_9 rfl (lv_at hl 0 rfl) ?_
      refine r_get F h (C := RX4) (T := TX4) (N := 8) (hjc hi_X4) rfl hB.1 0 (by decide) (List.mem_cons_of_mem _ wd_185) rfl dX4_hungWires_10 ?_
      refine lv_iload_n hx hb dX4_hungWires_13 rfl (lv_at hl 2 rfl) ?_
      refine r_aald F h (C := RX6) hB.2.1.1 (t0 := 4) rfl (vp_in_nI (show w < 4 by omega) (by decide)) (a := gz g + (b + 2 + w)) (qs_at (fun k => some (gz g + (b + 2 + k))) (by omega)) dX4_hungWires_14 ?_
      refine r_get F h (C := RX6) (T := TX6) (N := 12) (hjc hi_X6) rfl (hB.2.1.2 w hw4) 0 (by decide) (List.mem_cons_of_mem _ wd_47) rfl dX4_hungWires_15 ?_
      refine lv_if_eq (tgt := 24) hx hb dX4_hungWires_18 (by decide) (fun b_18 => ?_) (fun b_18 => ?_)
      · skip
        have hl : lv_has ls 3 [(0, .ref (gz g + b)), (1, .int (ctI (fun v => r (5 + 11 * v)) (w + 1))), (2, .int (nI w))] := by rw [show (ctI (fun v => r (5 + 11 * v)) (w + 1) : Int32) = ctI (fun v => r (5 + 11 * v)) w from ctI_pos b_18]; exact hl
        refine lv_iinc (v := nI (w + 1)) (lv' := [(2, .int (nI (w + 1))), (0, .ref (gz g + b)), (1, .int (ctI (fun v => r (5 + 11 * v)) (w + 1)))]) hx hb dX4_hungWires_24 hl (k := 2) rfl (by exact (nI_succ w).symm) (by decide) rfl (fun ls hl => ?_)
        refine lv_goto (tgt := 4) hx hb dX4_hungWires_27 (by decide) ?_
        exact ih (w + 1) (by omega) _ _ _ (by omega) h (lv_sub hl [1, 2, 0] rfl)
      refine lv_iinc (v := ctI (fun v => r (5 + 11 * v)) w + 1) (lv' := [(1, .int (ctI (fun v => r (5 + 11 * v)) w + 1)), (0, .ref (gz g + b)), (2, .int (nI w))]) hx hb dX4_hungWires_21 hl (k := 1) rfl (rfl) (by decide) rfl (fun ls hl => ?_)
      have hl : lv_has ls 3 [(1, .int (ctI (fun v => r (5 + 11 * v)) (w + 1))), (0, .ref (gz g + b)), (2, .int (nI w))] := by rw [show (ctI (fun v => r (5 + 11 * v)) (w + 1) : Int32) = ctI (fun v => r (5 + 11 * v)) w + 1 from ctI_neg b_18]; exact hl
      refine lv_iinc (v := nI (w + 1)) (lv' := [(2, .int (nI (w + 1))), (1, .int (ctI (fun v => r (5 + 11 * v)) (w + 1))), (0, .ref (gz g + b))]) hx hb dX4_hungWires_24 hl (k := 2) rfl (by exact (nI_succ w).symm) (by decide) rfl (fun ls hl => ?_)
      refine lv_goto (tgt := 4) hx hb dX4_hungWires_27 (by decide) ?_
      exact ih (w + 1) (by omega) _ _ _ (by omega) h (lv_sub hl [2, 1, 0] rfl)
  exact lp _ 0 (Nat.zero_le _) _ _ _ (Nat.le_refl _) h (lv_sub hl [2, 1, 0] rfl)
set_option maxHeartbeats 4000000 in
set_option maxRecDepth 100000 in
theorem k_X4_orientedStations (l : Launch) (g : Gf) (n : Nat) (c : Mp) (b : Nat) (r : Nat → Int32) (hB : Bk g c b r) (sc : Nat) (hsc : r 4 = nI sc) (h5 : sc ≤ 5) : Ct l g yX4_orientedStations wsX4_orientedStations 0 0 0 0 [.ref (gz g + b)] n c (Qi g (fun xr n' c' => xr = ctI (fun v => r (204 + v)) sc ∧ n' = n ∧ c' = c)) := by
  refine ent (by decide) rfl (Nat.le_of_ble_eq_true rfl) ?_
  intro p e s m args below meth c0 F h ls hl
  have hx := F.1
  have hb := F.2.1
  have hl : lv_has ls 3 [(0, .ref (gz g + b))] := hl
  refine lv_iconst (v := 0) hx hb dX4_orientedStations_0 (by decide) ?_
  refine lv_istore_n (lv' := [(1, .int 0), (0, .ref (gz g + b))]) hx hb dX4_orientedStations_1 rfl hl (by decide) rfl (fun ls hl => ?_)
  refine lv_iconst (v := 0) hx hb dX4_orientedStations_2 (by decide) ?_
  refine lv_istore_n (lv' := [(2, .int 0), (1, .int 0), (0, .ref (gz g + b))]) hx hb dX4_orientedStations_3 rfl hl (by decide) rfl (fun ls hl => ?_)
  have lp : ∀ (k : Nat) (s1 : Nat) (hw : s1 ≤ sc) (H : Heap) (locs : List Loc) (ls : Array Slot), (6 - s1) ≤ k → Hv g s H locs n c → lv_has ls 3 [(0, .ref (gz g + b)), (1, .int (ctI (fun v => r (204 + v)) s1)), (2, .int (nI s1))] → W p l e (Rm 0 0 0 0) s m args below meth c0 H locs 0 0 (MQ below (Qi g (fun xr n' c' => xr = ctI (fun v => r (204 + v)) sc ∧ n' = n ∧ c' = c)) args s 0 0 (mAf g)) (F0 m 4 ls []) := by
    intro k
    induction k with
    | zero => intro s1 hw H locs ls hk h hl; exact absurd hk (by omega)
    | succ k ih =>
      intro s1 hw H locs ls hk h hl
      refine lv_iload_n hx hb dX4_orientedStations_4 rfl (lv_at hl 2 rfl) ?_
      refine lv_aload_n hx hb dX4_orientedStations_5 rfl (lv_at hl 0 rfl) ?_
      refine r_get F h (C := RX4) (T := TX4) (N := 8) (hjc hi_X4) rfl hB.1 4 (by decide) (List.mem_cons_of_mem _ wd_193) rfl dX4_orientedStations_6 ?_
      refine lv_icmp_ge (tgt := 33) hx hb dX4_orientedStations_9 (by decide) (fun b_9 => ?_) (fun b_9 => ?_)
      · skip
        refine lv_iload_n hx hb dX4_orientedStations_33 rfl (lv_at hl 1 rfl) ?_
        exact ret_i F h (Nat.zero_le _) (Nat.zero_le _) dX4_orientedStations_34 (⟨by rw [show s1 = sc from by have := lp_ge (N := sc) hsc (by omega) (by omega) b_9; omega], rfl, rfl⟩)
      have hw4 : s1 < sc := lp_lt (N := sc) hsc (by omega) (by omega) b_9
      have hw5 : s1 < 5 := by omega
      refine lv_aload_n hx hb dX4_orientedStations_12 rfl (lv_at hl 0 rfl) ?_
      refine r_get F h (C := RX4) (T := TX4) (N := 8) (hjc hi_X4) rfl hB.1 3 (by decide) (List.mem_cons_of_mem _ wd_191) rfl dX4_orientedStations_13 ?_
      refine lv_iload_n hx hb dX4_orientedStations_16 rfl (lv_at hl 2 rfl) ?_
      refine r_aald F h (C := RX5) hB.2.2.2.1 (t0 := 6) rfl (vp_in_nI (show s1 < 5 by omega) (by decide)) (a := gz g + (b + 13 + 6 * s1)) (qs_at (fun k => some (gz g + (b + 13 + 6 * k))) (by omega)) dX4_orientedStations_17 ?_
      refine r_get F h (C := RX5) (T := TX5) (N := 5) (hjc hi_X5) rfl ((hB.2.2.2.2 s1 hw5).1) 2 (by decide) (List.mem_cons_of_mem _ wd_167) rfl dX4_orientedStations_18 ?_
      refine lv_if_eq (tgt := 27) hx hb dX4_orientedStations_21 (by decide) (fun b_21 => ?_) (fun b_21 => ?_)
      · skip
        have hl : lv_has ls 3 [(0, .ref (gz g + b)), (1, .int (ctI (fun v => r (204 + v)) (s1 + 1))), (2, .int (nI s1))] := by rw [show (ctI (fun v => r (204 + v)) (s1 + 1) : Int32) = ctI (fun v => r (204 + v)) s1 from ctI_pos b_21]; exact hl
        refine lv_iinc (v := nI (s1 + 1)) (lv' := [(2, .int (nI (s1 + 1))), (0, .ref (gz g + b)), (1, .int (ctI (fun v => r (204 + v)) (s1 + 1)))]) hx hb dX4_orientedStations_27 hl (k := 2) rfl (by exact (nI_succ s1).symm) (by decide) rfl (fun ls hl => ?_)
        refine lv_goto (tgt := 4) hx hb dX4_orientedStations_30 (by decide) ?_
        exact ih (s1 + 1) (by omega) _ _ _ (by omega) h (lv_sub hl [1, 2, 0] rfl)
      refine lv_iinc (v := ctI (fun v => r (204 + v)) s1 + 1) (lv' := [(1, .int (ctI (fun v => r (204 + v)) s1 + 1)), (0, .ref (gz g + b)), (2, .int (nI s1))]) hx hb dX4_orientedStations_24 hl (k := 1) rfl (rfl) (by decide) rfl (fun ls hl => ?_)
      have hl : lv_has ls 3 [(1, .int (ctI (fun v => r (204 + v)) (s1 + 1))), (0, .ref (gz g + b)), (2, .int (nI s1))] := by rw [show (ctI (fun v => r (204 + v)) (s1 + 1) : Int32) = ctI (fun v => r (204 + v)) s1 + 1 from ctI_neg b_21]; exact hl
      refine lv_iinc (v := nI (s1 + 1)) (lv' := [(2, .int (nI (s1 + 1))), (1, .int (ctI (fun v => r (204 + v)) (s1 + 1))), (0, .ref (gz g + b))]) hx hb dX4_orientedStations_27 hl (k := 2) rfl (by exact (nI_succ s1).symm) (by decide) rfl (fun ls hl => ?_)
      refine lv_goto (tgt := 4) hx hb dX4_orientedStations_30 (by decide) ?_
      exact ih (s1 + 1) (by omega) _ _ _ (by omega) h (lv_sub hl [2, 1, 0] rfl)
  exact lp _ 0 (Nat.zero_le _) _ _ _ (Nat.le_refl _) h (lv_sub hl [2, 1, 0] rfl)
/-- how many things seen are valid at the first stations -/
def vsI (r : Nat → Int32) : Nat → Int32
  | 0 => 0
  | k + 1 => vsI r k + ctI (fun w => r (84 + 6 * (4 * k + w))) 4
set_option maxHeartbeats 4000000 in
set_option maxRecDepth 100000 in
theorem k_X4_validObservations (l : Launch) (g : Gf) (n : Nat) (c : Mp) (b : Nat) (r : Nat → Int32) (hB : Bk g c b r) (sc : Nat) (hsc : r 4 = nI sc) (h5 : sc ≤ 5) : Ct l g yX4_validObservations wsX4_validObservations 1 22 0 0 [.ref (gz g + b)] n c (Qi g (fun xr n' c' => xr = vsI r sc ∧ n' = n ∧ c' = c)) := by
  refine ent (by decide) rfl (Nat.le_of_ble_eq_true rfl) ?_
  intro p e s m args below meth c0 F h ls hl
  have hx := F.1
  have hb := F.2.1
  have hl : lv_has ls 3 [(0, .ref (gz g + b))] := hl
  refine lv_iconst (v := 0) hx hb dX4_validObservations_0 (by decide) ?_
  refine lv_istore_n (lv' := [(1, .int 0), (0, .ref (gz g + b))]) hx hb dX4_validObservations_1 rfl hl (by decide) rfl (fun ls hl => ?_)
  refine lv_iconst (v := 0) hx hb dX4_validObservations_2 (by decide) ?_
  refine lv_istore_n (lv' := [(2, .int 0), (1, .int 0), (0, .ref (gz g + b))]) hx hb dX4_validObservations_3 rfl hl (by decide) rfl (fun ls hl => ?_)
  have lp : ∀ (k : Nat) (s1 : Nat) (hw : s1 ≤ sc) (H : Heap) (locs : List Loc) (ls : Array Slot), (6 - s1) ≤ k → Hv g s H locs n c → lv_has ls 3 [(0, .ref (gz g + b)), (1, .int (vsI r s1)), (2, .int (nI s1))] → W p l e (Rm 1 22 0 0) s m args below meth c0 H locs 0 0 (MQ below (Qi g (fun xr n' c' => xr = vsI r sc ∧ n' = n ∧ c' = c)) args s 0 0 (mAf g)) (F0 m 4 ls []) := by
    intro k
    induction k with
    | zero => intro s1 hw H locs ls hk h hl; exact absurd hk (by omega)
    | succ k ih =>
      intro s1 hw H locs ls hk h hl
      refine lv_iload_n hx hb dX4_validObservations_4 rfl (lv_at hl 2 rfl) ?_
      refine lv_aload_n hx hb dX4_validObservations_5 rfl (lv_at hl 0 rfl) ?_
      refine r_get F h (C := RX4) (T := TX4) (N := 8) (hjc hi_X4) rfl hB.1 4 (by decide) (List.mem_cons_of_mem _ wd_193) rfl dX4_validObservations_6 ?_
      refine lv_icmp_ge (tgt := 30) hx hb dX4_validObservations_9 (by decide) (fun b_9 => ?_) (fun b_9 => ?_)
      · skip
        refine lv_iload_n hx hb dX4_validObservations_30 rfl (lv_at hl 1 rfl) ?_
        exact ret_i F h (Nat.zero_le _) (Nat.zero_le _) dX4_validObservations_31 (⟨by rw [show s1 = sc from by have := lp_ge (N := sc) hsc (by omega) (by omega) b_9; omega], rfl, rfl⟩)
      have hw4 : s1 < sc := lp_lt (N := sc) hsc (by omega) (by omega) b_9
      have hw5 : s1 < 5 := by omega
      refine lv_iload_n hx hb dX4_validObservations_12 rfl (lv_at hl 1 rfl) ?_
      refine lv_aload_n hx hb dX4_validObservations_13 rfl (lv_at hl 0 rfl) ?_
      refine r_get F h (C := RX4) (T := TX4) (N := 8) (hjc hi_X4) rfl hB.1 3 (by decide) (List.mem_cons_of_mem _ wd_191) rfl dX4_validObservations_14 ?_
      refine lv_iload_n hx hb dX4_validObservations_17 rfl (lv_at hl 2 rfl) ?_
      refine r_aald F h (C := RX5) hB.2.2.2.1 (t0 := 6) rfl (vp_in_nI (show s1 < 5 by omega) (by decide)) (a := gz g + (b + 13 + 6 * s1)) (qs_at (fun k => some (gz g + (b + 13 + 6 * k))) (by omega)) dX4_validObservations_18 ?_
      refine u_iE (v := (ctI (fun w => r (84 + 6 * (4 * s1 + w))) 4)) (ru_V (As := []) (rest := [.int (vsI r s1)]) F h ((hB.2.2.2.2 s1 hw5).1) rfl (k_X5_validObservations l g n c (b + 13 + 6 * s1) _ _ _ _ _ (hB.2.2.2.2 s1 hw5)) (gV hjl wd_411 wd_412 wd_413 wd_20 wd_414) rfl 0 (by decide +kernel) rfl ⟨Nat.le_of_ble_eq_true rfl, Nat.le_of_ble_eq_true rfl⟩ rfl hl.1 (Nat.le_of_ble_eq_true rfl) ⟨Nat.zero_le _, Nat.zero_le _⟩ dX4_validObservations_19) h (fun H locs h => ?_)
      refine lv_iadd hx hb dX4_validObservations_22 ?_
      refine lv_istore_n (lv' := [(1, .int (vsI r s1 + (ctI (fun w => r (84 + 6 * (4 * s1 + w))) 4))), (0, .ref (gz g + b)), (2, .int (nI s1))]) hx hb dX4_validObservations_23 rfl hl (by decide) rfl (fun ls hl => ?_)
      have hl : lv_has ls 3 [(1, .int (vsI r (s1 + 1))), (0, .ref (gz g + b)), (2, .int (nI s1))] := by rw [show (vsI r (s1 + 1) : Int32) = (vsI r s1 + (ctI (fun w => r (84 + 6 * (4 * s1 + w))) 4)) from rfl]; exact hl
      refine lv_iinc (v := nI (s1 + 1)) (lv' := [(2, .int (nI (s1 + 1))), (1, .int (vsI r (s1 + 1))), (0, .ref (gz g + b))]) hx hb dX4_validObservations_24 hl (k := 2) rfl (by exact (nI_succ s1).symm) (by decide) rfl (fun ls hl => ?_)
      refine lv_goto (tgt := 4) hx hb dX4_validObservations_27 (by decide) ?_
      exact ih (s1 + 1) (by omega) _ _ _ (by omega) h (lv_sub hl [2, 1, 0] rfl)
  exact lp _ 0 (Nat.zero_le _) _ _ _ (Nat.le_refl _) h (lv_sub hl [2, 1, 0] rfl)
/-- the row with what was seen of wire w void at the first stations -/
def vdR (r : Nat → Int32) (w i : Nat) : Nat → Int32 := fun k => if 84 ≤ k ∧ (k - 84) % 24 = 6 * w ∧ (k - 84) / 24 < i then 0 else r k
theorem vdR_0 (r : Nat → Int32) (w : Nat) : vdR r w 0 = r := by
  funext k; exact if_neg (fun z => Nat.not_lt_zero _ z.2.2)
theorem vdR_lo (r : Nat → Int32) (w i : Nat) {k : Nat} (h : k < 84) : vdR r w i k = r k := if_neg (fun z => by omega)
theorem vdR_at (r : Nat → Int32) {w i s q : Nat} (hw : w < 4) (hq : q < 6) (h : i ≤ s ∨ q ≠ 0) : vdR r w i (84 + 6 * (4 * s + w) + q) = r (84 + 6 * (4 * s + w) + q) := if_neg (fun z => by omega)
theorem vdR_step {r : Nat → Int32} {w i : Nat} (hw : w < 4) {k : Nat} (hk : k < 84 + 6 * (4 * i + w) ∨ 84 + 6 * (4 * i + w) + 6 ≤ k) : vdR r w (i + 1) k = vdR r w i k := by
  unfold vdR
  by_cases h : 84 ≤ k ∧ (k - 84) % 24 = 6 * w ∧ (k - 84) / 24 < i
  · rw [if_pos h, if_pos ⟨h.1, h.2.1, by omega⟩]
  · rw [if_neg h, if_neg (fun z => h ⟨z.1, z.2.1, by omega⟩)]
theorem vdR_same {r : Nat → Int32} {w i : Nat} (hw : w < 4) (h : r (84 + 6 * (4 * i + w)) = 0) : vdR r w (i + 1) = vdR r w i := by
  funext k
  unfold vdR
  by_cases h1 : 84 ≤ k ∧ (k - 84) % 24 = 6 * w ∧ (k - 84) / 24 < i
  · rw [if_pos h1, if_pos ⟨h1.1, h1.2.1, by omega⟩]
  · rw [if_neg h1]
    by_cases h2 : 84 ≤ k ∧ (k - 84) % 24 = 6 * w ∧ (k - 84) / 24 < i + 1
    · rw [if_pos h2, show k = 84 + 6 * (4 * i + w) by omega]; exact h.symm
    · rw [if_neg h2]
theorem vdR_0at (r : Nat → Int32) {w i : Nat} (hw : w < 4) : vdR r w (i + 1) (84 + 6 * (4 * i + w)) = 0 := if_pos ⟨by omega, by omega, by omega⟩
set_option maxHeartbeats 4000000 in
set_option maxRecDepth 100000 in
theorem k_X4_voidWire (l : Launch) (g : Gf) (n : Nat) (c : Mp) (b : Nat) (r : Nat → Int32) (hB : Bk g c b r) (sc : Nat) (hsc : r 4 = nI sc) (h5 : sc ≤ 5) (w : Nat) (hv : w < 4) : Ct l g yX4_voidWire wsX4_voidWire 0 0 0 0 [.ref (gz g + b), .int (nI w)] n c (Qi g (fun x n' c' => x = ctI (fun v => r (84 + 6 * (4 * v + w))) sc ∧ n' = n ∧ Bk g c' b (vdR r w sc) ∧ Fr c c' b (b + 43))) := by
  refine ent (by decide) rfl (Nat.le_of_ble_eq_true rfl) ?_
  intro p e s m args below meth c0 F h ls hl
  have hx := F.1
  have hb := F.2.1
  have hl : lv_has ls 5 [(0, .ref (gz g + b)), (1, .int (nI w))] := hl
  refine lv_iconst (v := 0) hx hb dX4_voidWire_0 (by decide) ?_
  refine lv_istore_n (lv' := [(2, .int 0), (0, .ref (gz g + b)), (1, .int (nI w))]) hx hb dX4_voidWire_1 rfl hl (by decide) rfl (fun ls hl => ?_)
  refine lv_iconst (v := 0) hx hb dX4_voidWire_2 (by decide) ?_
  refine lv_istore_n (lv' := [(3, .int 0), (2, .int 0), (0, .ref (gz g + b)), (1, .int (nI w))]) hx hb dX4_voidWire_3 rfl hl (by decide) rfl (fun ls hl => ?_)
  have lp : ∀ (k : Nat) (s1 : Nat) (c1 : Mp) (hw : s1 ≤ sc) (hB1 : Bk g c1 b (vdR r w s1)) (hF : Fr c c1 b (b + 43)) (H : Heap) (locs : List Loc) (ls : Array Slot), (6 - s1) ≤ k → Hv g s H locs n c1 → lv_has ls 5 [(0, .ref (gz g + b)), (1, .int (nI w)), (2, .int (ctI (fun v => r (84 + 6 * (4 * v + w))) s1)), (3, .int (nI s1))] → W p l e (Rm 0 0 0 0) s m args below meth c0 H locs 0 0 (MQ below (Qi g (fun x n' c' => x = ctI (fun v => r (84 + 6 * (4 * v + w))) sc ∧ n' = n ∧ Bk g c' b (vdR r w sc) ∧ Fr c c' b (b + 43))) args s 0 0 (mAf g)) (F0 m 4 ls []) := by
    intro k
    induction k with
    | zero => intro s1 c1 hw hB1 hF H locs ls hk h hl; exact absurd hk (by omega)
    | succ k ih =>
      intro s1 c1 hw hB1 hF H locs ls hk h hl
      refine lv_iload_n hx hb dX4_voidWire_4 rfl (lv_at hl 3 rfl) ?_
      refine lv_aload_n hx hb dX4_voidWire_5 rfl (lv_at hl 0 rfl) ?_
      refine r_get F h (C := RX4) (T := TX4) (N := 8) (hjc hi_X4) rfl hB1.1 4 (by decide) (List.mem_cons_of_mem _ wd_193) rfl dX4_voidWire_6 ?_
      refine lv_icmp_ge (tgt := 48) hx hb dX4_voidWire_9 (by decide) (fun b_9 => ?_) (fun b_9 => ?_)
      · skip
        have e4 : sc = s1 := by have := lp_ge (N := sc) ((vdR_lo r w s1 (by decide)).trans hsc) (by omega) (by omega) b_9; omega
        subst e4
        refine lv_iload_n hx hb dX4_voidWire_48 rfl (lv_at hl 2 rfl) ?_
        exact ret_i F h (Nat.zero_le _) (Nat.zero_le _) dX4_voidWire_49 (⟨rfl, rfl, hB1, hF⟩)
      have hw4 : s1 < sc := lp_lt (N := sc) ((vdR_lo r w s1 (by decide)).trans hsc) (by omega) (by omega) b_9
      have hw5 : s1 < 5 := by omega
      refine lv_aload_n hx hb dX4_voidWire_12 rfl (lv_at hl 0 rfl) ?_
      refine r_get F h (C := RX4) (T := TX4) (N := 8) (hjc hi_X4) rfl hB1.1 3 (by decide) (List.mem_cons_of_mem _ wd_191) rfl dX4_voidWire_13 ?_
      refine lv_iload_n hx hb dX4_voidWire_16 rfl (lv_at hl 3 rfl) ?_
      refine r_aald F h (C := RX5) hB1.2.2.2.1 (t0 := 6) rfl (vp_in_nI (show s1 < 5 by omega) (by decide)) (a := gz g + (b + 13 + 6 * s1)) (qs_at (fun k => some (gz g + (b + 13 + 6 * k))) (by omega)) dX4_voidWire_17 ?_
      refine r_get F h (C := RX5) (T := TX5) (N := 5) (hjc hi_X5) rfl ((hB1.2.2.2.2 s1 hw5).1) 4 (by decide) (List.mem_cons_of_mem _ wd_172) rfl dX4_voidWire_18 ?_
      refine lv_iload_n hx hb dX4_voidWire_21 rfl (lv_at hl 1 rfl) ?_
      refine r_aald F h (C := RX1) ((hB1.2.2.2.2 s1 hw5).2.1) (t0 := 7) rfl (vp_in_nI (show w < 4 by omega) (by decide)) (a := gz g + (b + 13 + 6 * s1 + 2 + w)) (qs_at (fun k => some (gz g + (b + 13 + 6 * s1 + 2 + k))) (by omega)) dX4_voidWire_22 ?_
      refine lv_astore (lv' := [(4, .ref (gz g + (b + 13 + 6 * s1 + 2 + w))), (0, .ref (gz g + b)), (1, .int (nI w)), (2, .int (ctI (fun v => r (84 + 6 * (4 * v + w))) s1)), (3, .int (nI s1))]) hx hb dX4_voidWire_23 hl (by decide) rfl (fun ls hl => ?_)
      refine lv_aload hx hb dX4_voidWire_25 (lv_at hl 0 rfl) ?_
      refine r_get F h (C := RX1) (T := TX1) (N := 6) (hjc hi_X1) rfl ((hB1.2.2.2.2 s1 hw5).2.2 w hv) 0 (by decide) (List.mem_cons_of_mem _ wd_133) rfl dX4_voidWire_27 ?_
      refine lv_if_eq (tgt := 42) hx hb dX4_voidWire_30 (by decide) (fun b_30 => ?_) (fun b_30 => ?_)
      · skip
        have b30 : r (84 + 6 * (4 * s1 + w)) = 0 := (vdR_at r (q := 0) hv (by decide) (Or.inl (Nat.le_refl _))).symm.trans b_30
        have hl : lv_has ls 5 [(4, .ref (gz g + (b + 13 + 6 * s1 + 2 + w))), (0, .ref (gz g + b)), (1, .int (nI w)), (2, .int (ctI (fun v => r (84 + 6 * (4 * v + w))) (s1 + 1))), (3, .int (nI s1))] := by rw [show (ctI (fun v => r (84 + 6 * (4 * v + w))) (s1 + 1) : Int32) = ctI (fun v => r (84 + 6 * (4 * v + w))) s1 from ctI_pos b30]; exact hl
        refine lv_iinc (v := nI (s1 + 1)) (lv' := [(3, .int (nI (s1 + 1))), (4, .ref (gz g + (b + 13 + 6 * s1 + 2 + w))), (0, .ref (gz g + b)), (1, .int (nI w)), (2, .int (ctI (fun v => r (84 + 6 * (4 * v + w))) (s1 + 1)))]) hx hb dX4_voidWire_42 hl (k := 4) rfl (by exact (nI_succ s1).symm) (by decide) rfl (fun ls hl => ?_)
        refine lv_goto (tgt := 4) hx hb dX4_voidWire_45 (by decide) ?_
        exact ih (s1 + 1) _ (by omega) ((vdR_same hv b30) ▸ hB1) hF _ _ _ (by omega) h (lv_sub hl [2, 3, 4, 0] rfl)
      refine lv_aload hx hb dX4_voidWire_33 (lv_at hl 0 rfl) ?_
      refine lv_iconst (v := 0) hx hb dX4_voidWire_35 (by decide) ?_
      refine r_put F h (C := RX1) (T := TX1) (N := 6) (fs' := [.int 0, .int ((vdR r w s1) (84 + 6 * (4 * s1 + w) + 1)), .int ((vdR r w s1) (84 + 6 * (4 * s1 + w) + 2)), .int ((vdR r w s1) (84 + 6 * (4 * s1 + w) + 3)), .int ((vdR r w s1) (84 + 6 * (4 * s1 + w) + 4)), .int ((vdR r w s1) (84 + 6 * (4 * s1 + w) + 5))]) (hjc hi_X1) tyX1 tyX1_ok nmX1 rfl ((hB1.2.2.2.2 s1 hw5).2.2 w hv) 0 (by decide) (List.mem_cons_of_mem _ wd_133) rfl (by decide) (by decide) (Nat.le_of_ble_eq_true rfl) rfl dX4_voidWire_36 (fun H locs h => ?_)
      refine lv_iinc (v := ctI (fun v => r (84 + 6 * (4 * v + w))) s1 + 1) (lv' := [(2, .int (ctI (fun v => r (84 + 6 * (4 * v + w))) s1 + 1)), (4, .ref (gz g + (b + 13 + 6 * s1 + 2 + w))), (0, .ref (gz g + b)), (1, .int (nI w)), (3, .int (nI s1))]) hx hb dX4_voidWire_39 hl (k := 3) rfl (rfl) (by decide) rfl (fun ls hl => ?_)
      have b30 : ¬ r (84 + 6 * (4 * s1 + w)) = 0 := fun z => b_30 ((vdR_at r (q := 0) hv (by decide) (Or.inl (Nat.le_refl _))).trans z)
      have hl : lv_has ls 5 [(2, .int (ctI (fun v => r (84 + 6 * (4 * v + w))) (s1 + 1))), (4, .ref (gz g + (b + 13 + 6 * s1 + 2 + w))), (0, .ref (gz g + b)), (1, .int (nI w)), (3, .int (nI s1))] := by rw [show (ctI (fun v => r (84 + 6 * (4 * v + w))) (s1 + 1) : Int32) = ctI (fun v => r (84 + 6 * (4 * v + w))) s1 + 1 from ctI_neg b30]; exact hl
      have hB2 : Bk g (va_up c1 (b + 13 + 6 * s1 + 2 + w) (obC (fun q => vdR r w (s1 + 1) (84 + 6 * (4 * s1 + w) + q)))) b (vdR r w (s1 + 1)) := hB1.obs hw5 hv (fun q hq => rfl) (fun k hk hk2 => vdR_step hv hk2)
      refine r_mem (c1 := va_up c1 (b + 13 + 6 * s1 + 2 + w) (obC (fun q => vdR r w (s1 + 1) (84 + 6 * (4 * s1 + w) + q)))) h (congrArg (va_up c1 _) ?_) (fun h => ?_)
      · exact obC_cong (f := fun q => vdR r w (s1 + 1) (84 + 6 * (4 * s1 + w) + q)) (f' := fun q => if q = 0 then 0 else vdR r w s1 (84 + 6 * (4 * s1 + w) + q)) (fun q hq => by
          by_cases e : q = 0
          · subst e; exact (vdR_0at r hv).symm
          · show (if q = 0 then 0 else _) = _
            rw [if_neg e, vdR_at r hv hq (Or.inr e), vdR_at r hv hq (Or.inr e)])
      refine lv_iinc (v := nI (s1 + 1)) (lv' := [(3, .int (nI (s1 + 1))), (2, .int (ctI (fun v => r (84 + 6 * (4 * v + w))) (s1 + 1))), (4, .ref (gz g + (b + 13 + 6 * s1 + 2 + w))), (0, .ref (gz g + b)), (1, .int (nI w))]) hx hb dX4_voidWire_42 hl (k := 4) rfl (by exact (nI_succ s1).symm) (by decide) rfl (fun ls hl => ?_)
      refine lv_goto (tgt := 4) hx hb dX4_voidWire_45 (by decide) ?_
      exact ih (s1 + 1) _ (by omega) hB2 (hF.put (by omega) (by omega)) _ _ _ (by omega) h (lv_sub hl [3, 4, 1, 0] rfl)
  exact lp _ 0 c (Nat.zero_le _) ((vdR_0 r w).symm ▸ hB) Fr.rfl' _ _ _ (Nat.le_refl _) h (lv_sub hl [2, 3, 1, 0] rfl)
