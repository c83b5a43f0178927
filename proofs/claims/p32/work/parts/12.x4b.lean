/-! A state: ticks, rests, copies. -/
theorem vaR_lo (r : Nat → Int32) (sc : Nat) {k : Nat} (h : k < 84) : ∀ w : Nat, vaR r sc w k = r k
  | 0 => rfl
  | w + 1 => (vdR_lo (vaR r sc w) w sc h).trans (vaR_lo r sc h w)
set_option maxHeartbeats 4000000 in
set_option maxRecDepth 100000 in
theorem k_X4_voidAllWires (l : Launch) (g : Gf) (n : Nat) (c : Mp) (b : Nat) (r : Nat → Int32) (hB : Bk g c b r) (sc : Nat) (hsc : r 4 = nI sc) (h5 : sc ≤ 5) : Ct l g yX4_voidAllWires wsX4_voidAllWires 1 24 0 0 [.ref (gz g + b)] n c (Qv g (fun n' c' => n' = n ∧ Bk g c' b (vaR r sc 4) ∧ Fr c c' b (b + 43))) := by
  refine ent (by decide) rfl (Nat.le_of_ble_eq_true rfl) ?_
  intro p e s m args below meth c0 F h ls hl
  have hx := F.1
  have hb := F.2.1
  have hl : lv_has ls 2 [(0, .ref (gz g + b))] := hl
  refine lv_iconst (v := 0) hx hb dX4_voidAllWires_0 (by decide) ?_
  refine lv_istore_n (lv' := [(1, .int 0), (0, .ref (gz g + b))]) hx hb dX4_voidAllWires_1 rfl hl (by decide) rfl (fun ls hl => ?_)
  have lp : ∀ (k : Nat) (w : Nat) (c1 : Mp) (hw : w ≤ 4) (hB1 : Bk g c1 b (vaR r sc w)) (hF : Fr c c1 b (b + 43)) (H : Heap) (locs : List Loc) (ls : Array Slot), (5 - w) ≤ k → Hv g s H locs n c1 → lv_has ls 2 [(0, .ref (gz g + b)), (1, .int (nI w))] → W p l e (Rm 1 24 0 0) s m args below meth c0 H locs 0 0 (MQ below (Qv g (fun n' c' => n' = n ∧ Bk g c' b (vaR r sc 4) ∧ Fr c c' b (b + 43))) args s 0 0 (mAf g)) (F0 m 2 ls []) := by
    intro k
    induction k with
    | zero => intro w c1 hw hB1 hF H locs ls hk h hl; exact absurd hk (by omega)
    | succ k ih =>
      intro w c1 hw hB1 hF H locs ls hk h hl
      refine lv_iload_n hx hb dX4_voidAllWires_2 rfl (lv_at hl 1 rfl) ?_
      refine lv_iconst (v := 4) hx hb dX4_voidAllWires_3 (by decide) ?_
      refine lv_icmp_ge (tgt := 19) hx hb dX4_voidAllWires_4 (by decide) (fun b_4 => ?_) (fun b_4 => ?_)
      · skip
        have e4 : w = 4 := by have := lp_ge (N := 4) rfl (by omega) (by decide) b_4; omega
        subst e4
        exact ret_v F h (Nat.zero_le _) (Nat.zero_le _) dX4_voidAllWires_19 (⟨rfl, hB1, hF⟩)
      have hw4 : w < 4 := lp_lt (N := 4) rfl (by omega) (by decide) b_4
      refine lv_aload_n hx hb dX4_voidAllWires_7 rfl (lv_at hl 0 rfl) ?_
      refine lv_iload_n hx hb dX4_voidAllWires_8 rfl (lv_at hl 1 rfl) ?_
      refine u_i (ru_V (As := [.int (nI w)]) (rest := []) F h hB1.1 rfl (k_X4_voidWire l g n c1 b _ hB1 sc ((vaR_lo r sc (by decide) w).trans hsc) h5 w hw4) (gV hjl wd_372 wd_319 wd_320 wd_17 wd_321) rfl 1 (by decide +kernel) rfl ⟨Nat.le_of_ble_eq_true rfl, Nat.le_of_ble_eq_true rfl⟩ rfl hl.1 (Nat.le_of_ble_eq_true rfl) ⟨Nat.zero_le _, Nat.zero_le _⟩ dX4_voidAllWires_9) h (fun x1 n1 c2 H locs hp h => ?_)
      obtain ⟨hx1, hn1, hB2, hF2⟩ := hp
      rw [hn1] at h
      refine lv_pop hx hb dX4_voidAllWires_12 rfl ?_
      refine lv_iinc (v := nI (w + 1)) (lv' := [(1, .int (nI (w + 1))), (0, .ref (gz g + b))]) hx hb dX4_voidAllWires_13 hl (k := 1) rfl (by exact (nI_succ w).symm) (by decide) rfl (fun ls hl => ?_)
      refine lv_goto (tgt := 2) hx hb dX4_voidAllWires_16 (by decide) ?_
      exact ih (w + 1) _ (by omega) hB2 (hF.trans hF2) _ _ _ (by omega) h (lv_sub hl [1, 0] rfl)
  exact lp _ 0 c (Nat.zero_le _) hB Fr.rfl' _ _ _ (Nat.le_refl _) h (lv_sub hl [1, 0] rfl)
/-- the row behind a tick, the first wires done -/
def tkR (r : Nat → Int32) (w : Nat) : Nat → Int32 := fun k => if k = 0 then r 0 + 1 else if 5 ≤ k ∧ k < 5 + 11 * w ∧ ¬ r (5 + 11 * ((k - 5) / 11)) = 0 then tkW (fun q => r (5 + 11 * ((k - 5) / 11) + q)) ((k - 5) % 11) else r k
theorem tkR_at (r : Nat → Int32) {w v q : Nat} (hq : q < 11) (hv : w ≤ v) : tkR r w (5 + 11 * v + q) = r (5 + 11 * v + q) := by
  unfold tkR
  rw [if_neg (by omega), if_neg (fun z => by omega)]
theorem tkR_in (r : Nat → Int32) {w q : Nat} (hq : q < 11) (h : ¬ r (5 + 11 * w) = 0) : tkR r (w + 1) (5 + 11 * w + q) = tkW (fun q => r (5 + 11 * w + q)) q := by
  unfold tkR
  rw [if_neg (by omega), show (5 + 11 * w + q - 5) / 11 = w by omega, show (5 + 11 * w + q - 5) % 11 = q by omega, if_pos ⟨by omega, by omega, h⟩]
theorem tkR_out (r : Nat → Int32) {w k : Nat} (h : k < 5 + 11 * w ∨ 5 + 11 * w + 11 ≤ k) : tkR r (w + 1) k = tkR r w k := by
  unfold tkR
  by_cases h0 : k = 0
  · rw [if_pos h0, if_pos h0]
  · rw [if_neg h0, if_neg h0]
    by_cases h1 : 5 ≤ k ∧ k < 5 + 11 * w ∧ ¬ r (5 + 11 * ((k - 5) / 11)) = 0
    · rw [if_pos h1, if_pos ⟨h1.1, by omega, h1.2.2⟩]
    · rw [if_neg h1, if_neg (fun z => h1 ⟨z.1, by omega, z.2.2⟩)]
theorem tkR_same (r : Nat → Int32) {w : Nat} (h : r (5 + 11 * w) = 0) : tkR r (w + 1) = tkR r w := by
  funext k
  by_cases hk : k < 5 + 11 * w ∨ 5 + 11 * w + 11 ≤ k
  · exact tkR_out r hk
  · obtain ⟨q, hq, e⟩ : ∃ q, q < 11 ∧ k = 5 + 11 * w + q := ⟨k - (5 + 11 * w), by omega, by omega⟩
    subst e
    rw [tkR_at r hq (Nat.le_refl _)]
    unfold tkR
    rw [if_neg (by omega), show (5 + 11 * w + q - 5) / 11 = w by omega, if_neg (fun z => z.2.2 h)]
theorem tkR_0 (r : Nat → Int32) : tkR r 0 = upd r 0 (r 0 + 1) := by
  funext k
  unfold tkR upd
  by_cases h0 : k = 0
  · rw [if_pos h0, if_pos h0]
  · rw [if_neg h0, if_neg h0, if_neg (fun z => by omega)]
theorem tkR_lo (r : Nat → Int32) (w : Nat) {k : Nat} (h : 0 < k) (h2 : k < 5 ∨ 49 ≤ k) (hw : w ≤ 4) : tkR r w k = r k := by
  unfold tkR
  rw [if_neg (by omega), if_neg (fun z => by omega)]
theorem tkW_cong {f f' : Nat → Int32} (h : ∀ q : Nat, q < 11 → f q = f' q) {q : Nat} (hq : q < 11) : tkW f q = tkW f' q := by
  unfold tkW
  rw [h 10 (by decide), h 4 (by decide), h 7 (by decide), h 9 (by decide)]
  by_cases h1 : f' 10 + 1 < 4 * qdI (f' 4)
  · rw [if_pos h1, if_pos h1]
    unfold upd
    by_cases h2 : q = 10
    · rw [if_pos h2, if_pos h2]
    · rw [if_neg h2, if_neg h2]; exact h q hq
  · rw [if_neg h1, if_neg h1]
    unfold upd
    by_cases h2 : q = 9
    · rw [if_pos h2, if_pos h2]
    · rw [if_neg h2, if_neg h2]
      by_cases h3 : q = 10
      · rw [if_pos h3, if_pos h3]
      · rw [if_neg h3, if_neg h3]; exact h q hq
theorem tkR_out0 (r : Nat → Int32) {k : Nat} (h : 5 ≤ k) : tkR r 0 k = r k := by rw [tkR_0]; exact if_neg (by omega)
set_option maxHeartbeats 4000000 in
set_option maxRecDepth 100000 in
theorem k_X4_passTick (l : Launch) (g : Gf) (n : Nat) (c : Mp) (b : Nat) (r : Nat → Int32) (hB : Bk g c b r) : Ct l g yX4_passTick wsX4_passTick 2 41 0 0 [.ref (gz g + b)] n c (Qv g (fun n' c' => n' = n ∧ Bk g c' b (tkR r 4) ∧ Fr c c' b (b + 43))) := by
  refine ent (by decide) rfl (Nat.le_of_ble_eq_true rfl) ?_
  intro p e s m args below meth c0 F h ls hl
  have hx := F.1
  have hb := F.2.1
  have hl : lv_has ls 2 [(0, .ref (gz g + b))] := hl
  refine lv_aload_n hx hb dX4_passTick_0 rfl (lv_at hl 0 rfl) ?_
  refine lv_dup hx hb dX4_passTick_1 rfl ?_
  refine r_get F h (C := RX4) (T := TX4) (N := 8) (hjc hi_X4) rfl hB.1 5 (by decide) (List.mem_cons_of_mem _ wd_195) rfl dX4_passTick_2 ?_
  refine lv_iconst (v := 1) hx hb dX4_passTick_5 (by decide) ?_
  refine lv_iadd hx hb dX4_passTick_6 ?_
  refine r_put F h (C := RX4) (T := TX4) (N := 8) (fs' := [.ref (gz g + (b + 1)), .ref (gz g + (b + 6)), .int (r 3), .ref (gz g + (b + 12)), .int (r 4), .int (r 0 + 1), .int (r 1), .int (r 2)]) (hjc hi_X4) tyX4 tyX4_ok nmX4 rfl hB.1 5 (by decide) (List.mem_cons_of_mem _ wd_195) rfl (rfl) (rfl) (Nat.le_of_ble_eq_true rfl) rfl dX4_passTick_7 (fun H locs h => ?_)
  refine lv_iconst (v := 0) hx hb dX4_passTick_10 (by decide) ?_
  refine lv_istore_n (lv' := [(1, .int 0), (0, .ref (gz g + b))]) hx hb dX4_passTick_11 rfl hl (by decide) rfl (fun ls hl => ?_)
  have hB0 : Bk g (va_up c b (some (.inr (4, [.ref (gz g + (b + 1)), .ref (gz g + (b + 6)), .int (r 3), .ref (gz g + (b + 12)), .int (r 4), .int (r 0 + 1), .int (r 1), .int (r 2)])))) b (tkR r 0) := hB.top (by rw [tkR_0]; rfl) (fun k hk _ => tkR_out0 r hk)
  have hF0 : Fr c (va_up c b (some (.inr (4, [.ref (gz g + (b + 1)), .ref (gz g + (b + 6)), .int (r 3), .ref (gz g + (b + 12)), .int (r 4), .int (r 0 + 1), .int (r 1), .int (r 2)])))) b (b + 43) := Fr.up (by omega) (by omega)
  have lp : ∀ (k : Nat) (w : Nat) (c1 : Mp) (hw : w ≤ 4) (hB1 : Bk g c1 b (tkR r w)) (hF : Fr c c1 b (b + 43)) (H : Heap) (locs : List Loc) (ls : Array Slot), (5 - w) ≤ k → Hv g s H locs n c1 → lv_has ls 2 [(0, .ref (gz g + b)), (1, .int (nI w))] → W p l e (Rm 2 41 0 0) s m args below meth c0 H locs 0 0 (MQ below (Qv g (fun n' c' => n' = n ∧ Bk g c' b (tkR r 4) ∧ Fr c c' b (b + 43))) args s 0 0 (mAf g)) (F0 m 12 ls []) := by
    intro k
    induction k with
    | zero => intro w c1 hw hB1 hF H locs ls hk h hl; exact absurd hk (by omega)
    | succ k ih =>
      intro w c1 hw hB1 hF H locs ls hk h hl
      refine lv_iload_n hx hb dX4_passTick_12 rfl (lv_at hl 1 rfl) ?_
      refine lv_iconst (v := 4) hx hb dX4_passTick_13 (by decide) ?_
      refine lv_icmp_ge (tgt := 44) hx hb dX4_passTick_14 (by decide) (fun b_14 => ?_) (fun b_14 => ?_)
      · skip
        have e4 : w = 4 := by have := lp_ge (N := 4) rfl (by omega) (by decide) b_14; omega
        subst e4
        exact ret_v F h (Nat.zero_le _) (Nat.zero_le _) dX4_passTick_44 (⟨rfl, hB1, hF⟩)
      have hw4 : w < 4 := lp_lt (N := 4) rfl (by omega) (by decide) b_14
      refine lv_aload_n hx hb dX4_passTick_17 rfl (lv_at hl 0 rfl) ?_
      refine r_get F h (C := RX4) (T := TX4) (N := 8) (hjc hi_X4) rfl hB1.1 0 (by decide) (List.mem_cons_of_mem _ wd_185) rfl dX4_passTick_18 ?_
      refine lv_iload_n hx hb dX4_passTick_21 rfl (lv_at hl 1 rfl) ?_
      refine r_aald F h (C := RX6) hB1.2.1.1 (t0 := 4) rfl (vp_in_nI (show w < 4 by omega) (by decide)) (a := gz g + (b + 2 + w)) (qs_at (fun k => some (gz g + (b + 2 + k))) (by omega)) dX4_passTick_22 ?_
      refine r_get F h (C := RX6) (T := TX6) (N := 12) (hjc hi_X6) rfl (hB1.2.1.2 w hw4) 0 (by decide) (List.mem_cons_of_mem _ wd_47) rfl dX4_passTick_23 ?_
      refine lv_if_eq (tgt := 38) hx hb dX4_passTick_26 (by decide) (fun b_26 => ?_) (fun b_26 => ?_)
      · skip
        have hB2 : Bk g c1 b (tkR r (w + 1)) := (tkR_same r ((tkR_at r (q := 0) (by decide) (Nat.le_refl w)).symm.trans b_26)) ▸ hB1
        have hF2 : Fr c c1 b (b + 43) := hF
        refine lv_iinc (v := nI (w + 1)) (lv' := [(1, .int (nI (w + 1))), (0, .ref (gz g + b))]) hx hb dX4_passTick_38 hl (k := 1) rfl (by exact (nI_succ w).symm) (by decide) rfl (fun ls hl => ?_)
        refine lv_goto (tgt := 12) hx hb dX4_passTick_41 (by decide) ?_
        exact ih (w + 1) _ (by omega) hB2 hF2 _ _ _ (by omega) h (lv_sub hl [1, 0] rfl)
      refine lv_aload_n hx hb dX4_passTick_29 rfl (lv_at hl 0 rfl) ?_
      refine r_get F h (C := RX4) (T := TX4) (N := 8) (hjc hi_X4) rfl hB1.1 0 (by decide) (List.mem_cons_of_mem _ wd_185) rfl dX4_passTick_30 ?_
      refine lv_iload_n hx hb dX4_passTick_33 rfl (lv_at hl 1 rfl) ?_
      refine r_aald F h (C := RX6) hB1.2.1.1 (t0 := 4) rfl (vp_in_nI (show w < 4 by omega) (by decide)) (a := gz g + (b + 2 + w)) (qs_at (fun k => some (gz g + (b + 2 + k))) (by omega)) dX4_passTick_34 ?_
      refine u_vE (ru_V (As := []) (rest := []) F h (hB1.2.1.2 w hw4) rfl (k_X6_swayOneTick l g n c1 (b + 2 + w) (fun q => tkR r w (5 + 11 * w + q)) (hB1.2.1.2 w hw4)) (gV hjl wd_603 wd_604 wd_605 wd_18 wd_606) rfl 0 (by decide +kernel) rfl ⟨Nat.le_of_ble_eq_true rfl, Nat.le_of_ble_eq_true rfl⟩ rfl hl.1 (Nat.le_of_ble_eq_true rfl) ⟨Nat.zero_le _, Nat.zero_le _⟩ dX4_passTick_35) h (fun H locs h => ?_)
      have b26 : ¬ r (5 + 11 * w) = 0 := fun z => b_26 ((tkR_at r (q := 0) (by decide) (Nat.le_refl w)).trans z)
      have eT : (fun q => tkR r (w + 1) (5 + 11 * w + q)) = fun q => tkR r (w + 1) (5 + 11 * w + q) := rfl
      have hB2 : Bk g (va_up c1 (b + 2 + w) (wiC (tkW (fun q => tkR r w (5 + 11 * w + q))))) b (tkR r (w + 1)) := by
        refine hB1.wire hw4 (fun q hq => ?_) (fun k hk hk2 => tkR_out r hk2)
        rw [tkR_in r hq b26]
        exact tkW_cong (fun q hq => (tkR_at r hq (Nat.le_refl w)).symm) hq
      have hF2 : Fr c (va_up c1 (b + 2 + w) (wiC (tkW (fun q => tkR r w (5 + 11 * w + q))))) b (b + 43) := hF.put (by omega) (by omega)
      refine lv_iinc (v := nI (w + 1)) (lv' := [(1, .int (nI (w + 1))), (0, .ref (gz g + b))]) hx hb dX4_passTick_38 hl (k := 1) rfl (by exact (nI_succ w).symm) (by decide) rfl (fun ls hl => ?_)
      refine lv_goto (tgt := 12) hx hb dX4_passTick_41 (by decide) ?_
      exact ih (w + 1) _ (by omega) hB2 hF2 _ _ _ (by omega) h (lv_sub hl [1, 0] rfl)
  exact lp _ 0 _ (Nat.zero_le _) hB0 hF0 _ _ _ (Nat.le_refl _) h (lv_sub hl [1, 0] rfl)
/-- the rest of wire w at the depth z, the first currents counted -/
def reS (r : Nat → Int32) (w : Nat) (z ax : Int32) : Nat → Int32
  | 0 => if ax = 0 then r (5 + 11 * w + 1) + r (5 + 11 * w + 5) else r (5 + 11 * w + 2) + r (5 + 11 * w + 6)
  | k + 1 => reS r w z ax k + beF (fun q => r (49 + 4 * k + q)) (r (5 + 11 * w + 3)) z ax
set_option maxHeartbeats 4000000 in
set_option maxRecDepth 100000 in
theorem k_X4_restAt (l : Launch) (g : Gf) (n : Nat) (c : Mp) (b : Nat) (r : Nat → Int32) (hB : Bk g c b r) (w : Nat) (hw : w < 4) (zz ax : Int32) (cn : Nat) (hcn : r 3 = nI cn) (h5 : cn ≤ 5) : Ct l g yX4_restAt wsX4_restAt 2 52 0 0 [.ref (gz g + b), .ref (gz g + (b + 2 + w)), .int zz, .int ax] n c (Qi g (fun xr n' c' => xr = reS r w zz ax cn ∧ n' = n ∧ c' = c)) := by
  refine ent (by decide) rfl (Nat.le_of_ble_eq_true rfl) ?_
  intro p e s m args below meth c0 F h ls hl
  have hx := F.1
  have hb := F.2.1
  have hl : lv_has ls 6 [(0, .ref (gz g + b)), (1, .ref (gz g + (b + 2 + w))), (2, .int zz), (3, .int ax)] := hl
  refine lv_iload_n hx hb dX4_restAt_0 rfl (lv_at hl 3 rfl) ?_
  refine lv_if_ne (tgt := 16) hx hb dX4_restAt_1 (by decide) (fun b_1 => ?_) (fun b_1 => ?_)
  · skip
    refine lv_aload_n hx hb dX4_restAt_16 rfl (lv_at hl 1 rfl) ?_
    refine r_get F h (C := RX6) (T := TX6) (N := 12) (hjc hi_X6) rfl (hB.2.1.2 w hw) 2 (by decide) (List.mem_cons_of_mem _ wd_53) rfl dX4_restAt_17 ?_
    refine lv_aload_n hx hb dX4_restAt_20 rfl (lv_at hl 1 rfl) ?_
    refine r_get F h (C := RX6) (T := TX6) (N := 12) (hjc hi_X6) rfl (hB.2.1.2 w hw) 7 (by decide) (List.mem_cons_of_mem _ wd_65) rfl dX4_restAt_21 ?_
    refine lv_iadd hx hb dX4_restAt_24 ?_
    refine lv_istore (lv' := [(4, .int (r (5 + 11 * w + 2) + r (5 + 11 * w + 6))), (0, .ref (gz g + b)), (1, .ref (gz g + (b + 2 + w))), (2, .int zz), (3, .int ax)]) hx hb dX4_restAt_25 hl (by decide) rfl (fun ls hl => ?_)
    have hl : lv_has ls 6 [(4, .int (reS r w zz ax 0)), (0, .ref (gz g + b)), (1, .ref (gz g + (b + 2 + w))), (2, .int zz), (3, .int ax)] := by rw [show (reS r w zz ax 0 : Int32) = (r (5 + 11 * w + 2) + r (5 + 11 * w + 6)) from by rw [reS, if_neg b_1]]; exact hl
    refine lv_iconst (v := 0) hx hb dX4_restAt_27 (by decide) ?_
    refine lv_istore (lv' := [(5, .int 0), (4, .int (reS r w zz ax 0)), (0, .ref (gz g + b)), (1, .ref (gz g + (b + 2 + w))), (2, .int zz), (3, .int ax)]) hx hb dX4_restAt_28 hl (by decide) rfl (fun ls hl => ?_)
    have lp : ∀ (k : Nat) (k1 : Nat) (hk1 : k1 ≤ cn) (H : Heap) (locs : List Loc) (ls : Array Slot), (6 - k1) ≤ k → Hv g s H locs n c → lv_has ls 6 [(0, .ref (gz g + b)), (1, .ref (gz g + (b + 2 + w))), (2, .int zz), (3, .int ax), (4, .int (reS r w zz ax k1)), (5, .int (nI k1))] → W p l e (Rm 2 52 0 0) s m args below meth c0 H locs 0 0 (MQ below (Qi g (fun xr n' c' => xr = reS r w zz ax cn ∧ n' = n ∧ c' = c)) args s 0 0 (mAf g)) (F0 m 30 ls []) := by
      intro k
      induction k with
      | zero => intro k1 hk1 H locs ls hk h hl; exact absurd hk (by omega)
      | succ k ih =>
        intro k1 hk1 H locs ls hk h hl
        refine lv_iload hx hb dX4_restAt_30 (lv_at hl 5 rfl) ?_
        refine lv_aload_n hx hb dX4_restAt_32 rfl (lv_at hl 0 rfl) ?_
        refine r_get F h (C := RX4) (T := TX4) (N := 8) (hjc hi_X4) rfl hB.1 2 (by decide) (List.mem_cons_of_mem _ wd_189) rfl dX4_restAt_33 ?_
        refine lv_icmp_ge (tgt := 66) hx hb dX4_restAt_36 (by decide) (fun b_36 => ?_) (fun b_36 => ?_)
        · skip
          refine lv_iload hx hb dX4_restAt_66 (lv_at hl 4 rfl) ?_
          exact ret_i F h (Nat.zero_le _) (Nat.zero_le _) dX4_restAt_68 (⟨by rw [show k1 = cn from by have := lp_ge (N := cn) hcn (by omega) (by omega) b_36; omega], rfl, rfl⟩)
        have hk4 : k1 < cn := lp_lt (N := cn) hcn (by omega) (by omega) b_36
        have hk5 : k1 < 5 := by omega
        refine lv_iload hx hb dX4_restAt_39 (lv_at hl 4 rfl) ?_
        refine lv_aload_n hx hb dX4_restAt_41 rfl (lv_at hl 0 rfl) ?_
        refine r_get F h (C := RX4) (T := TX4) (N := 8) (hjc hi_X4) rfl hB.1 1 (by decide) (List.mem_cons_of_mem _ wd_187) rfl dX4_restAt_42 ?_
        refine lv_iload hx hb dX4_restAt_45 (lv_at hl 5 rfl) ?_
        refine r_aald F h (C := RX0) hB.2.2.1.1 (t0 := 5) rfl (vp_in_nI (show k1 < 5 by omega) (by decide)) (a := gz g + (b + 7 + k1)) (qs_at (fun k => some (gz g + (b + 7 + k))) (by omega)) dX4_restAt_47 ?_
        refine lv_aload_n hx hb dX4_restAt_48 rfl (lv_at hl 1 rfl) ?_
        refine r_get F h (C := RX6) (T := TX6) (N := 12) (hjc hi_X6) rfl (hB.2.1.2 w hw) 3 (by decide) (List.mem_cons_of_mem _ wd_56) rfl dX4_restAt_49 ?_
        refine lv_iload_n hx hb dX4_restAt_52 rfl (lv_at hl 2 rfl) ?_
        refine lv_iload_n hx hb dX4_restAt_53 rfl (lv_at hl 3 rfl) ?_
        refine u_iE (v := (beF (fun q => r (49 + 4 * k1 + q)) (r (5 + 11 * w + 3)) zz ax)) (ru_V (As := [.int (r (5 + 11 * w + 3)), .int zz, .int ax]) (rest := [.int (reS r w zz ax k1)]) F h (hB.2.2.1.2 k1 hk5) rfl (k_X0_bend l g n c (b + 7 + k1) (fun q => r (49 + 4 * k1 + q)) (hB.2.2.1.2 k1 hk5) (r (5 + 11 * w + 3)) zz ax) (gV hjl wd_459 wd_460 wd_461 wd_19 wd_462) rfl 3 (by decide +kernel) rfl ⟨Nat.le_of_ble_eq_true rfl, Nat.le_of_ble_eq_true rfl⟩ rfl hl.1 (Nat.le_of_ble_eq_true rfl) ⟨Nat.zero_le _, Nat.zero_le _⟩ dX4_restAt_54) h (fun H locs h => ?_)
        refine lv_iadd hx hb dX4_restAt_57 ?_
        refine lv_istore (lv' := [(4, .int (reS r w zz ax k1 + (beF (fun q => r (49 + 4 * k1 + q)) (r (5 + 11 * w + 3)) zz ax))), (0, .ref (gz g + b)), (1, .ref (gz g + (b + 2 + w))), (2, .int zz), (3, .int ax), (5, .int (nI k1))]) hx hb dX4_restAt_58 hl (by decide) rfl (fun ls hl => ?_)
        have hl : lv_has ls 6 [(4, .int (reS r w zz ax (k1 + 1))), (0, .ref (gz g + b)), (1, .ref (gz g + (b + 2 + w))), (2, .int zz), (3, .int ax), (5, .int (nI k1))] := by rw [show (reS r w zz ax (k1 + 1) : Int32) = (reS r w zz ax k1 + (beF (fun q => r (49 + 4 * k1 + q)) (r (5 + 11 * w + 3)) zz ax)) from rfl]; exact hl
        refine lv_iinc (v := nI (k1 + 1)) (lv' := [(5, .int (nI (k1 + 1))), (4, .int (reS r w zz ax (k1 + 1))), (0, .ref (gz g + b)), (1, .ref (gz g + (b + 2 + w))), (2, .int zz), (3, .int ax)]) hx hb dX4_restAt_60 hl (k := 5) rfl (by exact (nI_succ k1).symm) (by decide) rfl (fun ls hl => ?_)
        refine lv_goto (tgt := 30) hx hb dX4_restAt_63 (by decide) ?_
        exact ih (k1 + 1) (by omega) _ _ _ (by omega) h (lv_sub hl [2, 3, 4, 5, 1, 0] rfl)
    exact lp _ 0 (Nat.zero_le _) _ _ _ (Nat.le_refl _) h (lv_sub hl [2, 3, 4, 5, 1, 0] rfl)
  refine lv_aload_n hx hb dX4_restAt_4 rfl (lv_at hl 1 rfl) ?_
  refine r_get F h (C := RX6) (T := TX6) (N := 12) (hjc hi_X6) rfl (hB.2.1.2 w hw) 1 (by decide) (List.mem_cons_of_mem _ wd_50) rfl dX4_restAt_5 ?_
  refine lv_aload_n hx hb dX4_restAt_8 rfl (lv_at hl 1 rfl) ?_
  refine r_get F h (C := RX6) (T := TX6) (N := 12) (hjc hi_X6) rfl (hB.2.1.2 w hw) 6 (by decide) (List.mem_cons_of_mem _ wd_62) rfl dX4_restAt_9 ?_
  refine lv_iadd hx hb dX4_restAt_12 ?_
  refine lv_goto (tgt := 25) hx hb dX4_restAt_13 (by decide) ?_
  refine lv_istore (lv' := [(4, .int (r (5 + 11 * w + 1) + r (5 + 11 * w + 5))), (0, .ref (gz g + b)), (1, .ref (gz g + (b + 2 + w))), (2, .int zz), (3, .int ax)]) hx hb dX4_restAt_25 hl (by decide) rfl (fun ls hl => ?_)
  have hl : lv_has ls 6 [(4, .int (reS r w zz ax 0)), (0, .ref (gz g + b)), (1, .ref (gz g + (b + 2 + w))), (2, .int zz), (3, .int ax)] := by rw [show (reS r w zz ax 0 : Int32) = (r (5 + 11 * w + 1) + r (5 + 11 * w + 5)) from by rw [reS, if_pos b_1]]; exact hl
  refine lv_iconst (v := 0) hx hb dX4_restAt_27 (by decide) ?_
  refine lv_istore (lv' := [(5, .int 0), (4, .int (reS r w zz ax 0)), (0, .ref (gz g + b)), (1, .ref (gz g + (b + 2 + w))), (2, .int zz), (3, .int ax)]) hx hb dX4_restAt_28 hl (by decide) rfl (fun ls hl => ?_)
  have lp : ∀ (k : Nat) (k1 : Nat) (hk1 : k1 ≤ cn) (H : Heap) (locs : List Loc) (ls : Array Slot), (6 - k1) ≤ k → Hv g s H locs n c → lv_has ls 6 [(0, .ref (gz g + b)), (1, .ref (gz g + (b + 2 + w))), (2, .int zz), (3, .int ax), (4, .int (reS r w zz ax k1)), (5, .int (nI k1))] → W p l e (Rm 2 52 0 0) s m args below meth c0 H locs 0 0 (MQ below (Qi g (fun xr n' c' => xr = reS r w zz ax cn ∧ n' = n ∧ c' = c)) args s 0 0 (mAf g)) (F0 m 30 ls []) := by
    intro k
    induction k with
    | zero => intro k1 hk1 H locs ls hk h hl; exact absurd hk (by omega)
    | succ k ih =>
      intro k1 hk1 H locs ls hk h hl
      refine lv_iload hx hb dX4_restAt_30 (lv_at hl 5 rfl) ?_
      refine lv_aload_n hx hb dX4_restAt_32 rfl (lv_at hl 0 rfl) ?_
      refine r_get F h (C := RX4) (T := TX4) (N := 8) (hjc hi_X4) rfl hB.1 2 (by decide) (List.mem_cons_of_mem _ wd_189) rfl dX4_restAt_33 ?_
      refine lv_icmp_ge (tgt := 66) hx hb dX4_restAt_36 (by decide) (fun b_36 => ?_) (fun b_36 => ?_)
      · skip
        refine lv_iload hx hb dX4_restAt_66 (lv_at hl 4 rfl) ?_
        exact ret_i F h (Nat.zero_le _) (Nat.zero_le _) dX4_restAt_68 (⟨by rw [show k1 = cn from by have := lp_ge (N := cn) hcn (by omega) (by omega) b_36; omega], rfl, rfl⟩)
      have hk4 : k1 < cn := lp_lt (N := cn) hcn (by omega) (by omega) b_36
      have hk5 : k1 < 5 := by omega
      refine lv_iload hx hb dX4_restAt_39 (lv_at hl 4 rfl) ?_
      refine lv_aload_n hx hb dX4_restAt_41 rfl (lv_at hl 0 rfl) ?_
      refine r_get F h (C := RX4) (T := TX4) (N := 8) (hjc hi_X4) rfl hB.1 1 (by decide) (List.mem_cons_of_mem _ wd_187) rfl dX4_restAt_42 ?_
      refine lv_iload hx hb dX4_restAt_45 (lv_at hl 5 rfl) ?_
      refine r_aald F h (C := RX0) hB.2.2.1.1 (t0 := 5) rfl (vp_in_nI (show k1 < 5 by omega) (by decide)) (a := gz g + (b + 7 + k1)) (qs_at (fun k => some (gz g + (b + 7 + k))) (by omega)) dX4_restAt_47 ?_
      refine lv_aload_n hx hb dX4_restAt_48 rfl (lv_at hl 1 rfl) ?_
      refine r_get F h (C := RX6) (T := TX6) (N := 12) (hjc hi_X6) rfl (hB.2.1.2 w hw) 3 (by decide) (List.mem_cons_of_mem _ wd_56) rfl dX4_restAt_49 ?_
      refine lv_iload_n hx hb dX4_restAt_52 rfl (lv_at hl 2 rfl) ?_
      refine lv_iload_n hx hb dX4_restAt_53 rfl (lv_at hl 3 rfl) ?_
      refine u_iE (v := (beF (fun q => r (49 + 4 * k1 + q)) (r (5 + 11 * w + 3)) zz ax)) (ru_V (As := [.int (r (5 + 11 * w + 3)), .int zz, .int ax]) (rest := [.int (reS r w zz ax k1)]) F h (hB.2.2.1.2 k1 hk5) rfl (k_X0_bend l g n c (b + 7 + k1) (fun q => r (49 + 4 * k1 + q)) (hB.2.2.1.2 k1 hk5) (r (5 + 11 * w + 3)) zz ax) (gV hjl wd_459 wd_460 wd_461 wd_19 wd_462) rfl 3 (by decide +kernel) rfl ⟨Nat.le_of_ble_eq_true rfl, Nat.le_of_ble_eq_true rfl⟩ rfl hl.1 (Nat.le_of_ble_eq_true rfl) ⟨Nat.zero_le _, Nat.zero_le _⟩ dX4_restAt_54) h (fun H locs h => ?_)
      refine lv_iadd hx hb dX4_restAt_57 ?_
      refine lv_istore (lv' := [(4, .int (reS r w zz ax k1 + (beF (fun q => r (49 + 4 * k1 + q)) (r (5 + 11 * w + 3)) zz ax))), (0, .ref (gz g + b)), (1, .ref (gz g + (b + 2 + w))), (2, .int zz), (3, .int ax), (5, .int (nI k1))]) hx hb dX4_restAt_58 hl (by decide) rfl (fun ls hl => ?_)
      have hl : lv_has ls 6 [(4, .int (reS r w zz ax (k1 + 1))), (0, .ref (gz g + b)), (1, .ref (gz g + (b + 2 + w))), (2, .int zz), (3, .int ax), (5, .int (nI k1))] := by rw [show (reS r w zz ax (k1 + 1) : Int32) = (reS r w zz ax k1 + (beF (fun q => r (49 + 4 * k1 + q)) (r (5 + 11 * w + 3)) zz ax)) from rfl]; exact hl
      refine lv_iinc (v := nI (k1 + 1)) (lv' := [(5, .int (nI (k1 + 1))), (4, .int (reS r w zz ax (k1 + 1))), (0, .ref (gz g + b)), (1, .ref (gz g + (b + 2 + w))), (2, .int zz), (3, .int ax)]) hx hb dX4_restAt_60 hl (k := 5) rfl (by exact (nI_succ k1).symm) (by decide) rfl (fun ls hl => ?_)
      refine lv_goto (tgt := 30) hx hb dX4_restAt_63 (by decide) ?_
      exact ih (k1 + 1) (by omega) _ _ _ (by omega) h (lv_sub hl [2, 3, 4, 5, 1, 0] rfl)
  exact lp _ 0 (Nat.zero_le _) _ _ _ (Nat.le_refl _) h (lv_sub hl [2, 3, 4, 5, 1, 0] rfl)
def mixR (r r2 : Nat → Int32) (P : Nat → Bool) : Nat → Int32 := fun k => if P k = true then r2 k else r k
theorem mix_y {r r2 : Nat → Int32} {P : Nat → Bool} {k : Nat} (h : P k = true) : mixR r r2 P k = r2 k := if_pos h
theorem mix_n {r r2 : Nat → Int32} {P : Nat → Bool} {k : Nat} (h : ¬ P k = true) : mixR r r2 P k = r k := if_neg h
theorem mix_c {r r2 : Nat → Int32} {P P' : Nat → Bool} {k : Nat} (h : P' k = true ↔ P k = true) : mixR r r2 P' k = mixR r r2 P k := by
  unfold mixR
  by_cases h1 : P k = true
  · rw [if_pos h1, if_pos (h.mpr h1)]
  · rw [if_neg h1, if_neg (fun z => h1 (h.mp z))]
def cpP (w k2 s a b c d e : Nat) : Nat → Bool := fun k => decide ((5 ≤ k ∧ k < 5 + 11 * w) ∨ (49 ≤ k ∧ k < 49 + 4 * k2) ∨ (69 ≤ k ∧ k < 69 + 3 * s) ∨ (84 ≤ k ∧ k < 84 + 24 * s) ∨ (204 ≤ k ∧ k < 204 + s) ∨ (k = 3 ∧ a = 1) ∨ (k = 4 ∧ b = 1) ∨ (k = 0 ∧ c = 1) ∨ (k = 1 ∧ d = 1) ∨ (k = 2 ∧ e = 1))
theorem cpP_i (w k2 s a b c d e k : Nat) : cpP w k2 s a b c d e k = true ↔ ((5 ≤ k ∧ k < 5 + 11 * w) ∨ (49 ≤ k ∧ k < 49 + 4 * k2) ∨ (69 ≤ k ∧ k < 69 + 3 * s) ∨ (84 ≤ k ∧ k < 84 + 24 * s) ∨ (204 ≤ k ∧ k < 204 + s) ∨ (k = 3 ∧ a = 1) ∨ (k = 4 ∧ b = 1) ∨ (k = 0 ∧ c = 1) ∨ (k = 1 ∧ d = 1) ∨ (k = 2 ∧ e = 1)) := decide_eq_true_iff
theorem cp_step {w k2 s a b c d e k : Nat} (h1 : k < 69 + 3 * s ∨ 69 + 3 * s + 3 ≤ k) (h2 : k ≠ 204 + s) (h3 : k < 84 + 24 * s ∨ 84 + 24 * s + 24 ≤ k) : cpP w k2 (s + 1) a b c d e k = true ↔ cpP w k2 s a b c d e k = true := by
  rw [cpP_i, cpP_i]
  have e1 : (69 ≤ k ∧ k < 69 + 3 * (s + 1)) ↔ (69 ≤ k ∧ k < 69 + 3 * s) := by omega
  have e2 : (84 ≤ k ∧ k < 84 + 24 * (s + 1)) ↔ (84 ≤ k ∧ k < 84 + 24 * s) := by omega
  have e3 : (204 ≤ k ∧ k < 204 + (s + 1)) ↔ (204 ≤ k ∧ k < 204 + s) := by omega
  rw [e1, e2, e3]
set_option maxHeartbeats 4000000 in
set_option maxRecDepth 100000 in
theorem k_X4_copyFrom (l : Launch) (g : Gf) (n : Nat) (c : Mp) (b : Nat) (r : Nat → Int32) (hB : Bk g c b r) (b2 : Nat) (r2 : Nat → Int32) (hB2 : Bk g c b2 r2) (hbb : b + 43 ≤ b2 ∨ b2 + 43 ≤ b) (hb1 : ∀ w : Nat, w < 4 → B01 (r2 (5 + 11 * w + 0))) (hb2 : ∀ s : Nat, s < 5 → B01 (r2 (204 + s))) (hb3 : ∀ s w : Nat, s < 5 → w < 4 → B01 (r2 (84 + 6 * (4 * s + w) + 0))) : Ct l g yX4_copyFrom wsX4_copyFrom 2 43 0 0 [.ref (gz g + b), .ref (gz g + b2)] n c (Qv g (fun n' c' => n' = n ∧ Bk g c' b r2 ∧ Fr c c' b (b + 43))) := by
  refine ent (by decide) rfl (Nat.le_of_ble_eq_true rfl) ?_
  intro p e s m args below meth c0 F h ls hl
  have hx := F.1
  have hb := F.2.1
  have hl : lv_has ls 3 [(0, .ref (gz g + b)), (1, .ref (gz g + b2))] := hl
  refine lv_iconst (v := 0) hx hb dX4_copyFrom_0 (by decide) ?_
  refine lv_istore_n (lv' := [(2, .int 0), (0, .ref (gz g + b)), (1, .ref (gz g + b2))]) hx hb dX4_copyFrom_1 rfl hl (by decide) rfl (fun ls hl => ?_)
  have lp : ∀ (k : Nat) (w : Nat) (c1 : Mp) (hw : w ≤ 4) (hB1 : Bk g c1 b (mixR r r2 (cpP w 0 0 0 0 0 0 0))) (hF : Fr c c1 b (b + 43)) (H : Heap) (locs : List Loc) (ls : Array Slot), (5 - w) ≤ k → Hv g s H locs n c1 → lv_has ls 3 [(0, .ref (gz g + b)), (1, .ref (gz g + b2)), (2, .int (nI w))] → W p l e (Rm 2 43 0 0) s m args below meth c0 H locs 0 0 (MQ below (Qv g (fun n' c' => n' = n ∧ Bk g c' b r2 ∧ Fr c c' b (b + 43))) args s 0 0 (mAf g)) (F0 m 2 ls []) := by
    intro k
    induction k with
    | zero => intro w c1 hw hB1 hF H locs ls hk h hl; exact absurd hk (by omega)
    | succ k ih =>
      intro w c1 hw hB1 hF H locs ls hk h hl
      refine lv_iload_n hx hb dX4_copyFrom_2 rfl (lv_at hl 2 rfl) ?_
      refine lv_iconst (v := 4) hx hb dX4_copyFrom_3 (by decide) ?_
      refine lv_icmp_ge (tgt := 28) hx hb dX4_copyFrom_4 (by decide) (fun b_4 => ?_) (fun b_4 => ?_)
      · skip
        have e4 : w = 4 := by have := lp_ge (N := 4) rfl (by omega) (by decide) b_4; omega
        subst e4
        refine lv_iconst (v := 0) hx hb dX4_copyFrom_28 (by decide) ?_
        refine lv_istore_n (lv' := [(2, .int 0), (0, .ref (gz g + b)), (1, .ref (gz g + b2))]) hx hb dX4_copyFrom_29 rfl hl (by decide) rfl (fun ls hl => ?_)
        have lq : ∀ (k : Nat) (k1 : Nat) (c1 : Mp) (hw : k1 ≤ 5) (hB1 : Bk g c1 b (mixR r r2 (cpP 4 k1 0 0 0 0 0 0))) (hF : Fr c c1 b (b + 43)) (H : Heap) (locs : List Loc) (ls : Array Slot), (6 - k1) ≤ k → Hv g s H locs n c1 → lv_has ls 3 [(0, .ref (gz g + b)), (1, .ref (gz g + b2)), (2, .int (nI k1))] → W p l e (Rm 2 43 0 0) s m args below meth c0 H locs 0 0 (MQ below (Qv g (fun n' c' => n' = n ∧ Bk g c' b r2 ∧ Fr c c' b (b + 43))) args s 0 0 (mAf g)) (F0 m 30 ls []) := by
          intro k
          induction k with
          | zero => intro k1 c1 hw hB1 hF H locs ls hk h hl; exact absurd hk (by omega)
          | succ k ih =>
            intro k1 c1 hw hB1 hF H locs ls hk h hl
            refine lv_iload_n hx hb dX4_copyFrom_30 rfl (lv_at hl 2 rfl) ?_
            refine lv_iconst (v := 5) hx hb dX4_copyFrom_31 (by decide) ?_
            refine lv_icmp_ge (tgt := 56) hx hb dX4_copyFrom_32 (by decide) (fun b_32 => ?_) (fun b_32 => ?_)
            · skip
              have e4 : k1 = 5 := by have := lp_ge (N := 5) rfl (by omega) (by decide) b_32; omega
              subst e4
              refine lv_aload_n hx hb dX4_copyFrom_56 rfl (lv_at hl 0 rfl) ?_
              refine lv_aload_n hx hb dX4_copyFrom_57 rfl (lv_at hl 1 rfl) ?_
              refine r_get F h (C := RX4) (T := TX4) (N := 8) (hjc hi_X4) rfl ((hF _ (by omega)).trans hB2.1) 2 (by decide) (List.mem_cons_of_mem _ wd_189) rfl dX4_copyFrom_58 ?_
              refine r_put F h (C := RX4) (T := TX4) (N := 8) (fs' := [.ref (gz g + (b + 1)), .ref (gz g + (b + 6)), .int (r2 3), .ref (gz g + (b + 12)), .int ((mixR r r2 (cpP 4 5 0 0 0 0 0 0)) 4), .int ((mixR r r2 (cpP 4 5 0 0 0 0 0 0)) 0), .int ((mixR r r2 (cpP 4 5 0 0 0 0 0 0)) 1), .int ((mixR r r2 (cpP 4 5 0 0 0 0 0 0)) 2)]) (hjc hi_X4) tyX4 tyX4_ok nmX4 rfl hB1.1 2 (by decide) (List.mem_cons_of_mem _ wd_189) rfl (rfl) (rfl) (Nat.le_of_ble_eq_true rfl) rfl dX4_copyFrom_61 (fun H locs h => ?_)
              refine lv_iconst (v := 0) hx hb dX4_copyFrom_64 (by decide) ?_
              refine lv_istore_n (lv' := [(2, .int 0), (0, .ref (gz g + b)), (1, .ref (gz g + b2))]) hx hb dX4_copyFrom_65 rfl hl (by decide) rfl (fun ls hl => ?_)
              have lr : ∀ (k : Nat) (s1 : Nat) (c1 : Mp) (hw : s1 ≤ 5) (hB1 : Bk g c1 b (mixR r r2 (cpP 4 5 s1 1 0 0 0 0))) (hF : Fr c c1 b (b + 43)) (H : Heap) (locs : List Loc) (ls : Array Slot), (6 - s1) ≤ k → Hv g s H locs n c1 → lv_has ls 3 [(0, .ref (gz g + b)), (1, .ref (gz g + b2)), (2, .int (nI s1))] → W p l e (Rm 2 43 0 0) s m args below meth c0 H locs 0 0 (MQ below (Qv g (fun n' c' => n' = n ∧ Bk g c' b r2 ∧ Fr c c' b (b + 43))) args s 0 0 (mAf g)) (F0 m 66 ls []) := by
                intro k
                induction k with
                | zero => intro s1 c1 hw hB1 hF H locs ls hk h hl; exact absurd hk (by omega)
                | succ k ih =>
                  intro s1 c1 hw hB1 hF H locs ls hk h hl
                  refine lv_iload_n hx hb dX4_copyFrom_66 rfl (lv_at hl 2 rfl) ?_
                  refine lv_iconst (v := 5) hx hb dX4_copyFrom_67 (by decide) ?_
                  refine lv_icmp_ge (tgt := 92) hx hb dX4_copyFrom_68 (by decide) (fun b_68 => ?_) (fun b_68 => ?_)
                  · skip
                    have e4 : s1 = 5 := by have := lp_ge (N := 5) rfl (by omega) (by decide) b_68; omega
                    subst e4
                    refine lv_aload_n hx hb dX4_copyFrom_92 rfl (lv_at hl 0 rfl) ?_
                    refine lv_aload_n hx hb dX4_copyFrom_93 rfl (lv_at hl 1 rfl) ?_
                    refine r_get F h (C := RX4) (T := TX4) (N := 8) (hjc hi_X4) rfl ((hF _ (by omega)).trans hB2.1) 4 (by decide) (List.mem_cons_of_mem _ wd_193) rfl dX4_copyFrom_94 ?_
                    refine r_put F h (C := RX4) (T := TX4) (N := 8) (fs' := [.ref (gz g + (b + 1)), .ref (gz g + (b + 6)), .int ((mixR r r2 (cpP 4 5 5 1 0 0 0 0)) 3), .ref (gz g + (b + 12)), .int (r2 4), .int ((mixR r r2 (cpP 4 5 5 1 0 0 0 0)) 0), .int ((mixR r r2 (cpP 4 5 5 1 0 0 0 0)) 1), .int ((mixR r r2 (cpP 4 5 5 1 0 0 0 0)) 2)]) (hjc hi_X4) tyX4 tyX4_ok nmX4 rfl hB1.1 4 (by decide) (List.mem_cons_of_mem _ wd_193) rfl (rfl) (rfl) (Nat.le_of_ble_eq_true rfl) rfl dX4_copyFrom_97 (fun H locs h => ?_)
                    refine lv_aload_n hx hb dX4_copyFrom_100 rfl (lv_at hl 0 rfl) ?_
                    refine lv_aload_n hx hb dX4_copyFrom_101 rfl (lv_at hl 1 rfl) ?_
                    refine r_get F h (C := RX4) (T := TX4) (N := 8) (hjc hi_X4) rfl ((mu_ne (by omega) _).trans ((hF _ (by omega)).trans hB2.1)) 5 (by decide) (List.mem_cons_of_mem _ wd_195) rfl dX4_copyFrom_102 ?_
                    refine r_put F h (C := RX4) (T := TX4) (N := 8) (fs' := [.ref (gz g + (b + 1)), .ref (gz g + (b + 6)), .int ((mixR r r2 (cpP 4 5 5 1 0 0 0 0)) 3), .ref (gz g + (b + 12)), .int (r2 4), .int (r2 0), .int ((mixR r r2 (cpP 4 5 5 1 0 0 0 0)) 1), .int ((mixR r r2 (cpP 4 5 5 1 0 0 0 0)) 2)]) (hjc hi_X4) tyX4 tyX4_ok nmX4 rfl (mu_eq _ _ _) 5 (by decide) (List.mem_cons_of_mem _ wd_195) rfl (rfl) (rfl) (Nat.le_of_ble_eq_true rfl) rfl dX4_copyFrom_105 (fun H locs h => ?_)
                    refine r_mem (c1 := (va_up c1 b (some (.inr (4, [.ref (gz g + (b + 1)), .ref (gz g + (b + 6)), .int ((mixR r r2 (cpP 4 5 5 1 0 0 0 0)) 3), .ref (gz g + (b + 12)), .int (r2 4), .int (r2 0), .int ((mixR r r2 (cpP 4 5 5 1 0 0 0 0)) 1), .int ((mixR r r2 (cpP 4 5 5 1 0 0 0 0)) 2)]))))) h (mu_uu _ _ _ _) (fun h => ?_)
                    refine lv_aload_n hx hb dX4_copyFrom_108 rfl (lv_at hl 0 rfl) ?_
                    refine lv_aload_n hx hb dX4_copyFrom_109 rfl (lv_at hl 1 rfl) ?_
                    refine r_get F h (C := RX4) (T := TX4) (N := 8) (hjc hi_X4) rfl ((mu_ne (by omega) _).trans ((hF _ (by omega)).trans hB2.1)) 6 (by decide) (List.mem_cons_of_mem _ wd_197) rfl dX4_copyFrom_110 ?_
                    refine r_put F h (C := RX4) (T := TX4) (N := 8) (fs' := [.ref (gz g + (b + 1)), .ref (gz g + (b + 6)), .int ((mixR r r2 (cpP 4 5 5 1 0 0 0 0)) 3), .ref (gz g + (b + 12)), .int (r2 4), .int (r2 0), .int (r2 1), .int ((mixR r r2 (cpP 4 5 5 1 0 0 0 0)) 2)]) (hjc hi_X4) tyX4 tyX4_ok nmX4 rfl (mu_eq _ _ _) 6 (by decide) (List.mem_cons_of_mem _ wd_197) rfl (rfl) (rfl) (Nat.le_of_ble_eq_true rfl) rfl dX4_copyFrom_113 (fun H locs h => ?_)
                    refine r_mem (c1 := (va_up c1 b (some (.inr (4, [.ref (gz g + (b + 1)), .ref (gz g + (b + 6)), .int ((mixR r r2 (cpP 4 5 5 1 0 0 0 0)) 3), .ref (gz g + (b + 12)), .int (r2 4), .int (r2 0), .int (r2 1), .int ((mixR r r2 (cpP 4 5 5 1 0 0 0 0)) 2)]))))) h (mu_uu _ _ _ _) (fun h => ?_)
                    refine lv_aload_n hx hb dX4_copyFrom_116 rfl (lv_at hl 0 rfl) ?_
                    refine lv_aload_n hx hb dX4_copyFrom_117 rfl (lv_at hl 1 rfl) ?_
                    refine r_get F h (C := RX4) (T := TX4) (N := 8) (hjc hi_X4) rfl ((mu_ne (by omega) _).trans ((hF _ (by omega)).trans hB2.1)) 7 (by decide) (List.mem_cons_of_mem _ wd_199) rfl dX4_copyFrom_118 ?_
                    refine r_put F h (C := RX4) (T := TX4) (N := 8) (fs' := [.ref (gz g + (b + 1)), .ref (gz g + (b + 6)), .int ((mixR r r2 (cpP 4 5 5 1 0 0 0 0)) 3), .ref (gz g + (b + 12)), .int (r2 4), .int (r2 0), .int (r2 1), .int (r2 2)]) (hjc hi_X4) tyX4 tyX4_ok nmX4 rfl (mu_eq _ _ _) 7 (by decide) (List.mem_cons_of_mem _ wd_199) rfl (rfl) (rfl) (Nat.le_of_ble_eq_true rfl) rfl dX4_copyFrom_121 (fun H locs h => ?_)
                    refine r_mem (c1 := (va_up c1 b (some (.inr (4, [.ref (gz g + (b + 1)), .ref (gz g + (b + 6)), .int ((mixR r r2 (cpP 4 5 5 1 0 0 0 0)) 3), .ref (gz g + (b + 12)), .int (r2 4), .int (r2 0), .int (r2 1), .int (r2 2)]))))) h (mu_uu _ _ _ _) (fun h => ?_)
                    exact ret_v F h (Nat.zero_le _) (Nat.zero_le _) dX4_copyFrom_124 (⟨rfl, (hB1.top (r' := (mixR r r2 (cpP 4 5 5 1 1 1 1 1))) rfl (fun k hk _ => mix_c (by simp only [cpP_i] <;> omega))).row (fun k hk => (mix_y (by rw [cpP_i]; omega)).symm), hF.put (by omega) (by omega)⟩)
                  have hw4 : s1 < 5 := lp_lt (N := 5) rfl (by omega) (by decide) b_68
                  refine lv_aload_n hx hb dX4_copyFrom_71 rfl (lv_at hl 0 rfl) ?_
                  refine r_get F h (C := RX4) (T := TX4) (N := 8) (hjc hi_X4) rfl hB1.1 3 (by decide) (List.mem_cons_of_mem _ wd_191) rfl dX4_copyFrom_72 ?_
                  refine lv_iload_n hx hb dX4_copyFrom_75 rfl (lv_at hl 2 rfl) ?_
                  refine r_aald F h (C := RX5) hB1.2.2.2.1 (t0 := 6) rfl (vp_in_nI (show s1 < 5 by omega) (by decide)) (a := gz g + (b + 13 + 6 * s1)) (qs_at (fun k => some (gz g + (b + 13 + 6 * k))) (by omega)) dX4_copyFrom_76 ?_
                  refine lv_aload_n hx hb dX4_copyFrom_77 rfl (lv_at hl 1 rfl) ?_
                  refine r_get F h (C := RX4) (T := TX4) (N := 8) (hjc hi_X4) rfl ((hF _ (by omega)).trans hB2.1) 3 (by decide) (List.mem_cons_of_mem _ wd_191) rfl dX4_copyFrom_78 ?_
                  refine lv_iload_n hx hb dX4_copyFrom_81 rfl (lv_at hl 2 rfl) ?_
                  refine r_aald F h (C := RX5) ((hF _ (by omega)).trans hB2.2.2.2.1) (t0 := 6) rfl (vp_in_nI (show s1 < 5 by omega) (by decide)) (a := gz g + (b2 + 13 + 6 * s1)) (qs_at (fun k => some (gz g + (b2 + 13 + 6 * k))) (by omega)) dX4_copyFrom_82 ?_
                  refine u_v (ru_V (As := [.ref (gz g + (b2 + 13 + 6 * s1))]) (rest := []) F h ((hB1.2.2.2.2 s1 hw4).1) rfl (k_X5_copyFrom l g n c1 (b + 13 + 6 * s1) _ _ _ _ _ (hB1.2.2.2.2 s1 hw4) (b2 + 13 + 6 * s1) _ _ _ _ _ ((hB2.2.2.2.2 s1 hw4).cong (fun j _ _ => hF j (by omega)) (fun _ _ _ _ => rfl)) (by omega) (hb2 s1 hw4) (fun w hw => hb3 s1 w hw4 hw)) (gV hjl wd_302 wd_303 wd_304 wd_20 wd_305) rfl 1 (by decide +kernel) rfl ⟨Nat.le_of_ble_eq_true rfl, Nat.le_of_ble_eq_true rfl⟩ rfl hl.1 (Nat.le_of_ble_eq_true rfl) ⟨Nat.zero_le _, Nat.zero_le _⟩ dX4_copyFrom_83) h (fun n1 c2 H locs hp h => ?_)
                  obtain ⟨hn1, hS2, hF2⟩ := hp
                  rw [hn1] at h
                  refine lv_iinc (v := nI (s1 + 1)) (lv' := [(2, .int (nI (s1 + 1))), (0, .ref (gz g + b)), (1, .ref (gz g + b2))]) hx hb dX4_copyFrom_86 hl (k := 2) rfl (by exact (nI_succ s1).symm) (by decide) rfl (fun ls hl => ?_)
                  refine lv_goto (tgt := 66) hx hb dX4_copyFrom_89 (by decide) ?_
                  have hB3 : Bk g c2 b (mixR r r2 (cpP 4 5 (s1 + 1) 1 0 0 0 0)) := by
                    refine hB1.stat hw4 ?_ hF2 (fun k hk h1 h2 h3 => mix_c (cp_step (by omega) h2 (by omega)))
                    rw [show mixR r r2 _ (69 + 3 * s1) = r2 (69 + 3 * s1) from mix_y (by rw [cpP_i]; omega), show mixR r r2 _ (69 + 3 * s1 + 1) = r2 (69 + 3 * s1 + 1) from mix_y (by rw [cpP_i]; omega), show mixR r r2 _ (204 + s1) = r2 (204 + s1) from mix_y (by rw [cpP_i]; omega), show mixR r r2 _ (69 + 3 * s1 + 2) = r2 (69 + 3 * s1 + 2) from mix_y (by rw [cpP_i]; omega)]
                    exact hS2.cong (fun _ _ _ => rfl) (fun w q hw hq => mix_y (by rw [cpP_i]; omega))
                  exact ih (s1 + 1) c2 (by omega) hB3 (hF.trans (fun i hi => hF2 i (by omega))) _ _ _ (by omega) h (lv_sub hl [1, 2, 0] rfl)
              exact lr _ 0 _ (Nat.zero_le _) (hB1.top (r' := (mixR r r2 (cpP 4 5 0 1 0 0 0 0))) rfl (fun k hk _ => mix_c (by simp only [cpP_i] <;> omega))) (hF.put (by omega) (by omega)) _ _ _ (Nat.le_refl _) h (lv_sub hl [1, 2, 0] rfl)
            have hw4 : k1 < 5 := lp_lt (N := 5) rfl (by omega) (by decide) b_32
            refine lv_aload_n hx hb dX4_copyFrom_35 rfl (lv_at hl 0 rfl) ?_
            refine r_get F h (C := RX4) (T := TX4) (N := 8) (hjc hi_X4) rfl hB1.1 1 (by decide) (List.mem_cons_of_mem _ wd_187) rfl dX4_copyFrom_36 ?_
            refine lv_iload_n hx hb dX4_copyFrom_39 rfl (lv_at hl 2 rfl) ?_
            refine r_aald F h (C := RX0) hB1.2.2.1.1 (t0 := 5) rfl (vp_in_nI (show k1 < 5 by omega) (by decide)) (a := gz g + (b + 7 + k1)) (qs_at (fun k => some (gz g + (b + 7 + k))) (by omega)) dX4_copyFrom_40 ?_
            refine lv_aload_n hx hb dX4_copyFrom_41 rfl (lv_at hl 1 rfl) ?_
            refine r_get F h (C := RX4) (T := TX4) (N := 8) (hjc hi_X4) rfl ((hF _ (by omega)).trans hB2.1) 1 (by decide) (List.mem_cons_of_mem _ wd_187) rfl dX4_copyFrom_42 ?_
            refine lv_iload_n hx hb dX4_copyFrom_45 rfl (lv_at hl 2 rfl) ?_
            refine r_aald F h (C := RX0) ((hF _ (by omega)).trans hB2.2.2.1.1) (t0 := 5) rfl (vp_in_nI (show k1 < 5 by omega) (by decide)) (a := gz g + (b2 + 7 + k1)) (qs_at (fun k => some (gz g + (b2 + 7 + k))) (by omega)) dX4_copyFrom_46 ?_
            refine u_vE (ru_V (As := [.ref (gz g + (b2 + 7 + k1))]) (rest := []) F h (hB1.2.2.1.2 k1 hw4) rfl (k_X0_copyFrom l g n c1 (b + 7 + k1) _ (hB1.2.2.1.2 k1 hw4) (b2 + 7 + k1) (fun q => r2 (49 + 4 * k1 + q)) ((hF _ (by omega)).trans (hB2.2.2.1.2 k1 hw4)) (by omega)) (gV hjl wd_298 wd_299 wd_300 wd_19 wd_301) rfl 1 (by decide +kernel) rfl ⟨Nat.le_of_ble_eq_true rfl, Nat.le_of_ble_eq_true rfl⟩ rfl hl.1 (Nat.le_of_ble_eq_true rfl) ⟨Nat.zero_le _, Nat.zero_le _⟩ dX4_copyFrom_47) h (fun H locs h => ?_)
            refine lv_iinc (v := nI (k1 + 1)) (lv' := [(2, .int (nI (k1 + 1))), (0, .ref (gz g + b)), (1, .ref (gz g + b2))]) hx hb dX4_copyFrom_50 hl (k := 2) rfl (by exact (nI_succ k1).symm) (by decide) rfl (fun ls hl => ?_)
            refine lv_goto (tgt := 30) hx hb dX4_copyFrom_53 (by decide) ?_
            exact ih (k1 + 1) _ (by omega) (hB1.cur hw4 (fun q hq => mix_y (by rw [cpP_i]; omega)) (fun k hk hk2 => mix_c (by simp only [cpP_i] <;> omega))) (hF.put (by omega) (by omega)) _ _ _ (by omega) h (lv_sub hl [1, 2, 0] rfl)
        exact lq _ 0 c1 (Nat.zero_le _) (hB1.row (fun k hk => mix_c (by simp only [cpP_i] <;> omega))) hF _ _ _ (Nat.le_refl _) h (lv_sub hl [1, 2, 0] rfl)
      have hw4 : w < 4 := lp_lt (N := 4) rfl (by omega) (by decide) b_4
      refine lv_aload_n hx hb dX4_copyFrom_7 rfl (lv_at hl 0 rfl) ?_
      refine r_get F h (C := RX4) (T := TX4) (N := 8) (hjc hi_X4) rfl hB1.1 0 (by decide) (List.mem_cons_of_mem _ wd_185) rfl dX4_copyFrom_8 ?_
      refine lv_iload_n hx hb dX4_copyFrom_11 rfl (lv_at hl 2 rfl) ?_
      refine r_aald F h (C := RX6) hB1.2.1.1 (t0 := 4) rfl (vp_in_nI (show w < 4 by omega) (by decide)) (a := gz g + (b + 2 + w)) (qs_at (fun k => some (gz g + (b + 2 + k))) (by omega)) dX4_copyFrom_12 ?_
      refine lv_aload_n hx hb dX4_copyFrom_13 rfl (lv_at hl 1 rfl) ?_
      refine r_get F h (C := RX4) (T := TX4) (N := 8) (hjc hi_X4) rfl ((hF _ (by omega)).trans hB2.1) 0 (by decide) (List.mem_cons_of_mem _ wd_185) rfl dX4_copyFrom_14 ?_
      refine lv_iload_n hx hb dX4_copyFrom_17 rfl (lv_at hl 2 rfl) ?_
      refine r_aald F h (C := RX6) ((hF _ (by omega)).trans hB2.2.1.1) (t0 := 4) rfl (vp_in_nI (show w < 4 by omega) (by decide)) (a := gz g + (b2 + 2 + w)) (qs_at (fun k => some (gz g + (b2 + 2 + k))) (by omega)) dX4_copyFrom_18 ?_
      refine u_vE (ru_V (As := [.ref (gz g + (b2 + 2 + w))]) (rest := []) F h (hB1.2.1.2 w hw4) rfl (k_X6_copyFrom l g n c1 (b + 2 + w) _ (hB1.2.1.2 w hw4) (b2 + 2 + w) (fun k => r2 (5 + 11 * w + k)) ((hF _ (by omega)).trans (hB2.2.1.2 w hw4)) (by omega) (hb1 w hw4)) (gV hjl wd_294 wd_295 wd_296 wd_18 wd_297) rfl 1 (by decide +kernel) rfl ⟨Nat.le_of_ble_eq_true rfl, Nat.le_of_ble_eq_true rfl⟩ rfl hl.1 (Nat.le_of_ble_eq_true rfl) ⟨Nat.zero_le _, Nat.zero_le _⟩ dX4_copyFrom_19) h (fun H locs h => ?_)
      refine lv_iinc (v := nI (w + 1)) (lv' := [(2, .int (nI (w + 1))), (0, .ref (gz g + b)), (1, .ref (gz g + b2))]) hx hb dX4_copyFrom_22 hl (k := 2) rfl (by exact (nI_succ w).symm) (by decide) rfl (fun ls hl => ?_)
      refine lv_goto (tgt := 2) hx hb dX4_copyFrom_25 (by decide) ?_
      exact ih (w + 1) _ (by omega) (hB1.wire hw4 (fun q hq => mix_y (by rw [cpP_i]; omega)) (fun k hk hk2 => mix_c (by simp only [cpP_i] <;> omega))) (hF.put (by omega) (by omega)) _ _ _ (by omega) h (lv_sub hl [1, 2, 0] rfl)
  exact lp _ 0 c (Nat.zero_le _) (hB.row (fun k hk => mix_n (by rw [cpP_i]; omega))) Fr.rfl' _ _ _ (Nat.le_refl _) h (lv_sub hl [1, 2, 0] rfl)
