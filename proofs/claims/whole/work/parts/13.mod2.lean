/-! The reference: ticks, the history. -/
/-- one wire of the reference behind a tick -/
def tkV (f : Nat → Int32) : Nat → Int32 :=
  let ph := (f 10 + 1) - (f 10 + 1) / (4 * (1 + f 4 / 100)) * (4 * (1 + f 4 / 100))
  if ph = 0 then upd (upd f 10 ph) 9 (f 9 * cmI (f 7) / 100) else upd f 10 ph
/-- the reference's row behind a tick, the first wires done -/
def tmR (r : Nat → Int32) (w : Nat) : Nat → Int32 := fun k => if k = 0 then r 0 + 1 else if 5 ≤ k ∧ k < 5 + 11 * w ∧ r (5 + 11 * ((k - 5) / 11)) = 1 then tkV (fun q => r (5 + 11 * ((k - 5) / 11) + q)) ((k - 5) % 11) else r k
theorem tmR_0 (r : Nat → Int32) : tmR r 0 = upd r 0 (r 0 + 1) := by
  funext k
  unfold tmR upd
  by_cases h0 : k = 0
  · rw [if_pos h0, if_pos h0]
  · rw [if_neg h0, if_neg h0, if_neg (fun z => by omega)]
theorem tmR_at (r : Nat → Int32) {w v q : Nat} (hq : q < 11) (hv : w ≤ v) : tmR r w (5 + 11 * v + q) = r (5 + 11 * v + q) := by
  unfold tmR
  rw [if_neg (by omega), if_neg (fun z => by omega)]
theorem tmR_out (r : Nat → Int32) {w k : Nat} (h : k < 5 + 11 * w ∨ 5 + 11 * w + 11 ≤ k) : tmR r (w + 1) k = tmR r w k := by
  unfold tmR
  by_cases h0 : k = 0
  · rw [if_pos h0, if_pos h0]
  · rw [if_neg h0, if_neg h0]
    by_cases h1 : 5 ≤ k ∧ k < 5 + 11 * w ∧ r (5 + 11 * ((k - 5) / 11)) = 1
    · rw [if_pos h1, if_pos ⟨h1.1, by omega, h1.2.2⟩]
    · rw [if_neg h1, if_neg (fun z => h1 ⟨z.1, by omega, z.2.2⟩)]
theorem tmR_same (r : Nat → Int32) {w : Nat} (h : ¬ r (5 + 11 * w) = 1) : tmR r (w + 1) = tmR r w := by
  funext k
  by_cases hk : k < 5 + 11 * w ∨ 5 + 11 * w + 11 ≤ k
  · exact tmR_out r hk
  · obtain ⟨q, hq, e⟩ : ∃ q, q < 11 ∧ k = 5 + 11 * w + q := ⟨k - (5 + 11 * w), by omega, by omega⟩
    subst e
    rw [tmR_at r hq (Nat.le_refl _)]
    unfold tmR
    rw [if_neg (by omega), show (5 + 11 * w + q - 5) / 11 = w by omega, if_neg (fun z => h z.2.2)]
theorem tmR_step (r : Nat → Int32) {w : Nat} (h : r (5 + 11 * w) = 1) {ph : Int32} (hp : ph = (r (5 + 11 * w + 10) + 1) - (r (5 + 11 * w + 10) + 1) / (4 * (1 + r (5 + 11 * w + 4) / 100)) * (4 * (1 + r (5 + 11 * w + 4) / 100))) {am : Int32} (ha : am = if ph = 0 then r (5 + 11 * w + 9) * cmI (r (5 + 11 * w + 7)) / 100 else r (5 + 11 * w + 9)) : upd (upd (tmR r w) (5 + 11 * w + 10) ph) (5 + 11 * w + 9) am = tmR r (w + 1) := by
  funext k
  by_cases hk : k < 5 + 11 * w ∨ 5 + 11 * w + 11 ≤ k
  · rw [tmR_out r hk]
    simp [upd, show k ≠ 5 + 11 * w + 9 by omega, show k ≠ 5 + 11 * w + 10 by omega]
  · obtain ⟨q, hq, e⟩ : ∃ q, q < 11 ∧ k = 5 + 11 * w + q := ⟨k - (5 + 11 * w), by omega, by omega⟩
    subst e
    have e1 : tmR r (w + 1) (5 + 11 * w + q) = tkV (fun q => r (5 + 11 * w + q)) q := by
      unfold tmR
      rw [if_neg (by omega), show (5 + 11 * w + q - 5) / 11 = w by omega, show (5 + 11 * w + q - 5) % 11 = q by omega, if_pos ⟨by omega, by omega, h⟩]
    rw [e1]
    have e2 := tmR_at r hq (Nat.le_refl w)
    unfold tkV
    simp only []
    rw [← hp]
    subst ha
    by_cases h9 : q = 9
    · subst h9
      by_cases hz : ph = 0 <;> simp [upd, hz]
    · by_cases h10 : q = 10
      · subst h10
        by_cases hz : ph = 0 <;> simp [upd, hz]
      · by_cases hz : ph = 0 <;> simp [upd, hz, h9, h10, e2]
theorem tmR_half (r : Nat → Int32) {w : Nat} {ph : Int32} (hp : ¬ ph = 0) : upd (tmR r w) (5 + 11 * w + 10) ph = upd (upd (tmR r w) (5 + 11 * w + 10) ph) (5 + 11 * w + 9) (if ph = 0 then r (5 + 11 * w + 9) * cmI (r (5 + 11 * w + 7)) / 100 else r (5 + 11 * w + 9)) := by
  rw [if_neg hp]
  funext k
  by_cases hk : k = 5 + 11 * w + 9
  · subst hk
    simp [upd, tmR_at r (w := w) (v := w) (q := 9) (by decide) (Nat.le_refl _)]
  · simp [upd, hk]
theorem hgI_1 {r : Nat → Int32} {w : Nat} (h : ¬ hgI r w = 0) : r (5 + 11 * w + 0) = 1 := by
  unfold hgI at h
  by_cases h1 : r (5 + 11 * w + 0) = 1
  · exact h1
  · rw [if_neg h1] at h; exact absurd rfl h
theorem hgI_0 {r : Nat → Int32} {w : Nat} (h : hgI r w = 0) : ¬ r (5 + 11 * w + 0) = 1 := by
  intro h1
  unfold hgI at h
  rw [if_pos h1] at h
  exact absurd h (by decide)
set_option maxHeartbeats 4000000 in
set_option maxRecDepth 100000 in
theorem k_X8_tick (l : Launch) (g : Gf) (n : Nat) (c : Mp) (b : Nat) (kp rs ty pl fa od : Int32) (hm : c b = moC g b kp rs ty pl fa od) (r : Nat → Int32) (hr : c (b + 1) = iaA (g.2.1 0) 204 r) (hq : ∀ w : Nat, w < 4 → r (5 + 11 * w) = 1 → ¬ 4 * (1 + r (5 + 11 * w + 4) / 100) = 0) : Ct l g yX8_tick wsX8_tick 2 43 0 0 [.ref (gz g + b)] n c (Qv g (fun n' c' => n' = n ∧ c' = va_up c (b + 1) (iaA (g.2.1 0) 204 (tmR r 4)))) := by
  refine ent (by decide) rfl (Nat.le_of_ble_eq_true rfl) ?_
  intro p e s m args below meth c0 F h ls hl
  have hx := F.1
  have hb := F.2.1
  have hl : lv_has ls 2 [(0, .ref (gz g + b))] := hl
  refine lv_aload_n hx hb dX8_tick_0 rfl (lv_at hl 0 rfl) ?_
  refine r_get F h (C := RX8) (T := TX8) (N := 13) (hjc hi_X8) rfl hm 0 (by decide) (List.mem_cons_of_mem _ wd_828) rfl dX8_tick_1 ?_
  refine lv_iconst (v := 0) hx hb dX8_tick_4 (by decide) ?_
  refine lv_dup2_11 hx hb dX8_tick_5 rfl rfl ?_
  refine r_ialdN F h (k := 0) hr (rfl) (by decide) (by decide) dX8_tick_6 ?_
  refine lv_iconst (v := 1) hx hb dX8_tick_7 (by decide) ?_
  refine lv_iadd hx hb dX8_tick_8 ?_
  refine r_iastN F h (k := 0) (f' := tmR r 0) hr (rfl) (by decide) (by decide) dX8_tick_9 ((tmR_0 r).symm) (fun H locs h => ?_)
  refine lv_iconst (v := 0) hx hb dX8_tick_10 (by decide) ?_
  refine lv_istore_n (lv' := [(1, .int 0), (0, .ref (gz g + b))]) hx hb dX8_tick_11 rfl hl (by decide) rfl (fun ls hl => ?_)
  have lp : ∀ (k : Nat) (w : Nat) (hw : w ≤ 4) (H : Heap) (locs : List Loc) (ls : Array Slot), (5 - w) ≤ k → Hv g s H locs n (va_up c (b + 1) (some (.inl (g.2.1 0, 204, .inl (tmR r w))))) → lv_has ls 2 [(0, .ref (gz g + b)), (1, .int (nI w))] → W p l e (Rm 2 43 0 0) s m args below meth c0 H locs 0 0 (MQ below (Qv g (fun n' c' => n' = n ∧ c' = va_up c (b + 1) (iaA (g.2.1 0) 204 (tmR r 4)))) args s 0 0 (mAf g)) (F0 m 12 ls []) := by
    intro k
    induction k with
    | zero => intro w hw H locs ls hk h hl; exact absurd hk (by omega)
    | succ k ih =>
      intro w hw H locs ls hk h hl
      refine lv_iload_n hx hb dX8_tick_12 rfl (lv_at hl 1 rfl) ?_
      refine lv_iconst (v := 4) hx hb dX8_tick_13 (by decide) ?_
      refine lv_icmp_ge (tgt := 93) hx hb dX8_tick_14 (by decide) (fun b_14 => ?_) (fun b_14 => ?_)
      · skip
        have e4 : w = 4 := by have := lp_ge (N := 4) rfl (by omega) (by decide) b_14; omega
        subst e4
        exact ret_v F h (Nat.zero_le _) (Nat.zero_le _) dX8_tick_93 (⟨rfl, rfl⟩)
      have hw4 : w < 4 := lp_lt (N := 4) rfl (by omega) (by decide) b_14
      refine lv_aload_n hx hb dX8_tick_17 rfl (lv_at hl 0 rfl) ?_
      refine lv_iload_n hx hb dX8_tick_18 rfl (lv_at hl 1 rfl) ?_
      refine u_iE (v := (hgI (tmR r w) w)) (ru_V (As := [.int (nI w)]) (rest := []) F h ((mu_ne (by omega) _).trans hm) rfl (k_X8_isHung l g n (va_up c (b + 1) (some (.inl (g.2.1 0, 204, .inl (tmR r w))))) b kp rs ty pl fa od ((mu_ne (by omega) _).trans hm) (tmR r w) (mu_eq _ _ _) w (by omega)) (gV hjl wd_924 wd_926 wd_22 wd_58 wd_927) rfl 1 (by decide +kernel) rfl ⟨Nat.le_of_ble_eq_true rfl, Nat.le_of_ble_eq_true rfl⟩ rfl hl.1 (Nat.le_of_ble_eq_true rfl) ⟨Nat.zero_le _, Nat.zero_le _⟩ dX8_tick_19) h (fun H locs h => ?_)
      refine lv_if_eq (tgt := 87) hx hb dX8_tick_22 (by decide) (fun b_22 => ?_) (fun b_22 => ?_)
      · skip
        refine r_mem (c1 := (va_up c (b + 1) (iaA (g.2.1 0) 204 (tmR r (w + 1))))) h (by rw [tmR_same r (fun z => hgI_0 b_22 ((tmR_at r (w := w) (v := w) (q := 0) (by decide) (Nat.le_refl _)).trans z))]) (fun h => ?_)
        refine lv_iinc (v := nI (w + 1)) (lv' := [(1, .int (nI (w + 1))), (0, .ref (gz g + b))]) hx hb dX8_tick_87 hl (k := 1) rfl (by exact (nI_succ w).symm) (by decide) rfl (fun ls hl => ?_)
        refine lv_goto (tgt := 12) hx hb dX8_tick_90 (by decide) ?_
        exact ih (w + 1) (by omega) _ _ _ (by omega) h (lv_sub hl [1, 0] rfl)
      have b22 : r (5 + 11 * w) = 1 := (tmR_at r (w := w) (v := w) (q := 0) (by decide) (Nat.le_refl _)).symm.trans (hgI_1 b_22)
      refine lv_aload_n hx hb dX8_tick_25 rfl (lv_at hl 0 rfl) ?_
      refine lv_iload_n hx hb dX8_tick_26 rfl (lv_at hl 1 rfl) ?_
      refine lv_bipush (v := 10) hx hb dX8_tick_27 (by decide) ?_
      refine lv_aload_n hx hb dX8_tick_29 rfl (lv_at hl 0 rfl) ?_
      refine lv_iload_n hx hb dX8_tick_30 rfl (lv_at hl 1 rfl) ?_
      refine lv_bipush (v := 10) hx hb dX8_tick_31 (by decide) ?_
      refine u_iE (v := ((tmR r w) (5 + 11 * w + 10))) (ru_V (As := [.int (nI w), .int 10]) (rest := [.int 10, .int (nI w), .ref (gz g + b)]) F h ((mu_ne (by omega) _).trans hm) rfl (k_X8_of l g n (va_up c (b + 1) (some (.inl (g.2.1 0, 204, .inl (tmR r w))))) b kp rs ty pl fa od ((mu_ne (by omega) _).trans hm) (tmR r w) (mu_eq _ _ _) w 10 (by omega) (by decide)) (gV hjl wd_916 wd_918 wd_21 wd_58 wd_919) rfl 2 (by decide +kernel) rfl ⟨Nat.le_of_ble_eq_true rfl, Nat.le_of_ble_eq_true rfl⟩ rfl hl.1 (Nat.le_of_ble_eq_true rfl) ⟨Nat.zero_le _, Nat.zero_le _⟩ dX8_tick_33) h (fun H locs h => ?_)
      refine r_top (w := .int (r (5 + 11 * w + 10))) (congrArg Value.int (tmR_at r (w := w) (v := w) (q := 10) (by decide) (Nat.le_refl _))) ?_
      refine lv_iconst (v := 1) hx hb dX8_tick_36 (by decide) ?_
      refine lv_iadd hx hb dX8_tick_37 ?_
      refine lv_iconst (v := 4) hx hb dX8_tick_38 (by decide) ?_
      refine lv_aload_n hx hb dX8_tick_39 rfl (lv_at hl 0 rfl) ?_
      refine lv_iload_n hx hb dX8_tick_40 rfl (lv_at hl 1 rfl) ?_
      refine u_iE (v := (1 + (tmR r w) (5 + 11 * w + 4) / 100)) (ru_V (As := [.int (nI w)]) (rest := [.int 4, .int (r (5 + 11 * w + 10) + 1), .int 10, .int (nI w), .ref (gz g + b)]) F h ((mu_ne (by omega) _).trans hm) rfl (k_X8_quarter l g n (va_up c (b + 1) (some (.inl (g.2.1 0, 204, .inl (tmR r w))))) b kp rs ty pl fa od ((mu_ne (by omega) _).trans hm) (tmR r w) (mu_eq _ _ _) w (by omega)) (gV hjl wd_952 wd_954 wd_25 wd_58 wd_955) rfl 1 (by decide +kernel) rfl ⟨Nat.le_of_ble_eq_true rfl, Nat.le_of_ble_eq_true rfl⟩ rfl hl.1 (Nat.le_of_ble_eq_true rfl) ⟨Nat.zero_le _, Nat.zero_le _⟩ dX8_tick_41) h (fun H locs h => ?_)
      refine r_top (w := .int (1 + r (5 + 11 * w + 4) / 100)) (congrArg (fun z : Int32 => Value.int (1 + z / 100)) (tmR_at r (w := w) (v := w) (q := 4) (by decide) (Nat.le_refl _))) ?_
      refine lv_imul hx hb dX8_tick_44 ?_
      refine lv_irem hx hb dX8_tick_45 (hq w hw4 b22) ?_
      refine u_vE (ru_V (As := [.int (nI w), .int 10, .int ((r (5 + 11 * w + 10) + 1) - (r (5 + 11 * w + 10) + 1) / (4 * (1 + r (5 + 11 * w + 4) / 100)) * (4 * (1 + r (5 + 11 * w + 4) / 100)))]) (rest := []) F h ((mu_ne (by omega) _).trans hm) rfl (k_X8_put l g n (va_up c (b + 1) (some (.inl (g.2.1 0, 204, .inl (tmR r w))))) b kp rs ty pl fa od ((mu_ne (by omega) _).trans hm) (tmR r w) (mu_eq _ _ _) w 10 (by omega) (by decide) ((r (5 + 11 * w + 10) + 1) - (r (5 + 11 * w + 10) + 1) / (4 * (1 + r (5 + 11 * w + 4) / 100)) * (4 * (1 + r (5 + 11 * w + 4) / 100)))) (gV hjl wd_901 wd_903 wd_18 wd_58 wd_904) rfl 3 (by decide +kernel) rfl ⟨Nat.le_of_ble_eq_true rfl, Nat.le_of_ble_eq_true rfl⟩ rfl hl.1 (Nat.le_of_ble_eq_true rfl) ⟨Nat.zero_le _, Nat.zero_le _⟩ dX8_tick_46) h (fun H locs h => ?_)
      refine r_mem (c1 := (va_up c (b + 1) (some (.inl (g.2.1 0, 204, .inl (upd (tmR r w) (5 + 11 * w + 10) ((r (5 + 11 * w + 10) + 1) - (r (5 + 11 * w + 10) + 1) / (4 * (1 + r (5 + 11 * w + 4) / 100)) * (4 * (1 + r (5 + 11 * w + 4) / 100))))))))) h (mu_uu _ _ _ _) (fun h => ?_)
      refine lv_aload_n hx hb dX8_tick_49 rfl (lv_at hl 0 rfl) ?_
      refine lv_iload_n hx hb dX8_tick_50 rfl (lv_at hl 1 rfl) ?_
      refine lv_bipush (v := 10) hx hb dX8_tick_51 (by decide) ?_
      refine u_iE (v := ((upd (tmR r w) (5 + 11 * w + 10) ((r (5 + 11 * w + 10) + 1) - (r (5 + 11 * w + 10) + 1) / (4 * (1 + r (5 + 11 * w + 4) / 100)) * (4 * (1 + r (5 + 11 * w + 4) / 100)))) (5 + 11 * w + 10))) (ru_V (As := [.int (nI w), .int 10]) (rest := []) F h ((mu_ne (by omega) _).trans hm) rfl (k_X8_of l g n (va_up c (b + 1) (some (.inl (g.2.1 0, 204, .inl (upd (tmR r w) (5 + 11 * w + 10) ((r (5 + 11 * w + 10) + 1) - (r (5 + 11 * w + 10) + 1) / (4 * (1 + r (5 + 11 * w + 4) / 100)) * (4 * (1 + r (5 + 11 * w + 4) / 100)))))))) b kp rs ty pl fa od ((mu_ne (by omega) _).trans hm) (upd (tmR r w) (5 + 11 * w + 10) ((r (5 + 11 * w + 10) + 1) - (r (5 + 11 * w + 10) + 1) / (4 * (1 + r (5 + 11 * w + 4) / 100)) * (4 * (1 + r (5 + 11 * w + 4) / 100)))) (mu_eq _ _ _) w 10 (by omega) (by decide)) (gV hjl wd_916 wd_918 wd_21 wd_58 wd_919) rfl 2 (by decide +kernel) rfl ⟨Nat.le_of_ble_eq_true rfl, Nat.le_of_ble_eq_true rfl⟩ rfl hl.1 (Nat.le_of_ble_eq_true rfl) ⟨Nat.zero_le _, Nat.zero_le _⟩ dX8_tick_53) h (fun H locs h => ?_)
      refine r_top (w := .int ((r (5 + 11 * w + 10) + 1) - (r (5 + 11 * w + 10) + 1) / (4 * (1 + r (5 + 11 * w + 4) / 100)) * (4 * (1 + r (5 + 11 * w + 4) / 100)))) (congrArg Value.int (by simp [upd])) ?_
      refine lv_if_ne (tgt := 87) hx hb dX8_tick_56 (by decide) (fun b_56 => ?_) (fun b_56 => ?_)
      · skip
        have hph := b_56
        refine r_mem (c1 := (va_up c (b + 1) (iaA (g.2.1 0) 204 (tmR r (w + 1))))) h (congrArg (fun z => va_up c (b + 1) (iaA (g.2.1 0) 204 z)) ((tmR_half r hph).trans (tmR_step r b22 rfl rfl))) (fun h => ?_)
        refine lv_iinc (v := nI (w + 1)) (lv' := [(1, .int (nI (w + 1))), (0, .ref (gz g + b))]) hx hb dX8_tick_87 hl (k := 1) rfl (by exact (nI_succ w).symm) (by decide) rfl (fun ls hl => ?_)
        refine lv_goto (tgt := 12) hx hb dX8_tick_90 (by decide) ?_
        exact ih (w + 1) (by omega) _ _ _ (by omega) h (lv_sub hl [1, 0] rfl)
      have hph := b_56
      refine lv_aload_n hx hb dX8_tick_59 rfl (lv_at hl 0 rfl) ?_
      refine lv_iload_n hx hb dX8_tick_60 rfl (lv_at hl 1 rfl) ?_
      refine lv_bipush (v := 9) hx hb dX8_tick_61 (by decide) ?_
      refine lv_aload_n hx hb dX8_tick_63 rfl (lv_at hl 0 rfl) ?_
      refine lv_iload_n hx hb dX8_tick_64 rfl (lv_at hl 1 rfl) ?_
      refine lv_bipush (v := 9) hx hb dX8_tick_65 (by decide) ?_
      refine u_iE (v := ((upd (tmR r w) (5 + 11 * w + 10) ((r (5 + 11 * w + 10) + 1) - (r (5 + 11 * w + 10) + 1) / (4 * (1 + r (5 + 11 * w + 4) / 100)) * (4 * (1 + r (5 + 11 * w + 4) / 100)))) (5 + 11 * w + 9))) (ru_V (As := [.int (nI w), .int 9]) (rest := [.int 9, .int (nI w), .ref (gz g + b)]) F h ((mu_ne (by omega) _).trans hm) rfl (k_X8_of l g n (va_up c (b + 1) (some (.inl (g.2.1 0, 204, .inl (upd (tmR r w) (5 + 11 * w + 10) ((r (5 + 11 * w + 10) + 1) - (r (5 + 11 * w + 10) + 1) / (4 * (1 + r (5 + 11 * w + 4) / 100)) * (4 * (1 + r (5 + 11 * w + 4) / 100)))))))) b kp rs ty pl fa od ((mu_ne (by omega) _).trans hm) (upd (tmR r w) (5 + 11 * w + 10) ((r (5 + 11 * w + 10) + 1) - (r (5 + 11 * w + 10) + 1) / (4 * (1 + r (5 + 11 * w + 4) / 100)) * (4 * (1 + r (5 + 11 * w + 4) / 100)))) (mu_eq _ _ _) w 9 (by omega) (by decide)) (gV hjl wd_916 wd_918 wd_21 wd_58 wd_919) rfl 2 (by decide +kernel) rfl ⟨Nat.le_of_ble_eq_true rfl, Nat.le_of_ble_eq_true rfl⟩ rfl hl.1 (Nat.le_of_ble_eq_true rfl) ⟨Nat.zero_le _, Nat.zero_le _⟩ dX8_tick_67) h (fun H locs h => ?_)
      refine r_top (w := .int (r (5 + 11 * w + 9))) (congrArg Value.int (by have e := tmR_at r (w := w) (v := w) (q := 9) (by decide) (Nat.le_refl _); simp only [upd]; rw [if_neg (by omega)]; exact e)) ?_
      refine lv_aload_n hx hb dX8_tick_70 rfl (lv_at hl 0 rfl) ?_
      refine lv_iload_n hx hb dX8_tick_71 rfl (lv_at hl 1 rfl) ?_
      refine lv_bipush (v := 7) hx hb dX8_tick_72 (by decide) ?_
      refine u_iE (v := ((upd (tmR r w) (5 + 11 * w + 10) ((r (5 + 11 * w + 10) + 1) - (r (5 + 11 * w + 10) + 1) / (4 * (1 + r (5 + 11 * w + 4) / 100)) * (4 * (1 + r (5 + 11 * w + 4) / 100)))) (5 + 11 * w + 7))) (ru_V (As := [.int (nI w), .int 7]) (rest := [.int (r (5 + 11 * w + 9)), .int 9, .int (nI w), .ref (gz g + b)]) F h ((mu_ne (by omega) _).trans hm) rfl (k_X8_of l g n (va_up c (b + 1) (some (.inl (g.2.1 0, 204, .inl (upd (tmR r w) (5 + 11 * w + 10) ((r (5 + 11 * w + 10) + 1) - (r (5 + 11 * w + 10) + 1) / (4 * (1 + r (5 + 11 * w + 4) / 100)) * (4 * (1 + r (5 + 11 * w + 4) / 100)))))))) b kp rs ty pl fa od ((mu_ne (by omega) _).trans hm) (upd (tmR r w) (5 + 11 * w + 10) ((r (5 + 11 * w + 10) + 1) - (r (5 + 11 * w + 10) + 1) / (4 * (1 + r (5 + 11 * w + 4) / 100)) * (4 * (1 + r (5 + 11 * w + 4) / 100)))) (mu_eq _ _ _) w 7 (by omega) (by decide)) (gV hjl wd_916 wd_918 wd_21 wd_58 wd_919) rfl 2 (by decide +kernel) rfl ⟨Nat.le_of_ble_eq_true rfl, Nat.le_of_ble_eq_true rfl⟩ rfl hl.1 (Nat.le_of_ble_eq_true rfl) ⟨Nat.zero_le _, Nat.zero_le _⟩ dX8_tick_74) h (fun H locs h => ?_)
      refine r_top (w := .int (r (5 + 11 * w + 7))) (congrArg Value.int (by have e := tmR_at r (w := w) (v := w) (q := 7) (by decide) (Nat.le_refl _); simp only [upd]; rw [if_neg (by omega)]; exact e)) ?_
      refine u_iE (v := (cmI (r (5 + 11 * w + 7)))) (ru_S (As := [.int (r (5 + 11 * w + 7))]) (rest := [.int (r (5 + 11 * w + 9)), .int 9, .int (nI w), .ref (gz g + b)]) F h (k_X8_calming l g n (va_up c (b + 1) (some (.inl (g.2.1 0, 204, .inl (upd (tmR r w) (5 + 11 * w + 10) ((r (5 + 11 * w + 10) + 1) - (r (5 + 11 * w + 10) + 1) / (4 * (1 + r (5 + 11 * w + 4) / 100)) * (4 * (1 + r (5 + 11 * w + 4) / 100)))))))) (r (5 + 11 * w + 7))) (gS hjl wd_989 wd_990 wd_58 wd_991) rfl 1 (by decide +kernel) rfl ⟨Nat.le_of_ble_eq_true rfl, Nat.le_of_ble_eq_true rfl⟩ rfl hl.1 (Nat.le_of_ble_eq_true rfl) ⟨Nat.zero_le _, Nat.zero_le _⟩ dX8_tick_77) h (fun H locs h => ?_)
      refine lv_imul hx hb dX8_tick_80 ?_
      refine lv_bipush (v := 100) hx hb dX8_tick_81 (by decide) ?_
      refine lv_idiv hx hb dX8_tick_83 (by decide) ?_
      refine u_vE (ru_V (As := [.int (nI w), .int 9, .int ((r (5 + 11 * w + 9) * (cmI (r (5 + 11 * w + 7)))) / 100)]) (rest := []) F h ((mu_ne (by omega) _).trans hm) rfl (k_X8_put l g n (va_up c (b + 1) (some (.inl (g.2.1 0, 204, .inl (upd (tmR r w) (5 + 11 * w + 10) ((r (5 + 11 * w + 10) + 1) - (r (5 + 11 * w + 10) + 1) / (4 * (1 + r (5 + 11 * w + 4) / 100)) * (4 * (1 + r (5 + 11 * w + 4) / 100)))))))) b kp rs ty pl fa od ((mu_ne (by omega) _).trans hm) (upd (tmR r w) (5 + 11 * w + 10) ((r (5 + 11 * w + 10) + 1) - (r (5 + 11 * w + 10) + 1) / (4 * (1 + r (5 + 11 * w + 4) / 100)) * (4 * (1 + r (5 + 11 * w + 4) / 100)))) (mu_eq _ _ _) w 9 (by omega) (by decide) ((r (5 + 11 * w + 9) * (cmI (r (5 + 11 * w + 7)))) / 100)) (gV hjl wd_901 wd_903 wd_18 wd_58 wd_904) rfl 3 (by decide +kernel) rfl ⟨Nat.le_of_ble_eq_true rfl, Nat.le_of_ble_eq_true rfl⟩ rfl hl.1 (Nat.le_of_ble_eq_true rfl) ⟨Nat.zero_le _, Nat.zero_le _⟩ dX8_tick_84) h (fun H locs h => ?_)
      refine r_mem (c1 := (va_up c (b + 1) (some (.inl (g.2.1 0, 204, .inl (upd (upd (tmR r w) (5 + 11 * w + 10) ((r (5 + 11 * w + 10) + 1) - (r (5 + 11 * w + 10) + 1) / (4 * (1 + r (5 + 11 * w + 4) / 100)) * (4 * (1 + r (5 + 11 * w + 4) / 100)))) (5 + 11 * w + 9) ((r (5 + 11 * w + 9) * (cmI (r (5 + 11 * w + 7)))) / 100))))))) h (mu_uu _ _ _ _) (fun h => ?_)
      refine r_mem (c1 := (va_up c (b + 1) (iaA (g.2.1 0) 204 (tmR r (w + 1))))) h (congrArg (fun z => va_up c (b + 1) (iaA (g.2.1 0) 204 z)) (tmR_step r b22 rfl ((if_pos hph).symm))) (fun h => ?_)
      refine lv_iinc (v := nI (w + 1)) (lv' := [(1, .int (nI (w + 1))), (0, .ref (gz g + b))]) hx hb dX8_tick_87 hl (k := 1) rfl (by exact (nI_succ w).symm) (by decide) rfl (fun ls hl => ?_)
      refine lv_goto (tgt := 12) hx hb dX8_tick_90 (by decide) ?_
      exact ih (w + 1) (by omega) _ _ _ (by omega) h (lv_sub hl [1, 0] rfl)
  exact lp _ 0 (Nat.zero_le _) _ _ _ (Nat.le_refl _) h (lv_sub hl [1, 0] rfl)
/-- the history with one more -/
def pushH (h : Nat → Int32) (k0 : Nat) (sc : Nat → Int32) : Nat → Int32 := fb_put (if k0 = 5 then fb_put h (fun q => h (q + 204)) 0 816 else h) sc (204 * (if k0 = 5 then 4 else k0)) 204
def pushK (k0 : Nat) : Nat := if k0 = 5 then 5 else k0 + 1
theorem sh_step (h : Nat → Int32) (k : Nat) : upd (fb_put h (fun q => h (q + 204)) 0 k) k (fb_put h (fun q => h (q + 204)) 0 k (k + 204)) = fb_put h (fun q => h (q + 204)) 0 (k + 1) := by
  have e1 : fb_put h (fun q => h (q + 204)) 0 k (k + 204) = h (k + 204) := fb_put_out (Or.inr (by omega))
  have e2 := fb_put_succ h (fun q => h (q + 204)) 0 k
  rw [Nat.zero_add] at e2
  rw [e1]
  exact e2
set_option maxHeartbeats 4000000 in
set_option maxRecDepth 100000 in
theorem k_X8_done_e (l : Launch) (g : Gf) (n : Nat) (c : Mp) (b : Nat) (k0 : Nat) (hk0 : k0 ≤ 5) (rs ty pl fa od : Int32) (hm : c b = moC g b (nI k0) rs ty pl fa od) (sc : Nat → Int32) (hc2 : c (b + 2) = iaA (g.2.1 0) 204 sc) (hh : Nat → Int32) (hc3 : c (b + 3) = iaA (g.2.1 0) 1020 hh) (y : Int32) (hy : ¬ -100001 < y) : Ct l g yX8_done wsX8_done 0 0 0 0 [.ref (gz g + b), .int y] n c (Qi g (fun xr n' c' => xr = y ∧ n' = n ∧ c' = c)) := by
  refine ent (by decide) rfl (Nat.le_of_ble_eq_true rfl) ?_
  intro p e s m args below meth c0 F h ls hl
  have hx := F.1
  have hb := F.2.1
  have hl : lv_has ls 3 [(0, .ref (gz g + b)), (1, .int y)] := hl
  refine lv_iload_n hx hb dX8_done_0 rfl (lv_at hl 1 rfl) ?_
  refine lv_ldc (v := (-100001)) hx hb F.2.2.2.1 (F.2.2.2.2.1 (Cond.constant RX8 40 (-100001)) (List.mem_cons_of_mem _ wd_880)) dX8_done_1 ?_
  refine lv_icmp_gt (tgt := 8) hx hb dX8_done_3 (by decide) (fun b_3 => by first | exact absurd b_3 (hy) | exact absurd (hy) b_3) (fun b_3 => ?_)
  refine lv_iload_n hx hb dX8_done_6 rfl (lv_at hl 1 rfl) ?_
  exact ret_i F h (Nat.zero_le _) (Nat.zero_le _) dX8_done_7 (⟨rfl, rfl, rfl⟩)
set_option maxHeartbeats 4000000 in
set_option maxRecDepth 100000 in
theorem k_X8_done_a (l : Launch) (g : Gf) (n : Nat) (c : Mp) (b : Nat) (k0 : Nat) (hk0 : k0 ≤ 5) (rs ty pl fa od : Int32) (hm : c b = moC g b (nI k0) rs ty pl fa od) (sc : Nat → Int32) (hc2 : c (b + 2) = iaA (g.2.1 0) 204 sc) (hh : Nat → Int32) (hc3 : c (b + 3) = iaA (g.2.1 0) 1020 hh) (y : Int32) (hy : -100001 < y) : Ct l g yX8_done wsX8_done 0 0 0 0 [.ref (gz g + b), .int y] n c (Qi g (fun x n' c' => x = y ∧ n' = n ∧ c' = va_up (va_up c (b + 3) (iaA (g.2.1 0) 1020 (pushH hh k0 sc))) b (moC g b (nI (pushK k0)) rs ty pl fa od))) := by
  refine ent (by decide) rfl (Nat.le_of_ble_eq_true rfl) ?_
  intro p e s m args below meth c0 F h ls hl
  have hx := F.1
  have hb := F.2.1
  have hl : lv_has ls 3 [(0, .ref (gz g + b)), (1, .int y)] := hl
  refine lv_iload_n hx hb dX8_done_0 rfl (lv_at hl 1 rfl) ?_
  refine lv_ldc (v := (-100001)) hx hb F.2.2.2.1 (F.2.2.2.2.1 (Cond.constant RX8 40 (-100001)) (List.mem_cons_of_mem _ wd_880)) dX8_done_1 ?_
  refine lv_icmp_gt (tgt := 8) hx hb dX8_done_3 (by decide) (fun b_3 => ?_) (fun b_3 => by first | exact absurd (hy) b_3 | exact absurd b_3 (hy))
  refine lv_aload_n hx hb dX8_done_8 rfl (lv_at hl 0 rfl) ?_
  refine r_get F h (C := RX8) (T := TX8) (N := 13) (hjc hi_X8) rfl hm 3 (by decide) (List.mem_cons_of_mem _ wd_831) rfl dX8_done_9 ?_
  refine lv_iconst (v := 5) hx hb dX8_done_12 (by decide) ?_
  refine lv_icmp_ne (tgt := 62) hx hb dX8_done_13 (by decide) (fun b_13 => ?_) (fun b_13 => ?_)
  · skip
    refine lv_iconst (v := 0) hx hb dX8_done_62 (by decide) ?_
    refine lv_istore_n (lv' := [(2, .int 0), (0, .ref (gz g + b)), (1, .int y)]) hx hb dX8_done_63 rfl hl (by decide) rfl (fun ls hl => ?_)
    have e5 : ¬ k0 = 5 := fun z => b_13 (by rw [z]; rfl)
    refine r_mem (c1 := (va_up c (b + 3) (iaA (g.2.1 0) 1020 (fb_put hh sc (204 * k0) 0)))) h (by rw [fb_put_0]; exact (mu_self hc3).symm) (fun h => ?_)
    have lq : ∀ (k : Nat) (k1 : Nat) (hw : k1 ≤ 204) (H : Heap) (locs : List Loc) (ls : Array Slot), (205 - k1) ≤ k → Hv g s H locs n (va_up c (b + 3) (some (.inl (g.2.1 0, 1020, .inl (fb_put hh sc (204 * k0) k1))))) → lv_has ls 3 [(0, .ref (gz g + b)), (1, .int y), (2, .int (nI k1))] → W p l e (Rm 0 0 0 0) s m args below meth c0 H locs 0 0 (MQ below (Qi g (fun x n' c' => x = y ∧ n' = n ∧ c' = va_up (va_up c (b + 3) (iaA (g.2.1 0) 1020 (pushH hh k0 sc))) b (moC g b (nI (pushK k0)) rs ty pl fa od))) args s 0 0 (mAf g)) (F0 m 64 ls []) := by
      intro k
      induction k with
      | zero => intro k1 hw H locs ls hk h hl; exact absurd hk (by omega)
      | succ k ih =>
        intro k1 hw H locs ls hk h hl
        refine lv_iload_n hx hb dX8_done_64 rfl (lv_at hl 2 rfl) ?_
        refine lv_sipush (v := 204) hx hb dX8_done_65 (by decide) ?_
        refine lv_icmp_ge (tgt := 98) hx hb dX8_done_68 (by decide) (fun b_68 => ?_) (fun b_68 => ?_)
        · skip
          have e204 : k1 = 204 := by have := lp_ge (N := 204) rfl (by omega) (by decide) b_68; omega
          subst e204
          refine lv_aload_n hx hb dX8_done_98 rfl (lv_at hl 0 rfl) ?_
          refine lv_dup hx hb dX8_done_99 rfl ?_
          refine r_get F h (C := RX8) (T := TX8) (N := 13) (hjc hi_X8) rfl ((mu_ne (by omega) _).trans hm) 3 (by decide) (List.mem_cons_of_mem _ wd_831) rfl dX8_done_100 ?_
          refine lv_iconst (v := 1) hx hb dX8_done_103 (by decide) ?_
          refine lv_iadd hx hb dX8_done_104 ?_
          refine r_top (w := .int (nI (k0 + 1))) (congrArg Value.int (nI_succ k0).symm) ?_
          refine r_put F h (C := RX8) (T := TX8) (N := 13) (fs' := [.ref (gz g + (b + 1)), .ref (gz g + (b + 2)), .ref (gz g + (b + 3)), .int (nI (k0 + 1)), .ref (gz g + (b + 4)), .ref (gz g + (b + 5)), .int rs, .int ty, .ref (gz g + (b + 6)), .int pl, .int fa, .int od, .ref (gz g + (b + 7))]) (hjc hi_X8) tyX8 tyX8_ok nmX8 rfl ((mu_ne (by omega) _).trans hm) 3 (by decide) (List.mem_cons_of_mem _ wd_831) rfl (rfl) (rfl) (Nat.le_of_ble_eq_true rfl) rfl dX8_done_105 (fun H locs h => ?_)
          refine lv_iload_n hx hb dX8_done_108 rfl (lv_at hl 1 rfl) ?_
          exact ret_i F h (Nat.zero_le _) (Nat.zero_le _) dX8_done_109 (⟨rfl, rfl, by simp only [pushH, pushK, if_neg e5]⟩)
        have hw4 : k1 < 204 := lp_lt (N := 204) rfl (by omega) (by decide) b_68
        refine lv_aload_n hx hb dX8_done_71 rfl (lv_at hl 0 rfl) ?_
        refine r_get F h (C := RX8) (T := TX8) (N := 13) (hjc hi_X8) rfl ((mu_ne (by omega) _).trans hm) 2 (by decide) (List.mem_cons_of_mem _ wd_830) rfl dX8_done_72 ?_
        refine lv_sipush (v := 204) hx hb dX8_done_75 (by decide) ?_
        refine lv_aload_n hx hb dX8_done_78 rfl (lv_at hl 0 rfl) ?_
        refine r_get F h (C := RX8) (T := TX8) (N := 13) (hjc hi_X8) rfl ((mu_ne (by omega) _).trans hm) 3 (by decide) (List.mem_cons_of_mem _ wd_831) rfl dX8_done_79 ?_
        refine lv_imul hx hb dX8_done_82 ?_
        refine lv_iload_n hx hb dX8_done_83 rfl (lv_at hl 2 rfl) ?_
        refine lv_iadd hx hb dX8_done_84 ?_
        refine lv_aload_n hx hb dX8_done_85 rfl (lv_at hl 0 rfl) ?_
        refine r_get F h (C := RX8) (T := TX8) (N := 13) (hjc hi_X8) rfl ((mu_ne (by omega) _).trans hm) 1 (by decide) (List.mem_cons_of_mem _ wd_829) rfl dX8_done_86 ?_
        refine lv_iload_n hx hb dX8_done_89 rfl (lv_at hl 2 rfl) ?_
        refine r_ialdN F h (k := k1) ((mu_ne (by omega) _).trans hc2) (rfl) (by omega) (by decide) dX8_done_90 ?_
        refine r_iastN F h (k := 204 * k0 + k1) (f' := fb_put hh sc (204 * k0) (k1 + 1)) (mu_eq _ _ _) (by simp only [fa_lit, pk_mul, nI_add]; first | done | (refine congrArg nI ?_; omega)) (by omega) (by decide) dX8_done_91 (fb_put_succ hh sc (204 * k0) k1) (fun H locs h => ?_)
        refine r_mem (c1 := (va_up c (b + 3) (some (.inl (g.2.1 0, 1020, .inl (fb_put hh sc (204 * k0) (k1 + 1))))))) h (mu_uu _ _ _ _) (fun h => ?_)
        refine lv_iinc (v := nI (k1 + 1)) (lv' := [(2, .int (nI (k1 + 1))), (0, .ref (gz g + b)), (1, .int y)]) hx hb dX8_done_92 hl (k := 2) rfl (by exact (nI_succ k1).symm) (by decide) rfl (fun ls hl => ?_)
        refine lv_goto (tgt := 64) hx hb dX8_done_95 (by decide) ?_
        exact ih (k1 + 1) (by omega) _ _ _ (by omega) h (lv_sub hl [1, 2, 0] rfl)
    exact lq _ 0 (Nat.zero_le _) _ _ _ (Nat.le_refl _) h (lv_sub hl [1, 2, 0] rfl)
  have e5 : k0 = 5 := by have z : nI k0 = nI 5 := b_13; exact (nI_eq (by omega) (by decide)).mp z
  refine lv_aload_n hx hb dX8_done_16 rfl (lv_at hl 0 rfl) ?_
  refine lv_dup hx hb dX8_done_17 rfl ?_
  refine r_get F h (C := RX8) (T := TX8) (N := 13) (hjc hi_X8) rfl hm 3 (by decide) (List.mem_cons_of_mem _ wd_831) rfl dX8_done_18 ?_
  refine lv_iconst (v := 1) hx hb dX8_done_21 (by decide) ?_
  refine lv_isub hx hb dX8_done_22 ?_
  refine r_top (w := .int (nI 4)) (congrArg Value.int (by rw [e5]; rfl)) ?_
  refine r_put F h (C := RX8) (T := TX8) (N := 13) (fs' := [.ref (gz g + (b + 1)), .ref (gz g + (b + 2)), .ref (gz g + (b + 3)), .int (nI 4), .ref (gz g + (b + 4)), .ref (gz g + (b + 5)), .int rs, .int ty, .ref (gz g + (b + 6)), .int pl, .int fa, .int od, .ref (gz g + (b + 7))]) (hjc hi_X8) tyX8 tyX8_ok nmX8 rfl hm 3 (by decide) (List.mem_cons_of_mem _ wd_831) rfl (rfl) (rfl) (Nat.le_of_ble_eq_true rfl) rfl dX8_done_23 (fun H locs h => ?_)
  refine lv_iconst (v := 0) hx hb dX8_done_26 (by decide) ?_
  refine lv_istore_n (lv' := [(2, .int 0), (0, .ref (gz g + b)), (1, .int y)]) hx hb dX8_done_27 rfl hl (by decide) rfl (fun ls hl => ?_)
  refine r_mem (c1 := (va_up (va_up c b (moC g b (nI 4) rs ty pl fa od)) (b + 3) (iaA (g.2.1 0) 1020 (fb_put hh (fun q => hh (q + 204)) 0 0)))) h (by rw [fb_put_0]; exact (mu_self ((mu_ne (by omega) _).trans hc3)).symm) (fun h => ?_)
  have lp : ∀ (k : Nat) (k1 : Nat) (hw : k1 ≤ 816) (H : Heap) (locs : List Loc) (ls : Array Slot), (817 - k1) ≤ k → Hv g s H locs n (va_up (va_up c b (some (.inr (8, [.ref (gz g + (b + 1)), .ref (gz g + (b + 2)), .ref (gz g + (b + 3)), .int (nI 4), .ref (gz g + (b + 4)), .ref (gz g + (b + 5)), .int rs, .int ty, .ref (gz g + (b + 6)), .int pl, .int fa, .int od, .ref (gz g + (b + 7))])))) (b + 3) (some (.inl (g.2.1 0, 1020, .inl (fb_put hh (fun q => hh (q + 204)) 0 k1))))) → lv_has ls 3 [(0, .ref (gz g + b)), (1, .int y), (2, .int (nI k1))] → W p l e (Rm 0 0 0 0) s m args below meth c0 H locs 0 0 (MQ below (Qi g (fun x n' c' => x = y ∧ n' = n ∧ c' = va_up (va_up c (b + 3) (iaA (g.2.1 0) 1020 (pushH hh k0 sc))) b (moC g b (nI (pushK k0)) rs ty pl fa od))) args s 0 0 (mAf g)) (F0 m 28 ls []) := by
    intro k
    induction k with
    | zero => intro k1 hw H locs ls hk h hl; exact absurd hk (by omega)
    | succ k ih =>
      intro k1 hw H locs ls hk h hl
      refine lv_iload_n hx hb dX8_done_28 rfl (lv_at hl 2 rfl) ?_
      refine lv_sipush (v := 204) hx hb dX8_done_29 (by decide) ?_
      refine lv_aload_n hx hb dX8_done_32 rfl (lv_at hl 0 rfl) ?_
      refine r_get F h (C := RX8) (T := TX8) (N := 13) (hjc hi_X8) rfl ((mu_ne (by omega) _).trans (mu_eq _ _ _)) 3 (by decide) (List.mem_cons_of_mem _ wd_831) rfl dX8_done_33 ?_
      refine lv_imul hx hb dX8_done_36 ?_
      refine lv_icmp_ge (tgt := 62) hx hb dX8_done_37 (by decide) (fun b_37 => ?_) (fun b_37 => ?_)
      · skip
        refine lv_iconst (v := 0) hx hb dX8_done_62 (by decide) ?_
        refine lv_istore_n (lv' := [(2, .int 0), (0, .ref (gz g + b)), (1, .int y)]) hx hb dX8_done_63 rfl hl (by decide) rfl (fun ls hl => ?_)
        have e816 : k1 = 816 := by have := lp_ge (N := 816) (by simp only [fa_lit, pk_mul]) (by omega) (by decide) b_37; omega
        refine r_mem (c1 := (va_up (va_up c b (moC g b (nI 4) rs ty pl fa od)) (b + 3) (iaA (g.2.1 0) 1020 (fb_put (fb_put hh (fun q => hh (q + 204)) 0 816) sc 816 0)))) h (by rw [fb_put_0, e816]) (fun h => ?_)
        have lq : ∀ (k : Nat) (k1 : Nat) (hw : k1 ≤ 204) (H : Heap) (locs : List Loc) (ls : Array Slot), (205 - k1) ≤ k → Hv g s H locs n (va_up (va_up c b (some (.inr (8, [.ref (gz g + (b + 1)), .ref (gz g + (b + 2)), .ref (gz g + (b + 3)), .int (nI 4), .ref (gz g + (b + 4)), .ref (gz g + (b + 5)), .int rs, .int ty, .ref (gz g + (b + 6)), .int pl, .int fa, .int od, .ref (gz g + (b + 7))])))) (b + 3) (some (.inl (g.2.1 0, 1020, .inl (fb_put (fb_put hh (fun q => hh (q + 204)) 0 816) sc (816) k1))))) → lv_has ls 3 [(0, .ref (gz g + b)), (1, .int y), (2, .int (nI k1))] → W p l e (Rm 0 0 0 0) s m args below meth c0 H locs 0 0 (MQ below (Qi g (fun x n' c' => x = y ∧ n' = n ∧ c' = va_up (va_up c (b + 3) (iaA (g.2.1 0) 1020 (pushH hh k0 sc))) b (moC g b (nI (pushK k0)) rs ty pl fa od))) args s 0 0 (mAf g)) (F0 m 64 ls []) := by
          intro k
          induction k with
          | zero => intro k1 hw H locs ls hk h hl; exact absurd hk (by omega)
          | succ k ih =>
            intro k1 hw H locs ls hk h hl
            refine lv_iload_n hx hb dX8_done_64 rfl (lv_at hl 2 rfl) ?_
            refine lv_sipush (v := 204) hx hb dX8_done_65 (by decide) ?_
            refine lv_icmp_ge (tgt := 98) hx hb dX8_done_68 (by decide) (fun b_68 => ?_) (fun b_68 => ?_)
            · skip
              have e204 : k1 = 204 := by have := lp_ge (N := 204) rfl (by omega) (by decide) b_68; omega
              subst e204
              refine lv_aload_n hx hb dX8_done_98 rfl (lv_at hl 0 rfl) ?_
              refine lv_dup hx hb dX8_done_99 rfl ?_
              refine r_get F h (C := RX8) (T := TX8) (N := 13) (hjc hi_X8) rfl ((mu_ne (by omega) _).trans (mu_eq _ _ _)) 3 (by decide) (List.mem_cons_of_mem _ wd_831) rfl dX8_done_100 ?_
              refine lv_iconst (v := 1) hx hb dX8_done_103 (by decide) ?_
              refine lv_iadd hx hb dX8_done_104 ?_
              refine r_top (w := .int (nI 5)) (rfl) ?_
              refine r_put F h (C := RX8) (T := TX8) (N := 13) (fs' := [.ref (gz g + (b + 1)), .ref (gz g + (b + 2)), .ref (gz g + (b + 3)), .int (nI 5), .ref (gz g + (b + 4)), .ref (gz g + (b + 5)), .int rs, .int ty, .ref (gz g + (b + 6)), .int pl, .int fa, .int od, .ref (gz g + (b + 7))]) (hjc hi_X8) tyX8 tyX8_ok nmX8 rfl ((mu_ne (by omega) _).trans (mu_eq _ _ _)) 3 (by decide) (List.mem_cons_of_mem _ wd_831) rfl (rfl) (rfl) (Nat.le_of_ble_eq_true rfl) rfl dX8_done_105 (fun H locs h => ?_)
              refine r_mem (c1 := (va_up (va_up c b (some (.inr (8, [.ref (gz g + (b + 1)), .ref (gz g + (b + 2)), .ref (gz g + (b + 3)), .int (nI 5), .ref (gz g + (b + 4)), .ref (gz g + (b + 5)), .int rs, .int ty, .ref (gz g + (b + 6)), .int pl, .int fa, .int od, .ref (gz g + (b + 7))])))) (b + 3) (some (.inl (g.2.1 0, 1020, .inl (fb_put (fb_put hh (fun q => hh (q + 204)) 0 816) sc (816) 204)))))) h ((mu_comm (by omega) _ _).trans (congrArg (fun z : Mp => va_up z (b + 3) _) (mu_uu _ _ _ _))) (fun h => ?_)
              refine lv_iload_n hx hb dX8_done_108 rfl (lv_at hl 1 rfl) ?_
              exact ret_i F h (Nat.zero_le _) (Nat.zero_le _) dX8_done_109 (⟨rfl, rfl, by rw [mu_comm (show b ≠ b + 3 by omega)]; simp only [pushH, pushK, if_pos e5]⟩)
            have hw4 : k1 < 204 := lp_lt (N := 204) rfl (by omega) (by decide) b_68
            refine lv_aload_n hx hb dX8_done_71 rfl (lv_at hl 0 rfl) ?_
            refine r_get F h (C := RX8) (T := TX8) (N := 13) (hjc hi_X8) rfl ((mu_ne (by omega) _).trans (mu_eq _ _ _)) 2 (by decide) (List.mem_cons_of_mem _ wd_830) rfl dX8_done_72 ?_
            refine lv_sipush (v := 204) hx hb dX8_done_75 (by decide) ?_
            refine lv_aload_n hx hb dX8_done_78 rfl (lv_at hl 0 rfl) ?_
            refine r_get F h (C := RX8) (T := TX8) (N := 13) (hjc hi_X8) rfl ((mu_ne (by omega) _).trans (mu_eq _ _ _)) 3 (by decide) (List.mem_cons_of_mem _ wd_831) rfl dX8_done_79 ?_
            refine lv_imul hx hb dX8_done_82 ?_
            refine lv_iload_n hx hb dX8_done_83 rfl (lv_at hl 2 rfl) ?_
            refine lv_iadd hx hb dX8_done_84 ?_
            refine lv_aload_n hx hb dX8_done_85 rfl (lv_at hl 0 rfl) ?_
            refine r_get F h (C := RX8) (T := TX8) (N := 13) (hjc hi_X8) rfl ((mu_ne (by omega) _).trans (mu_eq _ _ _)) 1 (by decide) (List.mem_cons_of_mem _ wd_829) rfl dX8_done_86 ?_
            refine lv_iload_n hx hb dX8_done_89 rfl (lv_at hl 2 rfl) ?_
            refine r_ialdN F h (k := k1) ((mu_ne (by omega) _).trans ((mu_ne (by omega) _).trans hc2)) (rfl) (by omega) (by decide) dX8_done_90 ?_
            refine r_iastN F h (k := 816 + k1) (f' := fb_put (fb_put hh (fun q => hh (q + 204)) 0 816) sc (816) (k1 + 1)) (mu_eq _ _ _) (by simp only [fa_lit, pk_mul, nI_add]; first | done | (refine congrArg nI ?_; omega)) (by omega) (by decide) dX8_done_91 (fb_put_succ (fb_put hh (fun q => hh (q + 204)) 0 816) sc (816) k1) (fun H locs h => ?_)
            refine r_mem (c1 := (va_up (va_up c b (some (.inr (8, [.ref (gz g + (b + 1)), .ref (gz g + (b + 2)), .ref (gz g + (b + 3)), .int (nI 4), .ref (gz g + (b + 4)), .ref (gz g + (b + 5)), .int rs, .int ty, .ref (gz g + (b + 6)), .int pl, .int fa, .int od, .ref (gz g + (b + 7))])))) (b + 3) (some (.inl (g.2.1 0, 1020, .inl (fb_put (fb_put hh (fun q => hh (q + 204)) 0 816) sc (816) (k1 + 1))))))) h (mu_uu _ _ _ _) (fun h => ?_)
            refine lv_iinc (v := nI (k1 + 1)) (lv' := [(2, .int (nI (k1 + 1))), (0, .ref (gz g + b)), (1, .int y)]) hx hb dX8_done_92 hl (k := 2) rfl (by exact (nI_succ k1).symm) (by decide) rfl (fun ls hl => ?_)
            refine lv_goto (tgt := 64) hx hb dX8_done_95 (by decide) ?_
            exact ih (k1 + 1) (by omega) _ _ _ (by omega) h (lv_sub hl [1, 2, 0] rfl)
        exact lq _ 0 (Nat.zero_le _) _ _ _ (Nat.le_refl _) h (lv_sub hl [1, 2, 0] rfl)
      have hw4 : k1 < 816 := lp_lt (N := 816) (by simp only [fa_lit, pk_mul]) (by omega) (by decide) b_37
      refine lv_aload_n hx hb dX8_done_40 rfl (lv_at hl 0 rfl) ?_
      refine r_get F h (C := RX8) (T := TX8) (N := 13) (hjc hi_X8) rfl ((mu_ne (by omega) _).trans (mu_eq _ _ _)) 2 (by decide) (List.mem_cons_of_mem _ wd_830) rfl dX8_done_41 ?_
      refine lv_iload_n hx hb dX8_done_44 rfl (lv_at hl 2 rfl) ?_
      refine lv_aload_n hx hb dX8_done_45 rfl (lv_at hl 0 rfl) ?_
      refine r_get F h (C := RX8) (T := TX8) (N := 13) (hjc hi_X8) rfl ((mu_ne (by omega) _).trans (mu_eq _ _ _)) 2 (by decide) (List.mem_cons_of_mem _ wd_830) rfl dX8_done_46 ?_
      refine lv_iload_n hx hb dX8_done_49 rfl (lv_at hl 2 rfl) ?_
      refine lv_sipush (v := 204) hx hb dX8_done_50 (by decide) ?_
      refine lv_iadd hx hb dX8_done_53 ?_
      refine r_ialdN F h (k := k1 + 204) (mu_eq _ _ _) (by simp only [fa_lit, pk_mul, nI_add]; first | done | (refine congrArg nI ?_; omega)) (by omega) (by decide) dX8_done_54 ?_
      refine r_iastN F h (k := k1) (f' := fb_put hh (fun q => hh (q + 204)) 0 (k1 + 1)) (mu_eq _ _ _) (rfl) (by omega) (by decide) dX8_done_55 (sh_step hh k1) (fun H locs h => ?_)
      refine r_mem (c1 := (va_up (va_up c b (some (.inr (8, [.ref (gz g + (b + 1)), .ref (gz g + (b + 2)), .ref (gz g + (b + 3)), .int (nI 4), .ref (gz g + (b + 4)), .ref (gz g + (b + 5)), .int rs, .int ty, .ref (gz g + (b + 6)), .int pl, .int fa, .int od, .ref (gz g + (b + 7))])))) (b + 3) (some (.inl (g.2.1 0, 1020, .inl (fb_put hh (fun q => hh (q + 204)) 0 (k1 + 1))))))) h (mu_uu _ _ _ _) (fun h => ?_)
      refine lv_iinc (v := nI (k1 + 1)) (lv' := [(2, .int (nI (k1 + 1))), (0, .ref (gz g + b)), (1, .int y)]) hx hb dX8_done_56 hl (k := 2) rfl (by exact (nI_succ k1).symm) (by decide) rfl (fun ls hl => ?_)
      refine lv_goto (tgt := 28) hx hb dX8_done_59 (by decide) ?_
      exact ih (k1 + 1) (by omega) _ _ _ (by omega) h (lv_sub hl [1, 2, 0] rfl)
  exact lp _ 0 (Nat.zero_le _) _ _ _ (Nat.le_refl _) h (lv_sub hl [1, 2, 0] rfl)
