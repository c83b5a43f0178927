/-! The reference: ticks, the history. -/
/-- one wire of the reference behind a tick -/
def tkV (f : Nat → Int32) : Nat → Int32 :=
  let ph := (f 10 + 1) - (f 10 + 1) / (4 * (1 + f 4 / 100)) * (4 * (1 + f 4 / 100))
  if ph = 0 then upd (upd f 10 ph) 9 (f 9 * cmI (f 7) / 100) else upd f 10 ph
/-- the reference's row behind a tick, the first wires done -/
def tmR (r : Nat → Int32) (w : Nat) : Nat → Int32 := fun k => if k = 0 then r 0 + 1 else if 5 ≤ k ∧ k < 5 + 11 * w ∧ r (5 + 11 * ((k - 5) / 11)) = 1 then tkV (fun q => r (5 + 11 * ((k - 5) / 11) + q)) ((k - 5) % 11) else r k
theorem tmR_0 (r : Nat → Int32) : tmR r 0 = upd r 0 (r 0 + 1) := by
  funext k
  unfold tmR upd
  by_cases h0 : k = 0
  · rw [if_pos h0, if_pos h0]
  · rw [if_neg h0, if_neg h0, if_neg (fun z => by omega)]
theorem tmR_at (r : Nat → Int32) {w v q : Nat} (hq : q < 11) (hv : w ≤ v) : tmR r w (5 + 11 * v + q) = r (5 + 11 * v + q) := by
  unfold tmR
  rw [if_neg (by omega), if_neg (fun z => by omega)]
theorem tmR_out (r : Nat → Int32) {w k : Nat} (h : k < 5 + 11 * w ∨ 5 + 11 * w + 11 ≤ k) : tmR r (w + 1) k = tmR r w k := by
  unfold tmR
  by_cases h0 : k = 0
  · rw [if_pos h0, if_pos h0]
  · rw [if_neg h0, if_neg h0]
    by_cases h1 : 5 ≤ k ∧ k < 5 + 11 * w ∧ r (5 + 11 * ((k - 5) / 11)) = 1
    · rw [if_pos h1, if_pos ⟨h1.1, by omega, h1.2.2⟩]
    · rw [if_neg h1, if_neg (fun z => h1 ⟨z.1, by omega, z.2.2⟩)]
theorem tmR_same (r : Nat → Int32) {w : Nat} (h : ¬ r (5 + 11 * w) = 1) : tmR r (w + 1) = tmR r w := by
  funext k
  by_cases hk : k < 5 + 11 * w ∨ 5 + 11 * w + 11 ≤ k
  · exact tmR_out r hk
  · obtain ⟨q, hq, e⟩ : ∃ q, q < 11 ∧ k = 5 + 11 * w + q := ⟨k - (5 + 11 * w), by omega, by omega⟩
    subst e
    rw [tmR_at r hq (Nat.le_refl _)]
    unfold tmR
    rw [if_neg (by omega), show (5 + 11 * w + q - 5) / 11 = w by omega, if_neg (fun z => h z.2.2)]
theorem tmR_step (r : Nat → Int32) {w : Nat} (h : r (5 + 11 * w) = 1) {ph : Int32} (hp : ph = (r (5 + 11 * w + 10) + 1) - (r (5 + 11 * w + 10) + 1) / (4 * (1 + r (5 + 11 * w + 4) / 100)) * (4 * (1 + r (5 + 11 * w + 4) / 100))) {am : Int32} (ha : am = if ph = 0 then r (5 + 11 * w + 9) * cmI (r (5 + 11 * w + 7)) / 100 else r (5 + 11 * w + 9)) : upd (upd (tmR r w) (5 + 11 * w + 10) ph) (5 + 11 * w + 9) am = tmR r (w + 1) := by
  funext k
  by_cases hk : k < 5 + 11 * w ∨ 5 + 11 * w + 11 ≤ k
  · rw [tmR_out r hk]
    simp [upd, show k ≠ 5 + 11 * w + 9 by omega, show k ≠ 5 + 11 * w + 10 by omega]
  · obtain ⟨q, hq, e⟩ : ∃ q, q < 11 ∧ k = 5 + 11 * w + q := ⟨k - (5 + 11 * w), by omega, by omega⟩
    subst e
    have e1 : tmR r (w + 1) (5 + 11 * w + q) = tkV (fun q => r (5 + 11 * w + q)) q := by
      unfold tmR
      rw [if_neg (by omega), show (5 + 11 * w + q - 5) / 11 = w by omega, show (5 + 11 * w + q - 5) % 11 = q by omega, if_pos ⟨by omega, by omega, h⟩]
    rw [e1]
    have e2 := tmR_at r hq (Nat.le_refl w)
    unfold tkV
    simp only []
    rw [← hp]
    subst ha
    by_cases h9 : q = 9
    · subst h9
      by_cases hz : ph = 0 <;> simp [upd, hz]
    · by_cases h10 : q = 10
      · subst h10
        by_cases hz : ph = 0 <;> simp [upd, hz]
      · by_cases hz : ph = 0 <;> simp [upd, hz, h9, h10, e2]
theorem tmR_half (r : Nat → Int32) {w : Nat} {ph : Int32} (hp : ¬ ph = 0) : upd (tmR r w) (5 + 11 * w + 10) ph = upd (upd (tmR r w) (5 + 11 * w + 10) ph) (5 + 11 * w + 9) (if ph = 0 then r (5 + 11 * w + 9) * cmI (r (5 + 11 * w + 7)) / 100 else r (5 + 11 * w + 9)) := by
  rw [if_neg hp]
  funext k
  by_cases hk : k = 5 + 11 * w + 9
  · subst hk
    simp [upd, tmR_at r (w := w) (v := w) (q := 9) (by decide) (Nat.le_refl _)]
  · simp [upd, hk]
theorem hgI_1 {r : Nat → Int32} {w : Nat} (h : ¬ hgI r w = 0) : r (5 + 11 * w + 0) = 1 := by
  unfold hgI at h
  by_cases h1 : r (5 + 11 * w + 0) = 1
  · exact h1
  · rw [if_neg h1] at h; exact absurd rfl h
theorem hgI_0 {r : Nat → Int32} {w : Nat} (h : hgI r w = 0) : ¬ r (5 + 11 * w + 0) = 1 := by
  intro h1
  unfold hgI at h
  rw [if_pos h1] at h
  exact absurd h (by decide)
/-- the history with one more -/
def pushH (h : Nat → Int32) (k0 : Nat) (sc : Nat → Int32) : Nat → Int32 := fb_put (if k0 = 5 then fb_put h (fun q => h (q + 204)) 0 816 else h) sc (204 * (if k0 = 5 then 4 else k0)) 204
def pushK (k0 : Nat) : Nat := if k0 = 5 then 5 else k0 + 1
theorem sh_step (h : Nat → Int32) (k : Nat) : upd (fb_put h (fun q => h (q + 204)) 0 k) k (fb_put h (fun q => h (q + 204)) 0 k (k + 204)) = fb_put h (fun q => h (q + 204)) 0 (k + 1) := by
  have e1 : fb_put h (fun q => h (q + 204)) 0 k (k + 204) = h (k + 204) := fb_put_out (Or.inr (by omega))
  have e2 := fb_put_succ h (fun q => h (q + 204)) 0 k
  rw [Nat.zero_add] at e2
  rw [e1]
  exact e2