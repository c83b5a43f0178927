/-! The reference: its helpers over the row. -/
abbrev moC (g : Gf) (b : Nat) (kp rs ty pl fa od : Int32) : Option va_E := some (.inr (8, [.ref (gz g + (b + 1)), .ref (gz g + (b + 2)), .ref (gz g + (b + 3)), .int kp, .ref (gz g + (b + 4)), .ref (gz g + (b + 5)), .int rs, .int ty, .ref (gz g + (b + 6)), .int pl, .int fa, .int od, .ref (gz g + (b + 7))]))
def noS (r : Nat → Int32) (s : Int32) : Int32 := if inI s 0 (r 4 - 1) = 0 then 1 else 0
def hgI (r : Nat → Int32) (w : Nat) : Int32 := if r (5 + 11 * w + 0) = 1 then 1 else 0
/-- the sum of the first -/
def smI (f : Nat → Int32) : Nat → Int32
  | 0 => 0
  | k + 1 => smI f k + f k
theorem vdR_upd (r : Nat → Int32) {w i : Nat} (hw : w < 4) : upd (vdR r w i) (84 + 6 * (4 * i + w)) 0 = vdR r w (i + 1) := by
  funext k
  by_cases e : k = 84 + 6 * (4 * i + w)
  · subst e; rw [vdR_0at r hw]; simp [upd]
  · have e2 : upd (vdR r w i) (84 + 6 * (4 * i + w)) 0 k = vdR r w i k := by simp [upd, e]
    rw [e2]
    unfold vdR
    by_cases h1 : 84 ≤ k ∧ (k - 84) % 24 = 6 * w ∧ (k - 84) / 24 < i
    · rw [if_pos h1, if_pos ⟨h1.1, h1.2.1, by omega⟩]
    · rw [if_neg h1, if_neg (fun z => h1 ⟨z.1, z.2.1, by omega⟩)]
def vaR (r : Nat → Int32) (sc : Nat) : Nat → Nat → Int32
  | 0 => r
  | w + 1 => vdR (vaR r sc w) w sc