/-! Time that passes, wire by wire. -/
theorem upd_uu (f : Nat → Int32) (k : Nat) (x y : Int32) : upd (upd f k x) k y = upd f k y := by
  funext j
  unfold upd
  split <;> rfl
section TK
variable {R : Nat → Int32} {sc cn tb : Nat}
theorem tkN_s (R : Nat → Int32) (k : Nat) : tkN R (k + 1) = tkR (tkN R k) 4 := rfl
theorem tkN_0 (R : Nat → Int32) : ∀ k : Nat, tkN R k 0 = R 0 + nI k
  | 0 => by rw [nI_0, Int32.add_zero]; rfl
  | k + 1 => by
    have e : tkN R (k + 1) 0 = tkN R k 0 + 1 := rfl
    rw [e, tkN_0 R k, Int32.add_assoc, nI_1]
theorem tkN_l {j : Nat} (h0 : 0 < j) (h : j < 5) : ∀ k : Nat, tkN R k j = R j
  | 0 => rfl
  | k + 1 => by rw [tkN_s, tk_far h0 (Or.inl h), tkN_l h0 h k]
theorem Jv.tkw (J : Jv R sc cn tb) {k : Nat} (ht : tb + k ≤ 1000000000) {w q : Nat} (hw : w < 4) (hq : q < 9) : tkN R k (5 + 11 * w + q) = R (5 + 11 * w + q) := by
  obtain ⟨⟨r, hI, hR⟩, _⟩ := J
  exact tkN_w hI hR ht hw hq
theorem nn_add {x : Int32} {k : Nat} (h0 : 0 ≤ x.toInt) (h : x.toInt + k ≤ 1000000000) : (x + nI k).toInt = x.toInt + k := by
  have e : (nI k).toInt = (k : Int) := nI_toInt (by omega)
  rw [fb_addI (by rw [e]; omega) (by rw [e]; omega), e]
/-- a good row stays good while time passes -/
theorem Jv.tick (J : Jv R sc cn tb) {k : Nat} (ht : tb + k ≤ 1000000000) : Jv (tkN R k) sc cn (tb + k) := by
  have t0 := J.t
  have s5 := J.s5
  have kw := fun (w : Nat) (hw : w < 4) => J.tkw ht hw (show 0 < 9 by decide)
  obtain ⟨⟨r, hI, hR⟩, hE1, hE2⟩ := J
  obtain ⟨a, b⟩ := ticks_ok hI hR k ht
  refine ⟨⟨_, a, b⟩, fun s w hs hw h => ?_, fun s hs h => ?_⟩
  · rw [tkN_f (by omega)] at h
    have q := hE1 s w hs hw h
    rw [kw w hw, tkN_f (by omega), tkN_f (by omega), tkN_f (by omega), tkN_0, nn_add t0.1 (by omega)]
    exact ⟨q.1, q.2.1, q.2.2.1, by have := q.2.2.2; omega⟩
  · rw [tkN_f (by omega)] at h ⊢
    exact hE2 s hs h
variable {w k : Nat}
theorem tk_row (J : Jv R sc cn tb) (ht : tb + k ≤ 1000000000) (hw : w < 4) (h1 : R (5 + 11 * w + 0) = 1) {q : Nat} (hq : q < 11) : tkN R (k + 1) (5 + 11 * w + q) = tkW (fun q => tkN R k (5 + 11 * w + q)) q := by
  rw [tkN_s]
  refine tk_in hw hq (fun z => ?_)
  have e := J.tkw (k := k) ht hw (show 0 < 9 by decide)
  have z : tkN R k (5 + 11 * w + 0) = 0 := z
  rw [e, h1] at z
  exact absurd z (by decide)
theorem tk_ph (J : Jv R sc cn tb) (ht : tb + k ≤ 1000000000) (hw : w < 4) (h1 : R (5 + 11 * w + 0) = 1) : tkN R (k + 1) (5 + 11 * w + 10) = (tkN R k (5 + 11 * w + 10) + 1) - (tkN R k (5 + 11 * w + 10) + 1) / (4 * qdI (R (5 + 11 * w + 4))) * (4 * qdI (R (5 + 11 * w + 4))) := by
  have e4 := J.tkw (k := k) ht hw (show 4 < 9 by decide)
  have g := (J.tick ht).wg hw (by rw [J.tkw ht hw (show 0 < 9 by decide)]; exact h1)
  obtain ⟨p1, p2, p3, p4⟩ := cm_p g
  rw [tk_row J ht hw h1 (by decide)]
  (try dsimp only at p1 p2 p3 p4)
  rw [e4] at p1 p2 p4
  have e1 : (tkN R k (5 + 11 * w + 10) + 1).toInt = (tkN R k (5 + 11 * w + 10)).toInt + 1 := by
    rw [fb_addI (by show _ ≤ _ + (1 : Int); omega) (by show _ + (1 : Int) < _; omega)]; rfl
  unfold tkW
  dsimp only
  split
  · rename_i z
    rw [e4, i_lt] at z
    rw [rem_lt (by omega) z]
    rfl
  · rename_i z
    rw [e4, i_lt] at z
    rw [rem_eq (by omega) (by omega)]
    rfl
theorem tk_a0 (J : Jv R sc cn tb) (ht : tb + k ≤ 1000000000) (hw : w < 4) (h1 : R (5 + 11 * w + 0) = 1) (h : tkN R (k + 1) (5 + 11 * w + 10) = 0) : tkN R (k + 1) (5 + 11 * w + 9) = tkN R k (5 + 11 * w + 9) * cmI (R (5 + 11 * w + 7)) / 100 := by
  have e7 := J.tkw (k := k) ht hw (show 7 < 9 by decide)
  have g := (J.tick ht).wg hw (by rw [J.tkw ht hw (show 0 < 9 by decide)]; exact h1)
  have g7 := g.2.2.2.2.2.2.1
  have p3 := (cm_p g).2.2.1
  have p4 := (cm_p g).2.2.2
  have p2 := (cm_p g).2.1
  (try dsimp only at p3 p4 p2 g7)
  rw [e7] at g7
  rw [tk_row J ht hw h1 (by decide)] at h ⊢
  unfold tkW at h ⊢
  dsimp only at h ⊢
  split
  · rename_i z
    rw [if_pos z] at h
    have h : tkN R k (5 + 11 * w + 10) + 1 = 0 := h
    have e1 : (tkN R k (5 + 11 * w + 10) + 1).toInt = (tkN R k (5 + 11 * w + 10)).toInt + 1 := by
      rw [fb_addI (by show _ ≤ _ + (1 : Int); omega) (by show _ + (1 : Int) < _; omega)]; rfl
    rw [h] at e1
    have e1 : (0 : Int) = _ := e1
    omega
  · have e : upd (upd (fun q => tkN R k (5 + 11 * w + q)) 10 0) 9 (caC (tkN R k (5 + 11 * w + 7)) (tkN R k (5 + 11 * w + 9))) 9 = caC (tkN R k (5 + 11 * w + 7)) (tkN R k (5 + 11 * w + 9)) := rfl
    rw [e, e7, ca_cm g7]
theorem tk_a1 (J : Jv R sc cn tb) (ht : tb + k ≤ 1000000000) (hw : w < 4) (h1 : R (5 + 11 * w + 0) = 1) (h : ¬ tkN R (k + 1) (5 + 11 * w + 10) = 0) : tkN R (k + 1) (5 + 11 * w + 9) = tkN R k (5 + 11 * w + 9) := by
  rw [tk_row J ht hw h1 (by decide)] at h ⊢
  unfold tkW at h ⊢
  dsimp only at h ⊢
  split
  · rfl
  · rename_i z
    rw [if_neg z] at h
    exact absurd rfl h
def phF (R : Nat → Int32) (k w : Nat) : Int32 := if R (5 + 11 * w + 0) = 0 then -100005 else tkN R k (5 + 11 * w + 10)
def amF (R : Nat → Int32) (k w : Nat) : Int32 := if R (5 + 11 * w + 0) = 0 then -100005 else tkN R k (5 + 11 * w + 9)
theorem phF_n (h : R (5 + 11 * w + 0) = 0) : phF R k w = -100005 := if_pos h
theorem amF_n (h : R (5 + 11 * w + 0) = 0) : amF R k w = -100005 := if_pos h
theorem phF_h (h : ¬ R (5 + 11 * w + 0) = 0) : phF R k w = tkN R k (5 + 11 * w + 10) := if_neg h
theorem amF_h (h : ¬ R (5 + 11 * w + 0) = 0) : amF R k w = tkN R k (5 + 11 * w + 9) := if_neg h
theorem wp_9 (J : Jv R sc cn tb) (ht : tb + k ≤ 1000000000) (hw : w < 4) : sq_X7_wire (tkN R k) (nI w) 9 = phF R k w := by
  have e := J.tkw ht hw (show 0 < 9 by decide)
  by_cases h : R (5 + 11 * w + 0) = 0
  · rw [phF_n h, wi_n hw (e.trans h) (by decide)]
  · rw [phF_h h, wi_9 hw (e.trans (b01_of (J.b hw) h))]
theorem wp_8 (J : Jv R sc cn tb) (ht : tb + k ≤ 1000000000) (hw : w < 4) : sq_X7_wire (tkN R k) (nI w) 8 = amF R k w := by
  have e := J.tkw ht hw (show 0 < 9 by decide)
  by_cases h : R (5 + 11 * w + 0) = 0
  · rw [amF_n h, wi_n hw (e.trans h) (by decide)]
  · rw [amF_h h, wi_8 hw (e.trans (b01_of (J.b hw) h))]
theorem in60 {tz : Nat} (h1 : 1 ≤ tz) (h6 : tz ≤ 60) : ¬ inI (nI tz) 1 60 = 0 := inB (lo := 1) (hi := 60) (by rw [nI_toInt (by omega)]; show (1 : Int) ≤ _; omega) (by rw [nI_toInt (by omega)]; show _ ≤ (60 : Int); omega)
theorem pa_ok {lh : Nat} {rs : Int32} {hq : Nat → Nat → Int32} {tz : Nat} (h1 : 1 ≤ tz) (h6 : tz ≤ 60) : sq_X7_pass lh 0 rs R hq (nI tz) = (R 0 + nI tz, rs, tkN R tz, rmL 0 lh, rmQ 0 lh hq R) := by
  unfold sq_X7_pass
  rw [if_neg (in60 h1 h6), wN_nI (by omega), tkN_0]
theorem pa_b {lh : Nat} {rs : Int32} {hq : Nat → Nat → Int32} {x : Int32} (h : inI x 1 60 = 0) : sq_X7_pass lh 0 rs R hq x = (-100002, rs, R, lh, hq) := if_pos h
end TK
