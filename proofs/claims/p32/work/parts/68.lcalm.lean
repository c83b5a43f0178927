/-! The law: when a wire will be calm. -/
theorem per_e {x : Int32} (h : Bt x 10 800) : 4 * qdI x = 4 + 4 * (x / 100) := by
  rw [qd_in2 h, Int32.mul_add]
  rfl
/-- what holds in the law's loop: what is left, and the ticks so far -/
def CmI (f : Nat → Int32) (y a t : Int32) : Prop := Bt a 0 500 ∧ ((t = 0 ∧ a = f 9) ∨ (∃ k : Nat, k ≤ 500 ∧ a.toInt ≤ k ∧ 1 ≤ t.toInt ∧ t.toInt + 36 * k ≤ 1000000 ∧ sq_X6_ticksUntilCalm f y = tcS y (4 * qdI (f 4)) (f 7) k a t))
theorem cm_0 {f : Nat → Int32} (g : Wg f) (y : Int32) : CmI f y (f 9) 0 := ⟨g.2.2.2.2.2.2.2.2.1, Or.inl ⟨rfl, rfl⟩⟩
theorem cm_p {f : Nat → Int32} (g : Wg f) : 4 ≤ (4 * qdI (f 4)).toInt ∧ (4 * qdI (f 4)).toInt ≤ 36 ∧ 0 ≤ (f 10).toInt ∧ (f 10).toInt < (4 * qdI (f 4)).toInt := by
  obtain ⟨g1, g2, g3, g4, g5, g6, g7, g8, g9, g10, g11⟩ := g
  have e := (qd_t g4).2
  obtain ⟨a1, a2⟩ := g4
  rw [e]
  omega
theorem cm_1 {f : Nat → Int32} (g : Wg f) {y a t : Int32} (h : CmI f y a t) (hy : 0 ≤ y.toInt) (hl : ¬ a ≤ y) (ht : t = 0) : CmI f y (a * cmI (f 7) / 100) (4 * qdI (f 4) - f 10) := by
  obtain ⟨ha, h | h⟩ := h
  · obtain ⟨-, e⟩ := h
    obtain ⟨p1, p2, p3, p4⟩ := cm_p g
    have g7 := g.2.2.2.2.2.2.1
    have hc := ca_b g7 ha
    rw [← ca_cm g7]
    refine ⟨hc.1, Or.inr ⟨500, Nat.le_refl _, hc.1.2, ?_, ?_, ?_⟩⟩
    · rw [fb_subI (by omega) (by omega)]; omega
    · rw [fb_subI (by omega) (by omega)]; omega
    · rw [e] at hl ⊢
      unfold sq_X6_ticksUntilCalm
      rw [if_pos (nle_lt hl)]
  · obtain ⟨k, -, -, h1, -⟩ := h
    rw [ht] at h1
    exact absurd h1 (by decide)
theorem cm_2 {f : Nat → Int32} (g : Wg f) {y a t : Int32} (h : CmI f y a t) (hy : 0 ≤ y.toInt) (hl : ¬ a ≤ y) (ht : ¬ t = 0) : CmI f y (a * cmI (f 7) / 100) (t + 4 * qdI (f 4)) := by
  obtain ⟨ha, h | h⟩ := h
  · exact absurd h.1 ht
  · obtain ⟨k, k5, ka, t1, t2, e⟩ := h
    obtain ⟨p1, p2, p3, p4⟩ := cm_p g
    have g7 := g.2.2.2.2.2.2.1
    have hc := ca_b g7 ha
    have hla := nle_lt hl
    rw [i_lt] at hla
    obtain ⟨j, rfl⟩ : ∃ j, k = j + 1 := ⟨k - 1, by omega⟩
    have hd := hc.2 (by omega)
    rw [← ca_cm g7]
    refine ⟨hc.1, Or.inr ⟨j, by omega, by omega, ?_, ?_, ?_⟩⟩
    · rw [fb_addI (by omega) (by omega)]; omega
    · rw [fb_addI (by omega) (by omega)]; omega
    · rw [e, tcS, if_pos ((i_lt _ _).mpr hla)]
theorem cm_d {f : Nat → Int32} (g : Wg f) {y a t : Int32} (h : CmI f y a t) (hy : 0 ≤ y.toInt) (hl : ¬ a ≤ y) : (a * cmI (f 7) / 100).toInt.toNat + 1 ≤ a.toInt.toNat := by
  have g7 := g.2.2.2.2.2.2.1
  have hc := ca_b g7 h.1
  have hla := nle_lt hl
  rw [i_lt] at hla
  have hd := hc.2 (by omega)
  rw [← ca_cm g7]
  have := hc.1.1
  omega
theorem cm_e {f : Nat → Int32} {y a t : Int32} (h : CmI f y a t) (hl : a ≤ y) : sq_X6_ticksUntilCalm f y = t := by
  obtain ⟨ha, h | h⟩ := h
  · obtain ⟨rfl, e⟩ := h
    unfold sq_X6_ticksUntilCalm
    rw [← e, if_neg (i_nlt hl)]
  · obtain ⟨k, -, -, -, -, e⟩ := h
    rw [e]
    cases k with
    | zero => rfl
    | succ j => rw [tcS, if_neg (i_nlt hl)]
/-- the remainder of one from 0 on -/
theorem rm_b {z y : Int32} {Z Y : Int} (hz : Bt z 0 Z) (hy : y.toInt = Y) (h0 : 0 < Y) : Bt (z - z / y * y) 0 (Y - 1) ∧ (z - z / y * y).toInt ≤ z.toInt := by
  obtain ⟨h1, h2⟩ := hz
  have e := i_rem (x := z) (y := y) (by omega)
  rw [hy, Int.tmod_eq_emod_of_nonneg h1] at e
  unfold Bt
  rw [e]
  have a1 := Int.emod_nonneg z.toInt (show Y ≠ 0 by omega)
  have a2 := Int.emod_lt_of_pos z.toInt h0
  refine ⟨⟨a1, by omega⟩, ?_⟩
  by_cases q : z.toInt < Y
  · rw [Int.emod_eq_of_lt h1 q]; exact Int.le_refl _
  · omega
