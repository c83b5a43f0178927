/-! The law: how a wire sways, by its own numbers. -/
theorem ac_pt : ∀ d : Nat, d < 8 → ∀ a : Nat, a < 2 → acL (nI d) (nI a) = ptC (nI d) (nI a) := by decide +kernel
theorem qd_t {x : Int32} (h : Bt x 10 800) : (qdI x).toInt = 1 + x.toInt / 100 ∧ (4 * qdI x).toInt = 4 * (1 + x.toInt / 100) := by
  rw [qd_in2 h]
  exact q_toInt h
theorem qd_44 {x : Int32} (h : Bt x 10 800) : 4 * qdI x / 4 = qdI x := by
  obtain ⟨e1, e2⟩ := qd_t h
  obtain ⟨h1, h2⟩ := h
  rw [i_eq, i_div (by decide), e2, e1, show (4 : Int32).toInt = 4 from rfl, Int.tdiv_eq_ediv_of_nonneg (by omega)]
  omega
theorem qd_n0 {x : Int32} (h : Bt x 10 800) : ¬ qdI x = 0 := by
  have e := (qd_t h).1
  obtain ⟨h1, h2⟩ := h
  refine ne_of_toInt ?_
  rw [e]
  show _ ≠ (0 : Int)
  omega
theorem qd_440 {x : Int32} (h : Bt x 10 800) : ¬ 4 * qdI x / 4 = 0 := by rw [qd_44 h]; exact qd_n0 h
theorem bt_n0 {x : Int32} {lo hi : Int} (h : Bt x lo hi) (h0 : 0 < lo) : ¬ x = 0 := by
  obtain ⟨h1, h2⟩ := h
  refine ne_of_toInt ?_
  show _ ≠ (0 : Int)
  omega
theorem bt_nn {x : Int32} {lo hi : Int} (h : Bt x lo hi) (v : Int32) (hv : v.toInt < lo ∨ hi < v.toInt) : ¬ x = v := by
  obtain ⟨h1, h2⟩ := h
  refine ne_of_toInt ?_
  omega
theorem bt_le {x : Int32} {lo hi : Int} (h : Bt x lo hi) (v : Int32) (hv : hi ≤ v.toInt) : x ≤ v := by
  obtain ⟨h1, h2⟩ := h
  rw [i_le]; omega
theorem bt_ge {x : Int32} {lo hi : Int} (h : Bt x lo hi) (v : Int32) (hv : v.toInt ≤ lo) : v ≤ x := by
  obtain ⟨h1, h2⟩ := h
  rw [i_le]; omega
theorem bt_gt {x : Int32} {lo hi : Int} (h : Bt x lo hi) (v : Int32) (hv : v.toInt < lo) : v < x := by
  obtain ⟨h1, h2⟩ := h
  rw [i_lt]; omega
theorem bt_lt {x : Int32} {lo hi : Int} (h : Bt x lo hi) (v : Int32) (hv : hi < v.toInt) : x < v := by
  obtain ⟨h1, h2⟩ := h
  rw [i_lt]; omega
theorem i_nlt {a b : Int32} (h : b ≤ a) : ¬ a < b := by rw [i_lt]; rw [i_le] at h; omega
theorem i_nle {a b : Int32} (h : b < a) : ¬ a ≤ b := by rw [i_le]; rw [i_lt] at h; omega
/-- the law's way along an axis is the wire's -/
theorem at_sy {f : Nat → Int32} (g : Wg f) (z : Int32) {a : Nat} (ha : a < 2) : acL (f 8) (nI a) * (swL (f 9) (4 * qdI (f 4) / 4) (f 10) * z / f 4) = syF f z (nI a) := by
  obtain ⟨g1, g2, g3, g4, g5, g6, g7, g8, g9, g10⟩ := g
  have e : swF f = swL (f 9) (qdI (f 4)) (f 10) := by
    unfold swF swL
    rw [rz_n (qd_n0 g4), rz_n (qd_n0 g4), rz_n (qd_n0 g4)]
  have d8 : inI (f 8) 0 7 = 1 := inI_yes (lo := 0) (hi := 7) g8.1 g8.2
  obtain ⟨k, hk, e8⟩ : ∃ k : Nat, k < 8 ∧ f 8 = nI k := ⟨(f 8).toInt.toNat, by have := g8.1; have := g8.2; omega, by rw [i_eq, nI_toInt (by have := g8.1; have := g8.2; omega)]; have := g8.1; omega⟩
  unfold syF
  rw [d8, if_neg (by decide), e, qd_44 g4, rz_n (bt_n0 g4 (by decide)), e8, ac_pt k hk a ha]
