/-! Pairs of wires: what the questions answer. -/
section PQ
variable {R : Nat → Int32} {pr : Nat}
def Plc (R : Nat → Int32) (pr : Nat) : Prop := R (5 + 11 * (2 * pr) + 1) = R (5 + 11 * (2 * pr + 1) + 1) ∧ R (5 + 11 * (2 * pr) + 2) = R (5 + 11 * (2 * pr + 1) + 2)
theorem ph_1 (ha : R (5 + 11 * (2 * pr) + 0) = 1) (hb : R (5 + 11 * (2 * pr + 1) + 0) = 1) : sq_X7_isPairHung R pr = 1 := by
  unfold sq_X7_isPairHung
  rw [ha, hb, if_neg (by decide), if_neg (by decide)]
theorem ph_0 (h : R (5 + 11 * (2 * pr) + 0) = 0 ∨ R (5 + 11 * (2 * pr + 1) + 0) = 0) : sq_X7_isPairHung R pr = 0 := by
  unfold sq_X7_isPairHung
  split
  · rfl
  · rename_i z
    rw [if_pos (h.resolve_left z)]
theorem pp_1 (h : Plc R pr) : sq_X7_isPairAtOnePlace R pr = 1 := by
  unfold sq_X7_isPairAtOnePlace
  rw [if_pos h.1, if_pos h.2]
theorem pp_0 (h : ¬ Plc R pr) : sq_X7_isPairAtOnePlace R pr = 0 := by
  unfold sq_X7_isPairAtOnePlace
  split
  · rename_i z
    rw [if_neg (fun q => h ⟨z, q⟩)]
  · rfl
theorem su_n (hp : pr < 2) (h : R (5 + 11 * (2 * pr) + 0) = 0 ∨ R (5 + 11 * (2 * pr + 1) + 0) = 0) : sq_X7_surface R (nI pr) = -100005 := by
  unfold sq_X7_surface
  rw [wN_nI (by omega), if_neg (in1 hp), ph_0 h, if_pos rfl]
theorem su_p (hp : pr < 2) (h : Plc R pr) : sq_X7_surface R (nI pr) = -100005 := by
  unfold sq_X7_surface
  rw [wN_nI (by omega), if_neg (in1 hp), pp_1 h]
  split
  · rfl
  · rfl
theorem su_v (hp : pr < 2) (ha : R (5 + 11 * (2 * pr) + 0) = 1) (hb : R (5 + 11 * (2 * pr + 1) + 0) = 1) (h : ¬ Plc R pr) : sq_X7_surface R (nI pr) = sq_X7_surfaceBearing R pr := by
  unfold sq_X7_surface
  rw [wN_nI (by omega), if_neg (in1 hp), ph_1 ha hb, if_neg (by decide), pp_0 h, if_pos rfl]
theorem su_u : sq_X7_surface R 2 = -100001 := if_pos (by decide)
theorem sb_d {x y : Int32} {a : Int} (hx : Bt x (-a) a) (hy : Bt y (-a) a) (ha : a ≤ 100000000) : (x - y).toInt = x.toInt - y.toInt ∧ Bt (x - y) (-(2 * a)) (2 * a) := by
  obtain ⟨h1, h2⟩ := hx
  obtain ⟨h3, h4⟩ := hy
  have e : (x - y).toInt = x.toInt - y.toInt := fb_subI (by omega) (by omega)
  refine ⟨e, ?_⟩
  unfold Bt
  rw [e]
  omega
theorem sb_0 {x y : Int32} : x - y = 0 ↔ x = y := sub_z x y
/-- where the law's differences of places lie -/
theorem sbq_b {sc cn tb : Nat} (J : Jv R sc cn tb) (hp : pr < 2) (ha : R (5 + 11 * (2 * pr) + 0) = 1) (hb : R (5 + 11 * (2 * pr + 1) + 0) = 1) : Bt (R (5 + 11 * (2 * pr + 1) + 1) - R (5 + 11 * (2 * pr) + 1)) (-10000) 10000 ∧ Bt (R (5 + 11 * (2 * pr + 1) + 2) - R (5 + 11 * (2 * pr) + 2)) (-10000) 10000 := by
  have ga := J.wg (w := 2 * pr) (by omega) ha
  have gb := J.wg (w := 2 * pr + 1) (by omega) hb
  exact ⟨(sb_d gb.1 ga.1 (by decide)).2, (sb_d gb.2.1 ga.2.1 (by decide)).2⟩
theorem sb_z (h : ¬ Plc R pr) : ¬ (R (5 + 11 * (2 * pr + 1) + 1) - R (5 + 11 * (2 * pr) + 1) = 0 ∧ R (5 + 11 * (2 * pr + 1) + 2) - R (5 + 11 * (2 * pr) + 2) = 0) := fun z => h ⟨(sb_0.mp z.1).symm, (sb_0.mp z.2).symm⟩
theorem sb_r {sc cn tb : Nat} (J : Jv R sc cn tb) (hp : pr < 2) (ha : R (5 + 11 * (2 * pr) + 0) = 1) (hb : R (5 + 11 * (2 * pr + 1) + 0) = 1) (h : ¬ Plc R pr) : Bt (sq_X7_surfaceBearing R pr) 0 7999 := by
  obtain ⟨b1, b2⟩ := sbq_b J hp ha hb
  exact be_r (bt_w b1 (by decide) (by decide)) (bt_w b2 (by decide) (by decide)) (sb_z h)
theorem sb_e {sc cn tb : Nat} (J : Jv R sc cn tb) (hp : pr < 2) (ha : R (5 + 11 * (2 * pr) + 0) = 1) (hb : R (5 + 11 * (2 * pr + 1) + 0) = 1) (h : ¬ Plc R pr) : sq_X7_surfaceBearing R pr = sq_X7_bearing R (R (5 + 11 * (2 * pr + 1) + 1) - R (5 + 11 * (2 * pr) + 1)) (R (5 + 11 * (2 * pr + 1) + 2) - R (5 + 11 * (2 * pr) + 2)) := by
  obtain ⟨b1, b2⟩ := sbq_b J hp ha hb
  rw [bg_v (bt_w b1 (by decide) (by decide)) (bt_w b2 (by decide) (by decide)) (sb_z h)]
  rfl
variable {s1 : Nat}
/-- the means of both wires of a pair are one place -/
def Mea (R : Nat → Int32) (s1 pr : Nat) : Prop := R (84 + 6 * (4 * s1 + (2 * pr + 1)) + 1) - R (84 + 6 * (4 * s1 + 2 * pr) + 1) = 0 ∧ R (84 + 6 * (4 * s1 + (2 * pr + 1)) + 2) - R (84 + 6 * (4 * s1 + 2 * pr) + 2) = 0
theorem ra_1 (h : R (5 + 11 * (2 * pr) + 0) = 0 ∨ R (5 + 11 * (2 * pr + 1) + 0) = 0) : sq_X7_reasonAgainst R s1 pr = 1 := by
  unfold sq_X7_reasonAgainst
  rw [ph_0 h, if_pos rfl]
theorem ra_3 (ha : R (5 + 11 * (2 * pr) + 0) = 1) (hb : R (5 + 11 * (2 * pr + 1) + 0) = 1) (h : R (84 + 6 * (4 * s1 + 2 * pr) + 0) = 0 ∨ R (84 + 6 * (4 * s1 + (2 * pr + 1)) + 0) = 0) : sq_X7_reasonAgainst R s1 pr = 3 := by
  unfold sq_X7_reasonAgainst
  rw [ph_1 ha hb, if_neg (by decide)]
  split
  · rfl
  · rename_i z
    rw [if_pos (h.resolve_left z)]
theorem ra_4 (ha : R (5 + 11 * (2 * pr) + 0) = 1) (hb : R (5 + 11 * (2 * pr + 1) + 0) = 1) (va : ¬ R (84 + 6 * (4 * s1 + 2 * pr) + 0) = 0) (vb : ¬ R (84 + 6 * (4 * s1 + (2 * pr + 1)) + 0) = 0) (h : Plc R pr ∨ Mea R s1 pr) : sq_X7_reasonAgainst R s1 pr = 4 := by
  unfold sq_X7_reasonAgainst
  rw [ph_1 ha hb, if_neg (by decide), if_neg va, if_neg vb]
  by_cases q : Plc R pr
  · rw [pp_1 q, if_neg (by decide)]
  · have m := h.resolve_left q
    rw [pp_0 q, if_pos rfl, if_pos (sb_0.mp m.1).symm, if_pos (sb_0.mp m.2).symm]
theorem ra_0 (ha : R (5 + 11 * (2 * pr) + 0) = 1) (hb : R (5 + 11 * (2 * pr + 1) + 0) = 1) (va : ¬ R (84 + 6 * (4 * s1 + 2 * pr) + 0) = 0) (vb : ¬ R (84 + 6 * (4 * s1 + (2 * pr + 1)) + 0) = 0) (h : ¬ Plc R pr) (h2 : ¬ Mea R s1 pr) : sq_X7_reasonAgainst R s1 pr = 0 := by
  unfold sq_X7_reasonAgainst
  rw [ph_1 ha hb, if_neg (by decide), if_neg va, if_neg vb, pp_0 h, if_pos rfl]
  split
  · rename_i z
    rw [if_neg (fun q => h2 ⟨sb_0.mpr z.symm, sb_0.mpr q.symm⟩)]
  · rfl
theorem ra_v (h : R (84 + 6 * (4 * s1 + 2 * pr) + 0) = 0 ∨ R (84 + 6 * (4 * s1 + (2 * pr + 1)) + 0) = 0) : ¬ sq_X7_reasonAgainst R s1 pr = 0 := by
  unfold sq_X7_reasonAgainst
  split
  · decide
  · split
    · decide
    · rename_i z
      rw [if_pos (h.resolve_left z)]
      decide
variable {sc : Nat}
theorem gv_n (h4 : R 4 = nI sc) (h5 : sc ≤ 5) (hs : s1 < sc) (hp : pr < 2) (h : ¬ sq_X7_reasonAgainst R s1 pr = 0) : sq_X7_given R (nI s1) (nI pr) sc = -100005 := by
  unfold sq_X7_given
  rw [wN_nI (by omega), wN_nI (by omega), if_neg (inS h4 hs h5), if_neg (in1 hp), if_neg h]
theorem gv_v (h4 : R 4 = nI sc) (h5 : sc ≤ 5) (hs : s1 < sc) (hp : pr < 2) (h : sq_X7_reasonAgainst R s1 pr = 0) : sq_X7_given R (nI s1) (nI pr) sc = sq_X7_orientationFrom R s1 pr := by
  unfold sq_X7_given
  rw [wN_nI (by omega), wN_nI (by omega), if_neg (inS h4 hs h5), if_neg (in1 hp), if_pos h]
theorem gv_u (h4 : R 4 = nI sc) (h5 : sc ≤ 5) (hs : s1 < sc) : sq_X7_given R (nI s1) 2 sc = -100001 := by
  unfold sq_X7_given
  rw [if_neg (inS h4 hs h5), if_pos (by decide)]
theorem rd_I {v : Int32} (h : Bt v (-1000000000) 1000000000) : (rdI v).toInt = v.toInt % 8000 := by
  obtain ⟨h1, h2⟩ := h
  have e1 := i_rem (x := v) (y := 8000) (by decide)
  have z8 : (8000 : Int32).toInt = 8000 := rfl
  rw [z8] at e1
  have b1 := Int.lt_tmod_of_pos v.toInt (show (0 : Int) < 8000 by decide)
  have b2 := Int.tmod_lt_of_pos v.toInt (show (0 : Int) < 8000 by decide)
  have e2 : ((v - v / 8000 * 8000) + 8000).toInt = v.toInt.tmod 8000 + 8000 := by
    rw [fb_addI (by rw [e1, z8]; omega) (by rw [e1, z8]; omega), e1, z8]
  unfold rdI
  rw [i_rem (by decide), e2, z8, Int.tmod_eq_emod_of_nonneg (by omega), t_em (x := v.toInt) (y := 8000) (by decide)]
  split <;> omega
theorem ci_b (x : Int64) : Bt (ciI x) 0 7999 := by
  have := ci_rng x
  unfold Bt
  omega
theorem or_r : Bt (sq_X7_orientationFrom R s1 pr) 0 7999 := ci_b _
theorem mea_b {cn tb : Nat} (J : Jv R sc cn tb) (hs : s1 < sc) (hp : pr < 2) (va : ¬ R (84 + 6 * (4 * s1 + 2 * pr) + 0) = 0) (vb : ¬ R (84 + 6 * (4 * s1 + (2 * pr + 1)) + 0) = 0) : Bt (R (84 + 6 * (4 * s1 + (2 * pr + 1)) + 1) - R (84 + 6 * (4 * s1 + 2 * pr) + 1)) (-200000000) 200000000 ∧ Bt (R (84 + 6 * (4 * s1 + (2 * pr + 1)) + 2) - R (84 + 6 * (4 * s1 + 2 * pr) + 2)) (-200000000) 200000000 := by
  have s5 := J.s5
  have ga := J.og (s := s1) (w := 2 * pr) (by omega) (by omega) (b01_of (J.ob (by omega) (by omega)) va)
  have gb := J.og (s := s1) (w := 2 * pr + 1) (by omega) (by omega) (b01_of (J.ob (by omega) (by omega)) vb)
  exact ⟨(sb_d gb.1 ga.1 (by decide)).2, (sb_d gb.2 ga.2 (by decide)).2⟩
theorem sz_bt {x : Int32} (h : Bt x (-200000000) 200000000) (h2 : ¬ 20000 < szI x) : Bt x (-20000) 20000 := by
  obtain ⟨h1, h3⟩ := h
  obtain ⟨e1, e2, e3⟩ := sz_t (x := x) (by omega)
  rw [i_lt] at h2
  have h2 : ¬ (20000 : Int) < _ := h2
  unfold Bt
  by_cases q : x.toInt < 0
  · rw [e2 q] at h2; omega
  · rw [e3 (by omega)] at h2; omega
/-- what a pair gives, as the law counts it -/
theorem or_e {cn tb : Nat} (J : Jv R sc cn tb) (hs : s1 < sc) (hp : pr < 2) (ha : R (5 + 11 * (2 * pr) + 0) = 1) (hb : R (5 + 11 * (2 * pr + 1) + 0) = 1) (h : ¬ Plc R pr) {dx dy : Int32} (ex : dx = R (84 + 6 * (4 * s1 + (2 * pr + 1)) + 1) - R (84 + 6 * (4 * s1 + 2 * pr) + 1)) (ey : dy = R (84 + 6 * (4 * s1 + (2 * pr + 1)) + 2) - R (84 + 6 * (4 * s1 + 2 * pr) + 2)) (hx : Bt dx (-20000) 20000) (hy : Bt dy (-20000) 20000) (hn : ¬ (dx = 0 ∧ dy = 0)) : sq_X7_orientationFrom R s1 pr = rdI (sq_X7_surfaceBearing R pr - rdI (sq_X7_bearing R dx dy + R (69 + 3 * s1 + 1))) := by
  have f := (J.st hs).2
  have b := bg_r (R := R) hx hy hn
  have sb := sb_r J hp ha hb h
  have e1 : (sq_X7_bearing R dx dy + R (69 + 3 * s1 + 1)).toInt = (sq_X7_bearing R dx dy).toInt + (R (69 + 3 * s1 + 1)).toInt := by
    obtain ⟨f1, f2⟩ := f
    obtain ⟨b1, b2⟩ := b
    exact fb_addI (by omega) (by omega)
  have r1 := rd_I (v := sq_X7_bearing R dx dy + R (69 + 3 * s1 + 1)) (by
    obtain ⟨f1, f2⟩ := f
    obtain ⟨b1, b2⟩ := b
    unfold Bt; rw [e1]; omega)
  rw [e1] at r1
  have e2 : (sq_X7_surfaceBearing R pr - rdI (sq_X7_bearing R dx dy + R (69 + 3 * s1 + 1))).toInt = (sq_X7_surfaceBearing R pr).toInt - ((sq_X7_bearing R dx dy).toInt + (R (69 + 3 * s1 + 1)).toInt) % 8000 := by
    obtain ⟨c1, c2⟩ := sb
    rw [fb_subI (by rw [r1]; omega) (by rw [r1]; omega), r1]
  have r2 := rd_I (v := sq_X7_surfaceBearing R pr - rdI (sq_X7_bearing R dx dy + R (69 + 3 * s1 + 1))) (by
    obtain ⟨c1, c2⟩ := sb
    unfold Bt; rw [e2]; omega)
  rw [i_eq, r2, e2]
  unfold sq_X7_orientationFrom
  rw [← ex, ← ey, ← bg_v (R := R) hx hy hn]
  have v1 : (sq_X7_bearing R dx dy).toInt64.toInt = (sq_X7_bearing R dx dy).toInt := Int32.toInt_toInt64 _
  have v2 : (R (69 + 3 * s1 + 1)).toInt64.toInt = (R (69 + 3 * s1 + 1)).toInt := Int32.toInt_toInt64 _
  have v3 : (sq_X7_surfaceBearing R pr).toInt64.toInt = (sq_X7_surfaceBearing R pr).toInt := Int32.toInt_toInt64 _
  have q1 : (ciI ((sq_X7_bearing R dx dy).toInt64 + (R (69 + 3 * s1 + 1)).toInt64)).toInt = ((sq_X7_bearing R dx dy).toInt + (R (69 + 3 * s1 + 1)).toInt) % 8000 := by
    obtain ⟨f1, f2⟩ := f
    obtain ⟨b1, b2⟩ := b
    rw [ci_I, fb_addL (by rw [v1, v2]; omega) (by rw [v1, v2]; omega), v1, v2]
  have v4 : (ciI ((sq_X7_bearing R dx dy).toInt64 + (R (69 + 3 * s1 + 1)).toInt64)).toInt64.toInt = ((sq_X7_bearing R dx dy).toInt + (R (69 + 3 * s1 + 1)).toInt) % 8000 := (Int32.toInt_toInt64 _).trans q1
  obtain ⟨c1, c2⟩ := sb
  rw [ci_I, fb_subL (by rw [v3, v4]; omega) (by rw [v3, v4]; omega), v3, v4]
end PQ
