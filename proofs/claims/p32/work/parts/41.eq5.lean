/-! Pairs, orientations; what is told. -/
theorem sub_z (a b : Int32) : a - b = 0 ↔ a = b := by
  constructor
  · intro h
    have e := Int32.sub_add_cancel a b
    rw [h, Int32.zero_add] at e
    exact e.symm
  · intro h
    rw [h, Int32.sub_self]
theorem noS_t {r : Nat → Int32} {x : Int32} (h : inI x 0 (r 4 - 1) = 0) : ¬ noS r x = 0 := by unfold noS; rw [if_pos h]; decide
theorem noS_f {r : Nat → Int32} {x : Int32} (h : ¬ inI x 0 (r 4 - 1) = 0) : noS r x = 0 := by unfold noS; rw [if_neg h]
theorem pr_h {r R : Nat → Int32} {sc cn tb : Nat} (hI : Iv r sc cn tb) (hR : RelR sc R r) {q : Nat} (hq : q < 2) : sq_X7_isPairHung R q = sp_X8_hasPair r q ∧ (¬ sp_X8_hasPair r q = 0 → r (5 + 11 * (2 * q) + 0) = 1 ∧ r (5 + 11 * (2 * q + 1) + 0) = 1) := by
  have w0 : 2 * q < 4 := by omega
  have w1 : 2 * q + 1 < 4 := by omega
  unfold sq_X7_isPairHung sp_X8_hasPair
  rw [hR.w w0 (show 0 < 11 by decide), hR.w w1 (show 0 < 11 by decide)]
  rcases (hI.2.2.1 _ w0).1 with a | a
  · rw [if_pos a, if_pos (hgI_t a)]
    exact ⟨rfl, fun z => absurd rfl z⟩
  · rw [if_neg (fun z => absurd (a.symm.trans z) (by decide)), if_neg (hgI_f a)]
    rcases (hI.2.2.1 _ w1).1 with b | b
    · rw [if_pos b, if_pos (hgI_t b)]
      exact ⟨rfl, fun z => absurd rfl z⟩
    · rw [if_neg (fun z => absurd (b.symm.trans z) (by decide)), if_neg (hgI_f b)]
      exact ⟨rfl, fun _ => ⟨a, b⟩⟩
theorem at_i {r R : Nat → Int32} {sc : Nat} (hR : RelR sc R r) {q : Nat} (hq : q < 2) : (sp_X8_acrossTop r q 0 = 0 ↔ R (5 + 11 * (2 * q) + 1) = R (5 + 11 * (2 * q + 1) + 1)) ∧ (sp_X8_acrossTop r q 1 = 0 ↔ R (5 + 11 * (2 * q) + 2) = R (5 + 11 * (2 * q + 1) + 2)) := by
  have w0 : 2 * q < 4 := by omega
  have w1 : 2 * q + 1 < 4 := by omega
  rw [hR.w w0 (show 1 < 11 by decide), hR.w w1 (show 1 < 11 by decide), hR.w w0 (show 2 < 11 by decide), hR.w w1 (show 2 < 11 by decide)]
  unfold sp_X8_acrossTop
  exact ⟨(sub_z _ _).trans eq_comm, (sub_z _ _).trans eq_comm⟩
theorem ad_i {r R : Nat → Int32} {sc : Nat} (hR : RelR sc R r) {s q : Nat} (hs : s < 5) (hq : q < 2) : (sp_X8_acrossAt r s q 0 = 0 ↔ R (84 + 6 * (4 * s + (2 * q)) + 1) = R (84 + 6 * (4 * s + (2 * q + 1)) + 1)) ∧ (sp_X8_acrossAt r s q 1 = 0 ↔ R (84 + 6 * (4 * s + (2 * q)) + 2) = R (84 + 6 * (4 * s + (2 * q + 1)) + 2)) := by
  have w0 : 2 * q < 4 := by omega
  have w1 : 2 * q + 1 < 4 := by omega
  rw [hR.o hs w0 (show 1 < 6 by decide), hR.o hs w1 (show 1 < 6 by decide), hR.o hs w0 (show 2 < 6 by decide), hR.o hs w1 (show 2 < 6 by decide)]
  unfold sp_X8_acrossAt
  exact ⟨(sub_z _ _).trans eq_comm, (sub_z _ _).trans eq_comm⟩
theorem pl_e {r R : Nat → Int32} {sc : Nat} (hR : RelR sc R r) {q : Nat} (hq : q < 2) : sq_X7_isPairAtOnePlace R q = if sp_X8_acrossTop r q 0 = 0 then (if sp_X8_acrossTop r q 1 = 0 then 1 else 0) else 0 := by
  obtain ⟨e0, e1⟩ := at_i hR hq
  unfold sq_X7_isPairAtOnePlace
  by_cases a : sp_X8_acrossTop r q 0 = 0
  · rw [if_pos (e0.mp a), if_pos a]
    by_cases b : sp_X8_acrossTop r q 1 = 0
    · rw [if_pos (e1.mp b), if_pos b]
    · rw [if_neg (fun z => b (e1.mpr z)), if_neg b]
  · rw [if_neg (fun z => a (e0.mpr z)), if_neg a]
theorem mis_v (r : Nat → Int32) (s q : Nat) : sp_X8_missing r s q = 0 ∨ sp_X8_missing r s q = 1 ∨ sp_X8_missing r s q = 3 ∨ sp_X8_missing r s q = 4 := by
  unfold sp_X8_missing
  repeat' split
  all_goals simp
theorem mis_p {r : Nat → Int32} {s q : Nat} (h : sp_X8_missing r s q = 0) : ¬ sp_X8_hasPair r q = 0 ∧ ¬ r (84 + 6 * (4 * s + 2 * q) + 0) = 0 ∧ ¬ r (84 + 6 * (4 * s + (2 * q + 1)) + 0) = 0 := by
  unfold sp_X8_missing at h
  by_cases a : sp_X8_hasPair r q = 0
  · rw [if_pos a] at h; exact absurd h (by decide)
  rw [if_neg a] at h
  by_cases b : r (84 + 6 * (4 * s + 2 * q) + 0) = 0
  · rw [if_pos b] at h; exact absurd h (by decide)
  rw [if_neg b] at h
  by_cases d : r (84 + 6 * (4 * s + (2 * q + 1)) + 0) = 0
  · rw [if_pos d] at h; exact absurd h (by decide)
  exact ⟨a, b, d⟩
theorem rea_e {r R : Nat → Int32} {sc cn tb : Nat} (hI : Iv r sc cn tb) (hR : RelR sc R r) {s q : Nat} (hs : s < 5) (hq : q < 2) : sq_X7_reasonAgainst R s q = sp_X8_missing r s q := by
  have w0 : 2 * q < 4 := by omega
  have w1 : 2 * q + 1 < 4 := by omega
  obtain ⟨d0, d1⟩ := ad_i hR hs hq
  unfold sq_X7_reasonAgainst sp_X8_missing
  rw [(pr_h hI hR hq).1, pl_e hR hq]
  by_cases a : sp_X8_hasPair r q = 0
  · rw [if_pos a, if_pos a]
  rw [if_neg a, if_neg a, hR.o hs w0 (show 0 < 6 by decide), hR.o hs w1 (show 0 < 6 by decide)]
  by_cases b : r (84 + 6 * (4 * s + 2 * q) + 0) = 0
  · rw [if_pos b, if_pos b]
  rw [if_neg b, if_neg b]
  by_cases d : r (84 + 6 * (4 * s + (2 * q + 1)) + 0) = 0
  · rw [if_pos d, if_pos d]
  rw [if_neg d, if_neg d]
  by_cases t0 : sp_X8_acrossTop r q 0 = 0
  · rw [if_pos t0, if_pos t0]
    by_cases t1 : sp_X8_acrossTop r q 1 = 0
    · rw [if_pos t1, if_pos t1, if_neg (show ¬ (1 : Int32) = 0 by decide)]
      repeat' split
      all_goals rfl
    · rw [if_neg t1, if_neg t1, if_pos (show (0 : Int32) = 0 from rfl)]
      by_cases q0 : sp_X8_acrossAt r s q 0 = 0
      · rw [if_pos (d0.mp q0), if_pos q0]
        by_cases q1 : sp_X8_acrossAt r s q 1 = 0
        · rw [if_pos (d1.mp q1), if_pos q1]
        · rw [if_neg (fun z => q1 (d1.mpr z)), if_neg q1]
      · rw [if_neg (fun z => q0 (d0.mpr z)), if_neg q0]
  · rw [if_neg t0, if_neg t0, if_pos (show (0 : Int32) = 0 from rfl)]
    by_cases q0 : sp_X8_acrossAt r s q 0 = 0
    · rw [if_pos (d0.mp q0), if_pos q0]
      by_cases q1 : sp_X8_acrossAt r s q 1 = 0
      · rw [if_pos (d1.mp q1), if_pos q1]
      · rw [if_neg (fun z => q1 (d1.mpr z)), if_neg q1]
    · rw [if_neg (fun z => q0 (d0.mpr z)), if_neg q0]
theorem df_b {x y : Int32} {b : Int} (hb : b ≤ 1000000000) (hx : Bt x (-b) b) (hy : Bt y (-b) b) : -2147483648 < (x - y).toInt := by
  obtain ⟨x1, x2⟩ := hx
  obtain ⟨y1, y2⟩ := hy
  rw [fb_subI (by omega) (by omega)]
  omega
theorem at_b {r R : Nat → Int32} {sc cn tb : Nat} (hI : Iv r sc cn tb) (hR : RelR sc R r) {q : Nat} (hq : q < 2) (h : ¬ sp_X8_hasPair r q = 0) : -2147483648 < (sp_X8_acrossTop r q 0).toInt ∧ -2147483648 < (sp_X8_acrossTop r q 1).toInt := by
  obtain ⟨a, b⟩ := (pr_h hI hR hq).2 h
  have g1 := (hI.2.2.1 _ (show 2 * q < 4 by omega)).2 a
  have g2 := (hI.2.2.1 _ (show 2 * q + 1 < 4 by omega)).2 b
  exact ⟨df_b (b := 5000) (by decide) g2.1 g1.1, df_b (b := 5000) (by decide) g2.2.1 g1.2.1⟩
theorem sur_e {r R : Nat → Int32} {sc cn tb : Nat} (hI : Iv r sc cn tb) (hR : RelR sc R r) {q : Nat} (hq : q < 2) (h : ¬ sp_X8_hasPair r q = 0) (hn : ¬ (sp_X8_acrossTop r q 0 = 0 ∧ sp_X8_acrossTop r q 1 = 0)) : sq_X7_surfaceBearing R q = sp_X8_bearingOf (sp_X8_acrossTop r q 0) (sp_X8_acrossTop r q 1) ∧ Bt (sp_X8_bearingOf (sp_X8_acrossTop r q 0) (sp_X8_acrossTop r q 1)) 0 8000 := by
  have w0 : 2 * q < 4 := by omega
  have w1 : 2 * q + 1 < 4 := by omega
  have bd := at_b hI hR hq h
  have m := bear bd.1 bd.2 hn
  refine ⟨?_, m.2⟩
  unfold sq_X7_surfaceBearing
  rw [hR.w w0 (show 1 < 11 by decide), hR.w w1 (show 1 < 11 by decide), hR.w w0 (show 2 < 11 by decide), hR.w w1 (show 2 < 11 by decide)]
  exact m.1
theorem ori_e {r R : Nat → Int32} {sc cn tb : Nat} (hI : Iv r sc cn tb) (hR : RelR sc R r) {s q : Nat} (hs : s < 5) (hq : q < 2) (h : sp_X8_missing r s q = 0) : sq_X7_orientationFrom R s q = sp_X8_givenBy r s q ∧ 0 ≤ (sp_X8_givenBy r s q).toInt ∧ (sp_X8_givenBy r s q).toInt < 8000 := by
  have w0 : 2 * q < 4 := by omega
  have w1 : 2 * q + 1 < 4 := by omega
  obtain ⟨p1, p2, p3⟩ := mis_p h
  obtain ⟨n1, n2⟩ := mis_t h
  have m := sur_e hI hR hq p1 n1
  have o0 := (hI.2.2.2.2.2 s _ hs w0)
  have o1 := (hI.2.2.2.2.2 s _ hs w1)
  have g0 := o0.2.2 (b01_of o0.1 p2)
  have g1 := o1.2.2 (b01_of o1.1 p3)
  have b0 : -2147483648 < (sp_X8_acrossAt r s q 0).toInt := df_b (b := 100000000) (by decide) g1.1 g0.1
  have b1 : -2147483648 < (sp_X8_acrossAt r s q 1).toInt := df_b (b := 100000000) (by decide) g1.2 g0.2
  have md := bear b0 b1 n2
  have e : sq_X7_orientationFrom R s q = sp_X8_givenBy r s q := by
    unfold sq_X7_orientationFrom sp_X8_givenBy
    rw [m.1, hR.o hs w0 (show 1 < 6 by decide), hR.o hs w1 (show 1 < 6 by decide), hR.o hs w0 (show 2 < 6 by decide), hR.o hs w1 (show 2 < 6 by decide), hR.s1 hs]
    have md1 : sq_X7_bearingOf ((r (84 + 6 * (4 * s + (2 * q + 1)) + 1) - r (84 + 6 * (4 * s + (2 * q)) + 1)).toInt64) ((r (84 + 6 * (4 * s + (2 * q + 1)) + 2) - r (84 + 6 * (4 * s + (2 * q)) + 2)).toInt64) = sp_X8_bearingOf (sp_X8_acrossAt r s q 0) (sp_X8_acrossAt r s q 1) := md.1
    rw [md1]
    generalize hc : ciI ((sp_X8_bearingOf (sp_X8_acrossAt r s q 0) (sp_X8_acrossAt r s q 1)).toInt64 + (r (69 + 3 * s + 1)).toInt64) = cc
    have hcr : 0 ≤ cc.toInt ∧ cc.toInt < 8000 := by rw [← hc]; exact ci_rng _
    have mb := m.2
    generalize sp_X8_bearingOf (sp_X8_acrossTop r q 0) (sp_X8_acrossTop r q 1) = bb at mb ⊢
    obtain ⟨mb1, mb2⟩ := mb
    refine ci_eq ?_
    rw [Int32.toInt_toInt64, fb_subI (by omega) (by omega), fb_subL (by rw [Int32.toInt_toInt64, Int32.toInt_toInt64]; omega) (by rw [Int32.toInt_toInt64, Int32.toInt_toInt64]; omega), Int32.toInt_toInt64, Int32.toInt_toInt64]
  refine ⟨e, ?_⟩
  unfold sp_X8_givenBy
  exact ci_rng _
theorem rd_surface {r R : Nat → Int32} {sc cn tb : Nat} {x : Int32} (hI : Iv r sc cn tb) (hR : RelR sc R r) : sq_X7_surface R x = sp_X8_surface r x := by
  unfold sq_X7_surface sp_X8_surface
  by_cases h1 : inI x 0 1 = 0
  · rw [if_pos h1, if_pos h1]
  rw [if_neg h1, if_neg h1]
  have hq : wN x < 2 := (inI_w (N := 1) (by decide) h1).1
  generalize wN x = q at hq ⊢
  rw [(pr_h hI hR hq).1, pl_e hR hq]
  by_cases a : sp_X8_hasPair r q = 0
  · rw [if_pos a, if_pos a]
  rw [if_neg a, if_neg a]
  by_cases t0 : sp_X8_acrossTop r q 0 = 0
  · rw [if_pos t0, if_pos t0]
    by_cases t1 : sp_X8_acrossTop r q 1 = 0
    · rw [if_pos t1, if_pos t1, if_neg (show ¬ (1 : Int32) = 0 by decide)]
    · rw [if_neg t1, if_neg t1, if_pos (show (0 : Int32) = 0 from rfl)]
      exact (sur_e hI hR hq a (fun z => t1 z.2)).1
  · rw [if_neg t0, if_neg t0, if_pos (show (0 : Int32) = 0 from rfl)]
    exact (sur_e hI hR hq a (fun z => t0 z.1)).1
theorem rd_given {r R : Nat → Int32} {sc cn tb : Nat} {x y : Int32} (hI : Iv r sc cn tb) (hR : RelR sc R r) : sq_X7_given R x y sc = sp_X8_given r x y sc := by
  unfold sq_X7_given sp_X8_given
  rw [hR.lo (show 4 < 69 by decide)]
  have s5 := hI.1.2.2.2
  by_cases h1 : inI x 0 (r 4 - 1) = 0
  · rw [if_pos h1, if_neg (noS_t h1)]
  rw [if_neg h1, if_pos (noS_f h1)]
  by_cases h2 : inI y 0 1 = 0
  · rw [if_pos h2, if_pos h2]
  rw [if_neg h2, if_neg h2]
  have hs : wN x < sc := (isS_w hI.1.2.2.1 s5 h1).1
  have hq : wN y < 2 := (inI_w (N := 1) (by decide) h2).1
  generalize wN x = s at hs ⊢
  generalize wN y = q at hq ⊢
  rw [rea_e hI hR (by omega) hq]
  by_cases a : sp_X8_missing r s q = 0
  · rw [if_pos a, if_pos (by rw [a]; decide)]
    exact (ori_e hI hR (by omega) hq a).1
  · rw [if_neg a, if_neg (fun z => a (mis_z (ge_nlt z)))]
theorem rd_bearing {r R : Nat → Int32} {x y : Int32} : sq_X7_bearing R x y = sp_X8_bearing r x y := by
  unfold sq_X7_bearing sp_X8_bearing
  by_cases h1 : inI x (-20000) 20000 = 0
  · rw [if_pos h1, if_pos h1]
  rw [if_neg h1, if_neg h1]
  by_cases h2 : inI y (-20000) 20000 = 0
  · rw [if_pos h2, if_pos h2]
  rw [if_neg h2, if_neg h2]
  have bx : Bt x (-20000) 20000 := inI_1 h1
  have by1 : Bt y (-20000) 20000 := inI_1 h2
  obtain ⟨x1, x2⟩ := bx
  obtain ⟨y1, y2⟩ := by1
  by_cases h3 : x = 0
  · rw [if_pos h3, if_pos h3]
    by_cases h4 : y = 0
    · rw [if_pos h4, if_pos h4]
    · rw [if_neg h4, if_neg h4]
      exact (bear (by omega) (by omega) (fun z => h4 z.2)).1
  · rw [if_neg h3, if_neg h3]
    exact (bear (by omega) (by omega) (fun z => h3 z.1)).1
theorem ds_orient {r R : Nat → Int32} {sc cn tb lh : Nat} {hq : Nat → Nat → Int32} {ru rs x : Int32} (hI : Iv r sc cn tb) (hR : RelR sc R r) : DS tb (sq_X7_orient lh ru rs R hq x sc) (sp_X8_doOrient r rs x sc) ru lh hq R := by
  have g0 : Gd tb R r := ⟨sc, cn, hI, hR⟩
  have s5 := hI.1.2.2.2
  unfold sq_X7_orient sp_X8_doOrient
  rw [hR.lo (show 4 < 69 by decide), hR.lo (show 1 < 69 by decide)]
  by_cases h1 : inI x 0 (r 4 - 1) = 0
  · rw [if_pos h1, if_neg (noS_t h1)]; exact DS.no g0 er_1
  rw [if_neg h1, if_pos (noS_f h1)]
  have hs : wN x < sc := (isS_w hI.1.2.2.1 s5 h1).1
  generalize wN x = s at hs ⊢
  have hs5 : s < 5 := by omega
  rw [rea_e hI hR hs5 (show 0 < 2 by decide), rea_e hI hR hs5 (show 1 < 2 by decide)]
  by_cases ab : sp_X8_missing r s 0 = 0 ∧ sp_X8_missing r s 1 = 0
  · obtain ⟨a, b⟩ := ab
    obtain ⟨e0, f1, f2⟩ := ori_e hI hR hs5 (show 0 < 2 by decide) a
    obtain ⟨e1, f3, f4⟩ := ori_e hI hR hs5 (show 1 < 2 by decide) b
    rw [a, b, if_pos (show lrI 0 0 = 0 from rfl), if_neg (show ¬ (0 : Int32) < 0 by decide), if_pos (show (0 : Int32) ≤ 0 by decide), e0, e1]
    generalize sp_X8_givenBy r s 0 = f at f1 f2 ⊢
    generalize sp_X8_givenBy r s 1 = g at f3 f4 ⊢
    have vf : f.toInt64.toInt = f.toInt := Int32.toInt_toInt64 _
    have vg : g.toInt64.toInt = g.toInt := Int32.toInt_toInt64 _
    have eg : (g - f).toInt = g.toInt - f.toInt := fb_subI (by omega) (by omega)
    have eg2 : ((g - f) + 4000).toInt = g.toInt - f.toInt + 4000 := by
      have := fb_addI (x := g - f) (y := 4000) (by rw [eg]; show _ ≤ _ + (4000 : Int); omega) (by rw [eg]; show _ + (4000 : Int) < _; omega)
      rw [this, eg]; rfl
    have el : (g.toInt64 - f.toInt64).toInt = g.toInt - f.toInt := by
      rw [fb_subL (by rw [vf, vg]; omega) (by rw [vf, vg]; omega), vf, vg]
    have el2 : ((g.toInt64 - f.toInt64) + 4000).toInt = g.toInt - f.toInt + 4000 := by
      have := fb_addL (x := g.toInt64 - f.toInt64) (y := 4000) (by rw [el]; show _ ≤ _ + (4000 : Int); omega) (by rw [el]; show _ + (4000 : Int) < _; omega)
      rw [this, el]; rfl
    have ed : ciI ((g.toInt64 - f.toInt64) + 4000) = ciI (((g - f) + 4000).toInt64) := ci_eq (by rw [el2, Int32.toInt_toInt64, eg2])
    rw [ed, abs_sz]
    generalize ciI (((g - f) + 4000).toInt64) - 4000 = d
    by_cases ht : szI d ≤ r 1
    · rw [if_pos ht, if_pos ht]
      have e2 : (sq_fdI d 2).toInt64 = fdL d.toInt64 2 := by
        rw [l_eq, Int32.toInt_toInt64, fd_I (by decide), fdL_I (by decide), Int32.toInt_toInt64]; rfl
      rw [e2, upd_at]
      have hv := ci_rng (f.toInt64 + fdL d.toInt64 2)
      generalize ciI (f.toInt64 + fdL d.toInt64 2) = v at hv ⊢
      refine DS.yes rfl hv.1 ⟨sc, cn, ?_, fun k hk hn => ?_, fun t ht5 => ?_, fun t ht5 => ?_⟩
      · refine hI.other ?_ hI.1.2.1 ?_ s5 ?_ (fun k a b => ?_) (fun k hk => ?_) (fun t ht5 => ?_) (fun k a b => ?_) (Nat.le_refl _)
        · rw [upd_no (by omega)]; exact hI.1.1
        · rw [upd_no (by omega)]; exact hI.1.2.2.1
        · rw [upd_no (by omega), upd_no (by omega)]; exact hI.2.1
        · rw [upd_no (by omega)]
        · have := hI.1.2.1
          exact Cg_cong (fun q hq => upd_no (by omega)) (hI.2.2.2.1 k hk)
        · rw [upd_no (by omega), upd_no (by omega)]; exact hI.2.2.2.2.1 t ht5
        · rw [upd_no (by omega)]
      · rw [upd_no (hn s hs5)]
        unfold hPut
        by_cases k0 : k = 69 + 3 * s
        · rw [if_pos k0, k0]; exact hR.s0 hs5
        rw [if_neg k0]
        by_cases k1 : k = 69 + 3 * s + 1
        · rw [if_pos k1, k1]; exact hR.s1 hs5
        rw [if_neg k1, if_neg (hn s hs5), if_neg (by omega)]
        exact hR.1 k hk hn
      · unfold hPut
        rw [if_neg (by omega), if_neg (by omega), if_neg (by omega)]
        split
        · exact Or.inr rfl
        · exact hR.2.1 t ht5
      · by_cases e : t = s
        · subst e
          refine Or.inl ⟨?_, ?_, ?_⟩
          · unfold hPut
            rw [if_neg (by omega), if_neg (by omega), if_neg (by omega), if_pos rfl]
          · rw [upd_at]; unfold hPut
            rw [if_neg (by omega), if_neg (by omega), if_pos rfl]
          · rw [upd_at]; exact hv.1
        · have a1 : hPut R s (R (69 + 3 * s)) (R (69 + 3 * s + 1)) 1 v (204 + t) = R (204 + t) := by
            unfold hPut; rw [if_neg (by omega), if_neg (by omega), if_neg (by omega), if_neg (by omega)]
          have a2 : hPut R s (R (69 + 3 * s)) (R (69 + 3 * s + 1)) 1 v (69 + 3 * t + 2) = R (69 + 3 * t + 2) := by
            unfold hPut; rw [if_neg (by omega), if_neg (by omega), if_neg (by omega), if_neg (by omega)]
          rw [a1, a2, upd_no (by omega)]
          exact hR.2.2 t ht5
    · rw [if_neg ht, if_neg ht]; exact DS.no g0 er_3
  · rcases mis_v r s 0 with a | a | a | a
    · rcases mis_v r s 1 with b | b | b | b
      · exact absurd (And.intro a b) ab
      · rw [a, b]; exact DS.no g0 er_3
      · rw [a, b]; exact DS.no g0 er_3
      · rw [a, b]; exact DS.no g0 er_3
    all_goals rcases mis_v r s 1 with b | b | b | b
    all_goals (rw [a, b]; exact DS.no g0 er_3)
theorem prW_c {f f' : Nat → Int32} (h : ∀ q : Nat, q < 11 → f q = f' q) (y : Int32) : prW f y = prW f' y := by
  unfold prW
  rw [h 1 (by decide), h 2 (by decide), h 3 (by decide), h 4 (by decide), h 5 (by decide), h 6 (by decide), h 7 (by decide), h 8 (by decide), h 9 (by decide), h 10 (by decide)]
theorem rd_wire {r R : Nat → Int32} {sc cn tb : Nat} {x y : Int32} (hI : Iv r sc cn tb) (hR : RelR sc R r) : sq_X7_wire R x y = sp_X8_wire r x y := by
  unfold sq_X7_wire sp_X8_wire
  by_cases h1 : inI x 0 3 = 0
  · rw [if_pos h1, if_neg (noW_t h1)]
  rw [if_neg h1, if_pos (noW_f h1)]
  by_cases h2 : inI y 0 10 = 0
  · rw [if_pos h2, if_pos h2]
  rw [if_neg h2, if_neg h2]
  have hw := in_w h1
  generalize wN x = W at hw ⊢
  rw [hR.w hw (show 0 < 11 by decide)]
  rcases (hI.2.2.1 W hw).1 with a | a
  · rw [if_pos a, if_pos (hgI_t a)]
  rw [if_neg (fun z => absurd (a.symm.trans z) (by decide)), if_neg (hgI_f a)]
  rw [prW_c (f' := fun q => r (5 + 11 * W + q)) (fun q hq => hR.w hw hq)]
  obtain ⟨k11, ek⟩ := inI_w (N := 10) (by decide) h2
  rw [← ek]
  rw [show wN (nI (wN y)) = wN y from congrArg wN ek]
  generalize wN y = k at k11 ⊢
  have d4 : Bt (r (5 + 11 * W + 4)) 10 800 := ((hI.2.2.1 W hw).2 a).2.2.2.1
  revert k
  exact elv rfl rfl rfl rfl rfl rfl rfl rfl rfl rfl ((show prW (fun q => r (5 + 11 * W + q)) (nI 10) = 4 * qdI (r (5 + 11 * W + 4)) from rfl).trans (congrArg (fun z : Int32 => 4 * z) (qd_in2 d4)))
theorem rd_station {r R : Nat → Int32} {sc cn tb : Nat} {x y : Int32} (hI : Iv r sc cn tb) (hR : RelR sc R r) : sq_X7_station R x y sc = sp_X8_station r x y sc := by
  have s5 := hI.1.2.2.2
  unfold sq_X7_station sp_X8_station
  rw [hR.lo (show 4 < 69 by decide)]
  by_cases h1 : inI x 0 (r 4 - 1) = 0
  · rw [if_pos h1, if_neg (noS_t h1)]
  rw [if_neg h1, if_pos (noS_f h1)]
  have hs : wN x < sc := (isS_w hI.1.2.2.1 s5 h1).1
  generalize wN x = s at hs ⊢
  have hs5 : s < 5 := by omega
  by_cases y0 : y = 0
  · subst y0; rw [if_pos rfl, if_neg (by decide)]; exact hR.s0 hs5
  rw [if_neg y0]
  by_cases y1 : y = 1
  · subst y1; rw [if_pos rfl, if_neg (by decide)]; exact hR.s1 hs5
  rw [if_neg y1]
  by_cases y2 : y = 2
  · subst y2
    rw [if_pos (show (2 : Int32) = 2 from rfl), if_neg (show ¬ inI (2 : Int32) 0 2 = 0 by decide)]
    rcases hR.2.2 s hs with ⟨a, b, d⟩ | ⟨a, b⟩
    · rw [if_neg (fun z => absurd (a.symm.trans z) (by decide))]; exact b
    · rw [if_pos a]; exact b.symm
  rw [if_neg y2]
  have hy : inI y 0 2 = 0 := by
    by_cases z : inI y 0 2 = 0
    · exact z
    · rcases b02 (inI_1 z) with e | e | e
      · exact absurd e y0
      · exact absurd e y1
      · exact absurd e y2
  rw [if_pos hy]
  by_cases y3 : y = 3
  · rw [if_pos y3, if_pos y3]
    exact (ctI_smI (fun k hk => ⟨hR.o hs5 hk (by decide), (hI.2.2.2.2.2 s k hs5 hk).1⟩)).1
  · rw [if_neg y3, if_neg y3]
theorem prO_c {f f' : Nat → Int32} (h : ∀ q : Nat, q < 6 → f q = f' q) (y : Int32) : prO f y = prO f' y := by
  unfold prO
  rw [h 1 (by decide), h 2 (by decide), h 3 (by decide), h 4 (by decide), h 5 (by decide)]
theorem rd_observation {r R : Nat → Int32} {sc cn tb : Nat} {x y z : Int32} (hI : Iv r sc cn tb) (hR : RelR sc R r) : sq_X7_observation R x y z sc = sp_X8_observation r x y z sc := by
  have s5 := hI.1.2.2.2
  unfold sq_X7_observation sp_X8_observation
  rw [hR.lo (show 4 < 69 by decide)]
  by_cases h1 : inI x 0 (r 4 - 1) = 0
  · rw [if_pos h1, if_neg (noS_t h1)]
  rw [if_neg h1, if_pos (noS_f h1)]
  by_cases h2 : inI y 0 3 = 0
  · rw [if_pos h2, if_neg (noW_t h2)]
  rw [if_neg h2, if_pos (noW_f h2)]
  by_cases h3 : inI z 0 4 = 0
  · rw [if_pos h3, if_pos h3]
  rw [if_neg h3, if_neg h3]
  have hs : wN x < sc := (isS_w hI.1.2.2.1 s5 h1).1
  have hw := in_w h2
  generalize wN x = s at hs ⊢
  generalize wN y = w at hw ⊢
  have hs5 : s < 5 := by omega
  rw [hR.o hs5 hw (show 0 < 6 by decide)]
  by_cases a : r (84 + 6 * (4 * s + w) + 0) = 0
  · rw [if_pos a, if_pos a]
  rw [if_neg a, if_neg a, prO_c (f' := fun q => r (84 + 6 * (4 * s + w) + q)) (fun q hq => hR.o hs5 hw hq)]
  obtain ⟨k5, ek⟩ := inI_w (N := 4) (by decide) h3
  rw [← ek]
  rw [show wN (nI (wN z)) = wN z from congrArg wN ek]
  generalize wN z = k at k5 ⊢
  revert k
  refine five ?_ ?_ ?_ ?_ ?_ <;> rfl
theorem rd_ori {r R : Nat → Int32} {sc : Nat} (hR : RelR sc R r) : ∀ n : Nat, n ≤ sc → ctI (fun v => R (204 + v)) n = orS r n
  | 0, _ => rfl
  | n + 1, h => by
    have e := rd_ori hR n (by omega)
    have eo : orS r (n + 1) = orS r n + (if 0 ≤ (r (69 + 3 * n + 2)) then 1 else 0) := rfl
    rcases hR.2.2 n (by omega) with ⟨a, b, d⟩ | ⟨a, b⟩
    · rw [ctI_neg (f := fun v => R (204 + v)) (k := n) (fun z => absurd (a.symm.trans z) (by decide)), eo, if_pos (show (0 : Int32) ≤ r (69 + 3 * n + 2) from (i_le _ _).mpr d), e]
    · rw [ctI_pos (f := fun v => R (204 + v)) (k := n) a, eo, if_neg (by rw [b]; decide), e]
      exact (Int32.add_zero _).symm
theorem rd_sn {r R : Nat → Int32} {sc cn tb : Nat} (hI : Iv r sc cn tb) (hR : RelR sc R r) : ∀ n : Nat, n ≤ 5 → vsI R n = snS r n
  | 0, _ => rfl
  | n + 1, h => by
    have e := rd_sn hI hR n (by omega)
    have e1 : vsI R (n + 1) = vsI R n + ctI (fun w => R (84 + 6 * (4 * n + w))) 4 := rfl
    have e2 : snS r (n + 1) = snS r n + smI (fun w => r (84 + 6 * (4 * n + w) + 0)) 4 := rfl
    rw [e1, e2, e]
    exact congrArg (fun z : Int32 => snS r n + z) (ctI_smI (fun k hk => ⟨hR.o0 (by omega) hk, (hI.2.2.2.2.2 n k (by omega) hk).1⟩)).1
theorem rd_count {r R : Nat → Int32} {sc cn tb lh T : Nat} {rs x : Int32} (hI : Iv r sc cn tb) (hR : RelR sc R r) : sq_X7_count lh rs R T x sc = sp_X8_count r (nI lh) rs (nI T) x sc := by
  unfold sq_X7_count sp_X8_count
  rw [hR.lo (show 0 < 69 by decide), hR.lo (show 1 < 69 by decide), hR.lo (show 2 < 69 by decide), hR.lo (show 3 < 69 by decide), hR.lo (show 4 < 69 by decide), rd_ori hR sc (Nat.le_refl _), rd_sn hI hR sc hI.1.2.2.2, (hung_eq hI hR).1]
