/-! Rests, sways, calm. -/
theorem tc_ca {y P ph b : Int32} (hb : Bt b 0 2) (hP : 1 ≤ P.toInt ∧ P.toInt ≤ 36) : ∀ (k : Nat) (a t : Int32), Bt a 0 500 → 1 ≤ t.toInt → t.toInt + 36 * k ≤ 1000000 → tcS y P b k a t = caS y P ph (cmI b) k a t
  | 0, _, _, _, _, _ => rfl
  | k + 1, a, t, ha, h1, h2 => by
    have e1 : tcS y P b (k + 1) a t = if y < a then tcS y P b k (caC b a) (t + P) else t := rfl
    have e2 : caS y P ph (cmI b) (k + 1) a t = if y < a then caS y P ph (cmI b) k (a * cmI b / 100) (if t = 0 then t + (P - ph) else t + P) else t := rfl
    rw [e1, e2]
    by_cases h : y < a
    · have et : (t + P).toInt = t.toInt + P.toInt := fb_addI (by omega) (by omega)
      rw [if_pos h, if_pos h, ← ca_cm hb a, if_neg (show ¬ t = 0 from ne_of_toInt (by show _ ≠ (0 : Int); omega))]
      exact tc_ca hb hP k (caC b a) (t + P) (ca_b hb ha).1 (by omega) (by omega)
    · rw [if_neg h, if_neg h]
theorem ti_c {f f' : Nat → Int32} (h : ∀ q : Nat, q < 11 → f q = f' q) (y : Int32) : sq_X6_ticksUntilCalm f y = sq_X6_ticksUntilCalm f' y := by
  unfold sq_X6_ticksUntilCalm
  rw [h 4 (by decide), h 7 (by decide), h 9 (by decide), h 10 (by decide)]
theorem rd_calmIn {r R : Nat → Int32} {sc cn tb : Nat} {x y : Int32} (hI : Iv r sc cn tb) (hR : RelR sc R r) : sq_X7_calmIn R x y = sp_X8_calmIn r x y := by
  unfold sq_X7_calmIn sp_X8_calmIn
  by_cases h1 : inI x 0 3 = 0
  · rw [if_pos h1, if_neg (noW_t h1)]
  rw [if_neg h1, if_pos (noW_f h1)]
  by_cases h2 : inI y 0 500 = 0
  · rw [if_pos h2, if_pos h2]
  rw [if_neg h2, if_neg h2]
  have hw := in_w h1
  generalize wN x = W at hw ⊢
  rw [hR.w hw (show 0 < 11 by decide)]
  rcases (hI.2.2.1 W hw).1 with a | a
  · rw [if_pos a, if_pos (hgI_t a)]
  rw [if_neg (fun z => absurd (a.symm.trans z) (by decide)), if_neg (hgI_f a)]
  rw [ti_c (f' := fun q => r (5 + 11 * W + q)) (fun q hq => hR.w hw hq)]
  have g := (hI.2.2.1 W hw).2 a
  obtain ⟨g1, g2, g3, g4, g5, g6, g7, g8, g9, g10, g11⟩ := g
  have qp := (q_toInt g4).2
  have d4 := g4
  obtain ⟨d1, d2⟩ := d4
  have eC : caS y (4 * (1 + r (5 + 11 * W + 4) / 100)) (r (5 + 11 * W + 10)) (cmI (r (5 + 11 * W + 7))) 501 (r (5 + 11 * W + 9)) 0 = if y < r (5 + 11 * W + 9) then caS y (4 * (1 + r (5 + 11 * W + 4) / 100)) (r (5 + 11 * W + 10)) (cmI (r (5 + 11 * W + 7))) 500 (r (5 + 11 * W + 9) * cmI (r (5 + 11 * W + 7)) / 100) (if (0 : Int32) = 0 then 0 + ((4 * (1 + r (5 + 11 * W + 4) / 100)) - r (5 + 11 * W + 10)) else 0 + (4 * (1 + r (5 + 11 * W + 4) / 100))) else 0 := rfl
  have eS : sq_X6_ticksUntilCalm (fun q => r (5 + 11 * W + q)) y = if y < r (5 + 11 * W + 9) then tcS y (4 * (1 + r (5 + 11 * W + 4) / 100)) (r (5 + 11 * W + 7)) 500 (caC (r (5 + 11 * W + 7)) (r (5 + 11 * W + 9))) ((4 * (1 + r (5 + 11 * W + 4) / 100)) - r (5 + 11 * W + 10)) else 0 := by unfold sq_X6_ticksUntilCalm; simp only [qd_in2 (x := r (5 + 11 * W + 4)) g4]
  rw [eC, eS]
  dsimp only at g10 g11 d1 d2 qp g7 g9
  by_cases h : y < r (5 + 11 * W + 9)
  · rw [if_pos h, if_pos h, if_pos (show (0 : Int32) = 0 from rfl), Int32.zero_add, ← ca_cm g7]
    have et : ((4 * (1 + r (5 + 11 * W + 4) / 100)) - r (5 + 11 * W + 10)).toInt = 4 * (1 + (r (5 + 11 * W + 4)).toInt / 100) - (r (5 + 11 * W + 10)).toInt := by
      rw [fb_subI (by rw [qp]; omega) (by rw [qp]; omega), qp]
    exact tc_ca g7 (by rw [qp]; omega) 500 _ _ (ca_b g7 g9).1 (by rw [et]; omega) (by rw [et]; omega)
  · rw [if_neg h, if_neg h]
/-! products, quotients within bounds -/
theorem mulb {x y : Int} {a b : Nat} (hx : -(a : Int) ≤ x ∧ x ≤ a) (hy : -(b : Int) ≤ y ∧ y ≤ b) : -((a * b : Nat) : Int) ≤ x * y ∧ x * y ≤ ((a * b : Nat) : Int) := by
  have e := Int.natAbs_mul x y
  have h1 : x.natAbs ≤ a := by omega
  have h2 : y.natAbs ≤ b := by omega
  have h3 := Nat.mul_le_mul h1 h2
  rw [← e] at h3
  omega
theorem td_b {x y : Int} {b : Int} (hy : 0 < y) (hb : 0 ≤ b) (hx : -b ≤ x ∧ x ≤ b) : -b ≤ x.tdiv y ∧ x.tdiv y ≤ b := by
  by_cases h : 0 ≤ x
  · rw [Int.tdiv_eq_ediv_of_nonneg h]
    exact t_rng hy hb hx.1 hx.2
  · have e := Int.neg_tdiv (-x) y
    rw [Int.neg_neg] at e
    rw [e, Int.tdiv_eq_ediv_of_nonneg (by omega)]
    have := t_rng (x := -x) hy hb (by omega) (by omega)
    omega
theorem mn_if (a z : Int32) : (if z < a then z else a) = mnI a z := by
  unfold mnI
  by_cases h : z < a
  · rw [if_pos h, if_pos (by rw [i_le]; rw [i_lt] at h; omega)]
  · rw [if_neg h]
    by_cases h2 : z ≤ a
    · rw [if_pos h2, i_eq]; rw [i_lt] at h; rw [i_le] at h2; omega
    · rw [if_neg h2]
theorem mn_b {a z : Int32} {lo hi : Int} (ha : Bt a lo hi) (hz : Bt z lo hi) : Bt (mnI a z) lo hi := by
  unfold mnI
  split
  · exact hz
  · exact ha
theorem be_D {f fr : Nat → Int32} (hf : ∀ q : Nat, q < 4 → f q = fr q) (hg : Cg fr) {ma z : Int32} (hm : Bt ma 1 200) (hz : Bt z 0 800) {a : Nat} (ha : a < 2) :
    beF f ma z (nI a) = (fdL ((mnI (fr 1) z - mnI (fr 0) z).toInt64 * (fr (2 + a)).toInt64 * z.toInt64) (100 * ma.toInt64)).toInt32 ∧ Bt (beF f ma z (nI a)) (-320000) 320000 := by
  obtain ⟨c1, c2, c3, c4, c5⟩ := hg
  obtain ⟨m1, m2⟩ := hm
  obtain ⟨z1, z2⟩ := hz
  have hfc : fcF f (nI a) = fr (2 + a) := by
    unfold fcF
    rcases (show a = 0 ∨ a = 1 by omega) with e | e <;> subst e
    · rw [if_pos (show nI 0 = 0 from rfl)]; exact hf 2 (by decide)
    · rw [if_neg (show ¬ nI 1 = 0 by decide)]; exact hf 3 (by decide)
  have hov : ovF f z = mnI (fr 1) z - mnI (fr 0) z := by
    unfold ovF
    rw [mn_if, mn_if, hf 0 (by decide), hf 1 (by decide)]
  have hb : Bt (fr (2 + a)) (-50) 50 := by
    rcases (show a = 0 ∨ a = 1 by omega) with e | e <;> subst e
    · exact c4
    · exact c5
  have b1 : Bt (mnI (fr 1) z) 0 800 := mn_b ⟨by omega, c3⟩ ⟨z1, z2⟩
  have b0 : Bt (mnI (fr 0) z) 0 800 := mn_b ⟨c1, by omega⟩ ⟨z1, z2⟩
  have e : beF f ma z (nI a) = (fdL ((mnI (fr 1) z - mnI (fr 0) z).toInt64 * (fr (2 + a)).toInt64 * z.toInt64) (100 * ma.toInt64)).toInt32 := by
    unfold beF
    rw [if_neg (fun q => by rw [i_lt] at q; have q : ma.toInt < (1 : Int) := q; omega), hfc, hov, Int64.mul_comm (fr (2 + a)).toInt64]
  refine ⟨e, ?_⟩
  rw [e]
  obtain ⟨p1, p2⟩ := b1
  obtain ⟨p3, p4⟩ := b0
  obtain ⟨p5, p6⟩ := hb
  have s1 : (mnI (fr 1) z - mnI (fr 0) z).toInt = (mnI (fr 1) z).toInt - (mnI (fr 0) z).toInt := fb_subI (by omega) (by omega)
  have v1 : ((mnI (fr 1) z - mnI (fr 0) z).toInt64).toInt = (mnI (fr 1) z).toInt - (mnI (fr 0) z).toInt := (Int32.toInt_toInt64 _).trans s1
  have v2 : ((fr (2 + a)).toInt64).toInt = (fr (2 + a)).toInt := Int32.toInt_toInt64 _
  have v3 : (z.toInt64).toInt = z.toInt := Int32.toInt_toInt64 _
  have v4 : (ma.toInt64).toInt = ma.toInt := Int32.toInt_toInt64 _
  have q1 := mulb (x := (mnI (fr 1) z).toInt - (mnI (fr 0) z).toInt) (y := (fr (2 + a)).toInt) (a := 800) (b := 50) (by omega) (by omega)
  have w1 : ((mnI (fr 1) z - mnI (fr 0) z).toInt64 * (fr (2 + a)).toInt64).toInt = ((mnI (fr 1) z).toInt - (mnI (fr 0) z).toInt) * (fr (2 + a)).toInt := by
    rw [fb_mulL (by rw [v1, v2]; omega) (by rw [v1, v2]; omega), v1, v2]
  generalize ((mnI (fr 1) z).toInt - (mnI (fr 0) z).toInt) * (fr (2 + a)).toInt = u at q1 w1
  have q2 := mulb (x := u) (y := z.toInt) (a := 40000) (b := 800) (by omega) (by omega)
  have w2 : ((mnI (fr 1) z - mnI (fr 0) z).toInt64 * (fr (2 + a)).toInt64 * z.toInt64).toInt = u * z.toInt := by
    rw [fb_mulL (by rw [w1, v3]; omega) (by rw [w1, v3]; omega), w1, v3]
  generalize u * z.toInt = t at q2 w2
  have w3 : (100 * ma.toInt64).toInt = 100 * ma.toInt := by
    have := fb_mulL (x := 100) (y := ma.toInt64) (by rw [v4]; show _ ≤ (100 : Int) * _; omega) (by rw [v4]; show (100 : Int) * _ < _; omega)
    rw [this, v4]; rfl
  have hd : 0 < (100 * ma.toInt64).toInt := by rw [w3]; omega
  have f1 := fdL_I (x := (mnI (fr 1) z - mnI (fr 0) z).toInt64 * (fr (2 + a)).toInt64 * z.toInt64) hd
  rw [w2, w3] at f1
  have u1 : t / (100 * ma.toInt) ≤ 320000 := Int.ediv_le_of_le_mul (by omega) (by omega)
  have u2 : -320000 ≤ t / (100 * ma.toInt) := (Int.le_ediv_iff_mul_le (by omega)).mpr (by omega)
  unfold Bt
  rw [Int64.toInt_toInt32, f1, fb_bmod (by omega) (by omega)]
  exact ⟨u2, u1⟩
theorem re_e {r R : Nat → Int32} {sc cn tb : Nat} (hI : Iv r sc cn tb) (hR : RelR sc R r) {w : Nat} (hw : w < 4) (hm : r (5 + 11 * w + 0) = 1) {z : Int32} (hz : Bt z 0 800) {a : Nat} (ha : a < 2) : ∀ k : Nat, k ≤ cn → reS R w z (nI a) k = (raS r w z a k).toInt32 ∧ Bt (reS R w z (nI a) k) (-(5020 + 320000 * k)) (5020 + 320000 * k)
  | 0, _ => by
    have g := (hI.2.2.1 w hw).2 hm
    obtain ⟨g1, g2, g3, g4, g5, g6, g7, g8, g9, g10, g11⟩ := g
    obtain ⟨x1, x2⟩ := g1
    obtain ⟨x3, x4⟩ := g2
    obtain ⟨x5, x6⟩ := g5
    obtain ⟨x7, x8⟩ := g6
    dsimp only at x1 x2 x3 x4 x5 x6 x7 x8
    have e0 : reS R w z (nI a) 0 = if nI a = 0 then R (5 + 11 * w + 1) + R (5 + 11 * w + 5) else R (5 + 11 * w + 2) + R (5 + 11 * w + 6) := rfl
    have e1 : raS r w z a 0 = (r (5 + 11 * w + (1 + a)) + r (5 + 11 * w + (5 + a))).toInt64 := rfl
    rw [e0, e1, Int32.toInt32_toInt64, hR.w hw (show 1 < 11 by decide), hR.w hw (show 2 < 11 by decide), hR.w hw (show 5 < 11 by decide), hR.w hw (show 6 < 11 by decide)]
    rcases (show a = 0 ∨ a = 1 by omega) with e | e <;> subst e
    · rw [if_pos (show nI 0 = 0 from rfl)]
      refine ⟨rfl, ?_⟩
      unfold Bt
      rw [fb_addI (by omega) (by omega)]
      omega
    · rw [if_neg (show ¬ nI 1 = 0 by decide)]
      refine ⟨rfl, ?_⟩
      unfold Bt
      rw [fb_addI (by omega) (by omega)]
      omega
  | k + 1, hk => by
    obtain ⟨i1, i2⟩ := re_e hI hR hw hm hz ha k (by omega)
    have c5 := hI.1.2.1
    have g := (hI.2.2.1 w hw).2 hm
    have m3 : Bt (r (5 + 11 * w + 3)) 1 200 := g.2.2.1
    obtain ⟨d1, d2⟩ := be_D (f := fun q => R (49 + 4 * k + q)) (fr := fun q => r (49 + 4 * k + q)) (fun q hq => hR.c (by omega) hq) (hI.2.2.2.1 k (by omega)) m3 hz ha
    have e0 : reS R w z (nI a) (k + 1) = reS R w z (nI a) k + beF (fun q => R (49 + 4 * k + q)) (R (5 + 11 * w + 3)) z (nI a) := rfl
    have e1 : raS r w z a (k + 1) = raS r w z a k + fdL ((mnI (r (49 + 4 * k + 1)) z - mnI (r (49 + 4 * k)) z).toInt64 * (r (49 + 4 * k + 2 + a)).toInt64 * z.toInt64) (100 * (r (5 + 11 * w + 3)).toInt64) := rfl
    rw [e0, e1, hR.w hw (show 3 < 11 by decide), Int64.toInt32_add, ← i1]
    have d3 : beF (fun q => R (49 + 4 * k + q)) (r (5 + 11 * w + 3)) z (nI a) = (fdL ((mnI (r (49 + 4 * k + 1)) z - mnI (r (49 + 4 * k)) z).toInt64 * (r (49 + 4 * k + 2 + a)).toInt64 * z.toInt64) (100 * (r (5 + 11 * w + 3)).toInt64)).toInt32 := by
      rw [Nat.add_assoc (49 + 4 * k) 2 a]; exact d1
    refine ⟨by rw [d3], ?_⟩
    obtain ⟨x1, x2⟩ := i2
    obtain ⟨x3, x4⟩ := d2
    unfold Bt
    rw [fb_addI (by omega) (by omega)]
    omega
theorem pt_e : ∀ d : Nat, d < 8 → ∀ a : Nat, a < 2 → ptC (nI d) (nI a) = sp_X8_part (nI d) (nI a) ∧ (-1 ≤ (sp_X8_part (nI d) (nI a)).toInt ∧ (sp_X8_part (nI d) (nI a)).toInt ≤ 1) := by decide +kernel
theorem rz_n {a b : Int32} (h : ¬ b = 0) : rz a b = a / b := if_neg h
theorem sy_c {f f' : Nat → Int32} (h : ∀ q : Nat, q < 11 → f q = f' q) (z ax : Int32) : syF f z ax = syF f' z ax := by
  unfold syF swF
  rw [h 4 (by decide), h 8 (by decide), h 9 (by decide), h 10 (by decide)]
theorem sw_e {r : Nat → Int32} {w : Nat} (g : Wg (fun q => r (5 + 11 * w + q))) : swF (fun q => r (5 + 11 * w + q)) = sp_X8_swing r w ∧ Bt (sp_X8_swing r w) (-18000) 18000 := by
  obtain ⟨g1, g2, g3, g4, g5, g6, g7, g8, g9, g10, g11⟩ := g
  have qp := q_toInt g4
  obtain ⟨d1, d2⟩ := g4
  obtain ⟨a1, a2⟩ := g9
  dsimp only at d1 d2 a1 a2 g10 g11 qp
  obtain ⟨q1, q2⟩ := qp
  have hq0 : 0 < (1 + r (5 + 11 * w + 4) / 100).toInt := by rw [q1]; omega
  have hqn : ¬ (1 + r (5 + 11 * w + 4) / 100) = 0 := ne_of_toInt (by rw [q1]; show _ ≠ (0 : Int); omega)
  have dv : ∀ u : Int32, Bt u (-36) 36 → Bt ((r (5 + 11 * w + 9) * u) / (1 + r (5 + 11 * w + 4) / 100)) (-18000) 18000 := by
    intro u hu
    obtain ⟨u1, u2⟩ := hu
    have m := mulb (x := (r (5 + 11 * w + 9)).toInt) (y := u.toInt) (a := 500) (b := 36) (by omega) (by omega)
    have em : (r (5 + 11 * w + 9) * u).toInt = (r (5 + 11 * w + 9)).toInt * u.toInt := fb_mulI (by omega) (by omega)
    unfold Bt
    rw [i_div hq0, em]
    exact td_b hq0 (by decide) (by omega)
  refine ⟨?_, ?_⟩
  · unfold swF sp_X8_swing
    simp only [qd_in2 (x := r (5 + 11 * w + 4)) ⟨d1, d2⟩, rz_n hqn]
  · unfold sp_X8_swing
    have q3 : (3 * (1 + r (5 + 11 * w + 4) / 100)).toInt = 3 * (1 + (r (5 + 11 * w + 4)).toInt / 100) := by
      have := fb_mulI (x := 3) (y := 1 + r (5 + 11 * w + 4) / 100) (by rw [q1]; show _ ≤ (3 : Int) * _; omega) (by rw [q1]; show (3 : Int) * _ < _; omega)
      rw [this, q1]; rfl
    have q4 : (2 * (1 + r (5 + 11 * w + 4) / 100)).toInt = 2 * (1 + (r (5 + 11 * w + 4)).toInt / 100) := by
      have := fb_mulI (x := 2) (y := 1 + r (5 + 11 * w + 4) / 100) (by rw [q1]; show _ ≤ (2 : Int) * _; omega) (by rw [q1]; show (2 : Int) * _ < _; omega)
      rw [this, q1]; rfl
    by_cases c1 : (1 + r (5 + 11 * w + 4) / 100) ≤ (r (5 + 11 * w + 10))
    · rw [if_pos c1]
      by_cases c2 : (3 * (1 + r (5 + 11 * w + 4) / 100)) ≤ (r (5 + 11 * w + 10))
      · rw [if_pos c2]
        refine dv _ ?_
        unfold Bt
        rw [fb_subI (by rw [q2]; omega) (by rw [q2]; omega), q2]
        omega
      · rw [if_neg c2]
        refine dv _ ?_
        unfold Bt
        rw [fb_subI (by rw [q4]; omega) (by rw [q4]; omega), q4]
        omega
    · rw [if_neg c1]
      exact dv _ ⟨by omega, by omega⟩
theorem sy_e {r : Nat → Int32} {w : Nat} (g : Wg (fun q => r (5 + 11 * w + q))) {z : Int32} (hz : Bt z 0 800) {a : Nat} (ha : a < 2) : syF (fun q => r (5 + 11 * w + q)) z (nI a) = (sp_X8_part (r (5 + 11 * w + 8)) (nI a)) * (((sp_X8_swing r w) * z) / (r (5 + 11 * w + 4))) ∧ Bt (syF (fun q => r (5 + 11 * w + q)) z (nI a)) (-14400000) 14400000 := by
  have sw := sw_e g
  obtain ⟨g1, g2, g3, g4, g5, g6, g7, g8, g9, g10, g11⟩ := g
  obtain ⟨d1, d2⟩ := g4
  obtain ⟨x1, x2⟩ := g8
  obtain ⟨z1, z2⟩ := hz
  dsimp only at d1 d2 x1 x2
  obtain ⟨sw1, sw2, sw3⟩ := sw
  have hd0 : ¬ r (5 + 11 * w + 4) = 0 := ne_of_toInt (by show _ ≠ (0 : Int); omega)
  have ed : r (5 + 11 * w + 8) = nI (r (5 + 11 * w + 8)).toInt.toNat := by rw [i_eq, nI_toInt (by omega)]; omega
  obtain ⟨p1, p2⟩ := pt_e (r (5 + 11 * w + 8)).toInt.toNat (by omega) a ha
  rw [← ed] at p1 p2
  have e : syF (fun q => r (5 + 11 * w + q)) z (nI a) = (sp_X8_part (r (5 + 11 * w + 8)) (nI a)) * (((sp_X8_swing r w) * z) / (r (5 + 11 * w + 4))) := by
    unfold syF
    rw [sw1, if_neg (show ¬ inI (r (5 + 11 * w + 8)) 0 7 = 0 from fun y => by rw [inI_yes (by show (0 : Int) ≤ _; omega) (by show _ ≤ (7 : Int); omega)] at y; exact absurd y (by decide)), p1, rz_n hd0]
  refine ⟨e, ?_⟩
  rw [e]
  have m := mulb (x := (sp_X8_swing r w).toInt) (y := z.toInt) (a := 18000) (b := 800) (by omega) (by omega)
  have em : (sp_X8_swing r w * z).toInt = (sp_X8_swing r w).toInt * z.toInt := fb_mulI (by omega) (by omega)
  have td := td_b (x := (sp_X8_swing r w).toInt * z.toInt) (y := (r (5 + 11 * w + 4)).toInt) (b := 14400000) (by omega) (by decide) (by omega)
  have ev : ((sp_X8_swing r w * z) / (r (5 + 11 * w + 4))).toInt = ((sp_X8_swing r w).toInt * z.toInt).tdiv (r (5 + 11 * w + 4)).toInt := by rw [i_div (by omega), em]
  generalize ((sp_X8_swing r w).toInt * z.toInt).tdiv (r (5 + 11 * w + 4)).toInt = v at td ev
  have m2 := mulb (x := (sp_X8_part (r (5 + 11 * w + 8)) (nI a)).toInt) (y := v) (a := 1) (b := 14400000) (by omega) (by omega)
  unfold Bt
  rw [fb_mulI (by rw [ev]; omega) (by rw [ev]; omega), ev]
  omega
theorem po_e {r R : Nat → Int32} {sc cn tb : Nat} (hI : Iv r sc cn tb) (hR : RelR sc R r) {w : Nat} (hw : w < 4) (hm : r (5 + 11 * w + 0) = 1) {z : Int32} (hz : Bt z 0 800) {a : Nat} (ha : a < 2) : reS R w z (nI a) cn + syF (fun q => R (5 + 11 * w + q)) z (nI a) = sp_X8_positionAt r w z a cn ∧ Bt (sp_X8_positionAt r w z a cn) (-16005020) 16005020 := by
  obtain ⟨e1, b1⟩ := re_e hI hR hw hm hz ha cn (Nat.le_refl _)
  obtain ⟨e2, b2⟩ := sy_e ((hI.2.2.1 w hw).2 hm) hz ha
  have c5 := hI.1.2.1
  have e : reS R w z (nI a) cn + syF (fun q => R (5 + 11 * w + q)) z (nI a) = sp_X8_positionAt r w z a cn := by
    rw [sy_c (f' := fun q => r (5 + 11 * w + q)) (fun q hq => hR.w hw hq), e1, e2]; rfl
  refine ⟨e, ?_⟩
  rw [← e, sy_c (f' := fun q => r (5 + 11 * w + q)) (fun q hq => hR.w hw hq)]
  obtain ⟨x1, x2⟩ := b1
  obtain ⟨x3, x4⟩ := b2
  unfold Bt
  rw [fb_addI (by omega) (by omega)]
  omega
theorem er_ba {r R : Nat → Int32} {sc cn tb : Nat} {x y z : Int32} (hI : Iv r sc cn tb) (hR : RelR sc R r) : sq_X7_errorOfReading R x y z = sp_X8_barred r x y z := by
  unfold sq_X7_errorOfReading sp_X8_barred
  by_cases h1 : inI x 0 3 = 0
  · rw [if_pos h1, if_neg (noW_t h1)]
  rw [if_neg h1, if_pos (noW_f h1)]
  by_cases h2 : inI y 0 800 = 0
  · rw [if_pos h2, if_pos h2]
  rw [if_neg h2, if_neg h2]
  by_cases h3 : inI z 0 1 = 0
  · rw [if_pos h3, if_pos h3]
  rw [if_neg h3, if_neg h3]
  have hw := in_w h1
  generalize wN x = W at hw ⊢
  rw [hR.w hw (show 0 < 11 by decide), hR.w hw (show 4 < 11 by decide)]
  rcases (hI.2.2.1 W hw).1 with a | a
  · rw [if_pos a, if_pos (hgI_t a)]
  rw [if_neg (fun z => absurd (a.symm.trans z) (by decide)), if_neg (hgI_f a)]
theorem bar_v (r : Nat → Int32) (x y z : Int32) : sp_X8_barred r x y z = 0 ∨ ¬ (0 : Int32) ≤ sp_X8_barred r x y z := by
  unfold sp_X8_barred
  repeat' split
  all_goals first | exact Or.inl rfl | exact Or.inr (by decide)
theorem rd_rest {r R : Nat → Int32} {sc cn tb : Nat} {x y z : Int32} (hI : Iv r sc cn tb) (hR : RelR sc R r) : sq_X7_rest R x y z cn = sp_X8_rest r x y z cn := by
  unfold sq_X7_rest sp_X8_rest
  rw [er_ba hI hR]
  rcases bar_v r x y z with h | h
  · have h0 : (0 : Int32) ≤ sp_X8_barred r x y z := by rw [h]; decide
    rw [if_pos h, if_pos h0]
    obtain ⟨⟨w4, _⟩, ⟨z2, ez⟩, hm, _, hy⟩ := bar_0 h0
    have := (re_e hI hR w4 hm (inI_1 hy) z2 cn (Nat.le_refl _)).1
    rw [ez] at this
    exact this
  · rw [if_neg (fun q => h (by rw [q]; decide)), if_neg h]
theorem rd_position {r R : Nat → Int32} {sc cn tb : Nat} {x y z : Int32} (hI : Iv r sc cn tb) (hR : RelR sc R r) : sq_X7_position R x y z cn = sp_X8_position r x y z cn := by
  unfold sq_X7_position sp_X8_position
  rw [er_ba hI hR]
  rcases bar_v r x y z with h | h
  · have h0 : (0 : Int32) ≤ sp_X8_barred r x y z := by rw [h]; decide
    rw [if_pos h, if_pos h0]
    obtain ⟨⟨w4, _⟩, ⟨z2, ez⟩, hm, _, hy⟩ := bar_0 h0
    have := (po_e hI hR w4 hm (inI_1 hy) z2).1
    rw [ez] at this
    exact this
  · rw [if_neg (fun q => h (by rw [q]; decide)), if_neg h]
