/-! Ticks, time. -/
theorem rem_lt {x y : Int32} (h0 : 0 ≤ x.toInt) (h : x.toInt < y.toInt) : x - x / y * y = x := by
  rw [i_eq, i_rem (by omega)]; exact Int.tmod_eq_of_lt h0 h
theorem rem_eq {x y : Int32} (hy : 0 < y.toInt) (h : x.toInt = y.toInt) : x - x / y * y = 0 := by
  rw [i_eq, i_rem hy, h, Int.tmod_self]; rfl
theorem b02 {b : Int32} (h : Bt b 0 2) : b = 0 ∨ b = 1 ∨ b = 2 := by
  obtain ⟨h1, h2⟩ := h
  rcases (show b.toInt = 0 ∨ b.toInt = 1 ∨ b.toInt = 2 by omega) with e | e | e
  · exact Or.inl ((i_eq _ _).mpr e)
  · exact Or.inr (Or.inl ((i_eq _ _).mpr e))
  · exact Or.inr (Or.inr ((i_eq _ _).mpr e))
theorem ca_cm {b : Int32} (h : Bt b 0 2) (a : Int32) : caC b a = a * cmI b / 100 := by
  rcases b02 h with e | e | e <;> subst e <;> rfl
theorem cal {a k : Int32} {n : Int} (hk : k.toInt = n) (hn : 0 ≤ n ∧ n ≤ 100) (ha : Bt a 0 500) : (a * k / 100).toInt = a.toInt * n / 100 := by
  obtain ⟨a1, a2⟩ := ha
  have p0 := Int.mul_nonneg a1 hn.1
  have p1 : a.toInt * n ≤ 500 * 100 := Int.mul_le_mul a2 hn.2 hn.1 (by decide)
  have e : (a * k).toInt = a.toInt * n := by
    rw [fb_mulI (by rw [hk]; omega) (by rw [hk]; omega), hk]
  rw [i_100 (by omega), e]
theorem ca_b {b a : Int32} (hb : Bt b 0 2) (ha : Bt a 0 500) : Bt (caC b a) 0 500 ∧ (0 < a.toInt → (caC b a).toInt < a.toInt) := by
  have h1 := cal (k := 95) (n := 95) rfl (by decide) ha
  have h2 := cal (k := 70) (n := 70) rfl (by decide) ha
  have h3 := cal (k := 50) (n := 50) rfl (by decide) ha
  obtain ⟨a1, a2⟩ := ha
  rcases b02 hb with e | e | e <;> subst e
  · have q : caC 0 a = a * 95 / 100 := rfl
    rw [q]; unfold Bt; rw [h1]; omega
  · have q : caC 1 a = a * 70 / 100 := rfl
    rw [q]; unfold Bt; rw [h2]; omega
  · have q : caC 2 a = a * 50 / 100 := rfl
    rw [q]; unfold Bt; rw [h3]; omega
theorem tkV_a {f : Nat → Int32} (h : (f 10 + 1) - (f 10 + 1) / (4 * (1 + f 4 / 100)) * (4 * (1 + f 4 / 100)) = 0) : tkV f = upd (upd f 10 0) 9 (f 9 * cmI (f 7) / 100) := by
  unfold tkV; simp only [h, if_true]
theorem tkV_b {f : Nat → Int32} {ph : Int32} (h : (f 10 + 1) - (f 10 + 1) / (4 * (1 + f 4 / 100)) * (4 * (1 + f 4 / 100)) = ph) (h0 : ¬ ph = 0) : tkV f = upd f 10 ph := by
  unfold tkV; simp only [h, if_neg h0]
theorem tkWV {f : Nat → Int32} (hg : Wg f) : tkW f = tkV f ∧ Wg (tkV f) := by
  obtain ⟨g1, g2, g3, g4, g5, g6, g7, g8, g9, g10, g11⟩ := hg
  have q := (q_toInt g4).2
  have ek : tkW f = if f 10 + 1 < 4 * (1 + f 4 / 100) then upd f 10 (f 10 + 1) else upd (upd f 10 0) 9 (caC (f 7) (f 9)) := by unfold tkW; rw [qd_in2 g4]
  rw [ek]
  have d4 := g4
  obtain ⟨d1, d2⟩ := d4
  have e1 : (f 10 + 1).toInt = (f 10).toInt + 1 := fb_addI (x := f 10) (y := 1) (by show _ ≤ (f 10).toInt + (1 : Int); omega) (by show (f 10).toInt + (1 : Int) < _; omega)
  by_cases h : (f 10).toInt + 1 < 4 * (1 + (f 4).toInt / 100)
  · have e := rem_lt (x := f 10 + 1) (y := 4 * (1 + f 4 / 100)) (by omega) (by omega)
    have n0 : ¬ f 10 + 1 = 0 := ne_of_toInt (by rw [e1]; show _ ≠ (0 : Int); omega)
    rw [tkV_b e n0]
    refine ⟨if_pos ((i_lt _ _).mpr (by omega)), ⟨g1, g2, g3, g4, g5, g6, g7, g8, g9, ?_, ?_⟩⟩
    · show 0 ≤ (f 10 + 1).toInt
      omega
    · show (f 10 + 1).toInt < 4 * (1 + (f 4).toInt / 100)
      omega
  · have e := rem_eq (x := f 10 + 1) (y := 4 * (1 + f 4 / 100)) (by omega) (by omega)
    rw [tkV_a e]
    have c := ca_cm g7 (f 9)
    have cb := (ca_b g7 g9).1
    rw [c] at cb
    refine ⟨(if_neg (fun z => by rw [i_lt] at z; omega)).trans (by rw [c]), ⟨g1, g2, g3, g4, g5, g6, g7, g8, cb, Int.le_refl (0 : Int), wg_ph g4⟩⟩
theorem tm_in {r : Nat → Int32} {w q : Nat} (hw : w < 4) (hq : q < 11) (h : r (5 + 11 * w) = 1) : tmR r 4 (5 + 11 * w + q) = tkV (fun q => r (5 + 11 * w + q)) q := by
  unfold tmR
  rw [if_neg (by omega), show (5 + 11 * w + q - 5) / 11 = w by omega, show (5 + 11 * w + q - 5) % 11 = q by omega, if_pos ⟨by omega, by omega, h⟩]
theorem tm_no {r : Nat → Int32} {w q : Nat} (hq : q < 11) (h : ¬ r (5 + 11 * w) = 1) : tmR r 4 (5 + 11 * w + q) = r (5 + 11 * w + q) := by
  unfold tmR
  rw [if_neg (by omega), show (5 + 11 * w + q - 5) / 11 = w by omega, if_neg (fun z => h z.2.2)]
theorem tk_in {r : Nat → Int32} {w q : Nat} (hw : w < 4) (hq : q < 11) (h : ¬ r (5 + 11 * w) = 0) : tkR r 4 (5 + 11 * w + q) = tkW (fun q => r (5 + 11 * w + q)) q := by
  unfold tkR
  rw [if_neg (by omega), show (5 + 11 * w + q - 5) / 11 = w by omega, show (5 + 11 * w + q - 5) % 11 = q by omega, if_pos ⟨by omega, by omega, h⟩]
theorem tk_no {r : Nat → Int32} {w q : Nat} (hq : q < 11) (h : r (5 + 11 * w) = 0) : tkR r 4 (5 + 11 * w + q) = r (5 + 11 * w + q) := by
  unfold tkR
  rw [if_neg (by omega), show (5 + 11 * w + q - 5) / 11 = w by omega, if_neg (fun z => z.2.2 h)]
theorem tm_far {r : Nat → Int32} {k : Nat} (h0 : 0 < k) (h : k < 5 ∨ 49 ≤ k) : tmR r 4 k = r k := tmR_far r (by decide) h0 h
theorem tk_far {r : Nat → Int32} {k : Nat} (h0 : 0 < k) (h : k < 5 ∨ 49 ≤ k) : tkR r 4 k = r k := tkR_lo r 4 h0 h (by decide)
theorem tick_ok {r R : Nat → Int32} {sc cn tb : Nat} (hI : Iv r sc cn tb) (hR : RelR sc R r) (ht : tb < 1000000000) : Iv (tmR r 4) sc cn (tb + 1) ∧ RelR sc (tkR R 4) (tmR r 4) := by
  obtain ⟨h1, h2, h3, h4, h5, h6⟩ := id hI
  have c5 := h1.2.1
  have s5 := h1.2.2.2
  have t0 : tmR r 4 0 = r 0 + 1 := rfl
  have e0 : (r 0 + 1).toInt = (r 0).toInt + 1 := fb_addI (x := r 0) (y := 1) (by show _ ≤ (r 0).toInt + (1 : Int); omega) (by show (r 0).toInt + (1 : Int) < _; omega)
  refine ⟨⟨?_, ?_, fun w hw => ?_, fun k hk => ?_, fun s hs => ?_, fun s w hs hw => ?_⟩, fun k hk hn => ?_, fun s hs => ?_, fun s hs => ?_⟩
  · rw [tm_far (by decide) (by decide), tm_far (by decide) (by decide)]; exact h1
  · rw [t0, e0, tm_far (by decide) (by decide)]; refine ⟨by omega, by omega, h2.2.2⟩
  · have g := h3 w hw
    by_cases e : r (5 + 11 * w) = 1
    · have v := tkWV (g.2 e)
      have e1 : tmR r 4 (5 + 11 * w + 0) = r (5 + 11 * w + 0) := tmR_keep r 4 (by decide)
      rw [e1]
      exact ⟨g.1, fun _ => Wg_cong (fun q hq => tm_in hw hq e) v.2⟩
    · rw [tm_no (by decide) e]
      exact ⟨g.1, fun z => absurd z e⟩
  · exact Cg_cong (fun q hq => tm_far (by omega) (by omega)) (h4 k hk)
  · rw [tm_far (by omega) (by omega), tm_far (by omega) (by omega)]; exact h5 s hs
  · have g := h6 s w hs hw
    rw [tm_far (by omega) (by omega)]
    exact ⟨g.1, g.2.1, fun z => Og_cong (fun q hq => tm_far (by omega) (by omega)) (g.2.2 z)⟩
  · by_cases k0 : k = 0
    · subst k0
      show R 0 + 1 = r 0 + 1
      rw [hR.lo (by decide)]
    · by_cases k5 : k < 5 ∨ 49 ≤ k
      · rw [tm_far (by omega) k5, tk_far (by omega) k5]; exact hR.1 k hk hn
      · obtain ⟨w, q, hw, hq, rfl⟩ : ∃ w q, w < 4 ∧ q < 11 ∧ k = 5 + 11 * w + q := ⟨(k - 5) / 11, (k - 5) % 11, by omega, by omega, by omega⟩
        have eR := hR.w0 hw
        rcases (h3 w hw).1 with z | z
        · have z : r (5 + 11 * w) = 0 := z
          rw [tk_no hq (eR.trans z), tm_no hq (fun y => absurd (z.symm.trans y) (by decide))]
          exact hR.w hw hq
        · have z1 : r (5 + 11 * w) = 1 := z
          rw [tk_in hw hq (fun y => absurd ((eR.trans z1).symm.trans y) (by decide)), tm_in hw hq z1, tkW_cong (fun q hq => hR.w hw hq) hq, (tkWV ((h3 w hw).2 z)).1]
  · rw [tk_far (by omega) (by omega)]; exact hR.2.1 s hs
  · rw [tk_far (by omega) (by omega), tk_far (by omega) (by omega), tm_far (by omega) (by omega)]; exact hR.2.2 s hs
theorem ticks_ok {r R : Nat → Int32} {sc cn tb : Nat} (hI : Iv r sc cn tb) (hR : RelR sc R r) : ∀ n : Nat, tb + n ≤ 1000000000 → Iv (tmN r n) sc cn (tb + n) ∧ RelR sc (tkN R n) (tmN r n)
  | 0, _ => ⟨hI, hR⟩
  | n + 1, h => by
    obtain ⟨a, b⟩ := ticks_ok hI hR n (by omega)
    exact tick_ok a b (show tb + n < 1000000000 by omega)
theorem in160 {x : Int32} (h : ¬ inI x 1 60 = 0) : ∃ n : Nat, 1 ≤ n ∧ n ≤ 60 ∧ x = nI n ∧ wN x = n := by
  obtain ⟨h1, h2⟩ := inI_1 h
  have h1 : (1 : Int) ≤ x.toInt := h1
  have h2 : x.toInt ≤ (60 : Int) := h2
  have e : x = nI x.toInt.toNat := by rw [i_eq, nI_toInt (by omega)]; omega
  refine ⟨x.toInt.toNat, by omega, by omega, e, ?_⟩
  conv => lhs; rw [e]
  exact wN_nI (by omega)
theorem ds_pass {r R : Nat → Int32} {sc cn tb lh : Nat} {hq : Nat → Nat → Int32} {ru rs x : Int32} (hI : Iv r sc cn tb) (hR : RelR sc R r) (ht : tb ≤ 900000000) : DS (tb + 60) (sq_X7_pass lh ru rs R hq x) (sp_X8_doPass r rs x) ru lh hq R := by
  have g0 : Gd (tb + 60) R r := ⟨sc, cn, hI.tb (by omega), hR⟩
  unfold sq_X7_pass sp_X8_doPass
  by_cases h1 : inI x 1 60 = 0
  · rw [if_pos h1, if_pos h1]; exact DS.no g0 er_2
  rw [if_neg h1, if_neg h1]
  obtain ⟨n, n1, n60, en, ew⟩ := in160 h1
  rw [ew]
  obtain ⟨a, b⟩ := ticks_ok hI hR n (by omega)
  exact DS.yes (b.lo (by decide)) a.2.1.1 ⟨sc, cn, a.tb (by omega), b⟩
/-! Rounding, circles, bearings. -/
theorem i_xor {x y : Int32} (hy : 0 ≤ y.toInt) : (x ^^^ y) < 0 ↔ x < 0 := by
  have e : ∀ z : Int32, z < 0 ↔ z.toBitVec.msb = true := fun z => BitVec.slt_zero_iff_msb_cond
  have h : y.toBitVec.msb = false := by
    cases q : y.toBitVec.msb
    · rfl
    · have := (e y).mpr q
      rw [i_lt] at this
      have : y.toInt < 0 := this
      omega
  rw [e, e, Int32.toBitVec_xor, BitVec.msb_xor, h]
  simp
theorem fd_I {x y : Int32} (hy : 0 < y.toInt) : (sq_fdI x y).toInt = x.toInt / y.toInt := by
  have hx := fb_rng x
  have hy0 : 0 < y.toInt := hy
  have hr := i_rem (x := x) hy0
  have f := t_fd (x := x.toInt) hy0
  have hq := i_div (x := x) hy0
  unfold sq_fdI
  by_cases h : (0 : Int32) ≤ x ^^^ y
  · rw [if_pos h, hq]
    have hx0 : 0 ≤ x.toInt := by
      refine Int.not_lt.mp (fun z => ?_)
      have z1 : x < 0 := (i_lt _ _).mpr z
      have z2 := (i_xor (x := x) (y := y) (by omega)).mpr z1
      rw [i_lt] at z2
      rw [i_le] at h
      omega
    exact Int.tdiv_eq_ediv_of_nonneg hx0
  · rw [if_neg h]
    have hx0 : x.toInt < 0 := by
      have z2 : (x ^^^ y) < 0 := by
        rw [i_lt]; rw [i_le] at h; omega
      exact (i_lt _ _).mp ((i_xor (x := x) (y := y) (by omega)).mp z2)
    have hm0 : x.toInt.tmod y.toInt ≤ 0 := t_nonpos (by omega)
    by_cases h2 : x / y * y = x
    · rw [if_pos h2, hq, f]
      rw [h2, Int32.sub_self] at hr
      have hr : (0 : Int) = x.toInt.tmod y.toInt := hr
      rw [if_neg (by omega)]
    · rw [if_neg h2, f]
      have hn : ¬ x.toInt.tmod y.toInt = 0 := fun z => h2 (by
        rw [z] at hr
        have e : x - x / y * y = 0 := (i_eq _ _).mpr hr
        have e2 := Int32.sub_add_cancel x (x / y * y)
        rw [e, Int32.zero_add] at e2
        exact e2)
      rw [if_pos (by omega)]
      have hb := t_rng (x := x.toInt) hy0 (b := 2147483648) (by omega) (by omega) (by omega)
      rw [f, if_pos (by omega)] at hb
      have hq2 := fb_rng (x / y)
      rw [hq] at hq2
      have hd : -2147483648 ≤ x.toInt.tdiv y.toInt - 1 := by omega
      have es := fb_subI (x := x / y) (y := 1) (by rw [hq]; show _ ≤ _ - (1 : Int); omega) (by rw [hq]; show _ - (1 : Int) < _; omega)
      rw [es, hq]
      rfl
theorem ci_I (x : Int64) : (ciI x).toInt = x.toInt % 8000 := by
  have h := fmL_I (x := x) (y := 8000) (by decide)
  have h : (fmL x 8000).toInt = x.toInt % 8000 := h
  unfold ciI
  rw [Int64.toInt_toInt32, h, fb_bmod (by omega) (by omega)]
theorem ci_rng (x : Int64) : 0 ≤ (ciI x).toInt ∧ (ciI x).toInt < 8000 := by rw [ci_I]; omega
theorem ci_eq {x y : Int64} (h : x.toInt = y.toInt) : ciI x = ciI y := by rw [(l_eq x y).mpr h]
theorem sz_64 {x : Int32} (h : -2147483648 < x.toInt) : (szI x).toInt64 = (if 0 < x.toInt64 then x.toInt64 else -x.toInt64) := by
  have hx := fb_rng x
  have s := sz_t h
  have e64 := Int32.toInt_toInt64 x
  rw [l_eq, Int32.toInt_toInt64]
  by_cases z : (0 : Int64) < x.toInt64
  · rw [if_pos z, e64]
    have z : (0 : Int) < x.toInt64.toInt := (l_lt _ _).mp z
    rw [e64] at z
    exact s.2.2 (by omega)
  · rw [if_neg z]
    have z : ¬ (0 : Int) < x.toInt64.toInt := fun y => z ((l_lt _ _).mpr y)
    rw [e64] at z
    have en : (-x.toInt64).toInt = -x.toInt := by
      rw [Int64.toInt_neg, e64, fb_bmodL (by omega) (by omega)]
    rw [en]
    by_cases q : x.toInt < 0
    · exact s.2.1 q
    · rw [s.2.2 (by omega)]; omega
theorem ng_64 {x : Int32} (h : -2147483648 < x.toInt) : (-x).toInt64 = -x.toInt64 := Int32.toInt64_neg_of_ne (fun z => by rw [z] at h; exact absurd h (by decide +kernel))
theorem q_be {v m : Int64} (h0 : 0 ≤ v.toInt) (h1 : v.toInt ≤ m.toInt) (h2 : m.toInt ≤ 4294967296) (hm : 0 < m.toInt) : ((2000 * v) / m).toInt = 2000 * v.toInt / m.toInt ∧ 0 ≤ 2000 * v.toInt / m.toInt ∧ 2000 * v.toInt / m.toInt ≤ 2000 := by
  have e : (2000 * v).toInt = 2000 * v.toInt := fb_mulL (x := 2000) (y := v) (by show _ ≤ (2000 : Int) * _; omega) (by show (2000 : Int) * _ < _; omega)
  have g0 : 0 ≤ 2000 * v.toInt := by omega
  refine ⟨?_, Int.ediv_nonneg g0 (by omega), Int.ediv_le_of_le_mul hm ?_⟩
  · rw [l_div hm, e]; exact Int.tdiv_eq_ediv_of_nonneg g0
  · omega
theorem be_b {k : Int64} {v m : Int64} (hk : 0 ≤ k.toInt ∧ k.toInt ≤ 6000) (h0 : 0 ≤ v.toInt) (h1 : v.toInt ≤ m.toInt) (h2 : m.toInt ≤ 4294967296) (hm : 0 < m.toInt) : Bt (k + (2000 * v) / m).toInt32 0 8000 := by
  obtain ⟨e, b0, b1⟩ := q_be h0 h1 h2 hm
  have ea := fb_addL (x := k) (y := (2000 * v) / m) (by rw [e]; omega) (by rw [e]; omega)
  have e3 : (k + (2000 * v) / m).toInt32.toInt = k.toInt + 2000 * v.toInt / m.toInt := by
    rw [Int64.toInt_toInt32, ea, e, fb_bmod (by omega) (by omega)]
  unfold Bt
  rw [e3]
  omega
theorem be_b0 {v m : Int64} (h0 : 0 ≤ v.toInt) (h1 : v.toInt ≤ m.toInt) (h2 : m.toInt ≤ 4294967296) (hm : 0 < m.toInt) : Bt ((2000 * v) / m).toInt32 0 8000 := by
  obtain ⟨e, b0, b1⟩ := q_be h0 h1 h2 hm
  have e3 : ((2000 * v) / m).toInt32.toInt = 2000 * v.toInt / m.toInt := by
    rw [Int64.toInt_toInt32, e, fb_bmod (by omega) (by omega)]
  unfold Bt
  rw [e3]
  omega
theorem cm_le {x : Int32} : (lg_cmp x.toInt64 0 ≤ 0) ↔ x ≤ 0 := by
  rw [lg_cmp_le, l_le, i_le, Int32.toInt_toInt64]; exact Iff.rfl
theorem cm_ge {x : Int32} : (0 ≤ lg_cmp x.toInt64 0) ↔ 0 ≤ x := by
  rw [lg_cmp_ge, l_le, i_le, Int32.toInt_toInt64]; exact Iff.rfl
theorem cm_lt {x : Int32} : (lg_cmp x.toInt64 0 < 0) ↔ x < 0 := by
  rw [lg_cmp_lt, l_lt, i_lt, Int32.toInt_toInt64]; exact Iff.rfl
theorem bear {dx dy : Int32} (hx : -2147483648 < dx.toInt) (hy : -2147483648 < dy.toInt) (hn : ¬ (dx = 0 ∧ dy = 0)) : sq_X7_bearingOf dx.toInt64 dy.toInt64 = sp_X8_bearingOf dx dy ∧ Bt (sp_X8_bearingOf dx dy) 0 8000 := by
  have rx := fb_rng dx
  have ry := fb_rng dy
  have sx := sz_t hx
  have sy := sz_t hy
  have m0 := szI_m hn
  have ex : (szI dx).toInt64.toInt = (szI dx).toInt := Int32.toInt_toInt64 _
  have ey : (szI dy).toInt64.toInt = (szI dy).toInt := Int32.toInt_toInt64 _
  have ax := szI_b dx
  have ay := szI_b dy
  have em : ((szI dx).toInt64 + (szI dy).toInt64).toInt = (szI dx).toInt + (szI dy).toInt := by
    rw [fb_addL (by rw [ex, ey]; omega) (by rw [ex, ey]; omega), ex, ey]
  have mz : ((szI dx).toInt64 + (szI dy).toInt64).toInt ≠ 0 := fun z => m0 ((l_eq _ _).mpr z)
  have hm : 0 < ((szI dx).toInt64 + (szI dy).toInt64).toInt := by rw [em] at mz ⊢; omega
  have h2 : ((szI dx).toInt64 + (szI dy).toInt64).toInt ≤ 4294967296 := by rw [em]; omega
  have hcz : ¬ lg_cmp ((szI dx).toInt64 + (szI dy).toInt64) 0 = 0 := fun z => m0 ((lg_cmp_eq _ _).mp z)
  have n1 := ng_64 hx
  have n2 := ng_64 hy
  have v1 : dx.toInt64.toInt = dx.toInt := Int32.toInt_toInt64 _
  have v2 : dy.toInt64.toInt = dy.toInt := Int32.toInt_toInt64 _
  have v3 : (-dx).toInt64.toInt = -dx.toInt := by rw [Int32.toInt_toInt64, fb_negI (by omega)]
  have v4 : (-dy).toInt64.toInt = -dy.toInt := by rw [Int32.toInt_toInt64, fb_negI (by omega)]
  unfold sq_X7_bearingOf sp_X8_bearingOf
  rw [← sz_64 hx, ← sz_64 hy, if_neg hcz, ← n1, ← n2]
  by_cases a : dx ≤ 0
  · rw [if_pos (cm_le.mpr a), if_pos a]
    have a' : dx.toInt ≤ 0 := (i_le _ _).mp a
    by_cases b : dy ≤ 0
    · rw [if_pos (cm_le.mpr b), if_pos b]
      have b' : dy.toInt ≤ 0 := (i_le _ _).mp b
      by_cases d : 0 ≤ dx
      · rw [if_pos (cm_ge.mpr d), if_pos d]
        have d' : 0 ≤ dx.toInt := (i_le _ _).mp d
        exact ⟨rfl, be_b (by decide) (by rw [v1]; omega) (by rw [v1, em]; omega) h2 hm⟩
      · rw [if_neg (fun z => d (cm_ge.mp z)), if_neg d, if_neg (fun z => by rw [i_lt] at z; have z : (0 : Int) < dy.toInt := z; omega)]
        exact ⟨rfl, be_b (by decide) (by rw [v4]; omega) (by rw [v4, em]; have z1 := sy.2.1; have z2 := sy.2.2; omega) h2 hm⟩
    · rw [if_neg (fun z => b (cm_le.mp z)), if_neg b, if_neg (fun z => by rw [i_lt] at z; have z : (0 : Int) < dx.toInt := z; omega)]
      exact ⟨rfl, be_b (by decide) (by rw [v3]; omega) (by rw [v3, em]; have z1 := sx.2.1; have z2 := sx.2.2; omega) h2 hm⟩
  · rw [if_neg (fun z => a (cm_le.mp z)), if_neg a]
    have a' : ¬ dx.toInt ≤ 0 := fun z => a ((i_le _ _).mpr z)
    by_cases b : dy < 0
    · have b' : dy.toInt < 0 := (i_lt _ _).mp b
      have d : (0 : Int32) ≤ dx := (i_le _ _).mpr (by show (0 : Int) ≤ _; omega)
      have b2 : dy ≤ 0 := (i_le _ _).mpr (by show _ ≤ (0 : Int); omega)
      rw [if_pos (cm_lt.mpr b), if_pos b, if_pos (cm_le.mpr b2), if_pos b2, if_pos (cm_ge.mpr d), if_pos d]
      exact ⟨rfl, be_b (by decide) (by rw [v1]; omega) (by rw [v1, em, sx.2.2 (by omega)]; omega) h2 hm⟩
    · rw [if_neg (fun z => b (cm_lt.mp z)), if_neg b]
      have b' : ¬ dy.toInt < 0 := fun z => b ((i_lt _ _).mpr z)
      exact ⟨rfl, be_b0 (by rw [v2]; omega) (by rw [v2, em, sy.2.2 (by omega)]; omega) h2 hm⟩
