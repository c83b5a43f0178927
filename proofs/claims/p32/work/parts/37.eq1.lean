/-! The class's row and the reference's: how they belong together, what holds of them. -/
theorem upd_at (f : Nat → Int32) (k : Nat) (v : Int32) : upd f k v k = v := if_pos rfl
theorem upd_no {f : Nat → Int32} {k j : Nat} {v : Int32} (h : j ≠ k) : upd f k v j = f j := if_neg h
def Bt (x : Int32) (lo hi : Int) : Prop := lo ≤ x.toInt ∧ x.toInt ≤ hi
/-- the numbers of a hung wire -/
def Wg (f : Nat → Int32) : Prop := Bt (f 1) (-5000) 5000 ∧ Bt (f 2) (-5000) 5000 ∧ Bt (f 3) 1 200 ∧ Bt (f 4) 10 800 ∧ Bt (f 5) (-20) 20 ∧ Bt (f 6) (-20) 20 ∧ Bt (f 7) 0 2 ∧ Bt (f 8) 0 7 ∧ Bt (f 9) 0 500 ∧ 0 ≤ (f 10).toInt ∧ (f 10).toInt < 4 * (1 + (f 4).toInt / 100)
def Cg (f : Nat → Int32) : Prop := 0 ≤ (f 0).toInt ∧ (f 0).toInt < (f 1).toInt ∧ (f 1).toInt ≤ 800 ∧ Bt (f 2) (-50) 50 ∧ Bt (f 3) (-50) 50
def Og (f : Nat → Int32) : Prop := Bt (f 1) (-100000000) 100000000 ∧ Bt (f 2) (-100000000) 100000000
def RelR (sc : Nat) (R r : Nat → Int32) : Prop := (∀ k : Nat, k < 204 → (∀ s : Nat, s < 5 → k ≠ 69 + 3 * s + 2) → R k = r k) ∧ (∀ s : Nat, s < 5 → B01 (R (204 + s))) ∧ ∀ s : Nat, s < sc → (R (204 + s) = 1 ∧ R (69 + 3 * s + 2) = r (69 + 3 * s + 2) ∧ 0 ≤ (r (69 + 3 * s + 2)).toInt) ∨ (R (204 + s) = 0 ∧ r (69 + 3 * s + 2) = -100005)
def Iv (r : Nat → Int32) (sc cn tb : Nat) : Prop := (r 3 = nI cn ∧ cn ≤ 5 ∧ r 4 = nI sc ∧ sc ≤ 5) ∧ (0 ≤ (r 0).toInt ∧ (r 0).toInt ≤ tb ∧ Bt (r 1) 0 500) ∧ (∀ w : Nat, w < 4 → B01 (r (5 + 11 * w + 0)) ∧ (r (5 + 11 * w + 0) = 1 → Wg (fun q => r (5 + 11 * w + q)))) ∧ (∀ k : Nat, k < cn → Cg (fun q => r (49 + 4 * k + q))) ∧ (∀ s : Nat, s < sc → Bt (r (69 + 3 * s)) 1 800 ∧ Bt (r (69 + 3 * s + 1)) 0 7999) ∧ ∀ s w : Nat, s < 5 → w < 4 → B01 (r (84 + 6 * (4 * s + w) + 0)) ∧ (sc ≤ s → r (84 + 6 * (4 * s + w) + 0) = 0) ∧ (r (84 + 6 * (4 * s + w) + 0) = 1 → Og (fun q => r (84 + 6 * (4 * s + w) + q)))
theorem RelR.lo {sc : Nat} {R r : Nat → Int32} (h : RelR sc R r) {k : Nat} (hk : k < 69) : R k = r k := h.1 k (by omega) (fun s _ => by omega)
theorem RelR.w {sc : Nat} {R r : Nat → Int32} (h : RelR sc R r) {w q : Nat} (hw : w < 4) (hq : q < 11) : R (5 + 11 * w + q) = r (5 + 11 * w + q) := h.lo (by omega)
theorem RelR.w0 {sc : Nat} {R r : Nat → Int32} (h : RelR sc R r) {w : Nat} (hw : w < 4) : R (5 + 11 * w) = r (5 + 11 * w) := h.lo (by omega)
theorem RelR.c {sc : Nat} {R r : Nat → Int32} (h : RelR sc R r) {k q : Nat} (hk : k < 5) (hq : q < 4) : R (49 + 4 * k + q) = r (49 + 4 * k + q) := h.lo (by omega)
theorem RelR.s0 {sc : Nat} {R r : Nat → Int32} (h : RelR sc R r) {s : Nat} (hs : s < 5) : R (69 + 3 * s) = r (69 + 3 * s) := h.1 _ (by omega) (fun t _ => by omega)
theorem RelR.s1 {sc : Nat} {R r : Nat → Int32} (h : RelR sc R r) {s : Nat} (hs : s < 5) : R (69 + 3 * s + 1) = r (69 + 3 * s + 1) := h.1 _ (by omega) (fun t _ => by omega)
theorem RelR.o {sc : Nat} {R r : Nat → Int32} (h : RelR sc R r) {s w q : Nat} (hs : s < 5) (hw : w < 4) (hq : q < 6) : R (84 + 6 * (4 * s + w) + q) = r (84 + 6 * (4 * s + w) + q) := h.1 _ (by omega) (fun t _ => by omega)
theorem RelR.o0 {sc : Nat} {R r : Nat → Int32} (h : RelR sc R r) {s w : Nat} (hs : s < 5) (hw : w < 4) : R (84 + 6 * (4 * s + w)) = r (84 + 6 * (4 * s + w)) := h.1 _ (by omega) (fun t _ => by omega)
theorem Iv.wb {r R : Nat → Int32} {sc cn tb : Nat} (h : Iv r sc cn tb) (hR : RelR sc R r) : WB R :=
  ⟨fun w hw => by rw [hR.w hw (by decide)]; exact (h.2.2.1 w hw).1, hR.2.1, fun s w hs hw => by rw [hR.o hs hw (by decide)]; exact (h.2.2.2.2.2 s w hs hw).1⟩
theorem b01_of {x : Int32} (h : B01 x) : (¬ x = 0) → x = 1 := fun z => h.resolve_left z
theorem i_100 {x : Int32} (h : 0 ≤ x.toInt) : (x / 100).toInt = x.toInt / 100 := by
  rw [i_div (by decide)]
  exact Int.tdiv_eq_ediv_of_nonneg h
theorem q_toInt {x : Int32} (h : Bt x 10 800) : (1 + x / 100).toInt = 1 + x.toInt / 100 ∧ (4 * (1 + x / 100)).toInt = 4 * (1 + x.toInt / 100) := by
  obtain ⟨h1, h2⟩ := h
  have e := i_100 (x := x) (by omega)
  have e1 : (1 + x / 100).toInt = 1 + x.toInt / 100 := by
    rw [Int32.toInt_add, e, fb_bmod (by show _ ≤ (1 : Int) + _; omega) (by show (1 : Int) + _ < _; omega)]; rfl
  refine ⟨e1, ?_⟩
  rw [Int32.toInt_mul, e1, fb_bmod (by show _ ≤ (4 : Int) * _; omega) (by show (4 : Int) * _ < _; omega)]; rfl
/-- a hung wire keeps the ticks of a quarter that hang on its depth -/
theorem qd_in2 {x : Int32} (h : Bt x 10 800) : qdI x = 1 + x / 100 := qd_ne (fun z => by rw [z] at h; exact absurd h.1 (by decide))
theorem ne_of_toInt {x y : Int32} (h : x.toInt ≠ y.toInt) : ¬ x = y := fun z => h (by rw [z])
theorem Iv.hq {r : Nat → Int32} {sc cn tb : Nat} (h : Iv r sc cn tb) : HQw r := fun w hw h1 => by
  have g := (h.2.2.1 w hw).2 h1
  have q := (q_toInt g.2.2.2.1).1
  have d := g.2.2.2.1
  have m := g.2.2.1
  unfold Bt at d m
  refine ⟨fun z => ?_, ne_of_toInt ?_, ne_of_toInt ?_⟩
  · rw [i_lt] at z
    have z : (r (5 + 11 * w + 3)).toInt < 1 := z
    have m1 := m.1
    dsimp only at m1
    omega
  · dsimp only at q
    rw [q]
    show _ ≠ (0 : Int)
    dsimp only at d
    omega
  · show _ ≠ (0 : Int)
    dsimp only at d
    omega
theorem Iv.ht {r : Nat → Int32} {sc cn tb : Nat} (h : Iv r sc cn tb) : HT r := fun w hw h1 => by
  have g := (h.2.2.1 w hw).2 h1
  have q := (q_toInt g.2.2.2.1).2
  have d := g.2.2.2.1
  unfold Bt at d
  refine ne_of_toInt ?_
  dsimp only at q d
  rw [q]
  show _ ≠ (0 : Int)
  omega
theorem Iv.ha {r : Nat → Int32} {sc cn tb : Nat} (h : Iv r sc cn tb) : HAw r := fun w hw h1 => ((h.2.2.1 w hw).2 h1).2.2.2.2.2.2.2.2.1
theorem Iv.tb {r : Nat → Int32} {sc cn tb tb' : Nat} (h : Iv r sc cn tb) (ht : tb ≤ tb') : Iv r sc cn tb' := ⟨h.1, ⟨h.2.1.1, by have := h.2.1.2.1; omega, h.2.1.2.2⟩, h.2.2⟩
/-! puts into a row -/
theorem wPut_in {r : Nat → Int32} {w q : Nat} {f : Nat → Int32} (hq : q < 11) : wPut r w f (5 + 11 * w + q) = f q := by
  unfold wPut; rw [if_pos (by omega), show 5 + 11 * w + q - (5 + 11 * w) = q by omega]
theorem wPut_no {r : Nat → Int32} {w k : Nat} {f : Nat → Int32} (h : k < 5 + 11 * w ∨ 5 + 11 * w + 11 ≤ k) : wPut r w f k = r k := if_neg (by omega)
theorem wPut_ne {r : Nat → Int32} {w v q : Nat} {f : Nat → Int32} (h : v ≠ w) (hq : q < 11) : wPut r w f (5 + 11 * v + q) = r (5 + 11 * v + q) := wPut_no (by omega)
theorem wPut_ext {r : Nat → Int32} {w : Nat} {f f' : Nat → Int32} (h : ∀ q : Nat, q < 11 → f q = f' q) : wPut r w f = wPut r w f' := by
  funext k
  unfold wPut
  split
  · exact h _ (by omega)
  · rfl
theorem upd_w0 {r : Nat → Int32} {w q : Nat} {v : Int32} (hq : q < 11) : upd r (5 + 11 * w + q) v = wPut r w (upd (fun j => r (5 + 11 * w + j)) q v) := by
  funext k
  by_cases h : 5 + 11 * w ≤ k ∧ k < 5 + 11 * w + 11
  · obtain ⟨j, hj, rfl⟩ : ∃ j, j < 11 ∧ k = 5 + 11 * w + j := ⟨k - (5 + 11 * w), by omega, by omega⟩
    rw [wPut_in hj]
    unfold upd
    by_cases e : j = q
    · rw [if_pos (by omega), if_pos e]
    · rw [if_neg (by omega), if_neg e]
  · rw [wPut_no (by omega), upd_no (by omega)]
theorem upd_wP {r : Nat → Int32} {w q : Nat} {f : Nat → Int32} {v : Int32} (hq : q < 11) : upd (wPut r w f) (5 + 11 * w + q) v = wPut r w (upd f q v) := by
  funext k
  by_cases h : 5 + 11 * w ≤ k ∧ k < 5 + 11 * w + 11
  · obtain ⟨j, hj, rfl⟩ : ∃ j, j < 11 ∧ k = 5 + 11 * w + j := ⟨k - (5 + 11 * w), by omega, by omega⟩
    rw [wPut_in hj]
    unfold upd
    by_cases e : j = q
    · rw [if_pos (by omega), if_pos e]
    · rw [if_neg (by omega), if_neg e, wPut_in hj]
  · rw [wPut_no (by omega), upd_no (by omega), wPut_no (by omega)]
theorem RelR.wput {sc : Nat} {R r : Nat → Int32} (h : RelR sc R r) (hsc : sc ≤ 5) {w : Nat} (hw : w < 4) {f f' : Nat → Int32} (hf : ∀ q : Nat, q < 11 → f q = f' q) : RelR sc (wPut R w f) (wPut r w f') := by
  refine ⟨fun k hk hn => ?_, fun s hs => by rw [wPut_no (by omega)]; exact h.2.1 s hs, fun s hs => by rw [wPut_no (by omega), wPut_no (by omega), wPut_no (by omega)]; exact h.2.2 s hs⟩
  unfold wPut
  split
  · exact hf _ (by omega)
  · exact h.1 k hk hn
theorem RelR.vd {sc : Nat} {R r : Nat → Int32} (h : RelR sc R r) {cn tb : Nat} (hI : Iv r sc cn tb) {w : Nat} (hw : w < 4) : RelR sc (vdR R w sc) (vdR r w 5) := by
  have hsc := hI.1.2.2.2
  have nv : ∀ (x : Nat → Int32) (i s : Nat), s < 5 → vdR x w i (69 + 3 * s + 2) = x (69 + 3 * s + 2) := fun x i s hs => vdR_lo x w i (by omega)
  have nh : ∀ (x : Nat → Int32) (i s : Nat), s < 5 → i ≤ 5 → vdR x w i (204 + s) = x (204 + s) := fun x i s hs hi => if_neg (fun z => by omega)
  refine ⟨fun k hk hn => ?_, fun s hs => by rw [nh R sc s hs hsc]; exact h.2.1 s hs, fun s hs => by rw [nh R sc s (by omega) hsc, nv R sc s (by omega), nv r 5 s (by omega)]; exact h.2.2 s hs⟩
  by_cases h1 : 84 ≤ k ∧ (k - 84) % 24 = 6 * w
  · have e : k = 84 + 6 * (4 * ((k - 84) / 24) + w) := by omega
    have h24 : (k - 84) / 24 < 5 := by omega
    generalize (k - 84) / 24 = s at e h24
    subst e
    have e5 : vdR r w 5 (84 + 6 * (4 * s + w)) = 0 := if_pos ⟨by omega, by omega, by omega⟩
    rw [e5]
    by_cases h2 : s < sc
    · exact if_pos ⟨by omega, by omega, by omega⟩
    · have e6 : vdR R w sc (84 + 6 * (4 * s + w)) = R (84 + 6 * (4 * s + w)) := if_neg (fun z => by omega)
      rw [e6, h.o0 h24 hw]
      exact (hI.2.2.2.2.2 s w h24 hw).2.1 (by omega)
  · have e5 : vdR r w 5 k = r k := if_neg (fun z => h1 ⟨z.1, z.2.1⟩)
    have e6 : vdR R w sc k = R k := if_neg (fun z => h1 ⟨z.1, z.2.1⟩)
    rw [e5, e6]
    exact h.1 k hk hn
theorem Iv.vd {r : Nat → Int32} {sc cn tb : Nat} (h : Iv r sc cn tb) {w : Nat} (hw : w < 4) : Iv (vdR r w 5) sc cn tb := by
  obtain ⟨h1, h2, h3, h4, h5, h6⟩ := h
  have lo : ∀ k : Nat, k < 84 → vdR r w 5 k = r k := fun k hk => vdR_lo r w 5 hk
  refine ⟨by rw [lo 3 (by decide), lo 4 (by decide)]; exact h1, by rw [lo 0 (by decide), lo 1 (by decide)]; exact h2, fun v hv => ?_, fun k hk => ?_, fun s hs => ?_, fun s v hs hv => ?_⟩
  · have e : (fun q => vdR r w 5 (5 + 11 * v + q)) = fun q => if q < 11 then r (5 + 11 * v + q) else vdR r w 5 (5 + 11 * v + q) := by
      funext q
      split
      · exact lo _ (by omega)
      · rfl
    rw [lo _ (by omega), e]
    exact h3 v hv
  · have e : (fun q => vdR r w 5 (49 + 4 * k + q)) = fun q => if q < 4 then r (49 + 4 * k + q) else vdR r w 5 (49 + 4 * k + q) := by
      funext q
      split
      · exact lo _ (by omega)
      · rfl
    rw [e]
    exact h4 k hk
  · rw [lo _ (by omega), lo _ (by omega)]; exact h5 s hs
  · have g := h6 s v hs hv
    have at1 : ∀ q : Nat, 0 < q → q < 6 → vdR r w 5 (84 + 6 * (4 * s + v) + q) = r (84 + 6 * (4 * s + v) + q) := fun q q0 q6 => if_neg (fun z => by omega)
    by_cases e : v = w
    · subst e
      have e0 : vdR r v 5 (84 + 6 * (4 * s + v) + 0) = 0 := if_pos ⟨by omega, by omega, by omega⟩
      rw [e0]
      exact ⟨Or.inl rfl, fun _ => rfl, fun z => absurd z (by decide)⟩
    · have e0 : vdR r w 5 (84 + 6 * (4 * s + v) + 0) = r (84 + 6 * (4 * s + v) + 0) := if_neg (fun z => by omega)
      rw [e0]
      refine ⟨g.1, g.2.1, fun z => ?_⟩
      have o := g.2.2 z
      unfold Og at o ⊢
      dsimp only at o ⊢
      rw [at1 1 (by decide) (by decide), at1 2 (by decide) (by decide)]
      exact o
theorem Iv.wput {r : Nat → Int32} {sc cn tb : Nat} (h : Iv r sc cn tb) {w : Nat} (hw : w < 4) {f : Nat → Int32} (h0 : B01 (f 0)) (hg : f 0 = 1 → Wg f) : Iv (wPut r w f) sc cn tb := by
  obtain ⟨h1, h2, h3, h4, h5, h6⟩ := h
  have lo : ∀ k : Nat, (k < 5 ∨ 49 ≤ k) → wPut r w f k = r k := fun k hk => wPut_no (by omega)
  have hc := h1.2.1
  have hs5 := h1.2.2.2
  refine ⟨by rw [lo 3 (by decide), lo 4 (by decide)]; exact h1, by rw [lo 0 (by decide), lo 1 (by decide)]; exact h2, fun v hv => ?_, fun k hk => ?_, fun s hs => ?_, fun s v hs hv => ?_⟩
  · by_cases e : v = w
    · subst e
      rw [wPut_in (by decide)]
      refine ⟨h0, fun z => ?_⟩
      have g := hg z
      unfold Wg at g ⊢
      simp only [wPut_in (show 1 < 11 by decide), wPut_in (show 2 < 11 by decide), wPut_in (show 3 < 11 by decide), wPut_in (show 4 < 11 by decide), wPut_in (show 5 < 11 by decide), wPut_in (show 6 < 11 by decide), wPut_in (show 7 < 11 by decide), wPut_in (show 8 < 11 by decide), wPut_in (show 9 < 11 by decide), wPut_in (show 10 < 11 by decide)]
      exact g
    · rw [wPut_ne e (by decide)]
      refine ⟨(h3 v hv).1, fun z => ?_⟩
      have g := (h3 v hv).2 z
      unfold Wg at g ⊢
      simp only [wPut_ne e (show 1 < 11 by decide), wPut_ne e (show 2 < 11 by decide), wPut_ne e (show 3 < 11 by decide), wPut_ne e (show 4 < 11 by decide), wPut_ne e (show 5 < 11 by decide), wPut_ne e (show 6 < 11 by decide), wPut_ne e (show 7 < 11 by decide), wPut_ne e (show 8 < 11 by decide), wPut_ne e (show 9 < 11 by decide), wPut_ne e (show 10 < 11 by decide)]
      exact g
  · have g := h4 k hk
    unfold Cg at g ⊢
    dsimp only at g ⊢
    rw [lo _ (by omega), lo _ (by omega), lo _ (by omega), lo _ (by omega)]
    exact g
  · rw [lo _ (by omega), lo _ (by omega)]; exact h5 s hs
  · have g := h6 s v hs hv
    rw [lo _ (by omega)]
    refine ⟨g.1, g.2.1, fun z => ?_⟩
    have o := g.2.2 z
    unfold Og at o ⊢
    dsimp only at o ⊢
    rw [lo _ (by omega), lo _ (by omega)]
    exact o
/-! counting -/
theorem ctI_smI {f f' : Nat → Int32} (h : ∀ k : Nat, k < 4 → f k = f' k ∧ B01 (f' k)) : ctI f 4 = smI f' 4 ∧ 0 ≤ (smI f' 4).toInt ∧ (smI f' 4).toInt ≤ 4 := by
  obtain ⟨e0, b0⟩ := h 0 (by decide)
  obtain ⟨e1, b1⟩ := h 1 (by decide)
  obtain ⟨e2, b2⟩ := h 2 (by decide)
  obtain ⟨e3, b3⟩ := h 3 (by decide)
  simp only [ctI, smI, e0, e1, e2, e3]
  rcases b0 with q0 | q0 <;> rcases b1 with q1 | q1 <;> rcases b2 with q2 | q2 <;> rcases b3 with q3 | q3 <;> rw [q0, q1, q2, q3] <;> decide
