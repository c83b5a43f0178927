/-! The law's world: the object's cells, what holds of its row, what questions answer there. -/
def Wd (g : Gf) (c : Mp) (lh : Nat) (rs : Int32) (R : Nat → Int32) (hq : Nat → Nat → Int32) : Prop := c 0 = plC g (nI lh) 0 rs ∧ Bk g c 1 R ∧ Hx g c hq ∧ c 348 = otC g (nI 0) 0 0 ∧ lh ≤ 5
theorem Wd.kept {g : Gf} {c c' : Mp} {lh : Nat} {rs : Int32} {R : Nat → Int32} {hq : Nat → Nat → Int32} (h : Wd g c lh rs R hq) (hc : ∀ i : Nat, i < 352 → c' i = c i) : Wd g c' lh rs R hq :=
  ⟨(hc 0 (by decide)).trans h.1, h.2.1.kept (fun j _ _ => hc j (by omega)), h.2.2.1.kept (fun j _ _ => hc j (by omega)), (hc 348 (by decide)).trans h.2.2.2.1, h.2.2.2.2⟩
theorem Wd.up {g : Gf} {c : Mp} {lh : Nat} {rs : Int32} {R : Nat → Int32} {hq : Nat → Nat → Int32} (h : Wd g c lh rs R hq) {i : Nat} {e : Option va_E} (hi : 352 ≤ i) : Wd g (va_up c i e) lh rs R hq := h.kept (fun j hj => mu_ne (by omega) _)
theorem rmL_le {lh : Nat} (h : lh ≤ 5) : rmL 0 lh ≤ 5 := by
  unfold rmL
  rw [if_pos rfl]
  split <;> omega
/-- what an act leaves -/
theorem paW {g : Gf} {c c' : Mp} {n n' lh lh' : Nat} {rs rs' x v : Int32} {R R' : Nat → Int32} {hq hq' : Nat → Nat → Int32} {S : ClT} (hp : PA g c n 0 S x n' c') (W : Wd g c lh rs R hq) (hn : 352 ≤ n) (hS : S = (v, rs', R', lh', hq')) (h5 : lh' ≤ 5) : n ≤ n' ∧ x = v ∧ Wd g c' lh' rs' R' hq' ∧ Fn c c' n := by
  subst hS
  obtain ⟨p1, p2, p3, p4, p5, p6⟩ := hp
  exact ⟨p1, p2, ⟨p3, p4, p5, (p6 348 (by decide) (by omega)).trans W.2.2.2.1, h5⟩, p6⟩
def Ex (R : Nat → Int32) (sc : Nat) : Prop := (∀ s w : Nat, s < sc → w < 4 → R (84 + 6 * (4 * s + w) + 0) = 1 → R (5 + 11 * w + 0) = 1 ∧ 0 ≤ (R (84 + 6 * (4 * s + w) + 3)).toInt ∧ Bt (R (84 + 6 * (4 * s + w) + 4)) 1 60 ∧ (R (84 + 6 * (4 * s + w) + 5)).toInt ≤ (R 0).toInt) ∧ ∀ s : Nat, s < sc → R (204 + s) = 1 → Bt (R (69 + 3 * s + 2)) 0 7999
def Jv (R : Nat → Int32) (sc cn tb : Nat) : Prop := (∃ r : Nat → Int32, Iv r sc cn tb ∧ RelR sc R r) ∧ Ex R sc
section JV
variable {R : Nat → Int32} {sc cn tb : Nat}
theorem Jv.wb (J : Jv R sc cn tb) : WB R := by obtain ⟨⟨r, hI, hR⟩, _⟩ := J; exact hI.wb hR
theorem Jv.s4 (J : Jv R sc cn tb) : R 4 = nI sc := by obtain ⟨⟨r, hI, hR⟩, _⟩ := J; exact (hR.lo (by decide)).trans hI.1.2.2.1
theorem Jv.c3 (J : Jv R sc cn tb) : R 3 = nI cn := by obtain ⟨⟨r, hI, hR⟩, _⟩ := J; exact (hR.lo (by decide)).trans hI.1.1
theorem Jv.s5 (J : Jv R sc cn tb) : sc ≤ 5 := by obtain ⟨⟨r, hI, hR⟩, _⟩ := J; exact hI.1.2.2.2
theorem Jv.c5 (J : Jv R sc cn tb) : cn ≤ 5 := by obtain ⟨⟨r, hI, hR⟩, _⟩ := J; exact hI.1.2.1
theorem Jv.t (J : Jv R sc cn tb) : 0 ≤ (R 0).toInt ∧ (R 0).toInt ≤ tb := by
  obtain ⟨⟨r, hI, hR⟩, _⟩ := J
  rw [hR.lo (by decide)]
  exact ⟨hI.2.1.1, hI.2.1.2.1⟩
theorem Jv.tol (J : Jv R sc cn tb) : Bt (R 1) 0 500 := by
  obtain ⟨⟨r, hI, hR⟩, _⟩ := J
  rw [hR.lo (by decide)]
  exact hI.2.1.2.2
theorem Jv.b (J : Jv R sc cn tb) {w : Nat} (hw : w < 4) : B01 (R (5 + 11 * w + 0)) := J.wb.1 w hw
theorem Jv.ob (J : Jv R sc cn tb) {s w : Nat} (hs : s < 5) (hw : w < 4) : B01 (R (84 + 6 * (4 * s + w) + 0)) := J.wb.2.2 s w hs hw
theorem Jv.wg (J : Jv R sc cn tb) {w : Nat} (hw : w < 4) (h1 : R (5 + 11 * w + 0) = 1) : Wg (fun q => R (5 + 11 * w + q)) := by
  obtain ⟨⟨r, hI, hR⟩, _⟩ := J
  exact Wg_cong (f := fun q => r (5 + 11 * w + q)) (fun q hq => hR.w hw hq) ((hI.2.2.1 w hw).2 (by rw [← hR.w hw (by decide)]; exact h1))
theorem Jv.og (J : Jv R sc cn tb) {s w : Nat} (hs : s < 5) (hw : w < 4) (h1 : R (84 + 6 * (4 * s + w) + 0) = 1) : Og (fun q => R (84 + 6 * (4 * s + w) + q)) := by
  obtain ⟨⟨r, hI, hR⟩, _⟩ := J
  exact Og_cong (f := fun q => r (84 + 6 * (4 * s + w) + q)) (fun q hq => hR.o hs hw hq) ((hI.2.2.2.2.2 s w hs hw).2.2 (by rw [← hR.o hs hw (by decide)]; exact h1))
theorem Jv.oz (J : Jv R sc cn tb) {s w : Nat} (hs : s < 5) (hw : w < 4) (h : sc ≤ s) : R (84 + 6 * (4 * s + w) + 0) = 0 := by
  obtain ⟨⟨r, hI, hR⟩, _⟩ := J
  rw [hR.o hs hw (by decide)]
  exact (hI.2.2.2.2.2 s w hs hw).2.1 h
theorem Jv.st (J : Jv R sc cn tb) {s : Nat} (hs : s < sc) : Bt (R (69 + 3 * s)) 1 800 ∧ Bt (R (69 + 3 * s + 1)) 0 7999 := by
  obtain ⟨⟨r, hI, hR⟩, _⟩ := J
  have s5 := hI.1.2.2.2
  rw [hR.s0 (by omega), hR.s1 (by omega)]
  exact hI.2.2.2.2.1 s hs
theorem Jv.v (J : Jv R sc cn tb) {s w : Nat} (hs : s < sc) (hw : w < 4) (h : R (84 + 6 * (4 * s + w) + 0) = 1) : R (5 + 11 * w + 0) = 1 ∧ 0 ≤ (R (84 + 6 * (4 * s + w) + 3)).toInt ∧ Bt (R (84 + 6 * (4 * s + w) + 4)) 1 60 ∧ (R (84 + 6 * (4 * s + w) + 5)).toInt ≤ (R 0).toInt := J.2.1 s w hs hw h
theorem Jv.o (J : Jv R sc cn tb) {s : Nat} (hs : s < sc) (h : R (204 + s) = 1) : Bt (R (69 + 3 * s + 2)) 0 7999 := J.2.2 s hs h
theorem Jv.le (J : Jv R sc cn tb) {tb' : Nat} (h : tb ≤ tb') : Jv R sc cn tb' := by
  obtain ⟨⟨r, hI, hR⟩, e⟩ := J
  exact ⟨⟨r, hI.tb h, hR⟩, e⟩
/-- a row whose reference row is good, by what is known of its counts -/
theorem Jv.of {r : Nat → Int32} (h : Gd tb R r) (h3 : R 3 = nI cn) (h4 : R 4 = nI sc) (hc : cn ≤ 5) (hs : sc ≤ 5) (hE : Ex R sc) : Jv R sc cn tb := by
  obtain ⟨sc', cn', hI, hR⟩ := h
  have e3 : r 3 = nI cn := (hR.lo (by decide)).symm.trans h3
  have e4 : r 4 = nI sc := (hR.lo (by decide)).symm.trans h4
  obtain ⟨a, b⟩ := Gd.fix ⟨sc', cn', hI, hR⟩ e3 e4 hc hs
  exact ⟨⟨r, a, b⟩, hE⟩
end JV
section KW
variable {lh : Nat} {rs : Int32} {R : Nat → Int32} {hq : Nat → Nat → Int32} {sc cn tb : Nat}
theorem kw_wire (l : Launch) (g : Gf) (n : Nat) (c : Mp) (W : Wd g c lh rs R hq) (J : Jv R sc cn tb) (x y : Int32) {v : Int32} (hv : sq_X7_wire R x y = v) : Ct l g yX7_wire wsX7_wire 2 42 0 0 [.ref (gz g + 0), .int x, .int y] n c (Qi g (fun xr n' c' => xr = v ∧ n' = n ∧ c' = c)) := by
  subst hv
  exact k_X7_wire l g n c lh 0 rs W.1 R W.2.1 x y J.wb
theorem kw_rest (l : Launch) (g : Gf) (n : Nat) (c : Mp) (W : Wd g c lh rs R hq) (J : Jv R sc cn tb) (x y z : Int32) {v : Int32} (hv : sq_X7_rest R x y z cn = v) : Ct l g yX7_rest wsX7_rest 3 77 0 0 [.ref (gz g + 0), .int x, .int y, .int z] n c (Qi g (fun xr n' c' => xr = v ∧ n' = n ∧ c' = c)) := by
  subst hv
  exact k_X7_rest l g n c lh 0 rs W.1 R W.2.1 x y z cn J.wb J.c3 J.c5
theorem kw_position (l : Launch) (g : Gf) (n : Nat) (c : Mp) (W : Wd g c lh rs R hq) (J : Jv R sc cn tb) (x y z : Int32) {v : Int32} (hv : sq_X7_position R x y z cn = v) : Ct l g yX7_position wsX7_position 3 77 0 0 [.ref (gz g + 0), .int x, .int y, .int z] n c (Qi g (fun xr n' c' => xr = v ∧ n' = n ∧ c' = c)) := by
  subst hv
  exact k_X7_position l g n c lh 0 rs W.1 R W.2.1 x y z cn J.wb J.c3 J.c5
theorem kw_calmIn (l : Launch) (g : Gf) (n : Nat) (c : Mp) (W : Wd g c lh rs R hq) (J : Jv R sc cn tb) (x y : Int32) {v : Int32} (hv : sq_X7_calmIn R x y = v) : Ct l g yX7_calmIn wsX7_calmIn 2 45 0 0 [.ref (gz g + 0), .int x, .int y] n c (Qi g (fun xr n' c' => xr = v ∧ n' = n ∧ c' = c)) := by
  subst hv
  exact k_X7_calmIn l g n c lh 0 rs W.1 R W.2.1 x y J.wb
theorem kw_station (l : Launch) (g : Gf) (n : Nat) (c : Mp) (W : Wd g c lh rs R hq) (J : Jv R sc cn tb) (x y : Int32) {v : Int32} (hv : sq_X7_station R x y sc = v) : Ct l g yX7_station wsX7_station 2 43 0 0 [.ref (gz g + 0), .int x, .int y] n c (Qi g (fun xr n' c' => xr = v ∧ n' = n ∧ c' = c)) := by
  subst hv
  exact k_X7_station l g n c lh 0 rs W.1 R W.2.1 x y sc J.s4 J.s5
theorem kw_observation (l : Launch) (g : Gf) (n : Nat) (c : Mp) (W : Wd g c lh rs R hq) (J : Jv R sc cn tb) (x y z : Int32) {v : Int32} (hv : sq_X7_observation R x y z sc = v) : Ct l g yX7_observation wsX7_observation 2 43 0 0 [.ref (gz g + 0), .int x, .int y, .int z] n c (Qi g (fun xr n' c' => xr = v ∧ n' = n ∧ c' = c)) := by
  subst hv
  exact k_X7_observation l g n c lh 0 rs W.1 R W.2.1 x y z sc J.s4 J.s5
theorem kw_bearing (l : Launch) (g : Gf) (n : Nat) (c : Mp) (W : Wd g c lh rs R hq) (J : Jv R sc cn tb) (x y : Int32) {v : Int32} (hv : sq_X7_bearing R x y = v) : Ct l g yX7_bearing wsX7_bearing 2 46 0 0 [.ref (gz g + 0), .int x, .int y] n c (Qi g (fun xr n' c' => xr = v ∧ n' = n ∧ c' = c)) := by
  subst hv
  exact k_X7_bearing l g n c lh 0 rs W.1 R W.2.1 x y 
theorem kw_surface (l : Launch) (g : Gf) (n : Nat) (c : Mp) (W : Wd g c lh rs R hq) (J : Jv R sc cn tb) (x : Int32) {v : Int32} (hv : sq_X7_surface R x = v) : Ct l g yX7_surface wsX7_surface 3 69 0 0 [.ref (gz g + 0), .int x] n c (Qi g (fun xr n' c' => xr = v ∧ n' = n ∧ c' = c)) := by
  subst hv
  exact k_X7_surface l g n c lh 0 rs W.1 R W.2.1 x 
theorem kw_given (l : Launch) (g : Gf) (n : Nat) (c : Mp) (W : Wd g c lh rs R hq) (J : Jv R sc cn tb) (x y : Int32) {v : Int32} (hv : sq_X7_given R x y sc = v) : Ct l g yX7_given wsX7_given 4 95 0 0 [.ref (gz g + 0), .int x, .int y] n c (Qi g (fun xr n' c' => xr = v ∧ n' = n ∧ c' = c)) := by
  subst hv
  exact k_X7_given l g n c lh 0 rs W.1 R W.2.1 x y sc J.s4 J.s5
theorem kw_count (l : Launch) (g : Gf) (n : Nat) (c : Mp) (W : Wd g c lh rs R hq) (J : Jv R sc cn tb) (x : Int32) {v : Int32} (hv : sq_X7_count lh rs R 0 x sc = v) : Ct l g yX7_count wsX7_count 2 44 0 0 [.ref (gz g + 0), .int x] n c (Qi g (fun xr n' c' => xr = v ∧ n' = n ∧ c' = c)) := by
  subst hv
  exact k_X7_count l g n c lh 0 rs W.1 R W.2.1 0 (Nat.zero_le _) 0 0 W.2.2.2.1 x sc J.s4 J.s5
end KW
