/-! Bearings as whole numbers: how they turn. -/
def beZ (x y : Int) : Int := if 0 < x ∧ 0 ≤ y then 2000 * y / (x + y) else if x ≤ 0 ∧ 0 < y then 2000 + 2000 * (-x) / (-x + y) else if x < 0 ∧ y ≤ 0 then 4000 + 2000 * (-y) / (-x + -y) else 6000 + 2000 * x / (x + -y)
theorem dv_b {v m : Int} (h0 : 0 ≤ v) (h1 : v < m) : 0 ≤ 2000 * v / m ∧ 2000 * v / m < 2000 := by
  refine ⟨Int.ediv_nonneg (by omega) (by omega), (Int.ediv_lt_iff_lt_mul (by omega)).mpr ?_⟩
  omega
theorem bz_1 {x y : Int} (h : 0 < x) (h2 : 0 ≤ y) : beZ x y = 2000 * y / (x + y) := if_pos ⟨h, h2⟩
theorem bz_2 {x y : Int} (h : x ≤ 0) (h2 : 0 < y) : beZ x y = 2000 + 2000 * (-x) / (-x + y) := by
  unfold beZ
  rw [if_neg (by omega), if_pos ⟨h, h2⟩]
theorem bz_3 {x y : Int} (h : x < 0) (h2 : y ≤ 0) : beZ x y = 4000 + 2000 * (-y) / (-x + -y) := by
  unfold beZ
  rw [if_neg (by omega), if_neg (by omega), if_pos ⟨h, h2⟩]
theorem bz_4 {x y : Int} (h : 0 ≤ x) (h2 : y < 0) : beZ x y = 6000 + 2000 * x / (x + -y) := by
  unfold beZ
  rw [if_neg (by omega), if_neg (by omega), if_neg (by omega)]
theorem four_q {x y : Int} (h : ¬ (x = 0 ∧ y = 0)) : (0 < x ∧ 0 ≤ y) ∨ (x ≤ 0 ∧ 0 < y) ∨ (x < 0 ∧ y ≤ 0) ∨ (0 ≤ x ∧ y < 0) := by omega
theorem bz_r {x y : Int} (h : ¬ (x = 0 ∧ y = 0)) : 0 ≤ beZ x y ∧ beZ x y < 8000 := by
  rcases four_q h with ⟨a, b⟩ | ⟨a, b⟩ | ⟨a, b⟩ | ⟨a, b⟩
  · rw [bz_1 a b]; have := dv_b (v := y) (m := x + y) (by omega) (by omega); omega
  · rw [bz_2 a b]; have := dv_b (v := -x) (m := -x + y) (by omega) (by omega); omega
  · rw [bz_3 a b]; have := dv_b (v := -y) (m := -x + -y) (by omega) (by omega); omega
  · rw [bz_4 a b]; have := dv_b (v := x) (m := x + -y) (by omega) (by omega); omega
/-- a quarter further -/
theorem bz_q {x y : Int} (h : ¬ (x = 0 ∧ y = 0)) : beZ (-y) x = (beZ x y + 2000) % 8000 := by
  rcases four_q h with ⟨a, b⟩ | ⟨a, b⟩ | ⟨a, b⟩ | ⟨a, b⟩
  · rw [bz_1 a b, bz_2 (by omega) (by omega), show - -y + x = x + y by omega, show - -y = y by omega]
    have := dv_b (v := y) (m := x + y) (by omega) (by omega); omega
  · rw [bz_2 a b, bz_3 (by omega) (by omega), show - -y + -x = -x + y by omega]
    have := dv_b (v := -x) (m := -x + y) (by omega) (by omega); omega
  · rw [bz_3 a b, bz_4 (by omega) (by omega), show -y + -x = -x + -y by omega]
    have := dv_b (v := -y) (m := -x + -y) (by omega) (by omega); omega
  · rw [bz_4 a b, bz_1 (by omega) (by omega), show -y + x = x + -y by omega]
    have := dv_b (v := x) (m := x + -y) (by omega) (by omega); omega
theorem bz_h {x y : Int} (h : ¬ (x = 0 ∧ y = 0)) : beZ (-x) (-y) = (beZ x y + 4000) % 8000 := by
  have e1 := bz_q h
  have e2 := bz_q (x := -y) (y := x) (by omega)
  rw [e2, e1]
  omega
theorem bz_t {x y : Int} (h : ¬ (x = 0 ∧ y = 0)) : beZ y (-x) = (beZ x y + 6000) % 8000 := by
  have e1 := bz_h h
  have e2 := bz_q (x := -x) (y := -y) (by omega)
  rw [show - -y = y by omega] at e2
  rw [e2, e1]
  omega
theorem dv_2 {v m v2 m2 : Int} (hv : v2 = 2 * v) (hm : m2 = 2 * m) : 2000 * v2 / m2 = 2000 * v / m := by
  rw [hv, hm, show 2000 * (2 * v) = 2 * (2000 * v) by omega]
  exact Int.mul_ediv_mul_of_pos _ _ (by decide)
theorem bz_d {x y : Int} (h : ¬ (x = 0 ∧ y = 0)) : beZ (2 * x) (2 * y) = beZ x y := by
  rcases four_q h with ⟨a, b⟩ | ⟨a, b⟩ | ⟨a, b⟩ | ⟨a, b⟩
  · rw [bz_1 a b, bz_1 (by omega) (by omega)]
    exact dv_2 (by omega) (by omega)
  · rw [bz_2 a b, bz_2 (by omega) (by omega)]
    exact congrArg (2000 + ·) (dv_2 (by omega) (by omega))
  · rw [bz_3 a b, bz_3 (by omega) (by omega)]
    exact congrArg (4000 + ·) (dv_2 (by omega) (by omega))
  · rw [bz_4 a b, bz_4 (by omega) (by omega)]
    exact congrArg (6000 + ·) (dv_2 (by omega) (by omega))
theorem l_abs {x : Int32} (h : -2147483648 < x.toInt) : (if 0 < x.toInt64 then x.toInt64 else -x.toInt64).toInt = if 0 < x.toInt then x.toInt else -x.toInt := by
  have e : x.toInt64.toInt = x.toInt := Int32.toInt_toInt64 x
  have r := fb_rng x
  by_cases q : 0 < x.toInt64
  · rw [if_pos q, e, if_pos (by rw [l_lt, e] at q; exact q)]
  · rw [if_neg q, if_neg (by rw [l_lt, e] at q; exact q), Int64.toInt_neg, e]
    exact fb_bmodL (by omega) (by omega)
theorem be_k {k : Int64} {v m : Int64} (hk : 0 ≤ k.toInt ∧ k.toInt ≤ 6000) (h0 : 0 ≤ v.toInt) (h1 : v.toInt < m.toInt) (h2 : m.toInt ≤ 4294967296) : (k + (2000 * v) / m).toInt32.toInt = k.toInt + 2000 * v.toInt / m.toInt := by
  obtain ⟨e, a, b⟩ := q_be h0 (Int.le_of_lt h1) h2 (by omega)
  rw [Int64.toInt_toInt32, fb_addL (by rw [e]; omega) (by rw [e]; omega), e]
  exact fb_bmod (by omega) (by omega)
theorem be_k0 {v m : Int64} (h0 : 0 ≤ v.toInt) (h1 : v.toInt < m.toInt) (h2 : m.toInt ≤ 4294967296) : ((2000 * v) / m).toInt32.toInt = 2000 * v.toInt / m.toInt := by
  obtain ⟨e, a, b⟩ := q_be h0 (Int.le_of_lt h1) h2 (by omega)
  rw [Int64.toInt_toInt32, e]
  exact fb_bmod (by omega) (by omega)
/-- the class's bearing as a whole number -/
theorem be_z {dx dy : Int32} (hx : Bt dx (-200000000) 200000000) (hy : Bt dy (-200000000) 200000000) (hn : ¬ (dx = 0 ∧ dy = 0)) : (sq_X7_bearingOf dx.toInt64 dy.toInt64).toInt = beZ dx.toInt dy.toInt := by
  obtain ⟨x1, x2⟩ := hx
  obtain ⟨y1, y2⟩ := hy
  have ex : dx.toInt64.toInt = dx.toInt := Int32.toInt_toInt64 dx
  have ey : dy.toInt64.toInt = dy.toInt := Int32.toInt_toInt64 dy
  have ax := l_abs (x := dx) (by omega)
  have ay := l_abs (x := dy) (by omega)
  have nx : (-dx.toInt64).toInt = -dx.toInt := by rw [Int64.toInt_neg, ex]; exact fb_bmodL (by omega) (by omega)
  have ny : (-dy.toInt64).toInt = -dy.toInt := by rw [Int64.toInt_neg, ey]; exact fb_bmodL (by omega) (by omega)
  have hn2 : ¬ (dx.toInt = 0 ∧ dy.toInt = 0) := fun z => hn ⟨(i_eq _ _).mpr z.1, (i_eq _ _).mpr z.2⟩
  unfold sq_X7_bearingOf
  generalize hM : (if 0 < dx.toInt64 then dx.toInt64 else -dx.toInt64) + (if 0 < dy.toInt64 then dy.toInt64 else -dy.toInt64) = M
  have em : M.toInt = (if 0 < dx.toInt then dx.toInt else -dx.toInt) + (if 0 < dy.toInt then dy.toInt else -dy.toInt) := by
    rw [← hM, fb_addL (by rw [ax, ay]; split <;> split <;> omega) (by rw [ax, ay]; split <;> split <;> omega), ax, ay]
  have m0 : 0 < M.toInt ∧ M.toInt ≤ 400000000 := by rw [em]; (repeat' split) <;> omega
  rw [if_neg (fun z => by rw [lg_cmp_eq, l_eq] at z; have z : M.toInt = 0 := z; omega)]
  simp only [cm_le, cm_ge, cm_lt]
  simp only [i_le, i_lt]
  have z0 : (0 : Int32).toInt = 0 := rfl
  rw [z0]
  rcases four_q hn2 with ⟨a, b⟩ | ⟨a, b⟩ | ⟨a, b⟩ | ⟨a, b⟩
  · rw [if_neg (by omega), if_neg (by omega), bz_1 a b]
    have e : M.toInt = dx.toInt + dy.toInt := by rw [em]; (repeat' split) <;> omega
    rw [be_k0 (by rw [ey]; omega) (by rw [ey]; omega) (by omega), ey, e]
  · rw [if_pos a, if_neg (by omega), bz_2 a b]
    have e : M.toInt = -dx.toInt + dy.toInt := by rw [em]; (repeat' split) <;> omega
    rw [be_k (by decide) (by rw [nx]; omega) (by rw [nx]; omega) (by omega), nx, e]
    rfl
  · rw [if_pos (by omega), if_pos b, if_neg (by omega), bz_3 a b]
    have e : M.toInt = -dx.toInt + -dy.toInt := by rw [em]; (repeat' split) <;> omega
    rw [be_k (by decide) (by rw [ny]; omega) (by rw [ny]; omega) (by omega), ny, e]
    rfl
  · rw [bz_4 a b]
    have e : M.toInt = dx.toInt + -dy.toInt := by rw [em]; (repeat' split) <;> omega
    by_cases q : dx.toInt ≤ 0
    · rw [if_pos q, if_pos (by omega), if_pos a, be_k (by decide) (by rw [ex]; omega) (by rw [ex]; omega) (by omega), ex, e]
      rfl
    · rw [if_neg q, if_pos b, if_pos (by omega), if_pos a, be_k (by decide) (by rw [ex]; omega) (by rw [ex]; omega) (by omega), ex, e]
      rfl
theorem be_r {dx dy : Int32} (hx : Bt dx (-200000000) 200000000) (hy : Bt dy (-200000000) 200000000) (hn : ¬ (dx = 0 ∧ dy = 0)) : Bt (sq_X7_bearingOf dx.toInt64 dy.toInt64) 0 7999 := by
  have q := bz_r (x := dx.toInt) (y := dy.toInt) (fun z => hn ⟨(i_eq _ _).mpr z.1, (i_eq _ _).mpr z.2⟩)
  unfold Bt
  rw [be_z hx hy hn]
  omega
section BG
variable {R : Nat → Int32} {dx dy : Int32}
theorem bg_v (hx : Bt dx (-20000) 20000) (hy : Bt dy (-20000) 20000) (hn : ¬ (dx = 0 ∧ dy = 0)) : sq_X7_bearing R dx dy = sq_X7_bearingOf dx.toInt64 dy.toInt64 := by
  unfold sq_X7_bearing
  rw [if_neg (inB (lo := -20000) (hi := 20000) hx.1 hx.2), if_neg (inB (lo := -20000) (hi := 20000) hy.1 hy.2)]
  split
  · rename_i z
    rw [if_neg (fun q => hn ⟨z, q⟩)]
  · rfl
theorem bt_w {x : Int32} {a b a' b' : Int} (h : Bt x a b) (h1 : a' ≤ a) (h2 : b ≤ b') : Bt x a' b' := ⟨by have := h.1; omega, by have := h.2; omega⟩
theorem bg_z (hx : Bt dx (-20000) 20000) (hy : Bt dy (-20000) 20000) (hn : ¬ (dx = 0 ∧ dy = 0)) : (sq_X7_bearing R dx dy).toInt = beZ dx.toInt dy.toInt := by
  rw [bg_v hx hy hn]
  exact be_z (bt_w hx (by decide) (by decide)) (bt_w hy (by decide) (by decide)) hn
theorem bg_r (hx : Bt dx (-20000) 20000) (hy : Bt dy (-20000) 20000) (hn : ¬ (dx = 0 ∧ dy = 0)) : Bt (sq_X7_bearing R dx dy) 0 7999 := by
  rw [bg_v hx hy hn]
  exact be_r (bt_w hx (by decide) (by decide)) (bt_w hy (by decide) (by decide)) hn
theorem ng_b {x : Int32} {a : Int} (h : Bt x (-a) a) (ha : a ≤ 1000000) : (-x).toInt = -x.toInt ∧ Bt (-x) (-a) a := by
  obtain ⟨h1, h2⟩ := h
  have e : (-x).toInt = -x.toInt := by rw [Int32.toInt_neg]; exact fb_bmod (by omega) (by omega)
  refine ⟨e, ?_⟩
  unfold Bt
  rw [e]
  omega
theorem db_b {x : Int32} (h : Bt x (-2000) 2000) : (2 * x).toInt = 2 * x.toInt ∧ Bt (2 * x) (-20000) 20000 := by
  obtain ⟨h1, h2⟩ := h
  have e : (2 * x).toInt = 2 * x.toInt := by rw [Int32.toInt_mul]; exact fb_bmod (by show _ ≤ (2 : Int) * _; omega) (by show (2 : Int) * _ < _; omega)
  refine ⟨e, ?_⟩
  unfold Bt
  rw [e]
  omega
theorem rm8 {x y : Int32} (hx : Bt x 0 7999) (hy : Bt y 0 8000) : ((x + y) - (x + y) / 8000 * 8000).toInt = (x.toInt + y.toInt) % 8000 := by
  obtain ⟨h1, h2⟩ := hx
  obtain ⟨h3, h4⟩ := hy
  rw [i_rem (by decide), fb_addI (by omega) (by omega)]
  exact Int.tmod_eq_emod_of_nonneg (by omega)
theorem nz_i (hn : ¬ (dx = 0 ∧ dy = 0)) : ¬ (dx.toInt = 0 ∧ dy.toInt = 0) := fun z => hn ⟨(i_eq _ _).mpr z.1, (i_eq _ _).mpr z.2⟩
theorem nz_o {x y : Int32} (h : ¬ (x.toInt = 0 ∧ y.toInt = 0)) : ¬ (x = 0 ∧ y = 0) := fun z => h ⟨by rw [z.1]; rfl, by rw [z.2]; rfl⟩
theorem bg_q (hx : Bt dx (-2000) 2000) (hy : Bt dy (-2000) 2000) (hn : ¬ (dx = 0 ∧ dy = 0)) : sq_X7_bearing R (-dy) dx = (sq_X7_bearing R dx dy + 2000) - (sq_X7_bearing R dx dy + 2000) / 8000 * 8000 := by
  have hx2 := bt_w hx (a' := -20000) (b' := 20000) (by decide) (by decide)
  have hy2 := bt_w hy (a' := -20000) (b' := 20000) (by decide) (by decide)
  obtain ⟨e, b⟩ := ng_b hy2 (by decide)
  rw [i_eq, bg_z b hx2 (nz_o (by rw [e]; have := nz_i hn; omega)), rm8 (bg_r hx2 hy2 hn) (by unfold Bt; decide), bg_z hx2 hy2 hn, e]
  exact bz_q (nz_i hn)
theorem bg_h (hx : Bt dx (-2000) 2000) (hy : Bt dy (-2000) 2000) (hn : ¬ (dx = 0 ∧ dy = 0)) : sq_X7_bearing R (-dx) (-dy) = (sq_X7_bearing R dx dy + 4000) - (sq_X7_bearing R dx dy + 4000) / 8000 * 8000 := by
  have hx2 := bt_w hx (a' := -20000) (b' := 20000) (by decide) (by decide)
  have hy2 := bt_w hy (a' := -20000) (b' := 20000) (by decide) (by decide)
  obtain ⟨e, b⟩ := ng_b hy2 (by decide)
  obtain ⟨e', b'⟩ := ng_b hx2 (by decide)
  rw [i_eq, bg_z b' b (nz_o (by rw [e, e']; have := nz_i hn; omega)), rm8 (bg_r hx2 hy2 hn) (by unfold Bt; decide), bg_z hx2 hy2 hn, e, e']
  exact bz_h (nz_i hn)
theorem bg_t (hx : Bt dx (-2000) 2000) (hy : Bt dy (-2000) 2000) (hn : ¬ (dx = 0 ∧ dy = 0)) : sq_X7_bearing R dy (-dx) = (sq_X7_bearing R dx dy + 6000) - (sq_X7_bearing R dx dy + 6000) / 8000 * 8000 := by
  have hx2 := bt_w hx (a' := -20000) (b' := 20000) (by decide) (by decide)
  have hy2 := bt_w hy (a' := -20000) (b' := 20000) (by decide) (by decide)
  obtain ⟨e', b'⟩ := ng_b hx2 (by decide)
  rw [i_eq, bg_z hy2 b' (nz_o (by rw [e']; have := nz_i hn; omega)), rm8 (bg_r hx2 hy2 hn) (by unfold Bt; decide), bg_z hx2 hy2 hn, e']
  exact bz_t (nz_i hn)
theorem bg_d (hx : Bt dx (-2000) 2000) (hy : Bt dy (-2000) 2000) (hn : ¬ (dx = 0 ∧ dy = 0)) : sq_X7_bearing R (2 * dx) (2 * dy) = sq_X7_bearing R dx dy := by
  have hx2 := bt_w hx (a' := -20000) (b' := 20000) (by decide) (by decide)
  have hy2 := bt_w hy (a' := -20000) (b' := 20000) (by decide) (by decide)
  obtain ⟨e, b⟩ := db_b hx
  obtain ⟨e', b'⟩ := db_b hy
  rw [i_eq, bg_z b b' (nz_o (by rw [e, e']; have := nz_i hn; omega)), bg_z hx2 hy2 hn, e, e']
  exact bz_d (nz_i hn)
theorem bg_b {x y : Int32} (h : inI x (-20000) 20000 = 0) : sq_X7_bearing R x y = -100002 := if_pos h
theorem bg_c : sq_X7_bearing R 0 (-20001) = -100002 := by
  unfold sq_X7_bearing
  rw [if_neg (by decide), if_pos (by decide)]
theorem bg_0 : sq_X7_bearing R 0 0 = -100002 := by
  unfold sq_X7_bearing
  rw [if_neg (by decide), if_neg (by decide), if_pos rfl, if_pos rfl]
theorem sz_le {x : Int32} {a : Int} (h : Bt x (-a) a) (ha : a ≤ 1000000) (v : Int32) (hv : a ≤ v.toInt) : szI x ≤ v := by
  obtain ⟨h1, h2⟩ := h
  obtain ⟨e1, e2, e3⟩ := sz_t (x := x) (by omega)
  rw [i_le]
  by_cases q : x.toInt < 0
  · rw [e2 q]; omega
  · rw [e3 (by omega)]; omega
end BG
