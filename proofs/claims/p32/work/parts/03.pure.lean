/-! Plain facts of ints and longs (a family of the kit's plain facts pasted, as it may be; then my own). -/
theorem fb_rng (x : Int32) : -2147483648 ≤ x.toInt ∧ x.toInt < 2147483648 := by
  have h1 := Int32.le_toInt x
  have h2 := Int32.toInt_lt x
  omega
theorem fb_bmod {z : Int} (h1 : -2147483648 ≤ z) (h2 : z < 2147483648) : z.bmod (2 ^ 32) = z := by
  rw [Int.bmod_eq_of_le (by omega) (by omega)]
theorem fb_addI {x y : Int32} (h1 : -2147483648 ≤ x.toInt + y.toInt) (h2 : x.toInt + y.toInt < 2147483648) : (x + y).toInt = x.toInt + y.toInt := by
  rw [Int32.toInt_add, fb_bmod h1 h2]
theorem fb_subI {x y : Int32} (h1 : -2147483648 ≤ x.toInt - y.toInt) (h2 : x.toInt - y.toInt < 2147483648) : (x - y).toInt = x.toInt - y.toInt := by
  rw [Int32.toInt_sub, fb_bmod h1 h2]
theorem fb_mulI {x y : Int32} (h1 : -2147483648 ≤ x.toInt * y.toInt) (h2 : x.toInt * y.toInt < 2147483648) : (x * y).toInt = x.toInt * y.toInt := by
  rw [Int32.toInt_mul, fb_bmod h1 h2]
theorem fb_negI {x : Int32} (h : x.toInt ≠ -2147483648) : (-x).toInt = -x.toInt := by
  have := fb_rng x
  rw [Int32.toInt_neg, fb_bmod (by omega) (by omega)]
theorem fb_ofI {z : Int} (h1 : -2147483648 ≤ z) (h2 : z < 2147483648) : (Int32.ofInt z).toInt = z := by
  rw [Int32.toInt_ofInt, fb_bmod h1 h2]
theorem fb_asI (x : Int32) : Int32.ofInt x.toInt = x := Int32.ofInt_toInt x
theorem fb_rngL (x : Int64) : -9223372036854775808 ≤ x.toInt ∧ x.toInt < 9223372036854775808 := by
  have h1 := Int64.le_toInt x
  have h2 := Int64.toInt_lt x
  omega
theorem fb_bmodL {z : Int} (h1 : -9223372036854775808 ≤ z) (h2 : z < 9223372036854775808) : z.bmod (2 ^ 64) = z := by
  rw [Int.bmod_eq_of_le (by omega) (by omega)]
theorem fb_addL {x y : Int64} (h1 : -9223372036854775808 ≤ x.toInt + y.toInt) (h2 : x.toInt + y.toInt < 9223372036854775808) : (x + y).toInt = x.toInt + y.toInt := by
  rw [Int64.toInt_add, fb_bmodL h1 h2]
theorem fb_subL {x y : Int64} (h1 : -9223372036854775808 ≤ x.toInt - y.toInt) (h2 : x.toInt - y.toInt < 9223372036854775808) : (x - y).toInt = x.toInt - y.toInt := by
  rw [Int64.toInt_sub, fb_bmodL h1 h2]
theorem fb_mulL {x y : Int64} (h1 : -9223372036854775808 ≤ x.toInt * y.toInt) (h2 : x.toInt * y.toInt < 9223372036854775808) : (x * y).toInt = x.toInt * y.toInt := by
  rw [Int64.toInt_mul, fb_bmodL h1 h2]
theorem i_lt (a b : Int32) : a < b ↔ a.toInt < b.toInt := Int32.lt_iff_toInt_lt
theorem i_le (a b : Int32) : a ≤ b ↔ a.toInt ≤ b.toInt := Int32.le_iff_toInt_le
theorem i_eq (a b : Int32) : a = b ↔ a.toInt = b.toInt := Int32.toInt_inj.symm
theorem l_lt (a b : Int64) : a < b ↔ a.toInt < b.toInt := Int64.lt_iff_toInt_lt
theorem l_le (a b : Int64) : a ≤ b ↔ a.toInt ≤ b.toInt := Int64.le_iff_toInt_le
theorem l_eq (a b : Int64) : a = b ↔ a.toInt = b.toInt := Int64.toInt_inj.symm
/-- within two bounds: 1 or 0 -/
def inI (v lo hi : Int32) : Int32 := if v < lo then 0 else if hi < v then 0 else 1
theorem inI_1 {v lo hi : Int32} (h : ¬ inI v lo hi = 0) : lo.toInt ≤ v.toInt ∧ v.toInt ≤ hi.toInt := by
  unfold inI at h
  by_cases h1 : v < lo
  · rw [if_pos h1] at h; exact absurd rfl h
  · rw [if_neg h1] at h
    by_cases h2 : hi < v
    · rw [if_pos h2] at h; exact absurd rfl h
    · rw [i_lt] at h1 h2; omega
theorem inI_yes {v lo hi : Int32} (h1 : lo.toInt ≤ v.toInt) (h2 : v.toInt ≤ hi.toInt) : inI v lo hi = 1 := by
  rw [inI, if_neg (fun z => by rw [i_lt] at z; omega), if_neg (fun z => by rw [i_lt] at z; omega)]
theorem inI_01 (v lo hi : Int32) : inI v lo hi = 0 ∨ inI v lo hi = 1 := by
  unfold inI
  by_cases h1 : v < lo
  · rw [if_pos h1]; exact Or.inl rfl
  · by_cases h2 : hi < v
    · rw [if_neg h1, if_pos h2]; exact Or.inl rfl
    · rw [if_neg h1, if_neg h2]; exact Or.inr rfl
theorem inI_nar (v lo hi : Int32) : narrow .boolean (.int (inI v lo hi)) = .int (inI v lo hi) := by
  rcases inI_01 v lo hi with h | h <;> rw [h] <;> decide
/-- within 0 and N: a number below N + 1 -/
theorem inI_n {v : Int32} {N : Nat} (hN : N < 2 ^ 31) (h : ¬ inI v 0 (nI N) = 0) : ∃ k : Nat, k < N + 1 ∧ v = nI k := by
  obtain ⟨h1, h2⟩ := inI_1 h
  rw [nI_toInt hN] at h2
  rw [show (0 : Int32).toInt = 0 from rfl] at h1
  refine ⟨v.toInt.toNat, by omega, ?_⟩
  rw [i_eq, nI_toInt (by omega)]
  omega
theorem inI_nyes {k N : Nat} (hk : k ≤ N) (hN : N < 2 ^ 31) : inI (nI k) 0 (nI N) = 1 := inI_yes (by rw [nI_toInt (by omega)]; show (0 : Int) ≤ _; omega) (by rw [nI_toInt (by omega), nI_toInt hN]; omega)
/-- the quotient rounded down, of longs, by one above 0 -/
def fdL (x y : Int64) : Int64 := Int64.ofInt (x.toInt / y.toInt)
theorem l_div {x y : Int64} (hy : 0 < y.toInt) : (x / y).toInt = x.toInt.tdiv y.toInt := Int64.toInt_div_of_ne_right x y (fun h => by rw [h] at hy; exact absurd hy (by decide))
theorem i_div {x y : Int32} (hy : 0 < y.toInt) : (x / y).toInt = x.toInt.tdiv y.toInt := Int32.toInt_div_of_ne_right x y (fun h => by rw [h] at hy; exact absurd hy (by decide))
theorem t_nonpos {x y : Int} (h : x ≤ 0) : x.tmod y ≤ 0 := by
  have h1 := Int.tmod_nonneg y (a := -x) (by omega)
  rw [Int.neg_tmod] at h1
  omega
theorem t_mul (x y : Int) : x.tdiv y * y = x - x.tmod y := by
  have h := Int.tmod_add_tdiv_mul x y
  omega
theorem l_rem {x y : Int64} (hy : 0 < y.toInt) : (x - x / y * y).toInt = x.toInt.tmod y.toInt := by
  have hy2 := fb_rngL y
  have h1 := Int.lt_tmod_of_pos x.toInt hy
  have h2 := Int.tmod_lt_of_pos x.toInt hy
  rw [Int64.toInt_sub, Int64.toInt_mul, l_div hy, Int.sub_bmod_bmod, t_mul]
  rw [show x.toInt - (x.toInt - x.toInt.tmod y.toInt) = x.toInt.tmod y.toInt by omega]
  exact fb_bmodL (by omega) (by omega)
theorem i_rem {x y : Int32} (hy : 0 < y.toInt) : (x - x / y * y).toInt = x.toInt.tmod y.toInt := by
  have hy2 := fb_rng y
  have h1 := Int.lt_tmod_of_pos x.toInt hy
  have h2 := Int.tmod_lt_of_pos x.toInt hy
  rw [Int32.toInt_sub, Int32.toInt_mul, i_div hy, Int.sub_bmod_bmod, t_mul]
  rw [show x.toInt - (x.toInt - x.toInt.tmod y.toInt) = x.toInt.tmod y.toInt by omega]
  exact fb_bmod (by omega) (by omega)
theorem t_fd {x y : Int} (hy : 0 < y) : x / y = if x.tmod y < 0 then x.tdiv y - 1 else x.tdiv y := by
  have hm := Int.tmod_add_tdiv_mul x y
  have h1 := Int.lt_tmod_of_pos x hy
  have h2 := Int.tmod_lt_of_pos x hy
  by_cases h : x.tmod y < 0
  · rw [if_pos h]
    have e : x = (x.tmod y + y) + (x.tdiv y - 1) * y := by rw [Int.sub_mul, Int.one_mul]; omega
    conv => lhs; rw [e]
    rw [Int.add_mul_ediv_right _ _ (by omega), Int.ediv_eq_zero_of_lt (by omega) (by omega), Int.zero_add]
  · rw [if_neg h]
    conv => lhs; rw [← hm]
    rw [Int.add_mul_ediv_right _ _ (by omega), Int.ediv_eq_zero_of_lt (by omega) (by omega), Int.zero_add]
theorem t_em {x y : Int} (hy : 0 < y) : x % y = if x.tmod y < 0 then x.tmod y + y else x.tmod y := by
  have h0 := Int.emod_def x y
  have hm := Int.tmod_add_tdiv_mul x y
  rw [h0, t_fd hy]
  by_cases h : x.tmod y < 0
  · rw [if_pos h, if_pos h, Int.mul_sub, Int.mul_one, Int.mul_comm y (x.tdiv y)]; omega
  · rw [if_neg h, if_neg h, Int.mul_comm y (x.tdiv y)]; omega
theorem t_rng {x y : Int} (hy : 0 < y) {b : Int} (hb : 0 ≤ b) (h1 : -b ≤ x) (h2 : x ≤ b) : -b ≤ x / y ∧ x / y ≤ b := by
  constructor
  · refine (Int.le_ediv_iff_mul_le hy).mpr ?_
    have : b * 1 ≤ b * y := Int.mul_le_mul_of_nonneg_left (by omega) hb
    rw [Int.neg_mul]; omega
  · refine Int.le_of_lt_add_one ((Int.ediv_lt_iff_lt_mul hy).mpr ?_)
    have : (b + 1) * 1 ≤ (b + 1) * y := Int.mul_le_mul_of_nonneg_left (by omega) (by omega)
    omega
theorem fdL_I {x y : Int64} (hy : 0 < y.toInt) : (fdL x y).toInt = x.toInt / y.toInt := by
  have hx := fb_rngL x
  unfold fdL
  rw [Int64.toInt_ofInt]
  by_cases h1 : y.toInt = 1
  · rw [h1, Int.ediv_one]; exact fb_bmodL (by omega) (by omega)
  · have := t_rng (x := x.toInt) hy (b := 9223372036854775808) (by omega) (by omega) (by omega)
    refine fb_bmodL (by omega) ?_
    refine (Int.ediv_lt_iff_lt_mul hy).mpr ?_
    omega
/-- the two ways to round down -/
theorem fdL_a {x y : Int64} (hy : 0 < y.toInt) (h : (x - x / y * y) < 0) : x / y - 1 = fdL x y := by
  have hx := fb_rngL x
  have hy2 := fb_rngL y
  rw [l_lt, l_rem hy] at h
  have h : x.toInt.tmod y.toInt < 0 := h
  have hd := t_rng (x := x.toInt) hy (b := 9223372036854775808) (by omega) (by omega) (by omega)
  rw [l_eq, fdL_I hy, Int64.toInt_sub, l_div hy, t_fd hy, if_pos h]
  rw [t_fd hy, if_pos h] at hd
  have hq := fb_rngL (x / y)
  rw [l_div hy] at hq
  refine fb_bmodL ?_ ?_
  · show _ ≤ _ - 1; omega
  · show _ - 1 < _; omega
theorem fdL_b {x y : Int64} (hy : 0 < y.toInt) (h : ¬ (x - x / y * y) < 0) : x / y = fdL x y := by
  rw [l_lt, l_rem hy] at h
  have h : ¬ x.toInt.tmod y.toInt < 0 := h
  rw [l_eq, fdL_I hy, l_div hy, t_fd hy, if_neg h]
theorem l_xor {x y : Int64} (hy : 0 ≤ y.toInt) : (x ^^^ y) < 0 ↔ x < 0 := by
  have e : ∀ z : Int64, z < 0 ↔ z.toBitVec.msb = true := fun z => BitVec.slt_zero_iff_msb_cond
  have h : y.toBitVec.msb = false := by
    cases q : y.toBitVec.msb
    · rfl
    · have := (e y).mpr q
      rw [l_lt] at this
      have : y.toInt < 0 := this
      omega
  rw [e, e, Int64.toBitVec_xor, BitVec.msb_xor, h]
  simp
theorem ge_nlt {a b : Int32} (h : a ≤ b) : ¬ b < a := by rw [i_lt]; rw [i_le] at h; omega
theorem nle_lt {a b : Int32} (h : ¬ a ≤ b) : b < a := by rw [i_lt]; rw [i_le] at h; omega
theorem nlt_ge {a b : Int32} (h : ¬ a < b) : b ≤ a := by rw [i_le]; rw [i_lt] at h; omega
theorem lp_lt {w N : Nat} {x : Int32} (hx : x = nI N) (hw : w < 2 ^ 31) (hN : N < 2 ^ 31) (h : ¬ x ≤ nI w) : w < N := by
  subst hx
  exact Nat.not_le.mp (fun q => h ((nI_leI hN hw).mpr q))
theorem lp_ge {w N : Nat} {x : Int32} (hx : x = nI N) (hw : w < 2 ^ 31) (hN : N < 2 ^ 31) (h : x ≤ nI w) : N ≤ w := by
  subst hx
  exact (nI_leI hN hw).mp h
theorem qs_at {α : Type} (F : Nat → α) {w : Nat} (hw : w < 2 ^ 31) : F (nI w).toNatClampNeg = F w := by rw [nI_clamp hw]
