/-! Orders: words, numbers, both ways. -/
theorem eq4 (tx : Nat → Int32) (P : Nat) (a b c d : Int32) : eqS tx P [a, b, c, d] 4 0 = if tx P = a then (if tx (P + 1) = b then (if tx (P + 2) = c then (if tx (P + 3) = d then 1 else 0) else 0) else 0) else 0 := rfl
theorem eq6 (tx : Nat → Int32) (P : Nat) (a b c d e f : Int32) : eqS tx P [a, b, c, d, e, f] 6 0 = if tx P = a then (if tx (P + 1) = b then (if tx (P + 2) = c then (if tx (P + 3) = d then (if tx (P + 4) = e then (if tx (P + 5) = f then 1 else 0) else 0) else 0) else 0) else 0) else 0 := rfl
theorem wo_e {tx : Nat → Int32} {P e : Nat} (hPe : P ≤ e) (he : e ≤ 70) : sp_X8_word tx P e = if sq_X2_wordUpTo tx P e = -1 then -100005 else sq_X2_wordUpTo tx P e := by
  have hN : e - P < 2 ^ 31 := by omega
  have l4 : sLen.getD 0 0 = 4 ∧ sLen.getD 1 0 = 4 ∧ sLen.getD 2 0 = 4 ∧ sLen.getD 3 0 = 4 ∧ sLen.getD 4 0 = 6 := ⟨rfl, rfl, rfl, rfl, rfl⟩
  obtain ⟨l0, l1, l2, l3, l6⟩ := l4
  have w0 : sByt.getD 0 [] = [119, 97, 105, 116] := rfl
  have w1 : sByt.getD 1 [] = [112, 117, 115, 104] := rfl
  have w2 : sByt.getD 2 [] = [108, 111, 111, 107] := rfl
  have w3 : sByt.getD 3 [] = [115, 119, 97, 112] := rfl
  have w4 : sByt.getD 4 [] = [111, 114, 105, 101, 110, 116] := rfl
  unfold sq_X2_wordUpTo sp_X8_word isW
  rw [l0, l1, l2, l3, l6, w0, w1, w2, w3, w4, eq4, eq4, eq4, eq4, eq6]
  by_cases h4 : nI (e - P) = 4
  · have n4 : ¬ nI (e - P) < 4 := by rw [h4]; decide
    have n6 : ¬ nI (e - P) = nI 6 := by rw [h4]; decide
    have y4 : nI (e - P) = nI 4 := h4
    unfold sp_X8_stands
    rw [if_pos h4, if_pos y4, if_pos y4, if_pos y4, if_pos y4, if_neg n6, if_neg n4, if_neg n4, if_neg n4, if_neg n4]
    generalize (if tx P = 119 then (if tx (P + 1) = 97 then (if tx (P + 2) = 105 then (if tx (P + 3) = 116 then (1 : Int32) else 0) else 0) else 0) else 0) = s0
    generalize (if tx P = 112 then (if tx (P + 1) = 117 then (if tx (P + 2) = 115 then (if tx (P + 3) = 104 then (1 : Int32) else 0) else 0) else 0) else 0) = s1
    generalize (if tx P = 108 then (if tx (P + 1) = 111 then (if tx (P + 2) = 111 then (if tx (P + 3) = 107 then (1 : Int32) else 0) else 0) else 0) else 0) = s2
    generalize (if tx P = 115 then (if tx (P + 1) = 119 then (if tx (P + 2) = 97 then (if tx (P + 3) = 112 then (1 : Int32) else 0) else 0) else 0) else 0) = s3
    by_cases z0 : s0 = 0
    · rw [if_pos z0, if_pos z0]
      by_cases z1 : s1 = 0
      · rw [if_pos z1, if_pos z1]
        by_cases z2 : s2 = 0
        · rw [if_pos z2, if_pos z2]
          by_cases z3 : s3 = 0
          · rw [if_pos z3, if_pos z3]; rfl
          · rw [if_neg z3, if_neg z3]; rfl
        · rw [if_neg z2, if_neg z2]; rfl
      · rw [if_neg z1, if_neg z1]; rfl
    · rw [if_neg z0, if_neg z0]; rfl
  · have y4 : ¬ nI (e - P) = nI 4 := h4
    rw [if_neg h4, if_neg y4, if_neg y4, if_neg y4, if_neg y4, if_pos (show (0 : Int32) = 0 from rfl), if_pos (show (0 : Int32) = 0 from rfl), if_pos (show (0 : Int32) = 0 from rfl), if_pos (show (0 : Int32) = 0 from rfl)]
    by_cases h6 : nI (e - P) = 6
    · have y6 : nI (e - P) = nI 6 := h6
      have n4 : ¬ nI (e - P) < 4 := by rw [h6]; decide
      unfold sp_X8_stands
      rw [if_pos h6, if_pos y6, if_neg n4]
      by_cases a0 : tx P = 111
      · rw [if_pos a0, if_pos a0]
        by_cases a1 : tx (P + 1) = 114
        · rw [if_pos a1, if_pos a1]
          by_cases a2 : tx (P + 2) = 105
          · rw [if_pos a2, if_pos a2]
            by_cases a3 : tx (P + 3) = 101
            · rw [if_pos a3, if_pos a3]
              by_cases a4 : tx (P + 4) = 110
              · rw [if_pos a4, if_pos a4]
                by_cases a5 : tx (P + 5) = 116
                · rw [if_pos a5, if_pos a5]; rfl
                · rw [if_neg a5, if_neg a5]; rfl
              · rw [if_neg a4, if_neg a4]; rfl
            · rw [if_neg a3, if_neg a3]; rfl
          · rw [if_neg a2, if_neg a2]; rfl
        · rw [if_neg a1, if_neg a1]; rfl
      · rw [if_neg a0, if_neg a0]; rfl
    · have y6 : ¬ nI (e - P) = nI 6 := h6
      rw [if_neg h6, if_neg y6]; rfl
theorem nu_0 (tx : Nat → Int32) : ∀ (k a : Nat) (v : Int32), (nuS tx k a 0 v).1 = 0
  | 0, _, _ => rfl
  | _ + 1, _, _ => rfl
theorem nu_e (tx : Nat → Int32) : ∀ (k a : Nat) (v : Int32), ((nuS tx k a 1 v).1 = 0 ∧ nmS tx k a v = -1) ∨ ((nuS tx k a 1 v).1 = 1 ∧ (nuS tx k a 1 v).2 = nmS tx k a v)
  | 0, _, _ => Or.inr ⟨rfl, rfl⟩
  | k + 1, a, v => by
    have e1 : nuS tx (k + 1) a 1 v = nuS tx k (a + 1) (if 48 ≤ tx a ∧ tx a ≤ 57 then 1 else 0) (10 * v + tx a - 48) := rfl
    have e2 : nmS tx (k + 1) a v = if inI (tx a) 48 57 = 0 then -1 else nmS tx k (a + 1) (10 * v + (tx a - 48)) := rfl
    rw [e1, e2]
    by_cases h : inI (tx a) 48 57 = 0
    · have h2 : ¬ (48 ≤ tx a ∧ tx a ≤ 57) := fun z => by
        rw [inI_yes ((i_le _ _).mp z.1) ((i_le _ _).mp z.2)] at h
        exact absurd h (by decide)
      rw [if_pos h, if_neg h2]
      exact Or.inl ⟨nu_0 tx _ _ _, rfl⟩
    · have h3 := inI_1 h
      rw [if_neg h, if_pos ⟨(i_le _ _).mpr h3.1, (i_le _ _).mpr h3.2⟩]
      have ev : 10 * v + tx a - 48 = 10 * v + (tx a - 48) := by
        rw [Int32.sub_eq_add_neg, Int32.sub_eq_add_neg, Int32.add_assoc]
      rw [ev]
      exact nu_e tx k (a + 1) _
theorem nmu_e {tx : Nat → Int32} {P e : Nat} {lo hi : Int32} (hlo : 0 ≤ lo.toInt) : ((nuD tx P e).1 = 0 ∧ inI (nmU tx (P + 1) e) lo hi = 0) ∨ ((nuD tx P e).1 = 1 ∧ (nuD tx P e).2 = nmU tx (P + 1) e ∧ 1 ≤ e - (P + 1)) := by
  have hm : inI (-1) lo hi = 0 := by
    unfold inI
    rw [if_pos ((i_lt _ _).mpr (by show (-1 : Int) < _; omega))]
  unfold nuD nmU
  by_cases h : inI (nI (e - (P + 1))) 1 3 = 0
  · rw [h, if_pos rfl]
    exact Or.inl ⟨nu_0 tx _ _ _, hm⟩
  · rw [if_neg h, (inI_01 _ _ _).resolve_left h]
    rcases nu_e tx (e - (P + 1)) (P + 1) 0 with ⟨a, b⟩ | ⟨a, b⟩
    · exact Or.inl ⟨a, by rw [b]; exact hm⟩
    · refine Or.inr ⟨a, b, ?_⟩
      have h1 := (inI_1 h).1
      rcases Nat.eq_zero_or_pos (e - (P + 1)) with z | z
      · rw [z] at h1; exact absurd h1 (by decide)
      · exact z
/-- a number behind a blank, both ways -/
theorem num_c {tx : Nat → Int32} {T P : Nat} {lo hi x : Int32} (hT7 : T ≤ 70) (hP : P ≤ T) (hl : sq_X2_lowestNumber x = lo) (hh : sq_X2_highestNumber x = hi) (hlo : 0 ≤ lo.toInt) :
    ((nI T ≤ nI P ∨ ¬ tx P = 32) ∧ ∃ v e, sp_X8_number tx T P (-100005) lo hi = (v, e, nI P)) ∨
    (¬ nI T ≤ nI P ∧ tx P = 32 ∧ P + 1 ≤ T ∧ (∀ K nu j, sq_X2_readNumber tx T (P + 1) K nu x j = (0, nu, P + 1)) ∧ ∃ v e, sp_X8_number tx T P (-100005) lo hi = (v, e, nI (P + 1))) ∨
    (¬ nI T ≤ nI P ∧ tx P = 32 ∧ ∃ v e, P + 2 ≤ e ∧ e ≤ T ∧ (∀ K nu j, sq_X2_readNumber tx T (P + 1) K nu x j = (1, upd nu (K * 3 + j) v, e)) ∧ sp_X8_number tx T P (-100005) lo hi = (v, e, -100005)) := by
  unfold sp_X8_number
  rw [if_pos (show (-100005 : Int32) < 0 by decide), if_neg (show ¬ (0 : Int32) ≤ -100005 by decide), if_neg (show ¬ (0 : Int32) ≤ -100005 by decide)]
  by_cases h1 : nI T ≤ nI P
  · rw [if_pos h1]; exact Or.inl ⟨Or.inl h1, _, _, rfl⟩
  rw [if_neg h1]
  by_cases h2 : ¬ tx P = 32
  · rw [if_neg h2]; exact Or.inl ⟨Or.inr h2, _, _, rfl⟩
  have h2 := Decidable.not_not.mp h2
  rw [if_pos h2]
  have hPT : P < T := Nat.lt_of_not_le (fun z => h1 ((nI_leI (by omega) (by omega)).mpr z))
  have hb := enT_b tx (show P + 1 ≤ T by omega)
  rcases nmu_e (tx := tx) (P := P) (e := enT tx T (P + 1)) (lo := lo) (hi := hi) hlo with ⟨a, b⟩ | ⟨a, b, d⟩
  · rw [if_pos a]
    refine Or.inr (Or.inl ⟨h1, h2, by omega, fun K nu j => ?_, _, _, rfl⟩)
    unfold sq_X2_readNumber
    rw [hl, hh, if_pos b]
  · rw [if_neg (by rw [a]; decide), b]
    by_cases h3 : inI (nmU tx (P + 1) (enT tx T (P + 1))) lo hi = 0
    · rw [if_pos h3]
      refine Or.inr (Or.inl ⟨h1, h2, by omega, fun K nu j => ?_, _, _, rfl⟩)
      unfold sq_X2_readNumber
      rw [hl, hh, if_pos h3]
    · rw [if_neg h3]
      refine Or.inr (Or.inr ⟨h1, h2, _, _, by omega, hb.2, fun K nu j => ?_, rfl⟩)
      unfold sq_X2_readNumber
      rw [hl, hh, if_neg h3]
def Rl (wd nu oa : Nat → Int32) (k : Nat) : Prop := oa (4 * k) = wd k ∧ oa (4 * k + 1) = nu (k * 3 + 0) ∧ (¬ (wd k = 0 ∨ wd k = 4) → oa (4 * k + 2) = nu (k * 3 + 1)) ∧ ((wd k = 1 ∨ wd k = 2) → oa (4 * k + 3) = nu (k * 3 + 2))
def OK_ (tx : Nat → Int32) (T P K : Nat) (wd nu oa : Nat → Int32) (C : Int32 × (Nat → Int32) × (Nat → Int32) × Nat) (M : Nat × Int32 × (Nat → Int32)) : Prop :=
  (∃ Q, Q ≤ T ∧ C.1 = 0 ∧ C.2.2.2 = Q ∧ M.2.1 = nI Q) ∨
  (∃ Q, enT tx T P + 2 ≤ Q ∧ Q ≤ T ∧ C.1 = 1 ∧ C.2.2.2 = Q ∧ M.1 = Q ∧ M.2.1 = (if nI T ≤ nI Q then -100005 else if tx Q = 59 then -100005 else nI Q) ∧ Rl C.2.1 C.2.2.1 M.2.2 K ∧ (∀ k : Nat, k < K → C.2.1 k = wd k) ∧ (∀ k : Nat, k < K * 3 → C.2.2.1 k = nu k) ∧ ∀ k : Nat, k < 4 * K → M.2.2 k = oa k)
theorem u4_0 {oa : Nat → Int32} {O : Nat} {a b c d : Int32} : upd (upd (upd (upd oa (4 * O) a) (4 * O + 1) b) (4 * O + 2) c) (4 * O + 3) d (4 * O) = a := by
  rw [upd_no (by omega), upd_no (by omega), upd_no (by omega), upd_at]
theorem u4_1 {oa : Nat → Int32} {O : Nat} {a b c d : Int32} : upd (upd (upd (upd oa (4 * O) a) (4 * O + 1) b) (4 * O + 2) c) (4 * O + 3) d (4 * O + 1) = b := by
  rw [upd_no (by omega), upd_no (by omega), upd_at]
theorem u4_2 {oa : Nat → Int32} {O : Nat} {a b c d : Int32} : upd (upd (upd (upd oa (4 * O) a) (4 * O + 1) b) (4 * O + 2) c) (4 * O + 3) d (4 * O + 2) = c := by
  rw [upd_no (by omega), upd_at]
theorem u4_n {oa : Nat → Int32} {O : Nat} {a b c d : Int32} {k : Nat} (h : k < 4 * O) : upd (upd (upd (upd oa (4 * O) a) (4 * O + 1) b) (4 * O + 2) c) (4 * O + 3) d k = oa k := by
  rw [upd_no (by omega), upd_no (by omega), upd_no (by omega), upd_no (by omega)]
theorem if_fa {c1 c2 : Prop} [Decidable c1] [Decidable c2] {q : Nat} {A : Nat → Int32} {f : Int32} {M : Nat × Int32 × (Nat → Int32)} (hM : M = (if c1 then (q, f, A) else if c2 then (q, f, A) else (q, (if 0 ≤ f then f else nI q), A))) : M.1 = q ∧ M.2.2 = A ∧ M.2.1 = (if c1 then f else if c2 then f else (if 0 ≤ f then f else nI q)) := by
  subst hM
  by_cases h1 : c1
  · rw [if_pos h1, if_pos h1]; exact ⟨rfl, rfl, rfl⟩
  · rw [if_neg h1, if_neg h1]
    by_cases h2 : c2
    · rw [if_pos h2, if_pos h2]; exact ⟨rfl, rfl, rfl⟩
    · rw [if_neg h2, if_neg h2]; exact ⟨rfl, rfl, rfl⟩
theorem fa_n {c1 c2 : Prop} [Decidable c1] [Decidable c2] {q f : Nat} (hf : f ≤ 70) : (if c1 then nI f else if c2 then nI f else (if (0 : Int32) ≤ nI f then nI f else nI q)) = nI f := by
  rw [if_pos (nI_pos' (by omega))]
  split
  · rfl
  · split <;> rfl
theorem or_0 {tx : Nat → Int32} {T P K : Nat} {wd nu oa : Nat → Int32} (hT7 : T ≤ 70) (hP : P ≤ T) : OK_ tx T P K wd nu oa (sq_X2_readOrder_0 tx T P K wd nu) (sp_X8_readOrder_0 tx T P (-100005) K oa) := by
  have hb := enT_b tx hP
  have hm := if_fa (M := sp_X8_readOrder_0 tx T P (-100005) K oa) rfl
  obtain ⟨m1, m2, m3⟩ := hm
  generalize hM : sp_X8_readOrder_0 tx T P (-100005) K oa = M at m1 m2 m3
  clear hM
  unfold sq_X2_readOrder_0
  rcases num_c (tx := tx) (T := T) (P := enT tx T P) (lo := 1) (hi := 60) (x := 78) hT7 (by omega) rfl rfl (by decide) with ⟨a0, v0, e0, n0⟩ | ⟨a0, b0, d0, f0, v0, e0, n0⟩ | ⟨a0, b0, v0, e0, d0, g0, f0, n0⟩
  · rw [n0] at m1 m2 m3
    dsimp only at m1 m2 m3
    rw [fa_n (by omega)] at m3
    refine Or.inl ⟨enT tx T P, by omega, ?_, ?_, m3⟩
    · rcases a0 with a0 | a0
      · rw [if_pos a0]
      · rw [if_neg a0]; split <;> rfl
    · rcases a0 with a0 | a0
      · rw [if_pos a0]
      · rw [if_neg a0]; split <;> rfl
  · rw [n0] at m1 m2 m3
    dsimp only at m1 m2 m3
    rw [fa_n (by omega)] at m3
    refine Or.inl ⟨(enT tx T P) + 1, by omega, ?_, ?_, m3⟩
    · rw [if_neg a0, if_pos b0, f0, if_pos rfl]
    · rw [if_neg a0, if_pos b0, f0, if_pos rfl]
  rw [n0] at m1 m2 m3
  dsimp only at m1 m2 m3
  rw [if_neg a0, if_pos b0, f0, if_neg (show ¬ (1 : Int32) = 0 by decide)]
  dsimp only
  rw [if_neg (show ¬ (0 : Int32) ≤ -100005 by decide)] at m3
  refine Or.inr ⟨e0, by omega, g0, rfl, rfl, m1, m3, ?_, fun k hk => upd_no (by omega), fun k hk => ?_, fun k hk => by rw [m2]; exact u4_n hk⟩
  · rw [m2]
    refine ⟨u4_0.trans (upd_at _ _ _).symm, u4_1.trans ?_, ?_, ?_⟩
    · dsimp only
      rw [upd_at]
    · intro z
      refine absurd ?_ z
      dsimp only
      rw [upd_at]; decide
    · intro z
      dsimp only at z
      rw [upd_at] at z
      exact absurd z (by decide)
  · dsimp only
    rw [upd_no (by omega)]
theorem or_1 {tx : Nat → Int32} {T P K : Nat} {wd nu oa : Nat → Int32} (hT7 : T ≤ 70) (hP : P ≤ T) : OK_ tx T P K wd nu oa (sq_X2_readOrder_1 tx T P K wd nu) (sp_X8_readOrder_1 tx T P (-100005) K oa) := by
  have hb := enT_b tx hP
  have hm := if_fa (M := sp_X8_readOrder_1 tx T P (-100005) K oa) rfl
  obtain ⟨m1, m2, m3⟩ := hm
  generalize hM : sp_X8_readOrder_1 tx T P (-100005) K oa = M at m1 m2 m3
  clear hM
  unfold sq_X2_readOrder_1
  rcases num_c (tx := tx) (T := T) (P := enT tx T P) (lo := 0) (hi := 3) (x := 87) hT7 (by omega) rfl rfl (by decide) with ⟨a0, v0, e0, n0⟩ | ⟨a0, b0, d0, f0, v0, e0, n0⟩ | ⟨a0, b0, v0, e0, d0, g0, f0, n0⟩
  · rw [n0] at m1 m2 m3
    dsimp only at m1 m2 m3
    rw [number_f (fa := nI (enT tx T P)) (nI_pos (by omega))] at m1 m2 m3
    dsimp only at m1 m2 m3
    rw [number_f (fa := nI (enT tx T P)) (nI_pos (by omega))] at m1 m2 m3
    dsimp only at m1 m2 m3
    rw [fa_n (by omega)] at m3
    refine Or.inl ⟨enT tx T P, by omega, ?_, ?_, m3⟩
    · rcases a0 with a0 | a0
      · rw [if_pos a0]
      · rw [if_neg a0]; split <;> rfl
    · rcases a0 with a0 | a0
      · rw [if_pos a0]
      · rw [if_neg a0]; split <;> rfl
  · rw [n0] at m1 m2 m3
    dsimp only at m1 m2 m3
    rw [number_f (fa := nI ((enT tx T P) + 1)) (nI_pos (by omega))] at m1 m2 m3
    dsimp only at m1 m2 m3
    rw [number_f (fa := nI ((enT tx T P) + 1)) (nI_pos (by omega))] at m1 m2 m3
    dsimp only at m1 m2 m3
    rw [fa_n (by omega)] at m3
    refine Or.inl ⟨(enT tx T P) + 1, by omega, ?_, ?_, m3⟩
    · rw [if_neg a0, if_pos b0, f0, if_pos rfl]
    · rw [if_neg a0, if_pos b0, f0, if_pos rfl]
  rw [n0] at m1 m2 m3
  dsimp only at m1 m2 m3
  rw [if_neg a0, if_pos b0, f0, if_neg (show ¬ (1 : Int32) = 0 by decide)]
  dsimp only
  rcases num_c (tx := tx) (T := T) (P := e0) (lo := 0) (hi := 7) (x := 68) hT7 (by omega) rfl rfl (by decide) with ⟨a1, v1, e1, n1⟩ | ⟨a1, b1, d1, f1, v1, e1, n1⟩ | ⟨a1, b1, v1, e1, d1, g1, f1, n1⟩
  · rw [n1] at m1 m2 m3
    dsimp only at m1 m2 m3
    rw [number_f (fa := nI (e0)) (nI_pos (by omega))] at m1 m2 m3
    dsimp only at m1 m2 m3
    rw [fa_n (by omega)] at m3
    refine Or.inl ⟨e0, by omega, ?_, ?_, m3⟩
    · rcases a1 with a1 | a1
      · rw [if_pos a1]
      · rw [if_neg a1]; split <;> rfl
    · rcases a1 with a1 | a1
      · rw [if_pos a1]
      · rw [if_neg a1]; split <;> rfl
  · rw [n1] at m1 m2 m3
    dsimp only at m1 m2 m3
    rw [number_f (fa := nI ((e0) + 1)) (nI_pos (by omega))] at m1 m2 m3
    dsimp only at m1 m2 m3
    rw [fa_n (by omega)] at m3
    refine Or.inl ⟨(e0) + 1, by omega, ?_, ?_, m3⟩
    · rw [if_neg a1, if_pos b1, f1, if_pos rfl]
    · rw [if_neg a1, if_pos b1, f1, if_pos rfl]
  rw [n1] at m1 m2 m3
  dsimp only at m1 m2 m3
  rw [if_neg a1, if_pos b1, f1, if_neg (show ¬ (1 : Int32) = 0 by decide)]
  dsimp only
  rcases num_c (tx := tx) (T := T) (P := e1) (lo := 1) (hi := 500) (x := 65) hT7 (by omega) rfl rfl (by decide) with ⟨a2, v2, e2, n2⟩ | ⟨a2, b2, d2, f2, v2, e2, n2⟩ | ⟨a2, b2, v2, e2, d2, g2, f2, n2⟩
  · rw [n2] at m1 m2 m3
    dsimp only at m1 m2 m3
    rw [fa_n (by omega)] at m3
    refine Or.inl ⟨e1, by omega, ?_, ?_, m3⟩
    · rcases a2 with a2 | a2
      · rw [if_pos a2]
      · rw [if_neg a2]; split <;> rfl
    · rcases a2 with a2 | a2
      · rw [if_pos a2]
      · rw [if_neg a2]; split <;> rfl
  · rw [n2] at m1 m2 m3
    dsimp only at m1 m2 m3
    rw [fa_n (by omega)] at m3
    refine Or.inl ⟨(e1) + 1, by omega, ?_, ?_, m3⟩
    · rw [if_neg a2, if_pos b2, f2, if_pos rfl]
    · rw [if_neg a2, if_pos b2, f2, if_pos rfl]
  rw [n2] at m1 m2 m3
  dsimp only at m1 m2 m3
  rw [if_neg a2, if_pos b2, f2, if_neg (show ¬ (1 : Int32) = 0 by decide)]
  dsimp only
  rw [if_neg (show ¬ (0 : Int32) ≤ -100005 by decide)] at m3
  refine Or.inr ⟨e2, by omega, g2, rfl, rfl, m1, m3, ?_, fun k hk => upd_no (by omega), fun k hk => ?_, fun k hk => by rw [m2]; exact u4_n hk⟩
  · rw [m2]
    refine ⟨u4_0.trans (upd_at _ _ _).symm, u4_1.trans ?_, ?_, ?_⟩
    · dsimp only
      rw [upd_no (by omega), upd_no (by omega), upd_at]
    · intro _
      dsimp only
      rw [u4_2, upd_no (by omega), upd_at]
    · intro _
      dsimp only
      rw [upd_at, upd_at]
  · dsimp only
    rw [upd_no (by omega), upd_no (by omega), upd_no (by omega)]
theorem or_2 {tx : Nat → Int32} {T P K : Nat} {wd nu oa : Nat → Int32} (hT7 : T ≤ 70) (hP : P ≤ T) : OK_ tx T P K wd nu oa (sq_X2_readOrder_2 tx T P K wd nu) (sp_X8_readOrder_2 tx T P (-100005) K oa) := by
  have hb := enT_b tx hP
  have hm := if_fa (M := sp_X8_readOrder_2 tx T P (-100005) K oa) rfl
  obtain ⟨m1, m2, m3⟩ := hm
  generalize hM : sp_X8_readOrder_2 tx T P (-100005) K oa = M at m1 m2 m3
  clear hM
  unfold sq_X2_readOrder_2
  rcases num_c (tx := tx) (T := T) (P := enT tx T P) (lo := 0) (hi := 3) (x := 87) hT7 (by omega) rfl rfl (by decide) with ⟨a0, v0, e0, n0⟩ | ⟨a0, b0, d0, f0, v0, e0, n0⟩ | ⟨a0, b0, v0, e0, d0, g0, f0, n0⟩
  · rw [n0] at m1 m2 m3
    dsimp only at m1 m2 m3
    rw [number_f (fa := nI (enT tx T P)) (nI_pos (by omega))] at m1 m2 m3
    dsimp only at m1 m2 m3
    rw [number_f (fa := nI (enT tx T P)) (nI_pos (by omega))] at m1 m2 m3
    dsimp only at m1 m2 m3
    rw [fa_n (by omega)] at m3
    refine Or.inl ⟨enT tx T P, by omega, ?_, ?_, m3⟩
    · rcases a0 with a0 | a0
      · rw [if_pos a0]
      · rw [if_neg a0]; split <;> rfl
    · rcases a0 with a0 | a0
      · rw [if_pos a0]
      · rw [if_neg a0]; split <;> rfl
  · rw [n0] at m1 m2 m3
    dsimp only at m1 m2 m3
    rw [number_f (fa := nI ((enT tx T P) + 1)) (nI_pos (by omega))] at m1 m2 m3
    dsimp only at m1 m2 m3
    rw [number_f (fa := nI ((enT tx T P) + 1)) (nI_pos (by omega))] at m1 m2 m3
    dsimp only at m1 m2 m3
    rw [fa_n (by omega)] at m3
    refine Or.inl ⟨(enT tx T P) + 1, by omega, ?_, ?_, m3⟩
    · rw [if_neg a0, if_pos b0, f0, if_pos rfl]
    · rw [if_neg a0, if_pos b0, f0, if_pos rfl]
  rw [n0] at m1 m2 m3
  dsimp only at m1 m2 m3
  rw [if_neg a0, if_pos b0, f0, if_neg (show ¬ (1 : Int32) = 0 by decide)]
  dsimp only
  rcases num_c (tx := tx) (T := T) (P := e0) (lo := 0) (hi := 4) (x := 83) hT7 (by omega) rfl rfl (by decide) with ⟨a1, v1, e1, n1⟩ | ⟨a1, b1, d1, f1, v1, e1, n1⟩ | ⟨a1, b1, v1, e1, d1, g1, f1, n1⟩
  · rw [n1] at m1 m2 m3
    dsimp only at m1 m2 m3
    rw [number_f (fa := nI (e0)) (nI_pos (by omega))] at m1 m2 m3
    dsimp only at m1 m2 m3
    rw [fa_n (by omega)] at m3
    refine Or.inl ⟨e0, by omega, ?_, ?_, m3⟩
    · rcases a1 with a1 | a1
      · rw [if_pos a1]
      · rw [if_neg a1]; split <;> rfl
    · rcases a1 with a1 | a1
      · rw [if_pos a1]
      · rw [if_neg a1]; split <;> rfl
  · rw [n1] at m1 m2 m3
    dsimp only at m1 m2 m3
    rw [number_f (fa := nI ((e0) + 1)) (nI_pos (by omega))] at m1 m2 m3
    dsimp only at m1 m2 m3
    rw [fa_n (by omega)] at m3
    refine Or.inl ⟨(e0) + 1, by omega, ?_, ?_, m3⟩
    · rw [if_neg a1, if_pos b1, f1, if_pos rfl]
    · rw [if_neg a1, if_pos b1, f1, if_pos rfl]
  rw [n1] at m1 m2 m3
  dsimp only at m1 m2 m3
  rw [if_neg a1, if_pos b1, f1, if_neg (show ¬ (1 : Int32) = 0 by decide)]
  dsimp only
  rcases num_c (tx := tx) (T := T) (P := e1) (lo := 1) (hi := 60) (x := 78) hT7 (by omega) rfl rfl (by decide) with ⟨a2, v2, e2, n2⟩ | ⟨a2, b2, d2, f2, v2, e2, n2⟩ | ⟨a2, b2, v2, e2, d2, g2, f2, n2⟩
  · rw [n2] at m1 m2 m3
    dsimp only at m1 m2 m3
    rw [fa_n (by omega)] at m3
    refine Or.inl ⟨e1, by omega, ?_, ?_, m3⟩
    · rcases a2 with a2 | a2
      · rw [if_pos a2]
      · rw [if_neg a2]; split <;> rfl
    · rcases a2 with a2 | a2
      · rw [if_pos a2]
      · rw [if_neg a2]; split <;> rfl
  · rw [n2] at m1 m2 m3
    dsimp only at m1 m2 m3
    rw [fa_n (by omega)] at m3
    refine Or.inl ⟨(e1) + 1, by omega, ?_, ?_, m3⟩
    · rw [if_neg a2, if_pos b2, f2, if_pos rfl]
    · rw [if_neg a2, if_pos b2, f2, if_pos rfl]
  rw [n2] at m1 m2 m3
  dsimp only at m1 m2 m3
  rw [if_neg a2, if_pos b2, f2, if_neg (show ¬ (1 : Int32) = 0 by decide)]
  dsimp only
  rw [if_neg (show ¬ (0 : Int32) ≤ -100005 by decide)] at m3
  refine Or.inr ⟨e2, by omega, g2, rfl, rfl, m1, m3, ?_, fun k hk => upd_no (by omega), fun k hk => ?_, fun k hk => by rw [m2]; exact u4_n hk⟩
  · rw [m2]
    refine ⟨u4_0.trans (upd_at _ _ _).symm, u4_1.trans ?_, ?_, ?_⟩
    · dsimp only
      rw [upd_no (by omega), upd_no (by omega), upd_at]
    · intro _
      dsimp only
      rw [u4_2, upd_no (by omega), upd_at]
    · intro _
      dsimp only
      rw [upd_at, upd_at]
  · dsimp only
    rw [upd_no (by omega), upd_no (by omega), upd_no (by omega)]
theorem or_3 {tx : Nat → Int32} {T P K : Nat} {wd nu oa : Nat → Int32} (hT7 : T ≤ 70) (hP : P ≤ T) : OK_ tx T P K wd nu oa (sq_X2_readOrder_3 tx T P K wd nu) (sp_X8_readOrder_3 tx T P (-100005) K oa) := by
  have hb := enT_b tx hP
  have hm := if_fa (M := sp_X8_readOrder_3 tx T P (-100005) K oa) rfl
  obtain ⟨m1, m2, m3⟩ := hm
  generalize hM : sp_X8_readOrder_3 tx T P (-100005) K oa = M at m1 m2 m3
  clear hM
  unfold sq_X2_readOrder_3
  rcases num_c (tx := tx) (T := T) (P := enT tx T P) (lo := 0) (hi := 3) (x := 87) hT7 (by omega) rfl rfl (by decide) with ⟨a0, v0, e0, n0⟩ | ⟨a0, b0, d0, f0, v0, e0, n0⟩ | ⟨a0, b0, v0, e0, d0, g0, f0, n0⟩
  · rw [n0] at m1 m2 m3
    dsimp only at m1 m2 m3
    rw [number_f (fa := nI (enT tx T P)) (nI_pos (by omega))] at m1 m2 m3
    dsimp only at m1 m2 m3
    rw [fa_n (by omega)] at m3
    refine Or.inl ⟨enT tx T P, by omega, ?_, ?_, m3⟩
    · rcases a0 with a0 | a0
      · rw [if_pos a0]
      · rw [if_neg a0]; split <;> rfl
    · rcases a0 with a0 | a0
      · rw [if_pos a0]
      · rw [if_neg a0]; split <;> rfl
  · rw [n0] at m1 m2 m3
    dsimp only at m1 m2 m3
    rw [number_f (fa := nI ((enT tx T P) + 1)) (nI_pos (by omega))] at m1 m2 m3
    dsimp only at m1 m2 m3
    rw [fa_n (by omega)] at m3
    refine Or.inl ⟨(enT tx T P) + 1, by omega, ?_, ?_, m3⟩
    · rw [if_neg a0, if_pos b0, f0, if_pos rfl]
    · rw [if_neg a0, if_pos b0, f0, if_pos rfl]
  rw [n0] at m1 m2 m3
  dsimp only at m1 m2 m3
  rw [if_neg a0, if_pos b0, f0, if_neg (show ¬ (1 : Int32) = 0 by decide)]
  dsimp only
  rcases num_c (tx := tx) (T := T) (P := e0) (lo := 0) (hi := 3) (x := 87) hT7 (by omega) rfl rfl (by decide) with ⟨a1, v1, e1, n1⟩ | ⟨a1, b1, d1, f1, v1, e1, n1⟩ | ⟨a1, b1, v1, e1, d1, g1, f1, n1⟩
  · rw [n1] at m1 m2 m3
    dsimp only at m1 m2 m3
    rw [fa_n (by omega)] at m3
    refine Or.inl ⟨e0, by omega, ?_, ?_, m3⟩
    · rcases a1 with a1 | a1
      · rw [if_pos a1]
      · rw [if_neg a1]; split <;> rfl
    · rcases a1 with a1 | a1
      · rw [if_pos a1]
      · rw [if_neg a1]; split <;> rfl
  · rw [n1] at m1 m2 m3
    dsimp only at m1 m2 m3
    rw [fa_n (by omega)] at m3
    refine Or.inl ⟨(e0) + 1, by omega, ?_, ?_, m3⟩
    · rw [if_neg a1, if_pos b1, f1, if_pos rfl]
    · rw [if_neg a1, if_pos b1, f1, if_pos rfl]
  rw [n1] at m1 m2 m3
  dsimp only at m1 m2 m3
  rw [if_neg a1, if_pos b1, f1, if_neg (show ¬ (1 : Int32) = 0 by decide)]
  dsimp only
  rw [if_neg (show ¬ (0 : Int32) ≤ -100005 by decide)] at m3
  refine Or.inr ⟨e1, by omega, g1, rfl, rfl, m1, m3, ?_, fun k hk => upd_no (by omega), fun k hk => ?_, fun k hk => by rw [m2]; exact u4_n hk⟩
  · rw [m2]
    refine ⟨u4_0.trans (upd_at _ _ _).symm, u4_1.trans ?_, ?_, ?_⟩
    · dsimp only
      rw [upd_no (by omega), upd_at]
    · intro _
      dsimp only
      rw [u4_2, upd_at]
    · intro z
      dsimp only at z
      rw [upd_at] at z
      exact absurd z (by decide)
  · dsimp only
    rw [upd_no (by omega), upd_no (by omega)]
theorem or_4 {tx : Nat → Int32} {T P K : Nat} {wd nu oa : Nat → Int32} (hT7 : T ≤ 70) (hP : P ≤ T) : OK_ tx T P K wd nu oa (sq_X2_readOrder_4 tx T P K wd nu) (sp_X8_readOrder_4 tx T P (-100005) K oa) := by
  have hb := enT_b tx hP
  have hm := if_fa (M := sp_X8_readOrder_4 tx T P (-100005) K oa) rfl
  obtain ⟨m1, m2, m3⟩ := hm
  generalize hM : sp_X8_readOrder_4 tx T P (-100005) K oa = M at m1 m2 m3
  clear hM
  unfold sq_X2_readOrder_4
  rcases num_c (tx := tx) (T := T) (P := enT tx T P) (lo := 0) (hi := 4) (x := 83) hT7 (by omega) rfl rfl (by decide) with ⟨a0, v0, e0, n0⟩ | ⟨a0, b0, d0, f0, v0, e0, n0⟩ | ⟨a0, b0, v0, e0, d0, g0, f0, n0⟩
  · rw [n0] at m1 m2 m3
    dsimp only at m1 m2 m3
    rw [fa_n (by omega)] at m3
    refine Or.inl ⟨enT tx T P, by omega, ?_, ?_, m3⟩
    · rcases a0 with a0 | a0
      · rw [if_pos a0]
      · rw [if_neg a0]; split <;> rfl
    · rcases a0 with a0 | a0
      · rw [if_pos a0]
      · rw [if_neg a0]; split <;> rfl
  · rw [n0] at m1 m2 m3
    dsimp only at m1 m2 m3
    rw [fa_n (by omega)] at m3
    refine Or.inl ⟨(enT tx T P) + 1, by omega, ?_, ?_, m3⟩
    · rw [if_neg a0, if_pos b0, f0, if_pos rfl]
    · rw [if_neg a0, if_pos b0, f0, if_pos rfl]
  rw [n0] at m1 m2 m3
  dsimp only at m1 m2 m3
  rw [if_neg a0, if_pos b0, f0, if_neg (show ¬ (1 : Int32) = 0 by decide)]
  dsimp only
  rw [if_neg (show ¬ (0 : Int32) ≤ -100005 by decide)] at m3
  refine Or.inr ⟨e0, by omega, g0, rfl, rfl, m1, m3, ?_, fun k hk => upd_no (by omega), fun k hk => ?_, fun k hk => by rw [m2]; exact u4_n hk⟩
  · rw [m2]
    refine ⟨u4_0.trans (upd_at _ _ _).symm, u4_1.trans ?_, ?_, ?_⟩
    · dsimp only
      rw [upd_at]
    · intro z
      refine absurd ?_ z
      dsimp only
      rw [upd_at]; decide
    · intro z
      dsimp only at z
      rw [upd_at] at z
      exact absurd z (by decide)
  · dsimp only
    rw [upd_no (by omega)]
theorem or_n {tx : Nat → Int32} {T P K : Nat} {wd nu oa : Nat → Int32} (hT7 : T ≤ 70) (hP : P ≤ T) : ∃ Q, Q ≤ T ∧ (sq_X2_readOrder_n tx T P K wd nu).1 = 0 ∧ (sq_X2_readOrder_n tx T P K wd nu).2.2.2 = Q ∧ (sp_X8_readOrder_n tx T P (-100005) K oa).2.1 = nI Q := by
  have hm := if_fa (M := sp_X8_readOrder_n tx T P (-100005) K oa) rfl
  obtain ⟨m1, m2, m3⟩ := hm
  rw [if_neg (show ¬ (0 : Int32) ≤ -100005 by decide), number_f (fa := nI P) (nI_pos (by omega))] at m3
  dsimp only at m3
  rw [fa_n (by omega)] at m3
  exact ⟨P, hP, rfl, rfl, m3⟩
