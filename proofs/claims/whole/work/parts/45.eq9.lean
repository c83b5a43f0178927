/-! Orders: the text read, the orders carried out, both ways. -/
theorem rcL_s (tx : Nat → Int32) (T f P K : Nat) (wd nu : Nat → Int32) : rcL tx T (f + 1) P K wd nu = if (roC tx T P K wd nu).1 = 0 then (nI (roC tx T P K wd nu).2.2.2, (roC tx T P K wd nu).2.1, (roC tx T P K wd nu).2.2.1, K, (roC tx T P K wd nu).2.2.2) else if (roC tx T P K wd nu).2.2.2 < T then (if tx (roC tx T P K wd nu).2.2.2 = 59 then rcL tx T f ((roC tx T P K wd nu).2.2.2 + 1) (K + 1) (roC tx T P K wd nu).2.1 (roC tx T P K wd nu).2.2.1 else (nI (roC tx T P K wd nu).2.2.2, (roC tx T P K wd nu).2.1, (roC tx T P K wd nu).2.2.1, K + 1, (roC tx T P K wd nu).2.2.2)) else (-1, (roC tx T P K wd nu).2.1, (roC tx T P K wd nu).2.2.1, K + 1, (roC tx T P K wd nu).2.2.2) := rfl
theorem ccL_s (lh : Nat) (hq : Nat → Nat → Int32) (wd nu : Nat → Int32) (O sc cn f k : Nat) (R : Nat → Int32) (rs : Int32) : ccL lh hq wd nu O sc cn (f + 1) k R rs = if k < O then (if 0 ≤ (sq_X7_carryOut lh 1 rs R hq wd nu k sc cn).1 then ccL lh hq wd nu O sc cn f (k + 1) (sq_X7_carryOut lh 1 rs R hq wd nu k sc cn).2.2.1 (sq_X7_carryOut lh 1 rs R hq wd nu k sc cn).2.1 else (k, (sq_X7_carryOut lh 1 rs R hq wd nu k sc cn).2.2.1, (sq_X7_carryOut lh 1 rs R hq wd nu k sc cn).2.1)) else (k, R, rs) := rfl
theorem coL_s (oa : Nat → Int32) (O sc cn f k : Nat) (r : Nat → Int32) (rs : Int32) : coL oa O sc cn (f + 1) k r rs = if k < O then (if -100001 < (sp_X8_carryOut r rs oa k sc cn).1 then coL oa O sc cn f (k + 1) (sp_X8_carryOut r rs oa k sc cn).2.1 (sp_X8_carryOut r rs oa k sc cn).2.2 else (k, (sp_X8_carryOut r rs oa k sc cn).2.1, (sp_X8_carryOut r rs oa k sc cn).2.2)) else (k, r, rs) := rfl
theorem rd_f {tx : Nat → Int32} {T P O : Nat} {fa : Int32} {oa : Nat → Int32} (h : ¬ fa < 0) : ∀ k : Nat, rdL tx T k P fa O oa = (P, fa, O, oa)
  | 0 => rfl
  | _ + 1 => if_neg h
theorem rd_t {tx : Nat → Int32} {T P O : Nat} {fa : Int32} {oa : Nat → Int32} (h : T ≤ P) : ∀ k : Nat, rdL tx T k P fa O oa = (P, fa, O, oa)
  | 0 => rfl
  | k + 1 => by
    have e : rdL tx T (k + 1) P fa O oa = if fa < 0 then (if P < T then rdL tx T k (roM tx T (P + 1) fa O oa).1 (roM tx T (P + 1) fa O oa).2.1 (O + 1) (roM tx T (P + 1) fa O oa).2.2 else (P, fa, O, oa)) else (P, fa, O, oa) := rfl
    rw [e, if_neg (show ¬ P < T by omega)]
    split <;> rfl
theorem rd_s {tx : Nat → Int32} {T P O k : Nat} {fa : Int32} {oa : Nat → Int32} (h : fa < 0) (h2 : P < T) : rdL tx T (k + 1) P fa O oa = rdL tx T k (roM tx T (P + 1) fa O oa).1 (roM tx T (P + 1) fa O oa).2.1 (O + 1) (roM tx T (P + 1) fa O oa).2.2 := by
  have e : rdL tx T (k + 1) P fa O oa = if fa < 0 then (if P < T then rdL tx T k (roM tx T (P + 1) fa O oa).1 (roM tx T (P + 1) fa O oa).2.1 (O + 1) (roM tx T (P + 1) fa O oa).2.2 else (P, fa, O, oa)) else (P, fa, O, oa) := rfl
  rw [e, if_pos h, if_pos h2]
theorem Rl.cong {wd nu oa wd' nu' oa' : Nat → Int32} {k : Nat} (h : Rl wd nu oa k) (hw : wd' k = wd k) (hn : ∀ j : Nat, j < 3 → nu' (k * 3 + j) = nu (k * 3 + j)) (ho : ∀ j : Nat, j < 4 → oa' (4 * k + j) = oa (4 * k + j)) : Rl wd' nu' oa' k := by
  obtain ⟨a, b, c, d⟩ := h
  have o0 : oa' (4 * k) = oa (4 * k) := ho 0 (by decide)
  refine ⟨by rw [o0, hw]; exact a, by rw [ho 1 (by decide), hn 0 (by decide)]; exact b, fun z => ?_, fun z => ?_⟩
  · rw [ho 2 (by decide), hn 1 (by decide)]; rw [hw] at z; exact c z
  · rw [ho 3 (by decide), hn 2 (by decide)]; rw [hw] at z; exact d z
def PE (T : Nat) (c : Int32 × (Nat → Int32) × (Nat → Int32) × Nat × Nat) (m : Nat × Int32 × Nat × (Nat → Int32)) : Prop :=
  (c.1 = -1 ∧ m.2.1 < 0 ∧ c.2.2.2.1 = m.2.2.1 ∧ ∀ k : Nat, k < c.2.2.2.1 → Rl c.2.1 c.2.2.1 m.2.2.2 k) ∨ ∃ Q : Nat, Q ≤ T ∧ c.1 = nI Q ∧ m.2.1 = nI Q
theorem or_all {tx : Nat → Int32} {T P K : Nat} {wd nu oa : Nat → Int32} (hT7 : T ≤ 70) (hP : P ≤ T) : (∃ Q, Q ≤ T ∧ (roC tx T P K wd nu).1 = 0 ∧ (roC tx T P K wd nu).2.2.2 = Q ∧ (roM tx T P (-100005) K oa).2.1 = nI Q) ∨ (P + 4 ≤ enT tx T P ∧ OK_ tx T P K wd nu oa (roC tx T P K wd nu) (roM tx T P (-100005) K oa)) := by
  have hb := enT_b tx hP
  have w := wo_e (tx := tx) (P := P) (e := enT tx T P) hb.1 (by omega)
  rcases word_c tx P (enT tx T P) with h | h | h | h | h | h
  · rw [h, if_neg (by decide)] at w
    have wl := word_len hb.1 (by omega) (show ¬ sp_X8_word tx P (enT tx T P) = -100005 by rw [w]; decide)
    rw [roC_0 h, roM_0 w]
    exact Or.inr ⟨wl, or_0 hT7 hP⟩
  · rw [h, if_neg (by decide)] at w
    have wl := word_len hb.1 (by omega) (show ¬ sp_X8_word tx P (enT tx T P) = -100005 by rw [w]; decide)
    rw [roC_1 h, roM_1 w]
    exact Or.inr ⟨wl, or_1 hT7 hP⟩
  · rw [h, if_neg (by decide)] at w
    have wl := word_len hb.1 (by omega) (show ¬ sp_X8_word tx P (enT tx T P) = -100005 by rw [w]; decide)
    rw [roC_2 h, roM_2 w]
    exact Or.inr ⟨wl, or_2 hT7 hP⟩
  · rw [h, if_neg (by decide)] at w
    have wl := word_len hb.1 (by omega) (show ¬ sp_X8_word tx P (enT tx T P) = -100005 by rw [w]; decide)
    rw [roC_3 h, roM_3 w]
    exact Or.inr ⟨wl, or_3 hT7 hP⟩
  · rw [h, if_neg (by decide)] at w
    have wl := word_len hb.1 (by omega) (show ¬ sp_X8_word tx P (enT tx T P) = -100005 by rw [w]; decide)
    rw [roC_4 h, roM_4 w]
    exact Or.inr ⟨wl, or_4 hT7 hP⟩
  · rw [h, if_pos rfl] at w
    rw [roC_n h, roM_n w]
    exact Or.inl (or_n hT7 hP)
theorem rc_rd {tx : Nat → Int32} {T : Nat} (hT7 : T ≤ 70) : ∀ (f P K : Nat) (wd nu oa : Nat → Int32) (fuel : Nat), f + K = 11 → P ≤ T → 7 * K ≤ P → T ≤ P + fuel → (∀ k : Nat, k < K → Rl wd nu oa k) → PE T (rcL tx T f P K wd nu) (rdL tx T fuel (roM tx T P (-100005) K oa).1 (roM tx T P (-100005) K oa).2.1 (K + 1) (roM tx T P (-100005) K oa).2.2)
  | 0, P, K, _, _, _, _, h1, h2, h3, _, _ => absurd h3 (by omega)
  | f + 1, P, K, wd, nu, oa, fuel, h1, h2, h3, h4, h5 => by
    have hO := or_all (tx := tx) (T := T) (P := P) (K := K) (wd := wd) (nu := nu) (oa := oa) hT7 h2
    rw [rcL_s]
    generalize roC tx T P K wd nu = C at hO ⊢
    generalize roM tx T P (-100005) K oa = M at hO ⊢
    have flt : ∀ Q : Nat, Q ≤ T → C.1 = 0 → C.2.2.2 = Q → M.2.1 = nI Q → PE T (nI C.2.2.2, C.2.1, C.2.2.1, K, C.2.2.2) (rdL tx T fuel M.1 M.2.1 (K + 1) M.2.2) := fun Q q1 q2 q3 q4 => by
      rw [q3, q4, rd_f (nI_pos (by omega)) fuel]
      exact Or.inr ⟨Q, q1, rfl, rfl⟩
    rcases hO with ⟨Q, q1, q2, q3, q4⟩ | ⟨hw4, ⟨Q, q1, q2, q3, q4⟩ | ⟨Q, q1, q2, q3, q4, q5, q6, q7, q8, q9, q10⟩⟩
    · rw [if_pos q2]; exact flt Q q1 q2 q3 q4
    · rw [if_pos q2]; exact flt Q q1 q2 q3 q4
    rw [if_neg (by rw [q3]; decide), q4, q5, q6]
    have hRl : ∀ k : Nat, k < K + 1 → Rl C.2.1 C.2.2.1 M.2.2 k := fun k hk => by
      by_cases e : k = K
      · subst e; exact q7
      · exact (h5 k (by omega)).cong (q8 k (by omega)) (fun j hj => q9 _ (by omega)) (fun j hj => q10 _ (by omega))
    by_cases hQ : Q < T
    · rw [if_pos hQ, if_neg (show ¬ nI T ≤ nI Q from fun z => by have := (nI_leI (a := T) (b := Q) (by omega) (by omega)).mp z; omega)]
      by_cases h59 : tx Q = 59
      · rw [if_pos h59, if_pos h59]
        obtain ⟨fu, rfl⟩ : ∃ fu, fuel = fu + 1 := ⟨fuel - 1, by omega⟩
        rw [rd_s (by decide) hQ]
        exact rc_rd hT7 f (Q + 1) (K + 1) C.2.1 C.2.2.1 M.2.2 fu (by omega) (by omega) (by omega) (by omega) hRl
      · rw [if_neg h59, if_neg h59, rd_f (nI_pos (by omega)) fuel]
        exact Or.inr ⟨Q, q2, rfl, rfl⟩
    · rw [if_neg hQ, if_pos (nI_le (by omega) (by omega)), rd_t (by omega) fuel]
      exact Or.inl ⟨rfl, show (-100005 : Int32) < 0 by decide, rfl, hRl⟩
theorem pe_all {tx : Nat → Int32} {T : Nat} (hT7 : T ≤ 70) (wd nu oa : Nat → Int32) : PE T (rcA tx T wd nu) (rdA tx T oa) :=
  rc_rd hT7 11 0 0 wd nu oa 71 rfl (Nat.zero_le _) (Nat.le_refl _) (by omega) (fun k hk => absurd hk (Nat.not_lt_zero k))
theorem Gd.tb {tb tb' : Nat} {R r : Nat → Int32} (h : Gd tb R r) (ht : tb ≤ tb') : Gd tb' R r := by
  obtain ⟨sc, cn, a, b⟩ := h
  exact ⟨sc, cn, a.tb ht, b⟩
theorem Gd.fix {tb sc cn : Nat} {R r : Nat → Int32} (h : Gd tb R r) (h3 : r 3 = nI cn) (h4 : r 4 = nI sc) (hc : cn ≤ 5) (hs : sc ≤ 5) : Iv r sc cn tb ∧ RelR sc R r := by
  obtain ⟨sc', cn', a, b⟩ := h
  have e1 : cn' = cn := (nI_eq (by have := a.1.2.1; omega) (by omega)).mp (a.1.1.symm.trans h3)
  have e2 : sc' = sc := (nI_eq (by have := a.1.2.2.2; omega) (by omega)).mp (a.1.2.2.1.symm.trans h4)
  subst e1; subst e2
  exact ⟨a, b⟩
theorem DS.tb {tb tb' lh : Nat} {S : ClT} {M : Int32 × (Nat → Int32) × Int32} {ru : Int32} {hq : Nat → Nat → Int32} {R : Nat → Int32} (h : DS tb S M ru lh hq R) (ht : tb ≤ tb') : DS tb' S M ru lh hq R := ⟨h.1, h.2.1, h.2.2.1.tb ht, h.2.2.2⟩
theorem car_e {r R : Nat → Int32} {sc cn tb lh k : Nat} {hq : Nat → Nat → Int32} {ru rs : Int32} {wd nu oa : Nat → Int32} (hI : Iv r sc cn tb) (hR : RelR sc R r) (ht : tb ≤ 900000000) (hl : Rl wd nu oa k) : DS (tb + 60) (sq_X7_carryOut lh ru rs R hq wd nu k sc cn) (sp_X8_carryOut r rs oa k sc cn) ru lh hq R := by
  obtain ⟨l0, l1, l2, l3⟩ := hl
  unfold sq_X7_carryOut sp_X8_carryOut
  rw [l0, l1]
  by_cases h0 : wd k = 0
  · rw [if_pos h0, if_pos h0]; exact ds_pass hI hR ht
  rw [if_neg h0, if_neg h0]
  by_cases h1 : wd k = 1
  · rw [if_pos h1, if_pos h1, l2 (fun z => by rw [h1] at z; exact absurd z (by decide)), l3 (Or.inl h1)]; exact (ds_push hI hR).tb (by omega)
  rw [if_neg h1, if_neg h1]
  by_cases h2 : wd k = 2
  · rw [if_pos h2, if_pos h2, l2 (fun z => by rw [h2] at z; exact absurd z (by decide)), l3 (Or.inr h2)]; exact ds_observe hI hR ht
  rw [if_neg h2, if_neg h2]
  by_cases h3 : wd k = 3
  · rw [if_pos h3, if_pos h3, l2 (fun z => by rw [h3] at z; exact absurd z (by decide))]; exact (ds_swap hI hR).tb (by omega)
  rw [if_neg h3, if_neg h3]
  by_cases h4 : wd k = 4
  · rw [if_pos h4]; exact (ds_orient hI hR).tb (by omega)
  · rw [if_neg h4]; exact (ds_orient hI hR).tb (by omega)
theorem co_e {wd nu oa : Nat → Int32} {O sc cn lh : Nat} {hq : Nat → Nat → Int32} (hO : ∀ k : Nat, k < O → Rl wd nu oa k) : ∀ (f k : Nat) (R r : Nat → Int32) (rs : Int32) (tb : Nat), tb + 60 * f ≤ 900000000 → Iv r sc cn tb → RelR sc R r →
    (ccL lh hq wd nu O sc cn f k R rs).1 = (coL oa O sc cn f k r rs).1 ∧ (ccL lh hq wd nu O sc cn f k R rs).2.2 = (coL oa O sc cn f k r rs).2.2 ∧ Iv (coL oa O sc cn f k r rs).2.1 sc cn (tb + 60 * f) ∧ RelR sc (ccL lh hq wd nu O sc cn f k R rs).2.1 (coL oa O sc cn f k r rs).2.1
  | 0, k, R, r, rs, tb, _, hI, hR => ⟨rfl, rfl, hI, hR⟩
  | f + 1, k, R, r, rs, tb, ht, hI, hR => by
    rw [ccL_s, coL_s]
    by_cases hk : k < O
    · rw [if_pos hk, if_pos hk]
      have d := car_e (lh := lh) (hq := hq) (ru := 1) (rs := rs) hI hR (by omega) (hO k hk)
      have kp := kp_carry r rs oa k sc cn
      generalize sq_X7_carryOut lh 1 rs R hq wd nu k sc cn = S at d ⊢
      generalize sp_X8_carryOut r rs oa k sc cn = M at d kp ⊢
      obtain ⟨d1, d2, d3, d4⟩ := d
      obtain ⟨i1, i2⟩ := d3.fix (kp.1.trans hI.1.1) (kp.2.1.trans hI.1.2.2.1) hI.1.2.1 hI.1.2.2.2
      rcases d4 with ⟨a, _⟩ | ⟨a, _⟩
      · rw [if_neg (fun z => by rw [d1, i_le] at z; have z : (0 : Int) ≤ _ := z; omega), if_neg (fun z => by rw [i_lt] at z; have z : (-100001 : Int) < _ := z; omega)]
        exact ⟨rfl, d2, i1.tb (by omega), i2⟩
      · rw [if_pos (by rw [d1, i_le]; exact a), if_pos (by rw [i_lt]; show (-100001 : Int) < _; omega), d2]
        have q := co_e (lh := lh) (hq := hq) hO f (k + 1) S.2.2.1 M.2.1 M.2.2 (tb + 60) (by omega) i1 i2
        rw [show tb + 60 * (f + 1) = tb + 60 + 60 * f by omega]
        exact q
    · rw [if_neg hk, if_neg hk]
      exact ⟨rfl, rfl, hI.tb (by omega), hR⟩
theorem coL_k {oa : Nat → Int32} {O sc cn : Nat} : ∀ (f k : Nat) (r : Nat → Int32) (rs : Int32), (coL oa O sc cn f k r rs).1 ≤ k + f
  | 0, k, _, _ => Nat.le_refl _
  | f + 1, k, r, rs => by
    rw [coL_s]
    by_cases hk : k < O
    · rw [if_pos hk]
      split
      · have := coL_k (oa := oa) (O := O) (sc := sc) (cn := cn) f (k + 1) (sp_X8_carryOut r rs oa k sc cn).2.1 (sp_X8_carryOut r rs oa k sc cn).2.2
        omega
      · show k ≤ k + (f + 1); omega
    · rw [if_neg hk]; show k ≤ k + (f + 1); omega
