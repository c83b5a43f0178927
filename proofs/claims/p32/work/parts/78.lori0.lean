/-! Orienting: the reason, the difference, the half. -/
section OQ
variable {R : Nat → Int32} {sc cn tb : Nat} {s1 pr : Nat}
/-- the lowest reason of the first pairs -/
def dvF (R : Nat → Int32) (s1 : Nat) : Nat → Int32
  | 0 => 0
  | p + 1 => lrI (dvF R s1 p) (sq_X7_reasonAgainst R s1 p)
theorem ra_rng : 0 ≤ (sq_X7_reasonAgainst R s1 pr).toInt ∧ (sq_X7_reasonAgainst R s1 pr).toInt ≤ 4 := by
  unfold sq_X7_reasonAgainst
  (repeat' split) <;> decide
theorem ra_n4 (ha : R (5 + 11 * (2 * pr) + 0) = 1) (hb : R (5 + 11 * (2 * pr + 1) + 0) = 1) (va : ¬ R (84 + 6 * (4 * s1 + 2 * pr) + 0) = 0) (vb : ¬ R (84 + 6 * (4 * s1 + (2 * pr + 1)) + 0) = 0) (h : ¬ sq_X7_reasonAgainst R s1 pr = 0) : sq_X7_reasonAgainst R s1 pr = 4 := by
  by_cases q : Plc R pr
  · exact ra_4 ha hb va vb (Or.inl q)
  · by_cases q2 : Mea R s1 pr
    · exact ra_4 ha hb va vb (Or.inr q2)
    · exact absurd (ra_0 ha hb va vb q q2) h
theorem dv_l (h : sq_X7_reasonAgainst R s1 pr ≤ 0) : dvF R s1 (pr + 1) = dvF R s1 pr := by
  have z : sq_X7_reasonAgainst R s1 pr = 0 := by
    rw [i_le] at h
    have r := ra_rng (R := R) (s1 := s1) (pr := pr)
    rw [i_eq]
    have h : _ ≤ (0 : Int) := h
    show _ = (0 : Int)
    omega
  show lrI (dvF R s1 pr) (sq_X7_reasonAgainst R s1 pr) = _
  rw [z]
  unfold lrI
  split
  · rename_i q; exact q.symm
  · rw [if_pos rfl]
theorem dv_z (h : dvF R s1 pr = 0) : dvF R s1 (pr + 1) = sq_X7_reasonAgainst R s1 pr := by
  show lrI (dvF R s1 pr) (sq_X7_reasonAgainst R s1 pr) = _
  unfold lrI
  rw [if_pos h]
theorem dv_g (h : ¬ sq_X7_reasonAgainst R s1 pr ≤ 0) (h0 : ¬ dvF R s1 pr = 0) (h2 : dvF R s1 pr ≤ sq_X7_reasonAgainst R s1 pr) : dvF R s1 (pr + 1) = dvF R s1 pr := by
  show lrI (dvF R s1 pr) (sq_X7_reasonAgainst R s1 pr) = _
  unfold lrI
  rw [if_neg h0, if_neg (fun q => h (by rw [q]; decide)), if_neg (ge_nlt h2)]
theorem dv_s (h : ¬ sq_X7_reasonAgainst R s1 pr ≤ 0) (h0 : ¬ dvF R s1 pr = 0) (h2 : ¬ dvF R s1 pr ≤ sq_X7_reasonAgainst R s1 pr) : dvF R s1 (pr + 1) = sq_X7_reasonAgainst R s1 pr := by
  show lrI (dvF R s1 pr) (sq_X7_reasonAgainst R s1 pr) = _
  unfold lrI
  rw [if_neg h0, if_neg (fun q => h (by rw [q]; decide)), if_pos (nle_lt h2)]
def whF (R : Nat → Int32) (s1 : Nat) : Int32 := lrI (sq_X7_reasonAgainst R s1 0) (sq_X7_reasonAgainst R s1 1)
theorem dv_w : whF R s1 = dvF R s1 2 := by
  have e : dvF R s1 1 = sq_X7_reasonAgainst R s1 0 := dv_z (pr := 0) rfl
  show _ = lrI (dvF R s1 1) (sq_X7_reasonAgainst R s1 1)
  rw [e]
  rfl
theorem wh_0 (h : whF R s1 = 0) : sq_X7_reasonAgainst R s1 0 = 0 ∧ sq_X7_reasonAgainst R s1 1 = 0 := by
  unfold whF lrI at h
  split at h
  · rename_i q; exact ⟨q, h⟩
  · rename_i q
    split at h
    · exact absurd h q
    · rename_i q2
      split at h
      · exact absurd h q2
      · exact absurd h q
theorem wh_p (h : ¬ whF R s1 = 0) : ¬ whF R s1 ≤ 0 := by
  intro z
  have r0 := (ra_rng (R := R) (s1 := s1) (pr := 0)).1
  have r1 := (ra_rng (R := R) (s1 := s1) (pr := 1)).1
  refine h ?_
  rw [i_le] at z
  have z : _ ≤ (0 : Int) := z
  rw [i_eq]
  show _ = (0 : Int)
  have p : 0 ≤ (whF R s1).toInt := by
    unfold whF lrI
    split
    · exact r1
    · split
      · exact r0
      · split
        · exact r1
        · exact r0
  omega
/-- the difference of both, as the law counts it -/
def apF (R : Nat → Int32) (s1 : Nat) : Int32 := rdI (sq_X7_orientationFrom R s1 1 - sq_X7_orientationFrom R s1 0 + 4000) - 4000
theorem ap_i : (sq_X7_orientationFrom R s1 1 - sq_X7_orientationFrom R s1 0 + 4000).toInt = (sq_X7_orientationFrom R s1 1).toInt - (sq_X7_orientationFrom R s1 0).toInt + 4000 := by
  obtain ⟨a1, a2⟩ := or_r (R := R) (s1 := s1) (pr := 0)
  obtain ⟨b1, b2⟩ := or_r (R := R) (s1 := s1) (pr := 1)
  have e : (sq_X7_orientationFrom R s1 1 - sq_X7_orientationFrom R s1 0).toInt = (sq_X7_orientationFrom R s1 1).toInt - (sq_X7_orientationFrom R s1 0).toInt := fb_subI (by omega) (by omega)
  have z : (4000 : Int32).toInt = 4000 := rfl
  rw [fb_addI (by rw [e, z]; omega) (by rw [e, z]; omega), e, z]
theorem ap_c : (ciI (((sq_X7_orientationFrom R s1 1).toInt64 - (sq_X7_orientationFrom R s1 0).toInt64) + 4000)) - 4000 = apF R s1 := by
  obtain ⟨a1, a2⟩ := or_r (R := R) (s1 := s1) (pr := 0)
  obtain ⟨b1, b2⟩ := or_r (R := R) (s1 := s1) (pr := 1)
  have e0 : (sq_X7_orientationFrom R s1 0).toInt64.toInt = (sq_X7_orientationFrom R s1 0).toInt := Int32.toInt_toInt64 _
  have e1 : (sq_X7_orientationFrom R s1 1).toInt64.toInt = (sq_X7_orientationFrom R s1 1).toInt := Int32.toInt_toInt64 _
  have d : ((sq_X7_orientationFrom R s1 1).toInt64 - (sq_X7_orientationFrom R s1 0).toInt64).toInt = (sq_X7_orientationFrom R s1 1).toInt - (sq_X7_orientationFrom R s1 0).toInt := by
    rw [fb_subL (by rw [e0, e1]; omega) (by rw [e0, e1]; omega), e0, e1]
  have z : (4000 : Int64).toInt = 4000 := rfl
  have d4 : (((sq_X7_orientationFrom R s1 1).toInt64 - (sq_X7_orientationFrom R s1 0).toInt64) + 4000).toInt = (sq_X7_orientationFrom R s1 1).toInt - (sq_X7_orientationFrom R s1 0).toInt + 4000 := by
    rw [fb_addL (by rw [d, z]; omega) (by rw [d, z]; omega), d, z]
  refine congrArg (· - 4000) ?_
  rw [i_eq, ci_I, d4, rd_I (by unfold Bt; rw [ap_i]; omega), ap_i]
theorem ap_b : Bt (apF R s1) (-4000) 3999 := by
  obtain ⟨a1, a2⟩ := or_r (R := R) (s1 := s1) (pr := 0)
  obtain ⟨b1, b2⟩ := or_r (R := R) (s1 := s1) (pr := 1)
  have e := rd_I (v := sq_X7_orientationFrom R s1 1 - sq_X7_orientationFrom R s1 0 + 4000) (by unfold Bt; rw [ap_i]; omega)
  have z : (4000 : Int32).toInt = 4000 := rfl
  have f : (apF R s1).toInt = (rdI (sq_X7_orientationFrom R s1 1 - sq_X7_orientationFrom R s1 0 + 4000)).toInt - 4000 := by
    unfold apF
    rw [fb_subI (by rw [e, z]; omega) (by rw [e, z]; omega), z]
  unfold Bt
  rw [f, e]
  omega
/-- the orientation that a station gets -/
def orV (R : Nat → Int32) (s1 : Nat) : Int32 := ciI ((sq_X7_orientationFrom R s1 0).toInt64 + (sq_fdI (apF R s1) 2).toInt64)
theorem orV_h {h : Int32} (hh : h.toInt = (apF R s1).toInt / 2) : orV R s1 = rdI (sq_X7_orientationFrom R s1 0 + h) := by
  obtain ⟨a1, a2⟩ := or_r (R := R) (s1 := s1) (pr := 0)
  obtain ⟨b1, b2⟩ := ap_b (R := R) (s1 := s1)
  have f : (sq_fdI (apF R s1) 2).toInt = (apF R s1).toInt / 2 := fd_I (x := apF R s1) (y := 2) (by decide)
  have e0 : (sq_X7_orientationFrom R s1 0).toInt64.toInt = (sq_X7_orientationFrom R s1 0).toInt := Int32.toInt_toInt64 _
  have e1 : (sq_fdI (apF R s1) 2).toInt64.toInt = (apF R s1).toInt / 2 := (Int32.toInt_toInt64 _).trans f
  have s : (sq_X7_orientationFrom R s1 0 + h).toInt = (sq_X7_orientationFrom R s1 0).toInt + (apF R s1).toInt / 2 := by
    rw [fb_addI (by rw [hh]; omega) (by rw [hh]; omega), hh]
  unfold orV
  rw [i_eq, ci_I, fb_addL (by rw [e0, e1]; omega) (by rw [e0, e1]; omega), e0, e1, rd_I (by unfold Bt; rw [s]; omega), s]
theorem hf_n (h : ¬ 0 ≤ apF R s1) : (-((1 - apF R s1) / 2)).toInt = (apF R s1).toInt / 2 := by
  obtain ⟨b1, b2⟩ := ap_b (R := R) (s1 := s1)
  rw [i_le] at h
  have h : ¬ (0 : Int) ≤ _ := h
  have z : (1 : Int32).toInt = 1 := rfl
  have e : (1 - apF R s1).toInt = 1 - (apF R s1).toInt := by rw [fb_subI (by rw [z]; omega) (by rw [z]; omega), z]
  have d : ((1 - apF R s1) / 2).toInt = (1 - (apF R s1).toInt) / 2 := by
    rw [i_div (by decide), e]
    exact Int.tdiv_eq_ediv_of_nonneg (by omega)
  rw [fb_negI (by rw [d]; omega), d]
  omega
theorem hf_p (h : 0 ≤ apF R s1) : (apF R s1 / 2).toInt = (apF R s1).toInt / 2 := by
  rw [i_le] at h
  have h : (0 : Int) ≤ _ := h
  rw [i_div (by decide)]
  exact Int.tdiv_eq_ediv_of_nonneg h
variable {lh : Nat} {rs : Int32} {hq : Nat → Nat → Int32}
def orR (R : Nat → Int32) (s1 : Nat) : Nat → Int32 := hPut R s1 (R (69 + 3 * s1)) (R (69 + 3 * s1 + 1)) 1 (orV R s1)
theorem or_w (J : Jv R sc cn tb) (hs : s1 < sc) (h : ¬ whF R s1 = 0) : sq_X7_orient lh 0 rs R hq (nI s1) sc = (-100003, whF R s1, R, lh, hq) := by
  have s5 := J.s5
  unfold sq_X7_orient
  rw [wN_nI (by omega), if_neg (inS J.s4 hs s5)]
  exact if_neg h
theorem or_5 (J : Jv R sc cn tb) (hs : s1 < sc) (h : whF R s1 = 0) (h2 : ¬ szI (apF R s1) ≤ R 1) : sq_X7_orient lh 0 rs R hq (nI s1) sc = (-100003, 5, R, lh, hq) := by
  have s5 := J.s5
  unfold sq_X7_orient
  rw [wN_nI (by omega), if_neg (inS J.s4 hs s5), ap_c, abs_sz]
  refine (if_pos h).trans ?_
  exact if_neg h2
theorem or_k (J : Jv R sc cn tb) (hs : s1 < sc) (h : whF R s1 = 0) (h2 : szI (apF R s1) ≤ R 1) : sq_X7_orient lh 0 rs R hq (nI s1) sc = (orV R s1, rs, orR R s1, rmL 0 lh, rmQ 0 lh hq R) := by
  have s5 := J.s5
  unfold sq_X7_orient
  rw [wN_nI (by omega), if_neg (inS J.s4 hs s5), ap_c, abs_sz]
  refine (if_pos h).trans ?_
  exact if_pos h2
theorem hP_no {r : Nat → Int32} {s k : Nat} {a b c d : Int32} (h1 : k ≠ 69 + 3 * s) (h2 : k ≠ 69 + 3 * s + 1) (h3 : k ≠ 69 + 3 * s + 2) (h4 : k ≠ 204 + s) : hPut r s a b c d k = r k := by
  unfold hPut
  rw [if_neg h1, if_neg h2, if_neg h3, if_neg h4]
theorem oR_2 : orR R s1 (69 + 3 * s1 + 2) = orV R s1 := by
  unfold orR hPut
  rw [if_neg (by omega), if_neg (by omega), if_pos rfl]
theorem oR_h (h5 : s1 < 5) : orR R s1 (204 + s1) = 1 := by
  unfold orR hPut
  rw [if_neg (by omega), if_neg (by omega), if_neg (by omega), if_pos rfl]
theorem oR_no {k : Nat} (h3 : k ≠ 69 + 3 * s1 + 2) (h4 : k ≠ 204 + s1) : orR R s1 k = R k := by
  unfold orR
  by_cases q : k = 69 + 3 * s1
  · subst q; exact if_pos rfl
  · by_cases q2 : k = 69 + 3 * s1 + 1
    · subst q2
      unfold hPut
      rw [if_neg (by omega), if_pos rfl]
    · exact hP_no q q2 h3 h4
theorem Jv.orient (J : Jv R sc cn tb) (hs : s1 < sc) (h : whF R s1 = 0) (h2 : szI (apF R s1) ≤ R 1) : Jv (orR R s1) sc cn tb := by
  have s5 := J.s5
  have c5 := J.c5
  have e := or_k (lh := 0) (rs := 0) (hq := fun _ _ => 0) J hs h h2
  have hg : Gd tb (orR R s1) (sp_X8_doOrient (Classical.choose J.1) 0 (nI s1) sc).2.1 := by
    obtain ⟨hI, hR⟩ := Classical.choose_spec J.1
    have d := (ds_orient (lh := 0) (hq := fun _ _ => 0) (ru := 0) (rs := 0) (x := nI s1) hI hR).2.2.1
    rw [e] at d
    exact d
  refine Jv.of hg (by rw [oR_no (by omega) (by omega), J.c3]) (by rw [oR_no (by omega) (by omega), J.s4]) c5 s5 ⟨fun s v hs2 hv h => ?_, fun s hs2 h => ?_⟩
  · rw [oR_no (by omega) (by omega)] at h
    rw [oR_no (by omega) (by omega), oR_no (by omega) (by omega), oR_no (by omega) (by omega), oR_no (by omega) (by omega), oR_no (by omega) (by omega)]
    exact J.v hs2 hv h
  · by_cases q : s = s1
    · subst q
      rw [oR_2]
      exact ci_b _
    · rw [oR_no (by omega) (by omega)] at h ⊢
      exact J.o hs2 h
end OQ
