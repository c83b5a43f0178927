/-! Observing: the readings, the row behind. -/
section OB
variable {R : Nat → Int32} {sc cn tb : Nat} {w s1 : Nat}
/-- the readings at a station along both axes, as far as they are taken -/
def obA (R : Nat → Int32) (w s1 cn k q : Nat) : Nat → Int32 := fun a => rdS (rdF R w (R (69 + 3 * s1)) (nI a) cn) k q
theorem rdS_s (F : Nat → Int32) (k : Nat) : rdS F (k + 1) = adR (rdS F k) (F k) := rfl
theorem rdS_0 (F : Nat → Int32) : ∀ k : Nat, rdS F k 0 = nI k
  | 0 => rfl
  | k + 1 => by
    have e : rdS F (k + 1) 0 = rdS F k 0 + 1 := rfl
    rw [e, rdS_0 F k, nI_1]
theorem rl_0 {F : Nat → Int32} {k : Nat} (h : nI k = 0) : F k = rdS F (k + 1) 2 := by
  have e : rdS F (k + 1) 2 = if rdS F k 0 = 0 then F k else if F k < rdS F k 2 then F k else rdS F k 2 := rfl
  rw [e, rdS_0, if_pos h]
theorem rl_1 {F : Nat → Int32} {k : Nat} (h : ¬ nI k = 0) (h2 : ¬ rdS F k 2 ≤ F k) : F k = rdS F (k + 1) 2 := by
  have e : rdS F (k + 1) 2 = if rdS F k 0 = 0 then F k else if F k < rdS F k 2 then F k else rdS F k 2 := rfl
  rw [e, rdS_0, if_neg h, if_pos (nle_lt h2)]
theorem rl_2 {F : Nat → Int32} {k : Nat} (h : ¬ nI k = 0) (h2 : rdS F k 2 ≤ F k) : rdS F k 2 = rdS F (k + 1) 2 := by
  have e : rdS F (k + 1) 2 = if rdS F k 0 = 0 then F k else if F k < rdS F k 2 then F k else rdS F k 2 := rfl
  rw [e, rdS_0, if_neg h, if_neg (ge_nlt h2)]
theorem rm_0 {F : Nat → Int32} {k : Nat} (h : nI k = 0) : F k = rdS F (k + 1) 3 := by
  have e : rdS F (k + 1) 3 = if rdS F k 0 = 0 then F k else if rdS F k 3 < F k then F k else rdS F k 3 := rfl
  rw [e, rdS_0, if_pos h]
theorem rm_1 {F : Nat → Int32} {k : Nat} (h : ¬ nI k = 0) (h2 : ¬ F k ≤ rdS F k 3) : F k = rdS F (k + 1) 3 := by
  have e : rdS F (k + 1) 3 = if rdS F k 0 = 0 then F k else if rdS F k 3 < F k then F k else rdS F k 3 := rfl
  rw [e, rdS_0, if_neg h, if_pos (nle_lt h2)]
theorem rm_2 {F : Nat → Int32} {k : Nat} (h : ¬ nI k = 0) (h2 : F k ≤ rdS F k 3) : rdS F k 3 = rdS F (k + 1) 3 := by
  have e : rdS F (k + 1) 3 = if rdS F k 0 = 0 then F k else if rdS F k 3 < F k then F k else rdS F k 3 := rfl
  rw [e, rdS_0, if_neg h, if_neg (ge_nlt h2)]
theorem at_l (J : Jv R sc cn tb) {k : Nat} (ht : tb + k ≤ 1000000000) (hw : w < 4) (h1 : R (5 + 11 * w + 0) = 1) (z : Int32) {a : Nat} (ha : a < 2) : reS R w z (nI a) cn + (acL (R (5 + 11 * w + 8)) (nI a) * (swL (tkN R k (5 + 11 * w + 9)) ((4 * qdI (R (5 + 11 * w + 4))) / 4) (tkN R k (5 + 11 * w + 10)) * z / R (5 + 11 * w + 4))) = rdF R w z (nI a) cn k := by
  have g := (J.tick ht).wg hw (by rw [J.tkw ht hw (show 0 < 9 by decide)]; exact h1)
  have q := at_sy g z ha
  have e8 := J.tkw ht hw (show 8 < 9 by decide)
  have e4 := J.tkw ht hw (show 4 < 9 by decide)
  rw [e8, e4] at q
  exact congrArg (reS R w z (nI a) cn + ·) q
theorem rdF_b (J : Jv R sc cn tb) {k : Nat} (ht : tb + k ≤ 1000000000) (hw : w < 4) (h1 : R (5 + 11 * w + 0) = 1) {z : Int32} (hz : Bt z 0 800) {a : Nat} (ha : a < 2) : Bt (rdF R w z (nI a) cn k) (-16005020) 16005020 := by
  obtain ⟨⟨r, hI, hR⟩, _⟩ := J
  obtain ⟨e, b⟩ := ps_e hI hR hw (by rw [← hR.w hw (by decide)]; exact h1) hz ha ht
  rw [e]
  exact b
theorem mn_0 {F : Nat → Int32} {m : Nat} (h1 : 1 ≤ m) (h6 : m ≤ 60) (h : ∀ k : Nat, k < m → Bt (F k) (-16005020) 16005020) : (sq_mean (rdS F m)).toInt = (rdS F m 1).toInt / m ∧ Bt (rdS F m 1) (-960301200) 960301200 := by
  obtain ⟨j, rfl⟩ : ∃ j, m = j + 1 := ⟨m - 1, by omega⟩
  obtain ⟨c0, c1, c2, c3, c4, c5, c6, c7⟩ := rd_all j h6 h
  have vn : (nI (j + 1)).toInt = ((j + 1 : Nat) : Int) := nI_toInt (by omega)
  have hp : 0 < (nI (j + 1)).toInt := by rw [vn]; omega
  have f1 := fd_I (x := rdS F (j + 1) 1) hp
  have hm : sq_mean (rdS F (j + 1)) = sq_fdI (rdS F (j + 1) 1) (nI (j + 1)) := by
    unfold sq_mean
    rw [c0, if_pos ((i_le _ _).mpr (by rw [vn]; show (1 : Int) ≤ _; omega))]
  refine ⟨by rw [hm, f1, vn], ?_⟩
  unfold Bt
  rw [c1]
  omega
theorem dm_1 {x : Int} {m : Nat} (h : 1 ≤ m) : x / m * m ≤ x ∧ x < (x / m + 1) * m := by
  have a := Int.ediv_mul_le x (show (m : Int) ≠ 0 by omega)
  have b := Int.lt_ediv_add_one_mul_self x (show (0 : Int) < m by omega)
  exact ⟨a, b⟩
theorem mn_1 {F : Nat → Int32} {m : Nat} (h1 : 1 ≤ m) (h6 : m ≤ 60) (h : ∀ k : Nat, k < m → Bt (F k) (-16005020) 16005020) : sq_mean (rdS F m) * nI m ≤ rdS F m 1 ∧ ¬ (sq_mean (rdS F m) + 1) * nI m ≤ rdS F m 1 := by
  obtain ⟨e, b1, b2⟩ := mn_0 h1 h6 h
  have vn : (nI m).toInt = (m : Int) := nI_toInt (by omega)
  obtain ⟨d1, d2⟩ := dm_1 (x := (rdS F m 1).toInt) h1
  have q1 : (rdS F m 1).toInt / (m : Int) ≤ 16005020 := Int.ediv_le_of_le_mul (by omega) (by
    have := h (m - 1) (by omega)
    have r := rd_all (F := F) (m - 1) (by omega) (fun k hk => h k (by omega))
    obtain ⟨c0, c1, c2, -⟩ := r
    rw [show m - 1 + 1 = m by omega] at c1 c2
    rw [c1]
    omega)
  have q2 : -16005020 ≤ (rdS F m 1).toInt / (m : Int) := (Int.le_ediv_iff_mul_le (by omega)).mpr (by
    have r := rd_all (F := F) (m - 1) (by omega) (fun k hk => h k (by omega))
    obtain ⟨c0, c1, c2, -⟩ := r
    rw [show m - 1 + 1 = m by omega] at c1 c2
    rw [c1]
    omega)
  rw [Int.add_mul, Int.one_mul] at d2
  have e1 : (sq_mean (rdS F m) * nI m).toInt = (rdS F m 1).toInt / m * m := by
    rw [fb_mulI (by rw [e, vn]; omega) (by rw [e, vn]; omega), e, vn]
  have ep : (sq_mean (rdS F m) + 1).toInt = (rdS F m 1).toInt / m + 1 := by
    rw [fb_addI (by rw [e]; show _ ≤ _ + (1 : Int); omega) (by rw [e]; show _ + (1 : Int) < _; omega), e]; rfl
  have e2 : ((sq_mean (rdS F m) + 1) * nI m).toInt = (rdS F m 1).toInt / m * m + m := by
    rw [fb_mulI (by rw [ep, vn, Int.add_mul]; omega) (by rw [ep, vn, Int.add_mul]; omega), ep, vn, Int.add_mul, Int.one_mul]
  exact ⟨(i_le _ _).mpr (by rw [e1]; exact d1), fun z => by rw [i_le, e2] at z; omega⟩
/-- the spread, as the class has it -/
def spR (R : Nat → Int32) (w s1 cn m : Nat) : Int32 := if obA R w s1 cn m 3 0 - obA R w s1 cn m 2 0 < obA R w s1 cn m 3 1 - obA R w s1 cn m 2 1 then obA R w s1 cn m 3 1 - obA R w s1 cn m 2 1 else obA R w s1 cn m 3 0 - obA R w s1 cn m 2 0
theorem sp_y {m : Nat} (h : obA R w s1 cn m 3 0 - obA R w s1 cn m 2 0 ≤ obA R w s1 cn m 3 1 - obA R w s1 cn m 2 1) : obA R w s1 cn m 3 1 - obA R w s1 cn m 2 1 = spR R w s1 cn m := by
  unfold spR
  split
  · rfl
  · rename_i z
    rw [i_le] at h
    rw [i_lt] at z
    rw [i_eq]
    omega
theorem sp_x {m : Nat} (h : ¬ obA R w s1 cn m 3 0 - obA R w s1 cn m 2 0 ≤ obA R w s1 cn m 3 1 - obA R w s1 cn m 2 1) : obA R w s1 cn m 3 0 - obA R w s1 cn m 2 0 = spR R w s1 cn m := by
  unfold spR
  rw [if_neg (fun z => by rw [i_le] at h; rw [i_lt] at z; omega)]
variable {m : Nat}
theorem lk_in {q : Nat} (hq : q < 6) : sq_X4_look R w s1 m cn (84 + 6 * (4 * s1 + w) + q) = l6 1 (sq_mean (rdS (rdF R w (R (69 + 3 * s1)) 0 cn) m)) (sq_mean (rdS (rdF R w (R (69 + 3 * s1)) 1 cn) m)) (spR R w s1 cn m) (nI m) (R 0 + nI m) q := by
  unfold sq_X4_look
  rw [oP_in hq, tkN_0]
  rfl
theorem lk_no {k : Nat} (h : k < 84 + 6 * (4 * s1 + w) ∨ 84 + 6 * (4 * s1 + w) + 6 ≤ k) (h2 : k ≠ 2) : sq_X4_look R w s1 m cn k = tkN R m k := by
  unfold sq_X4_look
  rw [oP_no h, upd_no h2]
theorem lk_2 : sq_X4_look R w s1 m cn 2 = R 2 + nI m := by
  unfold sq_X4_look
  rw [oP_no (by omega), upd_at, tkN_l (by decide) (by decide)]
theorem lk_0 : sq_X4_look R w s1 m cn 0 = R 0 + nI m := by rw [lk_no (by omega) (by decide), tkN_0]
theorem ob_ok {lh : Nat} {rs : Int32} {hq : Nat → Nat → Int32} (J : Jv R sc cn tb) (h1 : 1 ≤ m) (h6 : m ≤ 60) (hw : w < 4) (hh : R (5 + 11 * w + 0) = 1) (hs : s1 < sc) (hd : (R (69 + 3 * s1)).toInt ≤ (R (5 + 11 * w + 4)).toInt) : sq_X7_observe lh 0 rs R hq (nI w) (nI s1) (nI m) sc cn = (spR R w s1 cn m, rs, sq_X4_look R w s1 m cn, rmL 0 lh, rmQ 0 lh hq R) := by
  have s5 := J.s5
  unfold sq_X7_observe
  rw [wN_nI (by omega), wN_nI (by omega), wN_nI (by omega), if_neg (in3 hw), if_neg (inS J.s4 hs s5), if_neg (in60 h1 h6), if_neg (by rw [hh]; decide), if_pos ((i_le _ _).mpr hd), lk_in (show 3 < 6 by decide)]
  rfl
theorem ob_r1 {lh : Nat} {rs : Int32} {hq : Nat → Nat → Int32} (J : Jv R sc cn tb) (h1 : 1 ≤ m) (h6 : m ≤ 60) (hw : w < 4) (hh : R (5 + 11 * w + 0) = 0) (hs : s1 < sc) : sq_X7_observe lh 0 rs R hq (nI w) (nI s1) (nI m) sc cn = (-100003, 1, R, lh, hq) := by
  have s5 := J.s5
  unfold sq_X7_observe
  rw [wN_nI (by omega), if_neg (in3 hw), if_neg (inS J.s4 hs s5), if_neg (in60 h1 h6), if_pos hh]
theorem ob_r2 {lh : Nat} {rs : Int32} {hq : Nat → Nat → Int32} (J : Jv R sc cn tb) (h1 : 1 ≤ m) (h6 : m ≤ 60) (hw : w < 4) (hh : R (5 + 11 * w + 0) = 1) (hs : s1 < sc) (hd : ¬ R (69 + 3 * s1) ≤ R (5 + 11 * w + 4)) : sq_X7_observe lh 0 rs R hq (nI w) (nI s1) (nI m) sc cn = (-100003, 2, R, lh, hq) := by
  have s5 := J.s5
  unfold sq_X7_observe
  rw [wN_nI (by omega), wN_nI (by omega), if_neg (in3 hw), if_neg (inS J.s4 hs s5), if_neg (in60 h1 h6), if_neg (by rw [hh]; decide), if_neg hd]
/-- the row behind an observation is good -/
theorem Jv.look (J : Jv R sc cn tb) (ht : tb ≤ 900000000) (h1 : 1 ≤ m) (h6 : m ≤ 60) (hw : w < 4) (hh : R (5 + 11 * w + 0) = 1) (hs : s1 < sc) (hd : (R (69 + 3 * s1)).toInt ≤ (R (5 + 11 * w + 4)).toInt) : Jv (sq_X4_look R w s1 m cn) sc cn (tb + 60) := by
  have s5 := J.s5
  have c5 := J.c5
  have t0 := J.t
  have e := ob_ok (lh := 0) (rs := 0) (hq := fun _ _ => 0) J h1 h6 hw hh hs hd
  have hg : Gd (tb + 60) (sq_X4_look R w s1 m cn) (sp_X8_doObserve (Classical.choose J.1) 0 (nI w) (nI s1) (nI m) sc cn).2.1 := by
    obtain ⟨hI, hR⟩ := Classical.choose_spec J.1
    have d := (ds_observe (lh := 0) (hq := fun _ _ => 0) (ru := 0) (rs := 0) (x := nI w) (y := nI s1) (z := nI m) hI hR ht).2.2.1
    rw [e] at d
    exact d
  have dz : Bt (R (69 + 3 * s1)) 0 800 := by
    obtain ⟨d1, d2⟩ := (J.st hs).1
    exact ⟨by omega, d2⟩
  have ba := fun (k : Nat) (hk : k < m) => rdF_b (k := k) J (by omega) hw hh dz (show 0 < 2 by decide)
  have bb := fun (k : Nat) (hk : k < m) => rdF_b (k := k) J (by omega) hw hh dz (show 1 < 2 by decide)
  have pa := (me_e h1 h6 ba).2.2
  have pb := (me_e h1 h6 bb).2.2
  have sp0 : 0 ≤ (spR R w s1 cn m).toInt := by
    unfold spR
    split
    · show 0 ≤ (rdS _ m 3 - rdS _ m 2).toInt
      rw [pb.1]; exact pb.2
    · show 0 ≤ (rdS _ m 3 - rdS _ m 2).toInt
      rw [pa.1]; exact pa.2
  refine Jv.of hg (by rw [lk_no (by omega) (by decide), tkN_l (by decide) (by decide), J.c3]) (by rw [lk_no (by omega) (by decide), tkN_l (by decide) (by decide), J.s4]) c5 s5 ⟨fun s v hs2 hv h => ?_, fun s hs2 h => ?_⟩
  · rw [lk_no (k := 5 + 11 * v + 0) (by omega) (by omega), lk_0]
    by_cases q : s = s1 ∧ v = w
    · obtain ⟨rfl, rfl⟩ := q
      rw [lk_in (show 3 < 6 by decide), lk_in (show 4 < 6 by decide), lk_in (show 5 < 6 by decide), J.tkw (by omega) hv (by decide)]
      have vn : (nI m).toInt = (m : Int) := nI_toInt (by omega)
      refine ⟨hh, sp0, ?_, Int.le_refl _⟩
      show Bt (nI m) 1 60
      unfold Bt
      rw [vn]
      omega
    · have far : ∀ j : Nat, j < 6 → sq_X4_look R w s1 m cn (84 + 6 * (4 * s + v) + j) = R (84 + 6 * (4 * s + v) + j) := fun j hj => by
        rw [lk_no (by omega) (by omega), tkN_f (by omega)]
      rw [far 0 (by decide)] at h
      rw [far 3 (by decide), far 4 (by decide), far 5 (by decide), J.tkw (by omega) hv (by decide), nn_add t0.1 (by omega)]
      have z := J.v hs2 hv h
      exact ⟨z.1, z.2.1, z.2.2.1, by have := z.2.2.2; omega⟩
  · rw [lk_no (by omega) (by omega), tkN_f (by omega)] at h ⊢
    exact J.o hs2 h
end OB
/-! Counting what is valid. -/
theorem ct_same {f f' : Nat → Int32} : ∀ m : Nat, (∀ k : Nat, k < m → f' k = f k) → ctI f' m = ctI f m
  | 0, _ => rfl
  | m + 1, h => by
    have e := ct_same m (fun k hk => h k (by omega))
    by_cases z : f m = 0
    · rw [ctI_pos z, ctI_pos ((h m (by omega)).trans z), e]
    · rw [ctI_neg z, ctI_neg (fun q => z ((h m (by omega)).symm.trans q)), e]
theorem ct_one {f f' : Nat → Int32} {w : Nat} (hw : ¬ f' w = 0) : ∀ m : Nat, w < m → (∀ k : Nat, k < m → k ≠ w → f' k = f k) → ctI f' m = ctI f m + (if f w = 0 then 1 else 0)
  | 0, h, _ => absurd h (by omega)
  | m + 1, h, hf => by
    by_cases q : w = m
    · subst q
      have e := ct_same (f := f) (f' := f') w (fun k hk => hf k (by omega) (by omega))
      rw [ctI_neg hw, e]
      by_cases z : f w = 0
      · rw [ctI_pos z, if_pos z]
      · rw [ctI_neg z, if_neg z, Int32.add_zero]
    · have e := ct_one hw m (by omega) (fun k hk hn => hf k (by omega) hn)
      have em := hf m (by omega) (fun z => q z.symm)
      by_cases z : f m = 0
      · rw [ctI_pos z, ctI_pos (em.trans z), e]
      · rw [ctI_neg z, ctI_neg (fun y => z (em.symm.trans y)), e, Int32.add_assoc, Int32.add_assoc, Int32.add_comm 1]
theorem vs_s (r : Nat → Int32) (k : Nat) : vsI r (k + 1) = vsI r k + ctI (fun w => r (84 + 6 * (4 * k + w))) 4 := rfl
theorem vs_same {r r' : Nat → Int32} : ∀ m : Nat, (∀ s v : Nat, s < m → v < 4 → r' (84 + 6 * (4 * s + v)) = r (84 + 6 * (4 * s + v))) → vsI r' m = vsI r m
  | 0, _ => rfl
  | m + 1, h => by rw [vs_s, vs_s, vs_same m (fun s v hs hv => h s v (by omega) hv), ct_same 4 (fun k hk => h m k (by omega) hk)]
theorem vs_one {r r' : Nat → Int32} {s1 w : Nat} (hw : w < 4) (h1 : ¬ r' (84 + 6 * (4 * s1 + w)) = 0) : ∀ m : Nat, s1 < m → (∀ s v : Nat, s < m → v < 4 → ¬ (s = s1 ∧ v = w) → r' (84 + 6 * (4 * s + v)) = r (84 + 6 * (4 * s + v))) → vsI r' m = vsI r m + (if r (84 + 6 * (4 * s1 + w)) = 0 then 1 else 0)
  | 0, h, _ => absurd h (by omega)
  | m + 1, h, hf => by
    rw [vs_s, vs_s]
    by_cases q : s1 = m
    · subst q
      rw [vs_same s1 (fun s v hs hv => hf s v (by omega) hv (by omega)), ct_one (f := fun w => r (84 + 6 * (4 * s1 + w))) (w := w) h1 4 hw (fun k hk hn => hf s1 k (by omega) hk (by omega)), Int32.add_assoc]
    · rw [vs_one hw h1 m (by omega) (fun s v hs hv hn => hf s v (by omega) hv hn), ct_same (f := fun w => r (84 + 6 * (4 * m + w))) 4 (fun k hk => hf m k (by omega) hk (by omega)), Int32.add_assoc, Int32.add_assoc]
      exact congrArg (vsI r m + ·) (Int32.add_comm _ _)
theorem vs_look {R : Nat → Int32} {sc cn w s1 m : Nat} (hw : w < 4) (hs : s1 < sc) : vsI (sq_X4_look R w s1 m cn) sc = vsI R sc + (if R (84 + 6 * (4 * s1 + w)) = 0 then 1 else 0) := by
  refine vs_one hw ?_ sc hs (fun s v h1 h2 h3 => ?_)
  · have e := lk_in (R := R) (w := w) (s1 := s1) (cn := cn) (m := m) (show 0 < 6 by decide)
    have e : sq_X4_look R w s1 m cn (84 + 6 * (4 * s1 + w)) = 1 := e
    rw [e]; decide
  · rw [lk_no (by omega) (by omega), tkN_f (by omega)]
