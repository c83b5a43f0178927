/-! Observing. -/
theorem oP_no {r : Nat → Int32} {s w k : Nat} {f : Nat → Int32} (h : k < 84 + 6 * (4 * s + w) ∨ 84 + 6 * (4 * s + w) + 6 ≤ k) : oPut r s w f k = r k := if_neg (by omega)
theorem oP_in {r : Nat → Int32} {s w q : Nat} {f : Nat → Int32} (hq : q < 6) : oPut r s w f (84 + 6 * (4 * s + w) + q) = f q := by
  unfold oPut; rw [if_pos (by omega), show 84 + 6 * (4 * s + w) + q - (84 + 6 * (4 * s + w)) = q by omega]
theorem ob_row {t : Nat → Int32} {s w : Nat} {a b sp n : Int32} : upd (upd (upd (upd (upd (upd (upd t (84 + 6 * (4 * s + w) + 0) 1) (84 + 6 * (4 * s + w) + 1) a) (84 + 6 * (4 * s + w) + 1 + 1) b) (84 + 6 * (4 * s + w) + 3) sp) (84 + 6 * (4 * s + w) + 4) n) (84 + 6 * (4 * s + w) + 5) ((upd (upd (upd (upd (upd t (84 + 6 * (4 * s + w) + 0) 1) (84 + 6 * (4 * s + w) + 1) a) (84 + 6 * (4 * s + w) + 1 + 1) b) (84 + 6 * (4 * s + w) + 3) sp) (84 + 6 * (4 * s + w) + 4) n) 0)) 2 (((upd (upd (upd (upd (upd (upd t (84 + 6 * (4 * s + w) + 0) 1) (84 + 6 * (4 * s + w) + 1) a) (84 + 6 * (4 * s + w) + 1 + 1) b) (84 + 6 * (4 * s + w) + 3) sp) (84 + 6 * (4 * s + w) + 4) n) (84 + 6 * (4 * s + w) + 5) ((upd (upd (upd (upd (upd t (84 + 6 * (4 * s + w) + 0) 1) (84 + 6 * (4 * s + w) + 1) a) (84 + 6 * (4 * s + w) + 1 + 1) b) (84 + 6 * (4 * s + w) + 3) sp) (84 + 6 * (4 * s + w) + 4) n) 0)) 2) + n) = oPut (upd t 2 (t 2 + n)) s w (l6 1 a b sp n (t 0)) := by
  have e0 : (upd (upd (upd (upd (upd t (84 + 6 * (4 * s + w) + 0) 1) (84 + 6 * (4 * s + w) + 1) a) (84 + 6 * (4 * s + w) + 1 + 1) b) (84 + 6 * (4 * s + w) + 3) sp) (84 + 6 * (4 * s + w) + 4) n) 0 = t 0 := by rw [upd_no (by omega), upd_no (by omega), upd_no (by omega), upd_no (by omega), upd_no (by omega)]
  have e2 : (upd (upd (upd (upd (upd (upd t (84 + 6 * (4 * s + w) + 0) 1) (84 + 6 * (4 * s + w) + 1) a) (84 + 6 * (4 * s + w) + 1 + 1) b) (84 + 6 * (4 * s + w) + 3) sp) (84 + 6 * (4 * s + w) + 4) n) (84 + 6 * (4 * s + w) + 5) ((upd (upd (upd (upd (upd t (84 + 6 * (4 * s + w) + 0) 1) (84 + 6 * (4 * s + w) + 1) a) (84 + 6 * (4 * s + w) + 1 + 1) b) (84 + 6 * (4 * s + w) + 3) sp) (84 + 6 * (4 * s + w) + 4) n) 0)) 2 = t 2 := by rw [upd_no (by omega), upd_no (by omega), upd_no (by omega), upd_no (by omega), upd_no (by omega), upd_no (by omega)]
  rw [e2, e0]
  funext k
  by_cases h : 84 + 6 * (4 * s + w) ≤ k ∧ k < 84 + 6 * (4 * s + w) + 6
  · obtain ⟨q, hq, rfl⟩ : ∃ q, q < 6 ∧ k = 84 + 6 * (4 * s + w) + q := ⟨k - (84 + 6 * (4 * s + w)), by omega, by omega⟩
    rw [oP_in hq, upd_no (by omega)]
    rcases (show q = 0 ∨ q = 1 ∨ q = 2 ∨ q = 3 ∨ q = 4 ∨ q = 5 by omega) with e | e | e | e | e | e <;> subst e
    · rw [upd_no (by omega), upd_no (by omega), upd_no (by omega), upd_no (by omega), upd_no (by omega)]; exact upd_at _ _ _
    · rw [upd_no (by omega), upd_no (by omega), upd_no (by omega), upd_no (by omega)]; exact upd_at _ _ _
    · rw [upd_no (by omega), upd_no (by omega), upd_no (by omega)]; exact upd_at _ _ _
    · rw [upd_no (by omega), upd_no (by omega)]; exact upd_at _ _ _
    · rw [upd_no (by omega)]; exact upd_at _ _ _
    · exact upd_at _ _ _
  · rw [oP_no (by omega)]
    by_cases e : k = 2
    · subst e; rw [upd_at, upd_at]
    · rw [upd_no e, upd_no e, upd_no (by omega), upd_no (by omega), upd_no (by omega), upd_no (by omega), upd_no (by omega), upd_no (by omega)]
theorem mx_if (a v : Int32) : (if a < v then v else a) = (if v ≤ a then a else v) := by
  by_cases h : a < v
  · rw [if_pos h, if_neg (fun z => by rw [i_le] at z; rw [i_lt] at h; omega)]
  · rw [if_neg h, if_pos (nlt_ge h)]
theorem mx_b {a v : Int32} {lo hi : Int} (ha : Bt a lo hi) (hv : Bt v lo hi) : Bt (if v ≤ a then a else v) lo hi := by
  split
  · exact ha
  · exact hv
/-- the readings' least, greatest, sum: both ways -/
theorem rd_all {F : Nat → Int32} : ∀ n : Nat, n + 1 ≤ 60 → (∀ k : Nat, k < n + 1 → Bt (F k) (-16005020) 16005020) →
    rdS F (n + 1) 0 = nI (n + 1) ∧ (rdS F (n + 1) 1).toInt = (lsS F (n + 1)).toInt ∧ (-(16005020 * ((n : Int) + 1)) ≤ (lsS F (n + 1)).toInt ∧ (lsS F (n + 1)).toInt ≤ 16005020 * ((n : Int) + 1)) ∧ rdS F (n + 1) 2 = mnS F (n + 1) ∧ rdS F (n + 1) 3 = mxS F (n + 1) ∧ Bt (mnS F (n + 1)) (-16005020) 16005020 ∧ Bt (mxS F (n + 1)) (-16005020) 16005020 ∧ (mnS F (n + 1)).toInt ≤ (mxS F (n + 1)).toInt
  | 0, _, h => by
    have b := h 0 (by decide)
    have m1 : mnS F 1 = F 0 := by
      have e : mnS F 1 = mnI (F 0) (F 0) := rfl
      rw [e]; unfold mnI; split <;> rfl
    have m2 : mxS F 1 = F 0 := by
      have e : mxS F 1 = if F 0 ≤ F 0 then F 0 else F 0 := rfl
      rw [e]; split <;> rfl
    have e1 : rdS F 1 1 = 0 + F 0 := rfl
    have e2 : lsS F 1 = 0 + (F 0).toInt64 := rfl
    rw [m1, m2, e1, e2, Int32.zero_add, Int64.zero_add, Int32.toInt_toInt64]
    obtain ⟨b1, b2⟩ := id b
    exact ⟨rfl, rfl, by omega, rfl, rfl, b, b, Int.le_refl _⟩
  | n + 1, hn, h => by
    obtain ⟨c0, c1, c2, c3, c4, c5, c6, c7⟩ := rd_all n (by omega) (fun k hk => h k (by omega))
    have b := h (n + 1) (by omega)
    obtain ⟨b1, b2⟩ := id b
    have n0 : ¬ rdS F (n + 1) 0 = 0 := by rw [c0]; exact nI_ne0 (by omega) (by omega)
    have e0 : rdS F (n + 1 + 1) 0 = rdS F (n + 1) 0 + 1 := rfl
    have e1 : rdS F (n + 1 + 1) 1 = rdS F (n + 1) 1 + F (n + 1) := rfl
    have e2 : rdS F (n + 1 + 1) 2 = if rdS F (n + 1) 0 = 0 then F (n + 1) else if F (n + 1) < rdS F (n + 1) 2 then F (n + 1) else rdS F (n + 1) 2 := rfl
    have e3 : rdS F (n + 1 + 1) 3 = if rdS F (n + 1) 0 = 0 then F (n + 1) else if rdS F (n + 1) 3 < F (n + 1) then F (n + 1) else rdS F (n + 1) 3 := rfl
    have el : lsS F (n + 1 + 1) = lsS F (n + 1) + (F (n + 1)).toInt64 := rfl
    have em : mnS F (n + 1 + 1) = mnI (mnS F (n + 1)) (F (n + 1)) := rfl
    have ex : mxS F (n + 1 + 1) = if F (n + 1) ≤ mxS F (n + 1) then mxS F (n + 1) else F (n + 1) := rfl
    have v : ((F (n + 1)).toInt64).toInt = (F (n + 1)).toInt := Int32.toInt_toInt64 _
    have s1 : (lsS F (n + 1 + 1)).toInt = (lsS F (n + 1)).toInt + (F (n + 1)).toInt := by
      rw [el, fb_addL (by rw [v]; omega) (by rw [v]; omega), v]
    have s2 : (rdS F (n + 1 + 1) 1).toInt = (lsS F (n + 1)).toInt + (F (n + 1)).toInt := by
      rw [e1, fb_addI (by rw [c1]; omega) (by rw [c1]; omega), c1]
    have q2 : rdS F (n + 1 + 1) 2 = mnS F (n + 1 + 1) := by rw [e2, if_neg n0, em, mn_if, c3]
    have q3 : rdS F (n + 1 + 1) 3 = mxS F (n + 1 + 1) := by rw [e3, if_neg n0, ex, mx_if, c4]
    refine ⟨by rw [e0, c0, nI_1], by rw [s1, s2], by rw [s1]; omega, q2, q3, by rw [em]; exact mn_b c5 b, by rw [ex]; exact mx_b c6 b, ?_⟩
    rw [em, ex]
    unfold mnI
    split <;> split
    · rename_i p q; rw [i_le] at p q; omega
    · exact Int.le_refl _
    · exact c7
    · rename_i p q; rw [i_le] at p q; omega
theorem me_e {F : Nat → Int32} {n : Nat} (h1 : 1 ≤ n) (h6 : n ≤ 60) (h : ∀ k : Nat, k < n → Bt (F k) (-16005020) 16005020) :
    sq_mean (rdS F n) = (fdL (lsS F n) ((nI n).toInt64)).toInt32 ∧ Bt (sq_mean (rdS F n)) (-100000000) 100000000 ∧ rdS F n 3 - rdS F n 2 = mxS F n - mnS F n ∧ 0 ≤ (mxS F n - mnS F n).toInt := by
  obtain ⟨m, rfl⟩ : ∃ m, n = m + 1 := ⟨n - 1, by omega⟩
  obtain ⟨c0, c1, c2, c3, c4, c5, c6, c7⟩ := rd_all m h6 h
  have vn : (nI (m + 1)).toInt = ((m + 1 : Nat) : Int) := nI_toInt (by omega)
  have v64 : ((nI (m + 1)).toInt64).toInt = ((m + 1 : Nat) : Int) := (Int32.toInt_toInt64 _).trans vn
  have hp : 0 < (nI (m + 1)).toInt := by rw [vn]; omega
  have hp64 : 0 < ((nI (m + 1)).toInt64).toInt := by rw [v64]; omega
  have f1 := fd_I (x := rdS F (m + 1) 1) hp
  have f2 := fdL_I (x := lsS F (m + 1)) hp64
  rw [c1, vn] at f1
  rw [v64] at f2
  have u1 : (lsS F (m + 1)).toInt / ((m + 1 : Nat) : Int) ≤ 16005020 := Int.ediv_le_of_le_mul (by omega) (by omega)
  have u2 : -16005020 ≤ (lsS F (m + 1)).toInt / ((m + 1 : Nat) : Int) := (Int.le_ediv_iff_mul_le (by omega)).mpr (by omega)
  have hm : sq_mean (rdS F (m + 1)) = sq_fdI (rdS F (m + 1) 1) (nI (m + 1)) := by
    unfold sq_mean
    rw [c0, if_pos ((i_le _ _).mpr (by rw [vn]; show (1 : Int) ≤ _; omega))]
  refine ⟨?_, ?_, by rw [c3, c4], ?_⟩
  · rw [hm, i_eq, f1, Int64.toInt_toInt32, f2, fb_bmod (by omega) (by omega)]
  · rw [hm]; unfold Bt; rw [f1]; omega
  · obtain ⟨x1, x2⟩ := c5
    obtain ⟨x3, x4⟩ := c6
    rw [fb_subI (by omega) (by omega)]
    omega
theorem re_c {R R' : Nat → Int32} {w : Nat} (hw : ∀ q : Nat, q < 9 → R' (5 + 11 * w + q) = R (5 + 11 * w + q)) (hc : ∀ k : Nat, 49 ≤ k → R' k = R k) (z ax : Int32) : ∀ k : Nat, reS R' w z ax k = reS R w z ax k
  | 0 => by
    have e0 : reS R w z ax 0 = if ax = 0 then R (5 + 11 * w + 1) + R (5 + 11 * w + 5) else R (5 + 11 * w + 2) + R (5 + 11 * w + 6) := rfl
    have e1 : reS R' w z ax 0 = if ax = 0 then R' (5 + 11 * w + 1) + R' (5 + 11 * w + 5) else R' (5 + 11 * w + 2) + R' (5 + 11 * w + 6) := rfl
    rw [e0, e1, hw 1 (by decide), hw 2 (by decide), hw 5 (by decide), hw 6 (by decide)]
  | k + 1 => by
    have e0 : reS R w z ax (k + 1) = reS R w z ax k + beF (fun q => R (49 + 4 * k + q)) (R (5 + 11 * w + 3)) z ax := rfl
    have e1 : reS R' w z ax (k + 1) = reS R' w z ax k + beF (fun q => R' (49 + 4 * k + q)) (R' (5 + 11 * w + 3)) z ax := rfl
    have ef : (fun q => R' (49 + 4 * k + q)) = fun q => R (49 + 4 * k + q) := funext fun q => hc _ (by omega)
    rw [e0, e1, re_c hw hc z ax k, ef, hw 3 (by decide)]
theorem tkN_w {r R : Nat → Int32} {sc cn tb n : Nat} (hI : Iv r sc cn tb) (hR : RelR sc R r) (ht : tb + n ≤ 1000000000) {w q : Nat} (hw : w < 4) (hq : q < 9) : tkN R n (5 + 11 * w + q) = R (5 + 11 * w + q) := by
  rw [(ticks_ok hI hR n ht).2.w hw (by omega), tmN_keep r hq n, hR.w hw (by omega)]
theorem tkN_f {R : Nat → Int32} {k : Nat} (h : 49 ≤ k) : ∀ n : Nat, tkN R n k = R k
  | 0 => rfl
  | n + 1 => by
    have e : tkN R (n + 1) = tkR (tkN R n) 4 := rfl
    rw [e, tk_far (by omega) (by omega), tkN_f h n]
theorem ps_e {r R : Nat → Int32} {sc cn tb : Nat} (hI : Iv r sc cn tb) (hR : RelR sc R r) {w : Nat} (hw : w < 4) (hm : r (5 + 11 * w + 0) = 1) {z : Int32} (hz : Bt z 0 800) {a : Nat} (ha : a < 2) {k : Nat} (ht : tb + k ≤ 1000000000) : rdF R w z (nI a) cn k = psS r w z a cn k ∧ Bt (psS r w z a cn k) (-16005020) 16005020 := by
  obtain ⟨hI2, hR2⟩ := ticks_ok hI hR k ht
  have hm2 : tmN r k (5 + 11 * w + 0) = 1 := (tmN_keep r (by decide) k).trans hm
  have p := po_e hI2 hR2 hw hm2 hz ha
  have e : reS (tkN R k) w z (nI a) cn = reS R w z (nI a) cn := re_c (fun q hq => tkN_w hI hR ht hw hq) (fun j hj => tkN_f hj k) z (nI a) cn
  rw [e] at p
  exact p
theorem rdS_c {F F' : Nat → Int32} : ∀ n : Nat, (∀ k : Nat, k < n → F k = F' k) → rdS F n = rdS F' n
  | 0, _ => rfl
  | n + 1, h => by
    have e0 : rdS F (n + 1) = adR (rdS F n) (F n) := rfl
    have e1 : rdS F' (n + 1) = adR (rdS F' n) (F' n) := rfl
    rw [e0, e1, rdS_c n (fun k hk => h k (by omega)), h n (by omega)]
theorem ds_observe {r R : Nat → Int32} {sc cn tb lh : Nat} {hq : Nat → Nat → Int32} {ru rs x y z : Int32} (hI : Iv r sc cn tb) (hR : RelR sc R r) (ht : tb ≤ 900000000) : DS (tb + 60) (sq_X7_observe lh ru rs R hq x y z sc cn) (sp_X8_doObserve r rs x y z sc cn) ru lh hq R := by
  have g0 : Gd (tb + 60) R r := ⟨sc, cn, hI.tb (by omega), hR⟩
  have s5 := hI.1.2.2.2
  unfold sq_X7_observe sp_X8_doObserve
  rw [hR.lo (show 4 < 69 by decide)]
  by_cases h1 : inI x 0 3 = 0
  · rw [if_pos h1, if_neg (noW_t h1)]; exact DS.no g0 er_1
  rw [if_neg h1, if_pos (noW_f h1)]
  by_cases h2 : inI y 0 (r 4 - 1) = 0
  · rw [if_pos h2, if_neg (noS_t h2)]; exact DS.no g0 er_1
  rw [if_neg h2, if_pos (noS_f h2)]
  by_cases h3 : inI z 1 60 = 0
  · rw [if_pos h3, if_pos h3]; exact DS.no g0 er_2
  rw [if_neg h3, if_neg h3]
  have hw := in_w h1
  have hs : wN y < sc := (isS_w hI.1.2.2.1 s5 h2).1
  obtain ⟨n, n1, n60, en, ew⟩ := in160 h3
  rw [ew]
  generalize wN x = w at hw ⊢
  generalize wN y = s at hs ⊢
  have hs5 : s < 5 := by omega
  by_cases h4 : r (5 + 11 * w + 0) = 0
  · rw [if_pos ((hR.w hw (by decide)).trans h4), if_pos (hgI_t h4)]; exact DS.no g0 er_3
  have hm := b01_of (hI.2.2.1 w hw).1 h4
  rw [if_neg (fun z => h4 ((hR.w hw (by decide)).symm.trans z)), if_neg (hgI_f hm)]
  rw [hR.s0 hs5, hR.w hw (show 4 < 11 by decide)]
  by_cases h5 : ¬ r (69 + 3 * s) ≤ r (5 + 11 * w + 4)
  · rw [if_neg h5, if_neg h5]; exact DS.no g0 er_3
  have h5 := Decidable.not_not.mp h5
  rw [if_pos h5, if_pos h5]
  have dz : Bt (r (69 + 3 * s)) 0 800 := by
    obtain ⟨d1, d2⟩ := (hI.2.2.2.2.1 s hs).1
    exact ⟨by omega, d2⟩
  unfold sq_X4_look
  rw [hR.s0 hs5]
  have pa := fun (k : Nat) (hk : k < n) => ps_e (k := k) hI hR hw hm dz (show 0 < 2 by decide) (by omega)
  have pb := fun (k : Nat) (hk : k < n) => ps_e (k := k) hI hR hw hm dz (show 1 < 2 by decide) (by omega)
  have ra : rdS (rdF R w (r (69 + 3 * s)) 0 cn) n = rdS (psS r w (r (69 + 3 * s)) 0 cn) n := rdS_c n (fun k hk => (pa k hk).1)
  have rb : rdS (rdF R w (r (69 + 3 * s)) 1 cn) n = rdS (psS r w (r (69 + 3 * s)) 1 cn) n := rdS_c n (fun k hk => (pb k hk).1)
  obtain ⟨ma, mab, sa, sa0⟩ := me_e (F := psS r w (r (69 + 3 * s)) 0 cn) n1 n60 (fun k hk => (pa k hk).2)
  obtain ⟨mb, mbb, sb, sb0⟩ := me_e (F := psS r w (r (69 + 3 * s)) 1 cn) n1 n60 (fun k hk => (pb k hk).2)
  rw [ra, rb, sa, sb, ← ma, ← mb, mx_if]
  obtain ⟨hI2, hR2⟩ := ticks_ok hI hR n (by omega)
  have go : ∀ spp : Int32, 0 ≤ spp.toInt → DS (tb + 60) (oPut (upd (tkN R n) 2 (tkN R n 2 + nI n)) s w (l6 1 (sq_mean (rdS (psS r w (r (69 + 3 * s)) 0 cn) n)) (sq_mean (rdS (psS r w (r (69 + 3 * s)) 1 cn) n)) spp (nI n) (tkN R n 0)) (84 + 6 * (4 * s + w) + 3), rs, oPut (upd (tkN R n) 2 (tkN R n 2 + nI n)) s w (l6 1 (sq_mean (rdS (psS r w (r (69 + 3 * s)) 0 cn) n)) (sq_mean (rdS (psS r w (r (69 + 3 * s)) 1 cn) n)) spp (nI n) (tkN R n 0)), rmL ru lh, rmQ ru lh hq R)
      (oPut (upd (tmN r n) 2 (tmN r n 2 + nI n)) s w (l6 1 (sq_mean (rdS (psS r w (r (69 + 3 * s)) 0 cn) n)) (sq_mean (rdS (psS r w (r (69 + 3 * s)) 1 cn) n)) spp (nI n) (tmN r n 0)) (84 + 6 * (4 * s + w) + 3), oPut (upd (tmN r n) 2 (tmN r n 2 + nI n)) s w (l6 1 (sq_mean (rdS (psS r w (r (69 + 3 * s)) 0 cn) n)) (sq_mean (rdS (psS r w (r (69 + 3 * s)) 1 cn) n)) spp (nI n) (tmN r n 0)), rs) ru lh hq R := by
    intro spp hsp
    rw [oP_in (show 3 < 6 by decide), oP_in (show 3 < 6 by decide), hR2.lo (show 0 < 69 by decide), hR2.lo (show 2 < 69 by decide)]
    generalize tmN r n = t at hI2 hR2 ⊢
    generalize tkN R n = TT at hR2 ⊢
    generalize sq_mean (rdS (psS r w (r (69 + 3 * s)) 0 cn) n) = aa at mab ⊢
    generalize sq_mean (rdS (psS r w (r (69 + 3 * s)) 1 cn) n) = bb at mbb ⊢
    have hR3 := hR2.up s5 (k0 := 2) (v := t 2 + nI n) (by decide)
    refine DS.yes rfl hsp ⟨sc, cn, ?_, fun k hk hn => ?_, fun v hv => ?_, fun v hv => ?_⟩
    · obtain ⟨h1, h2, h3, h4, h5, h6⟩ := hI2
      have lo : ∀ k : Nat, k < 84 → k ≠ 2 → oPut (upd t 2 (t 2 + nI n)) s w (l6 1 aa bb spp (nI n) (t 0)) k = t k := fun k hk h2 => by
        rw [oP_no (by omega), upd_no h2]
      refine ⟨by rw [lo 3 (by decide) (by decide), lo 4 (by decide) (by decide)]; exact h1, by rw [lo 0 (by decide) (by decide), lo 1 (by decide) (by decide)]; exact ⟨h2.1, by have := h2.2.1; omega, h2.2.2⟩, fun v hv => ?_, fun k hk => ?_, fun v hv => ?_, fun a b ha hb => ?_⟩
      · rw [lo _ (by omega) (by omega)]
        exact ⟨(h3 v hv).1, fun q => Wg_cong (fun j hj => lo _ (by omega) (by omega)) ((h3 v hv).2 q)⟩
      · have c5 := h1.2.1
        exact Cg_cong (fun j hj => lo _ (by omega) (by omega)) (h4 k hk)
      · rw [lo _ (by omega) (by omega), lo _ (by omega) (by omega)]; exact h5 v hv
      · by_cases e : a = s ∧ b = w
        · obtain ⟨rfl, rfl⟩ := e
          rw [oP_in (show 0 < 6 by decide)]
          refine ⟨Or.inr rfl, fun q => absurd hs (by omega), fun _ => ?_⟩
          unfold Og
          dsimp only
          rw [oP_in (show 1 < 6 by decide), oP_in (show 2 < 6 by decide)]
          exact ⟨mab, mbb⟩
        · have ob : ∀ j : Nat, j < 6 → oPut (upd t 2 (t 2 + nI n)) s w (l6 1 aa bb spp (nI n) (t 0)) (84 + 6 * (4 * a + b) + j) = t (84 + 6 * (4 * a + b) + j) := fun j hj => by
            rw [oP_no (by omega), upd_no (by omega)]
          have g := h6 a b ha hb
          rw [ob 0 (by decide)]
          exact ⟨g.1, g.2.1, fun q => Og_cong ob (g.2.2 q)⟩
    · by_cases e : 84 + 6 * (4 * s + w) ≤ k ∧ k < 84 + 6 * (4 * s + w) + 6
      · obtain ⟨q, hq, rfl⟩ : ∃ q, q < 6 ∧ k = 84 + 6 * (4 * s + w) + q := ⟨k - (84 + 6 * (4 * s + w)), by omega, by omega⟩
        rw [oP_in hq, oP_in hq]
      · rw [oP_no (by omega), oP_no (by omega)]; exact hR3.1 k hk hn
    · rw [oP_no (by omega)]; exact hR3.2.1 v hv
    · rw [oP_no (by omega), oP_no (by omega), oP_no (by omega)]; exact hR3.2.2 v hv
  by_cases h6 : (mxS (psS r w (r (69 + 3 * s)) 0 cn) n - mnS (psS r w (r (69 + 3 * s)) 0 cn) n) ≤ (mxS (psS r w (r (69 + 3 * s)) 1 cn) n - mnS (psS r w (r (69 + 3 * s)) 1 cn) n)
  · rw [if_pos h6, ob_row]
    by_cases h7 : (mxS (psS r w (r (69 + 3 * s)) 1 cn) n - mnS (psS r w (r (69 + 3 * s)) 1 cn) n) ≤ (mxS (psS r w (r (69 + 3 * s)) 0 cn) n - mnS (psS r w (r (69 + 3 * s)) 0 cn) n)
    · rw [if_pos h7]
      have e : (mxS (psS r w (r (69 + 3 * s)) 0 cn) n - mnS (psS r w (r (69 + 3 * s)) 0 cn) n) = (mxS (psS r w (r (69 + 3 * s)) 1 cn) n - mnS (psS r w (r (69 + 3 * s)) 1 cn) n) := by
        rw [i_le] at h6 h7
        rw [i_eq]
        omega
      rw [e]
      exact go _ sb0
    · rw [if_neg h7]; exact go _ sb0
  · rw [if_neg h6, ob_row, if_pos (by rw [i_le] at h6 ⊢; omega)]
    exact go _ sa0
