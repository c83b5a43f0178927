/-! Acts: the class's and the reference's. -/
def Gd (tb : Nat) (R r : Nat → Int32) : Prop := ∃ sc cn : Nat, Iv r sc cn tb ∧ RelR sc R r
def AS (tb : Nat) (S : ClT) (M : AcT) (lh : Nat) (hq : Nat → Nat → Int32) (R : Nat → Int32) (k0 : Nat) (hh r : Nat → Int32) : Prop := S.1 = M.1 ∧ S.2.1 = M.2.2.2.2.2 ∧ Gd tb S.2.2.1 M.2.2.1 ∧ ((S.2.2.2.1 = lh ∧ S.2.2.2.2 = hq ∧ M.2.2.2.2.1 = k0 ∧ M.2.2.2.1 = hh) ∨ (S.2.2.2.1 = rmL 0 lh ∧ S.2.2.2.2 = rmQ 0 lh hq R ∧ M.2.2.2.2.1 = pushK k0 ∧ M.2.2.2.1 = pushH hh k0 r))
theorem AS.no {tb lh k0 : Nat} {hq : Nat → Nat → Int32} {R hh r scr : Nat → Int32} {v rs : Int32} (h : Gd tb R r) : AS tb (v, rs, R, lh, hq) (v, scr, r, hh, k0, rs) lh hq R k0 hh r := ⟨rfl, rfl, h, Or.inl ⟨rfl, rfl, rfl, rfl⟩⟩
theorem AS.yes {tb lh k0 : Nat} {hq : Nat → Nat → Int32} {R R' hh r r' : Nat → Int32} {v v' rs : Int32} (hv : v = v') (hn : 0 ≤ v'.toInt) (h : Gd tb R' r') : AS tb (v, rs, R', rmL 0 lh, rmQ 0 lh hq R) (if -100001 < v' then (v', r, r', pushH hh k0 r, pushK k0, rs) else (v', r, r', hh, k0, rs)) lh hq R k0 hh r := by
  subst hv
  rw [if_pos ((i_lt _ _).mpr (by show (-100001 : Int) < _; omega))]
  exact ⟨rfl, rfl, h, Or.inr ⟨rfl, rfl, rfl, rfl⟩⟩
/-- the same for what an order does -/
def DS (tb : Nat) (S : ClT) (M : Int32 × (Nat → Int32) × Int32) (ru : Int32) (lh : Nat) (hq : Nat → Nat → Int32) (R : Nat → Int32) : Prop := S.1 = M.1 ∧ S.2.1 = M.2.2 ∧ Gd tb S.2.2.1 M.2.1 ∧ ((M.1.toInt ≤ -100001 ∧ S.2.2.2.1 = lh ∧ S.2.2.2.2 = hq) ∨ (0 ≤ M.1.toInt ∧ S.2.2.2.1 = rmL ru lh ∧ S.2.2.2.2 = rmQ ru lh hq R))
theorem DS.no {tb lh : Nat} {hq : Nat → Nat → Int32} {R r : Nat → Int32} {v rs ru : Int32} (h : Gd tb R r) (hv : v.toInt ≤ -100001) : DS tb (v, rs, R, lh, hq) (v, r, rs) ru lh hq R := ⟨rfl, rfl, h, Or.inl ⟨hv, rfl, rfl⟩⟩
theorem DS.yes {tb lh : Nat} {hq : Nat → Nat → Int32} {R R' r' : Nat → Int32} {v v' rs ru : Int32} (hv : v = v') (hn : 0 ≤ v'.toInt) (h : Gd tb R' r') : DS tb (v, rs, R', rmL ru lh, rmQ ru lh hq R) (v', r', rs) ru lh hq R := ⟨hv, rfl, h, Or.inr ⟨hn, rfl, rfl⟩⟩
theorem DS.as {tb lh k0 : Nat} {S : ClT} {M : Int32 × (Nat → Int32) × Int32} {hq : Nat → Nat → Int32} {R hh r : Nat → Int32} (h : DS tb S M 0 lh hq R) : AS tb S (if -100001 < M.1 then (M.1, r, M.2.1, pushH hh k0 r, pushK k0, M.2.2) else (M.1, r, M.2.1, hh, k0, M.2.2)) lh hq R k0 hh r := by
  obtain ⟨h1, h2, h3, h4⟩ := h
  rcases h4 with ⟨a, b, d⟩ | ⟨a, b, d⟩
  · rw [if_neg (fun z => by rw [i_lt] at z; have z : (-100001 : Int) < _ := z; omega)]
    exact ⟨h1, h2, h3, Or.inl ⟨b, d, rfl, rfl⟩⟩
  · rw [if_pos ((i_lt _ _).mpr (by show (-100001 : Int) < _; omega))]
    exact ⟨h1, h2, h3, Or.inr ⟨b, d, rfl, rfl⟩⟩
theorem noW_t {w : Int32} (h : inI w 0 3 = 0) : ¬ noW w = 0 := by unfold noW; rw [if_pos h]; decide
theorem noW_f {w : Int32} (h : ¬ inI w 0 3 = 0) : noW w = 0 := by unfold noW; rw [if_neg h]
theorem hgI_t {r : Nat → Int32} {w : Nat} (h : r (5 + 11 * w + 0) = 0) : hgI r w = 0 := by unfold hgI; rw [h]; decide
theorem hgI_f {r : Nat → Int32} {w : Nat} (h : r (5 + 11 * w + 0) = 1) : ¬ hgI r w = 0 := by unfold hgI; rw [h]; decide
theorem elv {P : Nat → Prop} (h0 : P 0) (h1 : P 1) (h2 : P 2) (h3 : P 3) (h4 : P 4) (h5 : P 5) (h6 : P 6) (h7 : P 7) (h8 : P 8) (h9 : P 9) (h10 : P 10) : ∀ k : Nat, k < 11 → P k
  | 0, _ => h0
  | 1, _ => h1
  | 2, _ => h2
  | 3, _ => h3
  | 4, _ => h4
  | 5, _ => h5
  | 6, _ => h6
  | 7, _ => h7
  | 8, _ => h8
  | 9, _ => h9
  | 10, _ => h10
  | k + 11, h => absurd h (by omega)
theorem row_w {a b : Nat → Int32} (w : Nat) (hin : ∀ q : Nat, q < 11 → a (5 + 11 * w + q) = b (5 + 11 * w + q)) (hout : ∀ k : Nat, (k < 5 + 11 * w ∨ 5 + 11 * w + 11 ≤ k) → a k = b k) : a = b := by
  funext k
  by_cases h : 5 + 11 * w ≤ k ∧ k < 5 + 11 * w + 11
  · obtain ⟨q, hq, rfl⟩ : ∃ q, q < 11 ∧ k = 5 + 11 * w + q := ⟨k - (5 + 11 * w), by omega, by omega⟩
    exact hin q hq
  · exact hout k (by omega)
theorem hung_eq {R r : Nat → Int32} {sc cn tb : Nat} (hI : Iv r sc cn tb) (hR : RelR sc R r) : ctI (fun v => R (5 + 11 * v)) 4 = smI (fun v => r (5 + 11 * v + 0)) 4 ∧ 0 ≤ (smI (fun v => r (5 + 11 * v + 0)) 4).toInt ∧ (smI (fun v => r (5 + 11 * v + 0)) 4).toInt ≤ 4 :=
  ctI_smI (fun k hk => ⟨hR.w0 hk, (hI.2.2.1 k hk).1⟩)
theorem in_w {w : Int32} (h : ¬ inI w 0 3 = 0) : wN w < 4 := (inI_w (N := 3) (by decide) h).1
theorem bt0 {lo hi : Int} (h : lo ≤ 0 ∧ 0 ≤ hi) : Bt 0 lo hi := h
theorem as_hang {r R hh scr : Nat → Int32} {sc cn tb lh k0 : Nat} {hq : Nat → Nat → Int32} {rs w x y ma de : Int32} (hI : Iv r sc cn tb) (hR : RelR sc R r) : AS tb (sq_X7_hang lh 0 rs R hq w x y ma de sc) (sp_X8_hang k0 rs r scr hh w x y ma de) lh hq R k0 hh r := by
  have g0 : Gd tb R r := ⟨sc, cn, hI, hR⟩
  unfold sq_X7_hang sp_X8_hang
  by_cases h1 : inI w 0 3 = 0
  · rw [if_pos h1, if_neg (noW_t h1)]; exact AS.no g0
  rw [if_neg h1, if_pos (noW_f h1)]
  by_cases h2 : inI x (-5000) 5000 = 0
  · rw [if_pos h2, if_pos h2]; exact AS.no g0
  rw [if_neg h2, if_neg h2]
  by_cases h3 : inI y (-5000) 5000 = 0
  · rw [if_pos h3, if_pos h3]; exact AS.no g0
  rw [if_neg h3, if_neg h3]
  by_cases h4 : inI ma 1 200 = 0
  · rw [if_pos h4, if_pos h4]; exact AS.no g0
  rw [if_neg h4, if_neg h4]
  by_cases h5 : inI de 10 800 = 0
  · rw [if_pos h5, if_pos h5]; exact AS.no g0
  rw [if_neg h5, if_neg h5]
  have hw := in_w h1
  generalize wN w = W at hw ⊢
  have e : upd (upd (upd (upd (upd (upd (upd (upd (upd (upd (upd (upd (upd (upd (upd (upd r (5 + 11 * W + 0) 0) (5 + 11 * W + 1) 0) (5 + 11 * W + 2) 0) (5 + 11 * W + 3) 0) (5 + 11 * W + 4) 0) (5 + 11 * W + 5) 0) (5 + 11 * W + 6) 0) (5 + 11 * W + 7) 0) (5 + 11 * W + 8) 0) (5 + 11 * W + 9) 0) (5 + 11 * W + 10) 0) (5 + 11 * W + 0) 1) (5 + 11 * W + 1) x) (5 + 11 * W + 2) y) (5 + 11 * W + 3) ma) (5 + 11 * W + 4) de = wPut r W (l11 1 x y ma de 0 0 0 0 0 0) := by
    refine row_w W (fun q hq => ?_) (fun k hk => ?_)
    · rw [wPut_in hq]
      revert q
      refine elv ?_ ?_ ?_ ?_ ?_ ?_ ?_ ?_ ?_ ?_ ?_ <;> simp [upd, l11]
    · rw [wPut_no hk]
      repeat rw [upd_no (by omega)]
  rw [e]
  have hg : Wg (l11 1 x y ma de 0 0 0 0 0 0) := ⟨inI_1 h2, inI_1 h3, inI_1 h4, inI_1 h5, bt0 (by decide), bt0 (by decide), bt0 (by decide), bt0 (by decide), bt0 (by decide), Int.le_refl (0 : Int), by
    have this : (10 : Int) ≤ de.toInt := (inI_1 h5).1
    show (0 : Int) < 4 * (1 + de.toInt / 100)
    omega⟩
  have hI1 := hI.wput hw (f := l11 1 x y ma de 0 0 0 0 0 0) (Or.inr rfl) (fun _ => hg)
  have hR1 := hR.wput hI.1.2.2.2 hw (f := l11 1 x y ma de 0 0 0 0 0 0) (f' := l11 1 x y ma de 0 0 0 0 0 0) (fun _ _ => rfl)
  have hI2 := hI1.vd hw
  have hR2 := hR1.vd hI1 hw
  have hv := hung_eq hI2 hR2
  exact AS.yes hv.1 hv.2.1 ⟨sc, cn, hI2, hR2⟩
theorem as_lift {r R hh scr : Nat → Int32} {sc cn tb lh k0 : Nat} {hq : Nat → Nat → Int32} {rs w : Int32} (hI : Iv r sc cn tb) (hR : RelR sc R r) : AS tb (sq_X7_lift lh 0 rs R hq w sc) (sp_X8_lift k0 rs r scr hh w) lh hq R k0 hh r := by
  have g0 : Gd tb R r := ⟨sc, cn, hI, hR⟩
  unfold sq_X7_lift sp_X8_lift
  by_cases h1 : inI w 0 3 = 0
  · rw [if_pos h1, if_neg (noW_t h1)]; exact AS.no g0
  rw [if_neg h1, if_pos (noW_f h1)]
  have hw := in_w h1
  generalize wN w = W at hw ⊢
  by_cases h2 : r (5 + 11 * W + 0) = 0
  · rw [if_pos ((hR.w hw (by decide)).trans h2), if_pos (hgI_t h2)]; exact AS.no g0
  have h21 := b01_of (hI.2.2.1 W hw).1 h2
  rw [if_neg (fun z => h2 ((hR.w hw (by decide)).symm.trans z)), if_neg (hgI_f h21)]
  rw [upd_w0 (show 0 < 11 by decide)]
  have hI1 := hI.wput hw (f := upd (fun j => r (5 + 11 * W + j)) 0 0) (Or.inl rfl) (fun z => absurd (show (0 : Int32) = 1 from z) (by decide))
  have hR1 := hR.wput hI.1.2.2.2 hw (f := l11 0 (R (5 + 11 * W + 1)) (R (5 + 11 * W + 2)) (R (5 + 11 * W + 3)) (R (5 + 11 * W + 4)) (R (5 + 11 * W + 5)) (R (5 + 11 * W + 6)) (R (5 + 11 * W + 7)) (R (5 + 11 * W + 8)) (R (5 + 11 * W + 9)) (R (5 + 11 * W + 10))) (f' := upd (fun j => r (5 + 11 * W + j)) 0 0)
    (elv rfl (hR.w hw (by decide)) (hR.w hw (by decide)) (hR.w hw (by decide)) (hR.w hw (by decide)) (hR.w hw (by decide)) (hR.w hw (by decide)) (hR.w hw (by decide)) (hR.w hw (by decide)) (hR.w hw (by decide)) (hR.w hw (by decide)))
  have hI2 := hI1.vd hw
  have hR2 := hR1.vd hI1 hw
  have hv := hung_eq hI2 hR2
  exact AS.yes hv.1 hv.2.1 ⟨sc, cn, hI2, hR2⟩
theorem upd_vd {r : Nat → Int32} {w n k : Nat} {v : Int32} (hk : k < 84) : upd (vdR r w n) k v = vdR (upd r k v) w n := by
  funext j
  by_cases e : j = k
  · subst e; rw [upd_at, vdR_lo _ _ _ hk, upd_at]
  · rw [upd_no e]; simp only [vdR, upd_no e]
theorem upd_self (r : Nat → Int32) (k : Nat) : upd r k (r k) = r := by
  funext j
  unfold upd
  split
  · rename_i h; rw [h]
  · rfl
theorem sz_t {x : Int32} (h : -2147483648 < x.toInt) : 0 ≤ (szI x).toInt ∧ (x.toInt < 0 → (szI x).toInt = -x.toInt) ∧ (0 ≤ x.toInt → (szI x).toInt = x.toInt) := by
  unfold szI
  by_cases h0 : (0 : Int32) ≤ x
  · rw [if_pos h0]
    have h0 : (0 : Int) ≤ x.toInt := (i_le _ _).mp h0
    exact ⟨h0, fun z => by omega, fun _ => rfl⟩
  · rw [if_neg h0]
    have h0 : ¬ (0 : Int) ≤ x.toInt := fun z => h0 ((i_le _ _).mpr z)
    have e := fb_negI (x := x) (by omega)
    rw [e]
    exact ⟨by omega, fun _ => rfl, fun z => by omega⟩
theorem abs_sz (x : Int32) : (if 0 ≤ x then x else 0 - x) = szI x := by
  unfold szI
  split
  · rfl
  · exact Int32.zero_sub x
theorem sz2_nn {x y : Int32} (hx : Bt x (-20) 20) (hy : Bt y (-20) 20) : 0 ≤ (szI x + szI y).toInt := by
  obtain ⟨a, b⟩ := hx
  obtain ⟨c, d⟩ := hy
  have s1 := sz_t (x := x) (by omega)
  have s2 := sz_t (x := y) (by omega)
  have q1 : (szI x).toInt ≤ 20 := by
    by_cases z : x.toInt < 0
    · have := s1.2.1 z; omega
    · have := s1.2.2 (by omega); omega
  have q2 : (szI y).toInt ≤ 20 := by
    by_cases z : y.toInt < 0
    · have := s2.2.1 z; omega
    · have := s2.2.2 (by omega); omega
  rw [Int32.toInt_add, fb_bmod (by omega) (by omega)]
  omega
theorem as_setClamp {r R hh scr : Nat → Int32} {sc cn tb lh k0 : Nat} {hq : Nat → Nat → Int32} {rs w x y : Int32} (hI : Iv r sc cn tb) (hR : RelR sc R r) : AS tb (sq_X7_setClamp lh 0 rs R hq w x y sc) (sp_X8_setClamp k0 rs r scr hh w x y) lh hq R k0 hh r := by
  have g0 : Gd tb R r := ⟨sc, cn, hI, hR⟩
  unfold sq_X7_setClamp sp_X8_setClamp
  by_cases h1 : inI w 0 3 = 0
  · rw [if_pos h1, if_neg (noW_t h1)]; exact AS.no g0
  rw [if_neg h1, if_pos (noW_f h1)]
  by_cases hx : inI x (-20) 20 = 0
  · rw [if_pos hx, if_pos hx]; exact AS.no g0
  rw [if_neg hx, if_neg hx]
  by_cases hy : inI y (-20) 20 = 0
  · rw [if_pos hy, if_pos hy]; exact AS.no g0
  rw [if_neg hy, if_neg hy]
  have hw := in_w h1
  generalize wN w = W at hw ⊢
  by_cases h2 : r (5 + 11 * W + 0) = 0
  · rw [if_pos ((hR.w hw (by decide)).trans h2), if_pos (hgI_t h2)]; exact AS.no g0
  have h21 := b01_of (hI.2.2.1 W hw).1 h2
  have g := (hI.2.2.1 W hw).2 h21
  rw [if_neg (fun z => h2 ((hR.w hw (by decide)).symm.trans z)), if_neg (hgI_f h21)]
  rw [abs_sz, abs_sz, hR.w hw (show 5 < 11 by decide), hR.w hw (show 6 < 11 by decide)]
  have hnn := sz2_nn (x := x) (y := y) (inI_1 hx) (inI_1 hy)
  have go : AS tb (szI x + szI y, rs, vdR (wPut R W (l11 (R (5 + 11 * W + 0)) (R (5 + 11 * W + 1)) (R (5 + 11 * W + 2)) (R (5 + 11 * W + 3)) (R (5 + 11 * W + 4)) x y (R (5 + 11 * W + 7)) (R (5 + 11 * W + 8)) (R (5 + 11 * W + 9)) (R (5 + 11 * W + 10)))) W sc, rmL 0 lh, rmQ 0 lh hq R)
      (if -100001 < szI x + szI y then (szI x + szI y, r, upd (upd (vdR r W 5) (5 + 11 * W + 5) x) (5 + 11 * W + 6) y, pushH hh k0 r, pushK k0, rs) else (szI x + szI y, r, upd (upd (vdR r W 5) (5 + 11 * W + 5) x) (5 + 11 * W + 6) y, hh, k0, rs)) lh hq R k0 hh r := by
    rw [upd_vd (by omega), upd_vd (by omega), upd_w0 (show 5 < 11 by decide), upd_wP (show 6 < 11 by decide)]
    have hI1 := hI.wput hw (f := upd (upd (fun j => r (5 + 11 * W + j)) 5 x) 6 y) (Or.inr h21) (fun _ => ⟨g.1, g.2.1, g.2.2.1, g.2.2.2.1, inI_1 hx, inI_1 hy, g.2.2.2.2.2.2⟩)
    have hR1 := hR.wput hI.1.2.2.2 hw (f := l11 (R (5 + 11 * W + 0)) (R (5 + 11 * W + 1)) (R (5 + 11 * W + 2)) (R (5 + 11 * W + 3)) (R (5 + 11 * W + 4)) x y (R (5 + 11 * W + 7)) (R (5 + 11 * W + 8)) (R (5 + 11 * W + 9)) (R (5 + 11 * W + 10))) (f' := upd (upd (fun j => r (5 + 11 * W + j)) 5 x) 6 y)
      (elv (hR.w hw (by decide)) (hR.w hw (by decide)) (hR.w hw (by decide)) (hR.w hw (by decide)) (hR.w hw (by decide)) rfl rfl (hR.w hw (by decide)) (hR.w hw (by decide)) (hR.w hw (by decide)) (hR.w hw (by decide)))
    exact AS.yes rfl hnn ⟨sc, cn, hI1.vd hw, hR1.vd hI1 hw⟩
  by_cases h5 : r (5 + 11 * W + 5) = x
  · rw [if_pos h5, if_pos h5]
    by_cases h6 : r (5 + 11 * W + 6) = y
    · rw [if_pos h6, if_pos h6]
      have e : upd (upd r (5 + 11 * W + 5) x) (5 + 11 * W + 6) y = r := by
        rw [← h5, upd_self, ← h6, upd_self]
      rw [e]
      exact AS.yes rfl hnn g0
    · rw [if_neg h6, if_neg h6]; exact go
  · rw [if_neg h5, if_neg h5]; exact go
theorem as_setBucket {r R hh scr : Nat → Int32} {sc cn tb lh k0 : Nat} {hq : Nat → Nat → Int32} {rs w x : Int32} (hI : Iv r sc cn tb) (hR : RelR sc R r) : AS tb (sq_X7_setBucket lh 0 rs R hq w x sc) (sp_X8_setBucket k0 rs r scr hh w x) lh hq R k0 hh r := by
  have g0 : Gd tb R r := ⟨sc, cn, hI, hR⟩
  unfold sq_X7_setBucket sp_X8_setBucket
  by_cases h1 : inI w 0 3 = 0
  · rw [if_pos h1, if_neg (noW_t h1)]; exact AS.no g0
  rw [if_neg h1, if_pos (noW_f h1)]
  by_cases hx : inI x 0 2 = 0
  · rw [if_pos hx, if_pos hx]; exact AS.no g0
  rw [if_neg hx, if_neg hx]
  have hw := in_w h1
  generalize wN w = W at hw ⊢
  by_cases h2 : r (5 + 11 * W + 0) = 0
  · rw [if_pos ((hR.w hw (by decide)).trans h2), if_pos (hgI_t h2)]; exact AS.no g0
  have h21 := b01_of (hI.2.2.1 W hw).1 h2
  have g := (hI.2.2.1 W hw).2 h21
  rw [if_neg (fun z => h2 ((hR.w hw (by decide)).symm.trans z)), if_neg (hgI_f h21)]
  have e7 := hR.w hw (show 7 < 11 by decide)
  rw [e7]
  by_cases h7 : r (5 + 11 * W + 7) = x
  · rw [if_pos h7, if_pos h7]
    have e : upd r (5 + 11 * W + 7) x = r := by rw [← h7, upd_self]
    rw [e]
    exact AS.yes rfl g.2.2.2.2.2.2.1.1 g0
  · rw [if_neg h7, if_neg h7]
    rw [upd_vd (by omega), upd_w0 (show 7 < 11 by decide)]
    have hI1 := hI.wput hw (f := upd (fun j => r (5 + 11 * W + j)) 7 x) (Or.inr h21) (fun _ => ⟨g.1, g.2.1, g.2.2.1, g.2.2.2.1, g.2.2.2.2.1, g.2.2.2.2.2.1, inI_1 hx, g.2.2.2.2.2.2.2⟩)
    have hR1 := hR.wput hI.1.2.2.2 hw (f := l11 (R (5 + 11 * W + 0)) (R (5 + 11 * W + 1)) (R (5 + 11 * W + 2)) (R (5 + 11 * W + 3)) (R (5 + 11 * W + 4)) (R (5 + 11 * W + 5)) (R (5 + 11 * W + 6)) x (R (5 + 11 * W + 8)) (R (5 + 11 * W + 9)) (R (5 + 11 * W + 10))) (f' := upd (fun j => r (5 + 11 * W + j)) 7 x)
      (elv (hR.w hw (by decide)) (hR.w hw (by decide)) (hR.w hw (by decide)) (hR.w hw (by decide)) (hR.w hw (by decide)) (hR.w hw (by decide)) (hR.w hw (by decide)) rfl (hR.w hw (by decide)) (hR.w hw (by decide)) (hR.w hw (by decide)))
    exact AS.yes rfl g.2.2.2.2.2.2.1.1 ⟨sc, cn, hI1.vd hw, hR1.vd hI1 hw⟩
