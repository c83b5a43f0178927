/-! Acts, the second half. -/
theorem er_1 : (-100001 : Int32).toInt ≤ -100001 := by decide +kernel
theorem er_2 : (-100002 : Int32).toInt ≤ -100001 := by decide +kernel
theorem er_3 : (-100003 : Int32).toInt ≤ -100001 := by decide +kernel
theorem ct_sm {f f' : Nat → Int32} : ∀ n : Nat, (∀ k : Nat, k < n → f k = f' k ∧ B01 (f' k)) → ctI f n = smI f' n ∧ ∃ m : Nat, m ≤ n ∧ smI f' n = nI m
  | 0, _ => ⟨rfl, 0, Nat.le_refl _, nI_0.symm⟩
  | n + 1, h => by
    obtain ⟨e, m, hm, em⟩ := ct_sm n (fun k hk => h k (by omega))
    obtain ⟨q, b⟩ := h n (by omega)
    have es : smI f' (n + 1) = smI f' n + f' n := rfl
    rcases b with b | b
    · rw [ctI_pos (q.trans b), es, b, e, em]
      exact ⟨(Int32.add_zero _).symm, m, by omega, Int32.add_zero _⟩
    · rw [ctI_neg (fun z => absurd ((q.trans b).symm.trans z) (by decide)), es, b, e, em]
      exact ⟨rfl, m + 1, by omega, nI_1 m⟩
theorem sm_z {f : Nat → Int32} (n : Nat) : ∀ j : Nat, (∀ k : Nat, n ≤ k → k < n + j → f k = 0) → smI f (n + j) = smI f n
  | 0, _ => rfl
  | j + 1, h => by
    have e := sm_z n j (fun k h1 h2 => h k h1 (by omega))
    have es : smI f (n + (j + 1)) = smI f (n + j) + f (n + j) := rfl
    rw [es, e, h (n + j) (by omega) (by omega)]
    exact Int32.add_zero _
theorem ct_sm5 {f f' : Nat → Int32} {n : Nat} (hn : n ≤ 5) (h : ∀ k : Nat, k < n → f k = f' k ∧ B01 (f' k)) (hz : ∀ k : Nat, n ≤ k → k < 5 → f' k = 0) : ctI f n = smI f' 5 ∧ ∃ m : Nat, m ≤ 5 ∧ smI f' 5 = nI m := by
  obtain ⟨e, m, hm, em⟩ := ct_sm n h
  have q := sm_z (f := f') n (5 - n) (fun k h1 h2 => hz k h1 (by omega))
  rw [show n + (5 - n) = 5 by omega] at q
  exact ⟨e.trans q.symm, m, by omega, q.trans em⟩
theorem vd_cnt {r R : Nat → Int32} {sc cn tb : Nat} (hI : Iv r sc cn tb) (hR : RelR sc R r) {w : Nat} (hw : w < 4) : ctI (fun v => R (84 + 6 * (4 * v + w))) sc = smI (fun s => r (84 + 6 * (4 * s + w))) 5 ∧ ∃ m : Nat, m ≤ 5 ∧ smI (fun s => r (84 + 6 * (4 * s + w))) 5 = nI m :=
  ct_sm5 hI.1.2.2.2 (fun k hk => ⟨hR.o0 (by have := hI.1.2.2.2; omega) hw, (hI.2.2.2.2.2 k w (by have := hI.1.2.2.2; omega) hw).1⟩) (fun k h1 h2 => (hI.2.2.2.2.2 k w h2 hw).2.1 h1)
theorem per_nn {x : Int32} (h : Bt x 10 800) : 0 ≤ (4 * (1 + x / 100)).toInt := by
  rw [(q_toInt h).2]
  obtain ⟨h1, h2⟩ := h
  omega
theorem wg_ph {x : Int32} (h : Bt x 10 800) : ((0 : Int32).toInt) < 4 * (1 + x.toInt / 100) := by
  obtain ⟨h1, h2⟩ := h
  show (0 : Int) < _
  omega
theorem ds_push {r R : Nat → Int32} {sc cn tb lh : Nat} {hq : Nat → Nat → Int32} {ru rs w x y : Int32} (hI : Iv r sc cn tb) (hR : RelR sc R r) : DS tb (sq_X7_push lh ru rs R hq w x y sc) (sp_X8_doPush r rs w x y) ru lh hq R := by
  have g0 : Gd tb R r := ⟨sc, cn, hI, hR⟩
  unfold sq_X7_push sp_X8_doPush
  by_cases h1 : inI w 0 3 = 0
  · rw [if_pos h1, if_neg (noW_t h1)]; exact DS.no g0 er_1
  rw [if_neg h1, if_pos (noW_f h1)]
  by_cases hx : inI x 0 7 = 0
  · rw [if_pos hx, if_pos hx]; exact DS.no g0 er_2
  rw [if_neg hx, if_neg hx]
  by_cases hy : inI y 1 500 = 0
  · rw [if_pos hy, if_pos hy]; exact DS.no g0 er_2
  rw [if_neg hy, if_neg hy]
  have hw := in_w h1
  generalize wN w = W at hw ⊢
  by_cases h2 : r (5 + 11 * W + 0) = 0
  · rw [if_pos ((hR.w hw (by decide)).trans h2), if_pos (hgI_t h2)]; exact DS.no g0 er_3
  have h21 := b01_of (hI.2.2.1 W hw).1 h2
  have g := (hI.2.2.1 W hw).2 h21
  rw [if_neg (fun z => h2 ((hR.w hw (by decide)).symm.trans z)), if_neg (hgI_f h21)]
  rw [upd_w0 (show 8 < 11 by decide), upd_wP (show 9 < 11 by decide), upd_wP (show 10 < 11 by decide)]
  have hg : Wg (upd (upd (upd (fun j => r (5 + 11 * W + j)) 8 x) 9 y) 10 0) := ⟨g.1, g.2.1, g.2.2.1, g.2.2.2.1, g.2.2.2.2.1, g.2.2.2.2.2.1, g.2.2.2.2.2.2.1, inI_1 hx, ⟨Int.le_trans (by decide) (inI_1 hy).1, (inI_1 hy).2⟩, Int.le_refl (0 : Int), wg_ph g.2.2.2.1⟩
  have hI1 := hI.wput hw (f := upd (upd (upd (fun j => r (5 + 11 * W + j)) 8 x) 9 y) 10 0) (Or.inr h21) (fun _ => hg)
  have hR1 := hR.wput hI.1.2.2.2 hw (f := l11 (R (5 + 11 * W + 0)) (R (5 + 11 * W + 1)) (R (5 + 11 * W + 2)) (R (5 + 11 * W + 3)) (R (5 + 11 * W + 4)) (R (5 + 11 * W + 5)) (R (5 + 11 * W + 6)) (R (5 + 11 * W + 7)) x y 0) (f' := upd (upd (upd (fun j => r (5 + 11 * W + j)) 8 x) 9 y) 10 0)
    (elv (hR.w hw (by decide)) (hR.w hw (by decide)) (hR.w hw (by decide)) (hR.w hw (by decide)) (hR.w hw (by decide)) (hR.w hw (by decide)) (hR.w hw (by decide)) (hR.w hw (by decide)) rfl rfl rfl)
  have hI2 := hI1.vd hw
  have hR2 := hR1.vd hI1 hw
  refine DS.yes ?_ ?_ ⟨sc, cn, hI2, hR2⟩
  · refine (congrArg (fun z : Int32 => 4 * qdI z) (hR2.w hw (show 4 < 11 by decide))).trans (congrArg (fun z : Int32 => 4 * z) (qd_in2 ?_))
    rw [vdR_lo _ _ _ (by omega), wPut_in (show 4 < 11 by decide)]
    exact g.2.2.2.1
  · rw [vdR_lo _ _ _ (by omega), wPut_in (show 4 < 11 by decide)]
    exact per_nn g.2.2.2.1
theorem swp_row {r : Nat → Int32} {W V : Nat} (hn : W ≠ V) : upd (upd (upd (upd (upd (upd (upd (upd r (5 + 11 * W + 1) (r (5 + 11 * V + 1))) (5 + 11 * V + 1) (r (5 + 11 * W + 1))) (5 + 11 * W + 2) ((upd (upd r (5 + 11 * W + 1) (r (5 + 11 * V + 1))) (5 + 11 * V + 1) (r (5 + 11 * W + 1))) (5 + 11 * V + 2))) (5 + 11 * V + 2) ((upd (upd r (5 + 11 * W + 1) (r (5 + 11 * V + 1))) (5 + 11 * V + 1) (r (5 + 11 * W + 1))) (5 + 11 * W + 2))) (5 + 11 * W + 9) 0) (5 + 11 * V + 9) 0) (5 + 11 * W + 10) 0) (5 + 11 * V + 10) 0 = wPut (wPut r W (l11 (r (5 + 11 * W + 0)) (r (5 + 11 * V + 1)) (r (5 + 11 * V + 2)) (r (5 + 11 * W + 3)) (r (5 + 11 * W + 4)) (r (5 + 11 * W + 5)) (r (5 + 11 * W + 6)) (r (5 + 11 * W + 7)) (r (5 + 11 * W + 8)) 0 0)) V (l11 (r (5 + 11 * V + 0)) (r (5 + 11 * W + 1)) (r (5 + 11 * W + 2)) (r (5 + 11 * V + 3)) (r (5 + 11 * V + 4)) (r (5 + 11 * V + 5)) (r (5 + 11 * V + 6)) (r (5 + 11 * V + 7)) (r (5 + 11 * V + 8)) 0 0) := by
  have e1 : (upd (upd r (5 + 11 * W + 1) (r (5 + 11 * V + 1))) (5 + 11 * V + 1) (r (5 + 11 * W + 1))) (5 + 11 * V + 2) = r (5 + 11 * V + 2) := by rw [upd_no (by omega), upd_no (by omega)]
  have e2 : (upd (upd r (5 + 11 * W + 1) (r (5 + 11 * V + 1))) (5 + 11 * V + 1) (r (5 + 11 * W + 1))) (5 + 11 * W + 2) = r (5 + 11 * W + 2) := by rw [upd_no (by omega), upd_no (by omega)]
  rw [e1, e2]
  refine row_w V (fun q hq => ?_) (fun k hk => ?_)
  · rw [wPut_in hq]
    revert q
    refine elv ?_ ?_ ?_ ?_ ?_ ?_ ?_ ?_ ?_ ?_ ?_
    all_goals (repeat first | rw [upd_at] | rw [upd_no (by omega)])
    all_goals rfl
  · rw [wPut_no hk]
    by_cases hW : 5 + 11 * W ≤ k ∧ k < 5 + 11 * W + 11
    · obtain ⟨q, hq, rfl⟩ : ∃ q, q < 11 ∧ k = 5 + 11 * W + q := ⟨k - (5 + 11 * W), by omega, by omega⟩
      rw [wPut_in hq]
      clear hk hW
      revert q
      refine elv ?_ ?_ ?_ ?_ ?_ ?_ ?_ ?_ ?_ ?_ ?_
      all_goals (repeat first | rw [upd_at] | rw [upd_no (by omega)])
      all_goals rfl
    · rw [wPut_no (by omega)]
      repeat rw [upd_no (by omega)]
theorem ds_swap {r R : Nat → Int32} {sc cn tb lh : Nat} {hq : Nat → Nat → Int32} {ru rs x y : Int32} (hI : Iv r sc cn tb) (hR : RelR sc R r) : DS tb (sq_X7_swap lh ru rs R hq x y sc) (sp_X8_doSwap r rs x y) ru lh hq R := by
  have g0 : Gd tb R r := ⟨sc, cn, hI, hR⟩
  unfold sq_X7_swap sp_X8_doSwap
  by_cases h1 : inI x 0 3 = 0
  · rw [if_pos h1, if_neg (noW_t h1)]; exact DS.no g0 er_1
  rw [if_neg h1, if_pos (noW_f h1)]
  by_cases h3 : inI y 0 3 = 0
  · rw [if_pos h3, if_neg (noW_t h3)]; exact DS.no g0 er_1
  rw [if_neg h3, if_pos (noW_f h3)]
  have hW := in_w h1
  have hV := in_w h3
  generalize wN x = W at hW ⊢
  generalize wN y = V at hV ⊢
  by_cases h4 : nI W = nI V
  · rw [if_pos h4, if_pos h4]; exact DS.no g0 er_2
  rw [if_neg h4, if_neg h4]
  have hn : W ≠ V := fun z => h4 (by rw [z])
  by_cases h2 : r (5 + 11 * W + 0) = 0
  · rw [if_pos ((hR.w hW (by decide)).trans h2), if_pos (hgI_t h2)]; exact DS.no g0 er_3
  have h21 := b01_of (hI.2.2.1 W hW).1 h2
  have g := (hI.2.2.1 W hW).2 h21
  rw [if_neg (fun z => h2 ((hR.w hW (by decide)).symm.trans z)), if_neg (hgI_f h21)]
  by_cases h5 : r (5 + 11 * V + 0) = 0
  · rw [if_pos ((hR.w hV (by decide)).trans h5), if_pos (hgI_t h5)]; exact DS.no g0 er_3
  have h51 := b01_of (hI.2.2.1 V hV).1 h5
  have gv := (hI.2.2.1 V hV).2 h51
  rw [if_neg (fun z => h5 ((hR.w hV (by decide)).symm.trans z)), if_neg (hgI_f h51)]
  rw [swp_row hn]
  have hg1 : Wg (l11 (r (5 + 11 * W + 0)) (r (5 + 11 * V + 1)) (r (5 + 11 * V + 2)) (r (5 + 11 * W + 3)) (r (5 + 11 * W + 4)) (r (5 + 11 * W + 5)) (r (5 + 11 * W + 6)) (r (5 + 11 * W + 7)) (r (5 + 11 * W + 8)) 0 0) := ⟨gv.1, gv.2.1, g.2.2.1, g.2.2.2.1, g.2.2.2.2.1, g.2.2.2.2.2.1, g.2.2.2.2.2.2.1, g.2.2.2.2.2.2.2.1, bt0 (by decide), Int.le_refl (0 : Int), wg_ph g.2.2.2.1⟩
  have hg2 : Wg (l11 (r (5 + 11 * V + 0)) (r (5 + 11 * W + 1)) (r (5 + 11 * W + 2)) (r (5 + 11 * V + 3)) (r (5 + 11 * V + 4)) (r (5 + 11 * V + 5)) (r (5 + 11 * V + 6)) (r (5 + 11 * V + 7)) (r (5 + 11 * V + 8)) 0 0) := ⟨g.1, g.2.1, gv.2.2.1, gv.2.2.2.1, gv.2.2.2.2.1, gv.2.2.2.2.2.1, gv.2.2.2.2.2.2.1, gv.2.2.2.2.2.2.2.1, bt0 (by decide), Int.le_refl (0 : Int), wg_ph gv.2.2.2.1⟩
  have hI1 := hI.wput hW (f := (l11 (r (5 + 11 * W + 0)) (r (5 + 11 * V + 1)) (r (5 + 11 * V + 2)) (r (5 + 11 * W + 3)) (r (5 + 11 * W + 4)) (r (5 + 11 * W + 5)) (r (5 + 11 * W + 6)) (r (5 + 11 * W + 7)) (r (5 + 11 * W + 8)) 0 0)) (Or.inr h21) (fun _ => hg1)
  have hI2 := hI1.wput hV (f := (l11 (r (5 + 11 * V + 0)) (r (5 + 11 * W + 1)) (r (5 + 11 * W + 2)) (r (5 + 11 * V + 3)) (r (5 + 11 * V + 4)) (r (5 + 11 * V + 5)) (r (5 + 11 * V + 6)) (r (5 + 11 * V + 7)) (r (5 + 11 * V + 8)) 0 0)) (Or.inr h51) (fun _ => hg2)
  have a1 := fun (q : Nat) (hq : q < 11) => hR.w hW hq
  have a2 := fun (q : Nat) (hq : q < 11) => hR.w hV hq
  have hR1 := hR.wput hI.1.2.2.2 hW (f := (l11 (R (5 + 11 * W + 0)) (R (5 + 11 * V + 1)) (R (5 + 11 * V + 2)) (R (5 + 11 * W + 3)) (R (5 + 11 * W + 4)) (R (5 + 11 * W + 5)) (R (5 + 11 * W + 6)) (R (5 + 11 * W + 7)) (R (5 + 11 * W + 8)) 0 0)) (f' := (l11 (r (5 + 11 * W + 0)) (r (5 + 11 * V + 1)) (r (5 + 11 * V + 2)) (r (5 + 11 * W + 3)) (r (5 + 11 * W + 4)) (r (5 + 11 * W + 5)) (r (5 + 11 * W + 6)) (r (5 + 11 * W + 7)) (r (5 + 11 * W + 8)) 0 0)) (elv (a1 0 (by decide)) (a2 1 (by decide)) (a2 2 (by decide)) (a1 3 (by decide)) (a1 4 (by decide)) (a1 5 (by decide)) (a1 6 (by decide)) (a1 7 (by decide)) (a1 8 (by decide)) rfl rfl)
  have hR2 := hR1.wput hI.1.2.2.2 hV (f := (l11 (R (5 + 11 * V + 0)) (R (5 + 11 * W + 1)) (R (5 + 11 * W + 2)) (R (5 + 11 * V + 3)) (R (5 + 11 * V + 4)) (R (5 + 11 * V + 5)) (R (5 + 11 * V + 6)) (R (5 + 11 * V + 7)) (R (5 + 11 * V + 8)) 0 0)) (f' := (l11 (r (5 + 11 * V + 0)) (r (5 + 11 * W + 1)) (r (5 + 11 * W + 2)) (r (5 + 11 * V + 3)) (r (5 + 11 * V + 4)) (r (5 + 11 * V + 5)) (r (5 + 11 * V + 6)) (r (5 + 11 * V + 7)) (r (5 + 11 * V + 8)) 0 0)) (elv (a2 0 (by decide)) (a1 1 (by decide)) (a1 2 (by decide)) (a2 3 (by decide)) (a2 4 (by decide)) (a2 5 (by decide)) (a2 6 (by decide)) (a2 7 (by decide)) (a2 8 (by decide)) rfl rfl)
  have c1 := vd_cnt hI2 hR2 hW
  have hI3 := hI2.vd hW
  have hR3 := hR2.vd hI2 hW
  have c2 := vd_cnt hI3 hR3 hV
  have hI4 := hI3.vd hV
  have hR4 := hR3.vd hI3 hV
  refine DS.yes (by rw [c1.1, c2.1]) ?_ ⟨sc, cn, hI4, hR4⟩
  obtain ⟨m1, hm1, q1⟩ := c1.2
  obtain ⟨m2, hm2, q2⟩ := c2.2
  rw [q1, q2, nI_add, nI_toInt (by omega)]
  omega
theorem RelR.va {sc cn tb : Nat} {R r : Nat → Int32} (h : RelR sc R r) (hI : Iv r sc cn tb) : RelR sc (vaR R sc 4) (vaR r 5 4) ∧ Iv (vaR r 5 4) sc cn tb := by
  have i0 := hI.vd (show 0 < 4 by decide)
  have r0 := h.vd hI (show 0 < 4 by decide)
  have i1 := i0.vd (show 1 < 4 by decide)
  have r1 := r0.vd i0 (show 1 < 4 by decide)
  have i2 := i1.vd (show 2 < 4 by decide)
  have r2 := r1.vd i1 (show 2 < 4 by decide)
  have i3 := i2.vd (show 3 < 4 by decide)
  have r3 := r2.vd i2 (show 3 < 4 by decide)
  exact ⟨r3, i3⟩
theorem Wg_cong {f f' : Nat → Int32} (h : ∀ q : Nat, q < 11 → f' q = f q) (g : Wg f) : Wg f' := by
  unfold Wg at g ⊢
  rw [h 1 (by decide), h 2 (by decide), h 3 (by decide), h 4 (by decide), h 5 (by decide), h 6 (by decide), h 7 (by decide), h 8 (by decide), h 9 (by decide), h 10 (by decide)]
  exact g
theorem Og_cong {f f' : Nat → Int32} (h : ∀ q : Nat, q < 6 → f' q = f q) (g : Og f) : Og f' := by
  unfold Og at g ⊢
  rw [h 1 (by decide), h 2 (by decide)]
  exact g
theorem Cg_cong {f f' : Nat → Int32} (h : ∀ q : Nat, q < 4 → f' q = f q) (g : Cg f) : Cg f' := by
  unfold Cg at g ⊢
  rw [h 0 (by decide), h 1 (by decide), h 2 (by decide), h 3 (by decide)]
  exact g
/-- a row whose wires and things seen are the same -/
theorem Iv.other {r r' : Nat → Int32} {sc cn tb sc' cn' tb' : Nat} (h : Iv r sc cn tb) (h3 : r' 3 = nI cn') (hc : cn' ≤ 5) (h4 : r' 4 = nI sc') (hs : sc' ≤ 5) (h0 : 0 ≤ (r' 0).toInt ∧ (r' 0).toInt ≤ tb' ∧ Bt (r' 1) 0 500) (hw : ∀ k : Nat, 5 ≤ k → k < 49 → r' k = r k) (hcg : ∀ k : Nat, k < cn' → Cg (fun q => r' (49 + 4 * k + q))) (hst : ∀ s : Nat, s < sc' → Bt (r' (69 + 3 * s)) 1 800 ∧ Bt (r' (69 + 3 * s + 1)) 0 7999) (ho : ∀ k : Nat, 84 ≤ k → k < 204 → r' k = r k) (hss : sc ≤ sc') : Iv r' sc' cn' tb' := by
  refine ⟨⟨h3, hc, h4, hs⟩, h0, fun w hw4 => ?_, hcg, hst, fun s w hs5 hw4 => ?_⟩
  · rw [hw _ (by omega) (by omega)]
    exact ⟨(h.2.2.1 w hw4).1, fun z => Wg_cong (fun q hq => hw _ (by omega) (by omega)) ((h.2.2.1 w hw4).2 z)⟩
  · have g := h.2.2.2.2.2 s w hs5 hw4
    rw [ho _ (by omega) (by omega)]
    exact ⟨g.1, fun z => g.2.1 (by omega), fun z => Og_cong (fun q hq => ho _ (by omega) (by omega)) (g.2.2 z)⟩
theorem RelR.up {sc : Nat} {R r : Nat → Int32} (h : RelR sc R r) (hsc : sc ≤ 5) {k0 : Nat} {v : Int32} (hk0 : k0 < 69) : RelR sc (upd R k0 v) (upd r k0 v) := by
  refine ⟨fun k hk hn => ?_, fun s hs => by rw [upd_no (by omega)]; exact h.2.1 s hs, fun s hs => by rw [upd_no (by omega), upd_no (by omega), upd_no (by omega)]; exact h.2.2 s hs⟩
  unfold upd
  split
  · rfl
  · exact h.1 k hk hn
theorem cP_no {r : Nat → Int32} {w k : Nat} {f : Nat → Int32} (h : k < 49 + 4 * w ∨ 49 + 4 * w + 4 ≤ k) : cPut r w f k = r k := if_neg (by omega)
theorem cP_in {r : Nat → Int32} {w q : Nat} {f : Nat → Int32} (hq : q < 4) : cPut r w f (49 + 4 * w + q) = f q := by
  unfold cPut; rw [if_pos (by omega), show 49 + 4 * w + q - (49 + 4 * w) = q by omega]
theorem RelR.cput {sc : Nat} {R r : Nat → Int32} (h : RelR sc R r) (hsc : sc ≤ 5) {w : Nat} (hw : w < 5) {f : Nat → Int32} : RelR sc (cPut R w f) (cPut r w f) := by
  refine ⟨fun k hk hn => ?_, fun s hs => by rw [cP_no (by omega)]; exact h.2.1 s hs, fun s hs => by rw [cP_no (by omega), cP_no (by omega), cP_no (by omega)]; exact h.2.2 s hs⟩
  unfold cPut
  split
  · rfl
  · exact h.1 k hk hn
theorem cur_row {r : Nat → Int32} {cn : Nat} {x y fx fy : Int32} : upd (upd (upd (upd (upd r (49 + 4 * cn) x) (49 + 4 * cn + 1) y) (49 + 4 * cn + 2) fx) (49 + 4 * cn + 3) fy) 3 (((upd (upd (upd (upd r (49 + 4 * cn) x) (49 + 4 * cn + 1) y) (49 + 4 * cn + 2) fx) (49 + 4 * cn + 3) fy) 3) + 1) = cPut (upd r 3 (r 3 + 1)) cn (l4 x y fx fy) := by
  have e : (upd (upd (upd (upd r (49 + 4 * cn) x) (49 + 4 * cn + 1) y) (49 + 4 * cn + 2) fx) (49 + 4 * cn + 3) fy) 3 = r 3 := by rw [upd_no (by omega), upd_no (by omega), upd_no (by omega), upd_no (by omega)]
  rw [e]
  funext k
  by_cases a : 49 + 4 * cn ≤ k ∧ k < 49 + 4 * cn + 4
  · obtain ⟨q, hq, rfl⟩ : ∃ q, q < 4 ∧ k = 49 + 4 * cn + q := ⟨k - (49 + 4 * cn), by omega, by omega⟩
    rw [cP_in hq]
    rcases (show q = 0 ∨ q = 1 ∨ q = 2 ∨ q = 3 by omega) with rfl | rfl | rfl | rfl
    · rw [upd_no (by omega), upd_no (by omega), upd_no (by omega), upd_no (by omega)]; exact upd_at _ _ _
    · rw [upd_no (by omega), upd_no (by omega), upd_no (by omega), upd_at]; rfl
    · rw [upd_no (by omega), upd_no (by omega), upd_at]; rfl
    · rw [upd_no (by omega), upd_at]; rfl
  · rw [cP_no (by omega)]
    by_cases e3 : k = 3
    · subst e3; rw [upd_at, upd_at]
    · rw [upd_no e3, upd_no e3, upd_no (by omega), upd_no (by omega), upd_no (by omega), upd_no (by omega)]
theorem i_x1 {x : Int32} (h : Bt x 0 799) : (x + 1).toInt = x.toInt + 1 := by
  obtain ⟨h1, h2⟩ := h
  have e := fb_addI (x := x) (y := 1) (by show _ ≤ x.toInt + (1 : Int); omega) (by show x.toInt + (1 : Int) < _; omega)
  exact e
theorem as_addCurrent {r R hh scr : Nat → Int32} {sc cn tb lh k0 : Nat} {hq : Nat → Nat → Int32} {rs x y fx fy : Int32} (hI : Iv r sc cn tb) (hR : RelR sc R r) : AS tb (sq_X7_addCurrent lh 0 rs R hq x y fx fy sc cn) (sp_X8_addCurrent k0 rs r scr hh x y fx fy cn) lh hq R k0 hh r := by
  have g0 : Gd tb R r := ⟨sc, cn, hI, hR⟩
  unfold sq_X7_addCurrent sp_X8_addCurrent
  by_cases h1 : inI x 0 799 = 0
  · rw [if_pos h1, if_pos h1]; exact AS.no g0
  rw [if_neg h1, if_neg h1]
  have hx : Bt x 0 799 := inI_1 h1
  have hx1 := i_x1 hx
  have h800 : ((800 : Int32)).toInt = 800 := rfl
  by_cases h2 : inI y (x + 1) 800 = 0
  · rw [if_pos h2]
    by_cases a : y ≤ x
    · rw [if_pos a]; exact AS.no g0
    rw [if_neg a]
    by_cases b : 800 < y
    · rw [if_pos b]; exact AS.no g0
    · rw [i_le] at a
      rw [i_lt] at b
      exact absurd h2 (by rw [inI_yes (by omega) (by omega)]; decide)
  rw [if_neg h2]
  have hy := inI_1 h2
  rw [if_neg (show ¬ y ≤ x from fun z => by rw [i_le] at z; omega), if_neg (show ¬ 800 < y from fun z => by rw [i_lt] at z; omega)]
  by_cases h4 : inI fx (-50) 50 = 0
  · rw [if_pos h4, if_pos h4]; exact AS.no g0
  rw [if_neg h4, if_neg h4]
  by_cases h5 : inI fy (-50) 50 = 0
  · rw [if_pos h5, if_pos h5]; exact AS.no g0
  rw [if_neg h5, if_neg h5]
  have e3 := hR.lo (show 3 < 69 by decide)
  have r3 := hI.1.1
  have c5 := hI.1.2.1
  have s5 := hI.1.2.2.2
  by_cases hc : cn = 5
  · subst hc
    rw [if_neg (fun z => by rw [e3, r3] at z; exact absurd z (by decide +kernel)), if_pos (show r 3 = 5 from r3)]; exact AS.no g0
  have hc : cn < 5 := by omega
  rw [if_pos (by rw [e3, r3]; exact nI_lt hc (by decide)), if_neg (fun z => by rw [r3] at z; exact Nat.ne_of_lt hc ((nI_eq (by omega) (by decide)).mp z))]
  rw [cur_row]
  have hcg : Cg (l4 x y fx fy) := ⟨hx.1, by show x.toInt < y.toInt; omega, hy.2, inI_1 h4, inI_1 h5⟩
  have hR1 := (hR.up s5 (k0 := 3) (v := R 3 + 1) (by decide)).cput s5 hc (f := l4 x y fx fy)
  rw [e3] at hR1 ⊢
  have hI1 : Iv (cPut (upd r 3 (r 3 + 1)) cn (l4 x y fx fy)) sc (cn + 1) tb := by
    refine hI.other ?_ (by omega) ?_ s5 ?_ (fun k a b => ?_) (fun k hk => ?_) (fun s hs => ?_) (fun k a b => ?_) (Nat.le_refl _)
    · rw [cP_no (by omega), upd_at, r3, nI_1]
    · rw [cP_no (by omega), upd_no (by decide)]; exact hI.1.2.2.1
    · rw [cP_no (by omega), upd_no (by decide), cP_no (by omega), upd_no (by decide)]; exact hI.2.1
    · rw [cP_no (by omega), upd_no (by omega)]
    · by_cases e : k = cn
      · subst e
        exact Cg_cong (fun q hq => cP_in hq) hcg
      · refine Cg_cong (fun q hq => ?_) (hI.2.2.2.1 k (by omega))
        rw [cP_no (by omega), upd_no (by omega)]
    · rw [cP_no (by omega), upd_no (by omega), cP_no (by omega), upd_no (by omega)]; exact hI.2.2.2.2.1 s hs
    · rw [cP_no (by omega), upd_no (by omega)]
  obtain ⟨hR2, hI2⟩ := hR1.va hI1
  refine AS.yes (hR2.lo (by decide)) ?_ ⟨sc, cn + 1, hI2, hR2⟩
  rw [hI2.1.1, nI_toInt (by omega)]
  omega
theorem as_clearCurrents {r R hh scr : Nat → Int32} {sc cn tb lh k0 : Nat} {hq : Nat → Nat → Int32} {rs : Int32} (hI : Iv r sc cn tb) (hR : RelR sc R r) : AS tb (sq_X7_clearCurrents lh 0 rs R hq sc) (sp_X8_clearCurrents k0 rs r scr hh) lh hq R k0 hh r := by
  have g0 : Gd tb R r := ⟨sc, cn, hI, hR⟩
  unfold sq_X7_clearCurrents sp_X8_clearCurrents
  have e3 := hR.lo (show 3 < 69 by decide)
  have s5 := hI.1.2.2.2
  by_cases h : r 3 = 0
  · rw [if_pos (e3.trans h), if_pos h]; exact AS.no g0
  rw [if_neg (fun z => h (e3.symm.trans z)), if_neg h]
  have hR1 := hR.up s5 (k0 := 3) (v := 0) (by decide)
  have hI1 : Iv (upd r 3 0) sc 0 tb := by
    refine hI.other ?_ (by omega) ?_ s5 ?_ (fun k a b => ?_) (fun k hk => absurd hk (by omega)) (fun s hs => ?_) (fun k a b => ?_) (Nat.le_refl _)
    · rw [upd_at]; exact nI_0.symm
    · rw [upd_no (by decide)]; exact hI.1.2.2.1
    · rw [upd_no (by decide), upd_no (by decide)]; exact hI.2.1
    · rw [upd_no (by omega)]
    · rw [upd_no (by omega), upd_no (by omega)]; exact hI.2.2.2.2.1 s hs
    · rw [upd_no (by omega)]
  obtain ⟨hR2, hI2⟩ := hR1.va hI1
  refine AS.yes e3 ?_ ⟨sc, 0, hI2, hR2⟩
  rw [hI.1.1, nI_toInt (by have := hI.1.2.1; omega)]
  omega
theorem as_setTolerance {r R hh scr : Nat → Int32} {sc cn tb lh k0 : Nat} {hq : Nat → Nat → Int32} {rs x : Int32} (hI : Iv r sc cn tb) (hR : RelR sc R r) : AS tb (sq_X7_setTolerance lh 0 rs R hq x) (sp_X8_setTolerance k0 rs r scr hh x) lh hq R k0 hh r := by
  have g0 : Gd tb R r := ⟨sc, cn, hI, hR⟩
  unfold sq_X7_setTolerance sp_X8_setTolerance
  have s5 := hI.1.2.2.2
  by_cases h : inI x 0 500 = 0
  · rw [if_pos h, if_pos h]; exact AS.no g0
  rw [if_neg h, if_neg h]
  have hR1 := hR.up s5 (k0 := 1) (v := x) (by decide)
  have hI1 : Iv (upd r 1 x) sc cn tb := by
    refine hI.other ?_ hI.1.2.1 ?_ s5 ?_ (fun k a b => ?_) (fun k hk => ?_) (fun s hs => ?_) (fun k a b => ?_) (Nat.le_refl _)
    · rw [upd_no (by decide)]; exact hI.1.1
    · rw [upd_no (by decide)]; exact hI.1.2.2.1
    · rw [upd_no (by decide), upd_at]; exact ⟨hI.2.1.1, hI.2.1.2.1, inI_1 h⟩
    · rw [upd_no (by omega)]
    · exact Cg_cong (fun q hq => upd_no (by omega)) (hI.2.2.2.1 k hk)
    · rw [upd_no (by omega), upd_no (by omega)]; exact hI.2.2.2.2.1 s hs
    · rw [upd_no (by omega)]
  exact AS.yes (hR.lo (by decide)) hI.2.1.2.2.1 ⟨sc, cn, hI1, hR1⟩
theorem sP_no {r : Nat → Int32} {s k : Nat} {x y : Int32} (h1 : ¬ (69 + 3 * s ≤ k ∧ k < 69 + 3 * s + 3)) (h2 : k ≠ 204 + s) (h3 : ¬ (84 + 24 * s ≤ k ∧ k < 84 + 24 * s + 24 ∧ (k - 84) % 6 = 0)) : sPut r s x y k = r k := by
  unfold sPut
  rw [if_neg (by omega), if_neg (by omega), if_neg (by omega), if_neg h2, if_neg h3]
theorem as_addStation {r R hh scr : Nat → Int32} {sc cn tb lh k0 : Nat} {hq : Nat → Nat → Int32} {rs x y : Int32} (hI : Iv r sc cn tb) (hR : RelR sc R r) : AS tb (sq_X7_addStation lh 0 rs R hq x y sc) (sp_X8_addStation k0 rs r scr hh x y sc) lh hq R k0 hh r := by
  have g0 : Gd tb R r := ⟨sc, cn, hI, hR⟩
  unfold sq_X7_addStation sp_X8_addStation
  by_cases h1 : inI x 1 800 = 0
  · rw [if_pos h1, if_pos h1]; exact AS.no g0
  rw [if_neg h1, if_neg h1]
  by_cases h2 : inI y 0 7999 = 0
  · rw [if_pos h2, if_pos h2]; exact AS.no g0
  rw [if_neg h2, if_neg h2]
  have e4 := hR.lo (show 4 < 69 by decide)
  have r4 := hI.1.2.2.1
  have s5 := hI.1.2.2.2
  by_cases hc : sc = 5
  · subst hc
    rw [if_neg (fun z => by rw [e4, r4] at z; exact absurd z (by decide +kernel)), if_pos (show r 4 = 5 from r4)]; exact AS.no g0
  have hc : sc < 5 := by omega
  rw [if_pos (by rw [e4, r4]; exact nI_lt hc (by decide)), if_neg (fun z => by rw [r4] at z; exact Nat.ne_of_lt hc ((nI_eq (by omega) (by decide)).mp z))]
  have u4 : (upd (upd (upd r (69 + 3 * sc) x) (69 + 3 * sc + 1) y) (69 + 3 * sc + 2) (-100005)) 4 = nI sc := by
    rw [upd_no (by omega), upd_no (by omega), upd_no (by omega)]; exact r4
  have v4 : sPut R sc x y 4 = nI sc := by
    rw [sP_no (by omega) (by omega) (by omega)]; exact e4.trans r4
  rw [u4, v4, nI_1]
  have hnn : 0 ≤ (nI sc).toInt := by rw [nI_toInt (by omega)]; omega
  refine AS.yes rfl hnn ⟨sc + 1, cn, ?_, ?_⟩
  · refine hI.other ?_ hI.1.2.1 ?_ (by omega) ?_ (fun k a b => ?_) (fun k hk => ?_) (fun s hs => ?_) (fun k a b => ?_) (by omega)
    · rw [upd_no (by decide), upd_no (by omega), upd_no (by omega), upd_no (by omega)]; exact hI.1.1
    · rw [upd_at]
    · rw [upd_no (by decide), upd_no (by omega), upd_no (by omega), upd_no (by omega), upd_no (by decide), upd_no (by omega), upd_no (by omega), upd_no (by omega)]; exact hI.2.1
    · rw [upd_no (by omega), upd_no (by omega), upd_no (by omega), upd_no (by omega)]
    · refine Cg_cong (fun q hq => ?_) (hI.2.2.2.1 k hk)
      have := hI.1.2.1
      rw [upd_no (by omega), upd_no (by omega), upd_no (by omega), upd_no (by omega)]
    · by_cases e : s = sc
      · subst e
        rw [upd_no (by omega), upd_no (by omega), upd_no (by omega), upd_at, upd_no (by omega), upd_no (by omega), upd_at]
        exact ⟨inI_1 h1, inI_1 h2⟩
      · rw [upd_no (by omega), upd_no (by omega), upd_no (by omega), upd_no (by omega), upd_no (by omega), upd_no (by omega), upd_no (by omega), upd_no (by omega)]
        exact hI.2.2.2.2.1 s (by omega)
    · rw [upd_no (by omega), upd_no (by omega), upd_no (by omega), upd_no (by omega)]
  · refine ⟨fun k hk hn => ?_, fun s hs => ?_, fun s hs => ?_⟩
    · by_cases k4 : k = 4
      · subst k4; rw [upd_at, upd_at]
      rw [upd_no k4, upd_no k4]
      have n2 := hn sc hc
      rw [upd_no n2]
      by_cases k1 : k = 69 + 3 * sc + 1
      · subst k1; rw [upd_at]; unfold sPut; rw [if_neg (by omega), if_pos rfl]
      rw [upd_no k1]
      by_cases k0 : k = 69 + 3 * sc
      · subst k0; rw [upd_at]; unfold sPut; rw [if_pos rfl]
      rw [upd_no k0]
      by_cases ks : 84 + 24 * sc ≤ k ∧ k < 84 + 24 * sc + 24 ∧ (k - 84) % 6 = 0
      · have e : sPut R sc x y k = 0 := by
          unfold sPut
          rw [if_neg (by omega), if_neg (by omega), if_neg (by omega), if_neg (by omega), if_pos ks]
        rw [e]
        have ew : k = 84 + 6 * (4 * sc + (k - 84 - 24 * sc) / 6) + 0 := by omega
        rw [ew]
        exact ((hI.2.2.2.2.2 sc ((k - 84 - 24 * sc) / 6) hc (by omega)).2.1 (Nat.le_refl _)).symm
      · rw [sP_no (by omega) (by omega) ks]
        exact hR.1 k hk hn
    · rw [upd_no (by omega)]
      by_cases e : s = sc
      · subst e
        have e : sPut R s x y (204 + s) = 0 := by
          unfold sPut
          rw [if_neg (by omega), if_neg (by omega), if_neg (by omega), if_pos rfl]
        rw [e]; exact Or.inl rfl
      · rw [sP_no (by omega) (by omega) (by omega)]; exact hR.2.1 s hs
    · rw [upd_no (by omega), upd_no (by omega), upd_no (by omega)]
      by_cases e : s = sc
      · subst e
        refine Or.inr ⟨?_, upd_at _ _ _⟩
        unfold sPut
        rw [if_neg (by omega), if_neg (by omega), if_neg (by omega), if_pos rfl]
      · rw [sP_no (by omega) (by omega) (by omega), sP_no (by omega) (by omega) (by omega), upd_no (by omega), upd_no (by omega), upd_no (by omega)]
        exact hR.2.2 s (by omega)
