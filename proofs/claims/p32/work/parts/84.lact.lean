/-! The law's acts: what they answer, the rows behind. -/
section LB
variable {v n2 k2 : Int32} {N K : Int}
theorem lw_c (hn : n2.toInt = N) (hk : k2.toInt = K) (h1 : 0 < N) (h2 : N ≤ 100000) (h3 : 0 ≤ K) (h4 : K ≤ 100000) : Bt (lwI v n2 - k2) (-K) (N - 1 - K) := by
  obtain ⟨a, b⟩ := lw_b (v := v) (n := n2) (by omega)
  have e : (lwI v n2 - k2).toInt = (lwI v n2).toInt - K := by rw [fb_subI (by omega) (by omega), hk]
  unfold Bt
  rw [e]
  omega
theorem lw_p (hn : n2.toInt = N) (hk : k2.toInt = K) (h1 : 0 < N) (h2 : N ≤ 100000) (h3 : 0 ≤ K) (h4 : K ≤ 100000) : Bt (k2 + lwI v n2) K (K + N - 1) := by
  obtain ⟨a, b⟩ := lw_b (v := v) (n := n2) (by omega)
  have e : (k2 + lwI v n2).toInt = K + (lwI v n2).toInt := by rw [fb_addI (by omega) (by omega), hk]
  unfold Bt
  rw [e]
  omega
theorem lw_0 (hn : n2.toInt = N) (h1 : 0 < N) : Bt (lwI v n2) 0 (N - 1) := by
  obtain ⟨a, b⟩ := lw_b (v := v) (n := n2) (by omega)
  exact ⟨a, by omega⟩
/-- one more than a remainder, as a number -/
theorem lw_t {m : Nat} (h0 : 0 < m) (h : m ≤ 1000) : ∃ k : Nat, 1 ≤ k ∧ k ≤ m ∧ 1 + lwI v (nI m) = nI k := by
  obtain ⟨j, hj, e⟩ := lw_n (v := v) (N := m) h0 (by omega)
  refine ⟨j + 1, by omega, by omega, ?_⟩
  rw [e, Int32.add_comm, nI_1]
end LB
section LA
variable {R : Nat → Int32} {sc cn tb : Nat} {w : Nat} {lh : Nat} {rs : Int32} {hq : Nat → Nat → Int32}
theorem wv_lo {f : Nat → Int32} {k : Nat} (h : k < 84) : vdR (wPut R w f) w sc k = wPut R w f k := vdR_lo _ _ _ h
theorem wv_w {f : Nat → Int32} (hw : w < 4) {q : Nat} (hq : q < 11) : vdR (wPut R w f) w sc (5 + 11 * w + q) = f q := by rw [wv_lo (by omega), wPut_in hq]
theorem wv_n {f : Nat → Int32} {k : Nat} (h : k < 84) (h2 : k < 5 + 11 * w ∨ 5 + 11 * w + 11 ≤ k) : vdR (wPut R w f) w sc k = R k := by rw [wv_lo h, wPut_no h2]
theorem Jv.wv {r' f : Nat → Int32} (J : Jv R sc cn tb) (hw : w < 4) (hG : Gd tb (vdR (wPut R w f) w sc) r') : Jv (vdR (wPut R w f) w sc) sc cn tb := by
  have s5 := J.s5
  refine Jv.of hG (by rw [wv_n (by omega) (by omega), J.c3]) (by rw [wv_n (by omega) (by omega), J.s4]) J.c5 s5 ⟨fun s v hs hv h => ?_, fun s hs h => ?_⟩
  · have nv : v ≠ w := fun q => by
      subst q
      have z : vdR (wPut R v f) v sc (84 + 6 * (4 * s + v) + 0) = 0 := if_pos ⟨by omega, by omega, by omega⟩
      rw [z] at h
      exact absurd h (by decide)
    have e2 : ∀ q : Nat, q < 6 → vdR (wPut R w f) w sc (84 + 6 * (4 * s + v) + q) = R (84 + 6 * (4 * s + v) + q) := fun q hq => (if_neg (fun z => by omega)).trans (wPut_no (by omega))
    rw [e2 0 (by decide)] at h
    rw [e2 3 (by decide), e2 4 (by decide), e2 5 (by decide), wv_n (by omega) (by omega), wv_n (by omega) (by omega)]
    exact J.v hs hv h
  · have e3 : ∀ k : Nat, 204 ≤ k → vdR (wPut R w f) w sc k = R k := fun k hk => (if_neg (fun z => by omega)).trans (wPut_no (by omega))
    rw [e3 _ (by omega)] at h
    rw [wv_n (by omega) (by omega)]
    exact J.o hs h
-- hang
def hgR (R : Nat → Int32) (w : Nat) (x y ma de : Int32) (sc : Nat) : Nat → Int32 := vdR (wPut R w (l11 1 x y ma de 0 0 0 0 0 0)) w sc
theorem hg_ok {x y ma de : Int32} (hw : w < 4) (hx : Bt x (-5000) 5000) (hy : Bt y (-5000) 5000) (hm : Bt ma 1 200) (hd : Bt de 10 800) : sq_X7_hang lh 0 rs R hq (nI w) x y ma de sc = (ctI (fun v => R (5 + 11 * v)) 4 + (if R (5 + 11 * w + 0) = 0 then 1 else 0), rs, hgR R w x y ma de sc, rmL 0 lh, rmQ 0 lh hq R) := by
  unfold sq_X7_hang
  rw [wN_nI (by omega), if_neg (in3 hw), if_neg (inB (lo := -5000) (hi := 5000) hx.1 hx.2), if_neg (inB (lo := -5000) (hi := 5000) hy.1 hy.2), if_neg (inB (lo := 1) (hi := 200) hm.1 hm.2), if_neg (inB (lo := 10) (hi := 800) hd.1 hd.2)]
  have e : ctI (fun v => hgR R w x y ma de sc (5 + 11 * v)) 4 = ctI (fun v => R (5 + 11 * v)) 4 + (if R (5 + 11 * w + 0) = 0 then 1 else 0) := by
    refine ct_one (f := fun v => R (5 + 11 * v)) (w := w) ?_ 4 hw (fun v hv hn => ?_)
    · have z : hgR R w x y ma de sc (5 + 11 * w + 0) = 1 := wv_w hw (by decide)
      show ¬ hgR R w x y ma de sc (5 + 11 * w + 0) = 0
      rw [z]; decide
    · exact wv_n (by omega) (by omega)
  rw [← e]
  rfl
theorem Jv.hang {x y ma de : Int32} (J : Jv R sc cn tb) (hw : w < 4) (hx : Bt x (-5000) 5000) (hy : Bt y (-5000) 5000) (hm : Bt ma 1 200) (hd : Bt de 10 800) : Jv (hgR R w x y ma de sc) sc cn tb := by
  obtain ⟨⟨r, hI, hR⟩, _⟩ := id J
  have d := (as_hang (lh := 0) (hq := fun _ _ => 0) (k0 := 0) (rs := 0) (hh := fun _ => 0) (scr := fun _ => 0) (w := nI w) (x := x) (y := y) (ma := ma) (de := de) hI hR).2.2.1
  rw [hg_ok hw hx hy hm hd] at d
  exact J.wv hw d
-- lift
def lfR (R : Nat → Int32) (w sc : Nat) : Nat → Int32 := vdR (wPut R w (l11 0 (R (5 + 11 * w + 1)) (R (5 + 11 * w + 2)) (R (5 + 11 * w + 3)) (R (5 + 11 * w + 4)) (R (5 + 11 * w + 5)) (R (5 + 11 * w + 6)) (R (5 + 11 * w + 7)) (R (5 + 11 * w + 8)) (R (5 + 11 * w + 9)) (R (5 + 11 * w + 10)))) w sc
theorem lf_n (hw : w < 4) (h : R (5 + 11 * w + 0) = 0) : sq_X7_lift lh 0 rs R hq (nI w) sc = (-100003, 1, R, lh, hq) := by
  unfold sq_X7_lift
  rw [wN_nI (by omega), if_neg (in3 hw), if_pos h]
theorem lf_ok (hw : w < 4) (h : R (5 + 11 * w + 0) = 1) : sq_X7_lift lh 0 rs R hq (nI w) sc = (ctI (fun v => R (5 + 11 * v)) 4 - 1, rs, lfR R w sc, rmL 0 lh, rmQ 0 lh hq R) := by
  have z : lfR R w sc (5 + 11 * w + 0) = 0 := wv_w hw (by decide)
  have e : ctI (fun v => R (5 + 11 * v)) 4 = ctI (fun v => lfR R w sc (5 + 11 * v)) 4 + (if lfR R w sc (5 + 11 * w) = 0 then 1 else 0) := by
    refine ct_one (f := fun v => lfR R w sc (5 + 11 * v)) (f' := fun v => R (5 + 11 * v)) (w := w) ?_ 4 hw (fun v hv hn => (wv_n (by omega) (by omega)).symm)
    show ¬ R (5 + 11 * w + 0) = 0
    rw [h]; decide
  have z' : lfR R w sc (5 + 11 * w) = 0 := z
  rw [if_pos z'] at e
  have e2 := i_sub e.symm
  unfold sq_X7_lift
  rw [wN_nI (by omega), if_neg (in3 hw), if_neg (by rw [h]; decide), ← e2]
  rfl
theorem Jv.lift (J : Jv R sc cn tb) (hw : w < 4) (h : R (5 + 11 * w + 0) = 1) : Jv (lfR R w sc) sc cn tb := by
  obtain ⟨⟨r, hI, hR⟩, _⟩ := id J
  have d := (as_lift (lh := 0) (hq := fun _ _ => 0) (k0 := 0) (rs := 0) (hh := fun _ => 0) (scr := fun _ => 0) (w := nI w) hI hR).2.2.1
  rw [lf_ok hw h] at d
  exact J.wv hw d
-- push
def puR (R : Nat → Int32) (w : Nat) (x y : Int32) (sc : Nat) : Nat → Int32 := vdR (wPut R w (l11 (R (5 + 11 * w + 0)) (R (5 + 11 * w + 1)) (R (5 + 11 * w + 2)) (R (5 + 11 * w + 3)) (R (5 + 11 * w + 4)) (R (5 + 11 * w + 5)) (R (5 + 11 * w + 6)) (R (5 + 11 * w + 7)) x y 0)) w sc
theorem pu_n {x y : Int32} (hw : w < 4) (hx : Bt x 0 7) (hy : Bt y 1 500) (h : R (5 + 11 * w + 0) = 0) : sq_X7_push lh 0 rs R hq (nI w) x y sc = (-100003, 1, R, lh, hq) := by
  unfold sq_X7_push
  rw [wN_nI (by omega), if_neg (in3 hw), if_neg (inB (lo := 0) (hi := 7) hx.1 hx.2), if_neg (inB (lo := 1) (hi := 500) hy.1 hy.2), if_pos h]
theorem pu_ok {x y : Int32} (hw : w < 4) (hx : Bt x 0 7) (hy : Bt y 1 500) (h : R (5 + 11 * w + 0) = 1) : sq_X7_push lh 0 rs R hq (nI w) x y sc = (4 * qdI (R (5 + 11 * w + 4)), rs, puR R w x y sc, rmL 0 lh, rmQ 0 lh hq R) := by
  have e : puR R w x y sc (5 + 11 * w + 4) = R (5 + 11 * w + 4) := wv_w hw (by decide)
  unfold sq_X7_push
  rw [wN_nI (by omega), if_neg (in3 hw), if_neg (inB (lo := 0) (hi := 7) hx.1 hx.2), if_neg (inB (lo := 1) (hi := 500) hy.1 hy.2), if_neg (by rw [h]; decide)]
  exact congrArg (fun z : Int32 => (4 * qdI z, rs, puR R w x y sc, rmL 0 lh, rmQ 0 lh hq R)) e
theorem Jv.push {x y : Int32} (J : Jv R sc cn tb) (hw : w < 4) (hx : Bt x 0 7) (hy : Bt y 1 500) (h : R (5 + 11 * w + 0) = 1) : Jv (puR R w x y sc) sc cn tb := by
  obtain ⟨⟨r, hI, hR⟩, _⟩ := id J
  have d := (ds_push (lh := 0) (hq := fun _ _ => 0) (ru := 0) (rs := 0) (w := nI w) (x := x) (y := y) hI hR).2.2.1
  rw [pu_ok hw hx hy h] at d
  exact J.wv hw d
-- bucket, clamp
def bkR (R : Nat → Int32) (w : Nat) (x : Int32) (sc : Nat) : Nat → Int32 := if R (5 + 11 * w + 7) = x then R else vdR (wPut R w (l11 (R (5 + 11 * w + 0)) (R (5 + 11 * w + 1)) (R (5 + 11 * w + 2)) (R (5 + 11 * w + 3)) (R (5 + 11 * w + 4)) (R (5 + 11 * w + 5)) (R (5 + 11 * w + 6)) x (R (5 + 11 * w + 8)) (R (5 + 11 * w + 9)) (R (5 + 11 * w + 10)))) w sc
theorem bk_n {x : Int32} (hw : w < 4) (hx : Bt x 0 2) (h : R (5 + 11 * w + 0) = 0) : sq_X7_setBucket lh 0 rs R hq (nI w) x sc = (-100003, 1, R, lh, hq) := by
  unfold sq_X7_setBucket
  rw [wN_nI (by omega), if_neg (in3 hw), if_neg (inB (lo := 0) (hi := 2) hx.1 hx.2), if_pos h]
theorem bk_ok {x : Int32} (hw : w < 4) (hx : Bt x 0 2) (h : R (5 + 11 * w + 0) = 1) : sq_X7_setBucket lh 0 rs R hq (nI w) x sc = (R (5 + 11 * w + 7), rs, bkR R w x sc, rmL 0 lh, rmQ 0 lh hq R) := by
  unfold sq_X7_setBucket bkR
  rw [wN_nI (by omega), if_neg (in3 hw), if_neg (inB (lo := 0) (hi := 2) hx.1 hx.2), if_neg (by rw [h]; decide)]
  split <;> rfl
theorem Jv.bucket {x : Int32} (J : Jv R sc cn tb) (hw : w < 4) (hx : Bt x 0 2) (h : R (5 + 11 * w + 0) = 1) : Jv (bkR R w x sc) sc cn tb := by
  obtain ⟨⟨r, hI, hR⟩, _⟩ := id J
  have d := (as_setBucket (lh := 0) (hq := fun _ _ => 0) (k0 := 0) (rs := 0) (hh := fun _ => 0) (scr := fun _ => 0) (w := nI w) (x := x) hI hR).2.2.1
  rw [bk_ok hw hx h] at d
  unfold bkR at d ⊢
  split
  · exact J
  · rename_i z
    rw [if_neg z] at d
    exact J.wv hw d
def clR (R : Nat → Int32) (w : Nat) (x y : Int32) (sc : Nat) : Nat → Int32 := if R (5 + 11 * w + 5) = x ∧ R (5 + 11 * w + 6) = y then R else vdR (wPut R w (l11 (R (5 + 11 * w + 0)) (R (5 + 11 * w + 1)) (R (5 + 11 * w + 2)) (R (5 + 11 * w + 3)) (R (5 + 11 * w + 4)) x y (R (5 + 11 * w + 7)) (R (5 + 11 * w + 8)) (R (5 + 11 * w + 9)) (R (5 + 11 * w + 10)))) w sc
theorem cl_n {x y : Int32} (hw : w < 4) (hx : Bt x (-20) 20) (hy : Bt y (-20) 20) (h : R (5 + 11 * w + 0) = 0) : sq_X7_setClamp lh 0 rs R hq (nI w) x y sc = (-100003, 1, R, lh, hq) := by
  unfold sq_X7_setClamp
  rw [wN_nI (by omega), if_neg (in3 hw), if_neg (inB (lo := -20) (hi := 20) hx.1 hx.2), if_neg (inB (lo := -20) (hi := 20) hy.1 hy.2), if_pos h]
theorem cl_ok {x y : Int32} (hw : w < 4) (hx : Bt x (-20) 20) (hy : Bt y (-20) 20) (h : R (5 + 11 * w + 0) = 1) : sq_X7_setClamp lh 0 rs R hq (nI w) x y sc = (szI x + szI y, rs, clR R w x y sc, rmL 0 lh, rmQ 0 lh hq R) := by
  unfold sq_X7_setClamp clR
  rw [wN_nI (by omega), if_neg (in3 hw), if_neg (inB (lo := -20) (hi := 20) hx.1 hx.2), if_neg (inB (lo := -20) (hi := 20) hy.1 hy.2), if_neg (by rw [h]; decide), abs_sz, abs_sz]
  by_cases a : R (5 + 11 * w + 5) = x
  · by_cases b : R (5 + 11 * w + 6) = y
    · rw [if_pos a, if_pos b, if_pos ⟨a, b⟩]
    · rw [if_pos a, if_neg b, if_neg (fun z => b z.2)]
  · rw [if_neg a, if_neg (fun z => a z.1)]
theorem Jv.clamp {x y : Int32} (J : Jv R sc cn tb) (hw : w < 4) (hx : Bt x (-20) 20) (hy : Bt y (-20) 20) (h : R (5 + 11 * w + 0) = 1) : Jv (clR R w x y sc) sc cn tb := by
  obtain ⟨⟨r, hI, hR⟩, _⟩ := id J
  have d := (as_setClamp (lh := 0) (hq := fun _ _ => 0) (k0 := 0) (rs := 0) (hh := fun _ => 0) (scr := fun _ => 0) (w := nI w) (x := x) (y := y) hI hR).2.2.1
  rw [cl_ok hw hx hy h] at d
  unfold clR at d ⊢
  split
  · exact J
  · rename_i z
    rw [if_neg z] at d
    exact J.wv hw d
-- currents
theorem va_z (r : Nat → Int32) (sc : Nat) {s v : Nat} (hs : s < sc) : ∀ w : Nat, w ≤ 4 → v < w → vaR r sc w (84 + 6 * (4 * s + v)) = 0
  | 0, _, h => absurd h (by omega)
  | w + 1, hw, h => by
    have e : vaR r sc (w + 1) = vdR (vaR r sc w) w sc := rfl
    rw [e]
    by_cases q : v = w
    · subst q; exact if_pos ⟨by omega, by omega, by omega⟩
    · exact (if_neg (fun z => by omega)).trans (va_z r sc hs w (by omega) (by omega))
theorem va_n (r : Nat → Int32) (sc : Nat) (h5 : sc ≤ 5) {k : Nat} (hk : 204 ≤ k) : ∀ w : Nat, vaR r sc w k = r k
  | 0 => rfl
  | w + 1 => by
    have e : vaR r sc (w + 1) = vdR (vaR r sc w) w sc := rfl
    rw [e]
    exact (if_neg (fun z => by omega)).trans (va_n r sc h5 hk w)
theorem ct_0 {f : Nat → Int32} : ∀ m : Nat, (∀ k : Nat, k < m → f k = 0) → ctI f m = 0
  | 0, _ => rfl
  | m + 1, h => by rw [ctI_pos (h m (by omega)), ct_0 m (fun k hk => h k (by omega))]
theorem vs_0 {r : Nat → Int32} : ∀ m : Nat, (∀ s v : Nat, s < m → v < 4 → r (84 + 6 * (4 * s + v)) = 0) → vsI r m = 0
  | 0, _ => rfl
  | m + 1, h => by
    rw [vs_s, vs_0 m (fun s v hs hv => h s v (by omega) hv), ct_0 4 (fun k hk => h m k (by omega) hk)]
    rfl
theorem va_v (r : Nat → Int32) (sc : Nat) : vsI (vaR r sc 4) sc = 0 := vs_0 sc (fun s v hs hv => va_z r sc hs 4 (Nat.le_refl _) hv)
theorem Jv.va {X r' : Nat → Int32} (J : Jv R sc cn tb) {cn' : Nat} (hG : Gd tb (vaR X sc 4) r') (h3 : X 3 = nI cn') (hc : cn' ≤ 5) (hX : ∀ k : Nat, k ≠ 3 → (k < 49 ∨ 69 ≤ k) → X k = R k) : Jv (vaR X sc 4) sc cn' tb := by
  have s5 := J.s5
  refine Jv.of hG (by rw [vaR_lo _ _ (by decide), h3]) (by rw [vaR_lo _ _ (by decide), hX 4 (by decide) (by decide), J.s4]) hc s5 ⟨fun s v hs hv h => ?_, fun s hs h => ?_⟩
  · have z : vaR X sc 4 (84 + 6 * (4 * s + v) + 0) = 0 := va_z X sc hs 4 (Nat.le_refl _) hv
    rw [z] at h
    exact absurd h (by decide)
  · rw [va_n X sc s5 (by omega), hX _ (by omega) (by omega)] at h
    rw [vaR_lo _ _ (by omega), hX _ (by omega) (by omega)]
    exact J.o hs h
theorem cc_n (J : Jv R sc cn tb) (h : cn = 0) : sq_X7_clearCurrents lh 0 rs R hq sc = (-100005, rs, R, lh, hq) := by
  unfold sq_X7_clearCurrents
  rw [J.c3, h, if_pos nI_0]
def ccR (R : Nat → Int32) (sc : Nat) : Nat → Int32 := vaR (upd R 3 0) sc 4
theorem cc_ok (J : Jv R sc cn tb) (h : ¬ cn = 0) : sq_X7_clearCurrents lh 0 rs R hq sc = (nI cn, rs, ccR R sc, rmL 0 lh, rmQ 0 lh hq R) := by
  have c5 := J.c5
  unfold sq_X7_clearCurrents
  rw [J.c3, if_neg (nI_ne0 (by omega) (by omega))]
  rfl
theorem Jv.clear (J : Jv R sc cn tb) (h : ¬ cn = 0) : Jv (ccR R sc) sc 0 tb := by
  obtain ⟨⟨r, hI, hR⟩, _⟩ := id J
  have d := (as_clearCurrents (lh := 0) (hq := fun _ _ => 0) (k0 := 0) (rs := 0) (hh := fun _ => 0) (scr := fun _ => 0) hI hR).2.2.1
  rw [cc_ok J h] at d
  exact J.va (cn' := 0) d (by rw [upd_at, nI_0]) (by decide) (fun k h1 _ => upd_no h1)
def acR (R : Nat → Int32) (cn : Nat) (x y fx fy : Int32) (sc : Nat) : Nat → Int32 := vaR (cPut (upd R 3 (R 3 + 1)) cn (l4 x y fx fy)) sc 4
theorem ac_in {x y fx fy : Int32} (hx : Bt x 0 699) (hy : x.toInt + 1 ≤ y.toInt) (hy2 : y.toInt ≤ 800) (h1 : Bt fx (-50) 50) (h2 : Bt fy (-50) 50) {A B : ClT} : (if inI x 0 799 = 0 then A else if inI y (x + 1) 800 = 0 then A else if inI fx (-50) 50 = 0 then A else if inI fy (-50) 50 = 0 then A else B) = B := by
  have e := i_x1 (x := x) ⟨hx.1, by have := hx.2; omega⟩
  rw [if_neg (inB (lo := 0) (hi := 799) hx.1 (by have := hx.2; show _ ≤ (799 : Int); omega)), if_neg (inB (hi := 800) (by rw [e]; exact hy) hy2), if_neg (inB (lo := -50) (hi := 50) h1.1 h1.2), if_neg (inB (lo := -50) (hi := 50) h2.1 h2.2)]
theorem ac_f {x y fx fy : Int32} (J : Jv R sc cn tb) (h : cn = 5) (hx : Bt x 0 699) (hy : x.toInt + 1 ≤ y.toInt) (hy2 : y.toInt ≤ 800) (h1 : Bt fx (-50) 50) (h2 : Bt fy (-50) 50) : sq_X7_addCurrent lh 0 rs R hq x y fx fy sc cn = (-100004, rs, R, lh, hq) := by
  unfold sq_X7_addCurrent
  rw [ac_in hx hy hy2 h1 h2, J.c3, h, if_neg (by decide)]
theorem ac_ok {x y fx fy : Int32} (J : Jv R sc cn tb) (h : ¬ cn = 5) (hx : Bt x 0 699) (hy : x.toInt + 1 ≤ y.toInt) (hy2 : y.toInt ≤ 800) (h1 : Bt fx (-50) 50) (h2 : Bt fy (-50) 50) : sq_X7_addCurrent lh 0 rs R hq x y fx fy sc cn = (nI cn + 1, rs, acR R cn x y fx fy sc, rmL 0 lh, rmQ 0 lh hq R) := by
  have c5 := J.c5
  have e : acR R cn x y fx fy sc 3 = nI cn + 1 := by
    unfold acR
    rw [vaR_lo _ _ (by decide), cPut_3, upd_at, J.c3]
  rw [← e]
  unfold sq_X7_addCurrent
  rw [ac_in hx hy hy2 h1 h2, if_pos (by rw [J.c3]; exact nI_lt (b := 5) (by omega) (by omega))]
  rfl
theorem Jv.add {x y fx fy : Int32} (J : Jv R sc cn tb) (h : ¬ cn = 5) (hx : Bt x 0 699) (hy : x.toInt + 1 ≤ y.toInt) (hy2 : y.toInt ≤ 800) (h1 : Bt fx (-50) 50) (h2 : Bt fy (-50) 50) : Jv (acR R cn x y fx fy sc) sc (cn + 1) tb := by
  have c5 := J.c5
  obtain ⟨⟨r, hI, hR⟩, _⟩ := id J
  have d := (as_addCurrent (lh := 0) (hq := fun _ _ => 0) (k0 := 0) (rs := 0) (hh := fun _ => 0) (scr := fun _ => 0) (x := x) (y := y) (fx := fx) (fy := fy) hI hR).2.2.1
  rw [ac_ok J h hx hy hy2 h1 h2] at d
  exact J.va (cn' := cn + 1) d (by rw [cPut_3, upd_at, J.c3, nI_1]) (by omega) (fun k h1 h2 => by rw [cP_no (by omega), upd_no h1])
-- stations, tolerance
def asR (R : Nat → Int32) (sc : Nat) (x y : Int32) : Nat → Int32 := upd (sPut R sc x y) 4 (sPut R sc x y 4 + 1)
theorem as_f {x y : Int32} (J : Jv R sc cn tb) (h : sc = 5) (hx : Bt x 1 800) (hy : Bt y 0 7999) : sq_X7_addStation lh 0 rs R hq x y sc = (-100004, rs, R, lh, hq) := by
  unfold sq_X7_addStation
  rw [if_neg (inB (lo := 1) (hi := 800) hx.1 hx.2), if_neg (inB (lo := 0) (hi := 7999) hy.1 hy.2), J.s4, h, if_neg (by decide)]
theorem as_ok {x y : Int32} (J : Jv R sc cn tb) (h : ¬ sc = 5) (hx : Bt x 1 800) (hy : Bt y 0 7999) : sq_X7_addStation lh 0 rs R hq x y sc = (nI sc, rs, asR R sc x y, rmL 0 lh, rmQ 0 lh hq R) := by
  have s5 := J.s5
  unfold sq_X7_addStation
  rw [if_neg (inB (lo := 1) (hi := 800) hx.1 hx.2), if_neg (inB (lo := 0) (hi := 7999) hy.1 hy.2), if_pos (by rw [J.s4]; exact nI_lt (b := 5) (by omega) (by omega))]
  rfl
theorem sP_4 {x y : Int32} (hs : sc < 5) : sPut R sc x y 4 = R 4 := sP_no (by omega) (by omega) (by omega)
theorem Jv.addS {x y : Int32} (J : Jv R sc cn tb) (h : ¬ sc = 5) (hx : Bt x 1 800) (hy : Bt y 0 7999) : Jv (asR R sc x y) (sc + 1) cn tb := by
  have s5 := J.s5
  obtain ⟨⟨r, hI, hR⟩, _⟩ := id J
  have d := (as_addStation (lh := 0) (hq := fun _ _ => 0) (k0 := 0) (rs := 0) (hh := fun _ => 0) (scr := fun _ => 0) (x := x) (y := y) hI hR).2.2.1
  rw [as_ok J h hx hy] at d
  have n4 : ∀ k : Nat, k ≠ 4 → asR R sc x y k = sPut R sc x y k := fun k hk => upd_no hk
  refine Jv.of d (by rw [n4 3 (by decide), sP_no (by omega) (by omega) (by omega), J.c3]) ?_ J.c5 (by omega) ⟨fun s v hs hv h => ?_, fun s hs h => ?_⟩
  · show upd (sPut R sc x y) 4 (sPut R sc x y 4 + 1) 4 = _
    rw [upd_at, sP_4 (by omega), J.s4, nI_1]
  · rw [n4 _ (by omega)] at h
    have ns : s ≠ sc := fun q => by
      subst q
      have z : sPut R s x y (84 + 6 * (4 * s + v) + 0) = 0 := by
        unfold sPut
        rw [if_neg (by omega), if_neg (by omega), if_neg (by omega), if_neg (by omega), if_pos ⟨by omega, by omega, by omega⟩]
      rw [z] at h
      exact absurd h (by decide)
    rw [sP_no (by omega) (by omega) (by omega)] at h
    rw [n4 _ (by omega), n4 _ (by omega), n4 _ (by omega), n4 _ (by omega), n4 _ (by omega), sP_no (by omega) (by omega) (by omega), sP_no (by omega) (by omega) (by omega), sP_no (by omega) (by omega) (by omega), sP_no (by omega) (by omega) (by omega), sP_no (by omega) (by omega) (by omega)]
    exact J.v (by omega) hv h
  · rw [n4 _ (by omega)] at h
    have ns : s ≠ sc := fun q => by
      subst q
      have z : sPut R s x y (204 + s) = 0 := by
        unfold sPut
        rw [if_neg (by omega), if_neg (by omega), if_neg (by omega), if_pos rfl]
      rw [z] at h
      exact absurd h (by decide)
    rw [sP_no (by omega) (by omega) (by omega)] at h
    rw [n4 _ (by omega), sP_no (by omega) (by omega) (by omega)]
    exact J.o (by omega) h
theorem to_ok {x : Int32} (hx : Bt x 0 500) : sq_X7_setTolerance lh 0 rs R hq x = (R 1, rs, upd R 1 x, rmL 0 lh, rmQ 0 lh hq R) := by
  unfold sq_X7_setTolerance
  rw [if_neg (in5 hx)]
theorem Jv.tole {x : Int32} (J : Jv R sc cn tb) (hx : Bt x 0 500) : Jv (upd R 1 x) sc cn tb := by
  have s5 := J.s5
  obtain ⟨⟨r, hI, hR⟩, _⟩ := id J
  have d := (as_setTolerance (lh := 0) (hq := fun _ _ => 0) (k0 := 0) (rs := 0) (hh := fun _ => 0) (scr := fun _ => 0) (x := x) hI hR).2.2.1
  rw [to_ok hx] at d
  refine Jv.of d (by rw [upd_no (by decide), J.c3]) (by rw [upd_no (by decide), J.s4]) J.c5 s5 ⟨fun s v hs hv h => ?_, fun s hs h => ?_⟩
  · rw [upd_no (by omega)] at h
    rw [upd_no (by omega), upd_no (by omega), upd_no (by omega), upd_no (by omega), upd_no (by omega)]
    exact J.v hs hv h
  · rw [upd_no (by omega)] at h ⊢
    exact J.o hs h
end LA
