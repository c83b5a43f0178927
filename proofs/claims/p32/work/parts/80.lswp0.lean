/-! Swapping: the row, what becomes void. -/
section SQ
variable {R : Nat → Int32} {sc cn tb : Nat} {a b : Nat}
def swW (R : Nat → Int32) (a b : Nat) : Nat → Int32 := wPut (wPut R a (l11 (R (5 + 11 * a + 0)) (R (5 + 11 * b + 1)) (R (5 + 11 * b + 2)) (R (5 + 11 * a + 3)) (R (5 + 11 * a + 4)) (R (5 + 11 * a + 5)) (R (5 + 11 * a + 6)) (R (5 + 11 * a + 7)) (R (5 + 11 * a + 8)) 0 0)) b (l11 (R (5 + 11 * b + 0)) (R (5 + 11 * a + 1)) (R (5 + 11 * a + 2)) (R (5 + 11 * b + 3)) (R (5 + 11 * b + 4)) (R (5 + 11 * b + 5)) (R (5 + 11 * b + 6)) (R (5 + 11 * b + 7)) (R (5 + 11 * b + 8)) 0 0)
def swR (R : Nat → Int32) (a b sc : Nat) : Nat → Int32 := vdR (vdR (swW R a b) a sc) b sc
theorem sw_lo {k : Nat} (h : k < 84) : swR R a b sc k = swW R a b k := by
  unfold swR
  rw [vdR_lo _ _ _ h, vdR_lo _ _ _ h]
theorem sw_a (hab : a ≠ b) {q : Nat} (hq : q < 11) : swW R a b (5 + 11 * a + q) = l11 (R (5 + 11 * a + 0)) (R (5 + 11 * b + 1)) (R (5 + 11 * b + 2)) (R (5 + 11 * a + 3)) (R (5 + 11 * a + 4)) (R (5 + 11 * a + 5)) (R (5 + 11 * a + 6)) (R (5 + 11 * a + 7)) (R (5 + 11 * a + 8)) 0 0 q := by
  unfold swW
  rw [wPut_ne hab hq, wPut_in hq]
theorem sw_b {q : Nat} (hq : q < 11) : swW R a b (5 + 11 * b + q) = l11 (R (5 + 11 * b + 0)) (R (5 + 11 * a + 1)) (R (5 + 11 * a + 2)) (R (5 + 11 * b + 3)) (R (5 + 11 * b + 4)) (R (5 + 11 * b + 5)) (R (5 + 11 * b + 6)) (R (5 + 11 * b + 7)) (R (5 + 11 * b + 8)) 0 0 q := by
  unfold swW
  rw [wPut_in hq]
theorem sw_n {k : Nat} (ha : k < 5 + 11 * a ∨ 5 + 11 * a + 11 ≤ k) (hb : k < 5 + 11 * b ∨ 5 + 11 * b + 11 ≤ k) : swW R a b k = R k := by
  unfold swW
  rw [wPut_no hb, wPut_no ha]
theorem sw_0 (hab : a ≠ b) {w : Nat} : swW R a b (5 + 11 * w + 0) = R (5 + 11 * w + 0) := by
  by_cases q : w = a
  · subst q; exact (sw_a hab (by decide)).trans rfl
  · by_cases q2 : w = b
    · subst q2; exact (sw_b (by decide)).trans rfl
    · exact sw_n (by omega) (by omega)
/-- how many are valid of both wires at the first stations -/
def gnF (R : Nat → Int32) (a b : Nat) : Nat → Int32
  | 0 => 0
  | k + 1 => gnF R a b k + ((if R (84 + 6 * (4 * k + a) + 0) = 0 then 0 else 1) + (if R (84 + 6 * (4 * k + b) + 0) = 0 then 0 else 1))
theorem ct_s (f : Nat → Int32) (k : Nat) : ctI f (k + 1) = ctI f k + (if f k = 0 then 0 else 1) := by
  by_cases z : f k = 0
  · rw [ctI_pos z, if_pos z, Int32.add_zero]
  · rw [ctI_neg z, if_neg z]
theorem add4 (x y u v : Int32) : x + y + (u + v) = x + u + (y + v) := by
  rw [Int32.add_assoc, Int32.add_assoc, ← Int32.add_assoc y u v, Int32.add_comm y u, Int32.add_assoc u y v]
theorem gn_e (R : Nat → Int32) (a b : Nat) : ∀ k : Nat, gnF R a b k = ctI (fun v => R (84 + 6 * (4 * v + a))) k + ctI (fun v => R (84 + 6 * (4 * v + b))) k
  | 0 => rfl
  | k + 1 => by
    have e : gnF R a b (k + 1) = gnF R a b k + ((if R (84 + 6 * (4 * k + a) + 0) = 0 then 0 else 1) + (if R (84 + 6 * (4 * k + b) + 0) = 0 then 0 else 1)) := rfl
    rw [e, gn_e R a b k, ct_s, ct_s, add4]
    rfl
/-- what becomes void of one wire is what was valid of it -/
theorem vs_void (r : Nat → Int32) {w : Nat} (hw : w < 4) (N : Nat) : ∀ k : Nat, k ≤ N → vsI (vdR r w N) k + ctI (fun v => r (84 + 6 * (4 * v + w))) k = vsI r k
  | 0, _ => rfl
  | k + 1, h => by
    have ih := vs_void r hw N k (by omega)
    have z0 : vdR r w N (84 + 6 * (4 * k + w)) = 0 := if_pos ⟨by omega, by omega, by omega⟩
    have zn : ∀ v : Nat, v < 4 → v ≠ w → vdR r w N (84 + 6 * (4 * k + v)) = r (84 + 6 * (4 * k + v)) := fun v hv hn => if_neg (fun z => by omega)
    rw [vs_s, vs_s, ct_s (fun v => r (84 + 6 * (4 * v + w))) k]
    have e : ctI (fun v => vdR r w N (84 + 6 * (4 * k + v))) 4 + (if r (84 + 6 * (4 * k + w)) = 0 then 0 else 1) = ctI (fun v => r (84 + 6 * (4 * k + v))) 4 := by
      by_cases z : r (84 + 6 * (4 * k + w)) = 0
      · rw [if_pos z, Int32.add_zero]
        refine ct_same 4 (fun v hv => ?_)
        by_cases q : v = w
        · subst q; exact z0.trans z.symm
        · exact zn v hv q
      · rw [if_neg z, ct_one (f := fun v => vdR r w N (84 + 6 * (4 * k + v))) (f' := fun v => r (84 + 6 * (4 * k + v))) (w := w) z 4 hw (fun v hv hn => (zn v hv hn).symm), if_pos z0]
    rw [add4, ih, e]
theorem sw_f {k : Nat} (h : 84 ≤ k) (ha : a < 4) (hb : b < 4) : swW R a b k = R k := sw_n (by omega) (by omega)
theorem sw_c1 (ha : a < 4) (hb : b < 4) : ctI (fun v => swW R a b (84 + 6 * (4 * v + a))) sc = ctI (fun v => R (84 + 6 * (4 * v + a))) sc := ct_same sc (fun v _ => sw_f (by omega) ha hb)
theorem sw_c2 (hab : a ≠ b) (ha : a < 4) (hb : b < 4) : ctI (fun v => vdR (swW R a b) a sc (84 + 6 * (4 * v + b))) sc = ctI (fun v => R (84 + 6 * (4 * v + b))) sc := ct_same sc (fun v _ => (if_neg (fun z => by omega)).trans (sw_f (by omega) ha hb))
theorem i_sub {x y z : Int32} (h : x + y = z) : x = z - y := by rw [← h, Int32.add_sub_cancel]
theorem sw_v (hab : a ≠ b) (ha : a < 4) (hb : b < 4) : vsI (swR R a b sc) sc = vsI R sc - gnF R a b sc := by
  have e1 := vs_void (swW R a b) ha sc sc (Nat.le_refl _)
  have e2 := vs_void (vdR (swW R a b) a sc) hb sc sc (Nat.le_refl _)
  rw [sw_c1 ha hb] at e1
  rw [sw_c2 hab ha hb] at e2
  have e0 : vsI (swW R a b) sc = vsI R sc := vs_same sc (fun s v _ _ => sw_f (by omega) ha hb)
  rw [e0] at e1
  refine i_sub ?_
  rw [gn_e, Int32.add_comm (ctI _ _) (ctI _ _), ← Int32.add_assoc]
  have e2 : vsI (swR R a b sc) sc + ctI (fun v => R (84 + 6 * (4 * v + b))) sc = vsI (vdR (swW R a b) a sc) sc := e2
  rw [e2, e1]
variable {lh : Nat} {rs : Int32} {hq : Nat → Nat → Int32}
theorem sw_same (ha : a < 4) : sq_X7_swap lh 0 rs R hq (nI a) (nI a) sc = (-100002, rs, R, lh, hq) := by
  unfold sq_X7_swap
  rw [if_neg (in3 ha), if_neg (in3 ha), if_pos rfl]
theorem sw_nh (ha : a < 4) (hb : b < 4) (hab : a ≠ b) (h : R (5 + 11 * a + 0) = 0 ∨ R (5 + 11 * b + 0) = 0) : sq_X7_swap lh 0 rs R hq (nI a) (nI b) sc = (-100003, 1, R, lh, hq) := by
  unfold sq_X7_swap
  rw [wN_nI (by omega), wN_nI (by omega), if_neg (in3 ha), if_neg (in3 hb), if_neg (fun z => hab ((nI_eq (by omega) (by omega)).mp z))]
  by_cases q : R (5 + 11 * a + 0) = 0
  · rw [if_pos q]
  · rw [if_neg q, if_pos (h.resolve_left q)]
theorem sw_ok (ha : a < 4) (hb : b < 4) (hab : a ≠ b) (h1 : R (5 + 11 * a + 0) = 1) (h2 : R (5 + 11 * b + 0) = 1) : sq_X7_swap lh 0 rs R hq (nI a) (nI b) sc = (gnF R a b sc, rs, swR R a b sc, rmL 0 lh, rmQ 0 lh hq R) := by
  have e := gn_e R a b sc
  rw [← sw_c1 (R := R) (sc := sc) ha hb, ← sw_c2 (R := R) (sc := sc) hab ha hb] at e
  rw [e]
  unfold sq_X7_swap
  rw [wN_nI (by omega), wN_nI (by omega), if_neg (in3 ha), if_neg (in3 hb), if_neg (fun z => hab ((nI_eq (by omega) (by omega)).mp z)), if_neg (by rw [h1]; decide), if_neg (by rw [h2]; decide)]
  rfl
theorem Jv.swap (J : Jv R sc cn tb) (ha : a < 4) (hb : b < 4) (hab : a ≠ b) (h1 : R (5 + 11 * a + 0) = 1) (h2 : R (5 + 11 * b + 0) = 1) : Jv (swR R a b sc) sc cn tb := by
  have s5 := J.s5
  have c5 := J.c5
  have e := sw_ok (lh := 0) (rs := 0) (hq := fun _ _ => 0) (sc := sc) ha hb hab h1 h2
  have hg : Gd tb (swR R a b sc) (sp_X8_doSwap (Classical.choose J.1) 0 (nI a) (nI b)).2.1 := by
    obtain ⟨hI, hR⟩ := Classical.choose_spec J.1
    have d := (ds_swap (lh := 0) (hq := fun _ _ => 0) (ru := 0) (rs := 0) (x := nI a) (y := nI b) hI hR).2.2.1
    rw [e] at d
    exact d
  refine Jv.of hg (by rw [sw_lo (by decide), sw_n (by omega) (by omega), J.c3]) (by rw [sw_lo (by decide), sw_n (by omega) (by omega), J.s4]) c5 s5 ⟨fun s v hs hv h => ?_, fun s hs h => ?_⟩
  · have nb : v ≠ b := fun q => by
      subst q
      have z : swR R a v sc (84 + 6 * (4 * s + v) + 0) = 0 := if_pos ⟨by omega, by omega, by omega⟩
      rw [z] at h
      exact absurd h (by decide)
    have e1 : ∀ q : Nat, q < 6 → swR R a b sc (84 + 6 * (4 * s + v) + q) = vdR (swW R a b) a sc (84 + 6 * (4 * s + v) + q) := fun q hq => if_neg (fun z => by omega)
    have na : v ≠ a := fun q => by
      subst q
      have z : vdR (swW R v b) v sc (84 + 6 * (4 * s + v) + 0) = 0 := if_pos ⟨by omega, by omega, by omega⟩
      rw [e1 0 (by decide), z] at h
      exact absurd h (by decide)
    have e2 : ∀ q : Nat, q < 6 → swR R a b sc (84 + 6 * (4 * s + v) + q) = R (84 + 6 * (4 * s + v) + q) := fun q hq => (e1 q hq).trans ((if_neg (fun z => by omega)).trans (sw_f (by omega) ha hb))
    rw [e2 0 (by decide)] at h
    rw [e2 3 (by decide), e2 4 (by decide), e2 5 (by decide), sw_lo (by omega), sw_0 hab, sw_lo (by omega), sw_n (by omega) (by omega)]
    exact J.v hs hv h
  · have e3 : ∀ k : Nat, 204 ≤ k → swR R a b sc k = R k := fun k hk => (if_neg (fun z => by omega)).trans ((if_neg (fun z => by omega)).trans (sw_f (by omega) ha hb))
    rw [e3 _ (by omega)] at h
    rw [sw_lo (by omega), sw_n (by omega) (by omega)]
    exact J.o hs h
end SQ
