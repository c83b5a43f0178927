/-! The law's own invariant: both objects, what belongs together. -/
def LCm (g : Gf) (c : Mp) (lh T : Nat) (rs : Int32) (R : Nat → Int32) (hq : Nat → Nat → Int32) (S : Nat → Nat → Int32) (zk tx wd nu : Nat → Int32) (ct pl : Int32) : Prop :=
  c 0 = plC g (nI lh) 0 rs ∧ Bk g c 1 R ∧ Hx g c hq ∧ Sl g c S ∧ c 347 = some (.inl (g.2.1 1, 2, .inl zk)) ∧ c 348 = otC g (nI T) ct pl ∧ c 349 = some (.inl (g.2.1 2, 70, .inl tx)) ∧ c 350 = iaA (g.2.1 0) 11 wd ∧ c 351 = iaA (g.2.1 0) 33 nu
def LMm (g : Gf) (c : Mp) (lh T : Nat) (rs : Int32) (r scr hh sl zk tx oa : Nat → Int32) (pl fa od : Int32) : Prop :=
  c 352 = moC g 352 (nI lh) rs (nI T) pl fa od ∧ c (352 + 1) = iaA (g.2.1 0) 204 r ∧ c (352 + 2) = iaA (g.2.1 0) 204 scr ∧ c (352 + 3) = iaA (g.2.1 0) 1020 hh ∧ c (352 + 4) = iaA (g.2.1 0) 408 sl ∧ c (352 + 5) = iaA (g.2.1 1) 2 zk ∧ c (352 + 6) = some (.inl (g.2.1 2, 70, .inl tx)) ∧ c (352 + 7) = iaA (g.2.1 0) 140 oa
def LPp (tb lh T : Nat) (R r : Nat → Int32) (hq : Nat → Nat → Int32) (hh : Nat → Int32) (S : Nat → Nat → Int32) (sl zk : Nat → Int32) : Prop :=
  lh ≤ 5 ∧ T ≤ 70 ∧ Gd tb R r ∧ (∀ i : Nat, i < lh → Gd tb (hq i) (fun q => hh (204 * i + q))) ∧ ∀ k : Nat, k < 2 → B01 (zk k) ∧ (zk k = 1 → Gd tb (S k) (fun q => sl (204 * k + q)))
def LI (g : Gf) (tb n : Nat) (c : Mp) : Prop := 360 ≤ n ∧ ∃ (lh T : Nat) (rs : Int32) (R r : Nat → Int32) (hq : Nat → Nat → Int32) (hh : Nat → Int32) (S : Nat → Nat → Int32) (sl zk tx wd nu scr oa : Nat → Int32) (ct pl pl2 fa od : Int32), LCm g c lh T rs R hq S zk tx wd nu ct pl ∧ LMm g c lh T rs r scr hh sl zk tx oa pl2 fa od ∧ LPp tb lh T R r hq hh S sl zk
theorem Iv.cong {r r' : Nat → Int32} {sc cn tb : Nat} (h : Iv r sc cn tb) (e : ∀ k : Nat, k < 204 → r' k = r k) : Iv r' sc cn tb := by
  have c5 := h.1.2.1
  have s5 := h.1.2.2.2
  exact h.other (by rw [e 3 (by decide)]; exact h.1.1) c5 (by rw [e 4 (by decide)]; exact h.1.2.2.1) s5 (by rw [e 0 (by decide), e 1 (by decide)]; exact h.2.1) (fun k a b => e k (by omega)) (fun k hk => Cg_cong (fun q hq => e _ (by omega)) (h.2.2.2.1 k hk)) (fun s hs => by rw [e _ (by omega), e _ (by omega)]; exact h.2.2.2.2.1 s hs) (fun k a b => e k (by omega)) (Nat.le_refl _)
theorem Gd.cong {tb : Nat} {R r r' : Nat → Int32} (h : Gd tb R r) (e : ∀ k : Nat, k < 204 → r' k = r k) : Gd tb R r' := by
  obtain ⟨sc, cn, a, b⟩ := h
  have s5 := a.1.2.2.2
  exact ⟨sc, cn, a.cong e, fun k hk hn => (b.1 k hk hn).trans (e k hk).symm, b.2.1, fun s hs => by rw [e _ (by omega)]; exact b.2.2 s hs⟩
theorem Gd.wb {tb : Nat} {R r : Nat → Int32} (h : Gd tb R r) : WB R := by
  obtain ⟨sc, cn, a, b⟩ := h
  exact a.wb b
theorem LPp.tb {tb tb' lh T : Nat} {R r : Nat → Int32} {hq : Nat → Nat → Int32} {hh : Nat → Int32} {S : Nat → Nat → Int32} {sl zk : Nat → Int32} (h : LPp tb lh T R r hq hh S sl zk) (ht : tb ≤ tb') : LPp tb' lh T R r hq hh S sl zk :=
  ⟨h.1, h.2.1, h.2.2.1.tb ht, fun i hi => (h.2.2.2.1 i hi).tb ht, fun k hk => ⟨(h.2.2.2.2 k hk).1, fun z => ((h.2.2.2.2 k hk).2 z).tb ht⟩⟩
theorem LI.tb {g : Gf} {tb tb' n : Nat} {c : Mp} (h : LI g tb n c) (ht : tb ≤ tb') : LI g tb' n c := by
  obtain ⟨h0, lh, T, rs, R, r, hq, hh, S, sl, zk, tx, wd, nu, scr, oa, ct, pl, pl2, fa, od, hC, hM, hp⟩ := h
  exact ⟨h0, lh, T, rs, R, r, hq, hh, S, sl, zk, tx, wd, nu, scr, oa, ct, pl, pl2, fa, od, hC, hM, hp.tb ht⟩
theorem AS.tb {tb tb' lh k0 : Nat} {S : ClT} {M : AcT} {hq : Nat → Nat → Int32} {R hh r : Nat → Int32} (h : AS tb S M lh hq R k0 hh r) (ht : tb ≤ tb') : AS tb' S M lh hq R k0 hh r := ⟨h.1, h.2.1, h.2.2.1.tb ht, h.2.2.2⟩
theorem rmK (lh : Nat) : rmL 0 lh = pushK lh := by
  unfold rmL pushK
  rw [if_pos rfl]
theorem hist_push {tb lh : Nat} {R r : Nat → Int32} {hq : Nat → Nat → Int32} {hh : Nat → Int32} (h5 : lh ≤ 5) (hG : Gd tb R r) (h : ∀ i : Nat, i < lh → Gd tb (hq i) (fun q => hh (204 * i + q))) : ∀ i : Nat, i < rmL 0 lh → Gd tb (rmQ 0 lh hq R i) (fun q => pushH hh lh r (204 * i + q)) := by
  intro i hi
  unfold rmL at hi
  rw [if_pos rfl] at hi
  unfold rmQ pushH
  rw [if_pos rfl]
  by_cases e5 : lh = 5
  · subst e5
    rw [if_pos rfl] at hi
    simp only [if_true]
    by_cases e4 : i = 4
    · subst e4
      rw [if_pos rfl]
      exact hG.cong (fun k hk => by rw [fb_put_in (by omega) (by omega), show 204 * 4 + k - 204 * 4 = k by omega])
    · rw [if_neg e4]
      refine (h (i + 1) (by omega)).cong (fun k hk => ?_)
      rw [fb_put_out (by omega), fb_put_in (by omega) (by omega)]
      show hh (204 * i + k - 0 + 204) = hh (204 * (i + 1) + k)
      rw [show 204 * i + k - 0 + 204 = 204 * (i + 1) + k by omega]
  · rw [if_neg e5] at hi
    simp only [if_neg e5]
    by_cases e4 : i = lh
    · subst e4
      rw [if_pos rfl]
      exact hG.cong (fun k hk => by rw [fb_put_in (by omega) (by omega), show 204 * i + k - 204 * i = k by omega])
    · rw [if_neg e4]
      exact (h i (by omega)).cong (fun k hk => fb_put_out (by omega))
section ST
variable {g : Gf} {n : Nat} {c : Mp} {tb tb' lh T : Nat} {rs : Int32} {R r : Nat → Int32} {hq : Nat → Nat → Int32} {hh : Nat → Int32} {S : Nat → Nat → Int32} {sl zk tx wd nu scr oa : Nat → Int32} {ct pl pl2 fa od : Int32} {x : Int32} {n1 : Nat} {c1 c2 : Mp}
theorem st_as (hn : 360 ≤ n) (hC : LCm g c lh T rs R hq S zk tx wd nu ct pl) (hM : LMm g c lh T rs r scr hh sl zk tx oa pl2 fa od) (hp : LPp tb lh T R r hq hh S sl zk) (ht : tb ≤ tb') {S0 : ClT} {M0 : AcT} (hPA : PA g c n 0 S0 x n1 c1) (hAS : AS tb' S0 M0 lh hq R lh hh r)
    (hc2 : c2 = va_up (va_up (va_up (va_up c1 (352 + 2) (iaA (g.2.1 0) 204 M0.2.1)) (352 + 1) (iaA (g.2.1 0) 204 M0.2.2.1)) (352 + 3) (iaA (g.2.1 0) 1020 M0.2.2.2.1)) 352 (moC g 352 (nI M0.2.2.2.2.1) M0.2.2.2.2.2 (nI T) pl2 fa od)) : x = M0.1 ∧ LI g tb' n1 c2 := by
  obtain ⟨p1, p2, p3, p4, p5, p6⟩ := hPA
  obtain ⟨a1, a2, a3, a4⟩ := hAS
  obtain ⟨C0, CB, CH, CS, CZ, CO, CT, CW, CN⟩ := hC
  obtain ⟨M0', M1, M2, M3, M4, M5, M6, M7⟩ := hM
  obtain ⟨l5, l7, l1, l2, l3⟩ := hp.tb ht
  have lo : ∀ i : Nat, i < 352 → c2 i = c1 i := fun i hi => by rw [hc2, mu_ne (by omega), mu_ne (by omega), mu_ne (by omega), mu_ne (by omega)]
  have hi4 : ∀ i : Nat, 356 ≤ i → i < n → c2 i = c i := fun i h1 h2 => by rw [hc2, mu_ne (by omega), mu_ne (by omega), mu_ne (by omega), mu_ne (by omega)]; exact p6 i (by omega) h2
  have K : ∀ i : Nat, 260 ≤ i → i < 352 → c2 i = c i := fun i h1 h2 => (lo i h2).trans (p6 i h1 (by omega))
  have k1 : S0.2.2.2.1 = M0.2.2.2.2.1 ∧ S0.2.2.2.1 ≤ 5 ∧ ∀ i : Nat, i < S0.2.2.2.1 → Gd tb' (S0.2.2.2.2 i) (fun q => M0.2.2.2.1 (204 * i + q)) := by
    rcases a4 with ⟨b1, b2, b3, b4⟩ | ⟨b1, b2, b3, b4⟩
    · rw [b1, b2, b3, b4]; exact ⟨rfl, l5, l2⟩
    · rw [b1, b2, b3, b4]; exact ⟨rmK lh, rmL_le l5, hist_push l5 l1 l2⟩
  refine ⟨p2.trans a1, by omega, S0.2.2.2.1, T, S0.2.1, S0.2.2.1, M0.2.2.1, S0.2.2.2.2, M0.2.2.2.1, S, sl, zk, tx, wd, nu, M0.2.1, oa, ct, pl, pl2, fa, od, ⟨(lo 0 (by decide)).trans p3, p4.kept (fun j _ _ => lo j (by omega)), p5.kept (fun j _ _ => lo j (by omega)), CS.kept (fun j _ _ => K j (by omega) (by omega)), (K _ (by decide) (by decide)).trans CZ, (K _ (by decide) (by decide)).trans CO, (K _ (by decide) (by decide)).trans CT, (K _ (by decide) (by decide)).trans CW, (K _ (by decide) (by decide)).trans CN⟩, ⟨?_, ?_, ?_, ?_, (hi4 _ (by decide) (by omega)).trans M4, (hi4 _ (by decide) (by omega)).trans M5, (hi4 _ (by decide) (by omega)).trans M6, (hi4 _ (by decide) (by omega)).trans M7⟩, k1.2.1, l7, a3, k1.2.2, l3⟩
  · rw [hc2, mu_eq, k1.1, a2]
  · rw [hc2, mu_ne (by decide), mu_ne (by decide), mu_eq]
  · rw [hc2, mu_ne (by decide), mu_ne (by decide), mu_ne (by decide), mu_eq]
  · rw [hc2, mu_ne (by decide), mu_eq]
theorem st_undo {k : Nat} (hn : 360 ≤ n) (hC : LCm g c (k + 1) T rs R hq S zk tx wd nu ct pl) (hM : LMm g c (k + 1) T rs r scr hh sl zk tx oa pl2 fa od) (hp : LPp tb (k + 1) T R r hq hh S sl zk) (ht : tb ≤ tb') (hPA : PA g c n 0 (nI k, rs, hq k, k, hq) x n1 c1)
    (hc2 : c2 = va_up (va_up c1 352 (moC g 352 (nI k) rs (nI T) pl2 fa od)) (352 + 1) (iaA (g.2.1 0) 204 (fun q => hh (204 * k + q)))) : x = nI k ∧ LI g tb' n1 c2 := by
  obtain ⟨p1, p2, p3, p4, p5, p6⟩ := hPA
  obtain ⟨C0, CB, CH, CS, CZ, CO, CT, CW, CN⟩ := hC
  obtain ⟨M0', M1, M2, M3, M4, M5, M6, M7⟩ := hM
  obtain ⟨l5, l7, l1, l2, l3⟩ := hp.tb ht
  have lo : ∀ i : Nat, i < 352 → c2 i = c1 i := fun i hi => by rw [hc2, mu_ne (by omega), mu_ne (by omega)]
  have hi4 : ∀ i : Nat, 354 ≤ i → i < n → c2 i = c i := fun i h1 h2 => by rw [hc2, mu_ne (by omega), mu_ne (by omega)]; exact p6 i (by omega) h2
  have K : ∀ i : Nat, 260 ≤ i → i < 352 → c2 i = c i := fun i h1 h2 => (lo i h2).trans (p6 i h1 (by omega))
  refine ⟨p2, by omega, k, T, rs, hq k, (fun q => hh (204 * k + q)), hq, hh, S, sl, zk, tx, wd, nu, scr, oa, ct, pl, pl2, fa, od, ⟨(lo 0 (by decide)).trans p3, p4.kept (fun j _ _ => lo j (by omega)), p5.kept (fun j _ _ => lo j (by omega)), CS.kept (fun j _ _ => K j (by omega) (by omega)), (K _ (by decide) (by decide)).trans CZ, (K _ (by decide) (by decide)).trans CO, (K _ (by decide) (by decide)).trans CT, (K _ (by decide) (by decide)).trans CW, (K _ (by decide) (by decide)).trans CN⟩, ⟨?_, ?_, (hi4 _ (by decide) (by omega)).trans M2, (hi4 _ (by decide) (by omega)).trans M3, (hi4 _ (by decide) (by omega)).trans M4, (hi4 _ (by decide) (by omega)).trans M5, (hi4 _ (by decide) (by omega)).trans M6, (hi4 _ (by decide) (by omega)).trans M7⟩, by omega, l7, l2 k (by omega), fun i hi => l2 i (by omega), l3⟩
  · rw [hc2, mu_ne (by decide), mu_eq]
  · rw [hc2, mu_eq]
theorem st_keep {y : Int32} (hn : 360 ≤ n) (hC : LCm g c lh T rs R hq S zk tx wd nu ct pl) (hM : LMm g c lh T rs r scr hh sl zk tx oa pl2 fa od) (hp : LPp tb lh T R r hq hh S sl zk) (ht : tb ≤ tb') (hy : ¬ inI y 0 1 = 0) (q1 : c1 347 = some (.inl (g.2.1 1, 2, .inl (upd zk (wN y) 1)))) (q2 : Sl g c1 (fun k => if k = wN y then R else S k)) (q3 : ∀ i : Nat, i < 260 ∨ 348 ≤ i → c1 i = c i)
    (hc2 : c2 = va_up (va_up c1 (352 + 5) (some (.inl (g.2.1 1, 2, .inl (upd zk (wN y) 1))))) (352 + 4) (iaA (g.2.1 0) 408 (fb_put sl r (204 * wN y) 204))) : R 0 = r 0 ∧ LI g tb' n c2 := by
  obtain ⟨C0, CB, CH, CS, CZ, CO, CT, CW, CN⟩ := hC
  obtain ⟨M0', M1, M2, M3, M4, M5, M6, M7⟩ := hM
  obtain ⟨l5, l7, l1, l2, l3⟩ := hp.tb ht
  have y2 : wN y < 2 := (inI_w (N := 1) (by decide) hy).1
  have lo : ∀ i : Nat, i < 356 → c2 i = c1 i := fun i hi => by rw [hc2, mu_ne (by omega), mu_ne (by omega)]
  have K : ∀ i : Nat, i < 260 ∨ (348 ≤ i ∧ i < 356) → c2 i = c i := fun i h1 => (lo i (by omega)).trans (q3 i (by omega))
  have hi4 : ∀ i : Nat, 358 ≤ i → c2 i = c i := fun i h1 => by rw [hc2, mu_ne (by omega), mu_ne (by omega)]; exact q3 i (by omega)
  have e0 : R 0 = r 0 := by
    obtain ⟨sc, cn, a, b⟩ := l1
    exact b.lo (by decide)
  refine ⟨e0, hn, lh, T, rs, R, r, hq, hh, (fun k => if k = wN y then R else S k), fb_put sl r (204 * wN y) 204, upd zk (wN y) 1, tx, wd, nu, scr, oa, ct, pl, pl2, fa, od, ⟨(K 0 (by decide)).trans C0, CB.kept (fun j _ _ => K j (by omega)), CH.kept (fun j _ _ => K j (by omega)), q2.kept (fun j _ _ => lo j (by omega)), (lo 347 (by decide)).trans q1, (K _ (by decide)).trans CO, (K _ (by decide)).trans CT, (K _ (by decide)).trans CW, (K _ (by decide)).trans CN⟩, ⟨(K _ (by decide)).trans M0', (K _ (by decide)).trans M1, (K _ (by decide)).trans M2, (K _ (by decide)).trans M3, ?_, ?_, (hi4 _ (by decide)).trans M6, (hi4 _ (by decide)).trans M7⟩, l5, l7, l1, l2, fun k hk => ?_⟩
  · rw [hc2, mu_eq]
  · rw [hc2, mu_ne (by decide), mu_eq]
  · by_cases e : k = wN y
    · subst e
      rw [upd_at]
      dsimp only
      rw [if_pos rfl]
      exact ⟨Or.inr rfl, fun _ => l1.cong (fun q hq => by rw [fb_put_in (by omega) (by omega), show 204 * wN y + q - 204 * wN y = q by omega])⟩
    · rw [upd_no e]
      dsimp only
      rw [if_neg e]
      refine ⟨(l3 k hk).1, fun z => ((l3 k hk).2 z).cong (fun q hq => ?_)⟩
      exact fb_put_out (by omega)
theorem st_type {y : Int32} (hn : 360 ≤ n) (hC : LCm g c lh T rs R hq S zk tx wd nu ct pl) (hM : LMm g c lh T rs r scr hh sl zk tx oa pl2 fa od) (hp : LPp tb lh T R r hq hh S sl zk) (ht : tb ≤ tb') (hT : T < 70)
    (hc2 : c2 = va_up (va_up (va_up (va_up c 349 (some (.inl (g.2.1 2, 70, .inl (upd tx T y))))) 348 (otC g (nI (T + 1)) ct pl)) (352 + 6) (some (.inl (g.2.1 2, 70, .inl (upd tx T y))))) 352 (moC g 352 (nI lh) rs (nI (T + 1)) pl2 fa od)) : LI g tb' n c2 := by
  obtain ⟨C0, CB, CH, CS, CZ, CO, CT, CW, CN⟩ := hC
  obtain ⟨M0', M1, M2, M3, M4, M5, M6, M7⟩ := hM
  obtain ⟨l5, l7, l1, l2, l3⟩ := hp.tb ht
  have K : ∀ i : Nat, i ≠ 348 → i ≠ 349 → i ≠ 352 → i ≠ 352 + 6 → c2 i = c i := fun i h1 h2 h3 h4 => by rw [hc2, mu_ne h3, mu_ne h4, mu_ne h1, mu_ne h2]
  refine ⟨hn, lh, T + 1, rs, R, r, hq, hh, S, sl, zk, upd tx T y, wd, nu, scr, oa, ct, pl, pl2, fa, od, ⟨(K 0 (by decide) (by decide) (by decide) (by decide)).trans C0, CB.kept (fun j _ _ => K j (by omega) (by omega) (by omega) (by omega)), CH.kept (fun j _ _ => K j (by omega) (by omega) (by omega) (by omega)), CS.kept (fun j _ _ => K j (by omega) (by omega) (by omega) (by omega)), (K _ (by decide) (by decide) (by decide) (by decide)).trans CZ, ?_, ?_, (K _ (by decide) (by decide) (by decide) (by decide)).trans CW, (K _ (by decide) (by decide) (by decide) (by decide)).trans CN⟩, ⟨?_, (K _ (by decide) (by decide) (by decide) (by decide)).trans M1, (K _ (by decide) (by decide) (by decide) (by decide)).trans M2, (K _ (by decide) (by decide) (by decide) (by decide)).trans M3, (K _ (by decide) (by decide) (by decide) (by decide)).trans M4, (K _ (by decide) (by decide) (by decide) (by decide)).trans M5, ?_, (K _ (by decide) (by decide) (by decide) (by decide)).trans M7⟩, l5, by omega, l1, l2, l3⟩
  · rw [hc2, mu_ne (by decide), mu_ne (by decide), mu_eq]
  · rw [hc2, mu_ne (by decide), mu_ne (by decide), mu_ne (by decide), mu_eq]
  · rw [hc2, mu_eq]
  · rw [hc2, mu_ne (by decide), mu_eq]
theorem st_clear (hn : 360 ≤ n) (hC : LCm g c lh T rs R hq S zk tx wd nu ct pl) (hM : LMm g c lh T rs r scr hh sl zk tx oa pl2 fa od) (hp : LPp tb lh T R r hq hh S sl zk) (ht : tb ≤ tb')
    (hc2 : c2 = va_up (va_up c 348 (otC g 0 ct pl)) 352 (moC g 352 (nI lh) rs 0 pl2 fa od)) : LI g tb' n c2 := by
  obtain ⟨C0, CB, CH, CS, CZ, CO, CT, CW, CN⟩ := hC
  obtain ⟨M0', M1, M2, M3, M4, M5, M6, M7⟩ := hM
  obtain ⟨l5, l7, l1, l2, l3⟩ := hp.tb ht
  have K : ∀ i : Nat, i ≠ 348 → i ≠ 352 → c2 i = c i := fun i h1 h3 => by rw [hc2, mu_ne h3, mu_ne h1]
  refine ⟨hn, lh, 0, rs, R, r, hq, hh, S, sl, zk, tx, wd, nu, scr, oa, ct, pl, pl2, fa, od, ⟨(K 0 (by decide) (by decide)).trans C0, CB.kept (fun j _ _ => K j (by omega) (by omega)), CH.kept (fun j _ _ => K j (by omega) (by omega)), CS.kept (fun j _ _ => K j (by omega) (by omega)), (K _ (by decide) (by decide)).trans CZ, ?_, (K _ (by decide) (by decide)).trans CT, (K _ (by decide) (by decide)).trans CW, (K _ (by decide) (by decide)).trans CN⟩, ⟨?_, (K _ (by decide) (by decide)).trans M1, (K _ (by decide) (by decide)).trans M2, (K _ (by decide) (by decide)).trans M3, (K _ (by decide) (by decide)).trans M4, (K _ (by decide) (by decide)).trans M5, (K _ (by decide) (by decide)).trans M6, (K _ (by decide) (by decide)).trans M7⟩, l5, by omega, l1, l2, l3⟩
  · rw [hc2, mu_ne (by decide), mu_eq, nI_0]
  · rw [hc2, mu_eq, nI_0]
theorem st_runf {ct' pl' pl3 fa' od' : Int32} {wd' nu' oa' : Nat → Int32} (hn : 360 ≤ n) (hC : LCm g c lh T rs R hq S zk tx wd nu ct pl) (hM : LMm g c lh T rs r scr hh sl zk tx oa pl2 fa od) (hp : LPp tb lh T R r hq hh S sl zk) (ht : tb ≤ tb')
    (hc2 : c2 = va_up (va_up (va_up (va_up (va_up c 348 (otC g (nI T) ct' pl')) 350 (iaA (g.2.1 0) 11 wd')) 351 (iaA (g.2.1 0) 33 nu')) 352 (moC g 352 (nI lh) rs (nI T) pl3 fa' od')) (352 + 7) (iaA (g.2.1 0) 140 oa')) : LI g tb' n c2 := by
  obtain ⟨C0, CB, CH, CS, CZ, CO, CT, CW, CN⟩ := hC
  obtain ⟨M0', M1, M2, M3, M4, M5, M6, M7⟩ := hM
  obtain ⟨l5, l7, l1, l2, l3⟩ := hp.tb ht
  have K : ∀ i : Nat, i ≠ 348 → i ≠ 350 → i ≠ 351 → i ≠ 352 → i ≠ 352 + 7 → c2 i = c i := fun i h1 h2 h3 h4 h5 => by rw [hc2, mu_ne h5, mu_ne h4, mu_ne h3, mu_ne h2, mu_ne h1]
  have KD : ∀ i : Nat, i ≠ 348 ∧ i ≠ 350 ∧ i ≠ 351 ∧ i ≠ 352 ∧ i ≠ 352 + 7 → c2 i = c i := fun i h => K i h.1 h.2.1 h.2.2.1 h.2.2.2.1 h.2.2.2.2
  refine ⟨hn, lh, T, rs, R, r, hq, hh, S, sl, zk, tx, wd', nu', scr, oa', ct', pl', pl3, fa', od', ⟨(KD 0 (by decide)).trans C0, CB.kept (fun j _ _ => KD j (by omega)), CH.kept (fun j _ _ => KD j (by omega)), CS.kept (fun j _ _ => KD j (by omega)), (KD _ (by decide)).trans CZ, ?_, (KD _ (by decide)).trans CT, ?_, ?_⟩, ⟨?_, (KD _ (by decide)).trans M1, (KD _ (by decide)).trans M2, (KD _ (by decide)).trans M3, (KD _ (by decide)).trans M4, (KD _ (by decide)).trans M5, (KD _ (by decide)).trans M6, ?_⟩, l5, l7, l1, l2, l3⟩
  · rw [hc2, mu_ne (by decide), mu_ne (by decide), mu_ne (by decide), mu_ne (by decide), mu_eq]
  · rw [hc2, mu_ne (by decide), mu_ne (by decide), mu_ne (by decide), mu_eq]
  · rw [hc2, mu_ne (by decide), mu_ne (by decide), mu_eq]
  · rw [hc2, mu_ne (by decide), mu_eq]
  · rw [hc2, mu_eq]
theorem st_runs {ct' pl' pl3 fa' od' rs' : Int32} {wd' nu' oa' R' r' : Nat → Int32} (hn : 360 ≤ n) (hC : LCm g c lh T rs R hq S zk tx wd nu ct pl) (hM : LMm g c lh T rs r scr hh sl zk tx oa pl2 fa od) (hp : LPp tb lh T R r hq hh S sl zk) (ht : tb ≤ tb') (hG : Gd tb' R' r') (hn1 : n ≤ n1)
    (q0 : c1 0 = plC g (nI (rmL 0 lh)) 0 rs') (qB : Bk g c1 1 R') (qH : Hx g c1 (rmQ 0 lh hq R)) (qO : c1 348 = otC g (nI T) ct' pl') (qT : c1 349 = some (.inl (g.2.1 2, 70, .inl tx))) (qW : c1 350 = iaA (g.2.1 0) 11 wd') (qN : c1 351 = iaA (g.2.1 0) 33 nu') (qF : Ft c c1 n)
    (hc2 : c2 = va_up (va_up (va_up (va_up (va_up c1 352 (moC g 352 (nI (pushK lh)) rs' (nI T) pl3 fa' od')) (352 + 7) (iaA (g.2.1 0) 140 oa')) (352 + 2) (iaA (g.2.1 0) 204 r)) (352 + 1) (iaA (g.2.1 0) 204 r')) (352 + 3) (iaA (g.2.1 0) 1020 (pushH hh lh r))) : LI g tb' n1 c2 := by
  obtain ⟨C0, CB, CH, CS, CZ, CO, CT, CW, CN⟩ := hC
  obtain ⟨M0', M1, M2, M3, M4, M5, M6, M7⟩ := hM
  obtain ⟨l5, l7, l1, l2, l3⟩ := hp.tb ht
  have lo : ∀ i : Nat, i < 352 → c2 i = c1 i := fun i hi => by rw [hc2, mu_ne (by omega), mu_ne (by omega), mu_ne (by omega), mu_ne (by omega), mu_ne (by omega)]
  have K : ∀ i : Nat, 260 ≤ i → i < 348 → c2 i = c i := fun i h1 h2 => (lo i (by omega)).trans (qF i (Or.inl ⟨h1, h2⟩))
  have hi4 : ∀ i : Nat, 356 ≤ i → i < 352 + 7 → c2 i = c i := fun i h1 h2 => by rw [hc2, mu_ne (by omega), mu_ne (by omega), mu_ne (by omega), mu_ne (by omega), mu_ne (by omega)]; exact qF i (Or.inr ⟨by omega, by omega⟩)
  refine ⟨by omega, rmL 0 lh, T, rs', R', r', rmQ 0 lh hq R, pushH hh lh r, S, sl, zk, tx, wd', nu', r, oa', ct', pl', pl3, fa', od', ⟨(lo 0 (by decide)).trans q0, qB.kept (fun j _ _ => lo j (by omega)), qH.kept (fun j _ _ => lo j (by omega)), CS.kept (fun j _ _ => K j (by omega) (by omega)), (K _ (by decide) (by decide)).trans CZ, (lo _ (by decide)).trans qO, (lo _ (by decide)).trans qT, (lo _ (by decide)).trans qW, (lo _ (by decide)).trans qN⟩, ⟨?_, ?_, ?_, ?_, (hi4 _ (by decide) (by decide)).trans M4, (hi4 _ (by decide) (by decide)).trans M5, (hi4 _ (by decide) (by decide)).trans M6, ?_⟩, rmL_le l5, l7, hG, hist_push l5 l1 l2, l3⟩
  · rw [hc2, mu_ne (by decide), mu_ne (by decide), mu_ne (by decide), mu_ne (by decide), mu_eq, rmK]
  · rw [hc2, mu_ne (by decide), mu_eq]
  · rw [hc2, mu_ne (by decide), mu_ne (by decide), mu_eq]
  · rw [hc2, mu_eq]
  · rw [hc2, mu_ne (by decide), mu_ne (by decide), mu_ne (by decide), mu_eq]
end ST
