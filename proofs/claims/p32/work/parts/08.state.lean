/-! A state of the class, as a block of 43 cells from b on; its numbers are a row: 0 to 203 as the reference's row (69 + 3 s + 2: the orientation as the class keeps it), 204 + s: whether station s has one. -/
abbrev qsA (t : ClassId) (N : Nat) (f : Nat → Option Nat) : Option va_E := some (.inl (t, N, .inr (.inr (.inr (.inr f)))))
abbrev iaA (t : ClassId) (N : Nat) (f : Nat → Int32) : Option va_E := some (.inl (t, N, .inl f))
abbrev toC (g : Gf) (b : Nat) (r : Nat → Int32) : Option va_E := some (.inr (4, [.ref (gz g + (b + 1)), .ref (gz g + (b + 6)), .int (r 3), .ref (gz g + (b + 12)), .int (r 4), .int (r 0), .int (r 1), .int (r 2)]))
abbrev snC (g : Gf) (i : Nat) (de fr ho oo : Int32) : Option va_E := some (.inr (5, [.int de, .int fr, .int ho, .int oo, .ref (gz g + (i + 1))]))
def Sg (g : Gf) (c : Mp) (i : Nat) (de fr ho oo : Int32) (f : Nat → Nat → Int32) : Prop :=
  c i = snC g i de fr ho oo ∧ c (i + 1) = qsA (g.2.1 7) 4 (fun k => some (gz g + (i + 2 + k))) ∧ ∀ w : Nat, w < 4 → c (i + 2 + w) = obC (f w)
def Bk (g : Gf) (c : Mp) (b : Nat) (r : Nat → Int32) : Prop :=
  c b = toC g b r ∧
  (c (b + 1) = qsA (g.2.1 4) 4 (fun k => some (gz g + (b + 2 + k))) ∧ ∀ w : Nat, w < 4 → c (b + 2 + w) = wiC (fun k => r (5 + 11 * w + k))) ∧
  (c (b + 6) = qsA (g.2.1 5) 5 (fun k => some (gz g + (b + 7 + k))) ∧ ∀ k : Nat, k < 5 → c (b + 7 + k) = cuC (fun q => r (49 + 4 * k + q))) ∧
  c (b + 12) = qsA (g.2.1 6) 5 (fun k => some (gz g + (b + 13 + 6 * k))) ∧
  ∀ s : Nat, s < 5 → Sg g c (b + 13 + 6 * s) (r (69 + 3 * s)) (r (69 + 3 * s + 1)) (r (204 + s)) (r (69 + 3 * s + 2)) (fun w q => r (84 + 6 * (4 * s + w) + q))
/-- nothing outside lo .. hi is another -/
def Fr (c c' : Mp) (lo hi : Nat) : Prop := ∀ i : Nat, (i < lo ∨ hi ≤ i) → c' i = c i
theorem Fr.rfl' {c : Mp} {lo hi : Nat} : Fr c c lo hi := fun _ _ => rfl
theorem Fr.trans {c c1 c2 : Mp} {lo hi : Nat} (h1 : Fr c c1 lo hi) (h2 : Fr c1 c2 lo hi) : Fr c c2 lo hi := fun i hi' => (h2 i hi').trans (h1 i hi')
theorem Fr.up {c : Mp} {lo hi i : Nat} {e : Option va_E} (h1 : lo ≤ i) (h2 : i < hi) : Fr c (va_up c i e) lo hi := fun j hj => mu_ne (by omega) _
theorem Fr.put {c c1 : Mp} {lo hi i : Nat} {e : Option va_E} (h : Fr c c1 lo hi) (h1 : lo ≤ i) (h2 : i < hi) : Fr c (va_up c1 i e) lo hi := h.trans (Fr.up h1 h2)
theorem Sg.cong {g : Gf} {c c' : Mp} {i : Nat} {de fr ho oo : Int32} {f f' : Nat → Nat → Int32} (h : Sg g c i de fr ho oo f) (hc : ∀ j : Nat, i ≤ j → j < i + 6 → c' j = c j) (hf : ∀ w q : Nat, w < 4 → q < 6 → f' w q = f w q) : Sg g c' i de fr ho oo f' := by
  refine ⟨(hc i (by omega) (by omega)).trans h.1, (hc (i + 1) (by omega) (by omega)).trans h.2.1, fun w hw => ?_⟩
  rw [hc (i + 2 + w) (by omega) (by omega), h.2.2 w hw]
  simp only [obC, hf w _ hw (show 0 < 6 by decide), hf w _ hw (show 1 < 6 by decide), hf w _ hw (show 2 < 6 by decide), hf w _ hw (show 3 < 6 by decide), hf w _ hw (show 4 < 6 by decide), hf w _ hw (show 5 < 6 by decide)]
theorem wiC_cong {f f' : Nat → Int32} (h : ∀ q : Nat, q < 11 → f' q = f q) : wiC f' = wiC f := by
  simp only [wiC, h 0 (by decide), h 1 (by decide), h 2 (by decide), h 3 (by decide), h 4 (by decide), h 5 (by decide), h 6 (by decide), h 7 (by decide), h 8 (by decide), h 9 (by decide), h 10 (by decide)]
theorem cuC_cong {f f' : Nat → Int32} (h : ∀ q : Nat, q < 4 → f' q = f q) : cuC f' = cuC f := by
  simp only [cuC, h 0 (by decide), h 1 (by decide), h 2 (by decide), h 3 (by decide)]
theorem obC_cong {f f' : Nat → Int32} (h : ∀ q : Nat, q < 6 → f' q = f q) : obC f' = obC f := by
  simp only [obC, h 0 (by decide), h 1 (by decide), h 2 (by decide), h 3 (by decide), h 4 (by decide), h 5 (by decide)]
theorem Bk.kept {g : Gf} {c c' : Mp} {b : Nat} {r : Nat → Int32} (h : Bk g c b r) (hc : ∀ j : Nat, b ≤ j → j < b + 43 → c' j = c j) : Bk g c' b r := by
  obtain ⟨h1, ⟨h2, h3⟩, ⟨h4, h5⟩, h6, h7⟩ := h
  refine ⟨(hc _ (by omega) (by omega)).trans h1, ⟨(hc _ (by omega) (by omega)).trans h2, fun w hw => (hc _ (by omega) (by omega)).trans (h3 w hw)⟩, ⟨(hc _ (by omega) (by omega)).trans h4, fun w hw => (hc _ (by omega) (by omega)).trans (h5 w hw)⟩, (hc _ (by omega) (by omega)).trans h6, fun s hs => (h7 s hs).cong (fun j _ _ => hc j (by omega) (by omega)) (fun _ _ _ _ => rfl)⟩
theorem Bk.row {g : Gf} {c : Mp} {b : Nat} {r r' : Nat → Int32} (h : Bk g c b r) (hr : ∀ k : Nat, k < 209 → r' k = r k) : Bk g c b r' := by
  obtain ⟨h1, ⟨h2, h3⟩, ⟨h4, h5⟩, h6, h7⟩ := h
  refine ⟨by rw [h1]; simp only [toC, hr 0 (by decide), hr 1 (by decide), hr 2 (by decide), hr 3 (by decide), hr 4 (by decide)], ⟨h2, fun w hw => (h3 w hw).trans (wiC_cong (fun q hq => (hr _ (by omega)).symm))⟩, ⟨h4, fun k hk => (h5 k hk).trans (cuC_cong (fun q hq => (hr _ (by omega)).symm))⟩, h6, fun s hs => ?_⟩
  rw [hr (69 + 3 * s) (by omega), hr (69 + 3 * s + 1) (by omega), hr (204 + s) (by omega), hr (69 + 3 * s + 2) (by omega)]
  exact (h7 s hs).cong (fun _ _ _ => rfl) (fun w q hw hq => hr _ (by omega))
/-- one wire is another -/
theorem Bk.wire {g : Gf} {c : Mp} {b : Nat} {r r' : Nat → Int32} (h : Bk g c b r) {w : Nat} (hw : w < 4) {f : Nat → Int32} (hf : ∀ q : Nat, q < 11 → r' (5 + 11 * w + q) = f q) (hr : ∀ k : Nat, k < 209 → (k < 5 + 11 * w ∨ 5 + 11 * w + 11 ≤ k) → r' k = r k) : Bk g (va_up c (b + 2 + w) (wiC f)) b r' := by
  obtain ⟨h1, ⟨h2, h3⟩, ⟨h4, h5⟩, h6, h7⟩ := h
  refine ⟨(mu_ne (by omega) _).trans ?_, ⟨(mu_ne (by omega) _).trans h2, fun v hv => ?_⟩, ⟨(mu_ne (by omega) _).trans h4, fun k hk => (mu_ne (by omega) _).trans ((h5 k hk).trans (cuC_cong (fun q hq => (hr _ (by omega) (by omega)).symm)))⟩, (mu_ne (by omega) _).trans h6, fun s hs => ?_⟩
  · rw [h1]; simp only [toC, hr 0 (by decide) (by omega), hr 1 (by decide) (by omega), hr 2 (by decide) (by omega), hr 3 (by decide) (by omega), hr 4 (by decide) (by omega)]
  · by_cases e : v = w
    · subst e
      exact (mu_eq _ _ _).trans (wiC_cong (fun q hq => (hf q hq).symm))
    · exact (mu_ne (by omega) _).trans ((h3 v hv).trans (wiC_cong (fun q hq => (hr _ (by omega) (by omega)).symm)))
  · rw [hr (69 + 3 * s) (by omega) (by omega), hr (69 + 3 * s + 1) (by omega) (by omega), hr (204 + s) (by omega) (by omega), hr (69 + 3 * s + 2) (by omega) (by omega)]
    exact (h7 s hs).cong (fun j _ _ => mu_ne (by omega) _) (fun w q hw hq => hr _ (by omega) (by omega))
/-- one current is another -/
theorem Bk.cur {g : Gf} {c : Mp} {b : Nat} {r r' : Nat → Int32} (h : Bk g c b r) {w : Nat} (hw : w < 5) {f : Nat → Int32} (hf : ∀ q : Nat, q < 4 → r' (49 + 4 * w + q) = f q) (hr : ∀ k : Nat, k < 209 → (k < 49 + 4 * w ∨ 49 + 4 * w + 4 ≤ k) → r' k = r k) : Bk g (va_up c (b + 7 + w) (cuC f)) b r' := by
  obtain ⟨h1, ⟨h2, h3⟩, ⟨h4, h5⟩, h6, h7⟩ := h
  refine ⟨(mu_ne (by omega) _).trans ?_, ⟨(mu_ne (by omega) _).trans h2, fun v hv => (mu_ne (by omega) _).trans ((h3 v hv).trans (wiC_cong (fun q hq => (hr _ (by omega) (by omega)).symm)))⟩, ⟨(mu_ne (by omega) _).trans h4, fun k hk => ?_⟩, (mu_ne (by omega) _).trans h6, fun s hs => ?_⟩
  · rw [h1]; simp only [toC, hr 0 (by decide) (by omega), hr 1 (by decide) (by omega), hr 2 (by decide) (by omega), hr 3 (by decide) (by omega), hr 4 (by decide) (by omega)]
  · by_cases e : k = w
    · subst e
      exact (mu_eq _ _ _).trans (cuC_cong (fun q hq => (hf q hq).symm))
    · exact (mu_ne (by omega) _).trans ((h5 k hk).trans (cuC_cong (fun q hq => (hr _ (by omega) (by omega)).symm)))
  · rw [hr (69 + 3 * s) (by omega) (by omega), hr (69 + 3 * s + 1) (by omega) (by omega), hr (204 + s) (by omega) (by omega), hr (69 + 3 * s + 2) (by omega) (by omega)]
    exact (h7 s hs).cong (fun j _ _ => mu_ne (by omega) _) (fun w q hw hq => hr _ (by omega) (by omega))
/-- the state's own numbers are others -/
theorem Bk.top {g : Gf} {c : Mp} {b : Nat} {r r' : Nat → Int32} (h : Bk g c b r) {e : Option va_E} (he : e = toC g b r') (hr : ∀ k : Nat, 5 ≤ k → k < 209 → r' k = r k) : Bk g (va_up c b e) b r' := by
  obtain ⟨h1, ⟨h2, h3⟩, ⟨h4, h5⟩, h6, h7⟩ := h
  refine ⟨(mu_eq _ _ _).trans he, ⟨(mu_ne (by omega) _).trans h2, fun v hv => (mu_ne (by omega) _).trans ((h3 v hv).trans (wiC_cong (fun q hq => (hr _ (by omega) (by omega)).symm)))⟩, ⟨(mu_ne (by omega) _).trans h4, fun k hk => (mu_ne (by omega) _).trans ((h5 k hk).trans (cuC_cong (fun q hq => (hr _ (by omega) (by omega)).symm)))⟩, (mu_ne (by omega) _).trans h6, fun s hs => ?_⟩
  rw [hr (69 + 3 * s) (by omega) (by omega), hr (69 + 3 * s + 1) (by omega) (by omega), hr (204 + s) (by omega) (by omega), hr (69 + 3 * s + 2) (by omega) (by omega)]
  exact (h7 s hs).cong (fun j _ _ => mu_ne (by omega) _) (fun w q hw hq => hr _ (by omega) (by omega))
/-- one station with what it has seen is another -/
theorem Bk.stat {g : Gf} {c c' : Mp} {b : Nat} {r r' : Nat → Int32} (h : Bk g c b r) {s : Nat} (hs : s < 5) (hS : Sg g c' (b + 13 + 6 * s) (r' (69 + 3 * s)) (r' (69 + 3 * s + 1)) (r' (204 + s)) (r' (69 + 3 * s + 2)) (fun w q => r' (84 + 6 * (4 * s + w) + q))) (hF : Fr c c' (b + 13 + 6 * s) (b + 13 + 6 * s + 6))
    (hr : ∀ k : Nat, k < 209 → ¬ (69 + 3 * s ≤ k ∧ k < 69 + 3 * s + 3) → k ≠ 204 + s → ¬ (84 + 24 * s ≤ k ∧ k < 84 + 24 * s + 24) → r' k = r k) : Bk g c' b r' := by
  obtain ⟨h1, ⟨h2, h3⟩, ⟨h4, h5⟩, h6, h7⟩ := h
  refine ⟨(hF _ (by omega)).trans ?_, ⟨(hF _ (by omega)).trans h2, fun v hv => (hF _ (by omega)).trans ((h3 v hv).trans (wiC_cong (fun q hq => (hr _ (by omega) (by omega) (by omega) (by omega)).symm)))⟩, ⟨(hF _ (by omega)).trans h4, fun k hk => (hF _ (by omega)).trans ((h5 k hk).trans (cuC_cong (fun q hq => (hr _ (by omega) (by omega) (by omega) (by omega)).symm)))⟩, (hF _ (by omega)).trans h6, fun t ht => ?_⟩
  · rw [h1]; simp only [toC, hr 0 (by decide) (by omega) (by omega) (by omega), hr 1 (by decide) (by omega) (by omega) (by omega), hr 2 (by decide) (by omega) (by omega) (by omega), hr 3 (by decide) (by omega) (by omega) (by omega), hr 4 (by decide) (by omega) (by omega) (by omega)]
  · by_cases e : t = s
    · subst e; exact hS
    · rw [hr (69 + 3 * t) (by omega) (by omega) (by omega) (by omega), hr (69 + 3 * t + 1) (by omega) (by omega) (by omega) (by omega), hr (204 + t) (by omega) (by omega) (by omega) (by omega), hr (69 + 3 * t + 2) (by omega) (by omega) (by omega) (by omega)]
      exact (h7 t ht).cong (fun j _ _ => hF j (by omega)) (fun w q hw hq => hr _ (by omega) (by omega) (by omega) (by omega))
theorem Sg.obs {g : Gf} {c : Mp} {i : Nat} {de fr ho oo : Int32} {f f' : Nat → Nat → Int32} (h : Sg g c i de fr ho oo f) {w : Nat} (hw : w < 4) {o : Nat → Int32} (ho' : ∀ q : Nat, q < 6 → f' w q = o q) (hf : ∀ v q : Nat, v < 4 → v ≠ w → q < 6 → f' v q = f v q) : Sg g (va_up c (i + 2 + w) (obC o)) i de fr ho oo f' := by
  refine ⟨(mu_ne (by omega) _).trans h.1, (mu_ne (by omega) _).trans h.2.1, fun v hv => ?_⟩
  by_cases e : v = w
  · subst e; exact (mu_eq _ _ _).trans (obC_cong (fun q hq => (ho' q hq).symm))
  · exact (mu_ne (by omega) _).trans ((h.2.2 v hv).trans (obC_cong (fun q hq => (hf v q hv e hq).symm)))
theorem Sg.head {g : Gf} {c : Mp} {i : Nat} {de fr ho oo de' fr' ho2 oo' : Int32} {f : Nat → Nat → Int32} (h : Sg g c i de fr ho oo f) {e : Option va_E} (he : e = snC g i de' fr' ho2 oo') : Sg g (va_up c i e) i de' fr' ho2 oo' f :=
  ⟨(mu_eq _ _ _).trans he, (mu_ne (by omega) _).trans h.2.1, fun v hv => (mu_ne (by omega) _).trans (h.2.2 v hv)⟩
/-- one thing seen is another -/
theorem Bk.obs {g : Gf} {c : Mp} {b : Nat} {r r' : Nat → Int32} (h : Bk g c b r) {s w : Nat} (hs : s < 5) (hw : w < 4) {o : Nat → Int32} (ho : ∀ q : Nat, q < 6 → r' (84 + 6 * (4 * s + w) + q) = o q) (hr : ∀ k : Nat, k < 209 → (k < 84 + 6 * (4 * s + w) ∨ 84 + 6 * (4 * s + w) + 6 ≤ k) → r' k = r k) : Bk g (va_up c (b + 13 + 6 * s + 2 + w) (obC o)) b r' := by
  refine h.stat hs ?_ (Fr.up (by omega) (by omega)) (fun k hk _ _ _ => hr k hk (by omega))
  rw [hr (69 + 3 * s) (by omega) (by omega), hr (69 + 3 * s + 1) (by omega) (by omega), hr (204 + s) (by omega) (by omega), hr (69 + 3 * s + 2) (by omega) (by omega)]
  exact (h.2.2.2.2 s hs).obs hw ho (fun v q hv e hq => hr _ (by omega) (by omega))
