/-! Rows by the number of a place; what a row of an array may be called. -/
section RN
variable {p : Program} {l : Launch} {e : Env} {R : Room} {s : State} {m : MethodId} {args : Array Value} {below : List Frame} {meth : Method} {c0 : Code} {H : Heap} {locs : List Loc} {cells slots : Nat} {Q : State → Prop}
variable {cc : ByteArray} {maxL pc : Nat} {ret : Option FieldType} {own nm : String} {Ts : List Cond} {g : Gf} {n : Nat} {c : Mp} {ls : Array Slot} {rest : List Value} {mc ms : Nat}
theorem r_ialdN (F : Fx p s m args meth c0 cc maxL ret own Ts g nm) (h : Hv g s H locs n c) {i N : Nat} {f : Nat → Int32} (hm : c i = some (.inl (g.2.1 0, N, .inl f))) {j : Int32} {k : Nat} (hj : j = nI k) (hk : k < N) (hN : N < 2 ^ 31) (hdg : decode cc pc = .ok (.iaload, 1))
    (kk : W p l e R s m args below meth c0 H locs cells slots Q (F0 m (pc + 1) ls (.int (f k) :: rest))) : W p l e R s m args below meth c0 H locs cells slots Q (F0 m pc ls (.int j :: .ref (gz g + i) :: rest)) := by
  subst hj
  refine r_iald F h hm (vp_in_nI hk hN) hdg ?_
  rw [nI_clamp (by omega)]
  exact kk
theorem r_zaldN (F : Fx p s m args meth c0 cc maxL ret own Ts g nm) (h : Hv g s H locs n c) {i N : Nat} {f : Nat → Int32} (hm : c i = some (.inl (g.2.1 1, N, .inl f))) {j : Int32} {k : Nat} (hj : j = nI k) (hk : k < N) (hN : N < 2 ^ 31) (hdg : decode cc pc = .ok (.baload, 1))
    (kk : W p l e R s m args below meth c0 H locs cells slots Q (F0 m (pc + 1) ls (.int (f k) :: rest))) : W p l e R s m args below meth c0 H locs cells slots Q (F0 m pc ls (.int j :: .ref (gz g + i) :: rest)) := by
  subst hj
  refine r_zald F h hm (vp_in_nI hk hN) hdg ?_
  rw [nI_clamp (by omega)]
  exact kk
theorem r_caldN (F : Fx p s m args meth c0 cc maxL ret own Ts g nm) (h : Hv g s H locs n c) {i N : Nat} {f : Nat → Int32} (hm : c i = some (.inl (g.2.1 2, N, .inl f))) {j : Int32} {k : Nat} (hj : j = nI k) (hk : k < N) (hN : N < 2 ^ 31) (hdg : decode cc pc = .ok (.caload, 1))
    (kk : W p l e R s m args below meth c0 H locs cells slots Q (F0 m (pc + 1) ls (.int (f k) :: rest))) : W p l e R s m args below meth c0 H locs cells slots Q (F0 m pc ls (.int j :: .ref (gz g + i) :: rest)) := by
  subst hj
  refine r_cald F h hm (vp_in_nI hk hN) hdg ?_
  rw [nI_clamp (by omega)]
  exact kk
theorem r_iastN (F : Fx p s m args meth c0 cc maxL ret own Ts g nm) (h : Hv g s H locs n c) {i N : Nat} {f : Nat → Int32} (hm : c i = some (.inl (g.2.1 0, N, .inl f))) {j x : Int32} {k : Nat} (hj : j = nI k) (hk : k < N) (hN : N < 2 ^ 31) (hdg : decode cc pc = .ok (.iastore, 1)) {f' : Nat → Int32} (hf : upd f k x = f')
    (kk : ∀ (H1 : Heap) (locs1 : List Loc), Hv g s H1 locs1 n (va_up c i (some (.inl (g.2.1 0, N, .inl f')))) → W p l e R s m args below meth c0 H1 locs1 cells slots Q (F0 m (pc + 1) ls rest)) : W p l e R s m args below meth c0 H locs cells slots Q (F0 m pc ls (.int x :: .int j :: .ref (gz g + i) :: rest)) := by
  subst hj
  subst hf
  refine r_iast F h hm (vp_in_nI hk hN) hdg ?_
  rw [nI_clamp (by omega)]
  exact kk
theorem r_zastN (F : Fx p s m args meth c0 cc maxL ret own Ts g nm) (h : Hv g s H locs n c) {i N : Nat} {f : Nat → Int32} (hm : c i = some (.inl (g.2.1 1, N, .inl f))) {j x : Int32} {k : Nat} (hj : j = nI k) (hk : k < N) (hN : N < 2 ^ 31) (hx : narrow .boolean (.int x) = .int x) (hdg : decode cc pc = .ok (.bastore, 1)) {f' : Nat → Int32} (hf : upd f k x = f')
    (kk : ∀ (H1 : Heap) (locs1 : List Loc), Hv g s H1 locs1 n (va_up c i (some (.inl (g.2.1 1, N, .inl f')))) → W p l e R s m args below meth c0 H1 locs1 cells slots Q (F0 m (pc + 1) ls rest)) : W p l e R s m args below meth c0 H locs cells slots Q (F0 m pc ls (.int x :: .int j :: .ref (gz g + i) :: rest)) := by
  subst hj
  subst hf
  refine r_zast F h hm (vp_in_nI hk hN) hx hdg ?_
  rw [nI_clamp (by omega)]
  exact kk
theorem r_castN (F : Fx p s m args meth c0 cc maxL ret own Ts g nm) (h : Hv g s H locs n c) {i N : Nat} {f : Nat → Int32} (hm : c i = some (.inl (g.2.1 2, N, .inl f))) {j x : Int32} {k : Nat} (hj : j = nI k) (hk : k < N) (hN : N < 2 ^ 31) (hx : narrow .char (.int x) = .int x) (hdg : decode cc pc = .ok (.castore, 1)) {f' : Nat → Int32} (hf : upd f k x = f')
    (kk : ∀ (H1 : Heap) (locs1 : List Loc), Hv g s H1 locs1 n (va_up c i (some (.inl (g.2.1 2, N, .inl f')))) → W p l e R s m args below meth c0 H1 locs1 cells slots Q (F0 m (pc + 1) ls rest)) : W p l e R s m args below meth c0 H locs cells slots Q (F0 m pc ls (.int x :: .int j :: .ref (gz g + i) :: rest)) := by
  subst hj
  subst hf
  refine r_cast F h hm (vp_in_nI hk hN) hx hdg ?_
  rw [nI_clamp (by omega)]
  exact kk
theorem PR.arr {g : Gf} {n : Nat} {c : Mp} {H : Heap} {i N : Nat} {cA : ClassId} {f f' : Nat → Int32} (h : PR g n c H) (hm : c i = some (.inl (cA, N, .inl f))) (hf : ∀ k : Nat, k < N → f k = f' k) : PR g n (va_up c i (some (.inl (cA, N, .inl f')))) H := by
  refine h.put ?_ rfl (fun _ _ => rfl)
  have h1 := h.2 i _ hm
  show H[gz g + i]? = some (vp_cell _ _)
  have h2 : H[gz g + i]? = some (vp_cell cA (N, .inl f)) := h1
  rw [h2, vp_cell_i, vp_cell_i]
  unfold arrV
  congr 3
  funext j
  show Value.int (f j.val) = Value.int (f' j.val)
  rw [hf j.val j.isLt]
theorem PR.arq {g : Gf} {n : Nat} {c : Mp} {H : Heap} {i N : Nat} {cA : ClassId} {f f' : Nat → Option Nat} (h : PR g n c H) (hm : c i = some (.inl (cA, N, .inr (.inr (.inr (.inr f)))))) (hf : ∀ k : Nat, k < N → f k = f' k) : PR g n (va_up c i (some (.inl (cA, N, .inr (.inr (.inr (.inr f'))))))) H := by
  refine h.put ?_ rfl (fun _ _ => rfl)
  have h1 := h.2 i _ hm
  show H[gz g + i]? = some (vp_cell _ _)
  have h2 : H[gz g + i]? = some (vp_cell cA (N, .inr (.inr (.inr (.inr f))))) := h1
  rw [h2, vp_cell_q, vp_cell_q]
  unfold arrV
  congr 3
  funext j
  show va_rf (f j.val) = va_rf (f' j.val)
  rw [hf j.val j.isLt]
theorem r_arr {i N : Nat} {cA : ClassId} {f : Nat → Int32} (f' : Nat → Int32) (h : Hv g s H locs n c) (hm : c i = some (.inl (cA, N, .inl f))) (hf : ∀ k : Nat, k < N → f k = f' k) (kk : Hv g s H locs n (va_up c i (some (.inl (cA, N, .inl f')))) → W p l e R s m args below meth c0 H locs cells slots Q (F0 m pc ls rest)) : W p l e R s m args below meth c0 H locs cells slots Q (F0 m pc ls rest) := kk ⟨h.1.arr hm hf, h.2⟩
theorem r_arq {i N : Nat} {cA : ClassId} {f : Nat → Option Nat} (f' : Nat → Option Nat) (h : Hv g s H locs n c) (hm : c i = some (.inl (cA, N, .inr (.inr (.inr (.inr f)))))) (hf : ∀ k : Nat, k < N → f k = f' k) (kk : Hv g s H locs n (va_up c i (some (.inl (cA, N, .inr (.inr (.inr (.inr f'))))))) → W p l e R s m args below meth c0 H locs cells slots Q (F0 m pc ls rest)) : W p l e R s m args below meth c0 H locs cells slots Q (F0 m pc ls rest) := kk ⟨h.1.arq hm hf, h.2⟩
end RN
/-- as ent, for a member of the JDK that the machine has no entry for -/
theorem entF {l : Launch} {g : Gf} {y : MethodName} {ws ws' : List Cond} {fr lo mc ms : Nat} {av : List Value} {n : Nat} {c : Mp} {Qc : Array Value → State → Outcome → State → Prop} {cc : ByteArray} {maxL : Nat} {ret : Option FieldType} (hy : plainFor y = true) (hw : ws = Cond.code y cc maxL ret :: ws') (hlen : (lg_sl av).length ≤ maxL)
    (body : ∀ (p : Program) (e : Env) (s : State) (m : MethodId) (args : Array Value) (below : List Frame) (meth : Method) (c0 : Code), Fx p s m args meth c0 cc maxL ret y.cls ws g y.name → Hv g s s.heap [] n c → ∀ ls : Array Slot, lv_has ls maxL (lv_args 0 av) →
      W p l e (Rm fr lo mc ms) s m args below meth c0 s.heap [] 0 0 (MQ below Qc args s mc ms (mAf g)) (F0 m 0 ls [])) : Ct l g y ws fr lo mc ms av n c Qc := by
  refine va_MetF (cc := cc) (maxL := maxL) (ret := ret) hy hw ?_
  intro p e s m args below meth c0 s₁ B hml hv
  obtain ⟨rfl, hP, hK⟩ := hv
  rw [lg_entry_eq]
  exact body p e s m av.toArray below meth c0 ⟨B.exec, B.bytes, hml, findClass_of_methodNamed B.named, atoms_spec (ws := ws) B.pre, B.returns, B.notSynchronized, (name_of_methodNamed B.named B.method).1, hK⟩ ⟨hP, va_S.rf⟩ _ (lv_entry av hlen)
section RE
variable {p : Program} {l : Launch} {e : Env} {R : Room} {s : State} {m : MethodId} {args : Array Value} {below : List Frame} {meth : Method} {c0 : Code} {H : Heap} {locs : List Loc} {cells slots : Nat} {Q : State → Prop}
variable {pc : Nat} {g : Gf} {n n2 : Nat} {c c2 : Mp} {ls : Array Slot} {rest st0 : List Value} {mc1 ms1 : Nat} {a : Array Value}
theorem u_iE {v : Int32} (hr : va_Run p l e R s m args below meth c0 H locs cells slots mc1 ms1 (F0 m pc ls st0) rest (Qi g (fun r n' c' => r = v ∧ n' = n2 ∧ c' = c2) a) (mAf g)) (h : Hv g s H locs n c) (kk : ∀ (H1 : Heap) (locs1 : List Loc), Hv g s H1 locs1 n2 c2 → W p l e R s m args below meth c0 H1 locs1 (cells + mc1) (slots + ms1) Q (F0 m (pc + 3) ls (.int v :: rest))) : W p l e R s m args below meth c0 H locs cells slots Q (F0 m pc ls st0) :=
  u_i hr h (fun r n' c' H1 locs1 hp h1 => by
    obtain ⟨e1, e2, e3⟩ := hp
    rw [e2, e3] at h1
    rw [e1]
    exact kk H1 locs1 h1)
theorem u_lE {v : Int64} (hr : va_Run p l e R s m args below meth c0 H locs cells slots mc1 ms1 (F0 m pc ls st0) rest (Ql g (fun r n' c' => r = v ∧ n' = n2 ∧ c' = c2) a) (mAf g)) (h : Hv g s H locs n c) (kk : ∀ (H1 : Heap) (locs1 : List Loc), Hv g s H1 locs1 n2 c2 → W p l e R s m args below meth c0 H1 locs1 (cells + mc1) (slots + ms1) Q (F0 m (pc + 3) ls (.long v :: rest))) : W p l e R s m args below meth c0 H locs cells slots Q (F0 m pc ls st0) :=
  u_l hr h (fun r n' c' H1 locs1 hp h1 => by
    obtain ⟨e1, e2, e3⟩ := hp
    rw [e2, e3] at h1
    rw [e1]
    exact kk H1 locs1 h1)
theorem u_vE (hr : va_Run p l e R s m args below meth c0 H locs cells slots mc1 ms1 (F0 m pc ls st0) rest (Qv g (fun n' c' => n' = n2 ∧ c' = c2) a) (mAf g)) (h : Hv g s H locs n c) (kk : ∀ (H1 : Heap) (locs1 : List Loc), Hv g s H1 locs1 n2 c2 → W p l e R s m args below meth c0 H1 locs1 (cells + mc1) (slots + ms1) Q (F0 m (pc + 3) ls rest)) : W p l e R s m args below meth c0 H locs cells slots Q (F0 m pc ls st0) :=
  u_v hr h (fun n' c' H1 locs1 hp h1 => by
    obtain ⟨e2, e3⟩ := hp
    rw [e2, e3] at h1
    exact kk H1 locs1 h1)
theorem u_rE {v : Nat} (hr : va_Run p l e R s m args below meth c0 H locs cells slots mc1 ms1 (F0 m pc ls st0) rest (Qr g (fun r n' c' => r = v ∧ n' = n2 ∧ c' = c2) a) (mAf g)) (h : Hv g s H locs n c) (kk : ∀ (H1 : Heap) (locs1 : List Loc), Hv g s H1 locs1 n2 c2 → W p l e R s m args below meth c0 H1 locs1 (cells + mc1) (slots + ms1) Q (F0 m (pc + 3) ls (.ref v :: rest))) : W p l e R s m args below meth c0 H locs cells slots Q (F0 m pc ls st0) :=
  u_r hr h (fun r n' c' H1 locs1 hp h1 => by
    obtain ⟨e1, e2, e3⟩ := hp
    rw [e2, e3] at h1
    rw [e1]
    exact kk H1 locs1 h1)
end RE
theorem fa_lit (n : Nat) : (OfNat.ofNat n : Int32) = nI n := rfl
-- two families of the kit's plain facts, pasted
def fa_fill {α : Type} (f g : Nat → α) (i : Nat) : Nat → α := fun k => if k < i then f k else g k
theorem fa_fill_0 {α : Type} (f g : Nat → α) : fa_fill f g 0 = g := funext fun k => if_neg (Nat.not_lt_zero k)
theorem fa_fill_in {α : Type} {f g : Nat → α} {i k : Nat} (h : k < i) : fa_fill f g i k = f k := if_pos h
theorem fa_fill_out {α : Type} {f g : Nat → α} {i k : Nat} (h : i ≤ k) : fa_fill f g i k = g k := if_neg (Nat.not_lt.mpr h)
theorem fa_fill_succ (f g : Nat → Int32) (i : Nat) : upd (fa_fill f g i) i (f i) = fa_fill f g (i + 1) := by
  funext k
  by_cases e : k = i
  · subst e
    rw [pk_us]
    exact (if_pos (Nat.lt_succ_self k)).symm
  · rw [pk_un e]
    by_cases h : k < i
    · rw [fa_fill_in h, fa_fill_in (Nat.lt_succ_of_lt h)]
    · rw [fa_fill_out (Nat.le_of_not_lt h), fa_fill_out (by omega)]
/-- a store that changes nothing -/
def fb_put {α : Type} (f g : Nat → α) (a n : Nat) : Nat → α := fun k => if a ≤ k ∧ k < a + n then g (k - a) else f k
theorem fb_put_0 {α : Type} (f g : Nat → α) (a : Nat) : fb_put f g a 0 = f := funext fun k => if_neg (by omega)
theorem fb_put_in {α : Type} {f g : Nat → α} {a n k : Nat} (h1 : a ≤ k) (h2 : k < a + n) : fb_put f g a n k = g (k - a) := if_pos ⟨h1, h2⟩
theorem fb_put_out {α : Type} {f g : Nat → α} {a n k : Nat} (h : k < a ∨ a + n ≤ k) : fb_put f g a n k = f k := if_neg (by omega)
theorem fb_put_succ (f g : Nat → Int32) (a n : Nat) : upd (fb_put f g a n) (a + n) (g n) = fb_put f g a (n + 1) := by
  funext k
  by_cases h : k = a + n
  · subst h
    simp [upd, fb_put]
  · by_cases h1 : a ≤ k ∧ k < a + n
    · have h2 : a ≤ k ∧ k < a + (n + 1) := by omega
      simp only [upd, fb_put, if_neg h, if_pos h1, if_pos h2]
    · have h2 : ¬ (a ≤ k ∧ k < a + (n + 1)) := by omega
      simp only [upd, fb_put, if_neg h, if_neg h1, if_neg h2]
