/-! The base: the memory of the run as a map from numbers to cells (cell i lies at the address gz g + i), contracts over that map, rows of get, put, arrays, making, calls. -/
abbrev Gf : Type := va_G × (Nat → ClassId) × Nat × (Nat → Nat)
def gz (g : Gf) : Nat := g.2.2.1
abbrev Mp : Type := Nat → Option va_E
abbrev vwT (g : Gf) : List (ClassId × FieldType) := [(g.2.1 0, .int), (g.2.1 1, .boolean), (g.2.1 2, .char), (g.2.1 3, .object RX4), (g.2.1 4, .object RX6), (g.2.1 5, .object RX0), (g.2.1 6, .object RX5), (g.2.1 7, .object RX1)]
def mAf (g : Gf) : Nat → Prop := fun q => gz g ≤ q
def PR (g : Gf) (n : Nat) (c : Mp) (H : Heap) : Prop := H.size = gz g + n ∧ ∀ (i : Nat) (e : va_E), c i = some e → va_at g.1 vwCl (gz g + i, e) H
def nL : List (String × Nat × MethodName × String) := [("PlumbShaft$State", 113, yX3_init, "PlumbShaft"), ("PlumbShaft$State", 17, yX6_init, "PlumbShaft"), ("PlumbShaft$State", 24, yX0_init, "PlumbShaft"), ("PlumbShaft$Station", 17, yX1_init, "PlumbShaft"), ("PlumbShaft$Wire", 61, yX7_roundedToZero, "PlumbShaft"), ("PlumbShaft$Wire", 65, yX7_isWithin, "PlumbShaft")]
def fL : List (String × Nat × String × String × String × String) := [("PlumbShaft$Wire", 69, "PlumbShaft", "DIRECTION_X", "[I", "PlumbShaft"), ("PlumbShaft$Wire", 73, "PlumbShaft", "DIRECTION_Y", "[I", "PlumbShaft")]
def dXs : Nat → Int32 := fun j => [1, 1, 0, -1, -1, -1, 0, 1].getD j 0
def dYs : Nat → Int32 := fun j => [0, 1, 1, 1, 0, -1, -1, -1].getD j 0
def aoL : List String := [RX4, RX6, RX0, RX5, RX1]
def St (g : Gf) (U : State) : Prop :=
  ((∀ q ∈ nL, va_Nw (.methodLinkNest q.1 q.2.1 q.2.2.1 q.2.2.2) U) ∧ ∀ q ∈ fL, va_Nw (.fieldLinkNest q.1 q.2.1 q.2.2.1 q.2.2.2.1 q.2.2.2.2.1 q.2.2.2.2.2) U) ∧
  (va_Z "PlumbShaft" "DIRECTION_X" "[I" (.ref (g.2.2.2 0)) (mAf g) U U.heap ∧ va_T .int (g.2.2.2 0) 8 (fun j => .int (dXs j)) (mAf g) U U.heap) ∧
  (va_Z "PlumbShaft" "DIRECTION_Y" "[I" (.ref (g.2.2.2 1)) (mAf g) U U.heap ∧ va_T .int (g.2.2.2 1) 8 (fun j => .int (dYs j)) (mAf g) U U.heap) ∧
  (∃ xs : Nat → Int32, va_T .int (g.2.2.2 2) (g.2.2.2 3) (fun j => .int (xs j)) (mAf g) U U.heap) ∧
  (∀ C ∈ aoL, va_AO C U)
def Kn (g : Gf) (U : State) : Prop := va_K g.1 vwCl (vwT g) U ∧ St g U
theorem Kn.to {g : Gf} {s U : State} {H : Heap} {locs : List Loc} (h : Kn g s) (hS : va_S (mAf g) s.heap H locs) (hU : U.heap = H) (hW : s.WarmedH U.vm) : Kn g U := by
  obtain ⟨hK, ⟨h1, h1f⟩, ⟨h2, h3⟩, ⟨h4, h5⟩, ⟨xs, h6⟩, h10⟩ := h
  have hq : ∀ a : Nat, a < s.heap.size → ¬ mAf g a → U.heap[a]? = s.heap[a]? := fun a h1 h2 => by rw [hU]; exact hS.2.1 a h1 h2
  exact ⟨va_K.moved hW.alike hK, ⟨fun q hq => va_Nw.warmM hW (h1 q hq), fun q hq => va_Nw.warmF hW (h1f q hq)⟩, ⟨va_Z.moved hW.alike (h2.kept hq), va_T.moved hW.alike (h3.kept hq)⟩, ⟨va_Z.moved hW.alike (h4.kept hq), va_T.moved hW.alike (h5.kept hq)⟩, ⟨xs, va_T.moved hW.alike (h6.kept hq)⟩, fun C hC => va_AO.moved hW.alike (h10 C hC)⟩
theorem Kn.blind {g : Gf} {U : State} (h : Kn g U) (g' : JFrame) (mk : MethodId) (a : Array Value) : Kn g (U.calling g' mk a) := by
  obtain ⟨hK, ⟨h1, h1f⟩, ⟨h2, h3⟩, ⟨h4, h5⟩, ⟨xs, h6⟩, h10⟩ := h
  have hv : U.vm.Alike (U.calling g' mk a).vm := Vm.Alike.refl U.vm
  exact ⟨va_K.moved hv hK, ⟨fun q hq => va_Nw.same rfl (u := U) rfl (h1 q hq), fun q hq => va_Nw.same rfl (u := U) rfl (h1f q hq)⟩, ⟨va_Z.moved hv h2, va_T.moved hv h3⟩, ⟨va_Z.moved hv h4, va_T.moved hv h5⟩, ⟨xs, va_T.moved hv h6⟩, fun C hC => va_AO.moved hv (h10 C hC)⟩
theorem Kn.fl {g : Gf} {U : State} (h : Kn g U) {q : String × Nat × String × String × String × String} (hq : q ∈ fL) : va_Nw (.fieldLinkNest q.1 q.2.1 q.2.2.1 q.2.2.2.1 q.2.2.2.2.1 q.2.2.2.2.2) U := h.2.1.2 q hq
theorem Kn.dX {g : Gf} {U : State} (h : Kn g U) : va_Z "PlumbShaft" "DIRECTION_X" "[I" (.ref (g.2.2.2 0)) (mAf g) U U.heap ∧ va_T .int (g.2.2.2 0) 8 (fun j => .int (dXs j)) (mAf g) U U.heap := h.2.2.1
theorem Kn.dY {g : Gf} {U : State} (h : Kn g U) : va_Z "PlumbShaft" "DIRECTION_Y" "[I" (.ref (g.2.2.2 1)) (mAf g) U U.heap ∧ va_T .int (g.2.2.2 1) 8 (fun j => .int (dYs j)) (mAf g) U U.heap := h.2.2.2.1
theorem Kn.sc {g : Gf} {U : State} (h : Kn g U) : ∃ xs : Nat → Int32, va_T .int (g.2.2.2 2) (g.2.2.2 3) (fun j => .int (xs j)) (mAf g) U U.heap := h.2.2.2.2.1
theorem Kn.ao {g : Gf} {U : State} (h : Kn g U) {C : String} (hC : C ∈ aoL) : va_AO C U := h.2.2.2.2.2 C hC
theorem PR.at {g : Gf} {n : Nat} {c : Mp} {H : Heap} (h : PR g n c H) {i : Nat} {e : va_E} (hc : c i = some e) : va_P g.1 vwCl [(gz g + i, e)] H := by
  intro k q hk
  have hz : k < 1 := (List.getElem?_eq_some_iff.mp hk).1
  rw [show k = 0 by omega] at hk
  cases hk
  exact h.2 i e hc
theorem PR.lt {g : Gf} {n : Nat} {c : Mp} {H : Heap} (h : PR g n c H) {i : Nat} {e : va_E} (hc : c i = some e) : i < n := by
  have h1 := (h.2 i e hc).lt
  have h2 := h.1
  show i < n
  have h3 : gz g + i < H.size := h1
  omega
theorem PR.put {g : Gf} {n : Nat} {c : Mp} {H H1 : Heap} {i : Nat} {e : va_E} (h : PR g n c H) (he : va_at g.1 vwCl (gz g + i, e) H1) (z : H1.size = H.size) (oq : ∀ q : Nat, q ≠ gz g + i → H1[q]? = H[q]?) : PR g n (va_up c i (some e)) H1 := by
  refine ⟨z.trans h.1, fun j e' hj => ?_⟩
  by_cases hji : j = i
  · subst hji
    rw [show va_up c j (some e) j = some e from if_pos rfl] at hj
    cases hj
    exact he
  · rw [show va_up c i (some e) j = c j from if_neg hji] at hj
    exact (h.2 j e' hj).kept (oq _ (fun (hq : gz g + j = gz g + i) => hji (by omega)))
theorem PR.push {g : Gf} {n : Nat} {c : Mp} {H H1 : Heap} {e : va_E} (h : PR g n c H) (he : va_at g.1 vwCl (gz g + n, e) H1) (z : H1.size = H.size + 1) (oq : ∀ q : Nat, q < H.size → H1[q]? = H[q]?) : PR g (n + 1) (va_up c n (some e)) H1 := by
  refine ⟨by rw [z, h.1]; omega, fun j e' hj => ?_⟩
  by_cases hji : j = n
  · subst hji
    rw [show va_up c j (some e) j = some e from if_pos rfl] at hj
    cases hj
    exact he
  · rw [show va_up c n (some e) j = c j from if_neg hji] at hj
    exact (h.2 j e' hj).kept (oq _ (h.2 j e' hj).lt)
theorem mu_eq (c : Mp) (i : Nat) (e : Option va_E) : va_up c i e i = e := if_pos rfl
theorem mu_ne {c : Mp} {i j : Nat} (h : j ≠ i) (e : Option va_E) : va_up c i e j = c j := if_neg h
theorem mu_uu (c : Mp) (i : Nat) (e e' : Option va_E) : va_up (va_up c i e) i e' = va_up c i e' := by
  funext j
  by_cases h : j = i <;> simp [va_up, h]
theorem mu_comm {c : Mp} {i j : Nat} (h : i ≠ j) (e e' : Option va_E) : va_up (va_up c i e) j e' = va_up (va_up c j e') i e := by
  funext k
  by_cases h1 : k = i
  · subst h1; rw [mu_eq, mu_ne h, mu_eq]
  · by_cases h2 : k = j
    · subst h2; rw [mu_eq, mu_ne h1, mu_eq]
    · rw [mu_ne h2, mu_ne h1, mu_ne h1, mu_ne h2]
theorem mu_self {c : Mp} {i : Nat} {e : Option va_E} (h : c i = e) : va_up c i e = c := by
  funext j
  by_cases hj : j = i
  · subst hj; rw [mu_eq]; exact h.symm
  · rw [mu_ne hj]
def Hv (g : Gf) (s : State) (H : Heap) (locs : List Loc) (n : Nat) (c : Mp) : Prop := PR g n c H ∧ va_S (mAf g) s.heap H locs
abbrev Rm (fr lo mc ms : Nat) : Room := { frames := fr, cells := mc, slots := ms, locals := lo }
def Qi (g : Gf) (post : Int32 → Nat → Mp → Prop) : Array Value → State → Outcome → State → Prop := va_Qi (fun (r : Int32) (u : Nat × Mp) => post r u.1 u.2) (fun u t => PR g u.1 u.2 t.heap) (mAf g)
def Ql (g : Gf) (post : Int64 → Nat → Mp → Prop) : Array Value → State → Outcome → State → Prop := va_Ql (fun (r : Int64) (u : Nat × Mp) => post r u.1 u.2) (fun u t => PR g u.1 u.2 t.heap) (mAf g)
def Qv (g : Gf) (post : Nat → Mp → Prop) : Array Value → State → Outcome → State → Prop := va_Qv (fun (u : Nat × Mp) => post u.1 u.2) (fun u t => PR g u.1 u.2 t.heap) (mAf g)
def Qr (g : Gf) (post : Nat → Nat → Mp → Prop) : Array Value → State → Outcome → State → Prop := va_Qr (fun (u : Nat × Nat × Mp) => post u.1 u.2.1 u.2.2) (fun u a t => a = u.1 ∧ PR g u.2.1 u.2.2 t.heap) (mAf g)
/-- a contract: from the memory c of n cells, with the arguments av, the method comes back, and what it leaves is as Qc says -/
def Ct (l : Launch) (g : Gf) (y : MethodName) (ws : List Cond) (fr lo mc ms : Nat) (av : List Value) (n : Nat) (c : Mp) (Qc : Array Value → State → Outcome → State → Prop) : Prop :=
  Met l y ws (Rm fr lo mc ms) (va_Pc av (fun U => PR g n c U.heap ∧ Kn g U)) Qc mc ms (mAf g)
abbrev Fx (p : Program) (s : State) (m : MethodId) (args : Array Value) (meth : Method) (c0 : Code) (cc : ByteArray) (maxL : Nat) (ret : Option FieldType) (own : String) (ws : List Cond) (g : Gf) (nm : String) : Prop :=
  p.tables.exec = Jvm.exec ∧ c0.code = cc ∧ c0.maxLocals = maxL ∧ s.vm.findClass own = some m.cls ∧ (∀ w ∈ ws, w.before args s = true) ∧ meth.sig.returnType = ret ∧ meth.locks = false ∧ meth.name = nm ∧ Kn g s
theorem ent {l : Launch} {g : Gf} {y : MethodName} {ws ws' : List Cond} {fr lo mc ms : Nat} {av : List Value} {n : Nat} {c : Mp} {Qc : Array Value → State → Outcome → State → Prop} {cc : ByteArray} {maxL : Nat} {ret : Option FieldType} (hy : plainName y.cls = true) (hw : ws = Cond.code y cc maxL ret :: ws') (hlen : (lg_sl av).length ≤ maxL)
    (body : ∀ (p : Program) (e : Env) (s : State) (m : MethodId) (args : Array Value) (below : List Frame) (meth : Method) (c0 : Code), Fx p s m args meth c0 cc maxL ret y.cls ws g y.name → Hv g s s.heap [] n c → ∀ ls : Array Slot, lv_has ls maxL (lv_args 0 av) →
      W p l e (Rm fr lo mc ms) s m args below meth c0 s.heap [] 0 0 (MQ below Qc args s mc ms (mAf g)) (F0 m 0 ls [])) : Ct l g y ws fr lo mc ms av n c Qc := by
  refine Met.ofW (cc := cc) (maxL := maxL) (ret := ret) hy hw ?_
  intro p e s m args below meth c0 s₁ B hml hv
  obtain ⟨rfl, hP, hK⟩ := hv
  rw [lg_entry_eq]
  exact body p e s m av.toArray below meth c0 ⟨B.exec, B.bytes, hml, findClass_of_methodNamed B.named, atoms_spec (ws := ws) B.pre, B.returns, B.notSynchronized, (name_of_methodNamed B.named B.method).1, hK⟩ ⟨hP, va_S.rf⟩ _ (lv_entry av hlen)
section RT
variable {p : Program} {l : Launch} {e : Env} {R : Room} {s : State} {m : MethodId} {args : Array Value} {below : List Frame} {meth : Method} {c0 : Code} {H : Heap} {locs : List Loc} {cells slots : Nat} {Q : State → Prop}
variable {cc : ByteArray} {maxL pc : Nat} {ret : Option FieldType} {own nm : String} {Ts : List Cond} {g : Gf} {n : Nat} {c : Mp} {ls : Array Slot} {rest : List Value} {mc ms : Nat}
theorem ret_i {post : Int32 → Nat → Mp → Prop} {v : Int32} (F : Fx p s m args meth c0 cc maxL (some .int) own Ts g nm) (h : Hv g s H locs n c) (hk : cells ≤ mc) (hn : slots ≤ ms) (hdg : decode cc pc = .ok (.ireturn, 1)) (hp : post v n c) : W p l e R s m args below meth c0 H locs cells slots (MQ below (Qi g post) args s mc ms (mAf g)) (F0 m pc ls [.int v]) :=
  W.widen hk hn (W.iret F.1 F.2.1 F.2.2.2.2.2.1 (fun t ht _ => ⟨⟨v, (n, c), rfl, hp, by show PR g n c t.heap; rw [ht]; exact h.1⟩, h.2.F ht⟩) h.2.2.2 hdg F.2.2.2.2.2.2.1)
theorem ret_z {post : Int32 → Nat → Mp → Prop} {v : Int32} {ty : FieldType} (F : Fx p s m args meth c0 cc maxL (some ty) own Ts g nm) (h : Hv g s H locs n c) (hv : narrow ty (.int v) = .int v) (hk : cells ≤ mc) (hn : slots ≤ ms) (hdg : decode cc pc = .ok (.ireturn, 1)) (hp : post v n c) : W p l e R s m args below meth c0 H locs cells slots (MQ below (Qi g post) args s mc ms (mAf g)) (F0 m pc ls [.int v]) :=
  W.widen hk hn (W.zret F.1 F.2.1 F.2.2.2.2.2.1 hv (fun t ht _ => ⟨⟨v, (n, c), rfl, hp, by show PR g n c t.heap; rw [ht]; exact h.1⟩, h.2.F ht⟩) h.2.2.2 hdg F.2.2.2.2.2.2.1)
theorem ret_l {post : Int64 → Nat → Mp → Prop} {v : Int64} (F : Fx p s m args meth c0 cc maxL (some .long) own Ts g nm) (h : Hv g s H locs n c) (hk : cells ≤ mc) (hn : slots ≤ ms) (hdg : decode cc pc = .ok (.lreturn, 1)) (hp : post v n c) : W p l e R s m args below meth c0 H locs cells slots (MQ below (Ql g post) args s mc ms (mAf g)) (F0 m pc ls [.long v]) :=
  W.widen hk hn (W.lret F.1 F.2.1 F.2.2.2.2.2.1 (fun t ht _ => ⟨⟨v, (n, c), rfl, hp, by show PR g n c t.heap; rw [ht]; exact h.1⟩, h.2.F ht⟩) h.2.2.2 hdg F.2.2.2.2.2.2.1)
theorem ret_v {post : Nat → Mp → Prop} (F : Fx p s m args meth c0 cc maxL none own Ts g nm) (h : Hv g s H locs n c) (hk : cells ≤ mc) (hn : slots ≤ ms) (hdg : decode cc pc = .ok (.return_, 1)) (hp : post n c) : W p l e R s m args below meth c0 H locs cells slots (MQ below (Qv g post) args s mc ms (mAf g)) (F0 m pc ls []) :=
  W.widen hk hn (W.vret F.1 F.2.1 F.2.2.2.2.2.1 (fun t ht _ => ⟨⟨(n, c), rfl, hp, by show PR g n c t.heap; rw [ht]; exact h.1⟩, h.2.F ht⟩) h.2.2.2 hdg F.2.2.2.2.2.2.1)
theorem ret_r {post : Nat → Nat → Mp → Prop} {v : Nat} {rt : FieldType} (F : Fx p s m args meth c0 cc maxL (some rt) own Ts g nm) (hrt : (∃ n, rt = .object n) ∨ ∃ t, rt = .array t) (h : Hv g s H locs n c) (hk : cells ≤ mc) (hn : slots ≤ ms) (hdg : decode cc pc = .ok (.areturn, 1)) (hp : post v n c) : W p l e R s m args below meth c0 H locs cells slots (MQ below (Qr g post) args s mc ms (mAf g)) (F0 m pc ls [.ref v]) :=
  W.widen hk hn (W.aret F.1 F.2.1 F.2.2.2.2.2.1 hrt (Or.inr ⟨v, rfl⟩) (fun t ht _ => ⟨⟨(v, n, c), v, rfl, hp, rfl, by show PR g n c t.heap; rw [ht]; exact h.1⟩, h.2.F ht⟩) h.2.2.2 hdg F.2.2.2.2.2.2.1)
-- rows over the memory
theorem r_get (F : Fx p s m args meth c0 cc maxL ret own Ts g nm) (h : Hv g s H locs n c) {C : String} {T : u_T} {N ci index i : Nat} {fs : List Value} (hin : ∀ w ∈ u_ws C T N, w ∈ Ts) (hc : vwCl[ci]? = some (C, T, N)) (hm : c i = some (.inr (ci, fs))) (k : Nat) (hk : k < N) (hl : Cond.fieldLink own index (T k).1 (T k).2.1 (T k).2.2.1 ∈ Ts) {v : Value} (hv : fs[k]? = some v) (hdg : decode cc pc = .ok (.getfield index, 3))
    (kk : W p l e R s m args below meth c0 H locs cells slots Q (F0 m (pc + 3) ls (v :: rest))) : W p l e R s m args below meth c0 H locs cells slots Q (F0 m pc ls (.ref (gz g + i) :: rest)) :=
  va_get F.1 F.2.1 F.2.2.2.2.1 hin F.2.2.2.1 F.2.2.2.2.2.2.2.2.1 (h.1.at hm) 0 rfl hc k hk (F.2.2.2.2.1 _ hl) (fun _ h9 => h9) hv hdg kk
theorem r_put (F : Fx p s m args meth c0 cc maxL ret own Ts g nm) (h : Hv g s H locs n c) {C : String} {T : u_T} {N ci index i : Nat} {fs : List Value} (hin : ∀ w ∈ u_ws C T N, w ∈ Ts) (ty0 : Nat → FieldType) (hty : ∀ k, k < N → parseFieldDescriptor (T k).2.2.1 = some (ty0 k)) (hnm : ∀ a, a < N → ∀ b, b < N → a ≠ b → (T a).2.1 ≠ (T b).2.1) (hc : vwCl[ci]? = some (C, T, N)) (hm : c i = some (.inr (ci, fs))) (k : Nat) (hk : k < N) (hl : Cond.fieldLink own index (T k).1 (T k).2.1 (T k).2.2.1 ∈ Ts) (hfin : (T k).2.2.2 = false) {v : Value} (hn : narrow (ty0 k) v = v) (hfit : fits (ty0 k) v = true) {fs' : List Value} (hlen : k < fs.length) (hfs : fs.set k v = fs') (hdg : decode cc pc = .ok (.putfield index, 3))
    (kk : ∀ (H1 : Heap) (locs1 : List Loc), Hv g s H1 locs1 n (va_up c i (some (.inr (ci, fs')))) → W p l e R s m args below meth c0 H1 locs1 cells slots Q (F0 m (pc + 3) ls rest)) : W p l e R s m args below meth c0 H locs cells slots Q (F0 m pc ls (v :: .ref (gz g + i) :: rest)) := by
  have hts := F.2.2.2.2.1
  have hK := F.2.2.2.2.2.2.2.2.1
  have hap := va_apart (own := own) hts hin ty0 hty hnm hK hc
  obtain ⟨r, h1, cell, q1, q2, q3, q4⟩ := h.1.2 i _ hm
  have hr : r = (C, T, N) := Option.some.inj (h1.symm.trans hc)
  subst hr
  obtain ⟨hS, hfc, kC, hkC, hkind⟩ := hK.1 ci _ hc
  obtain ⟨cf, kf, fi, f, hi, hsl⟩ := hS k hk
  have hlay := hts _ (hin _ (u_in_lay hk))
  unfold u_lay at hlay
  rw [if_neg (by rw [hfin]; decide)] at hlay
  have hst := (u_facts hfc hkC (u_lays hts hin hk) hi).1
  have h6 := u_store hfc hkC hkind hlay hi (hty k hk) hn hfit
  refine W.putK F.1 F.2.1 (f := f) ⟨F.2.2.2.1, hts _ hl, ⟨_, _, _, hi⟩, hst⟩ (by rw [q2]; exact h6) q1 q3 (by rw [hsl]; exact k2_hasslot (q4 k hk)) rfl rfl hdg fun H' e1 e2 e3 => ?_
  rw [hsl] at e1 ⊢
  subst hfs
  exact kk H' _ ⟨h.1.put ⟨_, hc, t_OB.to (V := updV (vp_V fs) k v) ⟨_, e1, q2, q3, t_set q4 hap hk v⟩ (fun j _ => vp_updV_set hlen v j)⟩ e2 e3, h.2.put e2 e3 (by show gz g ≤ gz g + i; omega)⟩
theorem r_putF (F : Fx p s m args meth c0 cc maxL ret own Ts g nm) (h : Hv g s H locs n c) {C : String} {T : u_T} {N ci index i : Nat} {fs : List Value} (hin : ∀ w ∈ u_ws C T N, w ∈ Ts) (ty0 : Nat → FieldType) (hty : ∀ k, k < N → parseFieldDescriptor (T k).2.2.1 = some (ty0 k)) (hnm : ∀ a, a < N → ∀ b, b < N → a ≠ b → (T a).2.1 ≠ (T b).2.1) (hc : vwCl[ci]? = some (C, T, N)) (hm : c i = some (.inr (ci, fs))) (k : Nat) (hk : k < N) (hl : Cond.fieldLink own index (T k).1 (T k).2.1 (T k).2.2.1 ∈ Ts) (hfin : (T k).2.2.2 = true) (hnm2 : nm = "<init>") (hdecl : (T k).1 = own) {v : Value} (hn : narrow (ty0 k) v = v) (hfit : fits (ty0 k) v = true) {fs' : List Value} (hlen : k < fs.length) (hfs : fs.set k v = fs') (hdg : decode cc pc = .ok (.putfield index, 3))
    (kk : ∀ (H1 : Heap) (locs1 : List Loc), Hv g s H1 locs1 n (va_up c i (some (.inr (ci, fs')))) → W p l e R s m args below meth c0 H1 locs1 cells slots Q (F0 m (pc + 3) ls rest)) : W p l e R s m args below meth c0 H locs cells slots Q (F0 m pc ls (v :: .ref (gz g + i) :: rest)) := by
  have hts := F.2.2.2.2.1
  have hK := F.2.2.2.2.2.2.2.2.1
  have hap := va_apart (own := own) hts hin ty0 hty hnm hK hc
  obtain ⟨r, h1, cell, q1, q2, q3, q4⟩ := h.1.2 i _ hm
  have hr : r = (C, T, N) := Option.some.inj (h1.symm.trans hc)
  subst hr
  obtain ⟨hS, hfc, kC, hkC, hkind⟩ := hK.1 ci _ hc
  obtain ⟨cf, kf, fi, f, hi, hsl⟩ := hS k hk
  have hlay := hts _ (hin _ (u_in_lay hk))
  unfold u_lay at hlay
  rw [if_pos hfin] at hlay
  have hst := (u_facts hfc hkC (u_lays hts hin hk) hi).1
  have hcf : m.cls = cf := by
    obtain ⟨_, _, c', _, _, _, -, -, hf', -, -, -, hown2, -⟩ := Cond.laysFinal_spec hlay
    have e1 : c' = cf := by have := hi.symm.trans hf'; simp at this; exact this.1.symm
    rw [hdecl] at hown2
    rw [← e1]; exact Option.some.inj (F.2.2.2.1.symm.trans hown2)
  have h6 := u_fits hfc hkC hkind (Or.inr hlay) hi (hty k hk) hn hfit
  refine W.putFinK F.1 F.2.1 F.2.2.2.1 (hts _ hl) hi hst hcf (F.2.2.2.2.2.2.2.1.trans hnm2) (by rw [q2]; exact h6) q1 q3 (by rw [hsl]; exact k2_hasslot (q4 k hk)) rfl rfl hdg fun H' e1 e2 e3 => ?_
  rw [hsl] at e1 ⊢
  subst hfs
  exact kk H' _ ⟨h.1.put ⟨_, hc, t_OB.to (V := updV (vp_V fs) k v) ⟨_, e1, q2, q3, t_set q4 hap hk v⟩ (fun j _ => vp_updV_set hlen v j)⟩ e2 e3, h.2.put e2 e3 (by show gz g ≤ gz g + i; omega)⟩
theorem r_iald (F : Fx p s m args meth c0 cc maxL ret own Ts g nm) (h : Hv g s H locs n c) {i N : Nat} {f : Nat → Int32} (hm : c i = some (.inl (g.2.1 0, N, .inl f))) {j : Int32} (hj : vp_in j N) (hdg : decode cc pc = .ok (.iaload, 1))
    (kk : W p l e R s m args below meth c0 H locs cells slots Q (F0 m (pc + 1) ls (.int (f j.toNatClampNeg) :: rest))) : W p l e R s m args below meth c0 H locs cells slots Q (F0 m pc ls (.int j :: .ref (gz g + i) :: rest)) :=
  va_iald F.1 F.2.1 F.2.2.2.2.2.2.2.2.1 (h.1.at hm) 0 0 rfl rfl hj hdg kk
theorem r_zald (F : Fx p s m args meth c0 cc maxL ret own Ts g nm) (h : Hv g s H locs n c) {i N : Nat} {f : Nat → Int32} (hm : c i = some (.inl (g.2.1 1, N, .inl f))) {j : Int32} (hj : vp_in j N) (hdg : decode cc pc = .ok (.baload, 1))
    (kk : W p l e R s m args below meth c0 H locs cells slots Q (F0 m (pc + 1) ls (.int (f j.toNatClampNeg) :: rest))) : W p l e R s m args below meth c0 H locs cells slots Q (F0 m pc ls (.int j :: .ref (gz g + i) :: rest)) :=
  va_zald F.1 F.2.1 F.2.2.2.2.2.2.2.2.1 (h.1.at hm) 0 1 rfl rfl hj hdg kk
theorem r_cald (F : Fx p s m args meth c0 cc maxL ret own Ts g nm) (h : Hv g s H locs n c) {i N : Nat} {f : Nat → Int32} (hm : c i = some (.inl (g.2.1 2, N, .inl f))) {j : Int32} (hj : vp_in j N) (hdg : decode cc pc = .ok (.caload, 1))
    (kk : W p l e R s m args below meth c0 H locs cells slots Q (F0 m (pc + 1) ls (.int (f j.toNatClampNeg) :: rest))) : W p l e R s m args below meth c0 H locs cells slots Q (F0 m pc ls (.int j :: .ref (gz g + i) :: rest)) :=
  va_cald F.1 F.2.1 F.2.2.2.2.2.2.2.2.1 (h.1.at hm) 0 2 rfl rfl hj hdg kk
theorem r_aald (F : Fx p s m args meth c0 cc maxL ret own Ts g nm) (h : Hv g s H locs n c) {i N t0 : Nat} {cA : ClassId} {C : String} {f : Nat → Option Nat} (hm : c i = some (.inl (cA, N, .inr (.inr (.inr (.inr f)))))) (ht : (vwT g)[t0]? = some (cA, .object C)) {j : Int32} (hj : vp_in j N) {a : Nat} (ha : f j.toNatClampNeg = some a) (hdg : decode cc pc = .ok (.aaload, 1))
    (kk : W p l e R s m args below meth c0 H locs cells slots Q (F0 m (pc + 1) ls (.ref a :: rest))) : W p l e R s m args below meth c0 H locs cells slots Q (F0 m pc ls (.int j :: .ref (gz g + i) :: rest)) := by
  refine va_aldq F.1 F.2.1 F.2.2.2.2.2.2.2.2.1 (h.1.at hm) 0 t0 rfl ht hj hdg ?_
  rw [ha]
  exact kk
theorem r_alen (F : Fx p s m args meth c0 cc maxL ret own Ts g nm) (h : Hv g s H locs n c) {i t0 : Nat} {cA : ClassId} {x : vp_A} {ty : FieldType} (hm : c i = some (.inl (cA, x))) (ht : (vwT g)[t0]? = some (cA, ty)) {v : Int32} (hv : Int32.ofNat x.1 = v) (hdg : decode cc pc = .ok (.arraylength, 1))
    (kk : W p l e R s m args below meth c0 H locs cells slots Q (F0 m (pc + 1) ls (.int v :: rest))) : W p l e R s m args below meth c0 H locs cells slots Q (F0 m pc ls (.ref (gz g + i) :: rest)) :=
  va_alen F.1 F.2.1 F.2.2.2.2.2.2.2.2.1 (h.1.at hm) 0 t0 rfl ht hv hdg kk
theorem r_iast (F : Fx p s m args meth c0 cc maxL ret own Ts g nm) (h : Hv g s H locs n c) {i N : Nat} {f : Nat → Int32} (hm : c i = some (.inl (g.2.1 0, N, .inl f))) {j x : Int32} (hj : vp_in j N) (hdg : decode cc pc = .ok (.iastore, 1))
    (kk : ∀ (H1 : Heap) (locs1 : List Loc), Hv g s H1 locs1 n (va_up c i (some (.inl (g.2.1 0, N, .inl (upd f j.toNatClampNeg x))))) → W p l e R s m args below meth c0 H1 locs1 cells slots Q (F0 m (pc + 1) ls rest)) : W p l e R s m args below meth c0 H locs cells slots Q (F0 m pc ls (.int x :: .int j :: .ref (gz g + i) :: rest)) := by
  have hK := F.2.2.2.2.2.2.2.2.1
  refine W.iast F.1 F.2.1 (h.1.2 i _ hm) ((hK.2 0 _ rfl).1 N (fun j => .int (f j))) (fun q => by cases q) (by show ¬ (j < 0 ∨ (arrV _ _ _).slots.size ≤ _); rw [arrV_size]; exact hj) rfl rfl hdg fun H1 e z oq => ?_
  refine kk H1 _ ⟨h.1.put ?_ z oq, h.2.put z oq (by show gz g ≤ gz g + i; omega)⟩
  show H1[gz g + i]? = some (vp_cell _ _)
  rw [e, vp_cell_i, vp_cell_i, arrV_store]
  congr 2
  funext q
  by_cases hq : q = j.toNatClampNeg
  · subst hq
    simp [updV, upd]
  · simp [updV, upd, hq]
theorem r_zast (F : Fx p s m args meth c0 cc maxL ret own Ts g nm) (h : Hv g s H locs n c) {i N : Nat} {f : Nat → Int32} (hm : c i = some (.inl (g.2.1 1, N, .inl f))) {j x : Int32} (hj : vp_in j N) (hx : narrow .boolean (.int x) = .int x) (hdg : decode cc pc = .ok (.bastore, 1))
    (kk : ∀ (H1 : Heap) (locs1 : List Loc), Hv g s H1 locs1 n (va_up c i (some (.inl (g.2.1 1, N, .inl (upd f j.toNatClampNeg x))))) → W p l e R s m args below meth c0 H1 locs1 cells slots Q (F0 m (pc + 1) ls rest)) : W p l e R s m args below meth c0 H locs cells slots Q (F0 m pc ls (.int x :: .int j :: .ref (gz g + i) :: rest)) := by
  have hK := F.2.2.2.2.2.2.2.2.1
  refine W.zast F.1 F.2.1 (h.1.2 i _ hm) ((hK.2 1 _ rfl).1 N (fun j => .int (f j))) (fun q => by cases q) (by show ¬ (j < 0 ∨ (arrV _ _ _).slots.size ≤ _); rw [arrV_size]; exact hj) rfl rfl hdg fun H1 e z oq => ?_
  refine kk H1 _ ⟨h.1.put ?_ z oq, h.2.put z oq (by show gz g ≤ gz g + i; omega)⟩
  show H1[gz g + i]? = some (vp_cell _ _)
  rw [e, hx, vp_cell_i, vp_cell_i, arrV_store]
  congr 2
  funext q
  by_cases hq : q = j.toNatClampNeg
  · subst hq
    simp [updV, upd]
  · simp [updV, upd, hq]
theorem r_cast (F : Fx p s m args meth c0 cc maxL ret own Ts g nm) (h : Hv g s H locs n c) {i N : Nat} {f : Nat → Int32} (hm : c i = some (.inl (g.2.1 2, N, .inl f))) {j x : Int32} (hj : vp_in j N) (hx : narrow .char (.int x) = .int x) (hdg : decode cc pc = .ok (.castore, 1))
    (kk : ∀ (H1 : Heap) (locs1 : List Loc), Hv g s H1 locs1 n (va_up c i (some (.inl (g.2.1 2, N, .inl (upd f j.toNatClampNeg x))))) → W p l e R s m args below meth c0 H1 locs1 cells slots Q (F0 m (pc + 1) ls rest)) : W p l e R s m args below meth c0 H locs cells slots Q (F0 m pc ls (.int x :: .int j :: .ref (gz g + i) :: rest)) := by
  have hK := F.2.2.2.2.2.2.2.2.1
  refine W.cast F.1 F.2.1 (h.1.2 i _ hm) ((hK.2 2 _ rfl).1 N (fun j => .int (f j))) (fun q => by cases q) (by show ¬ (j < 0 ∨ (arrV _ _ _).slots.size ≤ _); rw [arrV_size]; exact hj) rfl rfl hdg fun H1 e z oq => ?_
  refine kk H1 _ ⟨h.1.put ?_ z oq, h.2.put z oq (by show gz g ≤ gz g + i; omega)⟩
  show H1[gz g + i]? = some (vp_cell _ _)
  rw [e, hx, vp_cell_i, vp_cell_i, arrV_store]
  congr 2
  funext q
  by_cases hq : q = j.toNatClampNeg
  · subst hq
    simp [updV, upd]
  · simp [updV, upd, hq]
theorem r_aast (F : Fx p s m args meth c0 cc maxL ret own Ts g nm) (h : Hv g s H locs n c) {i v N t0 ci : Nat} {cA : ClassId} {r : vw_C} {vs : List Value} {f : Nat → Option Nat} (hm : c i = some (.inl (cA, N, .inr (.inr (.inr (.inr f)))))) (ht : (vwT g)[t0]? = some (cA, .object r.1)) (hv : c v = some (.inr (ci, vs))) (hc : vwCl[ci]? = some r) {j : Int32} (hj : vp_in j N) (hdg : decode cc pc = .ok (.aastore, 1))
    (kk : ∀ (H1 : Heap) (locs1 : List Loc), Hv g s H1 locs1 n (va_up c i (some (.inl (cA, N, .inr (.inr (.inr (.inr (va_up f j.toNatClampNeg (some (gz g + v))))))))))  → W p l e R s m args below meth c0 H1 locs1 cells slots Q (F0 m (pc + 1) ls rest)) : W p l e R s m args below meth c0 H locs cells slots Q (F0 m pc ls (.ref (gz g + v) :: .int j :: .ref (gz g + i) :: rest)) := by
  have hK := F.2.2.2.2.2.2.2.2.1
  have hlt : j.toNatClampNeg < N := Nat.not_le.mp fun q => hj (Or.inr q)
  have h0 : ¬ j < 0 := fun q => hj (Or.inl q)
  obtain ⟨r', hr', cellV, g1, g2, g3, -⟩ := h.1.2 v _ hv
  have hcls := (hK.1 ci r hc).2
  obtain ⟨kA, comp, k1, k2, k3, -⟩ := (hK.2 t0 _ ht).2
  have hcomp : comp = g.1.1 ci := Option.some.inj (k3.symm.trans hcls.1)
  subst hcomp
  obtain ⟨kC, hkC, -⟩ := hcls.2
  refine W.aast F.1 F.2.1 (h.1.2 i _ hm) (fun q h => by cases h) (fun h => by cases h) k1 k2 rfl hkC ⟨h0, by show _ < (arrV _ _ _).slots.size; rw [arrV_size]; exact hlt⟩ g1 (fun q h => by rw [g3] at h; cases h) (by rw [g2]; exact hkC) (by rw [g2]; exact va_assign hcls) rfl rfl hdg fun H1 e z oq => ?_
  refine kk H1 _ ⟨h.1.put ?_ z oq, h.2.put z oq (by show gz g ≤ gz g + i; omega)⟩
  show H1[gz g + i]? = some (vp_cell _ _)
  rw [e, vp_cell_q, vp_cell_q, arrV_store]
  congr 2
  funext q
  by_cases hq : q = j.toNatClampNeg
  · subst hq
    simp [updV, va_up, va_rf]
  · simp [updV, va_up, hq]
theorem r_new (F : Fx p s m args meth c0 cc maxL ret own Ts g nm) (h : Hv g s H locs n c) {C : String} {T : u_T} {N ci index : Nat} (hin : ∀ w ∈ u_ws C T N, w ∈ Ts) (ty : Nat → FieldType) (hty : ∀ k, k < N → parseFieldDescriptor (T k).2.2.1 = some (ty k)) (hcl : Cond.classLink own index C ∈ Ts) (hinst : Cond.instantiable C N ∈ Ts) (hini : Cond.initialized C ∈ Ts) (hc : vwCl[ci]? = some (C, T, N)) {fs : List Value} (hfs : ∀ j, j < N → defaultValue (ty j) = vp_V fs j) (hcells : cells + 1 ≤ R.cells) (hslots : slots + N ≤ R.slots) (hdg : decode cc pc = .ok (.new index, 3))
    (kk : ∀ (H1 : Heap), Hv g s H1 locs (n + 1) (va_up c n (some (.inr (ci, fs)))) → W p l e R s m args below meth c0 H1 locs (cells + 1) (slots + N) Q (F0 m (pc + 3) ls (.ref (gz g + n) :: rest))) : W p l e R s m args below meth c0 H locs cells slots Q (F0 m pc ls rest) := by
  have hts := F.2.2.2.2.1
  have hKn := F.2.2.2.2.2.2.2.2.1.1 ci _ hc
  refine W.newcK F.1 F.2.1 F.2.2.2.1 (hts _ hcl) (hts _ hinst) (hts _ hini) rfl hdg hcells hslots hKn.2.1 h.1.1 fun H1 kC hkC e1 z1 o1 => ?_
  refine kk H1 ⟨h.1.push ⟨_, hc, (u_born ty hts hin hKn hkC e1 hty).to hfs⟩ (by rw [z1, h.1.1]) (fun q hq => o1 q (by rw [← h.1.1]; exact hq)), ⟨Nat.le_trans h.2.1 (by have := h.1.1; omega), fun x h1 h2 => (o1 x (by rw [← h.1.1]; exact Nat.lt_of_lt_of_le h1 h.2.1)).trans (h.2.2.1 x h1 h2), h.2.2.2⟩⟩
theorem r_newa (F : Fx p s m args meth c0 cc maxL ret own Ts g nm) (h : Hv g s H locs n c) {atype : ArrayType} (harr : Cond.arrayClass (newarray.typeOf atype) ∈ Ts) {ty : FieldType} (hty : newarray.typeOf atype = ty) (t0 : Nat) {cA : ClassId} (ht : (vwT g)[t0]? = some (cA, ty)) (hnm : ∀ U : State, va_RA U cA ty → U.vm.findClass ("[" ++ ty.toString) = some cA)
    {x : Int32} {N : Nat} {a0 : vp_A} (ha : vp_cell cA a0 = arrV cA N (fun _ => defaultValue ty)) (hn : ¬ x < 0) (hN : x.toNatClampNeg = N) (hbytes : N * componentBytes ty ≤ 536870912) (hcells : cells + 1 ≤ R.cells) (hslots : slots + N ≤ R.slots) (hdg : decode cc pc = .ok (.newarray atype, 2))
    (kk : ∀ (H1 : Heap), Hv g s H1 locs (n + 1) (va_up c n (some (.inl (cA, a0)))) → W p l e R s m args below meth c0 H1 locs (cells + 1) (slots + N) Q (F0 m (pc + 2) ls (.ref (gz g + n) :: rest))) : W p l e R s m args below meth c0 H locs cells slots Q (F0 m pc ls (.int x :: rest)) := by
  subst hty
  have hts := F.2.2.2.2.1
  have hK := F.2.2.2.2.2.2.2.2.1
  refine va_newaK F.1 F.2.1 (hts _ harr) rfl hdg rfl hn hN hbytes hcells hslots h.1.1 fun H1 cA' e1 z1 o1 hAr hNm => ?_
  have hcc : cA' = cA := Option.some.inj (hNm.symm.trans (hnm s (hK.2 t0 _ ht).2))
  subst hcc
  refine kk H1 ⟨h.1.push ?_ (by rw [z1, h.1.1]) (fun q hq => o1 q (by rw [← h.1.1]; exact hq)), ⟨Nat.le_trans h.2.1 (by have := h.1.1; omega), fun x h1 h2 => (o1 x (by rw [← h.1.1]; exact Nat.lt_of_lt_of_le h1 h.2.1)).trans (h.2.2.1 x h1 h2), h.2.2.2⟩⟩
  show H1[gz g + n]? = some (vp_cell _ _)
  rw [ha]
  exact e1
theorem r_newq (F : Fx p s m args meth c0 cc maxL ret own Ts g nm) (h : Hv g s H locs n c) {C : String} {index : Nat} (hcl : Cond.classLink own index C ∈ Ts) (hover : C ∈ aoL) (t0 : Nat) {cA : ClassId} (ht : (vwT g)[t0]? = some (cA, .object C))
    {x : Int32} {N : Nat} (hn : ¬ x < 0) (hN : x.toNatClampNeg = N) (hbytes : N * 4 ≤ 536870912) (hcells : cells + 1 ≤ R.cells) (hslots : slots + N ≤ R.slots) (hdg : decode cc pc = .ok (.anewarray index, 3))
    (kk : ∀ (H1 : Heap), Hv g s H1 locs (n + 1) (va_up c n (some (.inl (cA, N, .inr (.inr (.inr (.inr (fun _ => none)))))))) → W p l e R s m args below meth c0 H1 locs (cells + 1) (slots + N) Q (F0 m (pc + 3) ls (.ref (gz g + n) :: rest))) : W p l e R s m args below meth c0 H locs cells slots Q (F0 m pc ls (.int x :: rest)) := by
  subst hN
  have hts := F.2.2.2.2.1
  have hK := F.2.2.2.2.2.2.2.2.1
  refine W.anew F.1 F.2.1 F.2.2.2.1 (hts _ hcl) (F.2.2.2.2.2.2.2.2.ao hover).use rfl hdg rfl hn hbytes hcells hslots fun cA' kA comp f1 f2 f3 f4 => ?_
  obtain ⟨kA', comp', k1, k2, k3, k4⟩ := (hK.2 t0 _ ht).2
  have hcc : cA' = cA := Option.some.inj (f1.symm.trans k4)
  subst hcc
  generalize hH1 : H.push ({ cls := cA', slots := Array.replicate x.toNatClampNeg .null, vm := .none } : Cell) = H1
  have z1 : H1.size = H.size + 1 := by rw [← hH1, Array.size_push]
  have e1 : H1[H.size]? = some (arrV cA' x.toNatClampNeg (fun _ => .null)) := by rw [← hH1, Array.getElem?_push_size, ← arrV_new]
  have o1 : ∀ q : Nat, q < H.size → H1[q]? = H[q]? := fun q hq => by rw [← hH1, Array.getElem?_push, if_neg (Nat.ne_of_lt hq)]
  rw [h.1.1]
  refine kk H1 ⟨h.1.push ?_ z1 o1, ⟨Nat.le_trans h.2.1 (by omega), fun x h1 h2 => (o1 x (Nat.lt_of_lt_of_le h1 h.2.1)).trans (h.2.2.1 x h1 h2), h.2.2.2⟩⟩
  show H1[gz g + n]? = some (vp_cell _ _)
  rw [← h.1.1, e1]
  rfl
-- calls
variable {y : MethodName} {bytes : ByteArray} {mL fr lo index mc1 ms1 : Nat} {rt : Option FieldType} {ws ws' : List Cond} {Qc : Array Value → State → Outcome → State → Prop} {As st0 : List Value} {i : Nat} {n' : Nat} {c' : Mp}
theorem Ct.blind {l : Launch} {g : Gf} {n : Nat} {c : Mp} {av : List Value} : FrameBlind (va_Pc av (fun U => PR g n c U.heap ∧ Kn g U)) := fun a U g' mk q => ⟨q.1, q.2.1, q.2.2.blind g' mk a⟩
theorem Hv.pre {g : Gf} {s : State} {H : Heap} {locs : List Loc} {n : Nat} {c : Mp} (h : Hv g s H locs n c) (hK : Kn g s) {av : List Value} (U : State) (hU : U.heap = H) (hW : s.WarmedH U.vm) : va_Pc av (fun U => PR g n c U.heap ∧ Kn g U) av.toArray U := ⟨rfl, by rw [hU]; exact h.1, hK.to h.2 hU hW⟩
theorem ru_V (F : Fx p s m args meth c0 cc maxL ret own Ts g nm) (h : Hv g s H locs n c) {ci : Nat} {q : vw_C} {fs : List Value} (hm : c i = some (.inr (ci, fs))) (hc : vwCl[ci]? = some q) (hM : Ct l g y ws fr lo mc1 ms1 (.ref (gz g + i) :: As) n c Qc) (hG : GoodIn Ts (wsV own index q.1 y ws)) (hw : ws = Cond.code y bytes mL rt :: ws') (k : Nat) (hd : y.cls = q.1 ∧ y.cls ≠ "java/lang/invoke/MethodHandle" ∧ y.cls ≠ "java/lang/invoke/VarHandle" ∧ (parseMethodDescriptor y.desc).map (fun d => d.parameters.length) = some k) (hk : As.length = k) (hR : fr + 1 ≤ R.frames ∧ 8 + (mL + 11) + lo ≤ R.locals) (hst : st0 = As.reverse ++ .ref (gz g + i) :: rest) (hls : ls.size = maxL) (hwt : (rest.map fun v => v.category).sum ≤ 8) (hcs : cells + mc1 ≤ R.cells ∧ slots + ms1 ≤ R.slots) (hdg : decode cc pc = .ok (.invokevirtual index, 3)) :
    va_Run p l e R s m args below meth c0 H locs cells slots mc1 ms1 (F0 m pc ls st0) rest (Qc (Value.ref (gz g + i) :: As).toArray) (mAf g) := by
  subst hst
  obtain ⟨hx, hb, hml, hown, hts, -, -, -, hK⟩ := id F
  exact va_runV ⟨hx, hb, hml, hown, hts⟩ hM (cwV k hts hG hw rfl rfl hd hR) ⟨Ct.blind (l := l), va_recv (q0 := 0) (fs := fs) hK.1 (h.1.at hm) hc rfl, fun U hU hW => h.pre hK U hU hW⟩ rfl hk hls rfl (lv_room hwt) hdg hcs
theorem ru_S (F : Fx p s m args meth c0 cc maxL ret own Ts g nm) (h : Hv g s H locs n c) (hM : Ct l g y ws fr lo mc1 ms1 As n c Qc) (hG : GoodIn Ts (va_wsS own index y ws)) (hw : ws = Cond.code y bytes mL rt :: ws') (k : Nat) (hd : y.cls ≠ "java/lang/invoke/MethodHandle" ∧ y.cls ≠ "java/lang/invoke/VarHandle" ∧ (parseMethodDescriptor y.desc).map (fun d => d.parameters.length) = some k) (hk : As.length = k) (hR : fr + 1 ≤ R.frames ∧ 8 + (mL + 11) + lo ≤ R.locals) (hst : st0 = As.reverse ++ rest) (hls : ls.size = maxL) (hwt : (rest.map fun v => v.category).sum ≤ 8) (hcs : cells + mc1 ≤ R.cells ∧ slots + ms1 ≤ R.slots) (hdg : decode cc pc = .ok (.invokestatic index, 3)) :
    va_Run p l e R s m args below meth c0 H locs cells slots mc1 ms1 (F0 m pc ls st0) rest (Qc As.toArray) (mAf g) := by
  subst hst
  obtain ⟨hx, hb, hml, hown, hts, -, -, -, hK⟩ := id F
  exact va_runS ⟨hx, hb, hml, hown, hts⟩ hM (va_cwS k hts hG hw rfl rfl hd hR) ⟨Ct.blind (l := l), fun U hU hW => h.pre hK U hU hW⟩ rfl hk hls rfl (lv_room hwt) hdg hcs
theorem ru_I (F : Fx p s m args meth c0 cc maxL ret own Ts g nm) (h : Hv g s H locs n c) (hM : Ct l g y ws fr lo mc1 ms1 (.ref (gz g + i) :: As) n c Qc) (hG : GoodIn Ts ws) (hw : ws = Cond.code y bytes mL none :: ws') (hini : Cond.initialized y.cls ∈ Ts) (hl : Cond.methodLink own index y ∈ Ts) (hii : Cond.instanceMethod y ∈ Ts) (hy1 : y.name = "<init>") (k : Nat) (hd : y.cls ≠ "java/lang/invoke/MethodHandle" ∧ y.cls ≠ "java/lang/invoke/VarHandle" ∧ (parseMethodDescriptor y.desc).map (fun d => d.parameters.length) = some k) (hk : As.length = k) (hR : fr + 1 ≤ R.frames ∧ 8 + (mL + 11) + lo ≤ R.locals) (hst : st0 = As.reverse ++ .ref (gz g + i) :: rest) (hls : ls.size = maxL) (hwt : (rest.map fun v => v.category).sum ≤ 8) (hcs : cells + mc1 ≤ R.cells ∧ slots + ms1 ≤ R.slots) (hdg : decode cc pc = .ok (.invokespecial index, 3)) :
    va_Run p l e R s m args below meth c0 H locs cells slots mc1 ms1 (F0 m pc ls st0) rest (Qc (Value.ref (gz g + i) :: As).toArray) (mAf g) := by
  subst hst
  obtain ⟨hx, hb, hml, hown, hts, -, -, -, hK⟩ := id F
  exact va_runI ⟨hx, hb, hml, hown, hts⟩ hM (cwI k hts hG hw rfl rfl (hts _ hini) (hts _ hl) (hts _ hii) hy1 hd hR) ⟨Ct.blind (l := l), fun U hU hW => h.pre hK U hU hW⟩ rfl hk hls rfl (lv_room hwt) hdg hcs
theorem ru_SN (F : Fx p s m args meth c0 cc maxL ret own Ts g nm) (h : Hv g s H locs n c) (hM : Ct l g y ws fr lo mc1 ms1 As n c Qc) {host : String} (hnl : (own, index, y, host) ∈ nL) (hG : GoodIn Ts ws) (hw : ws = Cond.code y bytes mL rt :: ws') (hini : Cond.initialized y.cls ∈ Ts) (hstt : Cond.static y ∈ Ts) (k : Nat) (hd : y.cls ≠ "java/lang/invoke/MethodHandle" ∧ y.cls ≠ "java/lang/invoke/VarHandle" ∧ (parseMethodDescriptor y.desc).map (fun d => d.parameters.length) = some k) (hk : As.length = k) (hR : fr + 1 ≤ R.frames ∧ 8 + (mL + 11) + lo ≤ R.locals) (hst : st0 = As.reverse ++ rest) (hls : ls.size = maxL) (hwt : (rest.map fun v => v.category).sum ≤ 8) (hcs : cells + mc1 ≤ R.cells ∧ slots + ms1 ≤ R.slots) (hdg : decode cc pc = .ok (.invokestatic index, 3)) :
    va_Run p l e R s m args below meth c0 H locs cells slots mc1 ms1 (F0 m pc ls st0) rest (Qc As.toArray) (mAf g) := by
  subst hst
  obtain ⟨hx, hb, hml, hown, hts, -, -, -, hK⟩ := id F
  exact va_runSN ⟨hx, hb, hml, hown, hts⟩ hM ⟨va_cnB k hts hG hw rfl rfl (hK.2.1.1 _ hnl) (hts _ hini) hd hR, hts _ hstt, trivial⟩ ⟨Ct.blind (l := l), fun U hU hW => h.pre hK U hU hW⟩ rfl hk hls rfl (lv_room hwt) hdg hcs
theorem ru_IN (F : Fx p s m args meth c0 cc maxL ret own Ts g nm) (h : Hv g s H locs n c) (hM : Ct l g y ws fr lo mc1 ms1 (.ref (gz g + i) :: As) n c Qc) {host : String} (hnl : (own, index, y, host) ∈ nL) (hG : GoodIn Ts ws) (hw : ws = Cond.code y bytes mL none :: ws') (hini : Cond.initialized y.cls ∈ Ts) (hii : Cond.instanceMethod y ∈ Ts) (hy1 : y.name = "<init>") (k : Nat) (hd : y.cls ≠ "java/lang/invoke/MethodHandle" ∧ y.cls ≠ "java/lang/invoke/VarHandle" ∧ (parseMethodDescriptor y.desc).map (fun d => d.parameters.length) = some k) (hk : As.length = k) (hR : fr + 1 ≤ R.frames ∧ 8 + (mL + 11) + lo ≤ R.locals) (hst : st0 = As.reverse ++ .ref (gz g + i) :: rest) (hls : ls.size = maxL) (hwt : (rest.map fun v => v.category).sum ≤ 8) (hcs : cells + mc1 ≤ R.cells ∧ slots + ms1 ≤ R.slots) (hdg : decode cc pc = .ok (.invokespecial index, 3)) :
    va_Run p l e R s m args below meth c0 H locs cells slots mc1 ms1 (F0 m pc ls st0) rest (Qc (Value.ref (gz g + i) :: As).toArray) (mAf g) := by
  subst hst
  obtain ⟨hx, hb, hml, hown, hts, -, -, -, hK⟩ := id F
  exact va_runIN ⟨hx, hb, hml, hown, hts⟩ hM ⟨va_cnB k hts hG hw rfl rfl (hK.2.1.1 _ hnl) (hts _ hini) hd hR, hy1, hts _ hii⟩ ⟨Ct.blind (l := l), fun U hU hW => h.pre hK U hU hW⟩ rfl hk hls rfl (lv_room hwt) hdg hcs
variable {a : Array Value}
theorem u_i {post : Int32 → Nat → Mp → Prop} (hr : va_Run p l e R s m args below meth c0 H locs cells slots mc1 ms1 (F0 m pc ls st0) rest (Qi g post a) (mAf g)) (h : Hv g s H locs n c) (kk : ∀ (r : Int32) (n' : Nat) (c' : Mp) (H1 : Heap) (locs1 : List Loc), post r n' c' → Hv g s H1 locs1 n' c' → W p l e R s m args below meth c0 H1 locs1 (cells + mc1) (slots + ms1) Q (F0 m (pc + 3) ls (.int r :: rest))) : W p l e R s m args below meth c0 H locs cells slots Q (F0 m pc ls st0) :=
  va_calli hr h.2 (fun _ _ z => z) (fun _ z => z) (fun r u t H1 locs1 ht _ hp hB _ _ hS => kk r u.1 u.2 H1 locs1 hp ⟨by rw [← ht]; exact hB, hS⟩)
theorem u_l {post : Int64 → Nat → Mp → Prop} (hr : va_Run p l e R s m args below meth c0 H locs cells slots mc1 ms1 (F0 m pc ls st0) rest (Ql g post a) (mAf g)) (h : Hv g s H locs n c) (kk : ∀ (r : Int64) (n' : Nat) (c' : Mp) (H1 : Heap) (locs1 : List Loc), post r n' c' → Hv g s H1 locs1 n' c' → W p l e R s m args below meth c0 H1 locs1 (cells + mc1) (slots + ms1) Q (F0 m (pc + 3) ls (.long r :: rest))) : W p l e R s m args below meth c0 H locs cells slots Q (F0 m pc ls st0) :=
  va_calll hr h.2 (fun _ _ z => z) (fun _ z => z) (fun r u t H1 locs1 ht _ hp hB _ _ hS => kk r u.1 u.2 H1 locs1 hp ⟨by rw [← ht]; exact hB, hS⟩)
theorem u_v {post : Nat → Mp → Prop} (hr : va_Run p l e R s m args below meth c0 H locs cells slots mc1 ms1 (F0 m pc ls st0) rest (Qv g post a) (mAf g)) (h : Hv g s H locs n c) (kk : ∀ (n' : Nat) (c' : Mp) (H1 : Heap) (locs1 : List Loc), post n' c' → Hv g s H1 locs1 n' c' → W p l e R s m args below meth c0 H1 locs1 (cells + mc1) (slots + ms1) Q (F0 m (pc + 3) ls rest)) : W p l e R s m args below meth c0 H locs cells slots Q (F0 m pc ls st0) :=
  va_callv hr h.2 (fun _ _ z => z) (fun _ z => z) (fun u t H1 locs1 ht _ hp hB _ _ hS => kk u.1 u.2 H1 locs1 hp ⟨by rw [← ht]; exact hB, hS⟩)
theorem u_r {post : Nat → Nat → Mp → Prop} (hr : va_Run p l e R s m args below meth c0 H locs cells slots mc1 ms1 (F0 m pc ls st0) rest (Qr g post a) (mAf g)) (h : Hv g s H locs n c) (kk : ∀ (r : Nat) (n' : Nat) (c' : Mp) (H1 : Heap) (locs1 : List Loc), post r n' c' → Hv g s H1 locs1 n' c' → W p l e R s m args below meth c0 H1 locs1 (cells + mc1) (slots + ms1) Q (F0 m (pc + 3) ls (.ref r :: rest))) : W p l e R s m args below meth c0 H locs cells slots Q (F0 m pc ls st0) :=
  va_callr hr h.2 (fun _ _ z => z) (fun _ z => z) (fun u ra t H1 locs1 ht _ hp hB _ _ hS => by
    obtain ⟨hra, hB⟩ := hB
    subst hra
    exact kk u.1 u.2.1 u.2.2 H1 locs1 hp ⟨by rw [← ht]; exact hB, hS⟩)
theorem r_top {v w : Value} (hv : v = w) (kk : W p l e R s m args below meth c0 H locs cells slots Q (F0 m pc ls (w :: rest))) : W p l e R s m args below meth c0 H locs cells slots Q (F0 m pc ls (v :: rest)) := by
  subst hv; exact kk
theorem r_mem {c1 : Mp} (h : Hv g s H locs n c) (hc : c = c1) (kk : Hv g s H locs n c1 → W p l e R s m args below meth c0 H locs cells slots Q (F0 m pc ls rest)) : W p l e R s m args below meth c0 H locs cells slots Q (F0 m pc ls rest) := by
  subst hc; exact kk h
theorem r_tti (F : Fx p s m args meth c0 cc maxL ret own Ts g nm) (h : Hv g s H locs n c) {t N : Nat} {f : Nat → Int32} (hT : va_T .int t N (fun j => .int (f j)) (mAf g) s s.heap) {j : Int32} (hj : vp_in j N) (hdg : decode cc pc = .ok (.iaload, 1))
    (kk : W p l e R s m args below meth c0 H locs cells slots Q (F0 m (pc + 1) ls (.int (f j.toNatClampNeg) :: rest))) : W p l e R s m args below meth c0 H locs cells slots Q (F0 m pc ls (.int j :: .ref t :: rest)) :=
  va_ti F.1 F.2.1 hT h.2 hj rfl hdg kk
end RT
