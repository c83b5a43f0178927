/-! The start of the law: what the machine holds there. -/
theorem arr_c {s : State} {args : Array Value} {ty : FieldType} (h : (Cond.arrayClass ty).before args s = true) : ∃ cA : ClassId, ArrOfT s cA ty ∧ s.vm.findClass ("[" ++ ty.toString) = some cA := by
  obtain ⟨cA, kA, comp, h1, h2, h3⟩ := Cond.arrayClass_spec h
  exact ⟨cA, fun n z => ⟨fun k h => (by cases h), kA, h2, comp, h3⟩, h1⟩
theorem arr_o {s : State} {C : String} (h : va_AO C s) : ∃ cA : ClassId, ArrOfT s cA (.object C) ∧ va_RA s cA (.object C) := by
  obtain ⟨comp, c, k, h1, h2, h3, h4, h5⟩ := Cond.arrayOver_spec h
  exact ⟨c, fun N z => ⟨(fun k h => by cases h), k, h3, comp, h4⟩, k, comp, h3, h4, h1, h5⟩
abbrev flS : List Cond := flatC (Jvm.Cond.and given_1 narrow_1)
set_option maxRecDepth 100000 in
theorem st_dX : Cond.arrayOf (.static "PlumbShaft" "DIRECTION_X" "[I") .int ∈ flS ∧ Cond.eq (.length (.static "PlumbShaft" "DIRECTION_X" "[I")) (.int 8) ∈ flS ∧ ∀ j : Nat, j < 8 → Cond.eq (.elem (.static "PlumbShaft" "DIRECTION_X" "[I") (.int (Int32.ofNat j))) (.int (dXs j)) ∈ flS := by decide +kernel
set_option maxRecDepth 100000 in
theorem st_dY : Cond.arrayOf (.static "PlumbShaft" "DIRECTION_Y" "[I") .int ∈ flS ∧ Cond.eq (.length (.static "PlumbShaft" "DIRECTION_Y" "[I")) (.int 8) ∈ flS ∧ ∀ j : Nat, j < 8 → Cond.eq (.elem (.static "PlumbShaft" "DIRECTION_Y" "[I") (.int (Int32.ofNat j))) (.int (dYs j)) ∈ flS := by decide +kernel
theorem st_ao : ∀ C ∈ aoL, Cond.arrayOver (.object C) ∈ lw_tbl := by
  refine List.forall_mem_cons.mpr ⟨List.mem_of_getElem? (i := 218) (by decide +kernel), List.forall_mem_cons.mpr ⟨List.mem_of_getElem? (i := 40) (by decide +kernel), List.forall_mem_cons.mpr ⟨List.mem_of_getElem? (i := 98) (by decide +kernel), List.forall_mem_cons.mpr ⟨List.mem_of_getElem? (i := 118) (by decide +kernel), List.forall_mem_cons.mpr ⟨List.mem_of_getElem? (i := 125) (by decide +kernel), fun _ h => absurd h List.not_mem_nil⟩⟩⟩⟩⟩
theorem st_nl : ∀ q ∈ nL, Cond.methodLinkNest q.1 q.2.1 q.2.2.1 q.2.2.2 ∈ lw_tbl :=
  List.forall_mem_cons.mpr ⟨List.mem_of_getElem? (i := 621) (by decide +kernel), List.forall_mem_cons.mpr ⟨List.mem_of_getElem? (i := 42) (by decide +kernel), List.forall_mem_cons.mpr ⟨List.mem_of_getElem? (i := 100) (by decide +kernel), List.forall_mem_cons.mpr ⟨List.mem_of_getElem? (i := 127) (by decide +kernel), List.forall_mem_cons.mpr ⟨List.mem_of_getElem? (i := 487) (by decide +kernel), List.forall_mem_cons.mpr ⟨List.mem_of_getElem? (i := 478) (by decide +kernel), fun _ h => absurd h List.not_mem_nil⟩⟩⟩⟩⟩⟩
theorem st_fl : ∀ q ∈ fL, Cond.fieldLinkNest q.1 q.2.1 q.2.2.1 q.2.2.2.1 q.2.2.2.2.1 q.2.2.2.2.2 ∈ lw_tbl :=
  List.forall_mem_cons.mpr ⟨List.mem_of_getElem? (i := 479) (by decide +kernel), List.forall_mem_cons.mpr ⟨List.mem_of_getElem? (i := 481) (by decide +kernel), fun _ h => absurd h List.not_mem_nil⟩⟩
theorem eight8 {P : Nat → Prop} (h0 : P 0) (h1 : P 1) (h2 : P 2) (h3 : P 3) (h4 : P 4) (h5 : P 5) (h6 : P 6) (h7 : P 7) : ∀ k : Nat, k < 8 → P k
  | 0, _ => h0
  | 1, _ => h1
  | 2, _ => h2
  | 3, _ => h3
  | 4, _ => h4
  | 5, _ => h5
  | 6, _ => h6
  | 7, _ => h7
  | k + 8, h => absurd h (by omega)
set_option maxHeartbeats 4000000 in
set_option maxRecDepth 100000 in
theorem kn_start {s : State} {b L : Nat} {xs : Nat → Int32} (hts : ∀ w ∈ lw_tbl, w.before #[Value.ref b] s = true) (hgv : (Jvm.Cond.and given_1 narrow_1).before #[Value.ref b] s = true) (hX : va_X b L xs s s.heap) (hbl : b < s.heap.size) : ∃ g : Gf, gz g = s.heap.size ∧ g.2.2.2 2 = b ∧ Kn g s := by
  have hs := flat_of_before _ hgv
  have hA : ∀ a : Nat, a < s.heap.size → ¬ (fun q : Nat => s.heap.size ≤ q) a := fun a h z => Nat.not_le.mpr h z
  obtain ⟨c0, i0, k0⟩ := u_known (C := RX0) (T := TX0) (N := 4) (n := 4) hts (fun w hw => lwG_in w (hi_X0 w hw)) (hts (.instantiable RX0 4) (List.mem_of_getElem? (i := 99) (by decide +kernel)))
  obtain ⟨c1, i1, k1⟩ := u_known (C := RX1) (T := TX1) (N := 6) (n := 6) hts (fun w hw => lwG_in w (hi_X1 w hw)) (hts (.instantiable RX1 6) (List.mem_of_getElem? (i := 126) (by decide +kernel)))
  obtain ⟨c2, i2, k2⟩ := u_known (C := RX2) (T := TX2) (N := 6) (n := 6) hts (fun w hw => lwG_in w (hi_X2 w hw)) (hts (.instantiable RX2 6) (List.mem_of_getElem? (i := 220) (by decide +kernel)))
  obtain ⟨c3, i3, k3⟩ := u_known (C := RX3) (T := TX3) (N := 4) (n := 4) hts (fun w hw => lwG_in w (hi_X3 w hw)) (hts (.instantiable RX3 4) (List.mem_of_getElem? (i := 620) (by decide +kernel)))
  obtain ⟨c4, i4, k4⟩ := u_known (C := RX4) (T := TX4) (N := 8) (n := 8) hts (fun w hw => lwG_in w (hi_X4 w hw)) (hts (.instantiable RX4 8) (List.mem_of_getElem? (i := 34) (by decide +kernel)))
  obtain ⟨c5, i5, k5⟩ := u_known (C := RX5) (T := TX5) (N := 5) (n := 5) hts (fun w hw => lwG_in w (hi_X5 w hw)) (hts (.instantiable RX5 5) (List.mem_of_getElem? (i := 119) (by decide +kernel)))
  obtain ⟨c6, i6, k6⟩ := u_known (C := RX6) (T := TX6) (N := 12) (n := 12) hts (fun w hw => lwG_in w (hi_X6 w hw)) (hts (.instantiable RX6 12) (List.mem_of_getElem? (i := 41) (by decide +kernel)))
  obtain ⟨c7, i7, k7⟩ := u_known (C := RX7) (T := TX7) (N := 8) (n := 8) hts (fun w hw => lwG_in w (hi_X7 w hw)) (hts (.instantiable RX7 8) (List.mem_of_getElem? (i := 26) (by decide +kernel)))
  obtain ⟨aI, rI, fI⟩ := arr_c (hts (.arrayClass .int) (List.mem_of_getElem? (i := 244) (by decide +kernel)))
  obtain ⟨aZ, rZ, fZ⟩ := arr_c (hts (.arrayClass .boolean) (List.mem_of_getElem? (i := 242) (by decide +kernel)))
  obtain ⟨aC, rC, fC⟩ := arr_c (hts (.arrayClass .char) (List.mem_of_getElem? (i := 243) (by decide +kernel)))
  obtain ⟨aX4, rX4, fX4⟩ := arr_o (va_AO.of (hts _ (st_ao RX4 (List.mem_of_getElem? (i := 0) rfl))))
  obtain ⟨aX6, rX6, fX6⟩ := arr_o (va_AO.of (hts _ (st_ao RX6 (List.mem_of_getElem? (i := 1) rfl))))
  obtain ⟨aX0, rX0, fX0⟩ := arr_o (va_AO.of (hts _ (st_ao RX0 (List.mem_of_getElem? (i := 2) rfl))))
  obtain ⟨aX5, rX5, fX5⟩ := arr_o (va_AO.of (hts _ (st_ao RX5 (List.mem_of_getElem? (i := 3) rfl))))
  obtain ⟨aX1, rX1, fX1⟩ := arr_o (va_AO.of (hts _ (st_ao RX1 (List.mem_of_getElem? (i := 4) rfl))))
  obtain ⟨tX, eX, hTX⟩ := va_Tof (tm := .static "PlumbShaft" "DIRECTION_X" "[I") (ty := .int) (N := 8) (f := fun j => .int (dXs j)) (by decide) (hs _ st_dX.1) (va_eqt (z := 8) (hs _ st_dX.2.1)) (fun j hj => va_eqt (hs _ (st_dX.2.2 j hj))) hA
  obtain ⟨tY, eY, hTY⟩ := va_Tof (tm := .static "PlumbShaft" "DIRECTION_Y" "[I") (ty := .int) (N := 8) (f := fun j => .int (dYs j)) (by decide) (hs _ st_dY.1) (va_eqt (z := 8) (hs _ st_dY.2.1)) (fun j hj => va_eqt (hs _ (st_dY.2.2 j hj))) hA
  have iP := hts (.initialized "PlumbShaft") (List.mem_of_getElem? (i := 16) (by decide +kernel))
  have zX := va_Zref (hts (.laysStatic "PlumbShaft" "DIRECTION_X" "[I") (List.mem_of_getElem? (i := 480) (by decide +kernel))) iP eX hA
  have zY := va_Zref (hts (.laysStatic "PlumbShaft" "DIRECTION_Y" "[I") (List.mem_of_getElem? (i := 482) (by decide +kernel))) iP eY hA
  have hTS : va_T .int b L (fun j => .int (xs j)) (fun q : Nat => s.heap.size ≤ q) s s.heap := by
    obtain ⟨scr, x1, x2, x3, x4, x5⟩ := hX
    exact ⟨scr, x1, x2, x3, Nat.le_of_eq x4.symm, by rw [x4], x5, hA b hbl⟩
  refine ⟨((fun k => match k with | 0 => c0 | 1 => c1 | 2 => c2 | 3 => c3 | 4 => c4 | 5 => c5 | 6 => c6 | _ => c7, fun k => match k with | 0 => i0 | 1 => i1 | 2 => i2 | 3 => i3 | 4 => i4 | 5 => i5 | 6 => i6 | _ => i7), (fun k => match k with | 0 => aI | 1 => aZ | 2 => aC | 3 => aX4 | 4 => aX6 | 5 => aX0 | 6 => aX5 | _ => aX1), s.heap.size, fun k => if k = 0 then tX else if k = 1 then tY else if k = 2 then b else L), rfl, rfl, ⟨fun k q hq => ?_, fun k q hq => ?_⟩, ⟨fun q hq => va_Nw.of rfl (hts _ (st_nl q hq)), fun q hq => va_Nw.of rfl (hts _ (st_fl q hq))⟩, ⟨zX, hTX⟩, ⟨zY, hTY⟩, ⟨xs, hTS⟩, fun C hC => va_AO.of (hts _ (st_ao C hC))⟩
  · have hk : k < 8 := (List.getElem?_eq_some_iff.mp hq).1
    revert q
    revert k
    refine eight8 ?_ ?_ ?_ ?_ ?_ ?_ ?_ ?_
    · intro q hq; cases hq; exact k0
    · intro q hq; cases hq; exact k1
    · intro q hq; cases hq; exact k2
    · intro q hq; cases hq; exact k3
    · intro q hq; cases hq; exact k4
    · intro q hq; cases hq; exact k5
    · intro q hq; cases hq; exact k6
    · intro q hq; cases hq; exact k7
  · have hk : k < 8 := (List.getElem?_eq_some_iff.mp hq).1
    revert q
    revert k
    refine eight8 ?_ ?_ ?_ ?_ ?_ ?_ ?_ ?_
    · intro q hq; cases hq; exact ⟨rI, fI⟩
    · intro q hq; cases hq; exact ⟨rZ, fZ⟩
    · intro q hq; cases hq; exact ⟨rC, fC⟩
    · intro q hq; cases hq; exact ⟨rX4, fX4⟩
    · intro q hq; cases hq; exact ⟨rX6, fX6⟩
    · intro q hq; cases hq; exact ⟨rX0, fX0⟩
    · intro q hq; cases hq; exact ⟨rX5, fX5⟩
    · intro q hq; cases hq; exact ⟨rX1, fX1⟩
