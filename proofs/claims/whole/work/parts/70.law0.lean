/-! The start of the law: what the machine holds there. -/
theorem arr_c {s : State} {args : Array Value} {ty : FieldType} (h : (Cond.arrayClass ty).before args s = true) : ∃ cA : ClassId, ArrOfT s cA ty ∧ s.vm.findClass ("[" ++ ty.toString) = some cA := by
  obtain ⟨cA, kA, comp, h1, h2, h3⟩ := Cond.arrayClass_spec h
  exact ⟨cA, fun n z => ⟨fun k h => (by cases h), kA, h2, comp, h3⟩, h1⟩
theorem arr_o {s : State} {C : String} (h : va_AO C s) : ∃ cA : ClassId, ArrOfT s cA (.object C) ∧ va_RA s cA (.object C) := by
  obtain ⟨comp, c, k, h1, h2, h3, h4, h5⟩ := Cond.arrayOver_spec h
  exact ⟨c, fun N z => ⟨(fun k h => by cases h), k, h3, comp, h4⟩, k, comp, h3, h4, h1, h5⟩
theorem vk_S_cong {N : Nat} {len : List Nat} {byt : List (List Int32)} {adK adV adK' adV' : Nat → Nat} {A : Nat → Prop} {U : State} {H : Heap} (h : vk_S N len byt adK adV A U H) (hK : ∀ i : Nat, i < N → adK' i = adK i) (hV : ∀ i : Nat, i < N → adV' i = adV i) : vk_S N len byt adK' adV' A U H := by
  refine ⟨fun i hi => ?_, fun i j hi hj e => h.2 i j hi hj (by rw [← hK i hi, ← hK j hj]; exact e)⟩
  rw [hK i hi, hV i hi]
  exact h.1 i hi
def tmS (i : Nat) : Term := .string "PlumbShaft$OrderText" (sLit.getD i (0, "")).1
abbrev flS : List Cond := flatC (Jvm.Cond.and given_1 narrow_1)
set_option maxRecDepth 100000 in
theorem st_ex : ∀ i : Nat, i < 10 → Cond.exactly (tmS i) "java/lang/String" ∈ flS := by decide +kernel
set_option maxRecDepth 100000 in
theorem st_co : ∀ i : Nat, i < 10 → Cond.eq (.field (tmS i) "java/lang/String" "coder" "B") (.int 0) ∈ flS := by decide +kernel
set_option maxRecDepth 100000 in
theorem st_ar : ∀ i : Nat, i < 10 → Cond.arrayOf (.field (tmS i) "java/lang/String" "value" "[B") .byte ∈ flS := by decide +kernel
set_option maxRecDepth 100000 in
theorem st_le : ∀ i : Nat, i < 10 → Cond.eq (.length (.field (tmS i) "java/lang/String" "value" "[B")) (.int (Int32.ofNat (sLen.getD i 0))) ∈ flS := by decide +kernel
set_option maxRecDepth 100000 in
theorem st_el : ∀ i : Nat, i < 10 → ∀ j : Nat, j < sLen.getD i 0 → Cond.eq (.elem (.field (tmS i) "java/lang/String" "value" "[B") (.int (Int32.ofNat j))) (.int ((sByt.getD i []).getD j 0)) ∈ flS := by decide +kernel
set_option maxRecDepth 100000 in
theorem st_ne : ∀ i : Nat, i < 10 → ∀ j : Nat, j < 10 → i ≠ j → Cond.not (Cond.eq (tmS i) (tmS j)) ∈ flS ∨ Cond.not (Cond.eq (tmS j) (tmS i)) ∈ flS := by decide +kernel
set_option maxRecDepth 100000 in
theorem st_dX : Cond.arrayOf (.static "PlumbShaft" "DIRECTION_X" "[I") .int ∈ flS ∧ Cond.eq (.length (.static "PlumbShaft" "DIRECTION_X" "[I")) (.int 8) ∈ flS ∧ ∀ j : Nat, j < 8 → Cond.eq (.elem (.static "PlumbShaft" "DIRECTION_X" "[I") (.int (Int32.ofNat j))) (.int (dXs j)) ∈ flS := by decide +kernel
set_option maxRecDepth 100000 in
theorem st_dY : Cond.arrayOf (.static "PlumbShaft" "DIRECTION_Y" "[I") .int ∈ flS ∧ Cond.eq (.length (.static "PlumbShaft" "DIRECTION_Y" "[I")) (.int 8) ∈ flS ∧ ∀ j : Nat, j < 8 → Cond.eq (.elem (.static "PlumbShaft" "DIRECTION_Y" "[I") (.int (Int32.ofNat j))) (.int (dYs j)) ∈ flS := by decide +kernel
set_option maxRecDepth 100000 in
theorem st_cs : Cond.eq (.static "java/lang/String" "COMPACT_STRINGS" "Z") (.int 1) ∈ flS ∧ Cond.isRef (.static "jdk/internal/util/Preconditions" "SIOOBE_FORMATTER" "Ljava/util/function/BiFunction;") ∈ flS := by decide +kernel
theorem ten10 {P : Nat → Prop} (h0 : P 0) (h1 : P 1) (h2 : P 2) (h3 : P 3) (h4 : P 4) (h5 : P 5) (h6 : P 6) (h7 : P 7) (h8 : P 8) (h9 : P 9) : ∀ k : Nat, k < 10 → P k
  | 0, _ => h0
  | 1, _ => h1
  | 2, _ => h2
  | 3, _ => h3
  | 4, _ => h4
  | 5, _ => h5
  | 6, _ => h6
  | 7, _ => h7
  | 8, _ => h8
  | 9, _ => h9
  | k + 10, h => absurd h (by omega)
theorem st_lit : ∀ i : Nat, i < 10 → Cond.stringRef "PlumbShaft$OrderText" (sLit.getD i (0, "")).1 (sLit.getD i (0, "")).2 ∈ lw_tbl :=
  ten10 (List.mem_of_getElem? (i := 639) (by decide +kernel)) (List.mem_of_getElem? (i := 640) (by decide +kernel)) (List.mem_of_getElem? (i := 641) (by decide +kernel)) (List.mem_of_getElem? (i := 642) (by decide +kernel)) (List.mem_of_getElem? (i := 643) (by decide +kernel)) (List.mem_of_getElem? (i := 699) (by decide +kernel)) (List.mem_of_getElem? (i := 700) (by decide +kernel)) (List.mem_of_getElem? (i := 701) (by decide +kernel)) (List.mem_of_getElem? (i := 702) (by decide +kernel)) (List.mem_of_getElem? (i := 703) (by decide +kernel))
theorem st_ao : ∀ C ∈ aoL, Cond.arrayOver (.object C) ∈ lw_tbl := by
  refine List.forall_mem_cons.mpr ⟨List.mem_of_getElem? (i := 258) (by decide +kernel), List.forall_mem_cons.mpr ⟨List.mem_of_getElem? (i := 80) (by decide +kernel), List.forall_mem_cons.mpr ⟨List.mem_of_getElem? (i := 138) (by decide +kernel), List.forall_mem_cons.mpr ⟨List.mem_of_getElem? (i := 158) (by decide +kernel), List.forall_mem_cons.mpr ⟨List.mem_of_getElem? (i := 165) (by decide +kernel), fun _ h => absurd h List.not_mem_nil⟩⟩⟩⟩⟩
theorem st_nl : ∀ q ∈ nL, Cond.methodLinkNest q.1 q.2.1 q.2.2.1 q.2.2.2 ∈ lw_tbl :=
  List.forall_mem_cons.mpr ⟨List.mem_of_getElem? (i := 712) (by decide +kernel), List.forall_mem_cons.mpr ⟨List.mem_of_getElem? (i := 489) (by decide +kernel), List.forall_mem_cons.mpr ⟨List.mem_of_getElem? (i := 82) (by decide +kernel), List.forall_mem_cons.mpr ⟨List.mem_of_getElem? (i := 140) (by decide +kernel), List.forall_mem_cons.mpr ⟨List.mem_of_getElem? (i := 167) (by decide +kernel), List.forall_mem_cons.mpr ⟨List.mem_of_getElem? (i := 519) (by decide +kernel), List.forall_mem_cons.mpr ⟨List.mem_of_getElem? (i := 510) (by decide +kernel), fun _ h => absurd h List.not_mem_nil⟩⟩⟩⟩⟩⟩⟩
theorem st_fl : ∀ q ∈ fL, Cond.fieldLinkNest q.1 q.2.1 q.2.2.1 q.2.2.2.1 q.2.2.2.2.1 q.2.2.2.2.2 ∈ lw_tbl :=
  List.forall_mem_cons.mpr ⟨List.mem_of_getElem? (i := 511) (by decide +kernel), List.forall_mem_cons.mpr ⟨List.mem_of_getElem? (i := 513) (by decide +kernel), fun _ h => absurd h List.not_mem_nil⟩⟩
theorem nine9 {P : Nat → Prop} (h0 : P 0) (h1 : P 1) (h2 : P 2) (h3 : P 3) (h4 : P 4) (h5 : P 5) (h6 : P 6) (h7 : P 7) (h8 : P 8) : ∀ k : Nat, k < 9 → P k
  | 0, _ => h0
  | 1, _ => h1
  | 2, _ => h2
  | 3, _ => h3
  | 4, _ => h4
  | 5, _ => h5
  | 6, _ => h6
  | 7, _ => h7
  | 8, _ => h8
  | k + 9, h => absurd h (by omega)
theorem eight8 {P : Nat → Prop} (h0 : P 0) (h1 : P 1) (h2 : P 2) (h3 : P 3) (h4 : P 4) (h5 : P 5) (h6 : P 6) (h7 : P 7) : ∀ k : Nat, k < 8 → P k
  | 0, _ => h0
  | 1, _ => h1
  | 2, _ => h2
  | 3, _ => h3
  | 4, _ => h4
  | 5, _ => h5
  | 6, _ => h6
  | 7, _ => h7
  | k + 8, h => absurd h (by omega)
set_option maxHeartbeats 4000000 in
set_option maxRecDepth 100000 in
theorem kn_start {s : State} {b : Nat} (hts : ∀ w ∈ lw_tbl, w.before #[Value.ref b] s = true) (hgv : (Jvm.Cond.and given_1 narrow_1).before #[Value.ref b] s = true) : ∃ g : Gf, gz g = s.heap.size ∧ Kn g s := by
  have hs := flat_of_before _ hgv
  have hA : ∀ a : Nat, a < s.heap.size → ¬ (fun q : Nat => s.heap.size ≤ q) a := fun a h z => Nat.not_le.mpr h z
  obtain ⟨c0, i0, k0⟩ := u_known (C := RX0) (T := TX0) (N := 4) (n := 4) hts (fun w hw => lwG_in w (hi_X0 w hw)) (hts (.instantiable RX0 4) (List.mem_of_getElem? (i := 139) (by decide +kernel)))
  obtain ⟨c1, i1, k1⟩ := u_known (C := RX1) (T := TX1) (N := 6) (n := 6) hts (fun w hw => lwG_in w (hi_X1 w hw)) (hts (.instantiable RX1 6) (List.mem_of_getElem? (i := 166) (by decide +kernel)))
  obtain ⟨c2, i2, k2⟩ := u_known (C := RX2) (T := TX2) (N := 6) (n := 6) hts (fun w hw => lwG_in w (hi_X2 w hw)) (hts (.instantiable RX2 6) (List.mem_of_getElem? (i := 260) (by decide +kernel)))
  obtain ⟨c3, i3, k3⟩ := u_known (C := RX3) (T := TX3) (N := 4) (n := 4) hts (fun w hw => lwG_in w (hi_X3 w hw)) (hts (.instantiable RX3 4) (List.mem_of_getElem? (i := 488) (by decide +kernel)))
  obtain ⟨c4, i4, k4⟩ := u_known (C := RX4) (T := TX4) (N := 8) (n := 8) hts (fun w hw => lwG_in w (hi_X4 w hw)) (hts (.instantiable RX4 8) (List.mem_of_getElem? (i := 74) (by decide +kernel)))
  obtain ⟨c5, i5, k5⟩ := u_known (C := RX5) (T := TX5) (N := 5) (n := 5) hts (fun w hw => lwG_in w (hi_X5 w hw)) (hts (.instantiable RX5 5) (List.mem_of_getElem? (i := 159) (by decide +kernel)))
  obtain ⟨c6, i6, k6⟩ := u_known (C := RX6) (T := TX6) (N := 12) (n := 12) hts (fun w hw => lwG_in w (hi_X6 w hw)) (hts (.instantiable RX6 12) (List.mem_of_getElem? (i := 81) (by decide +kernel)))
  obtain ⟨c7, i7, k7⟩ := u_known (C := RX7) (T := TX7) (N := 8) (n := 8) hts (fun w hw => lwG_in w (hi_X7 w hw)) (hts (.instantiable RX7 8) (List.mem_of_getElem? (i := 66) (by decide +kernel)))
  obtain ⟨c8, i8, k8⟩ := u_known (C := RX8) (T := TX8) (N := 13) (n := 13) hts (fun w hw => lwG_in w (hi_X8 w hw)) (hts (.instantiable RX8 13) (List.mem_of_getElem? (i := 823) (by decide +kernel)))
  obtain ⟨aI, rI, fI⟩ := arr_c (hts (.arrayClass .int) (List.mem_of_getElem? (i := 289) (by decide +kernel)))
  obtain ⟨aZ, rZ, fZ⟩ := arr_c (hts (.arrayClass .boolean) (List.mem_of_getElem? (i := 287) (by decide +kernel)))
  obtain ⟨aC, rC, fC⟩ := arr_c (hts (.arrayClass .char) (List.mem_of_getElem? (i := 288) (by decide +kernel)))
  obtain ⟨aX4, rX4, fX4⟩ := arr_o (va_AO.of (hts _ (st_ao RX4 (List.mem_of_getElem? (i := 0) rfl))))
  obtain ⟨aX6, rX6, fX6⟩ := arr_o (va_AO.of (hts _ (st_ao RX6 (List.mem_of_getElem? (i := 1) rfl))))
  obtain ⟨aX0, rX0, fX0⟩ := arr_o (va_AO.of (hts _ (st_ao RX0 (List.mem_of_getElem? (i := 2) rfl))))
  obtain ⟨aX5, rX5, fX5⟩ := arr_o (va_AO.of (hts _ (st_ao RX5 (List.mem_of_getElem? (i := 3) rfl))))
  obtain ⟨aX1, rX1, fX1⟩ := arr_o (va_AO.of (hts _ (st_ao RX1 (List.mem_of_getElem? (i := 4) rfl))))
  obtain ⟨tX, eX, hTX⟩ := va_Tof (tm := .static "PlumbShaft" "DIRECTION_X" "[I") (ty := .int) (N := 8) (f := fun j => .int (dXs j)) (by decide) (hs _ st_dX.1) (va_eqt (z := 8) (hs _ st_dX.2.1)) (fun j hj => va_eqt (hs _ (st_dX.2.2 j hj))) hA
  obtain ⟨tY, eY, hTY⟩ := va_Tof (tm := .static "PlumbShaft" "DIRECTION_Y" "[I") (ty := .int) (N := 8) (f := fun j => .int (dYs j)) (by decide) (hs _ st_dY.1) (va_eqt (z := 8) (hs _ st_dY.2.1)) (fun j hj => va_eqt (hs _ (st_dY.2.2 j hj))) hA
  have iP := hts (.initialized "PlumbShaft") (List.mem_of_getElem? (i := 51) (by decide +kernel))
  have iS := hts (.initialized "java/lang/String") (List.mem_of_getElem? (i := 61) (by decide +kernel))
  have iQ := hts (.initialized "jdk/internal/util/Preconditions") (List.mem_of_getElem? (i := 63) (by decide +kernel))
  have zX := va_Zref (hts (.laysStatic "PlumbShaft" "DIRECTION_X" "[I") (List.mem_of_getElem? (i := 512) (by decide +kernel))) iP eX hA
  have zY := va_Zref (hts (.laysStatic "PlumbShaft" "DIRECTION_Y" "[I") (List.mem_of_getElem? (i := 514) (by decide +kernel))) iP eY hA
  have zC := va_Zof (hts (.laysStatic "java/lang/String" "COMPACT_STRINGS" "Z") (List.mem_of_getElem? (i := 657) (by decide +kernel))) iS (va_eqt (z := 1) (hs _ st_cs.1)) hA
  have zF := va_Zqof (hts (.laysStatic "jdk/internal/util/Preconditions" "SIOOBE_FORMATTER" "Ljava/util/function/BiFunction;") (List.mem_of_getElem? (i := 673) (by decide +kernel))) iQ (hs _ st_cs.2) hA
  obtain ⟨adK, adV, hSt, hEv⟩ := vk_Sof (N := 10) (tm := tmS) (len := sLen) (byt := sByt) (by decide +kernel) (fun i hi => hs _ (st_ex i hi)) (fun i hi => hs _ (st_co i hi)) (fun i hi => hs _ (st_ar i hi)) (fun i hi => hs _ (st_le i hi)) (fun i hi j hj => hs _ (st_el i hi j hj)) (fun i j hi hj hn => (st_ne i hi j hj hn).imp (hs _) (hs _)) hA
  refine ⟨((fun k => match k with | 0 => c0 | 1 => c1 | 2 => c2 | 3 => c3 | 4 => c4 | 5 => c5 | 6 => c6 | 7 => c7 | _ => c8, fun k => match k with | 0 => i0 | 1 => i1 | 2 => i2 | 3 => i3 | 4 => i4 | 5 => i5 | 6 => i6 | 7 => i7 | _ => i8), (fun k => match k with | 0 => aI | 1 => aZ | 2 => aC | 3 => aX4 | 4 => aX6 | 5 => aX0 | 6 => aX5 | _ => aX1), s.heap.size, fun k => if k = 0 then tX else if k = 1 then tY else if k < 30 then adK (k - 10) else adV (k - 30)), rfl, ⟨fun k q hq => ?_, fun k q hq => ?_⟩, ⟨fun q hq => va_Nw.of rfl (hts _ (st_nl q hq)), fun q hq => va_Nw.of rfl (hts _ (st_fl q hq))⟩, ⟨zX, hTX⟩, ⟨zY, hTY⟩, zC, zF, ?_, fun i hi => ?_, fun C hC => va_AO.of (hts _ (st_ao C hC))⟩
  · have hk : k < 9 := (List.getElem?_eq_some_iff.mp hq).1
    revert q
    revert k
    refine nine9 ?_ ?_ ?_ ?_ ?_ ?_ ?_ ?_ ?_
    · intro q hq; cases hq; exact k0
    · intro q hq; cases hq; exact k1
    · intro q hq; cases hq; exact k2
    · intro q hq; cases hq; exact k3
    · intro q hq; cases hq; exact k4
    · intro q hq; cases hq; exact k5
    · intro q hq; cases hq; exact k6
    · intro q hq; cases hq; exact k7
    · intro q hq; cases hq; exact k8
  · have hk : k < 8 := (List.getElem?_eq_some_iff.mp hq).1
    revert q
    revert k
    refine eight8 ?_ ?_ ?_ ?_ ?_ ?_ ?_ ?_
    · intro q hq; cases hq; exact ⟨rI, fI⟩
    · intro q hq; cases hq; exact ⟨rZ, fZ⟩
    · intro q hq; cases hq; exact ⟨rC, fC⟩
    · intro q hq; cases hq; exact ⟨rX4, fX4⟩
    · intro q hq; cases hq; exact ⟨rX6, fX6⟩
    · intro q hq; cases hq; exact ⟨rX0, fX0⟩
    · intro q hq; cases hq; exact ⟨rX5, fX5⟩
    · intro q hq; cases hq; exact ⟨rX1, fX1⟩
  · refine vk_S_cong hSt (fun i hi => ?_) (fun i hi => ?_)
    · show (if 10 + i = 0 then tX else if 10 + i = 1 then tY else if 10 + i < 30 then adK (10 + i - 10) else adV (10 + i - 30)) = adK i
      rw [if_neg (by omega), if_neg (by omega), if_pos (by omega), show 10 + i - 10 = i by omega]
    · show (if 30 + i = 0 then tX else if 30 + i = 1 then tY else if 30 + i < 30 then adK (30 + i - 10) else adV (30 + i - 30)) = adV i
      rw [if_neg (by omega), if_neg (by omega), if_neg (by omega), show 30 + i - 30 = i by omega]
  · have e : (if 10 + i = 0 then tX else if 10 + i = 1 then tY else if 10 + i < 30 then adK (10 + i - 10) else adV (10 + i - 30)) = adK i := by
      rw [if_neg (by omega), if_neg (by omega), if_pos (by omega), show 10 + i - 10 = i by omega]
    show vk_R _ _ _ (if 10 + i = 0 then tX else if 10 + i = 1 then tY else if 10 + i < 30 then adK (10 + i - 10) else adV (10 + i - 30)) s
    rw [e]
    exact vk_R.of (hts _ (st_lit i hi)) (hEv i hi)
