/-! The law's loop, and the whole. -/
theorem iv_0 : Gd 0 rw0 rw0 := by
  have z : ∀ k : Nat, k ≠ 1 → rw0 k = 0 := fun k hk => if_neg hk
  refine ⟨0, 0, ⟨⟨by rw [z 3 (by decide)]; exact nI_0.symm, by decide, by rw [z 4 (by decide)]; exact nI_0.symm, by decide⟩, ⟨by rw [z 0 (by decide)]; decide, by rw [z 0 (by decide)]; decide, ?_⟩, fun w hw => ?_, fun k hk => absurd hk (by omega), fun s hs => absurd hs (by omega), fun s w hs hw => ?_⟩, fun _ _ _ => rfl, fun s hs => ?_, fun s hs => absurd hs (by omega)⟩
  · have e : rw0 1 = 10 := rfl
    rw [e]; unfold Bt; decide
  · rw [z _ (by omega)]
    exact ⟨Or.inl rfl, fun q => absurd q (by decide)⟩
  · rw [z _ (by omega)]
    exact ⟨Or.inl rfl, fun _ => rfl, fun q => absurd q (by decide)⟩
  · rw [z _ (by omega)]
    exact Or.inl rfl
section LL
variable {p : Program} {l : Launch} {e : Env} {s : State} {m : MethodId} {below : List Frame} {meth : Method} {c0 : Code} {b L : Nat} {xs : Nat → Int32} {g : Gf}
set_option maxHeartbeats 4000000 in
set_option maxRecDepth 100000 in
theorem law_loop (hLX : LX p s m meth c0 b L xs g) (hgz : gz g = s.heap.size) : ∀ (k I tb n : Nat) (c : Mp) (H : Heap) (locs : List Loc) (cells slots : Nat) (ls : Array Slot), L < I + 6 + 6 * k → I ≤ L → tb + 720 * k ≤ 800000000 → cells + 22 * k ≤ 600000 → slots + 88 * k ≤ 7302249 → Hv g s H locs n c → LI g tb n c → lv_has ls 4 [(3, .int (nI I)), (2, .ref (gz g + 352)), (1, .ref (gz g + 0)), (0, .ref b)] → W p l e room_1 s m #[Value.ref b] below meth c0 H locs cells slots (lw_Z below #[Value.ref b] s) (F0 m 18 ls []) := by
  intro k
  obtain ⟨F, hX, hbl, hbA, hL⟩ := id hLX
  have hx := F.1
  have hb := F.2.1
  have hr := F.2.2.2.2.2.1
  have hlocks := F.2.2.2.2.2.2.1
  induction k with
  | zero =>
    intro I tb n c H locs cells slots ls h1 h2 h3 h4 h5 h hLI hl
    refine lv_iload_n hx hb dL_law_18 rfl (lv_at hl 0 rfl) ?_
    refine lv_aload_n hx hb dL_law_19 rfl (lv_at hl 3 rfl) ?_
    refine va_slen hx hb hX hbl hbA h.2 dL_law_20 ?_
    refine lv_bipush (v := 6) hx hb dL_law_21 (by decide) ?_
    refine lv_isub hx hb dL_law_23 ?_
    have eL : (Int32.ofNat L).toInt = (L : Int) := nI_toInt (n := L) (by omega)
    have e6 : (Int32.ofNat L - 6).toInt = (L : Int) - 6 := by
      have := fb_subI (x := Int32.ofNat L) (y := 6) (by rw [eL]; show _ ≤ _ - (6 : Int); omega) (by rw [eL]; show _ - (6 : Int) < _; omega)
      rw [this, eL]; rfl
    have eI : (nI I).toInt = (I : Int) := nI_toInt (by omega)
    refine lv_icmp_gt (tgt := 1069) hx hb dL_law_24 (by decide) (fun _ => ?_) (fun z => absurd ((i_lt _ _).mpr (by rw [e6, eI]; omega)) z)
    refine lv_iconst (v := 1) hx hb dL_law_1069 (by decide) ?_
    refine va_forget (fun q hq => by have := h.2.2.2 q hq; rw [← hgz]; exact this) ?_
    refine W.widen (by omega) (by omega) (lw_ret hx hb hr hlocks dL_law_1070)
  | succ k ih =>
    intro I tb n c H locs cells slots ls h1 h2 h3 h4 h5 h hLI hl
    refine lv_iload_n hx hb dL_law_18 rfl (lv_at hl 0 rfl) ?_
    refine lv_aload_n hx hb dL_law_19 rfl (lv_at hl 3 rfl) ?_
    refine va_slen hx hb hX hbl hbA h.2 dL_law_20 ?_
    refine lv_bipush (v := 6) hx hb dL_law_21 (by decide) ?_
    refine lv_isub hx hb dL_law_23 ?_
    have eL : (Int32.ofNat L).toInt = (L : Int) := nI_toInt (n := L) (by omega)
    have e6 : (Int32.ofNat L - 6).toInt = (L : Int) - 6 := by
      have := fb_subI (x := Int32.ofNat L) (y := 6) (by rw [eL]; show _ ≤ _ - (6 : Int); omega) (by rw [eL]; show _ - (6 : Int) < _; omega)
      rw [this, eL]; rfl
    have eI : (nI I).toInt = (I : Int) := nI_toInt (by omega)
    refine lv_icmp_gt (tgt := 1069) hx hb dL_law_24 (by decide) (fun _ => ?_) (fun z => ?_)
    · refine lv_iconst (v := 1) hx hb dL_law_1069 (by decide) ?_
      refine va_forget (fun q hq => by have := h.2.2.2 q hq; rw [← hgz]; exact this) ?_
      exact W.widen (by omega) (by omega) (lw_ret hx hb hr hlocks dL_law_1070)
    have hI6 : I + 6 ≤ L := by
      rw [i_lt, e6, eI] at z
      omega
    have K : LK p l e s m below meth c0 b g (cells + 22) (slots + 88) ls (tb + 720) := fun n' c' H' locs' h' hLI' => by
      refine lv_iinc (v := nI (I + 6)) (lv' := [(3, .int (nI (I + 6))), (2, .ref (gz g + 352)), (1, .ref (gz g + 0)), (0, .ref b)]) hx hb dL_law_1063 hl (k := 0) rfl (nI_add I 6) (by decide) rfl (fun ls hl => ?_)
      refine lv_goto (tgt := 18) hx hb dL_law_1066 (by decide) ?_
      exact ih (I + 6) (tb + 720) n' c' H' locs' (cells + 22) (slots + 88) ls (by omega) (by omega) (by omega) (by omega) (by omega) h' hLI' hl
    refine lv_aload_n hx hb dL_law_27 rfl (lv_at hl 3 rfl) ?_
    refine lv_iload_n hx hb dL_law_28 rfl (lv_at hl 0 rfl) ?_
    refine r_sld hx hb hX hbl hbA h.2 (I := I) (j := 0) rfl (by omega) (by omega) dL_law_29 ?_
    refine lv_bipush (v := 31) hx hb dL_law_30 (by decide) ?_
    refine lv_iand hx hb dL_law_32 ?_
    generalize (xs (I + 0) &&& 31) = v
    by_cases q_0 : v = 0
    · refine lv_tableIn (off := 131) (tgt := 164) hx hb dL_law_33 (by rw [q_0]; decide) (by rw [q_0]; decide) (by rw [q_0]; rfl) (by decide) ?_
      exact lc_hang hLX h hLI hl hI6 (by omega) (by omega) (by omega) K
    by_cases q_1 : v = 1
    · refine lv_tableIn (off := 194) (tgt := 227) hx hb dL_law_33 (by rw [q_1]; decide) (by rw [q_1]; decide) (by rw [q_1]; rfl) (by decide) ?_
      exact lc_lift hLX h hLI hl hI6 (by omega) (by omega) (by omega) K
    by_cases q_2 : v = 2
    · refine lv_tableIn (off := 217) (tgt := 250) hx hb dL_law_33 (by rw [q_2]; decide) (by rw [q_2]; decide) (by rw [q_2]; rfl) (by decide) ?_
      exact lc_setClamp hLX h hLI hl hI6 (by omega) (by omega) (by omega) K
    by_cases q_3 : v = 3
    · refine lv_tableIn (off := 260) (tgt := 293) hx hb dL_law_33 (by rw [q_3]; decide) (by rw [q_3]; decide) (by rw [q_3]; rfl) (by decide) ?_
      exact lc_setBucket hLX h hLI hl hI6 (by omega) (by omega) (by omega) K
    by_cases q_4 : v = 4
    · refine lv_tableIn (off := 293) (tgt := 326) hx hb dL_law_33 (by rw [q_4]; decide) (by rw [q_4]; decide) (by rw [q_4]; rfl) (by decide) ?_
      exact lc_push hLX h hLI hl hI6 (by omega) (by omega) (by omega) K
    by_cases q_5 : v = 5
    · refine lv_tableIn (off := 336) (tgt := 369) hx hb dL_law_33 (by rw [q_5]; decide) (by rw [q_5]; decide) (by rw [q_5]; rfl) (by decide) ?_
      exact lc_swap hLX h hLI hl hI6 (by omega) (by omega) (by omega) K
    by_cases q_6 : v = 6
    · refine lv_tableIn (off := 369) (tgt := 402) hx hb dL_law_33 (by rw [q_6]; decide) (by rw [q_6]; decide) (by rw [q_6]; rfl) (by decide) ?_
      exact lc_addCurrent hLX h hLI hl hI6 (by omega) (by omega) (by omega) K
    by_cases q_7 : v = 7
    · refine lv_tableIn (off := 422) (tgt := 455) hx hb dL_law_33 (by rw [q_7]; decide) (by rw [q_7]; decide) (by rw [q_7]; rfl) (by decide) ?_
      exact lc_clearCurrents hLX h hLI hl hI6 (by omega) (by omega) (by omega) K
    by_cases q_8 : v = 8
    · refine lv_tableIn (off := 435) (tgt := 468) hx hb dL_law_33 (by rw [q_8]; decide) (by rw [q_8]; decide) (by rw [q_8]; rfl) (by decide) ?_
      exact lc_addStation hLX h hLI hl hI6 (by omega) (by omega) (by omega) K
    by_cases q_9 : v = 9
    · refine lv_tableIn (off := 468) (tgt := 501) hx hb dL_law_33 (by rw [q_9]; decide) (by rw [q_9]; decide) (by rw [q_9]; rfl) (by decide) ?_
      exact lc_setTolerance hLX h hLI hl hI6 (by omega) (by omega) (by omega) K
    by_cases q_10 : v = 10
    · refine lv_tableIn (off := 491) (tgt := 524) hx hb dL_law_33 (by rw [q_10]; decide) (by rw [q_10]; decide) (by rw [q_10]; rfl) (by decide) ?_
      exact lc_pass hLX h hLI hl hI6 (by omega) (by omega) (by omega) K
    by_cases q_11 : v = 11
    · refine lv_tableIn (off := 514) (tgt := 547) hx hb dL_law_33 (by rw [q_11]; decide) (by rw [q_11]; decide) (by rw [q_11]; rfl) (by decide) ?_
      exact lc_observe hLX h hLI hl hI6 (by omega) (by omega) (by omega) K
    by_cases q_12 : v = 12
    · refine lv_tableIn (off := 557) (tgt := 590) hx hb dL_law_33 (by rw [q_12]; decide) (by rw [q_12]; decide) (by rw [q_12]; rfl) (by decide) ?_
      exact lc_orient hLX h hLI hl hI6 (by omega) (by omega) (by omega) K
    by_cases q_13 : v = 13
    · refine lv_tableIn (off := 580) (tgt := 613) hx hb dL_law_33 (by rw [q_13]; decide) (by rw [q_13]; decide) (by rw [q_13]; rfl) (by decide) ?_
      exact lc_type hLX h hLI hl hI6 (by omega) (by omega) (by omega) K
    by_cases q_14 : v = 14
    · refine lv_tableIn (off := 605) (tgt := 638) hx hb dL_law_33 (by rw [q_14]; decide) (by rw [q_14]; decide) (by rw [q_14]; rfl) (by decide) ?_
      exact lc_clearText hLX h hLI hl hI6 (by omega) (by omega) (by omega) K
    by_cases q_15 : v = 15
    · refine lv_tableIn (off := 618) (tgt := 651) hx hb dL_law_33 (by rw [q_15]; decide) (by rw [q_15]; decide) (by rw [q_15]; rfl) (by decide) ?_
      exact lc_runOrders hLX h hLI hl hI6 (by omega) (by omega) (by omega) K
    by_cases q_16 : v = 16
    · refine lv_tableIn (off := 631) (tgt := 664) hx hb dL_law_33 (by rw [q_16]; decide) (by rw [q_16]; decide) (by rw [q_16]; rfl) (by decide) ?_
      exact lc_undo hLX h hLI hl hI6 (by omega) (by omega) (by omega) K
    by_cases q_17 : v = 17
    · refine lv_tableIn (off := 644) (tgt := 677) hx hb dL_law_33 (by rw [q_17]; decide) (by rw [q_17]; decide) (by rw [q_17]; rfl) (by decide) ?_
      exact lc_keep hLX h hLI hl hI6 (by omega) (by omega) (by omega) K
    by_cases q_18 : v = 18
    · refine lv_tableIn (off := 667) (tgt := 700) hx hb dL_law_33 (by rw [q_18]; decide) (by rw [q_18]; decide) (by rw [q_18]; rfl) (by decide) ?_
      exact lc_restore hLX h hLI hl hI6 (by omega) (by omega) (by omega) K
    by_cases q_19 : v = 19
    · refine lv_tableIn (off := 690) (tgt := 723) hx hb dL_law_33 (by rw [q_19]; decide) (by rw [q_19]; decide) (by rw [q_19]; rfl) (by decide) ?_
      exact lc_wire hLX h hLI hl hI6 (by omega) (by omega) (by omega) K
    by_cases q_20 : v = 20
    · refine lv_tableIn (off := 723) (tgt := 756) hx hb dL_law_33 (by rw [q_20]; decide) (by rw [q_20]; decide) (by rw [q_20]; rfl) (by decide) ?_
      exact lc_rest hLX h hLI hl hI6 (by omega) (by omega) (by omega) K
    by_cases q_21 : v = 21
    · refine lv_tableIn (off := 766) (tgt := 799) hx hb dL_law_33 (by rw [q_21]; decide) (by rw [q_21]; decide) (by rw [q_21]; rfl) (by decide) ?_
      exact lc_position hLX h hLI hl hI6 (by omega) (by omega) (by omega) K
    by_cases q_22 : v = 22
    · refine lv_tableIn (off := 809) (tgt := 842) hx hb dL_law_33 (by rw [q_22]; decide) (by rw [q_22]; decide) (by rw [q_22]; rfl) (by decide) ?_
      exact lc_calmIn hLX h hLI hl hI6 (by omega) (by omega) (by omega) K
    by_cases q_23 : v = 23
    · refine lv_tableIn (off := 842) (tgt := 875) hx hb dL_law_33 (by rw [q_23]; decide) (by rw [q_23]; decide) (by rw [q_23]; rfl) (by decide) ?_
      exact lc_station hLX h hLI hl hI6 (by omega) (by omega) (by omega) K
    by_cases q_24 : v = 24
    · refine lv_tableIn (off := 875) (tgt := 908) hx hb dL_law_33 (by rw [q_24]; decide) (by rw [q_24]; decide) (by rw [q_24]; rfl) (by decide) ?_
      exact lc_observation hLX h hLI hl hI6 (by omega) (by omega) (by omega) K
    by_cases q_25 : v = 25
    · refine lv_tableIn (off := 918) (tgt := 951) hx hb dL_law_33 (by rw [q_25]; decide) (by rw [q_25]; decide) (by rw [q_25]; rfl) (by decide) ?_
      exact lc_bearing hLX h hLI hl hI6 (by omega) (by omega) (by omega) K
    by_cases q_26 : v = 26
    · refine lv_tableIn (off := 951) (tgt := 984) hx hb dL_law_33 (by rw [q_26]; decide) (by rw [q_26]; decide) (by rw [q_26]; rfl) (by decide) ?_
      exact lc_surface hLX h hLI hl hI6 (by omega) (by omega) (by omega) K
    by_cases q_27 : v = 27
    · refine lv_tableIn (off := 974) (tgt := 1007) hx hb dL_law_33 (by rw [q_27]; decide) (by rw [q_27]; decide) (by rw [q_27]; rfl) (by decide) ?_
      exact lc_given hLX h hLI hl hI6 (by omega) (by omega) (by omega) K
    by_cases q_28 : v = 28
    · refine lv_tableIn (off := 1007) (tgt := 1040) hx hb dL_law_33 (by rw [q_28]; decide) (by rw [q_28]; decide) (by rw [q_28]; rfl) (by decide) ?_
      exact lc_count hLX h hLI hl hI6 (by omega) (by omega) (by omega) K
    refine lv_tableOut (tgt := 1063) hx hb dL_law_33 (by have z0 : ¬ v.toInt = 0 := fun z => q_0 ((i_eq _ _).mpr z); have z1 : ¬ v.toInt = 1 := fun z => q_1 ((i_eq _ _).mpr z); have z2 : ¬ v.toInt = 2 := fun z => q_2 ((i_eq _ _).mpr z); have z3 : ¬ v.toInt = 3 := fun z => q_3 ((i_eq _ _).mpr z); have z4 : ¬ v.toInt = 4 := fun z => q_4 ((i_eq _ _).mpr z); have z5 : ¬ v.toInt = 5 := fun z => q_5 ((i_eq _ _).mpr z); have z6 : ¬ v.toInt = 6 := fun z => q_6 ((i_eq _ _).mpr z); have z7 : ¬ v.toInt = 7 := fun z => q_7 ((i_eq _ _).mpr z); have z8 : ¬ v.toInt = 8 := fun z => q_8 ((i_eq _ _).mpr z); have z9 : ¬ v.toInt = 9 := fun z => q_9 ((i_eq _ _).mpr z); have z10 : ¬ v.toInt = 10 := fun z => q_10 ((i_eq _ _).mpr z); have z11 : ¬ v.toInt = 11 := fun z => q_11 ((i_eq _ _).mpr z); have z12 : ¬ v.toInt = 12 := fun z => q_12 ((i_eq _ _).mpr z); have z13 : ¬ v.toInt = 13 := fun z => q_13 ((i_eq _ _).mpr z); have z14 : ¬ v.toInt = 14 := fun z => q_14 ((i_eq _ _).mpr z); have z15 : ¬ v.toInt = 15 := fun z => q_15 ((i_eq _ _).mpr z); have z16 : ¬ v.toInt = 16 := fun z => q_16 ((i_eq _ _).mpr z); have z17 : ¬ v.toInt = 17 := fun z => q_17 ((i_eq _ _).mpr z); have z18 : ¬ v.toInt = 18 := fun z => q_18 ((i_eq _ _).mpr z); have z19 : ¬ v.toInt = 19 := fun z => q_19 ((i_eq _ _).mpr z); have z20 : ¬ v.toInt = 20 := fun z => q_20 ((i_eq _ _).mpr z); have z21 : ¬ v.toInt = 21 := fun z => q_21 ((i_eq _ _).mpr z); have z22 : ¬ v.toInt = 22 := fun z => q_22 ((i_eq _ _).mpr z); have z23 : ¬ v.toInt = 23 := fun z => q_23 ((i_eq _ _).mpr z); have z24 : ¬ v.toInt = 24 := fun z => q_24 ((i_eq _ _).mpr z); have z25 : ¬ v.toInt = 25 := fun z => q_25 ((i_eq _ _).mpr z); have z26 : ¬ v.toInt = 26 := fun z => q_26 ((i_eq _ _).mpr z); have z27 : ¬ v.toInt = 27 := fun z => q_27 ((i_eq _ _).mpr z); have z28 : ¬ v.toInt = 28 := fun z => q_28 ((i_eq _ _).mpr z); omega) (by decide) ?_
    exact W.widen (by omega) (by omega) (K _ _ _ _ h (hLI.tb (by omega)))
end LL
set_option maxHeartbeats 4000000 in
set_option maxRecDepth 100000 in
/-- from the entry, for every script of at most 3072 ints, the law comes to its end with true -/
theorem whole_start {p : Program} {e : Env} {s : State} {m : MethodId} {below : List Frame} {meth : Method} {c : Code} (l : Launch) (hflags : l.flags = flags0) {b L : Nat} {xs : Nat → Int32} (hL : L ≤ 3072) (C0 : lw_At p s m meth c b L xs) : W p l e room_1 s m #[Value.ref b] below meth c s.heap [] 0 0 (lw_Z below #[Value.ref b] s) (entryFrame m ([Value.ref b] : List Value).toArray 4) := by
  obtain ⟨hx, hb, hr, hml, hown, hts, hX, hbl, hlocks, hgv⟩ := id C0
  obtain ⟨g, hgz, hK⟩ := kn_start hts hgv
  have F : Fx p s m #[Value.ref b] meth c code 4 ret RL lw_tbl g meth.name := ⟨hx, hb, hml, hown, hts, hr, hlocks, rfl, hK⟩
  have hbA : ¬ mAf g b := fun z => by
    have z : gz g ≤ b := z
    omega
  have hLX : LX p s m meth c b L xs g := ⟨F, hX, hbl, hbA, hL⟩
  have hl := lv_entry ([.ref b]) (n := 4) (Nat.le_of_ble_eq_true rfl)
  rw [lg_entry_eq]
  generalize (lg_sl ([.ref b]) ++ List.replicate (4 - (lg_sl ([.ref b])).length) Slot.unset).toArray = ls at hl ⊢
  have hl : lv_has ls 4 [(0, .ref b)] := hl
  have h : Hv g s s.heap [] 0 (fun _ => none) := ⟨⟨by rw [hgz]; rfl, fun i e he => absurd he (by simp)⟩, va_S.rf⟩
  refine r_new F h (ci := 7) (fs := [.null, .null, .int 0, .null, .null, .null, .int 0, .int 0]) (C := RX7) (T := TX7) (N := 8) (fun w hw => lwG_in w (hi_X7 w hw)) tyX7 tyX7_ok (lwG_in _ wd_65) (lwG_in _ wd_66) (lwG_in _ wd_51) rfl (fun j hj => by rcases (show j = 0 ∨ j = 1 ∨ j = 2 ∨ j = 3 ∨ j = 4 ∨ j = 5 ∨ j = 6 ∨ j = 7 by omega) with rfl | rfl | rfl | rfl | rfl | rfl | rfl | rfl <;> rfl) (Nat.le_of_ble_eq_true rfl) (Nat.le_of_ble_eq_true rfl) dL_law_0 (fun H h => ?_)
  refine lv_dup hx hb dL_law_3 rfl ?_
  refine u_v (ru_I (As := []) (rest := [.ref (gz g + 0)]) F h (k_X7_init l g 0 _ (mu_eq _ _ _)) (gG lwG_in wd_69) rfl (lwG_in _ wd_51) (lwG_in _ wd_67) (lwG_in _ wd_68) rfl 0 (by decide +kernel) rfl ⟨Nat.le_of_ble_eq_true rfl, Nat.le_of_ble_eq_true rfl⟩ rfl hl.1 (Nat.le_of_ble_eq_true rfl) ⟨Nat.le_of_ble_eq_true rfl, Nat.le_of_ble_eq_true rfl⟩ dL_law_4) h (fun n1 c1 H locs hp1 h => ?_)
  obtain ⟨hn1, C0', CB, CH, CS, CZ, CO, CT, CW, CN⟩ := hp1
  rw [hn1] at h
  refine lv_astore_n (lv' := [(1, .ref (gz g + 0)), (0, .ref b)]) hx hb dL_law_7 rfl hl (by decide) rfl (fun ls hl => ?_)
  refine r_new F h (ci := 8) (fs := [.null, .null, .null, .int 0, .null, .null, .int 0, .int 0, .null, .int 0, .int 0, .int 0, .null]) (C := RX8) (T := TX8) (N := 13) (fun w hw => lwG_in w (hi_X8 w hw)) tyX8 tyX8_ok (lwG_in _ wd_822) (lwG_in _ wd_823) (lwG_in _ wd_58) rfl (fun j hj => by rcases (show j = 0 ∨ j = 1 ∨ j = 2 ∨ j = 3 ∨ j = 4 ∨ j = 5 ∨ j = 6 ∨ j = 7 ∨ j = 8 ∨ j = 9 ∨ j = 10 ∨ j = 11 ∨ j = 12 by omega) with rfl | rfl | rfl | rfl | rfl | rfl | rfl | rfl | rfl | rfl | rfl | rfl | rfl <;> rfl) (Nat.le_of_ble_eq_true rfl) (Nat.le_of_ble_eq_true rfl) dL_law_8 (fun H h => ?_)
  refine lv_dup hx hb dL_law_11 rfl ?_
  refine u_v (ru_I (As := []) (rest := [.ref (gz g + 352)]) F h (k_X8_init l g 0 _ (mu_eq _ _ _)) (gG lwG_in wd_826) rfl (lwG_in _ wd_58) (lwG_in _ wd_824) (lwG_in _ wd_825) rfl 0 (by decide +kernel) rfl ⟨Nat.le_of_ble_eq_true rfl, Nat.le_of_ble_eq_true rfl⟩ rfl hl.1 (Nat.le_of_ble_eq_true rfl) ⟨Nat.le_of_ble_eq_true rfl, Nat.le_of_ble_eq_true rfl⟩ dL_law_12) h (fun n2 c2 H locs hp2 h => ?_)
  obtain ⟨hn2, M0, M1, M2, M3, M4, M5, M6, M7, hLo⟩ := hp2
  rw [hn2] at h
  refine lv_astore_n (lv' := [(2, .ref (gz g + 352)), (1, .ref (gz g + 0)), (0, .ref b)]) hx hb dL_law_15 rfl hl (by decide) rfl (fun ls hl => ?_)
  refine lv_iconst (v := 0) hx hb dL_law_16 (by decide) ?_
  refine lv_istore_n (lv' := [(3, .int 0), (2, .ref (gz g + 352)), (1, .ref (gz g + 0)), (0, .ref b)]) hx hb dL_law_17 rfl hl (by decide) rfl (fun ls hl => ?_)
  have lo : ∀ i : Nat, i < 352 → c2 i = c1 i := fun i hi => (hLo i hi).trans (mu_ne (by omega) _)
  have hLI : LI g 0 360 c2 := by
    refine ⟨Nat.le_refl _, 0, 0, 0, rw0, rw0, (fun _ => rw0), (fun _ => 0), (fun _ => rw0), (fun _ => 0), (fun _ => 0), (fun _ => 0), (fun _ => 0), (fun _ => 0), (fun _ => 0), (fun _ => 0), 0, 0, 0, 0, 0, ⟨?_, CB.kept (fun j _ _ => lo j (by omega)), Hx.kept ⟨_, CH⟩ (fun j _ _ => lo j (by omega)), CS.kept (fun j _ _ => lo j (by omega)), (lo _ (by decide)).trans CZ, ?_, (lo _ (by decide)).trans CT, (lo _ (by decide)).trans CW, (lo _ (by decide)).trans CN⟩, ⟨?_, M1, M2, M3, M4, M5, M6, M7⟩, by decide, by decide, iv_0, fun i hi => absurd hi (Nat.not_lt_zero i), fun k hk => ⟨Or.inl rfl, fun z => absurd (show (0 : Int32) = 1 from z) (by decide)⟩⟩
    · rw [nI_0]; exact (lo 0 (by decide)).trans C0'
    · rw [nI_0]; exact (lo _ (by decide)).trans CO
    · rw [nI_0]; exact M0
  have hl : lv_has ls 4 [(3, .int (nI 0)), (2, .ref (gz g + 352)), (1, .ref (gz g + 0)), (0, .ref b)] := by rw [nI_0]; exact hl
  exact W.widen (k := 360) (n := 4238) (Nat.le_of_ble_eq_true rfl) (Nat.le_of_ble_eq_true rfl) (law_loop hLX hgz 512 0 0 360 c2 H locs 360 4238 ls (by omega) (Nat.zero_le _) (by decide) (by decide) (by decide) h hLI hl)
