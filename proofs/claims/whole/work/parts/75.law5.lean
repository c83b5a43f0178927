/-! The law, call by call: stations, time. -/
section LC
variable {p : Program} {l : Launch} {e : Env} {s : State} {m : MethodId} {below : List Frame} {meth : Method} {c0 : Code} {b L : Nat} {xs : Nat → Int32} {g : Gf} {I tb n : Nat} {c : Mp} {H : Heap} {locs : List Loc} {cells slots : Nat} {ls : Array Slot}
set_option maxHeartbeats 4000000 in
set_option maxRecDepth 100000 in
theorem lc_addStation (hLX : LX p s m meth c0 b L xs g) (h : Hv g s H locs n c) (hLI : LI g tb n c) (hl : lv_has ls 4 [(3, .int (nI I)), (2, .ref (gz g + 352)), (1, .ref (gz g + 0)), (0, .ref b)]) (hI6 : I + 6 ≤ L) (htb : tb ≤ 800000000) (hcl : cells + 22 ≤ 600000) (hsl : slots + 88 ≤ 7302249) (K : LK p l e s m below meth c0 b g (cells + 22) (slots + 88) ls (tb + 720)) : W p l e room_1 s m #[Value.ref b] below meth c0 H locs cells slots (lw_Z below #[Value.ref b] s) (F0 m 468 ls []) := by
  obtain ⟨F, hX, hbl, hbA, hL⟩ := hLX
  have hx := F.1
  have hb := F.2.1
  obtain ⟨hn, lh, T, rs, R, r, hq, hh, S, sl, zk, tx, wd, nu, scr, oa, ct, pl, pl2, fa, od, hC, hM, hp⟩ := id hLI
  obtain ⟨C0, CB, CH, CS, CZ, CO, CT, CW, CN⟩ := id hC
  obtain ⟨M0, M1, M2, M3, M4, M5, M6, M7⟩ := id hM
  obtain ⟨l5, l7, ⟨sc, cn, hI, hR⟩, l2, l3⟩ := id hp
  have hW : WB R := hI.wb hR
  have c5 := hI.1.2.1
  have s5 := hI.1.2.2.2
  have hcn : R 3 = nI cn := (hR.lo (by decide)).trans hI.1.1
  have hsc : R 4 = nI sc := (hR.lo (by decide)).trans hI.1.2.2.1
  refine lv_aload_n hx hb dL_law_468 rfl (lv_at hl 2 rfl) ?_
  refine lv_aload_n hx hb dL_law_469 rfl (lv_at hl 3 rfl) ?_
  refine lv_iload_n hx hb dL_law_470 rfl (lv_at hl 0 rfl) ?_
  refine lv_iconst (v := 1) hx hb dL_law_471 (by decide) ?_
  refine lv_iadd hx hb dL_law_472 ?_
  refine r_sld hx hb hX hbl hbA h.2 (I := I) (j := 1) (nI_add I 1) (by omega) (by omega) dL_law_473 ?_
  refine lv_aload_n hx hb dL_law_474 rfl (lv_at hl 3 rfl) ?_
  refine lv_iload_n hx hb dL_law_475 rfl (lv_at hl 0 rfl) ?_
  refine lv_iconst (v := 2) hx hb dL_law_476 (by decide) ?_
  refine lv_iadd hx hb dL_law_477 ?_
  refine r_sld hx hb hX hbl hbA h.2 (I := I) (j := 2) (nI_add I 2) (by omega) (by omega) dL_law_478 ?_
  refine u_i (ru_V (As := [.int (xs (I + 1)), .int (xs (I + 2))]) (rest := []) F h C0 rfl (k_X7_addStation l g n c lh 0 rs C0 R CB l5 hq CH hW (xs (I + 1)) (xs (I + 2)) sc hsc s5) (gV lwG_in wd_431 wd_432 wd_433 wd_51 wd_434) rfl 2 (by decide +kernel) rfl ⟨Nat.le_of_ble_eq_true rfl, Nat.le_of_ble_eq_true rfl⟩ rfl hl.1 (Nat.le_of_ble_eq_true rfl) ⟨by show cells + 0 ≤ 600000; omega, by show slots + 0 ≤ 7302249; omega⟩ dL_law_479) h (fun r1 n1 c1 H locs hp1 h => ?_)
  have F1 : ∀ i : Nat, 260 ≤ i → i < n → c1 i = c i := hp1.2.2.2.2.2
  refine lv_aload_n hx hb dL_law_482 rfl (lv_at hl 1 rfl) ?_
  refine lv_aload_n hx hb dL_law_483 rfl (lv_at hl 3 rfl) ?_
  refine lv_iload_n hx hb dL_law_484 rfl (lv_at hl 0 rfl) ?_
  refine lv_iconst (v := 1) hx hb dL_law_485 (by decide) ?_
  refine lv_iadd hx hb dL_law_486 ?_
  refine r_sld hx hb hX hbl hbA h.2 (I := I) (j := 1) (nI_add I 1) (by omega) (by omega) dL_law_487 ?_
  refine lv_aload_n hx hb dL_law_488 rfl (lv_at hl 3 rfl) ?_
  refine lv_iload_n hx hb dL_law_489 rfl (lv_at hl 0 rfl) ?_
  refine lv_iconst (v := 2) hx hb dL_law_490 (by decide) ?_
  refine lv_iadd hx hb dL_law_491 ?_
  refine r_sld hx hb hX hbl hbA h.2 (I := I) (j := 2) (nI_add I 2) (by omega) (by omega) dL_law_492 ?_
  refine u_i (ru_V (As := [.int (xs (I + 1)), .int (xs (I + 2))]) (rest := [.int r1]) F h ((F1 352 (by decide) (by omega)).trans M0) rfl (k_X8_addStation l g n1 c1 352 lh l5 rs (nI T) pl2 fa od ((F1 352 (by decide) (by omega)).trans M0) r ((F1 _ (by decide) (by omega)).trans M1) scr ((F1 _ (by decide) (by omega)).trans M2) hh ((F1 _ (by decide) (by omega)).trans M3) (xs (I + 1)) (xs (I + 2)) sc hI.1.2.2.1 s5) (gV lwG_in wd_992 wd_993 wd_994 wd_58 wd_995) rfl 2 (by decide +kernel) rfl ⟨Nat.le_of_ble_eq_true rfl, Nat.le_of_ble_eq_true rfl⟩ rfl hl.1 (Nat.le_of_ble_eq_true rfl) ⟨by show cells + 0 + 0 ≤ 600000; omega, by show slots + 0 + 0 ≤ 7302249; omega⟩ dL_law_493) h (fun r2 n2 c2 H locs hp2 h => ?_)
  obtain ⟨e1, e2, e3⟩ := hp2
  have st := st_as hn hC hM hp (show tb ≤ tb + 720 by omega) (M0 := sp_X8_addStation lh rs r scr hh (xs (I + 1)) (xs (I + 2)) sc) hp1 ((as_addStation hI hR).tb (by omega)) e3
  rw [e1] at h
  refine lv_icmp_eq (tgt := 1063) hx hb dL_law_496 (by decide) (fun _ => ?_) (fun z => absurd (st.1.trans e2.symm) z)
  exact W.widen (by omega) (by omega) (K _ _ _ _ h (st.2))
set_option maxHeartbeats 4000000 in
set_option maxRecDepth 100000 in
theorem lc_setTolerance (hLX : LX p s m meth c0 b L xs g) (h : Hv g s H locs n c) (hLI : LI g tb n c) (hl : lv_has ls 4 [(3, .int (nI I)), (2, .ref (gz g + 352)), (1, .ref (gz g + 0)), (0, .ref b)]) (hI6 : I + 6 ≤ L) (htb : tb ≤ 800000000) (hcl : cells + 22 ≤ 600000) (hsl : slots + 88 ≤ 7302249) (K : LK p l e s m below meth c0 b g (cells + 22) (slots + 88) ls (tb + 720)) : W p l e room_1 s m #[Value.ref b] below meth c0 H locs cells slots (lw_Z below #[Value.ref b] s) (F0 m 501 ls []) := by
  obtain ⟨F, hX, hbl, hbA, hL⟩ := hLX
  have hx := F.1
  have hb := F.2.1
  obtain ⟨hn, lh, T, rs, R, r, hq, hh, S, sl, zk, tx, wd, nu, scr, oa, ct, pl, pl2, fa, od, hC, hM, hp⟩ := id hLI
  obtain ⟨C0, CB, CH, CS, CZ, CO, CT, CW, CN⟩ := id hC
  obtain ⟨M0, M1, M2, M3, M4, M5, M6, M7⟩ := id hM
  obtain ⟨l5, l7, ⟨sc, cn, hI, hR⟩, l2, l3⟩ := id hp
  have hW : WB R := hI.wb hR
  have c5 := hI.1.2.1
  have s5 := hI.1.2.2.2
  have hcn : R 3 = nI cn := (hR.lo (by decide)).trans hI.1.1
  have hsc : R 4 = nI sc := (hR.lo (by decide)).trans hI.1.2.2.1
  refine lv_aload_n hx hb dL_law_501 rfl (lv_at hl 2 rfl) ?_
  refine lv_aload_n hx hb dL_law_502 rfl (lv_at hl 3 rfl) ?_
  refine lv_iload_n hx hb dL_law_503 rfl (lv_at hl 0 rfl) ?_
  refine lv_iconst (v := 1) hx hb dL_law_504 (by decide) ?_
  refine lv_iadd hx hb dL_law_505 ?_
  refine r_sld hx hb hX hbl hbA h.2 (I := I) (j := 1) (nI_add I 1) (by omega) (by omega) dL_law_506 ?_
  refine u_i (ru_V (As := [.int (xs (I + 1))]) (rest := []) F h C0 rfl (k_X7_setTolerance l g n c lh 0 rs C0 R CB l5 hq CH hW (xs (I + 1)) ) (gV lwG_in wd_439 wd_440 wd_441 wd_51 wd_442) rfl 1 (by decide +kernel) rfl ⟨Nat.le_of_ble_eq_true rfl, Nat.le_of_ble_eq_true rfl⟩ rfl hl.1 (Nat.le_of_ble_eq_true rfl) ⟨by show cells + 0 ≤ 600000; omega, by show slots + 0 ≤ 7302249; omega⟩ dL_law_507) h (fun r1 n1 c1 H locs hp1 h => ?_)
  have F1 : ∀ i : Nat, 260 ≤ i → i < n → c1 i = c i := hp1.2.2.2.2.2
  refine lv_aload_n hx hb dL_law_510 rfl (lv_at hl 1 rfl) ?_
  refine lv_aload_n hx hb dL_law_511 rfl (lv_at hl 3 rfl) ?_
  refine lv_iload_n hx hb dL_law_512 rfl (lv_at hl 0 rfl) ?_
  refine lv_iconst (v := 1) hx hb dL_law_513 (by decide) ?_
  refine lv_iadd hx hb dL_law_514 ?_
  refine r_sld hx hb hX hbl hbA h.2 (I := I) (j := 1) (nI_add I 1) (by omega) (by omega) dL_law_515 ?_
  refine u_i (ru_V (As := [.int (xs (I + 1))]) (rest := [.int r1]) F h ((F1 352 (by decide) (by omega)).trans M0) rfl (k_X8_setTolerance l g n1 c1 352 lh l5 rs (nI T) pl2 fa od ((F1 352 (by decide) (by omega)).trans M0) r ((F1 _ (by decide) (by omega)).trans M1) scr ((F1 _ (by decide) (by omega)).trans M2) hh ((F1 _ (by decide) (by omega)).trans M3) (xs (I + 1)) ) (gV lwG_in wd_996 wd_997 wd_998 wd_58 wd_999) rfl 1 (by decide +kernel) rfl ⟨Nat.le_of_ble_eq_true rfl, Nat.le_of_ble_eq_true rfl⟩ rfl hl.1 (Nat.le_of_ble_eq_true rfl) ⟨by show cells + 0 + 0 ≤ 600000; omega, by show slots + 0 + 0 ≤ 7302249; omega⟩ dL_law_516) h (fun r2 n2 c2 H locs hp2 h => ?_)
  obtain ⟨e1, e2, e3⟩ := hp2
  have st := st_as hn hC hM hp (show tb ≤ tb + 720 by omega) (M0 := sp_X8_setTolerance lh rs r scr hh (xs (I + 1))) hp1 ((as_setTolerance hI hR).tb (by omega)) e3
  rw [e1] at h
  refine lv_icmp_eq (tgt := 1063) hx hb dL_law_519 (by decide) (fun _ => ?_) (fun z => absurd (st.1.trans e2.symm) z)
  exact W.widen (by omega) (by omega) (K _ _ _ _ h (st.2))
set_option maxHeartbeats 4000000 in
set_option maxRecDepth 100000 in
theorem lc_pass (hLX : LX p s m meth c0 b L xs g) (h : Hv g s H locs n c) (hLI : LI g tb n c) (hl : lv_has ls 4 [(3, .int (nI I)), (2, .ref (gz g + 352)), (1, .ref (gz g + 0)), (0, .ref b)]) (hI6 : I + 6 ≤ L) (htb : tb ≤ 800000000) (hcl : cells + 22 ≤ 600000) (hsl : slots + 88 ≤ 7302249) (K : LK p l e s m below meth c0 b g (cells + 22) (slots + 88) ls (tb + 720)) : W p l e room_1 s m #[Value.ref b] below meth c0 H locs cells slots (lw_Z below #[Value.ref b] s) (F0 m 524 ls []) := by
  obtain ⟨F, hX, hbl, hbA, hL⟩ := hLX
  have hx := F.1
  have hb := F.2.1
  obtain ⟨hn, lh, T, rs, R, r, hq, hh, S, sl, zk, tx, wd, nu, scr, oa, ct, pl, pl2, fa, od, hC, hM, hp⟩ := id hLI
  obtain ⟨C0, CB, CH, CS, CZ, CO, CT, CW, CN⟩ := id hC
  obtain ⟨M0, M1, M2, M3, M4, M5, M6, M7⟩ := id hM
  obtain ⟨l5, l7, ⟨sc, cn, hI, hR⟩, l2, l3⟩ := id hp
  have hW : WB R := hI.wb hR
  have c5 := hI.1.2.1
  have s5 := hI.1.2.2.2
  have hcn : R 3 = nI cn := (hR.lo (by decide)).trans hI.1.1
  have hsc : R 4 = nI sc := (hR.lo (by decide)).trans hI.1.2.2.1
  refine lv_aload_n hx hb dL_law_524 rfl (lv_at hl 2 rfl) ?_
  refine lv_aload_n hx hb dL_law_525 rfl (lv_at hl 3 rfl) ?_
  refine lv_iload_n hx hb dL_law_526 rfl (lv_at hl 0 rfl) ?_
  refine lv_iconst (v := 1) hx hb dL_law_527 (by decide) ?_
  refine lv_iadd hx hb dL_law_528 ?_
  refine r_sld hx hb hX hbl hbA h.2 (I := I) (j := 1) (nI_add I 1) (by omega) (by omega) dL_law_529 ?_
  refine u_i (ru_V (As := [.int (xs (I + 1))]) (rest := []) F h C0 rfl (k_X7_pass l g n c lh 0 rs C0 R CB l5 hq CH hW (xs (I + 1)) ) (gV lwG_in wd_443 wd_444 wd_445 wd_51 wd_446) rfl 1 (by decide +kernel) rfl ⟨Nat.le_of_ble_eq_true rfl, Nat.le_of_ble_eq_true rfl⟩ rfl hl.1 (Nat.le_of_ble_eq_true rfl) ⟨by show cells + 0 ≤ 600000; omega, by show slots + 0 ≤ 7302249; omega⟩ dL_law_530) h (fun r1 n1 c1 H locs hp1 h => ?_)
  have F1 : ∀ i : Nat, 260 ≤ i → i < n → c1 i = c i := hp1.2.2.2.2.2
  refine lv_aload_n hx hb dL_law_533 rfl (lv_at hl 1 rfl) ?_
  refine lv_aload_n hx hb dL_law_534 rfl (lv_at hl 3 rfl) ?_
  refine lv_iload_n hx hb dL_law_535 rfl (lv_at hl 0 rfl) ?_
  refine lv_iconst (v := 1) hx hb dL_law_536 (by decide) ?_
  refine lv_iadd hx hb dL_law_537 ?_
  refine r_sld hx hb hX hbl hbA h.2 (I := I) (j := 1) (nI_add I 1) (by omega) (by omega) dL_law_538 ?_
  refine u_i (ru_V (As := [.int (xs (I + 1))]) (rest := [.int r1]) F h ((F1 352 (by decide) (by omega)).trans M0) rfl (k_X8_pass l g n1 c1 352 lh l5 rs (nI T) pl2 fa od ((F1 352 (by decide) (by omega)).trans M0) r ((F1 _ (by decide) (by omega)).trans M1) scr ((F1 _ (by decide) (by omega)).trans M2) hh ((F1 _ (by decide) (by omega)).trans M3) (xs (I + 1)) hI.ht) (gV lwG_in wd_977 wd_978 wd_979 wd_58 wd_980) rfl 1 (by decide +kernel) rfl ⟨Nat.le_of_ble_eq_true rfl, Nat.le_of_ble_eq_true rfl⟩ rfl hl.1 (Nat.le_of_ble_eq_true rfl) ⟨by show cells + 0 + 0 ≤ 600000; omega, by show slots + 0 + 0 ≤ 7302249; omega⟩ dL_law_539) h (fun r2 n2 c2 H locs hp2 h => ?_)
  obtain ⟨e1, e2, e3⟩ := hp2
  have st := st_as hn hC hM hp (show tb ≤ tb + 720 by omega) (M0 := sp_X8_pass lh rs r scr hh (xs (I + 1))) hp1 (((ds_pass hI hR (by omega)).as).tb (by omega)) e3
  rw [e1] at h
  refine lv_icmp_eq (tgt := 1063) hx hb dL_law_542 (by decide) (fun _ => ?_) (fun z => absurd (st.1.trans e2.symm) z)
  exact W.widen (by omega) (by omega) (K _ _ _ _ h (st.2))
set_option maxHeartbeats 4000000 in
set_option maxRecDepth 100000 in
theorem lc_observe (hLX : LX p s m meth c0 b L xs g) (h : Hv g s H locs n c) (hLI : LI g tb n c) (hl : lv_has ls 4 [(3, .int (nI I)), (2, .ref (gz g + 352)), (1, .ref (gz g + 0)), (0, .ref b)]) (hI6 : I + 6 ≤ L) (htb : tb ≤ 800000000) (hcl : cells + 22 ≤ 600000) (hsl : slots + 88 ≤ 7302249) (K : LK p l e s m below meth c0 b g (cells + 22) (slots + 88) ls (tb + 720)) : W p l e room_1 s m #[Value.ref b] below meth c0 H locs cells slots (lw_Z below #[Value.ref b] s) (F0 m 547 ls []) := by
  obtain ⟨F, hX, hbl, hbA, hL⟩ := hLX
  have hx := F.1
  have hb := F.2.1
  obtain ⟨hn, lh, T, rs, R, r, hq, hh, S, sl, zk, tx, wd, nu, scr, oa, ct, pl, pl2, fa, od, hC, hM, hp⟩ := id hLI
  obtain ⟨C0, CB, CH, CS, CZ, CO, CT, CW, CN⟩ := id hC
  obtain ⟨M0, M1, M2, M3, M4, M5, M6, M7⟩ := id hM
  obtain ⟨l5, l7, ⟨sc, cn, hI, hR⟩, l2, l3⟩ := id hp
  have hW : WB R := hI.wb hR
  have c5 := hI.1.2.1
  have s5 := hI.1.2.2.2
  have hcn : R 3 = nI cn := (hR.lo (by decide)).trans hI.1.1
  have hsc : R 4 = nI sc := (hR.lo (by decide)).trans hI.1.2.2.1
  refine lv_aload_n hx hb dL_law_547 rfl (lv_at hl 2 rfl) ?_
  refine lv_aload_n hx hb dL_law_548 rfl (lv_at hl 3 rfl) ?_
  refine lv_iload_n hx hb dL_law_549 rfl (lv_at hl 0 rfl) ?_
  refine lv_iconst (v := 1) hx hb dL_law_550 (by decide) ?_
  refine lv_iadd hx hb dL_law_551 ?_
  refine r_sld hx hb hX hbl hbA h.2 (I := I) (j := 1) (nI_add I 1) (by omega) (by omega) dL_law_552 ?_
  refine lv_aload_n hx hb dL_law_553 rfl (lv_at hl 3 rfl) ?_
  refine lv_iload_n hx hb dL_law_554 rfl (lv_at hl 0 rfl) ?_
  refine lv_iconst (v := 2) hx hb dL_law_555 (by decide) ?_
  refine lv_iadd hx hb dL_law_556 ?_
  refine r_sld hx hb hX hbl hbA h.2 (I := I) (j := 2) (nI_add I 2) (by omega) (by omega) dL_law_557 ?_
  refine lv_aload_n hx hb dL_law_558 rfl (lv_at hl 3 rfl) ?_
  refine lv_iload_n hx hb dL_law_559 rfl (lv_at hl 0 rfl) ?_
  refine lv_iconst (v := 3) hx hb dL_law_560 (by decide) ?_
  refine lv_iadd hx hb dL_law_561 ?_
  refine r_sld hx hb hX hbl hbA h.2 (I := I) (j := 3) (nI_add I 3) (by omega) (by omega) dL_law_562 ?_
  refine u_i (ru_V (As := [.int (xs (I + 1)), .int (xs (I + 2)), .int (xs (I + 3))]) (rest := []) F h C0 rfl (k_X7_observe l g n c lh 0 rs C0 R CB l5 hq CH hW (xs (I + 1)) (xs (I + 2)) (xs (I + 3)) sc cn hsc s5 hcn c5 (by omega)) (gV lwG_in wd_460 wd_461 wd_462 wd_51 wd_463) rfl 3 (by decide +kernel) rfl ⟨Nat.le_of_ble_eq_true rfl, Nat.le_of_ble_eq_true rfl⟩ rfl hl.1 (Nat.le_of_ble_eq_true rfl) ⟨by show cells + 2 ≤ 600000; omega, by show slots + 8 ≤ 7302249; omega⟩ dL_law_563) h (fun r1 n1 c1 H locs hp1 h => ?_)
  have F1 : ∀ i : Nat, 260 ≤ i → i < n → c1 i = c i := hp1.2.2.2.2.2
  refine lv_aload_n hx hb dL_law_566 rfl (lv_at hl 1 rfl) ?_
  refine lv_aload_n hx hb dL_law_567 rfl (lv_at hl 3 rfl) ?_
  refine lv_iload_n hx hb dL_law_568 rfl (lv_at hl 0 rfl) ?_
  refine lv_iconst (v := 1) hx hb dL_law_569 (by decide) ?_
  refine lv_iadd hx hb dL_law_570 ?_
  refine r_sld hx hb hX hbl hbA h.2 (I := I) (j := 1) (nI_add I 1) (by omega) (by omega) dL_law_571 ?_
  refine lv_aload_n hx hb dL_law_572 rfl (lv_at hl 3 rfl) ?_
  refine lv_iload_n hx hb dL_law_573 rfl (lv_at hl 0 rfl) ?_
  refine lv_iconst (v := 2) hx hb dL_law_574 (by decide) ?_
  refine lv_iadd hx hb dL_law_575 ?_
  refine r_sld hx hb hX hbl hbA h.2 (I := I) (j := 2) (nI_add I 2) (by omega) (by omega) dL_law_576 ?_
  refine lv_aload_n hx hb dL_law_577 rfl (lv_at hl 3 rfl) ?_
  refine lv_iload_n hx hb dL_law_578 rfl (lv_at hl 0 rfl) ?_
  refine lv_iconst (v := 3) hx hb dL_law_579 (by decide) ?_
  refine lv_iadd hx hb dL_law_580 ?_
  refine r_sld hx hb hX hbl hbA h.2 (I := I) (j := 3) (nI_add I 3) (by omega) (by omega) dL_law_581 ?_
  refine u_i (ru_V (As := [.int (xs (I + 1)), .int (xs (I + 2)), .int (xs (I + 3))]) (rest := [.int r1]) F h ((F1 352 (by decide) (by omega)).trans M0) rfl (k_X8_observe l g n1 c1 352 lh l5 rs (nI T) pl2 fa od ((F1 352 (by decide) (by omega)).trans M0) r ((F1 _ (by decide) (by omega)).trans M1) scr ((F1 _ (by decide) (by omega)).trans M2) hh ((F1 _ (by decide) (by omega)).trans M3) (xs (I + 1)) (xs (I + 2)) (xs (I + 3)) sc cn hI.1.2.2.1 s5 hI.1.1 c5 hI.hq hI.ht) (gV lwG_in wd_1000 wd_1001 wd_1002 wd_58 wd_1003) rfl 3 (by decide +kernel) rfl ⟨Nat.le_of_ble_eq_true rfl, Nat.le_of_ble_eq_true rfl⟩ rfl hl.1 (Nat.le_of_ble_eq_true rfl) ⟨by show cells + 2 + 0 ≤ 600000; omega, by show slots + 8 + 0 ≤ 7302249; omega⟩ dL_law_582) h (fun r2 n2 c2 H locs hp2 h => ?_)
  obtain ⟨e1, e2, e3⟩ := hp2
  have st := st_as hn hC hM hp (show tb ≤ tb + 720 by omega) (M0 := sp_X8_observe lh rs r scr hh (xs (I + 1)) (xs (I + 2)) (xs (I + 3)) sc cn) hp1 (((ds_observe hI hR (by omega)).as).tb (by omega)) e3
  rw [e1] at h
  refine lv_icmp_eq (tgt := 1063) hx hb dL_law_585 (by decide) (fun _ => ?_) (fun z => absurd (st.1.trans e2.symm) z)
  exact W.widen (by omega) (by omega) (K _ _ _ _ h (st.2))
set_option maxHeartbeats 4000000 in
set_option maxRecDepth 100000 in
theorem lc_orient (hLX : LX p s m meth c0 b L xs g) (h : Hv g s H locs n c) (hLI : LI g tb n c) (hl : lv_has ls 4 [(3, .int (nI I)), (2, .ref (gz g + 352)), (1, .ref (gz g + 0)), (0, .ref b)]) (hI6 : I + 6 ≤ L) (htb : tb ≤ 800000000) (hcl : cells + 22 ≤ 600000) (hsl : slots + 88 ≤ 7302249) (K : LK p l e s m below meth c0 b g (cells + 22) (slots + 88) ls (tb + 720)) : W p l e room_1 s m #[Value.ref b] below meth c0 H locs cells slots (lw_Z below #[Value.ref b] s) (F0 m 590 ls []) := by
  obtain ⟨F, hX, hbl, hbA, hL⟩ := hLX
  have hx := F.1
  have hb := F.2.1
  obtain ⟨hn, lh, T, rs, R, r, hq, hh, S, sl, zk, tx, wd, nu, scr, oa, ct, pl, pl2, fa, od, hC, hM, hp⟩ := id hLI
  obtain ⟨C0, CB, CH, CS, CZ, CO, CT, CW, CN⟩ := id hC
  obtain ⟨M0, M1, M2, M3, M4, M5, M6, M7⟩ := id hM
  obtain ⟨l5, l7, ⟨sc, cn, hI, hR⟩, l2, l3⟩ := id hp
  have hW : WB R := hI.wb hR
  have c5 := hI.1.2.1
  have s5 := hI.1.2.2.2
  have hcn : R 3 = nI cn := (hR.lo (by decide)).trans hI.1.1
  have hsc : R 4 = nI sc := (hR.lo (by decide)).trans hI.1.2.2.1
  refine lv_aload_n hx hb dL_law_590 rfl (lv_at hl 2 rfl) ?_
  refine lv_aload_n hx hb dL_law_591 rfl (lv_at hl 3 rfl) ?_
  refine lv_iload_n hx hb dL_law_592 rfl (lv_at hl 0 rfl) ?_
  refine lv_iconst (v := 1) hx hb dL_law_593 (by decide) ?_
  refine lv_iadd hx hb dL_law_594 ?_
  refine r_sld hx hb hX hbl hbA h.2 (I := I) (j := 1) (nI_add I 1) (by omega) (by omega) dL_law_595 ?_
  refine u_i (ru_V (As := [.int (xs (I + 1))]) (rest := []) F h C0 rfl (k_X7_orient l g n c lh 0 rs C0 R CB l5 hq CH hW (xs (I + 1)) sc hsc s5) (gV lwG_in wd_543 wd_544 wd_545 wd_51 wd_546) rfl 1 (by decide +kernel) rfl ⟨Nat.le_of_ble_eq_true rfl, Nat.le_of_ble_eq_true rfl⟩ rfl hl.1 (Nat.le_of_ble_eq_true rfl) ⟨by show cells + 0 ≤ 600000; omega, by show slots + 0 ≤ 7302249; omega⟩ dL_law_596) h (fun r1 n1 c1 H locs hp1 h => ?_)
  have F1 : ∀ i : Nat, 260 ≤ i → i < n → c1 i = c i := hp1.2.2.2.2.2
  refine lv_aload_n hx hb dL_law_599 rfl (lv_at hl 1 rfl) ?_
  refine lv_aload_n hx hb dL_law_600 rfl (lv_at hl 3 rfl) ?_
  refine lv_iload_n hx hb dL_law_601 rfl (lv_at hl 0 rfl) ?_
  refine lv_iconst (v := 1) hx hb dL_law_602 (by decide) ?_
  refine lv_iadd hx hb dL_law_603 ?_
  refine r_sld hx hb hX hbl hbA h.2 (I := I) (j := 1) (nI_add I 1) (by omega) (by omega) dL_law_604 ?_
  refine u_i (ru_V (As := [.int (xs (I + 1))]) (rest := [.int r1]) F h ((F1 352 (by decide) (by omega)).trans M0) rfl (k_X8_orient l g n1 c1 352 lh l5 rs (nI T) pl2 fa od ((F1 352 (by decide) (by omega)).trans M0) r ((F1 _ (by decide) (by omega)).trans M1) scr ((F1 _ (by decide) (by omega)).trans M2) hh ((F1 _ (by decide) (by omega)).trans M3) (xs (I + 1)) sc hI.1.2.2.1 s5) (gV lwG_in wd_1076 wd_1077 wd_1078 wd_58 wd_1079) rfl 1 (by decide +kernel) rfl ⟨Nat.le_of_ble_eq_true rfl, Nat.le_of_ble_eq_true rfl⟩ rfl hl.1 (Nat.le_of_ble_eq_true rfl) ⟨by show cells + 0 + 0 ≤ 600000; omega, by show slots + 0 + 0 ≤ 7302249; omega⟩ dL_law_605) h (fun r2 n2 c2 H locs hp2 h => ?_)
  obtain ⟨e1, e2, e3⟩ := hp2
  have st := st_as hn hC hM hp (show tb ≤ tb + 720 by omega) (M0 := sp_X8_orient lh rs r scr hh (xs (I + 1)) sc) hp1 (((ds_orient hI hR).as).tb (by omega)) e3
  rw [e1] at h
  refine lv_icmp_eq (tgt := 1063) hx hb dL_law_608 (by decide) (fun _ => ?_) (fun z => absurd (st.1.trans e2.symm) z)
  exact W.widen (by omega) (by omega) (K _ _ _ _ h (st.2))
end LC
