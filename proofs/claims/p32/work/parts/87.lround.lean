/-! The law: a round, the first acts. -/
theorem nI_nn {k : Nat} (h : k < 2 ^ 31) : 0 ≤ (nI k).toInt := by rw [nI_toInt h]; omega
theorem kb_cell (l : Launch) (g : Gf) (n : Nat) (c : Mp) {b : Nat} (hgb : g.2.2.2 2 = b) (k : Int32) (hk : 0 ≤ k.toInt) : Ct l g yL_cell wsL_cell 0 0 0 0 [.ref b, .int k] n c (Qi g (fun xr n' c' => n' = n ∧ c' = c)) := by
  subst hgb
  exact k_L_cell l g n c k hk
theorem jv_0 : Jv rw0 0 0 0 := by
  have z : ∀ k : Nat, k ≠ 1 → rw0 k = 0 := fun k hk => if_neg hk
  refine ⟨⟨rw0, ⟨⟨by rw [z 3 (by decide)]; exact nI_0.symm, by decide, by rw [z 4 (by decide)]; exact nI_0.symm, by decide⟩, ⟨by rw [z 0 (by decide)]; decide, by rw [z 0 (by decide)]; decide, ?_⟩, fun w hw => ?_, fun k hk => absurd hk (by omega), fun s hs => absurd hs (by omega), fun s w hs hw => ?_⟩, fun _ _ _ => rfl, fun s hs => ?_, fun s hs => absurd hs (by omega)⟩, fun s w hs => absurd hs (by omega), fun s hs => absurd hs (by omega)⟩
  · have e : rw0 1 = 10 := rfl
    rw [e]; unfold Bt; decide
  · rw [z _ (by omega)]
    exact ⟨Or.inl rfl, fun q => absurd q (by decide)⟩
  · rw [z _ (by omega)]
    exact ⟨Or.inl rfl, fun _ => rfl, fun q => absurd q (by decide)⟩
  · rw [z _ (by omega)]
    exact Or.inl rfl
section LD
variable {p : Program} {l : Launch} {e : Env} {s : State} {m : MethodId} {below : List Frame} {meth : Method} {c0 : Code} {b : Nat} {g : Gf} {tb n : Nat} {c : Mp} {H : Heap} {locs : List Loc} {cl sl : Nat} {ls : Array Slot} {lh : Nat} {rs : Int32} {R : Nat → Int32} {hq : Nat → Nat → Int32} {sc cn : Nat}
set_option maxHeartbeats 4000000 in
set_option maxRecDepth 100000 in
theorem lc_round (F : Fx p s m #[Value.ref b] meth c0 code 12 ret RL lw_tbl g meth.name) (hgb : g.2.2.2 2 = b) (h : Hv g s H locs n c) (hWd : Wd g c lh rs R hq) (J : Jv R sc cn tb) (hs1 : 1 ≤ sc) (hn : 352 ≤ n) (ht : tb ≤ 800000000) (i1 : Nat) (hi : i1 < 40) (hl : lv_has ls 12 [(0, .ref b), (1, .ref (gz g + 0)), (2, .int (nI i1))]) (hcl : cl + 5 ≤ 744077) (hsl : sl + 14 ≤ 6870016) (K43 : ∀ (n' : Nat) (c' : Mp) (H' : Heap) (locs' : List Loc) (ls' : Array Slot), Hv g s H' locs' n' c' → LIv g (tb + 60) n' c' → lv_has ls' 12 [(0, .ref b), (1, .ref (gz g + 0)), (2, .int (nI (i1 + 1)))] → W p l e room_1 s m #[Value.ref b] below meth c0 H' locs' (cl + 5) (sl + 14) (lw_Z below #[Value.ref b] s) (F0 m 43 ls' [])) : W p l e room_1 s m #[Value.ref b] below meth c0 H locs cl sl (lw_Z below #[Value.ref b] s) (F0 m 49 ls []) := by
  have hx := F.1
  have hb := F.2.1
  have s5 := J.s5
  refine lv_aload_n hx hb dL_law_49 rfl (lv_at hl 0 rfl) ?_
  refine lv_iconst (v := 2) hx hb dL_law_50 (by decide) ?_
  refine lv_iload_n hx hb dL_law_51 rfl (lv_at hl 2 rfl) ?_
  refine lv_imul hx hb dL_law_52 ?_
  refine r_top (w := .int (nI (2 * i1))) (congrArg Value.int (pk_mul 2 i1)) ?_
  refine u_i (ru_S (As := [.ref b, .int (nI (2 * i1))]) (rest := []) F h (kb_cell l g n c hgb (nI (2 * i1)) (nI_nn (by omega))) (gS lwG_in wd_415 wd_416 wd_15 wd_417) rfl 2 (by decide +kernel) rfl ⟨Nat.le_of_ble_eq_true rfl, Nat.le_of_ble_eq_true rfl⟩ rfl hl.1 (Nat.le_of_ble_eq_true rfl) ⟨by show cl + 0 ≤ 744077; omega, by show sl + 0 ≤ 6870016; omega⟩ dL_law_53) h (fun g0 n1 c1 H locs hp h => ?_)
  obtain ⟨q1, q2⟩ := hp
  rw [q1, q2] at h
  refine lv_istore_n (lv' := [(3, .int g0), (0, .ref b), (1, .ref (gz g + 0)), (2, .int (nI i1))]) hx hb dL_law_56 rfl hl (by decide) rfl (fun ls hl => ?_)
  refine lv_aload_n hx hb dL_law_57 rfl (lv_at hl 1 rfl) ?_
  refine lv_iconst (v := 2) hx hb dL_law_58 (by decide) ?_
  refine lv_iload_n hx hb dL_law_59 rfl (lv_at hl 3 rfl) ?_
  refine lv_imul hx hb dL_law_60 ?_
  refine r_top (w := .int (nI (2 * i1))) (congrArg Value.int (pk_mul 2 i1)) ?_
  refine lv_iconst (v := 1) hx hb dL_law_61 (by decide) ?_
  refine lv_iadd hx hb dL_law_62 ?_
  refine r_top (w := .int (nI (2 * i1 + 1))) (congrArg Value.int (nI_1 (2 * i1))) ?_
  refine u_i (ru_S (As := [.ref b, .int (nI (2 * i1 + 1))]) (rest := []) F h (kb_cell l g n c hgb (nI (2 * i1 + 1)) (nI_nn (by omega))) (gS lwG_in wd_415 wd_416 wd_15 wd_417) rfl 2 (by decide +kernel) rfl ⟨Nat.le_of_ble_eq_true rfl, Nat.le_of_ble_eq_true rfl⟩ rfl hl.1 (Nat.le_of_ble_eq_true rfl) ⟨by show cl + 0 ≤ 744077; omega, by show sl + 0 ≤ 6870016; omega⟩ dL_law_63) h (fun hv n1 c1 H locs hp h => ?_)
  obtain ⟨q1, q2⟩ := hp
  rw [q1, q2] at h
  refine lv_istore (lv' := [(4, .int hv), (3, .int g0), (0, .ref b), (1, .ref (gz g + 0)), (2, .int (nI i1))]) hx hb dL_law_66 hl (by decide) rfl (fun ls hl => ?_)
  refine lv_iload_n hx hb dL_law_68 rfl (lv_at hl 1 rfl) ?_
  refine lv_bipush (v := 15) hx hb dL_law_69 (by decide) ?_
  refine u_iE (v := (lwI g0 15)) (ru_S (As := [.int g0, .int 15]) (rest := []) F h (k_L_low l g n c g0 15 (by decide)) (gS lwG_in wd_419 wd_420 wd_15 wd_421) rfl 2 (by decide +kernel) rfl ⟨Nat.le_of_ble_eq_true rfl, Nat.le_of_ble_eq_true rfl⟩ rfl hl.1 (Nat.le_of_ble_eq_true rfl) ⟨by show cl + 0 ≤ 744077; omega, by show sl + 0 ≤ 6870016; omega⟩ dL_law_71) h (fun H locs h => ?_)
  refine lv_istore (lv' := [(5, .int (lwI g0 15)), (4, .int hv), (3, .int g0), (0, .ref b), (1, .ref (gz g + 0)), (2, .int (nI i1))]) hx hb dL_law_74 hl (by decide) rfl (fun ls hl => ?_)
  obtain ⟨sr, e_sr⟩ : ∃ x : Int32, x = (lwI g0 15) := ⟨_, rfl⟩
  have hl : lv_has ls 12 [(5, .int sr), (4, .int hv), (3, .int g0), (0, .ref b), (1, .ref (gz g + 0)), (2, .int (nI i1))] := by rw [show (sr : Int32) = (lwI g0 15) from e_sr]; exact hl
  refine lv_iload_n hx hb dL_law_76 rfl (lv_at hl 2 rfl) ?_
  refine lv_iconst (v := 4) hx hb dL_law_77 (by decide) ?_
  refine lv_ishr hx hb dL_law_78 ?_
  refine lv_istore_n (lv' := [(3, .int (g0 >>> ((4 : Int32) &&& 31))), (5, .int sr), (4, .int hv), (0, .ref b), (1, .ref (gz g + 0)), (2, .int (nI i1))]) hx hb dL_law_79 rfl hl (by decide) rfl (fun ls hl => ?_)
  obtain ⟨gv, e_gv⟩ : ∃ x : Int32, x = (g0 >>> ((4 : Int32) &&& 31)) := ⟨_, rfl⟩
  have hl : lv_has ls 12 [(3, .int gv), (5, .int sr), (4, .int hv), (0, .ref b), (1, .ref (gz g + 0)), (2, .int (nI i1))] := by rw [show (gv : Int32) = (g0 >>> ((4 : Int32) &&& 31)) from e_gv]; exact hl
  refine lv_iload_n hx hb dL_law_80 rfl (lv_at hl 0 rfl) ?_
  refine lv_iconst (v := 4) hx hb dL_law_81 (by decide) ?_
  refine u_iE (v := (lwI gv 4)) (ru_S (As := [.int gv, .int 4]) (rest := []) F h (k_L_low l g n c gv 4 (by decide)) (gS lwG_in wd_419 wd_420 wd_15 wd_421) rfl 2 (by decide +kernel) rfl ⟨Nat.le_of_ble_eq_true rfl, Nat.le_of_ble_eq_true rfl⟩ rfl hl.1 (Nat.le_of_ble_eq_true rfl) ⟨by show cl + 0 ≤ 744077; omega, by show sl + 0 ≤ 6870016; omega⟩ dL_law_82) h (fun H locs h => ?_)
  obtain ⟨w, hw4, e_w⟩ := lw_n (v := gv) (N := 4) (by decide) (by decide)
  refine r_top (w := .int (nI w)) (congrArg Value.int e_w) ?_
  refine lv_istore (lv' := [(6, .int (nI w)), (3, .int gv), (5, .int sr), (4, .int hv), (0, .ref b), (1, .ref (gz g + 0)), (2, .int (nI i1))]) hx hb dL_law_85 hl (by decide) rfl (fun ls hl => ?_)
  refine lv_iload hx hb dL_law_87 (lv_at hl 3 rfl) ?_
  refine lv_aload_n hx hb dL_law_89 rfl (lv_at hl 5 rfl) ?_
  refine lv_iconst (v := 3) hx hb dL_law_90 (by decide) ?_
  refine u_iE (v := nI sc) (ru_V (As := [.int 3]) (rest := [.int hv]) F h hWd.1 rfl (kw_count l g n c hWd J 3 (v := nI sc) (J.s4)) (gV lwG_in wd_399 wd_400 wd_401 wd_16 wd_402) rfl 1 (by decide +kernel) rfl ⟨Nat.le_of_ble_eq_true rfl, Nat.le_of_ble_eq_true rfl⟩ rfl hl.1 (Nat.le_of_ble_eq_true rfl) ⟨by show cl + 0 ≤ 744077; omega, by show sl + 0 ≤ 6870016; omega⟩ dL_law_91) h (fun H locs h => ?_)
  refine u_iE (v := (lwI hv (nI sc))) (ru_S (As := [.int hv, .int (nI sc)]) (rest := []) F h (k_L_low l g n c hv (nI sc) (nI_ne0 (by omega) (by omega))) (gS lwG_in wd_419 wd_420 wd_15 wd_421) rfl 2 (by decide +kernel) rfl ⟨Nat.le_of_ble_eq_true rfl, Nat.le_of_ble_eq_true rfl⟩ rfl hl.1 (Nat.le_of_ble_eq_true rfl) ⟨by show cl + 0 ≤ 744077; omega, by show sl + 0 ≤ 6870016; omega⟩ dL_law_94) h (fun H locs h => ?_)
  obtain ⟨at1, ha1, e_a⟩ := lw_n (v := hv) (N := sc) (by omega) (by omega)
  refine r_top (w := .int (nI at1)) (congrArg Value.int e_a) ?_
  refine lv_istore (lv' := [(7, .int (nI at1)), (6, .int (nI w)), (3, .int gv), (5, .int sr), (4, .int hv), (0, .ref b), (1, .ref (gz g + 0)), (2, .int (nI i1))]) hx hb dL_law_97 hl (by decide) rfl (fun ls hl => ?_)
  have K : LK p l e s m below meth c0 b g i1 gv hv (cl + 5) (sl + 14) (tb + 60) := fun n' c' H' locs' ls' h hLI hl => by
    obtain ⟨hn', lh, rs, R, hq, sc, cn, hWd, J, hs1⟩ := hLI
    refine lv_aload_n hx hb dL_law_868 rfl (lv_at hl 1 rfl) ?_
    refine lv_iload hx hb dL_law_869 (lv_at hl 4 rfl) ?_
    refine lv_sipush (v := 801) hx hb dL_law_871 (by decide) ?_
    refine u_iE (v := (lwI hv 801)) (ru_S (As := [.int hv, .int 801]) (rest := [.ref (gz g + 0)]) F h (k_L_low l g (n') (c') hv 801 (by decide)) (gS lwG_in wd_419 wd_420 wd_15 wd_421) rfl 2 (by decide +kernel) rfl ⟨Nat.le_of_ble_eq_true rfl, Nat.le_of_ble_eq_true rfl⟩ rfl hl.1 (Nat.le_of_ble_eq_true rfl) ⟨by show (cl + 5) + 0 ≤ 744077; omega, by show (sl + 14) + 0 ≤ 6870016; omega⟩ dL_law_874) h (fun H locs h => ?_)
    refine u_iE (v := 1) (ru_S (As := [.ref (gz g + 0), .int (lwI hv 801)]) (rest := []) F h (k_L_wires l g (n') (c') hWd J (lwI hv 801) (lw_0 (n2 := 801) (N := 801) rfl (by decide))) (gS lwG_in wd_443 wd_444 wd_15 wd_445) rfl 2 (by decide +kernel) rfl ⟨Nat.le_of_ble_eq_true rfl, Nat.le_of_ble_eq_true rfl⟩ rfl hl.1 (Nat.le_of_ble_eq_true rfl) ⟨by show (cl + 5) + 0 ≤ 744077; omega, by show (sl + 14) + 0 ≤ 6870016; omega⟩ dL_law_877) h (fun H locs h => ?_)
    refine lv_if_eq (tgt := 920) hx hb dL_law_880 (by decide) (fun b_880 => by first | exact absurd b_880 (by decide) | exact absurd (by decide) b_880) (fun b_880 => ?_)
    refine lv_aload_n hx hb dL_law_883 rfl (lv_at hl 1 rfl) ?_
    refine u_iE (v := 1) (ru_S (As := [.ref (gz g + 0)]) (rest := []) F h (k_L_stations l g (n') (c') hWd J) (gS lwG_in wd_515 wd_516 wd_15 wd_517) rfl 1 (by decide +kernel) rfl ⟨Nat.le_of_ble_eq_true rfl, Nat.le_of_ble_eq_true rfl⟩ rfl hl.1 (Nat.le_of_ble_eq_true rfl) ⟨by show (cl + 5) + 0 ≤ 744077; omega, by show (sl + 14) + 0 ≤ 6870016; omega⟩ dL_law_884) h (fun H locs h => ?_)
    refine lv_if_eq (tgt := 920) hx hb dL_law_887 (by decide) (fun b_887 => by first | exact absurd b_887 (by decide) | exact absurd (by decide) b_887) (fun b_887 => ?_)
    refine lv_aload_n hx hb dL_law_890 rfl (lv_at hl 1 rfl) ?_
    refine lv_iload_n hx hb dL_law_891 rfl (lv_at hl 3 rfl) ?_
    refine lv_sipush (v := 4001) hx hb dL_law_892 (by decide) ?_
    refine u_iE (v := (lwI gv 4001)) (ru_S (As := [.int gv, .int 4001]) (rest := [.ref (gz g + 0)]) F h (k_L_low l g (n') (c') gv 4001 (by decide)) (gS lwG_in wd_419 wd_420 wd_15 wd_421) rfl 2 (by decide +kernel) rfl ⟨Nat.le_of_ble_eq_true rfl, Nat.le_of_ble_eq_true rfl⟩ rfl hl.1 (Nat.le_of_ble_eq_true rfl) ⟨by show (cl + 5) + 0 ≤ 744077; omega, by show (sl + 14) + 0 ≤ 6870016; omega⟩ dL_law_895) h (fun H locs h => ?_)
    refine lv_sipush (v := 2000) hx hb dL_law_898 (by decide) ?_
    refine lv_isub hx hb dL_law_901 ?_
    refine lv_iload hx hb dL_law_902 (lv_at hl 4 rfl) ?_
    refine lv_sipush (v := 4001) hx hb dL_law_904 (by decide) ?_
    refine u_iE (v := (lwI hv 4001)) (ru_S (As := [.int hv, .int 4001]) (rest := [.int ((lwI gv 4001) - 2000), .ref (gz g + 0)]) F h (k_L_low l g (n') (c') hv 4001 (by decide)) (gS lwG_in wd_419 wd_420 wd_15 wd_421) rfl 2 (by decide +kernel) rfl ⟨Nat.le_of_ble_eq_true rfl, Nat.le_of_ble_eq_true rfl⟩ rfl hl.1 (Nat.le_of_ble_eq_true rfl) ⟨by show (cl + 5) + 0 ≤ 744077; omega, by show (sl + 14) + 0 ≤ 6870016; omega⟩ dL_law_907) h (fun H locs h => ?_)
    refine lv_sipush (v := 2000) hx hb dL_law_910 (by decide) ?_
    refine lv_isub hx hb dL_law_913 ?_
    refine u_iE (v := 1) (ru_S (As := [.ref (gz g + 0), .int ((lwI gv 4001) - 2000), .int ((lwI hv 4001) - 2000)]) (rest := []) F h (k_L_bearings l g (n') (c') hWd J ((lwI gv 4001) - 2000) ((lwI hv 4001) - 2000) (bt_w (lw_c (n2 := 4001) (k2 := 2000) (N := 4001) (K := 2000) rfl rfl (by decide) (by decide) (by decide) (by decide)) (by decide) (by decide)) (bt_w (lw_c (n2 := 4001) (k2 := 2000) (N := 4001) (K := 2000) rfl rfl (by decide) (by decide) (by decide) (by decide)) (by decide) (by decide))) (gS lwG_in wd_426 wd_427 wd_15 wd_428) rfl 3 (by decide +kernel) rfl ⟨Nat.le_of_ble_eq_true rfl, Nat.le_of_ble_eq_true rfl⟩ rfl hl.1 (Nat.le_of_ble_eq_true rfl) ⟨by show (cl + 5) + 0 ≤ 744077; omega, by show (sl + 14) + 0 ≤ 6870016; omega⟩ dL_law_914) h (fun H locs h => ?_)
    refine lv_if_ne (tgt := 922) hx hb dL_law_917 (by decide) (fun b_917 => ?_) (fun b_917 => by first | exact absurd (by decide) b_917 | exact absurd b_917 (by decide))
    refine lv_iinc (v := nI (i1 + 1)) (lv' := [(2, .int (nI (i1 + 1))), (0, .ref b), (1, .ref (gz g + 0)), (3, .int gv), (4, .int hv)]) hx hb dL_law_922 hl (k := 2) rfl (by exact (nI_succ i1).symm) (by decide) rfl (fun ls hl => ?_)
    refine lv_goto (tgt := 43) hx hb dL_law_925 (by decide) ?_
    exact K43 _ _ _ _ _ h ⟨hn', _, _, _, _, _, _, hWd, J, hs1⟩ (lv_sub hl [1, 2, 0] rfl)
  refine lv_iload hx hb dL_law_99 (lv_at hl 3 rfl) ?_
  refine lv_iconst (v := 3) hx hb dL_law_101 (by decide) ?_
  refine lv_icmp_ge (tgt := 228) hx hb dL_law_102 (by decide) (fun b_102 => ?_) (fun b_102 => ?_)
  · skip
    refine lv_iload hx hb dL_law_228 (lv_at hl 3 rfl) ?_
    refine lv_iconst (v := 3) hx hb dL_law_230 (by decide) ?_
    refine lv_icmp_ne (tgt := 339) hx hb dL_law_231 (by decide) (fun b_231 => ?_) (fun b_231 => ?_)
    · skip
      refine lv_iload hx hb dL_law_339 (lv_at hl 3 rfl) ?_
      refine lv_iconst (v := 4) hx hb dL_law_341 (by decide) ?_
      refine lv_icmp_ne (tgt := 457) hx hb dL_law_342 (by decide) (fun b_342 => ?_) (fun b_342 => ?_)
      · skip
        refine lv_iload hx hb dL_law_457 (lv_at hl 3 rfl) ?_
        refine lv_iconst (v := 5) hx hb dL_law_459 (by decide) ?_
        refine lv_icmp_ne (tgt := 604) hx hb dL_law_460 (by decide) (fun b_460 => ?_) (fun b_460 => ?_)
        · skip
          refine lv_iload hx hb dL_law_604 (lv_at hl 3 rfl) ?_
          refine lv_bipush (v := 6) hx hb dL_law_606 (by decide) ?_
          refine lv_icmp_ne (tgt := 664) hx hb dL_law_608 (by decide) (fun b_608 => ?_) (fun b_608 => ?_)
          · skip
            refine lv_iload hx hb dL_law_664 (lv_at hl 3 rfl) ?_
            refine lv_bipush (v := 9) hx hb dL_law_666 (by decide) ?_
            refine lv_icmp_ge (tgt := 689) hx hb dL_law_668 (by decide) (fun b_668 => ?_) (fun b_668 => ?_)
            · skip
              refine lv_iload hx hb dL_law_689 (lv_at hl 3 rfl) ?_
              refine lv_bipush (v := 12) hx hb dL_law_691 (by decide) ?_
              refine lv_icmp_ge (tgt := 730) hx hb dL_law_693 (by decide) (fun b_693 => ?_) (fun b_693 => ?_)
              · skip
                refine lv_iload hx hb dL_law_730 (lv_at hl 3 rfl) ?_
                refine lv_bipush (v := 12) hx hb dL_law_732 (by decide) ?_
                refine lv_icmp_ne (tgt := 776) hx hb dL_law_734 (by decide) (fun b_734 => ?_) (fun b_734 => ?_)
                · skip
                  refine lv_iload hx hb dL_law_776 (lv_at hl 3 rfl) ?_
                  refine lv_bipush (v := 13) hx hb dL_law_778 (by decide) ?_
                  refine lv_icmp_ne (tgt := 800) hx hb dL_law_780 (by decide) (fun b_780 => ?_) (fun b_780 => ?_)
                  · skip
                    exact lc_lift F h hWd J hs1 hn (by omega) i1 gv hv w hw4 (lv_sub hl [5, 6, 7, 2, 4, 1] rfl) (by omega) (by omega) K
                  exact lc_swap F h hWd J hs1 hn (by omega) i1 gv hv w hw4 (lv_sub hl [5, 6, 7, 2, 4, 1] rfl) (by omega) (by omega) K
                exact lc_orient F h hWd J hs1 hn (by omega) i1 gv hv at1 ha1 (lv_sub hl [5, 6, 7, 2, 4, 0] rfl) (by omega) (by omega) K
              exact lc_observe F h hWd J hs1 hn (by omega) i1 gv hv w hw4 at1 ha1 (lv_sub hl [5, 6, 7, 2, 4, 1, 0] rfl) (by omega) (by omega) K
            exact lc_pass F h hWd J hs1 hn (by omega) i1 gv hv  (lv_sub hl [5, 6, 7, 2, 4] rfl) (by omega) (by omega) K
          exact lc_station F h hWd J hs1 hn (by omega) i1 gv hv  (lv_sub hl [5, 6, 7, 2, 4] rfl) (by omega) (by omega) K
        exact lc_air F h hWd J hs1 hn (by omega) i1 gv hv  (lv_sub hl [5, 6, 7, 2, 4] rfl) (by omega) (by omega) K
      exact lc_gear F h hWd J hs1 hn (by omega) i1 gv hv w hw4 (lv_sub hl [5, 6, 7, 2, 4, 1] rfl) (by omega) (by omega) K
    exact lc_push F h hWd J hs1 hn (by omega) i1 gv hv w hw4 (lv_sub hl [5, 6, 7, 2, 4, 1] rfl) (by omega) (by omega) K
  exact lc_hang F h hWd J hs1 hn (by omega) i1 gv hv w hw4 (lv_sub hl [5, 6, 7, 2, 4, 1] rfl) (by omega) (by omega) K
set_option maxHeartbeats 4000000 in
set_option maxRecDepth 100000 in
theorem law_first (F : Fx p s m #[Value.ref b] meth c0 code 12 ret RL lw_tbl g meth.name) (h : Hv g s H locs n c) (hWd : Wd g c 0 0 rw0 (fun _ => rw0)) (hn : 352 ≤ n) (hl : lv_has ls 12 [(0, .ref b), (1, .ref (gz g + 0))]) (hcl : cl + 5 ≤ 744077) (hsl : sl + 14 ≤ 6870016) (K43 : ∀ (n' : Nat) (c' : Mp) (H' : Heap) (locs' : List Loc) (ls' : Array Slot), Hv g s H' locs' n' c' → LIv g (0) n' c' → lv_has ls' 12 [(0, .ref b), (1, .ref (gz g + 0)), (2, .int (nI 0))] → W p l e room_1 s m #[Value.ref b] below meth c0 H' locs' cl sl (lw_Z below #[Value.ref b] s) (F0 m 43 ls' [])) : W p l e room_1 s m #[Value.ref b] below meth c0 H locs cl sl (lw_Z below #[Value.ref b] s) (F0 m 8 ls []) := by
  have hx := F.1
  have hb := F.2.1
  have J := jv_0
  have fb1 : Bt (100 : Int32) 1 800 := by unfold Bt; decide
  have fb2 : Bt (500 : Int32) 0 7999 := by unfold Bt; decide
  have fb3 : Bt (-400 : Int32) (-5000) 5000 := by unfold Bt; decide
  have fb4 : Bt (20 : Int32) (-5000) 5000 := by unfold Bt; decide
  have fb5 : Bt (30 : Int32) 1 200 := by unfold Bt; decide
  have fb6 : Bt (300 : Int32) 10 800 := by unfold Bt; decide
  have fb7 : ctI (fun v => asR rw0 0 100 500 (5 + 11 * v)) 4 + (if asR rw0 0 100 500 (5 + 11 * 0 + 0) = 0 then 1 else 0) = 1 := by decide +kernel
  refine lv_aload_n hx hb dL_law_8 rfl (lv_at hl 1 rfl) ?_
  refine lv_bipush (v := 100) hx hb dL_law_9 (by decide) ?_
  refine lv_sipush (v := 500) hx hb dL_law_11 (by decide) ?_
  have hWua1 : Wd g c 0 0 rw0 (fun _ => rw0) := hWd
  refine u_i (ru_V (As := [.int 100, .int 500]) (rest := []) F h hWd.1 rfl (k_X7_addStation l g n c 0 0 0 hWua1.1 rw0 hWua1.2.1 hWua1.2.2.2.2 (fun _ => rw0) hWua1.2.2.1 J.wb 100 500 0 J.s4 J.s5) (gV lwG_in wd_378 wd_379 wd_380 wd_16 wd_381) rfl 2 (by decide +kernel) rfl ⟨Nat.le_of_ble_eq_true rfl, Nat.le_of_ble_eq_true rfl⟩ rfl hl.1 (Nat.le_of_ble_eq_true rfl) ⟨by show cl + 0 ≤ 744077; omega, by show sl + 0 ≤ 6870016; omega⟩ dL_law_14) h (fun ra1 na1 ca1 H locs hp h => ?_)
  obtain ⟨hna1, hxa1, hWa1, hFa1⟩ := paW hp hWua1 (by omega) (as_ok J (by decide) fb1 fb2) (rmL_le (hWua1).2.2.2.2)
  subst hxa1
  have J1 := J.addS (x := 100) (y := 500) (by decide) fb1 fb2
  refine lv_if_ne (tgt := 39) hx hb dL_law_17 (by decide) (fun b_17 => by first | exact absurd b_17 (nI_0) | exact absurd (nI_0) b_17) (fun b_17 => ?_)
  refine lv_aload_n hx hb dL_law_20 rfl (lv_at hl 1 rfl) ?_
  refine lv_iconst (v := 0) hx hb dL_law_21 (by decide) ?_
  refine lv_sipush (v := (-400)) hx hb dL_law_22 (by decide) ?_
  refine lv_bipush (v := 20) hx hb dL_law_25 (by decide) ?_
  refine lv_bipush (v := 30) hx hb dL_law_27 (by decide) ?_
  refine lv_sipush (v := 300) hx hb dL_law_29 (by decide) ?_
  have hWua2 : Wd g ca1 (rmL 0 0) 0 (asR rw0 0 100 500) (rmQ 0 0 (fun _ => rw0) rw0) := hWa1
  refine u_i (ru_V (As := [.int 0, .int (-400), .int 20, .int 30, .int 300]) (rest := []) F h hWa1.1 rfl (k_X7_hang l g na1 ca1 (rmL 0 0) 0 0 hWua2.1 (asR rw0 0 100 500) hWua2.2.1 hWua2.2.2.2.2 (rmQ 0 0 (fun _ => rw0) rw0) hWua2.2.2.1 J1.wb 0 (-400) 20 30 300 1 J1.s4 J1.s5) (gV lwG_in wd_270 wd_271 wd_272 wd_16 wd_273) rfl 5 (by decide +kernel) rfl ⟨Nat.le_of_ble_eq_true rfl, Nat.le_of_ble_eq_true rfl⟩ rfl hl.1 (Nat.le_of_ble_eq_true rfl) ⟨by show cl + 0 ≤ 744077; omega, by show sl + 0 ≤ 6870016; omega⟩ dL_law_32) h (fun ra2 na2 ca2 H locs hp h => ?_)
  obtain ⟨hna2, hxa2, hWa2, hFa2⟩ := paW hp hWua2 (by omega) ((hg_ok (w := 0) (by decide) fb3 fb4 fb5 fb6).trans (by rw [fb7])) (rmL_le (hWua2).2.2.2.2)
  subst hxa2
  have J2 := J1.hang (w := 0) (x := -400) (y := 20) (ma := 30) (de := 300) (by decide) fb3 fb4 fb5 fb6
  refine lv_iconst (v := 1) hx hb dL_law_35 (by decide) ?_
  refine lv_icmp_eq (tgt := 41) hx hb dL_law_36 (by decide) (fun b_36 => ?_) (fun b_36 => by first | exact absurd (rfl) b_36 | exact absurd b_36 (rfl))
  refine lv_iconst (v := 0) hx hb dL_law_41 (by decide) ?_
  refine lv_istore_n (lv' := [(2, .int 0), (0, .ref b), (1, .ref (gz g + 0))]) hx hb dL_law_42 rfl hl (by decide) rfl (fun ls hl => ?_)
  have hl : lv_has ls 12 [(2, .int (nI 0)), (0, .ref b), (1, .ref (gz g + 0))] := by rw [nI_0]; exact hl
  exact W.widen (by omega) (by omega) (K43 _ _ _ _ _ h ⟨by omega, _, _, _, _, _, _, hWa2, J2, by decide⟩ (lv_sub hl [1, 2, 0] rfl))
end LD
