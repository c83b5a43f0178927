/-! The law: swaps. -/
set_option maxHeartbeats 4000000 in
set_option maxRecDepth 100000 in
theorem k_L_swaps (l : Launch) (g : Gf) (n : Nat) (c : Mp) {lh : Nat} {rs : Int32} {R : Nat → Int32} {hq : Nat → Nat → Int32} (hWd : Wd g c lh rs R hq) {sc cn tb : Nat} (J : Jv R sc cn tb) (a b : Nat) (ha4 : a < 4) (hb4 : b < 4) (hn : 352 ≤ n) : Ct l g yL_swaps wsL_swaps 5 109 0 0 [.ref (gz g + 0), .int (nI a), .int (nI b)] n c (Qi g (fun xr n' c' => xr = 1 ∧ n ≤ n' ∧ ∃ (lh' : Nat) (rs' : Int32) (R' : Nat → Int32) (hq' : Nat → Nat → Int32), Wd g c' lh' rs' R' hq' ∧ Jv R' sc cn tb)) := by
  have s5 := J.s5
  refine ent (by decide) rfl (Nat.le_of_ble_eq_true rfl) ?_
  intro p e s m args below meth c0 F h ls hl
  have hx := F.1
  have hb := F.2.1
  have hl : lv_has ls 10 [(0, .ref (gz g + 0)), (1, .int (nI a)), (2, .int (nI b))] := hl
  by_cases na : R (5 + 11 * a + 0) = 0
  · skip
    by_cases nb : R (5 + 11 * b + 0) = 0
    · skip
      by_cases hab : a = b
      · skip
        refine lv_aload_n hx hb dL_swaps_0 rfl (lv_at hl 0 rfl) ?_
        refine lv_iload_n hx hb dL_swaps_1 rfl (lv_at hl 1 rfl) ?_
        refine lv_iconst (v := 2) hx hb dL_swaps_2 (by decide) ?_
        refine u_iE (v := (-100005)) (ru_V (As := [.int (nI a), .int 2]) (rest := []) F h hWd.1 rfl (kw_wire l g n c hWd J (nI a) 2 (v := (-100005)) (wi_n ha4 na (by decide))) (gV hjl wd_390 wd_391 wd_392 wd_16 wd_393) rfl 2 (by decide +kernel) rfl ⟨Nat.le_of_ble_eq_true rfl, Nat.le_of_ble_eq_true rfl⟩ rfl hl.1 (Nat.le_of_ble_eq_true rfl) ⟨Nat.zero_le _, Nat.zero_le _⟩ dL_swaps_3) h (fun H locs h => ?_)
        refine lv_if_le (tgt := 22) hx hb dL_swaps_6 (by decide) (fun b_6 => ?_) (fun b_6 => by first | exact absurd (by decide) b_6 | exact absurd b_6 (by decide))
        refine lv_iconst (v := 0) hx hb dL_swaps_22 (by decide) ?_
        refine lv_istore_n (lv' := [(3, .int 0), (0, .ref (gz g + 0)), (1, .int (nI a)), (2, .int (nI b))]) hx hb dL_swaps_23 rfl hl (by decide) rfl (fun ls hl => ?_)
        refine lv_aload_n hx hb dL_swaps_24 rfl (lv_at hl 1 rfl) ?_
        refine lv_iload_n hx hb dL_swaps_25 rfl (lv_at hl 2 rfl) ?_
        refine lv_iconst (v := 0) hx hb dL_swaps_26 (by decide) ?_
        refine u_iE (v := (-100005)) (ru_V (As := [.int (nI a), .int 0]) (rest := []) F h hWd.1 rfl (kw_wire l g n c hWd J (nI a) 0 (v := (-100005)) (wi_n ha4 na (by decide))) (gV hjl wd_390 wd_391 wd_392 wd_16 wd_393) rfl 2 (by decide +kernel) rfl ⟨Nat.le_of_ble_eq_true rfl, Nat.le_of_ble_eq_true rfl⟩ rfl hl.1 (Nat.le_of_ble_eq_true rfl) ⟨Nat.zero_le _, Nat.zero_le _⟩ dL_swaps_27) h (fun H locs h => ?_)
        refine lv_istore (lv' := [(4, .int (-100005)), (3, .int 0), (0, .ref (gz g + 0)), (1, .int (nI a)), (2, .int (nI b))]) hx hb dL_swaps_30 hl (by decide) rfl (fun ls hl => ?_)
        refine lv_aload_n hx hb dL_swaps_32 rfl (lv_at hl 2 rfl) ?_
        refine lv_iload_n hx hb dL_swaps_33 rfl (lv_at hl 4 rfl) ?_
        refine lv_iconst (v := 1) hx hb dL_swaps_34 (by decide) ?_
        refine u_iE (v := (-100005)) (ru_V (As := [.int (nI b), .int 1]) (rest := []) F h hWd.1 rfl (kw_wire l g n c hWd J (nI b) 1 (v := (-100005)) (wi_n hb4 nb (by decide))) (gV hjl wd_390 wd_391 wd_392 wd_16 wd_393) rfl 2 (by decide +kernel) rfl ⟨Nat.le_of_ble_eq_true rfl, Nat.le_of_ble_eq_true rfl⟩ rfl hl.1 (Nat.le_of_ble_eq_true rfl) ⟨Nat.zero_le _, Nat.zero_le _⟩ dL_swaps_35) h (fun H locs h => ?_)
        refine lv_istore (lv' := [(5, .int (-100005)), (4, .int (-100005)), (3, .int 0), (0, .ref (gz g + 0)), (1, .int (nI a)), (2, .int (nI b))]) hx hb dL_swaps_38 hl (by decide) rfl (fun ls hl => ?_)
        refine lv_aload_n hx hb dL_swaps_40 rfl (lv_at hl 3 rfl) ?_
        refine lv_iload_n hx hb dL_swaps_41 rfl (lv_at hl 4 rfl) ?_
        refine lv_iconst (v := 2) hx hb dL_swaps_42 (by decide) ?_
        refine u_iE (v := (-100005)) (ru_V (As := [.int (nI a), .int 2]) (rest := []) F h hWd.1 rfl (kw_wire l g n c hWd J (nI a) 2 (v := (-100005)) (wi_n ha4 na (by decide))) (gV hjl wd_390 wd_391 wd_392 wd_16 wd_393) rfl 2 (by decide +kernel) rfl ⟨Nat.le_of_ble_eq_true rfl, Nat.le_of_ble_eq_true rfl⟩ rfl hl.1 (Nat.le_of_ble_eq_true rfl) ⟨Nat.zero_le _, Nat.zero_le _⟩ dL_swaps_43) h (fun H locs h => ?_)
        refine lv_istore (lv' := [(6, .int (-100005)), (5, .int (-100005)), (4, .int (-100005)), (3, .int 0), (0, .ref (gz g + 0)), (1, .int (nI a)), (2, .int (nI b))]) hx hb dL_swaps_46 hl (by decide) rfl (fun ls hl => ?_)
        refine lv_iconst (v := 0) hx hb dL_swaps_48 (by decide) ?_
        refine lv_istore (lv' := [(7, .int 0), (6, .int (-100005)), (5, .int (-100005)), (4, .int (-100005)), (3, .int 0), (0, .ref (gz g + 0)), (1, .int (nI a)), (2, .int (nI b))]) hx hb dL_swaps_49 hl (by decide) rfl (fun ls hl => ?_)
        refine lv_aload_n hx hb dL_swaps_51 rfl (lv_at hl 5 rfl) ?_
        refine lv_iconst (v := 5) hx hb dL_swaps_52 (by decide) ?_
        refine u_iE (v := vsI R sc) (ru_V (As := [.int 5]) (rest := []) F h hWd.1 rfl (kw_count l g n c hWd J 5 (v := vsI R sc) (rfl)) (gV hjl wd_399 wd_400 wd_401 wd_16 wd_402) rfl 1 (by decide +kernel) rfl ⟨Nat.le_of_ble_eq_true rfl, Nat.le_of_ble_eq_true rfl⟩ rfl hl.1 (Nat.le_of_ble_eq_true rfl) ⟨Nat.zero_le _, Nat.zero_le _⟩ dL_swaps_53) h (fun H locs h => ?_)
        refine lv_istore (lv' := [(8, .int (vsI R sc)), (7, .int 0), (6, .int (-100005)), (5, .int (-100005)), (4, .int (-100005)), (3, .int 0), (0, .ref (gz g + 0)), (1, .int (nI a)), (2, .int (nI b))]) hx hb dL_swaps_56 hl (by decide) rfl (fun ls hl => ?_)
        refine lv_iconst (v := 0) hx hb dL_swaps_58 (by decide) ?_
        refine lv_istore (lv' := [(9, .int 0), (8, .int (vsI R sc)), (7, .int 0), (6, .int (-100005)), (5, .int (-100005)), (4, .int (-100005)), (3, .int 0), (0, .ref (gz g + 0)), (1, .int (nI a)), (2, .int (nI b))]) hx hb dL_swaps_59 hl (by decide) rfl (fun ls hl => ?_)
        have lg : ∀ (k : Nat) (s1 : Nat) (hs : s1 ≤ sc) (H : Heap) (locs : List Loc) (ls : Array Slot), (6 - s1) ≤ k → Hv g s H locs n c → lv_has ls 10 [(0, .ref (gz g + 0)), (1, .int (nI a)), (2, .int (nI b)), (3, .int 0), (4, .int (-100005)), (5, .int (-100005)), (6, .int (-100005)), (8, .int (vsI R sc)), (7, .int (gnF R a b s1)), (9, .int (nI s1))] → W p l e (Rm 5 109 0 0) s m args below meth c0 H locs 0 0 (MQ below (Qi g (fun xr n' c' => xr = 1 ∧ n ≤ n' ∧ ∃ (lh' : Nat) (rs' : Int32) (R' : Nat → Int32) (hq' : Nat → Nat → Int32), Wd g c' lh' rs' R' hq' ∧ Jv R' sc cn tb)) args s 0 0 (mAf g)) (F0 m 61 ls []) := by
          intro k_lg
          induction k_lg with
          | zero => intro s1 hs H locs ls hk h hl; exact absurd hk (by omega)
          | succ k_lg ih_lg =>
            intro s1 hs H locs ls hk_lg h hl
            refine lv_iload hx hb dL_swaps_61 (lv_at hl 9 rfl) ?_
            refine lv_aload_n hx hb dL_swaps_63 rfl (lv_at hl 0 rfl) ?_
            refine lv_iconst (v := 3) hx hb dL_swaps_64 (by decide) ?_
            refine u_iE (v := nI sc) (ru_V (As := [.int 3]) (rest := [.int (nI s1)]) F h hWd.1 rfl (kw_count l g n c hWd J 3 (v := nI sc) (J.s4)) (gV hjl wd_399 wd_400 wd_401 wd_16 wd_402) rfl 1 (by decide +kernel) rfl ⟨Nat.le_of_ble_eq_true rfl, Nat.le_of_ble_eq_true rfl⟩ rfl hl.1 (Nat.le_of_ble_eq_true rfl) ⟨Nat.zero_le _, Nat.zero_le _⟩ dL_swaps_65) h (fun H locs h => ?_)
            refine lv_icmp_ge (tgt := 115) hx hb dL_swaps_68 (by decide) (fun b_68 => ?_) (fun b_68 => ?_)
            · skip
              have e5 : s1 = sc := by have := lp_ge (N := sc) rfl (by omega) (by omega) b_68; omega
              have hl : lv_has ls 10 [(0, .ref (gz g + 0)), (1, .int (nI a)), (2, .int (nI b)), (3, .int 0), (4, .int (-100005)), (5, .int (-100005)), (6, .int (-100005)), (8, .int (vsI R sc)), (7, .int (gnF R a b sc)), (9, .int (nI s1))] := by rw [show (gnF R a b sc : Int32) = gnF R a b s1 from by rw [e5]]; exact hl
              refine lv_aload_n hx hb dL_swaps_115 rfl (lv_at hl 0 rfl) ?_
              refine lv_iload_n hx hb dL_swaps_116 rfl (lv_at hl 1 rfl) ?_
              refine lv_iload_n hx hb dL_swaps_117 rfl (lv_at hl 2 rfl) ?_
              have hWua1 : Wd g c lh rs R hq := hWd
              refine u_i (ru_V (As := [.int (nI a), .int (nI b)]) (rest := []) F h hWd.1 rfl (k_X7_swap l g n c lh 0 rs hWua1.1 R hWua1.2.1 hWua1.2.2.2.2 hq hWua1.2.2.1 J.wb (nI a) (nI b) sc sc J.s4 J.s5) (gV hjl wd_676 wd_677 wd_678 wd_16 wd_679) rfl 2 (by decide +kernel) rfl ⟨Nat.le_of_ble_eq_true rfl, Nat.le_of_ble_eq_true rfl⟩ rfl hl.1 (Nat.le_of_ble_eq_true rfl) ⟨Nat.zero_le _, Nat.zero_le _⟩ dL_swaps_118) h (fun ra1 na1 ca1 H locs hp h => ?_)
              obtain ⟨hna1, hxa1, hWa1, hFa1⟩ := paW hp hWua1 (by omega) (by rw [← hab]; exact sw_same ha4) (hWua1).2.2.2.2
              subst hxa1
              refine lv_istore (lv' := [(9, .int (-100002)), (0, .ref (gz g + 0)), (1, .int (nI a)), (2, .int (nI b)), (3, .int 0), (4, .int (-100005)), (5, .int (-100005)), (6, .int (-100005)), (8, .int (vsI R sc)), (7, .int (gnF R a b sc))]) hx hb dL_swaps_121 hl (by decide) rfl (fun ls hl => ?_)
              refine lv_iload_n hx hb dL_swaps_123 rfl (lv_at hl 2 rfl) ?_
              refine lv_iload_n hx hb dL_swaps_124 rfl (lv_at hl 3 rfl) ?_
              refine lv_icmp_eq (tgt := 132) hx hb dL_swaps_125 (by decide) (fun b_125 => ?_) (fun b_125 => by first | exact absurd (congrArg nI hab) b_125 | exact absurd b_125 (congrArg nI hab))
              refine lv_iload hx hb dL_swaps_132 (lv_at hl 0 rfl) ?_
              refine lv_iload_n hx hb dL_swaps_134 rfl (lv_at hl 2 rfl) ?_
              refine lv_iload_n hx hb dL_swaps_135 rfl (lv_at hl 3 rfl) ?_
              refine lv_icmp_ne (tgt := 144) hx hb dL_swaps_136 (by decide) (fun b_136 => by first | exact absurd b_136 (congrArg nI hab) | exact absurd (congrArg nI hab) b_136) (fun b_136 => ?_)
              refine lv_ldc (v := (-100002)) hx hb F.2.2.2.1 (F.2.2.2.2.1 (Cond.constant RL 15 (-100002)) (List.mem_cons_of_mem _ wd_442)) dL_swaps_139 ?_
              refine lv_goto (tgt := 146) hx hb dL_swaps_141 (by decide) ?_
              refine lv_icmp_ne (tgt := 163) hx hb dL_swaps_146 (by decide) (fun b_146 => by first | exact absurd b_146 (by decide) | exact absurd (by decide) b_146) (fun b_146 => ?_)
              refine lv_aload_n hx hb dL_swaps_149 rfl (lv_at hl 1 rfl) ?_
              refine lv_iconst (v := 5) hx hb dL_swaps_150 (by decide) ?_
              refine u_iE (v := vsI R sc) (ru_V (As := [.int 5]) (rest := []) F h hWa1.1 rfl (kw_count l g na1 ca1 hWa1 J 5 (v := vsI R sc) (rfl)) (gV hjl wd_399 wd_400 wd_401 wd_16 wd_402) rfl 1 (by decide +kernel) rfl ⟨Nat.le_of_ble_eq_true rfl, Nat.le_of_ble_eq_true rfl⟩ rfl hl.1 (Nat.le_of_ble_eq_true rfl) ⟨Nat.zero_le _, Nat.zero_le _⟩ dL_swaps_151) h (fun H locs h => ?_)
              refine lv_iload hx hb dL_swaps_154 (lv_at hl 8 rfl) ?_
              refine lv_icmp_ne (tgt := 163) hx hb dL_swaps_156 (by decide) (fun b_156 => by first | exact absurd b_156 (rfl) | exact absurd (rfl) b_156) (fun b_156 => ?_)
              refine lv_iconst (v := 1) hx hb dL_swaps_159 (by decide) ?_
              refine lv_goto (tgt := 164) hx hb dL_swaps_160 (by decide) ?_
              exact ret_z F h (by decide) (Nat.zero_le _) (Nat.zero_le _) dL_swaps_164 (⟨rfl, by omega, _, _, _, _, hWa1, J⟩)
            have hs5 : s1 < sc := lp_lt (N := sc) rfl (by omega) (by omega) b_68
            by_cases va : R (84 + 6 * (4 * s1 + a) + 0) = 0
            · skip
              have hs5 : s1 < sc := lp_lt (N := sc) rfl (by omega) (by omega) b_68
              by_cases vb : R (84 + 6 * (4 * s1 + b) + 0) = 0
              · skip
                have hs5 : s1 < sc := lp_lt (N := sc) rfl (by omega) (by omega) b_68
                refine lv_iload hx hb dL_swaps_71 (lv_at hl 8 rfl) ?_
                refine lv_aload_n hx hb dL_swaps_73 rfl (lv_at hl 0 rfl) ?_
                refine lv_iload hx hb dL_swaps_74 (lv_at hl 9 rfl) ?_
                refine lv_iload_n hx hb dL_swaps_76 rfl (lv_at hl 1 rfl) ?_
                refine lv_iconst (v := 3) hx hb dL_swaps_77 (by decide) ?_
                refine u_iE (v := (-100005)) (ru_V (As := [.int (nI s1), .int (nI a), .int 3]) (rest := [.int (gnF R a b s1)]) F h hWd.1 rfl (kw_observation l g n c hWd J (nI s1) (nI a) 3 (v := (-100005)) (ob_n J.s4 J.s5 hs5 ha4 va (by decide))) (gV hjl wd_518 wd_519 wd_520 wd_16 wd_521) rfl 3 (by decide +kernel) rfl ⟨Nat.le_of_ble_eq_true rfl, Nat.le_of_ble_eq_true rfl⟩ rfl hl.1 (Nat.le_of_ble_eq_true rfl) ⟨Nat.zero_le _, Nat.zero_le _⟩ dL_swaps_78) h (fun H locs h => ?_)
                refine lv_if_lt (tgt := 88) hx hb dL_swaps_81 (by decide) (fun b_81 => ?_) (fun b_81 => by first | exact absurd (by decide) b_81 | exact absurd b_81 (by decide))
                refine lv_iconst (v := 0) hx hb dL_swaps_88 (by decide) ?_
                refine lv_aload_n hx hb dL_swaps_89 rfl (lv_at hl 0 rfl) ?_
                refine lv_iload hx hb dL_swaps_90 (lv_at hl 9 rfl) ?_
                refine lv_iload_n hx hb dL_swaps_92 rfl (lv_at hl 2 rfl) ?_
                refine lv_iconst (v := 3) hx hb dL_swaps_93 (by decide) ?_
                refine u_iE (v := (-100005)) (ru_V (As := [.int (nI s1), .int (nI b), .int 3]) (rest := [.int 0, .int (gnF R a b s1)]) F h hWd.1 rfl (kw_observation l g n c hWd J (nI s1) (nI b) 3 (v := (-100005)) (ob_n J.s4 J.s5 hs5 hb4 vb (by decide))) (gV hjl wd_518 wd_519 wd_520 wd_16 wd_521) rfl 3 (by decide +kernel) rfl ⟨Nat.le_of_ble_eq_true rfl, Nat.le_of_ble_eq_true rfl⟩ rfl hl.1 (Nat.le_of_ble_eq_true rfl) ⟨Nat.zero_le _, Nat.zero_le _⟩ dL_swaps_94) h (fun H locs h => ?_)
                refine lv_if_lt (tgt := 104) hx hb dL_swaps_97 (by decide) (fun b_97 => ?_) (fun b_97 => by first | exact absurd (by decide) b_97 | exact absurd b_97 (by decide))
                refine lv_iconst (v := 0) hx hb dL_swaps_104 (by decide) ?_
                refine lv_iadd hx hb dL_swaps_105 ?_
                refine lv_iadd hx hb dL_swaps_106 ?_
                refine lv_istore (lv' := [(7, .int (gnF R a b s1 + (0 + 0))), (0, .ref (gz g + 0)), (1, .int (nI a)), (2, .int (nI b)), (3, .int 0), (4, .int (-100005)), (5, .int (-100005)), (6, .int (-100005)), (8, .int (vsI R sc)), (9, .int (nI s1))]) hx hb dL_swaps_107 hl (by decide) rfl (fun ls hl => ?_)
                have hl : lv_has ls 10 [(7, .int (gnF R a b (s1 + 1))), (0, .ref (gz g + 0)), (1, .int (nI a)), (2, .int (nI b)), (3, .int 0), (4, .int (-100005)), (5, .int (-100005)), (6, .int (-100005)), (8, .int (vsI R sc)), (9, .int (nI s1))] := by rw [show (gnF R a b (s1 + 1) : Int32) = (gnF R a b s1 + (0 + 0)) from (show gnF R a b (s1 + 1) = gnF R a b s1 + ((if R (84 + 6 * (4 * s1 + a) + 0) = 0 then 0 else 1) + (if R (84 + 6 * (4 * s1 + b) + 0) = 0 then 0 else 1)) from rfl).trans (by rw [if_pos va, if_pos vb])]; exact hl
                refine lv_iinc (v := nI (s1 + 1)) (lv' := [(9, .int (nI (s1 + 1))), (7, .int (gnF R a b (s1 + 1))), (0, .ref (gz g + 0)), (1, .int (nI a)), (2, .int (nI b)), (3, .int 0), (4, .int (-100005)), (5, .int (-100005)), (6, .int (-100005)), (8, .int (vsI R sc))]) hx hb dL_swaps_109 hl (k := 9) rfl (by exact (nI_succ s1).symm) (by decide) rfl (fun ls hl => ?_)
                refine lv_goto (tgt := 61) hx hb dL_swaps_112 (by decide) ?_
                exact ih_lg (s1 + 1) (by omega) _ _ _ (by omega) h (lv_sub hl [2, 3, 4, 5, 6, 7, 8, 9, 1, 0] rfl)
              refine lv_iload hx hb dL_swaps_71 (lv_at hl 8 rfl) ?_
              refine lv_aload_n hx hb dL_swaps_73 rfl (lv_at hl 0 rfl) ?_
              refine lv_iload hx hb dL_swaps_74 (lv_at hl 9 rfl) ?_
              refine lv_iload_n hx hb dL_swaps_76 rfl (lv_at hl 1 rfl) ?_
              refine lv_iconst (v := 3) hx hb dL_swaps_77 (by decide) ?_
              refine u_iE (v := (-100005)) (ru_V (As := [.int (nI s1), .int (nI a), .int 3]) (rest := [.int (gnF R a b s1)]) F h hWd.1 rfl (kw_observation l g n c hWd J (nI s1) (nI a) 3 (v := (-100005)) (ob_n J.s4 J.s5 hs5 ha4 va (by decide))) (gV hjl wd_518 wd_519 wd_520 wd_16 wd_521) rfl 3 (by decide +kernel) rfl ⟨Nat.le_of_ble_eq_true rfl, Nat.le_of_ble_eq_true rfl⟩ rfl hl.1 (Nat.le_of_ble_eq_true rfl) ⟨Nat.zero_le _, Nat.zero_le _⟩ dL_swaps_78) h (fun H locs h => ?_)
              refine lv_if_lt (tgt := 88) hx hb dL_swaps_81 (by decide) (fun b_81 => ?_) (fun b_81 => by first | exact absurd (by decide) b_81 | exact absurd b_81 (by decide))
              refine lv_iconst (v := 0) hx hb dL_swaps_88 (by decide) ?_
              refine lv_aload_n hx hb dL_swaps_89 rfl (lv_at hl 0 rfl) ?_
              refine lv_iload hx hb dL_swaps_90 (lv_at hl 9 rfl) ?_
              refine lv_iload_n hx hb dL_swaps_92 rfl (lv_at hl 2 rfl) ?_
              refine lv_iconst (v := 3) hx hb dL_swaps_93 (by decide) ?_
              refine u_iE (v := R (84 + 6 * (4 * s1 + b) + 4)) (ru_V (As := [.int (nI s1), .int (nI b), .int 3]) (rest := [.int 0, .int (gnF R a b s1)]) F h hWd.1 rfl (kw_observation l g n c hWd J (nI s1) (nI b) 3 (v := R (84 + 6 * (4 * s1 + b) + 4)) (ob_3 J.s4 J.s5 hs5 hb4 vb)) (gV hjl wd_518 wd_519 wd_520 wd_16 wd_521) rfl 3 (by decide +kernel) rfl ⟨Nat.le_of_ble_eq_true rfl, Nat.le_of_ble_eq_true rfl⟩ rfl hl.1 (Nat.le_of_ble_eq_true rfl) ⟨Nat.zero_le _, Nat.zero_le _⟩ dL_swaps_94) h (fun H locs h => ?_)
              refine lv_if_lt (tgt := 104) hx hb dL_swaps_97 (by decide) (fun b_97 => by first | exact absurd b_97 (i_nlt (bt_ge (J.v hs5 hb4 (b01_of (J.ob (by omega) hb4) vb)).2.2.1 0 (by decide))) | exact absurd (i_nlt (bt_ge (J.v hs5 hb4 (b01_of (J.ob (by omega) hb4) vb)).2.2.1 0 (by decide))) b_97) (fun b_97 => ?_)
              refine lv_iconst (v := 1) hx hb dL_swaps_100 (by decide) ?_
              refine lv_goto (tgt := 105) hx hb dL_swaps_101 (by decide) ?_
              refine lv_iadd hx hb dL_swaps_105 ?_
              refine lv_iadd hx hb dL_swaps_106 ?_
              refine lv_istore (lv' := [(7, .int (gnF R a b s1 + (0 + 1))), (0, .ref (gz g + 0)), (1, .int (nI a)), (2, .int (nI b)), (3, .int 0), (4, .int (-100005)), (5, .int (-100005)), (6, .int (-100005)), (8, .int (vsI R sc)), (9, .int (nI s1))]) hx hb dL_swaps_107 hl (by decide) rfl (fun ls hl => ?_)
              have hl : lv_has ls 10 [(7, .int (gnF R a b (s1 + 1))), (0, .ref (gz g + 0)), (1, .int (nI a)), (2, .int (nI b)), (3, .int 0), (4, .int (-100005)), (5, .int (-100005)), (6, .int (-100005)), (8, .int (vsI R sc)), (9, .int (nI s1))] := by rw [show (gnF R a b (s1 + 1) : Int32) = (gnF R a b s1 + (0 + 1)) from (show gnF R a b (s1 + 1) = gnF R a b s1 + ((if R (84 + 6 * (4 * s1 + a) + 0) = 0 then 0 else 1) + (if R (84 + 6 * (4 * s1 + b) + 0) = 0 then 0 else 1)) from rfl).trans (by rw [if_pos va, if_neg vb])]; exact hl
              refine lv_iinc (v := nI (s1 + 1)) (lv' := [(9, .int (nI (s1 + 1))), (7, .int (gnF R a b (s1 + 1))), (0, .ref (gz g + 0)), (1, .int (nI a)), (2, .int (nI b)), (3, .int 0), (4, .int (-100005)), (5, .int (-100005)), (6, .int (-100005)), (8, .int (vsI R sc))]) hx hb dL_swaps_109 hl (k := 9) rfl (by exact (nI_succ s1).symm) (by decide) rfl (fun ls hl => ?_)
              refine lv_goto (tgt := 61) hx hb dL_swaps_112 (by decide) ?_
              exact ih_lg (s1 + 1) (by omega) _ _ _ (by omega) h (lv_sub hl [2, 3, 4, 5, 6, 7, 8, 9, 1, 0] rfl)
            by_cases vb : R (84 + 6 * (4 * s1 + b) + 0) = 0
            · skip
              have hs5 : s1 < sc := lp_lt (N := sc) rfl (by omega) (by omega) b_68
              refine lv_iload hx hb dL_swaps_71 (lv_at hl 8 rfl) ?_
              refine lv_aload_n hx hb dL_swaps_73 rfl (lv_at hl 0 rfl) ?_
              refine lv_iload hx hb dL_swaps_74 (lv_at hl 9 rfl) ?_
              refine lv_iload_n hx hb dL_swaps_76 rfl (lv_at hl 1 rfl) ?_
              refine lv_iconst (v := 3) hx hb dL_swaps_77 (by decide) ?_
              refine u_iE (v := R (84 + 6 * (4 * s1 + a) + 4)) (ru_V (As := [.int (nI s1), .int (nI a), .int 3]) (rest := [.int (gnF R a b s1)]) F h hWd.1 rfl (kw_observation l g n c hWd J (nI s1) (nI a) 3 (v := R (84 + 6 * (4 * s1 + a) + 4)) (ob_3 J.s4 J.s5 hs5 ha4 va)) (gV hjl wd_518 wd_519 wd_520 wd_16 wd_521) rfl 3 (by decide +kernel) rfl ⟨Nat.le_of_ble_eq_true rfl, Nat.le_of_ble_eq_true rfl⟩ rfl hl.1 (Nat.le_of_ble_eq_true rfl) ⟨Nat.zero_le _, Nat.zero_le _⟩ dL_swaps_78) h (fun H locs h => ?_)
              refine lv_if_lt (tgt := 88) hx hb dL_swaps_81 (by decide) (fun b_81 => by first | exact absurd b_81 (i_nlt (bt_ge (J.v hs5 ha4 (b01_of (J.ob (by omega) ha4) va)).2.2.1 0 (by decide))) | exact absurd (i_nlt (bt_ge (J.v hs5 ha4 (b01_of (J.ob (by omega) ha4) va)).2.2.1 0 (by decide))) b_81) (fun b_81 => ?_)
              refine lv_iconst (v := 1) hx hb dL_swaps_84 (by decide) ?_
              refine lv_goto (tgt := 89) hx hb dL_swaps_85 (by decide) ?_
              refine lv_aload_n hx hb dL_swaps_89 rfl (lv_at hl 0 rfl) ?_
              refine lv_iload hx hb dL_swaps_90 (lv_at hl 9 rfl) ?_
              refine lv_iload_n hx hb dL_swaps_92 rfl (lv_at hl 2 rfl) ?_
              refine lv_iconst (v := 3) hx hb dL_swaps_93 (by decide) ?_
              refine u_iE (v := (-100005)) (ru_V (As := [.int (nI s1), .int (nI b), .int 3]) (rest := [.int 1, .int (gnF R a b s1)]) F h hWd.1 rfl (kw_observation l g n c hWd J (nI s1) (nI b) 3 (v := (-100005)) (ob_n J.s4 J.s5 hs5 hb4 vb (by decide))) (gV hjl wd_518 wd_519 wd_520 wd_16 wd_521) rfl 3 (by decide +kernel) rfl ⟨Nat.le_of_ble_eq_true rfl, Nat.le_of_ble_eq_true rfl⟩ rfl hl.1 (Nat.le_of_ble_eq_true rfl) ⟨Nat.zero_le _, Nat.zero_le _⟩ dL_swaps_94) h (fun H locs h => ?_)
              refine lv_if_lt (tgt := 104) hx hb dL_swaps_97 (by decide) (fun b_97 => ?_) (fun b_97 => by first | exact absurd (by decide) b_97 | exact absurd b_97 (by decide))
              refine lv_iconst (v := 0) hx hb dL_swaps_104 (by decide) ?_
              refine lv_iadd hx hb dL_swaps_105 ?_
              refine lv_iadd hx hb dL_swaps_106 ?_
              refine lv_istore (lv' := [(7, .int (gnF R a b s1 + (1 + 0))), (0, .ref (gz g + 0)), (1, .int (nI a)), (2, .int (nI b)), (3, .int 0), (4, .int (-100005)), (5, .int (-100005)), (6, .int (-100005)), (8, .int (vsI R sc)), (9, .int (nI s1))]) hx hb dL_swaps_107 hl (by decide) rfl (fun ls hl => ?_)
              have hl : lv_has ls 10 [(7, .int (gnF R a b (s1 + 1))), (0, .ref (gz g + 0)), (1, .int (nI a)), (2, .int (nI b)), (3, .int 0), (4, .int (-100005)), (5, .int (-100005)), (6, .int (-100005)), (8, .int (vsI R sc)), (9, .int (nI s1))] := by rw [show (gnF R a b (s1 + 1) : Int32) = (gnF R a b s1 + (1 + 0)) from (show gnF R a b (s1 + 1) = gnF R a b s1 + ((if R (84 + 6 * (4 * s1 + a) + 0) = 0 then 0 else 1) + (if R (84 + 6 * (4 * s1 + b) + 0) = 0 then 0 else 1)) from rfl).trans (by rw [if_neg va, if_pos vb])]; exact hl
              refine lv_iinc (v := nI (s1 + 1)) (lv' := [(9, .int (nI (s1 + 1))), (7, .int (gnF R a b (s1 + 1))), (0, .ref (gz g + 0)), (1, .int (nI a)), (2, .int (nI b)), (3, .int 0), (4, .int (-100005)), (5, .int (-100005)), (6, .int (-100005)), (8, .int (vsI R sc))]) hx hb dL_swaps_109 hl (k := 9) rfl (by exact (nI_succ s1).symm) (by decide) rfl (fun ls hl => ?_)
              refine lv_goto (tgt := 61) hx hb dL_swaps_112 (by decide) ?_
              exact ih_lg (s1 + 1) (by omega) _ _ _ (by omega) h (lv_sub hl [2, 3, 4, 5, 6, 7, 8, 9, 1, 0] rfl)
            refine lv_iload hx hb dL_swaps_71 (lv_at hl 8 rfl) ?_
            refine lv_aload_n hx hb dL_swaps_73 rfl (lv_at hl 0 rfl) ?_
            refine lv_iload hx hb dL_swaps_74 (lv_at hl 9 rfl) ?_
            refine lv_iload_n hx hb dL_swaps_76 rfl (lv_at hl 1 rfl) ?_
            refine lv_iconst (v := 3) hx hb dL_swaps_77 (by decide) ?_
            refine u_iE (v := R (84 + 6 * (4 * s1 + a) + 4)) (ru_V (As := [.int (nI s1), .int (nI a), .int 3]) (rest := [.int (gnF R a b s1)]) F h hWd.1 rfl (kw_observation l g n c hWd J (nI s1) (nI a) 3 (v := R (84 + 6 * (4 * s1 + a) + 4)) (ob_3 J.s4 J.s5 hs5 ha4 va)) (gV hjl wd_518 wd_519 wd_520 wd_16 wd_521) rfl 3 (by decide +kernel) rfl ⟨Nat.le_of_ble_eq_true rfl, Nat.le_of_ble_eq_true rfl⟩ rfl hl.1 (Nat.le_of_ble_eq_true rfl) ⟨Nat.zero_le _, Nat.zero_le _⟩ dL_swaps_78) h (fun H locs h => ?_)
            refine lv_if_lt (tgt := 88) hx hb dL_swaps_81 (by decide) (fun b_81 => by first | exact absurd b_81 (i_nlt (bt_ge (J.v hs5 ha4 (b01_of (J.ob (by omega) ha4) va)).2.2.1 0 (by decide))) | exact absurd (i_nlt (bt_ge (J.v hs5 ha4 (b01_of (J.ob (by omega) ha4) va)).2.2.1 0 (by decide))) b_81) (fun b_81 => ?_)
            refine lv_iconst (v := 1) hx hb dL_swaps_84 (by decide) ?_
            refine lv_goto (tgt := 89) hx hb dL_swaps_85 (by decide) ?_
            refine lv_aload_n hx hb dL_swaps_89 rfl (lv_at hl 0 rfl) ?_
            refine lv_iload hx hb dL_swaps_90 (lv_at hl 9 rfl) ?_
            refine lv_iload_n hx hb dL_swaps_92 rfl (lv_at hl 2 rfl) ?_
            refine lv_iconst (v := 3) hx hb dL_swaps_93 (by decide) ?_
            refine u_iE (v := R (84 + 6 * (4 * s1 + b) + 4)) (ru_V (As := [.int (nI s1), .int (nI b), .int 3]) (rest := [.int 1, .int (gnF R a b s1)]) F h hWd.1 rfl (kw_observation l g n c hWd J (nI s1) (nI b) 3 (v := R (84 + 6 * (4 * s1 + b) + 4)) (ob_3 J.s4 J.s5 hs5 hb4 vb)) (gV hjl wd_518 wd_519 wd_520 wd_16 wd_521) rfl 3 (by decide +kernel) rfl ⟨Nat.le_of_ble_eq_true rfl, Nat.le_of_ble_eq_true rfl⟩ rfl hl.1 (Nat.le_of_ble_eq_true rfl) ⟨Nat.zero_le _, Nat.zero_le _⟩ dL_swaps_94) h (fun H locs h => ?_)
            refine lv_if_lt (tgt := 104) hx hb dL_swaps_97 (by decide) (fun b_97 => by first | exact absurd b_97 (i_nlt (bt_ge (J.v hs5 hb4 (b01_of (J.ob (by omega) hb4) vb)).2.2.1 0 (by decide))) | exact absurd (i_nlt (bt_ge (J.v hs5 hb4 (b01_of (J.ob (by omega) hb4) vb)).2.2.1 0 (by decide))) b_97) (fun b_97 => ?_)
            refine lv_iconst (v := 1) hx hb dL_swaps_100 (by decide) ?_
            refine lv_goto (tgt := 105) hx hb dL_swaps_101 (by decide) ?_
            refine lv_iadd hx hb dL_swaps_105 ?_
            refine lv_iadd hx hb dL_swaps_106 ?_
            refine lv_istore (lv' := [(7, .int (gnF R a b s1 + (1 + 1))), (0, .ref (gz g + 0)), (1, .int (nI a)), (2, .int (nI b)), (3, .int 0), (4, .int (-100005)), (5, .int (-100005)), (6, .int (-100005)), (8, .int (vsI R sc)), (9, .int (nI s1))]) hx hb dL_swaps_107 hl (by decide) rfl (fun ls hl => ?_)
            have hl : lv_has ls 10 [(7, .int (gnF R a b (s1 + 1))), (0, .ref (gz g + 0)), (1, .int (nI a)), (2, .int (nI b)), (3, .int 0), (4, .int (-100005)), (5, .int (-100005)), (6, .int (-100005)), (8, .int (vsI R sc)), (9, .int (nI s1))] := by rw [show (gnF R a b (s1 + 1) : Int32) = (gnF R a b s1 + (1 + 1)) from (show gnF R a b (s1 + 1) = gnF R a b s1 + ((if R (84 + 6 * (4 * s1 + a) + 0) = 0 then 0 else 1) + (if R (84 + 6 * (4 * s1 + b) + 0) = 0 then 0 else 1)) from rfl).trans (by rw [if_neg va, if_neg vb])]; exact hl
            refine lv_iinc (v := nI (s1 + 1)) (lv' := [(9, .int (nI (s1 + 1))), (7, .int (gnF R a b (s1 + 1))), (0, .ref (gz g + 0)), (1, .int (nI a)), (2, .int (nI b)), (3, .int 0), (4, .int (-100005)), (5, .int (-100005)), (6, .int (-100005)), (8, .int (vsI R sc))]) hx hb dL_swaps_109 hl (k := 9) rfl (by exact (nI_succ s1).symm) (by decide) rfl (fun ls hl => ?_)
            refine lv_goto (tgt := 61) hx hb dL_swaps_112 (by decide) ?_
            exact ih_lg (s1 + 1) (by omega) _ _ _ (by omega) h (lv_sub hl [2, 3, 4, 5, 6, 7, 8, 9, 1, 0] rfl)
        exact lg _ 0 (Nat.zero_le _) _ _ _ (Nat.le_refl _) h (lv_sub hl [7, 8, 9, 6, 5, 4, 3, 1, 2, 0] rfl)
      refine lv_aload_n hx hb dL_swaps_0 rfl (lv_at hl 0 rfl) ?_
      refine lv_iload_n hx hb dL_swaps_1 rfl (lv_at hl 1 rfl) ?_
      refine lv_iconst (v := 2) hx hb dL_swaps_2 (by decide) ?_
      refine u_iE (v := (-100005)) (ru_V (As := [.int (nI a), .int 2]) (rest := []) F h hWd.1 rfl (kw_wire l g n c hWd J (nI a) 2 (v := (-100005)) (wi_n ha4 na (by decide))) (gV hjl wd_390 wd_391 wd_392 wd_16 wd_393) rfl 2 (by decide +kernel) rfl ⟨Nat.le_of_ble_eq_true rfl, Nat.le_of_ble_eq_true rfl⟩ rfl hl.1 (Nat.le_of_ble_eq_true rfl) ⟨Nat.zero_le _, Nat.zero_le _⟩ dL_swaps_3) h (fun H locs h => ?_)
      refine lv_if_le (tgt := 22) hx hb dL_swaps_6 (by decide) (fun b_6 => ?_) (fun b_6 => by first | exact absurd (by decide) b_6 | exact absurd b_6 (by decide))
      refine lv_iconst (v := 0) hx hb dL_swaps_22 (by decide) ?_
      refine lv_istore_n (lv' := [(3, .int 0), (0, .ref (gz g + 0)), (1, .int (nI a)), (2, .int (nI b))]) hx hb dL_swaps_23 rfl hl (by decide) rfl (fun ls hl => ?_)
      refine lv_aload_n hx hb dL_swaps_24 rfl (lv_at hl 1 rfl) ?_
      refine lv_iload_n hx hb dL_swaps_25 rfl (lv_at hl 2 rfl) ?_
      refine lv_iconst (v := 0) hx hb dL_swaps_26 (by decide) ?_
      refine u_iE (v := (-100005)) (ru_V (As := [.int (nI a), .int 0]) (rest := []) F h hWd.1 rfl (kw_wire l g n c hWd J (nI a) 0 (v := (-100005)) (wi_n ha4 na (by decide))) (gV hjl wd_390 wd_391 wd_392 wd_16 wd_393) rfl 2 (by decide +kernel) rfl ⟨Nat.le_of_ble_eq_true rfl, Nat.le_of_ble_eq_true rfl⟩ rfl hl.1 (Nat.le_of_ble_eq_true rfl) ⟨Nat.zero_le _, Nat.zero_le _⟩ dL_swaps_27) h (fun H locs h => ?_)
      refine lv_istore (lv' := [(4, .int (-100005)), (3, .int 0), (0, .ref (gz g + 0)), (1, .int (nI a)), (2, .int (nI b))]) hx hb dL_swaps_30 hl (by decide) rfl (fun ls hl => ?_)
      refine lv_aload_n hx hb dL_swaps_32 rfl (lv_at hl 2 rfl) ?_
      refine lv_iload_n hx hb dL_swaps_33 rfl (lv_at hl 4 rfl) ?_
      refine lv_iconst (v := 1) hx hb dL_swaps_34 (by decide) ?_
      refine u_iE (v := (-100005)) (ru_V (As := [.int (nI b), .int 1]) (rest := []) F h hWd.1 rfl (kw_wire l g n c hWd J (nI b) 1 (v := (-100005)) (wi_n hb4 nb (by decide))) (gV hjl wd_390 wd_391 wd_392 wd_16 wd_393) rfl 2 (by decide +kernel) rfl ⟨Nat.le_of_ble_eq_true rfl, Nat.le_of_ble_eq_true rfl⟩ rfl hl.1 (Nat.le_of_ble_eq_true rfl) ⟨Nat.zero_le _, Nat.zero_le _⟩ dL_swaps_35) h (fun H locs h => ?_)
      refine lv_istore (lv' := [(5, .int (-100005)), (4, .int (-100005)), (3, .int 0), (0, .ref (gz g + 0)), (1, .int (nI a)), (2, .int (nI b))]) hx hb dL_swaps_38 hl (by decide) rfl (fun ls hl => ?_)
      refine lv_aload_n hx hb dL_swaps_40 rfl (lv_at hl 3 rfl) ?_
      refine lv_iload_n hx hb dL_swaps_41 rfl (lv_at hl 4 rfl) ?_
      refine lv_iconst (v := 2) hx hb dL_swaps_42 (by decide) ?_
      refine u_iE (v := (-100005)) (ru_V (As := [.int (nI a), .int 2]) (rest := []) F h hWd.1 rfl (kw_wire l g n c hWd J (nI a) 2 (v := (-100005)) (wi_n ha4 na (by decide))) (gV hjl wd_390 wd_391 wd_392 wd_16 wd_393) rfl 2 (by decide +kernel) rfl ⟨Nat.le_of_ble_eq_true rfl, Nat.le_of_ble_eq_true rfl⟩ rfl hl.1 (Nat.le_of_ble_eq_true rfl) ⟨Nat.zero_le _, Nat.zero_le _⟩ dL_swaps_43) h (fun H locs h => ?_)
      refine lv_istore (lv' := [(6, .int (-100005)), (5, .int (-100005)), (4, .int (-100005)), (3, .int 0), (0, .ref (gz g + 0)), (1, .int (nI a)), (2, .int (nI b))]) hx hb dL_swaps_46 hl (by decide) rfl (fun ls hl => ?_)
      refine lv_iconst (v := 0) hx hb dL_swaps_48 (by decide) ?_
      refine lv_istore (lv' := [(7, .int 0), (6, .int (-100005)), (5, .int (-100005)), (4, .int (-100005)), (3, .int 0), (0, .ref (gz g + 0)), (1, .int (nI a)), (2, .int (nI b))]) hx hb dL_swaps_49 hl (by decide) rfl (fun ls hl => ?_)
      refine lv_aload_n hx hb dL_swaps_51 rfl (lv_at hl 5 rfl) ?_
      refine lv_iconst (v := 5) hx hb dL_swaps_52 (by decide) ?_
      refine u_iE (v := vsI R sc) (ru_V (As := [.int 5]) (rest := []) F h hWd.1 rfl (kw_count l g n c hWd J 5 (v := vsI R sc) (rfl)) (gV hjl wd_399 wd_400 wd_401 wd_16 wd_402) rfl 1 (by decide +kernel) rfl ⟨Nat.le_of_ble_eq_true rfl, Nat.le_of_ble_eq_true rfl⟩ rfl hl.1 (Nat.le_of_ble_eq_true rfl) ⟨Nat.zero_le _, Nat.zero_le _⟩ dL_swaps_53) h (fun H locs h => ?_)
      refine lv_istore (lv' := [(8, .int (vsI R sc)), (7, .int 0), (6, .int (-100005)), (5, .int (-100005)), (4, .int (-100005)), (3, .int 0), (0, .ref (gz g + 0)), (1, .int (nI a)), (2, .int (nI b))]) hx hb dL_swaps_56 hl (by decide) rfl (fun ls hl => ?_)
      refine lv_iconst (v := 0) hx hb dL_swaps_58 (by decide) ?_
      refine lv_istore (lv' := [(9, .int 0), (8, .int (vsI R sc)), (7, .int 0), (6, .int (-100005)), (5, .int (-100005)), (4, .int (-100005)), (3, .int 0), (0, .ref (gz g + 0)), (1, .int (nI a)), (2, .int (nI b))]) hx hb dL_swaps_59 hl (by decide) rfl (fun ls hl => ?_)
      have lg : ∀ (k : Nat) (s1 : Nat) (hs : s1 ≤ sc) (H : Heap) (locs : List Loc) (ls : Array Slot), (6 - s1) ≤ k → Hv g s H locs n c → lv_has ls 10 [(0, .ref (gz g + 0)), (1, .int (nI a)), (2, .int (nI b)), (3, .int 0), (4, .int (-100005)), (5, .int (-100005)), (6, .int (-100005)), (8, .int (vsI R sc)), (7, .int (gnF R a b s1)), (9, .int (nI s1))] → W p l e (Rm 5 109 0 0) s m args below meth c0 H locs 0 0 (MQ below (Qi g (fun xr n' c' => xr = 1 ∧ n ≤ n' ∧ ∃ (lh' : Nat) (rs' : Int32) (R' : Nat → Int32) (hq' : Nat → Nat → Int32), Wd g c' lh' rs' R' hq' ∧ Jv R' sc cn tb)) args s 0 0 (mAf g)) (F0 m 61 ls []) := by
        intro k_lg
        induction k_lg with
        | zero => intro s1 hs H locs ls hk h hl; exact absurd hk (by omega)
        | succ k_lg ih_lg =>
          intro s1 hs H locs ls hk_lg h hl
          refine lv_iload hx hb dL_swaps_61 (lv_at hl 9 rfl) ?_
          refine lv_aload_n hx hb dL_swaps_63 rfl (lv_at hl 0 rfl) ?_
          refine lv_iconst (v := 3) hx hb dL_swaps_64 (by decide) ?_
          refine u_iE (v := nI sc) (ru_V (As := [.int 3]) (rest := [.int (nI s1)]) F h hWd.1 rfl (kw_count l g n c hWd J 3 (v := nI sc) (J.s4)) (gV hjl wd_399 wd_400 wd_401 wd_16 wd_402) rfl 1 (by decide +kernel) rfl ⟨Nat.le_of_ble_eq_true rfl, Nat.le_of_ble_eq_true rfl⟩ rfl hl.1 (Nat.le_of_ble_eq_true rfl) ⟨Nat.zero_le _, Nat.zero_le _⟩ dL_swaps_65) h (fun H locs h => ?_)
          refine lv_icmp_ge (tgt := 115) hx hb dL_swaps_68 (by decide) (fun b_68 => ?_) (fun b_68 => ?_)
          · skip
            have e5 : s1 = sc := by have := lp_ge (N := sc) rfl (by omega) (by omega) b_68; omega
            have hl : lv_has ls 10 [(0, .ref (gz g + 0)), (1, .int (nI a)), (2, .int (nI b)), (3, .int 0), (4, .int (-100005)), (5, .int (-100005)), (6, .int (-100005)), (8, .int (vsI R sc)), (7, .int (gnF R a b sc)), (9, .int (nI s1))] := by rw [show (gnF R a b sc : Int32) = gnF R a b s1 from by rw [e5]]; exact hl
            refine lv_aload_n hx hb dL_swaps_115 rfl (lv_at hl 0 rfl) ?_
            refine lv_iload_n hx hb dL_swaps_116 rfl (lv_at hl 1 rfl) ?_
            refine lv_iload_n hx hb dL_swaps_117 rfl (lv_at hl 2 rfl) ?_
            have hWua2 : Wd g c lh rs R hq := hWd
            refine u_i (ru_V (As := [.int (nI a), .int (nI b)]) (rest := []) F h hWd.1 rfl (k_X7_swap l g n c lh 0 rs hWua2.1 R hWua2.2.1 hWua2.2.2.2.2 hq hWua2.2.2.1 J.wb (nI a) (nI b) sc sc J.s4 J.s5) (gV hjl wd_676 wd_677 wd_678 wd_16 wd_679) rfl 2 (by decide +kernel) rfl ⟨Nat.le_of_ble_eq_true rfl, Nat.le_of_ble_eq_true rfl⟩ rfl hl.1 (Nat.le_of_ble_eq_true rfl) ⟨Nat.zero_le _, Nat.zero_le _⟩ dL_swaps_118) h (fun ra2 na2 ca2 H locs hp h => ?_)
            obtain ⟨hna2, hxa2, hWa2, hFa2⟩ := paW hp hWua2 (by omega) (sw_nh ha4 hb4 hab (Or.inl na)) (hWua2).2.2.2.2
            subst hxa2
            refine lv_istore (lv' := [(9, .int (-100003)), (0, .ref (gz g + 0)), (1, .int (nI a)), (2, .int (nI b)), (3, .int 0), (4, .int (-100005)), (5, .int (-100005)), (6, .int (-100005)), (8, .int (vsI R sc)), (7, .int (gnF R a b sc))]) hx hb dL_swaps_121 hl (by decide) rfl (fun ls hl => ?_)
            refine lv_iload_n hx hb dL_swaps_123 rfl (lv_at hl 2 rfl) ?_
            refine lv_iload_n hx hb dL_swaps_124 rfl (lv_at hl 3 rfl) ?_
            refine lv_icmp_eq (tgt := 132) hx hb dL_swaps_125 (by decide) (fun b_125 => by first | exact absurd b_125 (fun z => hab ((nI_eq (by omega) (by omega)).mp z)) | exact absurd (fun z => hab ((nI_eq (by omega) (by omega)).mp z)) b_125) (fun b_125 => ?_)
            refine lv_iload_n hx hb dL_swaps_128 rfl (lv_at hl 4 rfl) ?_
            refine lv_if_ne (tgt := 165) hx hb dL_swaps_129 (by decide) (fun b_129 => by first | exact absurd b_129 (by decide) | exact absurd (by decide) b_129) (fun b_129 => ?_)
            refine lv_iload hx hb dL_swaps_132 (lv_at hl 0 rfl) ?_
            refine lv_iload_n hx hb dL_swaps_134 rfl (lv_at hl 2 rfl) ?_
            refine lv_iload_n hx hb dL_swaps_135 rfl (lv_at hl 3 rfl) ?_
            refine lv_icmp_ne (tgt := 144) hx hb dL_swaps_136 (by decide) (fun b_136 => ?_) (fun b_136 => by first | exact absurd (fun z => hab ((nI_eq (by omega) (by omega)).mp z)) b_136 | exact absurd b_136 (fun z => hab ((nI_eq (by omega) (by omega)).mp z)))
            refine lv_ldc (v := (-100003)) hx hb F.2.2.2.1 (F.2.2.2.2.1 (Cond.constant RL 74 (-100003)) (List.mem_cons_of_mem _ wd_660)) dL_swaps_144 ?_
            refine lv_icmp_ne (tgt := 163) hx hb dL_swaps_146 (by decide) (fun b_146 => by first | exact absurd b_146 (by decide) | exact absurd (by decide) b_146) (fun b_146 => ?_)
            refine lv_aload_n hx hb dL_swaps_149 rfl (lv_at hl 1 rfl) ?_
            refine lv_iconst (v := 5) hx hb dL_swaps_150 (by decide) ?_
            refine u_iE (v := vsI R sc) (ru_V (As := [.int 5]) (rest := []) F h hWa2.1 rfl (kw_count l g na2 ca2 hWa2 J 5 (v := vsI R sc) (rfl)) (gV hjl wd_399 wd_400 wd_401 wd_16 wd_402) rfl 1 (by decide +kernel) rfl ⟨Nat.le_of_ble_eq_true rfl, Nat.le_of_ble_eq_true rfl⟩ rfl hl.1 (Nat.le_of_ble_eq_true rfl) ⟨Nat.zero_le _, Nat.zero_le _⟩ dL_swaps_151) h (fun H locs h => ?_)
            refine lv_iload hx hb dL_swaps_154 (lv_at hl 8 rfl) ?_
            refine lv_icmp_ne (tgt := 163) hx hb dL_swaps_156 (by decide) (fun b_156 => by first | exact absurd b_156 (rfl) | exact absurd (rfl) b_156) (fun b_156 => ?_)
            refine lv_iconst (v := 1) hx hb dL_swaps_159 (by decide) ?_
            refine lv_goto (tgt := 164) hx hb dL_swaps_160 (by decide) ?_
            exact ret_z F h (by decide) (Nat.zero_le _) (Nat.zero_le _) dL_swaps_164 (⟨rfl, by omega, _, _, _, _, hWa2, J⟩)
          have hs5 : s1 < sc := lp_lt (N := sc) rfl (by omega) (by omega) b_68
          by_cases va : R (84 + 6 * (4 * s1 + a) + 0) = 0
          · skip
            have hs5 : s1 < sc := lp_lt (N := sc) rfl (by omega) (by omega) b_68
            by_cases vb : R (84 + 6 * (4 * s1 + b) + 0) = 0
            · skip
              have hs5 : s1 < sc := lp_lt (N := sc) rfl (by omega) (by omega) b_68
              refine lv_iload hx hb dL_swaps_71 (lv_at hl 8 rfl) ?_
              refine lv_aload_n hx hb dL_swaps_73 rfl (lv_at hl 0 rfl) ?_
              refine lv_iload hx hb dL_swaps_74 (lv_at hl 9 rfl) ?_
              refine lv_iload_n hx hb dL_swaps_76 rfl (lv_at hl 1 rfl) ?_
              refine lv_iconst (v := 3) hx hb dL_swaps_77 (by decide) ?_
              refine u_iE (v := (-100005)) (ru_V (As := [.int (nI s1), .int (nI a), .int 3]) (rest := [.int (gnF R a b s1)]) F h hWd.1 rfl (kw_observation l g n c hWd J (nI s1) (nI a) 3 (v := (-100005)) (ob_n J.s4 J.s5 hs5 ha4 va (by decide))) (gV hjl wd_518 wd_519 wd_520 wd_16 wd_521) rfl 3 (by decide +kernel) rfl ⟨Nat.le_of_ble_eq_true rfl, Nat.le_of_ble_eq_true rfl⟩ rfl hl.1 (Nat.le_of_ble_eq_true rfl) ⟨Nat.zero_le _, Nat.zero_le _⟩ dL_swaps_78) h (fun H locs h => ?_)
              refine lv_if_lt (tgt := 88) hx hb dL_swaps_81 (by decide) (fun b_81 => ?_) (fun b_81 => by first | exact absurd (by decide) b_81 | exact absurd b_81 (by decide))
              refine lv_iconst (v := 0) hx hb dL_swaps_88 (by decide) ?_
              refine lv_aload_n hx hb dL_swaps_89 rfl (lv_at hl 0 rfl) ?_
              refine lv_iload hx hb dL_swaps_90 (lv_at hl 9 rfl) ?_
              refine lv_iload_n hx hb dL_swaps_92 rfl (lv_at hl 2 rfl) ?_
              refine lv_iconst (v := 3) hx hb dL_swaps_93 (by decide) ?_
              refine u_iE (v := (-100005)) (ru_V (As := [.int (nI s1), .int (nI b), .int 3]) (rest := [.int 0, .int (gnF R a b s1)]) F h hWd.1 rfl (kw_observation l g n c hWd J (nI s1) (nI b) 3 (v := (-100005)) (ob_n J.s4 J.s5 hs5 hb4 vb (by decide))) (gV hjl wd_518 wd_519 wd_520 wd_16 wd_521) rfl 3 (by decide +kernel) rfl ⟨Nat.le_of_ble_eq_true rfl, Nat.le_of_ble_eq_true rfl⟩ rfl hl.1 (Nat.le_of_ble_eq_true rfl) ⟨Nat.zero_le _, Nat.zero_le _⟩ dL_swaps_94) h (fun H locs h => ?_)
              refine lv_if_lt (tgt := 104) hx hb dL_swaps_97 (by decide) (fun b_97 => ?_) (fun b_97 => by first | exact absurd (by decide) b_97 | exact absurd b_97 (by decide))
              refine lv_iconst (v := 0) hx hb dL_swaps_104 (by decide) ?_
              refine lv_iadd hx hb dL_swaps_105 ?_
              refine lv_iadd hx hb dL_swaps_106 ?_
              refine lv_istore (lv' := [(7, .int (gnF R a b s1 + (0 + 0))), (0, .ref (gz g + 0)), (1, .int (nI a)), (2, .int (nI b)), (3, .int 0), (4, .int (-100005)), (5, .int (-100005)), (6, .int (-100005)), (8, .int (vsI R sc)), (9, .int (nI s1))]) hx hb dL_swaps_107 hl (by decide) rfl (fun ls hl => ?_)
              have hl : lv_has ls 10 [(7, .int (gnF R a b (s1 + 1))), (0, .ref (gz g + 0)), (1, .int (nI a)), (2, .int (nI b)), (3, .int 0), (4, .int (-100005)), (5, .int (-100005)), (6, .int (-100005)), (8, .int (vsI R sc)), (9, .int (nI s1))] := by rw [show (gnF R a b (s1 + 1) : Int32) = (gnF R a b s1 + (0 + 0)) from (show gnF R a b (s1 + 1) = gnF R a b s1 + ((if R (84 + 6 * (4 * s1 + a) + 0) = 0 then 0 else 1) + (if R (84 + 6 * (4 * s1 + b) + 0) = 0 then 0 else 1)) from rfl).trans (by rw [if_pos va, if_pos vb])]; exact hl
              refine lv_iinc (v := nI (s1 + 1)) (lv' := [(9, .int (nI (s1 + 1))), (7, .int (gnF R a b (s1 + 1))), (0, .ref (gz g + 0)), (1, .int (nI a)), (2, .int (nI b)), (3, .int 0), (4, .int (-100005)), (5, .int (-100005)), (6, .int (-100005)), (8, .int (vsI R sc))]) hx hb dL_swaps_109 hl (k := 9) rfl (by exact (nI_succ s1).symm) (by decide) rfl (fun ls hl => ?_)
              refine lv_goto (tgt := 61) hx hb dL_swaps_112 (by decide) ?_
              exact ih_lg (s1 + 1) (by omega) _ _ _ (by omega) h (lv_sub hl [2, 3, 4, 5, 6, 7, 8, 9, 1, 0] rfl)
            refine lv_iload hx hb dL_swaps_71 (lv_at hl 8 rfl) ?_
            refine lv_aload_n hx hb dL_swaps_73 rfl (lv_at hl 0 rfl) ?_
            refine lv_iload hx hb dL_swaps_74 (lv_at hl 9 rfl) ?_
            refine lv_iload_n hx hb dL_swaps_76 rfl (lv_at hl 1 rfl) ?_
            refine lv_iconst (v := 3) hx hb dL_swaps_77 (by decide) ?_
            refine u_iE (v := (-100005)) (ru_V (As := [.int (nI s1), .int (nI a), .int 3]) (rest := [.int (gnF R a b s1)]) F h hWd.1 rfl (kw_observation l g n c hWd J (nI s1) (nI a) 3 (v := (-100005)) (ob_n J.s4 J.s5 hs5 ha4 va (by decide))) (gV hjl wd_518 wd_519 wd_520 wd_16 wd_521) rfl 3 (by decide +kernel) rfl ⟨Nat.le_of_ble_eq_true rfl, Nat.le_of_ble_eq_true rfl⟩ rfl hl.1 (Nat.le_of_ble_eq_true rfl) ⟨Nat.zero_le _, Nat.zero_le _⟩ dL_swaps_78) h (fun H locs h => ?_)
            refine lv_if_lt (tgt := 88) hx hb dL_swaps_81 (by decide) (fun b_81 => ?_) (fun b_81 => by first | exact absurd (by decide) b_81 | exact absurd b_81 (by decide))
            refine lv_iconst (v := 0) hx hb dL_swaps_88 (by decide) ?_
            refine lv_aload_n hx hb dL_swaps_89 rfl (lv_at hl 0 rfl) ?_
            refine lv_iload hx hb dL_swaps_90 (lv_at hl 9 rfl) ?_
            refine lv_iload_n hx hb dL_swaps_92 rfl (lv_at hl 2 rfl) ?_
            refine lv_iconst (v := 3) hx hb dL_swaps_93 (by decide) ?_
            refine u_iE (v := R (84 + 6 * (4 * s1 + b) + 4)) (ru_V (As := [.int (nI s1), .int (nI b), .int 3]) (rest := [.int 0, .int (gnF R a b s1)]) F h hWd.1 rfl (kw_observation l g n c hWd J (nI s1) (nI b) 3 (v := R (84 + 6 * (4 * s1 + b) + 4)) (ob_3 J.s4 J.s5 hs5 hb4 vb)) (gV hjl wd_518 wd_519 wd_520 wd_16 wd_521) rfl 3 (by decide +kernel) rfl ⟨Nat.le_of_ble_eq_true rfl, Nat.le_of_ble_eq_true rfl⟩ rfl hl.1 (Nat.le_of_ble_eq_true rfl) ⟨Nat.zero_le _, Nat.zero_le _⟩ dL_swaps_94) h (fun H locs h => ?_)
            refine lv_if_lt (tgt := 104) hx hb dL_swaps_97 (by decide) (fun b_97 => by first | exact absurd b_97 (i_nlt (bt_ge (J.v hs5 hb4 (b01_of (J.ob (by omega) hb4) vb)).2.2.1 0 (by decide))) | exact absurd (i_nlt (bt_ge (J.v hs5 hb4 (b01_of (J.ob (by omega) hb4) vb)).2.2.1 0 (by decide))) b_97) (fun b_97 => ?_)
            refine lv_iconst (v := 1) hx hb dL_swaps_100 (by decide) ?_
            refine lv_goto (tgt := 105) hx hb dL_swaps_101 (by decide) ?_
            refine lv_iadd hx hb dL_swaps_105 ?_
            refine lv_iadd hx hb dL_swaps_106 ?_
            refine lv_istore (lv' := [(7, .int (gnF R a b s1 + (0 + 1))), (0, .ref (gz g + 0)), (1, .int (nI a)), (2, .int (nI b)), (3, .int 0), (4, .int (-100005)), (5, .int (-100005)), (6, .int (-100005)), (8, .int (vsI R sc)), (9, .int (nI s1))]) hx hb dL_swaps_107 hl (by decide) rfl (fun ls hl => ?_)
            have hl : lv_has ls 10 [(7, .int (gnF R a b (s1 + 1))), (0, .ref (gz g + 0)), (1, .int (nI a)), (2, .int (nI b)), (3, .int 0), (4, .int (-100005)), (5, .int (-100005)), (6, .int (-100005)), (8, .int (vsI R sc)), (9, .int (nI s1))] := by rw [show (gnF R a b (s1 + 1) : Int32) = (gnF R a b s1 + (0 + 1)) from (show gnF R a b (s1 + 1) = gnF R a b s1 + ((if R (84 + 6 * (4 * s1 + a) + 0) = 0 then 0 else 1) + (if R (84 + 6 * (4 * s1 + b) + 0) = 0 then 0 else 1)) from rfl).trans (by rw [if_pos va, if_neg vb])]; exact hl
            refine lv_iinc (v := nI (s1 + 1)) (lv' := [(9, .int (nI (s1 + 1))), (7, .int (gnF R a b (s1 + 1))), (0, .ref (gz g + 0)), (1, .int (nI a)), (2, .int (nI b)), (3, .int 0), (4, .int (-100005)), (5, .int (-100005)), (6, .int (-100005)), (8, .int (vsI R sc))]) hx hb dL_swaps_109 hl (k := 9) rfl (by exact (nI_succ s1).symm) (by decide) rfl (fun ls hl => ?_)
            refine lv_goto (tgt := 61) hx hb dL_swaps_112 (by decide) ?_
            exact ih_lg (s1 + 1) (by omega) _ _ _ (by omega) h (lv_sub hl [2, 3, 4, 5, 6, 7, 8, 9, 1, 0] rfl)
          by_cases vb : R (84 + 6 * (4 * s1 + b) + 0) = 0
          · skip
            have hs5 : s1 < sc := lp_lt (N := sc) rfl (by omega) (by omega) b_68
            refine lv_iload hx hb dL_swaps_71 (lv_at hl 8 rfl) ?_
            refine lv_aload_n hx hb dL_swaps_73 rfl (lv_at hl 0 rfl) ?_
            refine lv_iload hx hb dL_swaps_74 (lv_at hl 9 rfl) ?_
            refine lv_iload_n hx hb dL_swaps_76 rfl (lv_at hl 1 rfl) ?_
            refine lv_iconst (v := 3) hx hb dL_swaps_77 (by decide) ?_
            refine u_iE (v := R (84 + 6 * (4 * s1 + a) + 4)) (ru_V (As := [.int (nI s1), .int (nI a), .int 3]) (rest := [.int (gnF R a b s1)]) F h hWd.1 rfl (kw_observation l g n c hWd J (nI s1) (nI a) 3 (v := R (84 + 6 * (4 * s1 + a) + 4)) (ob_3 J.s4 J.s5 hs5 ha4 va)) (gV hjl wd_518 wd_519 wd_520 wd_16 wd_521) rfl 3 (by decide +kernel) rfl ⟨Nat.le_of_ble_eq_true rfl, Nat.le_of_ble_eq_true rfl⟩ rfl hl.1 (Nat.le_of_ble_eq_true rfl) ⟨Nat.zero_le _, Nat.zero_le _⟩ dL_swaps_78) h (fun H locs h => ?_)
            refine lv_if_lt (tgt := 88) hx hb dL_swaps_81 (by decide) (fun b_81 => by first | exact absurd b_81 (i_nlt (bt_ge (J.v hs5 ha4 (b01_of (J.ob (by omega) ha4) va)).2.2.1 0 (by decide))) | exact absurd (i_nlt (bt_ge (J.v hs5 ha4 (b01_of (J.ob (by omega) ha4) va)).2.2.1 0 (by decide))) b_81) (fun b_81 => ?_)
            refine lv_iconst (v := 1) hx hb dL_swaps_84 (by decide) ?_
            refine lv_goto (tgt := 89) hx hb dL_swaps_85 (by decide) ?_
            refine lv_aload_n hx hb dL_swaps_89 rfl (lv_at hl 0 rfl) ?_
            refine lv_iload hx hb dL_swaps_90 (lv_at hl 9 rfl) ?_
            refine lv_iload_n hx hb dL_swaps_92 rfl (lv_at hl 2 rfl) ?_
            refine lv_iconst (v := 3) hx hb dL_swaps_93 (by decide) ?_
            refine u_iE (v := (-100005)) (ru_V (As := [.int (nI s1), .int (nI b), .int 3]) (rest := [.int 1, .int (gnF R a b s1)]) F h hWd.1 rfl (kw_observation l g n c hWd J (nI s1) (nI b) 3 (v := (-100005)) (ob_n J.s4 J.s5 hs5 hb4 vb (by decide))) (gV hjl wd_518 wd_519 wd_520 wd_16 wd_521) rfl 3 (by decide +kernel) rfl ⟨Nat.le_of_ble_eq_true rfl, Nat.le_of_ble_eq_true rfl⟩ rfl hl.1 (Nat.le_of_ble_eq_true rfl) ⟨Nat.zero_le _, Nat.zero_le _⟩ dL_swaps_94) h (fun H locs h => ?_)
            refine lv_if_lt (tgt := 104) hx hb dL_swaps_97 (by decide) (fun b_97 => ?_) (fun b_97 => by first | exact absurd (by decide) b_97 | exact absurd b_97 (by decide))
            refine lv_iconst (v := 0) hx hb dL_swaps_104 (by decide) ?_
            refine lv_iadd hx hb dL_swaps_105 ?_
            refine lv_iadd hx hb dL_swaps_106 ?_
            refine lv_istore (lv' := [(7, .int (gnF R a b s1 + (1 + 0))), (0, .ref (gz g + 0)), (1, .int (nI a)), (2, .int (nI b)), (3, .int 0), (4, .int (-100005)), (5, .int (-100005)), (6, .int (-100005)), (8, .int (vsI R sc)), (9, .int (nI s1))]) hx hb dL_swaps_107 hl (by decide) rfl (fun ls hl => ?_)
            have hl : lv_has ls 10 [(7, .int (gnF R a b (s1 + 1))), (0, .ref (gz g + 0)), (1, .int (nI a)), (2, .int (nI b)), (3, .int 0), (4, .int (-100005)), (5, .int (-100005)), (6, .int (-100005)), (8, .int (vsI R sc)), (9, .int (nI s1))] := by rw [show (gnF R a b (s1 + 1) : Int32) = (gnF R a b s1 + (1 + 0)) from (show gnF R a b (s1 + 1) = gnF R a b s1 + ((if R (84 + 6 * (4 * s1 + a) + 0) = 0 then 0 else 1) + (if R (84 + 6 * (4 * s1 + b) + 0) = 0 then 0 else 1)) from rfl).trans (by rw [if_neg va, if_pos vb])]; exact hl
            refine lv_iinc (v := nI (s1 + 1)) (lv' := [(9, .int (nI (s1 + 1))), (7, .int (gnF R a b (s1 + 1))), (0, .ref (gz g + 0)), (1, .int (nI a)), (2, .int (nI b)), (3, .int 0), (4, .int (-100005)), (5, .int (-100005)), (6, .int (-100005)), (8, .int (vsI R sc))]) hx hb dL_swaps_109 hl (k := 9) rfl (by exact (nI_succ s1).symm) (by decide) rfl (fun ls hl => ?_)
            refine lv_goto (tgt := 61) hx hb dL_swaps_112 (by decide) ?_
            exact ih_lg (s1 + 1) (by omega) _ _ _ (by omega) h (lv_sub hl [2, 3, 4, 5, 6, 7, 8, 9, 1, 0] rfl)
          refine lv_iload hx hb dL_swaps_71 (lv_at hl 8 rfl) ?_
          refine lv_aload_n hx hb dL_swaps_73 rfl (lv_at hl 0 rfl) ?_
          refine lv_iload hx hb dL_swaps_74 (lv_at hl 9 rfl) ?_
          refine lv_iload_n hx hb dL_swaps_76 rfl (lv_at hl 1 rfl) ?_
          refine lv_iconst (v := 3) hx hb dL_swaps_77 (by decide) ?_
          refine u_iE (v := R (84 + 6 * (4 * s1 + a) + 4)) (ru_V (As := [.int (nI s1), .int (nI a), .int 3]) (rest := [.int (gnF R a b s1)]) F h hWd.1 rfl (kw_observation l g n c hWd J (nI s1) (nI a) 3 (v := R (84 + 6 * (4 * s1 + a) + 4)) (ob_3 J.s4 J.s5 hs5 ha4 va)) (gV hjl wd_518 wd_519 wd_520 wd_16 wd_521) rfl 3 (by decide +kernel) rfl ⟨Nat.le_of_ble_eq_true rfl, Nat.le_of_ble_eq_true rfl⟩ rfl hl.1 (Nat.le_of_ble_eq_true rfl) ⟨Nat.zero_le _, Nat.zero_le _⟩ dL_swaps_78) h (fun H locs h => ?_)
          refine lv_if_lt (tgt := 88) hx hb dL_swaps_81 (by decide) (fun b_81 => by first | exact absurd b_81 (i_nlt (bt_ge (J.v hs5 ha4 (b01_of (J.ob (by omega) ha4) va)).2.2.1 0 (by decide))) | exact absurd (i_nlt (bt_ge (J.v hs5 ha4 (b01_of (J.ob (by omega) ha4) va)).2.2.1 0 (by decide))) b_81) (fun b_81 => ?_)
          refine lv_iconst (v := 1) hx hb dL_swaps_84 (by decide) ?_
          refine lv_goto (tgt := 89) hx hb dL_swaps_85 (by decide) ?_
          refine lv_aload_n hx hb dL_swaps_89 rfl (lv_at hl 0 rfl) ?_
          refine lv_iload hx hb dL_swaps_90 (lv_at hl 9 rfl) ?_
          refine lv_iload_n hx hb dL_swaps_92 rfl (lv_at hl 2 rfl) ?_
          refine lv_iconst (v := 3) hx hb dL_swaps_93 (by decide) ?_
          refine u_iE (v := R (84 + 6 * (4 * s1 + b) + 4)) (ru_V (As := [.int (nI s1), .int (nI b), .int 3]) (rest := [.int 1, .int (gnF R a b s1)]) F h hWd.1 rfl (kw_observation l g n c hWd J (nI s1) (nI b) 3 (v := R (84 + 6 * (4 * s1 + b) + 4)) (ob_3 J.s4 J.s5 hs5 hb4 vb)) (gV hjl wd_518 wd_519 wd_520 wd_16 wd_521) rfl 3 (by decide +kernel) rfl ⟨Nat.le_of_ble_eq_true rfl, Nat.le_of_ble_eq_true rfl⟩ rfl hl.1 (Nat.le_of_ble_eq_true rfl) ⟨Nat.zero_le _, Nat.zero_le _⟩ dL_swaps_94) h (fun H locs h => ?_)
          refine lv_if_lt (tgt := 104) hx hb dL_swaps_97 (by decide) (fun b_97 => by first | exact absurd b_97 (i_nlt (bt_ge (J.v hs5 hb4 (b01_of (J.ob (by omega) hb4) vb)).2.2.1 0 (by decide))) | exact absurd (i_nlt (bt_ge (J.v hs5 hb4 (b01_of (J.ob (by omega) hb4) vb)).2.2.1 0 (by decide))) b_97) (fun b_97 => ?_)
          refine lv_iconst (v := 1) hx hb dL_swaps_100 (by decide) ?_
          refine lv_goto (tgt := 105) hx hb dL_swaps_101 (by decide) ?_
          refine lv_iadd hx hb dL_swaps_105 ?_
          refine lv_iadd hx hb dL_swaps_106 ?_
          refine lv_istore (lv' := [(7, .int (gnF R a b s1 + (1 + 1))), (0, .ref (gz g + 0)), (1, .int (nI a)), (2, .int (nI b)), (3, .int 0), (4, .int (-100005)), (5, .int (-100005)), (6, .int (-100005)), (8, .int (vsI R sc)), (9, .int (nI s1))]) hx hb dL_swaps_107 hl (by decide) rfl (fun ls hl => ?_)
          have hl : lv_has ls 10 [(7, .int (gnF R a b (s1 + 1))), (0, .ref (gz g + 0)), (1, .int (nI a)), (2, .int (nI b)), (3, .int 0), (4, .int (-100005)), (5, .int (-100005)), (6, .int (-100005)), (8, .int (vsI R sc)), (9, .int (nI s1))] := by rw [show (gnF R a b (s1 + 1) : Int32) = (gnF R a b s1 + (1 + 1)) from (show gnF R a b (s1 + 1) = gnF R a b s1 + ((if R (84 + 6 * (4 * s1 + a) + 0) = 0 then 0 else 1) + (if R (84 + 6 * (4 * s1 + b) + 0) = 0 then 0 else 1)) from rfl).trans (by rw [if_neg va, if_neg vb])]; exact hl
          refine lv_iinc (v := nI (s1 + 1)) (lv' := [(9, .int (nI (s1 + 1))), (7, .int (gnF R a b (s1 + 1))), (0, .ref (gz g + 0)), (1, .int (nI a)), (2, .int (nI b)), (3, .int 0), (4, .int (-100005)), (5, .int (-100005)), (6, .int (-100005)), (8, .int (vsI R sc))]) hx hb dL_swaps_109 hl (k := 9) rfl (by exact (nI_succ s1).symm) (by decide) rfl (fun ls hl => ?_)
          refine lv_goto (tgt := 61) hx hb dL_swaps_112 (by decide) ?_
          exact ih_lg (s1 + 1) (by omega) _ _ _ (by omega) h (lv_sub hl [2, 3, 4, 5, 6, 7, 8, 9, 1, 0] rfl)
      exact lg _ 0 (Nat.zero_le _) _ _ _ (Nat.le_refl _) h (lv_sub hl [7, 8, 9, 6, 5, 4, 3, 1, 2, 0] rfl)
    by_cases hab : a = b
    · skip
      have h2 := b01_of (J.b hb4) nb
      refine lv_aload_n hx hb dL_swaps_0 rfl (lv_at hl 0 rfl) ?_
      refine lv_iload_n hx hb dL_swaps_1 rfl (lv_at hl 1 rfl) ?_
      refine lv_iconst (v := 2) hx hb dL_swaps_2 (by decide) ?_
      refine u_iE (v := (-100005)) (ru_V (As := [.int (nI a), .int 2]) (rest := []) F h hWd.1 rfl (kw_wire l g n c hWd J (nI a) 2 (v := (-100005)) (wi_n ha4 na (by decide))) (gV hjl wd_390 wd_391 wd_392 wd_16 wd_393) rfl 2 (by decide +kernel) rfl ⟨Nat.le_of_ble_eq_true rfl, Nat.le_of_ble_eq_true rfl⟩ rfl hl.1 (Nat.le_of_ble_eq_true rfl) ⟨Nat.zero_le _, Nat.zero_le _⟩ dL_swaps_3) h (fun H locs h => ?_)
      refine lv_if_le (tgt := 22) hx hb dL_swaps_6 (by decide) (fun b_6 => ?_) (fun b_6 => by first | exact absurd (by decide) b_6 | exact absurd b_6 (by decide))
      refine lv_iconst (v := 0) hx hb dL_swaps_22 (by decide) ?_
      refine lv_istore_n (lv' := [(3, .int 0), (0, .ref (gz g + 0)), (1, .int (nI a)), (2, .int (nI b))]) hx hb dL_swaps_23 rfl hl (by decide) rfl (fun ls hl => ?_)
      refine lv_aload_n hx hb dL_swaps_24 rfl (lv_at hl 1 rfl) ?_
      refine lv_iload_n hx hb dL_swaps_25 rfl (lv_at hl 2 rfl) ?_
      refine lv_iconst (v := 0) hx hb dL_swaps_26 (by decide) ?_
      refine u_iE (v := (-100005)) (ru_V (As := [.int (nI a), .int 0]) (rest := []) F h hWd.1 rfl (kw_wire l g n c hWd J (nI a) 0 (v := (-100005)) (wi_n ha4 na (by decide))) (gV hjl wd_390 wd_391 wd_392 wd_16 wd_393) rfl 2 (by decide +kernel) rfl ⟨Nat.le_of_ble_eq_true rfl, Nat.le_of_ble_eq_true rfl⟩ rfl hl.1 (Nat.le_of_ble_eq_true rfl) ⟨Nat.zero_le _, Nat.zero_le _⟩ dL_swaps_27) h (fun H locs h => ?_)
      refine lv_istore (lv' := [(4, .int (-100005)), (3, .int 0), (0, .ref (gz g + 0)), (1, .int (nI a)), (2, .int (nI b))]) hx hb dL_swaps_30 hl (by decide) rfl (fun ls hl => ?_)
      refine lv_aload_n hx hb dL_swaps_32 rfl (lv_at hl 2 rfl) ?_
      refine lv_iload_n hx hb dL_swaps_33 rfl (lv_at hl 4 rfl) ?_
      refine lv_iconst (v := 1) hx hb dL_swaps_34 (by decide) ?_
      refine u_iE (v := R (5 + 11 * b + 2)) (ru_V (As := [.int (nI b), .int 1]) (rest := []) F h hWd.1 rfl (kw_wire l g n c hWd J (nI b) 1 (v := R (5 + 11 * b + 2)) (wi_1 hb4 (b01_of (J.b hb4) nb))) (gV hjl wd_390 wd_391 wd_392 wd_16 wd_393) rfl 2 (by decide +kernel) rfl ⟨Nat.le_of_ble_eq_true rfl, Nat.le_of_ble_eq_true rfl⟩ rfl hl.1 (Nat.le_of_ble_eq_true rfl) ⟨Nat.zero_le _, Nat.zero_le _⟩ dL_swaps_35) h (fun H locs h => ?_)
      refine lv_istore (lv' := [(5, .int (R (5 + 11 * b + 2))), (4, .int (-100005)), (3, .int 0), (0, .ref (gz g + 0)), (1, .int (nI a)), (2, .int (nI b))]) hx hb dL_swaps_38 hl (by decide) rfl (fun ls hl => ?_)
      refine lv_aload_n hx hb dL_swaps_40 rfl (lv_at hl 3 rfl) ?_
      refine lv_iload_n hx hb dL_swaps_41 rfl (lv_at hl 4 rfl) ?_
      refine lv_iconst (v := 2) hx hb dL_swaps_42 (by decide) ?_
      refine u_iE (v := (-100005)) (ru_V (As := [.int (nI a), .int 2]) (rest := []) F h hWd.1 rfl (kw_wire l g n c hWd J (nI a) 2 (v := (-100005)) (wi_n ha4 na (by decide))) (gV hjl wd_390 wd_391 wd_392 wd_16 wd_393) rfl 2 (by decide +kernel) rfl ⟨Nat.le_of_ble_eq_true rfl, Nat.le_of_ble_eq_true rfl⟩ rfl hl.1 (Nat.le_of_ble_eq_true rfl) ⟨Nat.zero_le _, Nat.zero_le _⟩ dL_swaps_43) h (fun H locs h => ?_)
      refine lv_istore (lv' := [(6, .int (-100005)), (5, .int (R (5 + 11 * b + 2))), (4, .int (-100005)), (3, .int 0), (0, .ref (gz g + 0)), (1, .int (nI a)), (2, .int (nI b))]) hx hb dL_swaps_46 hl (by decide) rfl (fun ls hl => ?_)
      refine lv_iconst (v := 0) hx hb dL_swaps_48 (by decide) ?_
      refine lv_istore (lv' := [(7, .int 0), (6, .int (-100005)), (5, .int (R (5 + 11 * b + 2))), (4, .int (-100005)), (3, .int 0), (0, .ref (gz g + 0)), (1, .int (nI a)), (2, .int (nI b))]) hx hb dL_swaps_49 hl (by decide) rfl (fun ls hl => ?_)
      refine lv_aload_n hx hb dL_swaps_51 rfl (lv_at hl 5 rfl) ?_
      refine lv_iconst (v := 5) hx hb dL_swaps_52 (by decide) ?_
      refine u_iE (v := vsI R sc) (ru_V (As := [.int 5]) (rest := []) F h hWd.1 rfl (kw_count l g n c hWd J 5 (v := vsI R sc) (rfl)) (gV hjl wd_399 wd_400 wd_401 wd_16 wd_402) rfl 1 (by decide +kernel) rfl ⟨Nat.le_of_ble_eq_true rfl, Nat.le_of_ble_eq_true rfl⟩ rfl hl.1 (Nat.le_of_ble_eq_true rfl) ⟨Nat.zero_le _, Nat.zero_le _⟩ dL_swaps_53) h (fun H locs h => ?_)
      refine lv_istore (lv' := [(8, .int (vsI R sc)), (7, .int 0), (6, .int (-100005)), (5, .int (R (5 + 11 * b + 2))), (4, .int (-100005)), (3, .int 0), (0, .ref (gz g + 0)), (1, .int (nI a)), (2, .int (nI b))]) hx hb dL_swaps_56 hl (by decide) rfl (fun ls hl => ?_)
      refine lv_iconst (v := 0) hx hb dL_swaps_58 (by decide) ?_
      refine lv_istore (lv' := [(9, .int 0), (8, .int (vsI R sc)), (7, .int 0), (6, .int (-100005)), (5, .int (R (5 + 11 * b + 2))), (4, .int (-100005)), (3, .int 0), (0, .ref (gz g + 0)), (1, .int (nI a)), (2, .int (nI b))]) hx hb dL_swaps_59 hl (by decide) rfl (fun ls hl => ?_)
      have lg : ∀ (k : Nat) (s1 : Nat) (hs : s1 ≤ sc) (H : Heap) (locs : List Loc) (ls : Array Slot), (6 - s1) ≤ k → Hv g s H locs n c → lv_has ls 10 [(0, .ref (gz g + 0)), (1, .int (nI a)), (2, .int (nI b)), (3, .int 0), (4, .int (-100005)), (5, .int (R (5 + 11 * b + 2))), (6, .int (-100005)), (8, .int (vsI R sc)), (7, .int (gnF R a b s1)), (9, .int (nI s1))] → W p l e (Rm 5 109 0 0) s m args below meth c0 H locs 0 0 (MQ below (Qi g (fun xr n' c' => xr = 1 ∧ n ≤ n' ∧ ∃ (lh' : Nat) (rs' : Int32) (R' : Nat → Int32) (hq' : Nat → Nat → Int32), Wd g c' lh' rs' R' hq' ∧ Jv R' sc cn tb)) args s 0 0 (mAf g)) (F0 m 61 ls []) := by
        intro k_lg
        induction k_lg with
        | zero => intro s1 hs H locs ls hk h hl; exact absurd hk (by omega)
        | succ k_lg ih_lg =>
          intro s1 hs H locs ls hk_lg h hl
          refine lv_iload hx hb dL_swaps_61 (lv_at hl 9 rfl) ?_
          refine lv_aload_n hx hb dL_swaps_63 rfl (lv_at hl 0 rfl) ?_
          refine lv_iconst (v := 3) hx hb dL_swaps_64 (by decide) ?_
          refine u_iE (v := nI sc) (ru_V (As := [.int 3]) (rest := [.int (nI s1)]) F h hWd.1 rfl (kw_count l g n c hWd J 3 (v := nI sc) (J.s4)) (gV hjl wd_399 wd_400 wd_401 wd_16 wd_402) rfl 1 (by decide +kernel) rfl ⟨Nat.le_of_ble_eq_true rfl, Nat.le_of_ble_eq_true rfl⟩ rfl hl.1 (Nat.le_of_ble_eq_true rfl) ⟨Nat.zero_le _, Nat.zero_le _⟩ dL_swaps_65) h (fun H locs h => ?_)
          refine lv_icmp_ge (tgt := 115) hx hb dL_swaps_68 (by decide) (fun b_68 => ?_) (fun b_68 => ?_)
          · skip
            have e5 : s1 = sc := by have := lp_ge (N := sc) rfl (by omega) (by omega) b_68; omega
            have hl : lv_has ls 10 [(0, .ref (gz g + 0)), (1, .int (nI a)), (2, .int (nI b)), (3, .int 0), (4, .int (-100005)), (5, .int (R (5 + 11 * b + 2))), (6, .int (-100005)), (8, .int (vsI R sc)), (7, .int (gnF R a b sc)), (9, .int (nI s1))] := by rw [show (gnF R a b sc : Int32) = gnF R a b s1 from by rw [e5]]; exact hl
            refine lv_aload_n hx hb dL_swaps_115 rfl (lv_at hl 0 rfl) ?_
            refine lv_iload_n hx hb dL_swaps_116 rfl (lv_at hl 1 rfl) ?_
            refine lv_iload_n hx hb dL_swaps_117 rfl (lv_at hl 2 rfl) ?_
            have hWua3 : Wd g c lh rs R hq := hWd
            refine u_i (ru_V (As := [.int (nI a), .int (nI b)]) (rest := []) F h hWd.1 rfl (k_X7_swap l g n c lh 0 rs hWua3.1 R hWua3.2.1 hWua3.2.2.2.2 hq hWua3.2.2.1 J.wb (nI a) (nI b) sc sc J.s4 J.s5) (gV hjl wd_676 wd_677 wd_678 wd_16 wd_679) rfl 2 (by decide +kernel) rfl ⟨Nat.le_of_ble_eq_true rfl, Nat.le_of_ble_eq_true rfl⟩ rfl hl.1 (Nat.le_of_ble_eq_true rfl) ⟨Nat.zero_le _, Nat.zero_le _⟩ dL_swaps_118) h (fun ra3 na3 ca3 H locs hp h => ?_)
            obtain ⟨hna3, hxa3, hWa3, hFa3⟩ := paW hp hWua3 (by omega) (by rw [← hab]; exact sw_same ha4) (hWua3).2.2.2.2
            subst hxa3
            refine lv_istore (lv' := [(9, .int (-100002)), (0, .ref (gz g + 0)), (1, .int (nI a)), (2, .int (nI b)), (3, .int 0), (4, .int (-100005)), (5, .int (R (5 + 11 * b + 2))), (6, .int (-100005)), (8, .int (vsI R sc)), (7, .int (gnF R a b sc))]) hx hb dL_swaps_121 hl (by decide) rfl (fun ls hl => ?_)
            refine lv_iload_n hx hb dL_swaps_123 rfl (lv_at hl 2 rfl) ?_
            refine lv_iload_n hx hb dL_swaps_124 rfl (lv_at hl 3 rfl) ?_
            refine lv_icmp_eq (tgt := 132) hx hb dL_swaps_125 (by decide) (fun b_125 => ?_) (fun b_125 => by first | exact absurd (congrArg nI hab) b_125 | exact absurd b_125 (congrArg nI hab))
            refine lv_iload hx hb dL_swaps_132 (lv_at hl 0 rfl) ?_
            refine lv_iload_n hx hb dL_swaps_134 rfl (lv_at hl 2 rfl) ?_
            refine lv_iload_n hx hb dL_swaps_135 rfl (lv_at hl 3 rfl) ?_
            refine lv_icmp_ne (tgt := 144) hx hb dL_swaps_136 (by decide) (fun b_136 => by first | exact absurd b_136 (congrArg nI hab) | exact absurd (congrArg nI hab) b_136) (fun b_136 => ?_)
            refine lv_ldc (v := (-100002)) hx hb F.2.2.2.1 (F.2.2.2.2.1 (Cond.constant RL 15 (-100002)) (List.mem_cons_of_mem _ wd_442)) dL_swaps_139 ?_
            refine lv_goto (tgt := 146) hx hb dL_swaps_141 (by decide) ?_
            refine lv_icmp_ne (tgt := 163) hx hb dL_swaps_146 (by decide) (fun b_146 => by first | exact absurd b_146 (by decide) | exact absurd (by decide) b_146) (fun b_146 => ?_)
            refine lv_aload_n hx hb dL_swaps_149 rfl (lv_at hl 1 rfl) ?_
            refine lv_iconst (v := 5) hx hb dL_swaps_150 (by decide) ?_
            refine u_iE (v := vsI R sc) (ru_V (As := [.int 5]) (rest := []) F h hWa3.1 rfl (kw_count l g na3 ca3 hWa3 J 5 (v := vsI R sc) (rfl)) (gV hjl wd_399 wd_400 wd_401 wd_16 wd_402) rfl 1 (by decide +kernel) rfl ⟨Nat.le_of_ble_eq_true rfl, Nat.le_of_ble_eq_true rfl⟩ rfl hl.1 (Nat.le_of_ble_eq_true rfl) ⟨Nat.zero_le _, Nat.zero_le _⟩ dL_swaps_151) h (fun H locs h => ?_)
            refine lv_iload hx hb dL_swaps_154 (lv_at hl 8 rfl) ?_
            refine lv_icmp_ne (tgt := 163) hx hb dL_swaps_156 (by decide) (fun b_156 => by first | exact absurd b_156 (rfl) | exact absurd (rfl) b_156) (fun b_156 => ?_)
            refine lv_iconst (v := 1) hx hb dL_swaps_159 (by decide) ?_
            refine lv_goto (tgt := 164) hx hb dL_swaps_160 (by decide) ?_
            exact ret_z F h (by decide) (Nat.zero_le _) (Nat.zero_le _) dL_swaps_164 (⟨rfl, by omega, _, _, _, _, hWa3, J⟩)
          have hs5 : s1 < sc := lp_lt (N := sc) rfl (by omega) (by omega) b_68
          by_cases va : R (84 + 6 * (4 * s1 + a) + 0) = 0
          · skip
            have hs5 : s1 < sc := lp_lt (N := sc) rfl (by omega) (by omega) b_68
            by_cases vb : R (84 + 6 * (4 * s1 + b) + 0) = 0
            · skip
              have hs5 : s1 < sc := lp_lt (N := sc) rfl (by omega) (by omega) b_68
              refine lv_iload hx hb dL_swaps_71 (lv_at hl 8 rfl) ?_
              refine lv_aload_n hx hb dL_swaps_73 rfl (lv_at hl 0 rfl) ?_
              refine lv_iload hx hb dL_swaps_74 (lv_at hl 9 rfl) ?_
              refine lv_iload_n hx hb dL_swaps_76 rfl (lv_at hl 1 rfl) ?_
              refine lv_iconst (v := 3) hx hb dL_swaps_77 (by decide) ?_
              refine u_iE (v := (-100005)) (ru_V (As := [.int (nI s1), .int (nI a), .int 3]) (rest := [.int (gnF R a b s1)]) F h hWd.1 rfl (kw_observation l g n c hWd J (nI s1) (nI a) 3 (v := (-100005)) (ob_n J.s4 J.s5 hs5 ha4 va (by decide))) (gV hjl wd_518 wd_519 wd_520 wd_16 wd_521) rfl 3 (by decide +kernel) rfl ⟨Nat.le_of_ble_eq_true rfl, Nat.le_of_ble_eq_true rfl⟩ rfl hl.1 (Nat.le_of_ble_eq_true rfl) ⟨Nat.zero_le _, Nat.zero_le _⟩ dL_swaps_78) h (fun H locs h => ?_)
              refine lv_if_lt (tgt := 88) hx hb dL_swaps_81 (by decide) (fun b_81 => ?_) (fun b_81 => by first | exact absurd (by decide) b_81 | exact absurd b_81 (by decide))
              refine lv_iconst (v := 0) hx hb dL_swaps_88 (by decide) ?_
              refine lv_aload_n hx hb dL_swaps_89 rfl (lv_at hl 0 rfl) ?_
              refine lv_iload hx hb dL_swaps_90 (lv_at hl 9 rfl) ?_
              refine lv_iload_n hx hb dL_swaps_92 rfl (lv_at hl 2 rfl) ?_
              refine lv_iconst (v := 3) hx hb dL_swaps_93 (by decide) ?_
              refine u_iE (v := (-100005)) (ru_V (As := [.int (nI s1), .int (nI b), .int 3]) (rest := [.int 0, .int (gnF R a b s1)]) F h hWd.1 rfl (kw_observation l g n c hWd J (nI s1) (nI b) 3 (v := (-100005)) (ob_n J.s4 J.s5 hs5 hb4 vb (by decide))) (gV hjl wd_518 wd_519 wd_520 wd_16 wd_521) rfl 3 (by decide +kernel) rfl ⟨Nat.le_of_ble_eq_true rfl, Nat.le_of_ble_eq_true rfl⟩ rfl hl.1 (Nat.le_of_ble_eq_true rfl) ⟨Nat.zero_le _, Nat.zero_le _⟩ dL_swaps_94) h (fun H locs h => ?_)
              refine lv_if_lt (tgt := 104) hx hb dL_swaps_97 (by decide) (fun b_97 => ?_) (fun b_97 => by first | exact absurd (by decide) b_97 | exact absurd b_97 (by decide))
              refine lv_iconst (v := 0) hx hb dL_swaps_104 (by decide) ?_
              refine lv_iadd hx hb dL_swaps_105 ?_
              refine lv_iadd hx hb dL_swaps_106 ?_
              refine lv_istore (lv' := [(7, .int (gnF R a b s1 + (0 + 0))), (0, .ref (gz g + 0)), (1, .int (nI a)), (2, .int (nI b)), (3, .int 0), (4, .int (-100005)), (5, .int (R (5 + 11 * b + 2))), (6, .int (-100005)), (8, .int (vsI R sc)), (9, .int (nI s1))]) hx hb dL_swaps_107 hl (by decide) rfl (fun ls hl => ?_)
              have hl : lv_has ls 10 [(7, .int (gnF R a b (s1 + 1))), (0, .ref (gz g + 0)), (1, .int (nI a)), (2, .int (nI b)), (3, .int 0), (4, .int (-100005)), (5, .int (R (5 + 11 * b + 2))), (6, .int (-100005)), (8, .int (vsI R sc)), (9, .int (nI s1))] := by rw [show (gnF R a b (s1 + 1) : Int32) = (gnF R a b s1 + (0 + 0)) from (show gnF R a b (s1 + 1) = gnF R a b s1 + ((if R (84 + 6 * (4 * s1 + a) + 0) = 0 then 0 else 1) + (if R (84 + 6 * (4 * s1 + b) + 0) = 0 then 0 else 1)) from rfl).trans (by rw [if_pos va, if_pos vb])]; exact hl
              refine lv_iinc (v := nI (s1 + 1)) (lv' := [(9, .int (nI (s1 + 1))), (7, .int (gnF R a b (s1 + 1))), (0, .ref (gz g + 0)), (1, .int (nI a)), (2, .int (nI b)), (3, .int 0), (4, .int (-100005)), (5, .int (R (5 + 11 * b + 2))), (6, .int (-100005)), (8, .int (vsI R sc))]) hx hb dL_swaps_109 hl (k := 9) rfl (by exact (nI_succ s1).symm) (by decide) rfl (fun ls hl => ?_)
              refine lv_goto (tgt := 61) hx hb dL_swaps_112 (by decide) ?_
              exact ih_lg (s1 + 1) (by omega) _ _ _ (by omega) h (lv_sub hl [2, 3, 4, 5, 6, 7, 8, 9, 1, 0] rfl)
            refine lv_iload hx hb dL_swaps_71 (lv_at hl 8 rfl) ?_
            refine lv_aload_n hx hb dL_swaps_73 rfl (lv_at hl 0 rfl) ?_
            refine lv_iload hx hb dL_swaps_74 (lv_at hl 9 rfl) ?_
            refine lv_iload_n hx hb dL_swaps_76 rfl (lv_at hl 1 rfl) ?_
            refine lv_iconst (v := 3) hx hb dL_swaps_77 (by decide) ?_
            refine u_iE (v := (-100005)) (ru_V (As := [.int (nI s1), .int (nI a), .int 3]) (rest := [.int (gnF R a b s1)]) F h hWd.1 rfl (kw_observation l g n c hWd J (nI s1) (nI a) 3 (v := (-100005)) (ob_n J.s4 J.s5 hs5 ha4 va (by decide))) (gV hjl wd_518 wd_519 wd_520 wd_16 wd_521) rfl 3 (by decide +kernel) rfl ⟨Nat.le_of_ble_eq_true rfl, Nat.le_of_ble_eq_true rfl⟩ rfl hl.1 (Nat.le_of_ble_eq_true rfl) ⟨Nat.zero_le _, Nat.zero_le _⟩ dL_swaps_78) h (fun H locs h => ?_)
            refine lv_if_lt (tgt := 88) hx hb dL_swaps_81 (by decide) (fun b_81 => ?_) (fun b_81 => by first | exact absurd (by decide) b_81 | exact absurd b_81 (by decide))
            refine lv_iconst (v := 0) hx hb dL_swaps_88 (by decide) ?_
            refine lv_aload_n hx hb dL_swaps_89 rfl (lv_at hl 0 rfl) ?_
            refine lv_iload hx hb dL_swaps_90 (lv_at hl 9 rfl) ?_
            refine lv_iload_n hx hb dL_swaps_92 rfl (lv_at hl 2 rfl) ?_
            refine lv_iconst (v := 3) hx hb dL_swaps_93 (by decide) ?_
            refine u_iE (v := R (84 + 6 * (4 * s1 + b) + 4)) (ru_V (As := [.int (nI s1), .int (nI b), .int 3]) (rest := [.int 0, .int (gnF R a b s1)]) F h hWd.1 rfl (kw_observation l g n c hWd J (nI s1) (nI b) 3 (v := R (84 + 6 * (4 * s1 + b) + 4)) (ob_3 J.s4 J.s5 hs5 hb4 vb)) (gV hjl wd_518 wd_519 wd_520 wd_16 wd_521) rfl 3 (by decide +kernel) rfl ⟨Nat.le_of_ble_eq_true rfl, Nat.le_of_ble_eq_true rfl⟩ rfl hl.1 (Nat.le_of_ble_eq_true rfl) ⟨Nat.zero_le _, Nat.zero_le _⟩ dL_swaps_94) h (fun H locs h => ?_)
            refine lv_if_lt (tgt := 104) hx hb dL_swaps_97 (by decide) (fun b_97 => by first | exact absurd b_97 (i_nlt (bt_ge (J.v hs5 hb4 (b01_of (J.ob (by omega) hb4) vb)).2.2.1 0 (by decide))) | exact absurd (i_nlt (bt_ge (J.v hs5 hb4 (b01_of (J.ob (by omega) hb4) vb)).2.2.1 0 (by decide))) b_97) (fun b_97 => ?_)
            refine lv_iconst (v := 1) hx hb dL_swaps_100 (by decide) ?_
            refine lv_goto (tgt := 105) hx hb dL_swaps_101 (by decide) ?_
            refine lv_iadd hx hb dL_swaps_105 ?_
            refine lv_iadd hx hb dL_swaps_106 ?_
            refine lv_istore (lv' := [(7, .int (gnF R a b s1 + (0 + 1))), (0, .ref (gz g + 0)), (1, .int (nI a)), (2, .int (nI b)), (3, .int 0), (4, .int (-100005)), (5, .int (R (5 + 11 * b + 2))), (6, .int (-100005)), (8, .int (vsI R sc)), (9, .int (nI s1))]) hx hb dL_swaps_107 hl (by decide) rfl (fun ls hl => ?_)
            have hl : lv_has ls 10 [(7, .int (gnF R a b (s1 + 1))), (0, .ref (gz g + 0)), (1, .int (nI a)), (2, .int (nI b)), (3, .int 0), (4, .int (-100005)), (5, .int (R (5 + 11 * b + 2))), (6, .int (-100005)), (8, .int (vsI R sc)), (9, .int (nI s1))] := by rw [show (gnF R a b (s1 + 1) : Int32) = (gnF R a b s1 + (0 + 1)) from (show gnF R a b (s1 + 1) = gnF R a b s1 + ((if R (84 + 6 * (4 * s1 + a) + 0) = 0 then 0 else 1) + (if R (84 + 6 * (4 * s1 + b) + 0) = 0 then 0 else 1)) from rfl).trans (by rw [if_pos va, if_neg vb])]; exact hl
            refine lv_iinc (v := nI (s1 + 1)) (lv' := [(9, .int (nI (s1 + 1))), (7, .int (gnF R a b (s1 + 1))), (0, .ref (gz g + 0)), (1, .int (nI a)), (2, .int (nI b)), (3, .int 0), (4, .int (-100005)), (5, .int (R (5 + 11 * b + 2))), (6, .int (-100005)), (8, .int (vsI R sc))]) hx hb dL_swaps_109 hl (k := 9) rfl (by exact (nI_succ s1).symm) (by decide) rfl (fun ls hl => ?_)
            refine lv_goto (tgt := 61) hx hb dL_swaps_112 (by decide) ?_
            exact ih_lg (s1 + 1) (by omega) _ _ _ (by omega) h (lv_sub hl [2, 3, 4, 5, 6, 7, 8, 9, 1, 0] rfl)
          by_cases vb : R (84 + 6 * (4 * s1 + b) + 0) = 0
          · skip
            have hs5 : s1 < sc := lp_lt (N := sc) rfl (by omega) (by omega) b_68
            refine lv_iload hx hb dL_swaps_71 (lv_at hl 8 rfl) ?_
            refine lv_aload_n hx hb dL_swaps_73 rfl (lv_at hl 0 rfl) ?_
            refine lv_iload hx hb dL_swaps_74 (lv_at hl 9 rfl) ?_
            refine lv_iload_n hx hb dL_swaps_76 rfl (lv_at hl 1 rfl) ?_
            refine lv_iconst (v := 3) hx hb dL_swaps_77 (by decide) ?_
            refine u_iE (v := R (84 + 6 * (4 * s1 + a) + 4)) (ru_V (As := [.int (nI s1), .int (nI a), .int 3]) (rest := [.int (gnF R a b s1)]) F h hWd.1 rfl (kw_observation l g n c hWd J (nI s1) (nI a) 3 (v := R (84 + 6 * (4 * s1 + a) + 4)) (ob_3 J.s4 J.s5 hs5 ha4 va)) (gV hjl wd_518 wd_519 wd_520 wd_16 wd_521) rfl 3 (by decide +kernel) rfl ⟨Nat.le_of_ble_eq_true rfl, Nat.le_of_ble_eq_true rfl⟩ rfl hl.1 (Nat.le_of_ble_eq_true rfl) ⟨Nat.zero_le _, Nat.zero_le _⟩ dL_swaps_78) h (fun H locs h => ?_)
            refine lv_if_lt (tgt := 88) hx hb dL_swaps_81 (by decide) (fun b_81 => by first | exact absurd b_81 (i_nlt (bt_ge (J.v hs5 ha4 (b01_of (J.ob (by omega) ha4) va)).2.2.1 0 (by decide))) | exact absurd (i_nlt (bt_ge (J.v hs5 ha4 (b01_of (J.ob (by omega) ha4) va)).2.2.1 0 (by decide))) b_81) (fun b_81 => ?_)
            refine lv_iconst (v := 1) hx hb dL_swaps_84 (by decide) ?_
            refine lv_goto (tgt := 89) hx hb dL_swaps_85 (by decide) ?_
            refine lv_aload_n hx hb dL_swaps_89 rfl (lv_at hl 0 rfl) ?_
            refine lv_iload hx hb dL_swaps_90 (lv_at hl 9 rfl) ?_
            refine lv_iload_n hx hb dL_swaps_92 rfl (lv_at hl 2 rfl) ?_
            refine lv_iconst (v := 3) hx hb dL_swaps_93 (by decide) ?_
            refine u_iE (v := (-100005)) (ru_V (As := [.int (nI s1), .int (nI b), .int 3]) (rest := [.int 1, .int (gnF R a b s1)]) F h hWd.1 rfl (kw_observation l g n c hWd J (nI s1) (nI b) 3 (v := (-100005)) (ob_n J.s4 J.s5 hs5 hb4 vb (by decide))) (gV hjl wd_518 wd_519 wd_520 wd_16 wd_521) rfl 3 (by decide +kernel) rfl ⟨Nat.le_of_ble_eq_true rfl, Nat.le_of_ble_eq_true rfl⟩ rfl hl.1 (Nat.le_of_ble_eq_true rfl) ⟨Nat.zero_le _, Nat.zero_le _⟩ dL_swaps_94) h (fun H locs h => ?_)
            refine lv_if_lt (tgt := 104) hx hb dL_swaps_97 (by decide) (fun b_97 => ?_) (fun b_97 => by first | exact absurd (by decide) b_97 | exact absurd b_97 (by decide))
            refine lv_iconst (v := 0) hx hb dL_swaps_104 (by decide) ?_
            refine lv_iadd hx hb dL_swaps_105 ?_
            refine lv_iadd hx hb dL_swaps_106 ?_
            refine lv_istore (lv' := [(7, .int (gnF R a b s1 + (1 + 0))), (0, .ref (gz g + 0)), (1, .int (nI a)), (2, .int (nI b)), (3, .int 0), (4, .int (-100005)), (5, .int (R (5 + 11 * b + 2))), (6, .int (-100005)), (8, .int (vsI R sc)), (9, .int (nI s1))]) hx hb dL_swaps_107 hl (by decide) rfl (fun ls hl => ?_)
            have hl : lv_has ls 10 [(7, .int (gnF R a b (s1 + 1))), (0, .ref (gz g + 0)), (1, .int (nI a)), (2, .int (nI b)), (3, .int 0), (4, .int (-100005)), (5, .int (R (5 + 11 * b + 2))), (6, .int (-100005)), (8, .int (vsI R sc)), (9, .int (nI s1))] := by rw [show (gnF R a b (s1 + 1) : Int32) = (gnF R a b s1 + (1 + 0)) from (show gnF R a b (s1 + 1) = gnF R a b s1 + ((if R (84 + 6 * (4 * s1 + a) + 0) = 0 then 0 else 1) + (if R (84 + 6 * (4 * s1 + b) + 0) = 0 then 0 else 1)) from rfl).trans (by rw [if_neg va, if_pos vb])]; exact hl
            refine lv_iinc (v := nI (s1 + 1)) (lv' := [(9, .int (nI (s1 + 1))), (7, .int (gnF R a b (s1 + 1))), (0, .ref (gz g + 0)), (1, .int (nI a)), (2, .int (nI b)), (3, .int 0), (4, .int (-100005)), (5, .int (R (5 + 11 * b + 2))), (6, .int (-100005)), (8, .int (vsI R sc))]) hx hb dL_swaps_109 hl (k := 9) rfl (by exact (nI_succ s1).symm) (by decide) rfl (fun ls hl => ?_)
            refine lv_goto (tgt := 61) hx hb dL_swaps_112 (by decide) ?_
            exact ih_lg (s1 + 1) (by omega) _ _ _ (by omega) h (lv_sub hl [2, 3, 4, 5, 6, 7, 8, 9, 1, 0] rfl)
          refine lv_iload hx hb dL_swaps_71 (lv_at hl 8 rfl) ?_
          refine lv_aload_n hx hb dL_swaps_73 rfl (lv_at hl 0 rfl) ?_
          refine lv_iload hx hb dL_swaps_74 (lv_at hl 9 rfl) ?_
          refine lv_iload_n hx hb dL_swaps_76 rfl (lv_at hl 1 rfl) ?_
          refine lv_iconst (v := 3) hx hb dL_swaps_77 (by decide) ?_
          refine u_iE (v := R (84 + 6 * (4 * s1 + a) + 4)) (ru_V (As := [.int (nI s1), .int (nI a), .int 3]) (rest := [.int (gnF R a b s1)]) F h hWd.1 rfl (kw_observation l g n c hWd J (nI s1) (nI a) 3 (v := R (84 + 6 * (4 * s1 + a) + 4)) (ob_3 J.s4 J.s5 hs5 ha4 va)) (gV hjl wd_518 wd_519 wd_520 wd_16 wd_521) rfl 3 (by decide +kernel) rfl ⟨Nat.le_of_ble_eq_true rfl, Nat.le_of_ble_eq_true rfl⟩ rfl hl.1 (Nat.le_of_ble_eq_true rfl) ⟨Nat.zero_le _, Nat.zero_le _⟩ dL_swaps_78) h (fun H locs h => ?_)
          refine lv_if_lt (tgt := 88) hx hb dL_swaps_81 (by decide) (fun b_81 => by first | exact absurd b_81 (i_nlt (bt_ge (J.v hs5 ha4 (b01_of (J.ob (by omega) ha4) va)).2.2.1 0 (by decide))) | exact absurd (i_nlt (bt_ge (J.v hs5 ha4 (b01_of (J.ob (by omega) ha4) va)).2.2.1 0 (by decide))) b_81) (fun b_81 => ?_)
          refine lv_iconst (v := 1) hx hb dL_swaps_84 (by decide) ?_
          refine lv_goto (tgt := 89) hx hb dL_swaps_85 (by decide) ?_
          refine lv_aload_n hx hb dL_swaps_89 rfl (lv_at hl 0 rfl) ?_
          refine lv_iload hx hb dL_swaps_90 (lv_at hl 9 rfl) ?_
          refine lv_iload_n hx hb dL_swaps_92 rfl (lv_at hl 2 rfl) ?_
          refine lv_iconst (v := 3) hx hb dL_swaps_93 (by decide) ?_
          refine u_iE (v := R (84 + 6 * (4 * s1 + b) + 4)) (ru_V (As := [.int (nI s1), .int (nI b), .int 3]) (rest := [.int 1, .int (gnF R a b s1)]) F h hWd.1 rfl (kw_observation l g n c hWd J (nI s1) (nI b) 3 (v := R (84 + 6 * (4 * s1 + b) + 4)) (ob_3 J.s4 J.s5 hs5 hb4 vb)) (gV hjl wd_518 wd_519 wd_520 wd_16 wd_521) rfl 3 (by decide +kernel) rfl ⟨Nat.le_of_ble_eq_true rfl, Nat.le_of_ble_eq_true rfl⟩ rfl hl.1 (Nat.le_of_ble_eq_true rfl) ⟨Nat.zero_le _, Nat.zero_le _⟩ dL_swaps_94) h (fun H locs h => ?_)
          refine lv_if_lt (tgt := 104) hx hb dL_swaps_97 (by decide) (fun b_97 => by first | exact absurd b_97 (i_nlt (bt_ge (J.v hs5 hb4 (b01_of (J.ob (by omega) hb4) vb)).2.2.1 0 (by decide))) | exact absurd (i_nlt (bt_ge (J.v hs5 hb4 (b01_of (J.ob (by omega) hb4) vb)).2.2.1 0 (by decide))) b_97) (fun b_97 => ?_)
          refine lv_iconst (v := 1) hx hb dL_swaps_100 (by decide) ?_
          refine lv_goto (tgt := 105) hx hb dL_swaps_101 (by decide) ?_
          refine lv_iadd hx hb dL_swaps_105 ?_
          refine lv_iadd hx hb dL_swaps_106 ?_
          refine lv_istore (lv' := [(7, .int (gnF R a b s1 + (1 + 1))), (0, .ref (gz g + 0)), (1, .int (nI a)), (2, .int (nI b)), (3, .int 0), (4, .int (-100005)), (5, .int (R (5 + 11 * b + 2))), (6, .int (-100005)), (8, .int (vsI R sc)), (9, .int (nI s1))]) hx hb dL_swaps_107 hl (by decide) rfl (fun ls hl => ?_)
          have hl : lv_has ls 10 [(7, .int (gnF R a b (s1 + 1))), (0, .ref (gz g + 0)), (1, .int (nI a)), (2, .int (nI b)), (3, .int 0), (4, .int (-100005)), (5, .int (R (5 + 11 * b + 2))), (6, .int (-100005)), (8, .int (vsI R sc)), (9, .int (nI s1))] := by rw [show (gnF R a b (s1 + 1) : Int32) = (gnF R a b s1 + (1 + 1)) from (show gnF R a b (s1 + 1) = gnF R a b s1 + ((if R (84 + 6 * (4 * s1 + a) + 0) = 0 then 0 else 1) + (if R (84 + 6 * (4 * s1 + b) + 0) = 0 then 0 else 1)) from rfl).trans (by rw [if_neg va, if_neg vb])]; exact hl
          refine lv_iinc (v := nI (s1 + 1)) (lv' := [(9, .int (nI (s1 + 1))), (7, .int (gnF R a b (s1 + 1))), (0, .ref (gz g + 0)), (1, .int (nI a)), (2, .int (nI b)), (3, .int 0), (4, .int (-100005)), (5, .int (R (5 + 11 * b + 2))), (6, .int (-100005)), (8, .int (vsI R sc))]) hx hb dL_swaps_109 hl (k := 9) rfl (by exact (nI_succ s1).symm) (by decide) rfl (fun ls hl => ?_)
          refine lv_goto (tgt := 61) hx hb dL_swaps_112 (by decide) ?_
          exact ih_lg (s1 + 1) (by omega) _ _ _ (by omega) h (lv_sub hl [2, 3, 4, 5, 6, 7, 8, 9, 1, 0] rfl)
      exact lg _ 0 (Nat.zero_le _) _ _ _ (Nat.le_refl _) h (lv_sub hl [7, 8, 9, 6, 5, 4, 3, 1, 2, 0] rfl)
    have h2 := b01_of (J.b hb4) nb
    refine lv_aload_n hx hb dL_swaps_0 rfl (lv_at hl 0 rfl) ?_
    refine lv_iload_n hx hb dL_swaps_1 rfl (lv_at hl 1 rfl) ?_
    refine lv_iconst (v := 2) hx hb dL_swaps_2 (by decide) ?_
    refine u_iE (v := (-100005)) (ru_V (As := [.int (nI a), .int 2]) (rest := []) F h hWd.1 rfl (kw_wire l g n c hWd J (nI a) 2 (v := (-100005)) (wi_n ha4 na (by decide))) (gV hjl wd_390 wd_391 wd_392 wd_16 wd_393) rfl 2 (by decide +kernel) rfl ⟨Nat.le_of_ble_eq_true rfl, Nat.le_of_ble_eq_true rfl⟩ rfl hl.1 (Nat.le_of_ble_eq_true rfl) ⟨Nat.zero_le _, Nat.zero_le _⟩ dL_swaps_3) h (fun H locs h => ?_)
    refine lv_if_le (tgt := 22) hx hb dL_swaps_6 (by decide) (fun b_6 => ?_) (fun b_6 => by first | exact absurd (by decide) b_6 | exact absurd b_6 (by decide))
    refine lv_iconst (v := 0) hx hb dL_swaps_22 (by decide) ?_
    refine lv_istore_n (lv' := [(3, .int 0), (0, .ref (gz g + 0)), (1, .int (nI a)), (2, .int (nI b))]) hx hb dL_swaps_23 rfl hl (by decide) rfl (fun ls hl => ?_)
    refine lv_aload_n hx hb dL_swaps_24 rfl (lv_at hl 1 rfl) ?_
    refine lv_iload_n hx hb dL_swaps_25 rfl (lv_at hl 2 rfl) ?_
    refine lv_iconst (v := 0) hx hb dL_swaps_26 (by decide) ?_
    refine u_iE (v := (-100005)) (ru_V (As := [.int (nI a), .int 0]) (rest := []) F h hWd.1 rfl (kw_wire l g n c hWd J (nI a) 0 (v := (-100005)) (wi_n ha4 na (by decide))) (gV hjl wd_390 wd_391 wd_392 wd_16 wd_393) rfl 2 (by decide +kernel) rfl ⟨Nat.le_of_ble_eq_true rfl, Nat.le_of_ble_eq_true rfl⟩ rfl hl.1 (Nat.le_of_ble_eq_true rfl) ⟨Nat.zero_le _, Nat.zero_le _⟩ dL_swaps_27) h (fun H locs h => ?_)
    refine lv_istore (lv' := [(4, .int (-100005)), (3, .int 0), (0, .ref (gz g + 0)), (1, .int (nI a)), (2, .int (nI b))]) hx hb dL_swaps_30 hl (by decide) rfl (fun ls hl => ?_)
    refine lv_aload_n hx hb dL_swaps_32 rfl (lv_at hl 2 rfl) ?_
    refine lv_iload_n hx hb dL_swaps_33 rfl (lv_at hl 4 rfl) ?_
    refine lv_iconst (v := 1) hx hb dL_swaps_34 (by decide) ?_
    refine u_iE (v := R (5 + 11 * b + 2)) (ru_V (As := [.int (nI b), .int 1]) (rest := []) F h hWd.1 rfl (kw_wire l g n c hWd J (nI b) 1 (v := R (5 + 11 * b + 2)) (wi_1 hb4 (b01_of (J.b hb4) nb))) (gV hjl wd_390 wd_391 wd_392 wd_16 wd_393) rfl 2 (by decide +kernel) rfl ⟨Nat.le_of_ble_eq_true rfl, Nat.le_of_ble_eq_true rfl⟩ rfl hl.1 (Nat.le_of_ble_eq_true rfl) ⟨Nat.zero_le _, Nat.zero_le _⟩ dL_swaps_35) h (fun H locs h => ?_)
    refine lv_istore (lv' := [(5, .int (R (5 + 11 * b + 2))), (4, .int (-100005)), (3, .int 0), (0, .ref (gz g + 0)), (1, .int (nI a)), (2, .int (nI b))]) hx hb dL_swaps_38 hl (by decide) rfl (fun ls hl => ?_)
    refine lv_aload_n hx hb dL_swaps_40 rfl (lv_at hl 3 rfl) ?_
    refine lv_iload_n hx hb dL_swaps_41 rfl (lv_at hl 4 rfl) ?_
    refine lv_iconst (v := 2) hx hb dL_swaps_42 (by decide) ?_
    refine u_iE (v := (-100005)) (ru_V (As := [.int (nI a), .int 2]) (rest := []) F h hWd.1 rfl (kw_wire l g n c hWd J (nI a) 2 (v := (-100005)) (wi_n ha4 na (by decide))) (gV hjl wd_390 wd_391 wd_392 wd_16 wd_393) rfl 2 (by decide +kernel) rfl ⟨Nat.le_of_ble_eq_true rfl, Nat.le_of_ble_eq_true rfl⟩ rfl hl.1 (Nat.le_of_ble_eq_true rfl) ⟨Nat.zero_le _, Nat.zero_le _⟩ dL_swaps_43) h (fun H locs h => ?_)
    refine lv_istore (lv' := [(6, .int (-100005)), (5, .int (R (5 + 11 * b + 2))), (4, .int (-100005)), (3, .int 0), (0, .ref (gz g + 0)), (1, .int (nI a)), (2, .int (nI b))]) hx hb dL_swaps_46 hl (by decide) rfl (fun ls hl => ?_)
    refine lv_iconst (v := 0) hx hb dL_swaps_48 (by decide) ?_
    refine lv_istore (lv' := [(7, .int 0), (6, .int (-100005)), (5, .int (R (5 + 11 * b + 2))), (4, .int (-100005)), (3, .int 0), (0, .ref (gz g + 0)), (1, .int (nI a)), (2, .int (nI b))]) hx hb dL_swaps_49 hl (by decide) rfl (fun ls hl => ?_)
    refine lv_aload_n hx hb dL_swaps_51 rfl (lv_at hl 5 rfl) ?_
    refine lv_iconst (v := 5) hx hb dL_swaps_52 (by decide) ?_
    refine u_iE (v := vsI R sc) (ru_V (As := [.int 5]) (rest := []) F h hWd.1 rfl (kw_count l g n c hWd J 5 (v := vsI R sc) (rfl)) (gV hjl wd_399 wd_400 wd_401 wd_16 wd_402) rfl 1 (by decide +kernel) rfl ⟨Nat.le_of_ble_eq_true rfl, Nat.le_of_ble_eq_true rfl⟩ rfl hl.1 (Nat.le_of_ble_eq_true rfl) ⟨Nat.zero_le _, Nat.zero_le _⟩ dL_swaps_53) h (fun H locs h => ?_)
    refine lv_istore (lv' := [(8, .int (vsI R sc)), (7, .int 0), (6, .int (-100005)), (5, .int (R (5 + 11 * b + 2))), (4, .int (-100005)), (3, .int 0), (0, .ref (gz g + 0)), (1, .int (nI a)), (2, .int (nI b))]) hx hb dL_swaps_56 hl (by decide) rfl (fun ls hl => ?_)
    refine lv_iconst (v := 0) hx hb dL_swaps_58 (by decide) ?_
    refine lv_istore (lv' := [(9, .int 0), (8, .int (vsI R sc)), (7, .int 0), (6, .int (-100005)), (5, .int (R (5 + 11 * b + 2))), (4, .int (-100005)), (3, .int 0), (0, .ref (gz g + 0)), (1, .int (nI a)), (2, .int (nI b))]) hx hb dL_swaps_59 hl (by decide) rfl (fun ls hl => ?_)
    have lg : ∀ (k : Nat) (s1 : Nat) (hs : s1 ≤ sc) (H : Heap) (locs : List Loc) (ls : Array Slot), (6 - s1) ≤ k → Hv g s H locs n c → lv_has ls 10 [(0, .ref (gz g + 0)), (1, .int (nI a)), (2, .int (nI b)), (3, .int 0), (4, .int (-100005)), (5, .int (R (5 + 11 * b + 2))), (6, .int (-100005)), (8, .int (vsI R sc)), (7, .int (gnF R a b s1)), (9, .int (nI s1))] → W p l e (Rm 5 109 0 0) s m args below meth c0 H locs 0 0 (MQ below (Qi g (fun xr n' c' => xr = 1 ∧ n ≤ n' ∧ ∃ (lh' : Nat) (rs' : Int32) (R' : Nat → Int32) (hq' : Nat → Nat → Int32), Wd g c' lh' rs' R' hq' ∧ Jv R' sc cn tb)) args s 0 0 (mAf g)) (F0 m 61 ls []) := by
      intro k_lg
      induction k_lg with
      | zero => intro s1 hs H locs ls hk h hl; exact absurd hk (by omega)
      | succ k_lg ih_lg =>
        intro s1 hs H locs ls hk_lg h hl
        refine lv_iload hx hb dL_swaps_61 (lv_at hl 9 rfl) ?_
        refine lv_aload_n hx hb dL_swaps_63 rfl (lv_at hl 0 rfl) ?_
        refine lv_iconst (v := 3) hx hb dL_swaps_64 (by decide) ?_
        refine u_iE (v := nI sc) (ru_V (As := [.int 3]) (rest := [.int (nI s1)]) F h hWd.1 rfl (kw_count l g n c hWd J 3 (v := nI sc) (J.s4)) (gV hjl wd_399 wd_400 wd_401 wd_16 wd_402) rfl 1 (by decide +kernel) rfl ⟨Nat.le_of_ble_eq_true rfl, Nat.le_of_ble_eq_true rfl⟩ rfl hl.1 (Nat.le_of_ble_eq_true rfl) ⟨Nat.zero_le _, Nat.zero_le _⟩ dL_swaps_65) h (fun H locs h => ?_)
        refine lv_icmp_ge (tgt := 115) hx hb dL_swaps_68 (by decide) (fun b_68 => ?_) (fun b_68 => ?_)
        · skip
          have e5 : s1 = sc := by have := lp_ge (N := sc) rfl (by omega) (by omega) b_68; omega
          have hl : lv_has ls 10 [(0, .ref (gz g + 0)), (1, .int (nI a)), (2, .int (nI b)), (3, .int 0), (4, .int (-100005)), (5, .int (R (5 + 11 * b + 2))), (6, .int (-100005)), (8, .int (vsI R sc)), (7, .int (gnF R a b sc)), (9, .int (nI s1))] := by rw [show (gnF R a b sc : Int32) = gnF R a b s1 from by rw [e5]]; exact hl
          refine lv_aload_n hx hb dL_swaps_115 rfl (lv_at hl 0 rfl) ?_
          refine lv_iload_n hx hb dL_swaps_116 rfl (lv_at hl 1 rfl) ?_
          refine lv_iload_n hx hb dL_swaps_117 rfl (lv_at hl 2 rfl) ?_
          have hWua4 : Wd g c lh rs R hq := hWd
          refine u_i (ru_V (As := [.int (nI a), .int (nI b)]) (rest := []) F h hWd.1 rfl (k_X7_swap l g n c lh 0 rs hWua4.1 R hWua4.2.1 hWua4.2.2.2.2 hq hWua4.2.2.1 J.wb (nI a) (nI b) sc sc J.s4 J.s5) (gV hjl wd_676 wd_677 wd_678 wd_16 wd_679) rfl 2 (by decide +kernel) rfl ⟨Nat.le_of_ble_eq_true rfl, Nat.le_of_ble_eq_true rfl⟩ rfl hl.1 (Nat.le_of_ble_eq_true rfl) ⟨Nat.zero_le _, Nat.zero_le _⟩ dL_swaps_118) h (fun ra4 na4 ca4 H locs hp h => ?_)
          obtain ⟨hna4, hxa4, hWa4, hFa4⟩ := paW hp hWua4 (by omega) (sw_nh ha4 hb4 hab (Or.inl na)) (hWua4).2.2.2.2
          subst hxa4
          refine lv_istore (lv' := [(9, .int (-100003)), (0, .ref (gz g + 0)), (1, .int (nI a)), (2, .int (nI b)), (3, .int 0), (4, .int (-100005)), (5, .int (R (5 + 11 * b + 2))), (6, .int (-100005)), (8, .int (vsI R sc)), (7, .int (gnF R a b sc))]) hx hb dL_swaps_121 hl (by decide) rfl (fun ls hl => ?_)
          refine lv_iload_n hx hb dL_swaps_123 rfl (lv_at hl 2 rfl) ?_
          refine lv_iload_n hx hb dL_swaps_124 rfl (lv_at hl 3 rfl) ?_
          refine lv_icmp_eq (tgt := 132) hx hb dL_swaps_125 (by decide) (fun b_125 => by first | exact absurd b_125 (fun z => hab ((nI_eq (by omega) (by omega)).mp z)) | exact absurd (fun z => hab ((nI_eq (by omega) (by omega)).mp z)) b_125) (fun b_125 => ?_)
          refine lv_iload_n hx hb dL_swaps_128 rfl (lv_at hl 4 rfl) ?_
          refine lv_if_ne (tgt := 165) hx hb dL_swaps_129 (by decide) (fun b_129 => by first | exact absurd b_129 (by decide) | exact absurd (by decide) b_129) (fun b_129 => ?_)
          refine lv_iload hx hb dL_swaps_132 (lv_at hl 0 rfl) ?_
          refine lv_iload_n hx hb dL_swaps_134 rfl (lv_at hl 2 rfl) ?_
          refine lv_iload_n hx hb dL_swaps_135 rfl (lv_at hl 3 rfl) ?_
          refine lv_icmp_ne (tgt := 144) hx hb dL_swaps_136 (by decide) (fun b_136 => ?_) (fun b_136 => by first | exact absurd (fun z => hab ((nI_eq (by omega) (by omega)).mp z)) b_136 | exact absurd b_136 (fun z => hab ((nI_eq (by omega) (by omega)).mp z)))
          refine lv_ldc (v := (-100003)) hx hb F.2.2.2.1 (F.2.2.2.2.1 (Cond.constant RL 74 (-100003)) (List.mem_cons_of_mem _ wd_660)) dL_swaps_144 ?_
          refine lv_icmp_ne (tgt := 163) hx hb dL_swaps_146 (by decide) (fun b_146 => by first | exact absurd b_146 (by decide) | exact absurd (by decide) b_146) (fun b_146 => ?_)
          refine lv_aload_n hx hb dL_swaps_149 rfl (lv_at hl 1 rfl) ?_
          refine lv_iconst (v := 5) hx hb dL_swaps_150 (by decide) ?_
          refine u_iE (v := vsI R sc) (ru_V (As := [.int 5]) (rest := []) F h hWa4.1 rfl (kw_count l g na4 ca4 hWa4 J 5 (v := vsI R sc) (rfl)) (gV hjl wd_399 wd_400 wd_401 wd_16 wd_402) rfl 1 (by decide +kernel) rfl ⟨Nat.le_of_ble_eq_true rfl, Nat.le_of_ble_eq_true rfl⟩ rfl hl.1 (Nat.le_of_ble_eq_true rfl) ⟨Nat.zero_le _, Nat.zero_le _⟩ dL_swaps_151) h (fun H locs h => ?_)
          refine lv_iload hx hb dL_swaps_154 (lv_at hl 8 rfl) ?_
          refine lv_icmp_ne (tgt := 163) hx hb dL_swaps_156 (by decide) (fun b_156 => by first | exact absurd b_156 (rfl) | exact absurd (rfl) b_156) (fun b_156 => ?_)
          refine lv_iconst (v := 1) hx hb dL_swaps_159 (by decide) ?_
          refine lv_goto (tgt := 164) hx hb dL_swaps_160 (by decide) ?_
          exact ret_z F h (by decide) (Nat.zero_le _) (Nat.zero_le _) dL_swaps_164 (⟨rfl, by omega, _, _, _, _, hWa4, J⟩)
        have hs5 : s1 < sc := lp_lt (N := sc) rfl (by omega) (by omega) b_68
        by_cases va : R (84 + 6 * (4 * s1 + a) + 0) = 0
        · skip
          have hs5 : s1 < sc := lp_lt (N := sc) rfl (by omega) (by omega) b_68
          by_cases vb : R (84 + 6 * (4 * s1 + b) + 0) = 0
          · skip
            have hs5 : s1 < sc := lp_lt (N := sc) rfl (by omega) (by omega) b_68
            refine lv_iload hx hb dL_swaps_71 (lv_at hl 8 rfl) ?_
            refine lv_aload_n hx hb dL_swaps_73 rfl (lv_at hl 0 rfl) ?_
            refine lv_iload hx hb dL_swaps_74 (lv_at hl 9 rfl) ?_
            refine lv_iload_n hx hb dL_swaps_76 rfl (lv_at hl 1 rfl) ?_
            refine lv_iconst (v := 3) hx hb dL_swaps_77 (by decide) ?_
            refine u_iE (v := (-100005)) (ru_V (As := [.int (nI s1), .int (nI a), .int 3]) (rest := [.int (gnF R a b s1)]) F h hWd.1 rfl (kw_observation l g n c hWd J (nI s1) (nI a) 3 (v := (-100005)) (ob_n J.s4 J.s5 hs5 ha4 va (by decide))) (gV hjl wd_518 wd_519 wd_520 wd_16 wd_521) rfl 3 (by decide +kernel) rfl ⟨Nat.le_of_ble_eq_true rfl, Nat.le_of_ble_eq_true rfl⟩ rfl hl.1 (Nat.le_of_ble_eq_true rfl) ⟨Nat.zero_le _, Nat.zero_le _⟩ dL_swaps_78) h (fun H locs h => ?_)
            refine lv_if_lt (tgt := 88) hx hb dL_swaps_81 (by decide) (fun b_81 => ?_) (fun b_81 => by first | exact absurd (by decide) b_81 | exact absurd b_81 (by decide))
            refine lv_iconst (v := 0) hx hb dL_swaps_88 (by decide) ?_
            refine lv_aload_n hx hb dL_swaps_89 rfl (lv_at hl 0 rfl) ?_
            refine lv_iload hx hb dL_swaps_90 (lv_at hl 9 rfl) ?_
            refine lv_iload_n hx hb dL_swaps_92 rfl (lv_at hl 2 rfl) ?_
            refine lv_iconst (v := 3) hx hb dL_swaps_93 (by decide) ?_
            refine u_iE (v := (-100005)) (ru_V (As := [.int (nI s1), .int (nI b), .int 3]) (rest := [.int 0, .int (gnF R a b s1)]) F h hWd.1 rfl (kw_observation l g n c hWd J (nI s1) (nI b) 3 (v := (-100005)) (ob_n J.s4 J.s5 hs5 hb4 vb (by decide))) (gV hjl wd_518 wd_519 wd_520 wd_16 wd_521) rfl 3 (by decide +kernel) rfl ⟨Nat.le_of_ble_eq_true rfl, Nat.le_of_ble_eq_true rfl⟩ rfl hl.1 (Nat.le_of_ble_eq_true rfl) ⟨Nat.zero_le _, Nat.zero_le _⟩ dL_swaps_94) h (fun H locs h => ?_)
            refine lv_if_lt (tgt := 104) hx hb dL_swaps_97 (by decide) (fun b_97 => ?_) (fun b_97 => by first | exact absurd (by decide) b_97 | exact absurd b_97 (by decide))
            refine lv_iconst (v := 0) hx hb dL_swaps_104 (by decide) ?_
            refine lv_iadd hx hb dL_swaps_105 ?_
            refine lv_iadd hx hb dL_swaps_106 ?_
            refine lv_istore (lv' := [(7, .int (gnF R a b s1 + (0 + 0))), (0, .ref (gz g + 0)), (1, .int (nI a)), (2, .int (nI b)), (3, .int 0), (4, .int (-100005)), (5, .int (R (5 + 11 * b + 2))), (6, .int (-100005)), (8, .int (vsI R sc)), (9, .int (nI s1))]) hx hb dL_swaps_107 hl (by decide) rfl (fun ls hl => ?_)
            have hl : lv_has ls 10 [(7, .int (gnF R a b (s1 + 1))), (0, .ref (gz g + 0)), (1, .int (nI a)), (2, .int (nI b)), (3, .int 0), (4, .int (-100005)), (5, .int (R (5 + 11 * b + 2))), (6, .int (-100005)), (8, .int (vsI R sc)), (9, .int (nI s1))] := by rw [show (gnF R a b (s1 + 1) : Int32) = (gnF R a b s1 + (0 + 0)) from (show gnF R a b (s1 + 1) = gnF R a b s1 + ((if R (84 + 6 * (4 * s1 + a) + 0) = 0 then 0 else 1) + (if R (84 + 6 * (4 * s1 + b) + 0) = 0 then 0 else 1)) from rfl).trans (by rw [if_pos va, if_pos vb])]; exact hl
            refine lv_iinc (v := nI (s1 + 1)) (lv' := [(9, .int (nI (s1 + 1))), (7, .int (gnF R a b (s1 + 1))), (0, .ref (gz g + 0)), (1, .int (nI a)), (2, .int (nI b)), (3, .int 0), (4, .int (-100005)), (5, .int (R (5 + 11 * b + 2))), (6, .int (-100005)), (8, .int (vsI R sc))]) hx hb dL_swaps_109 hl (k := 9) rfl (by exact (nI_succ s1).symm) (by decide) rfl (fun ls hl => ?_)
            refine lv_goto (tgt := 61) hx hb dL_swaps_112 (by decide) ?_
            exact ih_lg (s1 + 1) (by omega) _ _ _ (by omega) h (lv_sub hl [2, 3, 4, 5, 6, 7, 8, 9, 1, 0] rfl)
          refine lv_iload hx hb dL_swaps_71 (lv_at hl 8 rfl) ?_
          refine lv_aload_n hx hb dL_swaps_73 rfl (lv_at hl 0 rfl) ?_
          refine lv_iload hx hb dL_swaps_74 (lv_at hl 9 rfl) ?_
          refine lv_iload_n hx hb dL_swaps_76 rfl (lv_at hl 1 rfl) ?_
          refine lv_iconst (v := 3) hx hb dL_swaps_77 (by decide) ?_
          refine u_iE (v := (-100005)) (ru_V (As := [.int (nI s1), .int (nI a), .int 3]) (rest := [.int (gnF R a b s1)]) F h hWd.1 rfl (kw_observation l g n c hWd J (nI s1) (nI a) 3 (v := (-100005)) (ob_n J.s4 J.s5 hs5 ha4 va (by decide))) (gV hjl wd_518 wd_519 wd_520 wd_16 wd_521) rfl 3 (by decide +kernel) rfl ⟨Nat.le_of_ble_eq_true rfl, Nat.le_of_ble_eq_true rfl⟩ rfl hl.1 (Nat.le_of_ble_eq_true rfl) ⟨Nat.zero_le _, Nat.zero_le _⟩ dL_swaps_78) h (fun H locs h => ?_)
          refine lv_if_lt (tgt := 88) hx hb dL_swaps_81 (by decide) (fun b_81 => ?_) (fun b_81 => by first | exact absurd (by decide) b_81 | exact absurd b_81 (by decide))
          refine lv_iconst (v := 0) hx hb dL_swaps_88 (by decide) ?_
          refine lv_aload_n hx hb dL_swaps_89 rfl (lv_at hl 0 rfl) ?_
          refine lv_iload hx hb dL_swaps_90 (lv_at hl 9 rfl) ?_
          refine lv_iload_n hx hb dL_swaps_92 rfl (lv_at hl 2 rfl) ?_
          refine lv_iconst (v := 3) hx hb dL_swaps_93 (by decide) ?_
          refine u_iE (v := R (84 + 6 * (4 * s1 + b) + 4)) (ru_V (As := [.int (nI s1), .int (nI b), .int 3]) (rest := [.int 0, .int (gnF R a b s1)]) F h hWd.1 rfl (kw_observation l g n c hWd J (nI s1) (nI b) 3 (v := R (84 + 6 * (4 * s1 + b) + 4)) (ob_3 J.s4 J.s5 hs5 hb4 vb)) (gV hjl wd_518 wd_519 wd_520 wd_16 wd_521) rfl 3 (by decide +kernel) rfl ⟨Nat.le_of_ble_eq_true rfl, Nat.le_of_ble_eq_true rfl⟩ rfl hl.1 (Nat.le_of_ble_eq_true rfl) ⟨Nat.zero_le _, Nat.zero_le _⟩ dL_swaps_94) h (fun H locs h => ?_)
          refine lv_if_lt (tgt := 104) hx hb dL_swaps_97 (by decide) (fun b_97 => by first | exact absurd b_97 (i_nlt (bt_ge (J.v hs5 hb4 (b01_of (J.ob (by omega) hb4) vb)).2.2.1 0 (by decide))) | exact absurd (i_nlt (bt_ge (J.v hs5 hb4 (b01_of (J.ob (by omega) hb4) vb)).2.2.1 0 (by decide))) b_97) (fun b_97 => ?_)
          refine lv_iconst (v := 1) hx hb dL_swaps_100 (by decide) ?_
          refine lv_goto (tgt := 105) hx hb dL_swaps_101 (by decide) ?_
          refine lv_iadd hx hb dL_swaps_105 ?_
          refine lv_iadd hx hb dL_swaps_106 ?_
          refine lv_istore (lv' := [(7, .int (gnF R a b s1 + (0 + 1))), (0, .ref (gz g + 0)), (1, .int (nI a)), (2, .int (nI b)), (3, .int 0), (4, .int (-100005)), (5, .int (R (5 + 11 * b + 2))), (6, .int (-100005)), (8, .int (vsI R sc)), (9, .int (nI s1))]) hx hb dL_swaps_107 hl (by decide) rfl (fun ls hl => ?_)
          have hl : lv_has ls 10 [(7, .int (gnF R a b (s1 + 1))), (0, .ref (gz g + 0)), (1, .int (nI a)), (2, .int (nI b)), (3, .int 0), (4, .int (-100005)), (5, .int (R (5 + 11 * b + 2))), (6, .int (-100005)), (8, .int (vsI R sc)), (9, .int (nI s1))] := by rw [show (gnF R a b (s1 + 1) : Int32) = (gnF R a b s1 + (0 + 1)) from (show gnF R a b (s1 + 1) = gnF R a b s1 + ((if R (84 + 6 * (4 * s1 + a) + 0) = 0 then 0 else 1) + (if R (84 + 6 * (4 * s1 + b) + 0) = 0 then 0 else 1)) from rfl).trans (by rw [if_pos va, if_neg vb])]; exact hl
          refine lv_iinc (v := nI (s1 + 1)) (lv' := [(9, .int (nI (s1 + 1))), (7, .int (gnF R a b (s1 + 1))), (0, .ref (gz g + 0)), (1, .int (nI a)), (2, .int (nI b)), (3, .int 0), (4, .int (-100005)), (5, .int (R (5 + 11 * b + 2))), (6, .int (-100005)), (8, .int (vsI R sc))]) hx hb dL_swaps_109 hl (k := 9) rfl (by exact (nI_succ s1).symm) (by decide) rfl (fun ls hl => ?_)
          refine lv_goto (tgt := 61) hx hb dL_swaps_112 (by decide) ?_
          exact ih_lg (s1 + 1) (by omega) _ _ _ (by omega) h (lv_sub hl [2, 3, 4, 5, 6, 7, 8, 9, 1, 0] rfl)
        by_cases vb : R (84 + 6 * (4 * s1 + b) + 0) = 0
        · skip
          have hs5 : s1 < sc := lp_lt (N := sc) rfl (by omega) (by omega) b_68
          refine lv_iload hx hb dL_swaps_71 (lv_at hl 8 rfl) ?_
          refine lv_aload_n hx hb dL_swaps_73 rfl (lv_at hl 0 rfl) ?_
          refine lv_iload hx hb dL_swaps_74 (lv_at hl 9 rfl) ?_
          refine lv_iload_n hx hb dL_swaps_76 rfl (lv_at hl 1 rfl) ?_
          refine lv_iconst (v := 3) hx hb dL_swaps_77 (by decide) ?_
          refine u_iE (v := R (84 + 6 * (4 * s1 + a) + 4)) (ru_V (As := [.int (nI s1), .int (nI a), .int 3]) (rest := [.int (gnF R a b s1)]) F h hWd.1 rfl (kw_observation l g n c hWd J (nI s1) (nI a) 3 (v := R (84 + 6 * (4 * s1 + a) + 4)) (ob_3 J.s4 J.s5 hs5 ha4 va)) (gV hjl wd_518 wd_519 wd_520 wd_16 wd_521) rfl 3 (by decide +kernel) rfl ⟨Nat.le_of_ble_eq_true rfl, Nat.le_of_ble_eq_true rfl⟩ rfl hl.1 (Nat.le_of_ble_eq_true rfl) ⟨Nat.zero_le _, Nat.zero_le _⟩ dL_swaps_78) h (fun H locs h => ?_)
          refine lv_if_lt (tgt := 88) hx hb dL_swaps_81 (by decide) (fun b_81 => by first | exact absurd b_81 (i_nlt (bt_ge (J.v hs5 ha4 (b01_of (J.ob (by omega) ha4) va)).2.2.1 0 (by decide))) | exact absurd (i_nlt (bt_ge (J.v hs5 ha4 (b01_of (J.ob (by omega) ha4) va)).2.2.1 0 (by decide))) b_81) (fun b_81 => ?_)
          refine lv_iconst (v := 1) hx hb dL_swaps_84 (by decide) ?_
          refine lv_goto (tgt := 89) hx hb dL_swaps_85 (by decide) ?_
          refine lv_aload_n hx hb dL_swaps_89 rfl (lv_at hl 0 rfl) ?_
          refine lv_iload hx hb dL_swaps_90 (lv_at hl 9 rfl) ?_
          refine lv_iload_n hx hb dL_swaps_92 rfl (lv_at hl 2 rfl) ?_
          refine lv_iconst (v := 3) hx hb dL_swaps_93 (by decide) ?_
          refine u_iE (v := (-100005)) (ru_V (As := [.int (nI s1), .int (nI b), .int 3]) (rest := [.int 1, .int (gnF R a b s1)]) F h hWd.1 rfl (kw_observation l g n c hWd J (nI s1) (nI b) 3 (v := (-100005)) (ob_n J.s4 J.s5 hs5 hb4 vb (by decide))) (gV hjl wd_518 wd_519 wd_520 wd_16 wd_521) rfl 3 (by decide +kernel) rfl ⟨Nat.le_of_ble_eq_true rfl, Nat.le_of_ble_eq_true rfl⟩ rfl hl.1 (Nat.le_of_ble_eq_true rfl) ⟨Nat.zero_le _, Nat.zero_le _⟩ dL_swaps_94) h (fun H locs h => ?_)
          refine lv_if_lt (tgt := 104) hx hb dL_swaps_97 (by decide) (fun b_97 => ?_) (fun b_97 => by first | exact absurd (by decide) b_97 | exact absurd b_97 (by decide))
          refine lv_iconst (v := 0) hx hb dL_swaps_104 (by decide) ?_
          refine lv_iadd hx hb dL_swaps_105 ?_
          refine lv_iadd hx hb dL_swaps_106 ?_
          refine lv_istore (lv' := [(7, .int (gnF R a b s1 + (1 + 0))), (0, .ref (gz g + 0)), (1, .int (nI a)), (2, .int (nI b)), (3, .int 0), (4, .int (-100005)), (5, .int (R (5 + 11 * b + 2))), (6, .int (-100005)), (8, .int (vsI R sc)), (9, .int (nI s1))]) hx hb dL_swaps_107 hl (by decide) rfl (fun ls hl => ?_)
          have hl : lv_has ls 10 [(7, .int (gnF R a b (s1 + 1))), (0, .ref (gz g + 0)), (1, .int (nI a)), (2, .int (nI b)), (3, .int 0), (4, .int (-100005)), (5, .int (R (5 + 11 * b + 2))), (6, .int (-100005)), (8, .int (vsI R sc)), (9, .int (nI s1))] := by rw [show (gnF R a b (s1 + 1) : Int32) = (gnF R a b s1 + (1 + 0)) from (show gnF R a b (s1 + 1) = gnF R a b s1 + ((if R (84 + 6 * (4 * s1 + a) + 0) = 0 then 0 else 1) + (if R (84 + 6 * (4 * s1 + b) + 0) = 0 then 0 else 1)) from rfl).trans (by rw [if_neg va, if_pos vb])]; exact hl
          refine lv_iinc (v := nI (s1 + 1)) (lv' := [(9, .int (nI (s1 + 1))), (7, .int (gnF R a b (s1 + 1))), (0, .ref (gz g + 0)), (1, .int (nI a)), (2, .int (nI b)), (3, .int 0), (4, .int (-100005)), (5, .int (R (5 + 11 * b + 2))), (6, .int (-100005)), (8, .int (vsI R sc))]) hx hb dL_swaps_109 hl (k := 9) rfl (by exact (nI_succ s1).symm) (by decide) rfl (fun ls hl => ?_)
          refine lv_goto (tgt := 61) hx hb dL_swaps_112 (by decide) ?_
          exact ih_lg (s1 + 1) (by omega) _ _ _ (by omega) h (lv_sub hl [2, 3, 4, 5, 6, 7, 8, 9, 1, 0] rfl)
        refine lv_iload hx hb dL_swaps_71 (lv_at hl 8 rfl) ?_
        refine lv_aload_n hx hb dL_swaps_73 rfl (lv_at hl 0 rfl) ?_
        refine lv_iload hx hb dL_swaps_74 (lv_at hl 9 rfl) ?_
        refine lv_iload_n hx hb dL_swaps_76 rfl (lv_at hl 1 rfl) ?_
        refine lv_iconst (v := 3) hx hb dL_swaps_77 (by decide) ?_
        refine u_iE (v := R (84 + 6 * (4 * s1 + a) + 4)) (ru_V (As := [.int (nI s1), .int (nI a), .int 3]) (rest := [.int (gnF R a b s1)]) F h hWd.1 rfl (kw_observation l g n c hWd J (nI s1) (nI a) 3 (v := R (84 + 6 * (4 * s1 + a) + 4)) (ob_3 J.s4 J.s5 hs5 ha4 va)) (gV hjl wd_518 wd_519 wd_520 wd_16 wd_521) rfl 3 (by decide +kernel) rfl ⟨Nat.le_of_ble_eq_true rfl, Nat.le_of_ble_eq_true rfl⟩ rfl hl.1 (Nat.le_of_ble_eq_true rfl) ⟨Nat.zero_le _, Nat.zero_le _⟩ dL_swaps_78) h (fun H locs h => ?_)
        refine lv_if_lt (tgt := 88) hx hb dL_swaps_81 (by decide) (fun b_81 => by first | exact absurd b_81 (i_nlt (bt_ge (J.v hs5 ha4 (b01_of (J.ob (by omega) ha4) va)).2.2.1 0 (by decide))) | exact absurd (i_nlt (bt_ge (J.v hs5 ha4 (b01_of (J.ob (by omega) ha4) va)).2.2.1 0 (by decide))) b_81) (fun b_81 => ?_)
        refine lv_iconst (v := 1) hx hb dL_swaps_84 (by decide) ?_
        refine lv_goto (tgt := 89) hx hb dL_swaps_85 (by decide) ?_
        refine lv_aload_n hx hb dL_swaps_89 rfl (lv_at hl 0 rfl) ?_
        refine lv_iload hx hb dL_swaps_90 (lv_at hl 9 rfl) ?_
        refine lv_iload_n hx hb dL_swaps_92 rfl (lv_at hl 2 rfl) ?_
        refine lv_iconst (v := 3) hx hb dL_swaps_93 (by decide) ?_
        refine u_iE (v := R (84 + 6 * (4 * s1 + b) + 4)) (ru_V (As := [.int (nI s1), .int (nI b), .int 3]) (rest := [.int 1, .int (gnF R a b s1)]) F h hWd.1 rfl (kw_observation l g n c hWd J (nI s1) (nI b) 3 (v := R (84 + 6 * (4 * s1 + b) + 4)) (ob_3 J.s4 J.s5 hs5 hb4 vb)) (gV hjl wd_518 wd_519 wd_520 wd_16 wd_521) rfl 3 (by decide +kernel) rfl ⟨Nat.le_of_ble_eq_true rfl, Nat.le_of_ble_eq_true rfl⟩ rfl hl.1 (Nat.le_of_ble_eq_true rfl) ⟨Nat.zero_le _, Nat.zero_le _⟩ dL_swaps_94) h (fun H locs h => ?_)
        refine lv_if_lt (tgt := 104) hx hb dL_swaps_97 (by decide) (fun b_97 => by first | exact absurd b_97 (i_nlt (bt_ge (J.v hs5 hb4 (b01_of (J.ob (by omega) hb4) vb)).2.2.1 0 (by decide))) | exact absurd (i_nlt (bt_ge (J.v hs5 hb4 (b01_of (J.ob (by omega) hb4) vb)).2.2.1 0 (by decide))) b_97) (fun b_97 => ?_)
        refine lv_iconst (v := 1) hx hb dL_swaps_100 (by decide) ?_
        refine lv_goto (tgt := 105) hx hb dL_swaps_101 (by decide) ?_
        refine lv_iadd hx hb dL_swaps_105 ?_
        refine lv_iadd hx hb dL_swaps_106 ?_
        refine lv_istore (lv' := [(7, .int (gnF R a b s1 + (1 + 1))), (0, .ref (gz g + 0)), (1, .int (nI a)), (2, .int (nI b)), (3, .int 0), (4, .int (-100005)), (5, .int (R (5 + 11 * b + 2))), (6, .int (-100005)), (8, .int (vsI R sc)), (9, .int (nI s1))]) hx hb dL_swaps_107 hl (by decide) rfl (fun ls hl => ?_)
        have hl : lv_has ls 10 [(7, .int (gnF R a b (s1 + 1))), (0, .ref (gz g + 0)), (1, .int (nI a)), (2, .int (nI b)), (3, .int 0), (4, .int (-100005)), (5, .int (R (5 + 11 * b + 2))), (6, .int (-100005)), (8, .int (vsI R sc)), (9, .int (nI s1))] := by rw [show (gnF R a b (s1 + 1) : Int32) = (gnF R a b s1 + (1 + 1)) from (show gnF R a b (s1 + 1) = gnF R a b s1 + ((if R (84 + 6 * (4 * s1 + a) + 0) = 0 then 0 else 1) + (if R (84 + 6 * (4 * s1 + b) + 0) = 0 then 0 else 1)) from rfl).trans (by rw [if_neg va, if_neg vb])]; exact hl
        refine lv_iinc (v := nI (s1 + 1)) (lv' := [(9, .int (nI (s1 + 1))), (7, .int (gnF R a b (s1 + 1))), (0, .ref (gz g + 0)), (1, .int (nI a)), (2, .int (nI b)), (3, .int 0), (4, .int (-100005)), (5, .int (R (5 + 11 * b + 2))), (6, .int (-100005)), (8, .int (vsI R sc))]) hx hb dL_swaps_109 hl (k := 9) rfl (by exact (nI_succ s1).symm) (by decide) rfl (fun ls hl => ?_)
        refine lv_goto (tgt := 61) hx hb dL_swaps_112 (by decide) ?_
        exact ih_lg (s1 + 1) (by omega) _ _ _ (by omega) h (lv_sub hl [2, 3, 4, 5, 6, 7, 8, 9, 1, 0] rfl)
    exact lg _ 0 (Nat.zero_le _) _ _ _ (Nat.le_refl _) h (lv_sub hl [7, 8, 9, 6, 5, 4, 3, 1, 2, 0] rfl)
  by_cases nb : R (5 + 11 * b + 0) = 0
  · skip
    by_cases hab : a = b
    · skip
      have h1 := b01_of (J.b ha4) na
      refine lv_aload_n hx hb dL_swaps_0 rfl (lv_at hl 0 rfl) ?_
      refine lv_iload_n hx hb dL_swaps_1 rfl (lv_at hl 1 rfl) ?_
      refine lv_iconst (v := 2) hx hb dL_swaps_2 (by decide) ?_
      refine u_iE (v := R (5 + 11 * a + 3)) (ru_V (As := [.int (nI a), .int 2]) (rest := []) F h hWd.1 rfl (kw_wire l g n c hWd J (nI a) 2 (v := R (5 + 11 * a + 3)) (wi_2 ha4 (b01_of (J.b ha4) na))) (gV hjl wd_390 wd_391 wd_392 wd_16 wd_393) rfl 2 (by decide +kernel) rfl ⟨Nat.le_of_ble_eq_true rfl, Nat.le_of_ble_eq_true rfl⟩ rfl hl.1 (Nat.le_of_ble_eq_true rfl) ⟨Nat.zero_le _, Nat.zero_le _⟩ dL_swaps_3) h (fun H locs h => ?_)
      refine lv_if_le (tgt := 22) hx hb dL_swaps_6 (by decide) (fun b_6 => by first | exact absurd b_6 (i_nle (bt_gt (J.wg ha4 h1).2.2.1 0 (by decide))) | exact absurd (i_nle (bt_gt (J.wg ha4 h1).2.2.1 0 (by decide))) b_6) (fun b_6 => ?_)
      refine lv_aload_n hx hb dL_swaps_9 rfl (lv_at hl 0 rfl) ?_
      refine lv_iload_n hx hb dL_swaps_10 rfl (lv_at hl 2 rfl) ?_
      refine lv_iconst (v := 2) hx hb dL_swaps_11 (by decide) ?_
      refine u_iE (v := (-100005)) (ru_V (As := [.int (nI b), .int 2]) (rest := []) F h hWd.1 rfl (kw_wire l g n c hWd J (nI b) 2 (v := (-100005)) (wi_n hb4 nb (by decide))) (gV hjl wd_390 wd_391 wd_392 wd_16 wd_393) rfl 2 (by decide +kernel) rfl ⟨Nat.le_of_ble_eq_true rfl, Nat.le_of_ble_eq_true rfl⟩ rfl hl.1 (Nat.le_of_ble_eq_true rfl) ⟨Nat.zero_le _, Nat.zero_le _⟩ dL_swaps_12) h (fun H locs h => ?_)
      refine lv_if_le (tgt := 22) hx hb dL_swaps_15 (by decide) (fun b_15 => ?_) (fun b_15 => by first | exact absurd (by decide) b_15 | exact absurd b_15 (by decide))
      refine lv_iconst (v := 0) hx hb dL_swaps_22 (by decide) ?_
      refine lv_istore_n (lv' := [(3, .int 0), (0, .ref (gz g + 0)), (1, .int (nI a)), (2, .int (nI b))]) hx hb dL_swaps_23 rfl hl (by decide) rfl (fun ls hl => ?_)
      refine lv_aload_n hx hb dL_swaps_24 rfl (lv_at hl 1 rfl) ?_
      refine lv_iload_n hx hb dL_swaps_25 rfl (lv_at hl 2 rfl) ?_
      refine lv_iconst (v := 0) hx hb dL_swaps_26 (by decide) ?_
      refine u_iE (v := R (5 + 11 * a + 1)) (ru_V (As := [.int (nI a), .int 0]) (rest := []) F h hWd.1 rfl (kw_wire l g n c hWd J (nI a) 0 (v := R (5 + 11 * a + 1)) (wi_0 ha4 (b01_of (J.b ha4) na))) (gV hjl wd_390 wd_391 wd_392 wd_16 wd_393) rfl 2 (by decide +kernel) rfl ⟨Nat.le_of_ble_eq_true rfl, Nat.le_of_ble_eq_true rfl⟩ rfl hl.1 (Nat.le_of_ble_eq_true rfl) ⟨Nat.zero_le _, Nat.zero_le _⟩ dL_swaps_27) h (fun H locs h => ?_)
      refine lv_istore (lv' := [(4, .int (R (5 + 11 * a + 1))), (3, .int 0), (0, .ref (gz g + 0)), (1, .int (nI a)), (2, .int (nI b))]) hx hb dL_swaps_30 hl (by decide) rfl (fun ls hl => ?_)
      refine lv_aload_n hx hb dL_swaps_32 rfl (lv_at hl 2 rfl) ?_
      refine lv_iload_n hx hb dL_swaps_33 rfl (lv_at hl 4 rfl) ?_
      refine lv_iconst (v := 1) hx hb dL_swaps_34 (by decide) ?_
      refine u_iE (v := (-100005)) (ru_V (As := [.int (nI b), .int 1]) (rest := []) F h hWd.1 rfl (kw_wire l g n c hWd J (nI b) 1 (v := (-100005)) (wi_n hb4 nb (by decide))) (gV hjl wd_390 wd_391 wd_392 wd_16 wd_393) rfl 2 (by decide +kernel) rfl ⟨Nat.le_of_ble_eq_true rfl, Nat.le_of_ble_eq_true rfl⟩ rfl hl.1 (Nat.le_of_ble_eq_true rfl) ⟨Nat.zero_le _, Nat.zero_le _⟩ dL_swaps_35) h (fun H locs h => ?_)
      refine lv_istore (lv' := [(5, .int (-100005)), (4, .int (R (5 + 11 * a + 1))), (3, .int 0), (0, .ref (gz g + 0)), (1, .int (nI a)), (2, .int (nI b))]) hx hb dL_swaps_38 hl (by decide) rfl (fun ls hl => ?_)
      refine lv_aload_n hx hb dL_swaps_40 rfl (lv_at hl 3 rfl) ?_
      refine lv_iload_n hx hb dL_swaps_41 rfl (lv_at hl 4 rfl) ?_
      refine lv_iconst (v := 2) hx hb dL_swaps_42 (by decide) ?_
      refine u_iE (v := R (5 + 11 * a + 3)) (ru_V (As := [.int (nI a), .int 2]) (rest := []) F h hWd.1 rfl (kw_wire l g n c hWd J (nI a) 2 (v := R (5 + 11 * a + 3)) (wi_2 ha4 (b01_of (J.b ha4) na))) (gV hjl wd_390 wd_391 wd_392 wd_16 wd_393) rfl 2 (by decide +kernel) rfl ⟨Nat.le_of_ble_eq_true rfl, Nat.le_of_ble_eq_true rfl⟩ rfl hl.1 (Nat.le_of_ble_eq_true rfl) ⟨Nat.zero_le _, Nat.zero_le _⟩ dL_swaps_43) h (fun H locs h => ?_)
      refine lv_istore (lv' := [(6, .int (R (5 + 11 * a + 3))), (5, .int (-100005)), (4, .int (R (5 + 11 * a + 1))), (3, .int 0), (0, .ref (gz g + 0)), (1, .int (nI a)), (2, .int (nI b))]) hx hb dL_swaps_46 hl (by decide) rfl (fun ls hl => ?_)
      refine lv_iconst (v := 0) hx hb dL_swaps_48 (by decide) ?_
      refine lv_istore (lv' := [(7, .int 0), (6, .int (R (5 + 11 * a + 3))), (5, .int (-100005)), (4, .int (R (5 + 11 * a + 1))), (3, .int 0), (0, .ref (gz g + 0)), (1, .int (nI a)), (2, .int (nI b))]) hx hb dL_swaps_49 hl (by decide) rfl (fun ls hl => ?_)
      refine lv_aload_n hx hb dL_swaps_51 rfl (lv_at hl 5 rfl) ?_
      refine lv_iconst (v := 5) hx hb dL_swaps_52 (by decide) ?_
      refine u_iE (v := vsI R sc) (ru_V (As := [.int 5]) (rest := []) F h hWd.1 rfl (kw_count l g n c hWd J 5 (v := vsI R sc) (rfl)) (gV hjl wd_399 wd_400 wd_401 wd_16 wd_402) rfl 1 (by decide +kernel) rfl ⟨Nat.le_of_ble_eq_true rfl, Nat.le_of_ble_eq_true rfl⟩ rfl hl.1 (Nat.le_of_ble_eq_true rfl) ⟨Nat.zero_le _, Nat.zero_le _⟩ dL_swaps_53) h (fun H locs h => ?_)
      refine lv_istore (lv' := [(8, .int (vsI R sc)), (7, .int 0), (6, .int (R (5 + 11 * a + 3))), (5, .int (-100005)), (4, .int (R (5 + 11 * a + 1))), (3, .int 0), (0, .ref (gz g + 0)), (1, .int (nI a)), (2, .int (nI b))]) hx hb dL_swaps_56 hl (by decide) rfl (fun ls hl => ?_)
      refine lv_iconst (v := 0) hx hb dL_swaps_58 (by decide) ?_
      refine lv_istore (lv' := [(9, .int 0), (8, .int (vsI R sc)), (7, .int 0), (6, .int (R (5 + 11 * a + 3))), (5, .int (-100005)), (4, .int (R (5 + 11 * a + 1))), (3, .int 0), (0, .ref (gz g + 0)), (1, .int (nI a)), (2, .int (nI b))]) hx hb dL_swaps_59 hl (by decide) rfl (fun ls hl => ?_)
      have lg : ∀ (k : Nat) (s1 : Nat) (hs : s1 ≤ sc) (H : Heap) (locs : List Loc) (ls : Array Slot), (6 - s1) ≤ k → Hv g s H locs n c → lv_has ls 10 [(0, .ref (gz g + 0)), (1, .int (nI a)), (2, .int (nI b)), (3, .int 0), (4, .int (R (5 + 11 * a + 1))), (5, .int (-100005)), (6, .int (R (5 + 11 * a + 3))), (8, .int (vsI R sc)), (7, .int (gnF R a b s1)), (9, .int (nI s1))] → W p l e (Rm 5 109 0 0) s m args below meth c0 H locs 0 0 (MQ below (Qi g (fun xr n' c' => xr = 1 ∧ n ≤ n' ∧ ∃ (lh' : Nat) (rs' : Int32) (R' : Nat → Int32) (hq' : Nat → Nat → Int32), Wd g c' lh' rs' R' hq' ∧ Jv R' sc cn tb)) args s 0 0 (mAf g)) (F0 m 61 ls []) := by
        intro k_lg
        induction k_lg with
        | zero => intro s1 hs H locs ls hk h hl; exact absurd hk (by omega)
        | succ k_lg ih_lg =>
          intro s1 hs H locs ls hk_lg h hl
          refine lv_iload hx hb dL_swaps_61 (lv_at hl 9 rfl) ?_
          refine lv_aload_n hx hb dL_swaps_63 rfl (lv_at hl 0 rfl) ?_
          refine lv_iconst (v := 3) hx hb dL_swaps_64 (by decide) ?_
          refine u_iE (v := nI sc) (ru_V (As := [.int 3]) (rest := [.int (nI s1)]) F h hWd.1 rfl (kw_count l g n c hWd J 3 (v := nI sc) (J.s4)) (gV hjl wd_399 wd_400 wd_401 wd_16 wd_402) rfl 1 (by decide +kernel) rfl ⟨Nat.le_of_ble_eq_true rfl, Nat.le_of_ble_eq_true rfl⟩ rfl hl.1 (Nat.le_of_ble_eq_true rfl) ⟨Nat.zero_le _, Nat.zero_le _⟩ dL_swaps_65) h (fun H locs h => ?_)
          refine lv_icmp_ge (tgt := 115) hx hb dL_swaps_68 (by decide) (fun b_68 => ?_) (fun b_68 => ?_)
          · skip
            have e5 : s1 = sc := by have := lp_ge (N := sc) rfl (by omega) (by omega) b_68; omega
            have hl : lv_has ls 10 [(0, .ref (gz g + 0)), (1, .int (nI a)), (2, .int (nI b)), (3, .int 0), (4, .int (R (5 + 11 * a + 1))), (5, .int (-100005)), (6, .int (R (5 + 11 * a + 3))), (8, .int (vsI R sc)), (7, .int (gnF R a b sc)), (9, .int (nI s1))] := by rw [show (gnF R a b sc : Int32) = gnF R a b s1 from by rw [e5]]; exact hl
            refine lv_aload_n hx hb dL_swaps_115 rfl (lv_at hl 0 rfl) ?_
            refine lv_iload_n hx hb dL_swaps_116 rfl (lv_at hl 1 rfl) ?_
            refine lv_iload_n hx hb dL_swaps_117 rfl (lv_at hl 2 rfl) ?_
            have hWua5 : Wd g c lh rs R hq := hWd
            refine u_i (ru_V (As := [.int (nI a), .int (nI b)]) (rest := []) F h hWd.1 rfl (k_X7_swap l g n c lh 0 rs hWua5.1 R hWua5.2.1 hWua5.2.2.2.2 hq hWua5.2.2.1 J.wb (nI a) (nI b) sc sc J.s4 J.s5) (gV hjl wd_676 wd_677 wd_678 wd_16 wd_679) rfl 2 (by decide +kernel) rfl ⟨Nat.le_of_ble_eq_true rfl, Nat.le_of_ble_eq_true rfl⟩ rfl hl.1 (Nat.le_of_ble_eq_true rfl) ⟨Nat.zero_le _, Nat.zero_le _⟩ dL_swaps_118) h (fun ra5 na5 ca5 H locs hp h => ?_)
            obtain ⟨hna5, hxa5, hWa5, hFa5⟩ := paW hp hWua5 (by omega) (by rw [← hab]; exact sw_same ha4) (hWua5).2.2.2.2
            subst hxa5
            refine lv_istore (lv' := [(9, .int (-100002)), (0, .ref (gz g + 0)), (1, .int (nI a)), (2, .int (nI b)), (3, .int 0), (4, .int (R (5 + 11 * a + 1))), (5, .int (-100005)), (6, .int (R (5 + 11 * a + 3))), (8, .int (vsI R sc)), (7, .int (gnF R a b sc))]) hx hb dL_swaps_121 hl (by decide) rfl (fun ls hl => ?_)
            refine lv_iload_n hx hb dL_swaps_123 rfl (lv_at hl 2 rfl) ?_
            refine lv_iload_n hx hb dL_swaps_124 rfl (lv_at hl 3 rfl) ?_
            refine lv_icmp_eq (tgt := 132) hx hb dL_swaps_125 (by decide) (fun b_125 => ?_) (fun b_125 => by first | exact absurd (congrArg nI hab) b_125 | exact absurd b_125 (congrArg nI hab))
            refine lv_iload hx hb dL_swaps_132 (lv_at hl 0 rfl) ?_
            refine lv_iload_n hx hb dL_swaps_134 rfl (lv_at hl 2 rfl) ?_
            refine lv_iload_n hx hb dL_swaps_135 rfl (lv_at hl 3 rfl) ?_
            refine lv_icmp_ne (tgt := 144) hx hb dL_swaps_136 (by decide) (fun b_136 => by first | exact absurd b_136 (congrArg nI hab) | exact absurd (congrArg nI hab) b_136) (fun b_136 => ?_)
            refine lv_ldc (v := (-100002)) hx hb F.2.2.2.1 (F.2.2.2.2.1 (Cond.constant RL 15 (-100002)) (List.mem_cons_of_mem _ wd_442)) dL_swaps_139 ?_
            refine lv_goto (tgt := 146) hx hb dL_swaps_141 (by decide) ?_
            refine lv_icmp_ne (tgt := 163) hx hb dL_swaps_146 (by decide) (fun b_146 => by first | exact absurd b_146 (by decide) | exact absurd (by decide) b_146) (fun b_146 => ?_)
            refine lv_aload_n hx hb dL_swaps_149 rfl (lv_at hl 1 rfl) ?_
            refine lv_iconst (v := 5) hx hb dL_swaps_150 (by decide) ?_
            refine u_iE (v := vsI R sc) (ru_V (As := [.int 5]) (rest := []) F h hWa5.1 rfl (kw_count l g na5 ca5 hWa5 J 5 (v := vsI R sc) (rfl)) (gV hjl wd_399 wd_400 wd_401 wd_16 wd_402) rfl 1 (by decide +kernel) rfl ⟨Nat.le_of_ble_eq_true rfl, Nat.le_of_ble_eq_true rfl⟩ rfl hl.1 (Nat.le_of_ble_eq_true rfl) ⟨Nat.zero_le _, Nat.zero_le _⟩ dL_swaps_151) h (fun H locs h => ?_)
            refine lv_iload hx hb dL_swaps_154 (lv_at hl 8 rfl) ?_
            refine lv_icmp_ne (tgt := 163) hx hb dL_swaps_156 (by decide) (fun b_156 => by first | exact absurd b_156 (rfl) | exact absurd (rfl) b_156) (fun b_156 => ?_)
            refine lv_iconst (v := 1) hx hb dL_swaps_159 (by decide) ?_
            refine lv_goto (tgt := 164) hx hb dL_swaps_160 (by decide) ?_
            exact ret_z F h (by decide) (Nat.zero_le _) (Nat.zero_le _) dL_swaps_164 (⟨rfl, by omega, _, _, _, _, hWa5, J⟩)
          have hs5 : s1 < sc := lp_lt (N := sc) rfl (by omega) (by omega) b_68
          by_cases va : R (84 + 6 * (4 * s1 + a) + 0) = 0
          · skip
            have hs5 : s1 < sc := lp_lt (N := sc) rfl (by omega) (by omega) b_68
            by_cases vb : R (84 + 6 * (4 * s1 + b) + 0) = 0
            · skip
              have hs5 : s1 < sc := lp_lt (N := sc) rfl (by omega) (by omega) b_68
              refine lv_iload hx hb dL_swaps_71 (lv_at hl 8 rfl) ?_
              refine lv_aload_n hx hb dL_swaps_73 rfl (lv_at hl 0 rfl) ?_
              refine lv_iload hx hb dL_swaps_74 (lv_at hl 9 rfl) ?_
              refine lv_iload_n hx hb dL_swaps_76 rfl (lv_at hl 1 rfl) ?_
              refine lv_iconst (v := 3) hx hb dL_swaps_77 (by decide) ?_
              refine u_iE (v := (-100005)) (ru_V (As := [.int (nI s1), .int (nI a), .int 3]) (rest := [.int (gnF R a b s1)]) F h hWd.1 rfl (kw_observation l g n c hWd J (nI s1) (nI a) 3 (v := (-100005)) (ob_n J.s4 J.s5 hs5 ha4 va (by decide))) (gV hjl wd_518 wd_519 wd_520 wd_16 wd_521) rfl 3 (by decide +kernel) rfl ⟨Nat.le_of_ble_eq_true rfl, Nat.le_of_ble_eq_true rfl⟩ rfl hl.1 (Nat.le_of_ble_eq_true rfl) ⟨Nat.zero_le _, Nat.zero_le _⟩ dL_swaps_78) h (fun H locs h => ?_)
              refine lv_if_lt (tgt := 88) hx hb dL_swaps_81 (by decide) (fun b_81 => ?_) (fun b_81 => by first | exact absurd (by decide) b_81 | exact absurd b_81 (by decide))
              refine lv_iconst (v := 0) hx hb dL_swaps_88 (by decide) ?_
              refine lv_aload_n hx hb dL_swaps_89 rfl (lv_at hl 0 rfl) ?_
              refine lv_iload hx hb dL_swaps_90 (lv_at hl 9 rfl) ?_
              refine lv_iload_n hx hb dL_swaps_92 rfl (lv_at hl 2 rfl) ?_
              refine lv_iconst (v := 3) hx hb dL_swaps_93 (by decide) ?_
              refine u_iE (v := (-100005)) (ru_V (As := [.int (nI s1), .int (nI b), .int 3]) (rest := [.int 0, .int (gnF R a b s1)]) F h hWd.1 rfl (kw_observation l g n c hWd J (nI s1) (nI b) 3 (v := (-100005)) (ob_n J.s4 J.s5 hs5 hb4 vb (by decide))) (gV hjl wd_518 wd_519 wd_520 wd_16 wd_521) rfl 3 (by decide +kernel) rfl ⟨Nat.le_of_ble_eq_true rfl, Nat.le_of_ble_eq_true rfl⟩ rfl hl.1 (Nat.le_of_ble_eq_true rfl) ⟨Nat.zero_le _, Nat.zero_le _⟩ dL_swaps_94) h (fun H locs h => ?_)
              refine lv_if_lt (tgt := 104) hx hb dL_swaps_97 (by decide) (fun b_97 => ?_) (fun b_97 => by first | exact absurd (by decide) b_97 | exact absurd b_97 (by decide))
              refine lv_iconst (v := 0) hx hb dL_swaps_104 (by decide) ?_
              refine lv_iadd hx hb dL_swaps_105 ?_
              refine lv_iadd hx hb dL_swaps_106 ?_
              refine lv_istore (lv' := [(7, .int (gnF R a b s1 + (0 + 0))), (0, .ref (gz g + 0)), (1, .int (nI a)), (2, .int (nI b)), (3, .int 0), (4, .int (R (5 + 11 * a + 1))), (5, .int (-100005)), (6, .int (R (5 + 11 * a + 3))), (8, .int (vsI R sc)), (9, .int (nI s1))]) hx hb dL_swaps_107 hl (by decide) rfl (fun ls hl => ?_)
              have hl : lv_has ls 10 [(7, .int (gnF R a b (s1 + 1))), (0, .ref (gz g + 0)), (1, .int (nI a)), (2, .int (nI b)), (3, .int 0), (4, .int (R (5 + 11 * a + 1))), (5, .int (-100005)), (6, .int (R (5 + 11 * a + 3))), (8, .int (vsI R sc)), (9, .int (nI s1))] := by rw [show (gnF R a b (s1 + 1) : Int32) = (gnF R a b s1 + (0 + 0)) from (show gnF R a b (s1 + 1) = gnF R a b s1 + ((if R (84 + 6 * (4 * s1 + a) + 0) = 0 then 0 else 1) + (if R (84 + 6 * (4 * s1 + b) + 0) = 0 then 0 else 1)) from rfl).trans (by rw [if_pos va, if_pos vb])]; exact hl
              refine lv_iinc (v := nI (s1 + 1)) (lv' := [(9, .int (nI (s1 + 1))), (7, .int (gnF R a b (s1 + 1))), (0, .ref (gz g + 0)), (1, .int (nI a)), (2, .int (nI b)), (3, .int 0), (4, .int (R (5 + 11 * a + 1))), (5, .int (-100005)), (6, .int (R (5 + 11 * a + 3))), (8, .int (vsI R sc))]) hx hb dL_swaps_109 hl (k := 9) rfl (by exact (nI_succ s1).symm) (by decide) rfl (fun ls hl => ?_)
              refine lv_goto (tgt := 61) hx hb dL_swaps_112 (by decide) ?_
              exact ih_lg (s1 + 1) (by omega) _ _ _ (by omega) h (lv_sub hl [2, 3, 4, 5, 6, 7, 8, 9, 1, 0] rfl)
            refine lv_iload hx hb dL_swaps_71 (lv_at hl 8 rfl) ?_
            refine lv_aload_n hx hb dL_swaps_73 rfl (lv_at hl 0 rfl) ?_
            refine lv_iload hx hb dL_swaps_74 (lv_at hl 9 rfl) ?_
            refine lv_iload_n hx hb dL_swaps_76 rfl (lv_at hl 1 rfl) ?_
            refine lv_iconst (v := 3) hx hb dL_swaps_77 (by decide) ?_
            refine u_iE (v := (-100005)) (ru_V (As := [.int (nI s1), .int (nI a), .int 3]) (rest := [.int (gnF R a b s1)]) F h hWd.1 rfl (kw_observation l g n c hWd J (nI s1) (nI a) 3 (v := (-100005)) (ob_n J.s4 J.s5 hs5 ha4 va (by decide))) (gV hjl wd_518 wd_519 wd_520 wd_16 wd_521) rfl 3 (by decide +kernel) rfl ⟨Nat.le_of_ble_eq_true rfl, Nat.le_of_ble_eq_true rfl⟩ rfl hl.1 (Nat.le_of_ble_eq_true rfl) ⟨Nat.zero_le _, Nat.zero_le _⟩ dL_swaps_78) h (fun H locs h => ?_)
            refine lv_if_lt (tgt := 88) hx hb dL_swaps_81 (by decide) (fun b_81 => ?_) (fun b_81 => by first | exact absurd (by decide) b_81 | exact absurd b_81 (by decide))
            refine lv_iconst (v := 0) hx hb dL_swaps_88 (by decide) ?_
            refine lv_aload_n hx hb dL_swaps_89 rfl (lv_at hl 0 rfl) ?_
            refine lv_iload hx hb dL_swaps_90 (lv_at hl 9 rfl) ?_
            refine lv_iload_n hx hb dL_swaps_92 rfl (lv_at hl 2 rfl) ?_
            refine lv_iconst (v := 3) hx hb dL_swaps_93 (by decide) ?_
            refine u_iE (v := R (84 + 6 * (4 * s1 + b) + 4)) (ru_V (As := [.int (nI s1), .int (nI b), .int 3]) (rest := [.int 0, .int (gnF R a b s1)]) F h hWd.1 rfl (kw_observation l g n c hWd J (nI s1) (nI b) 3 (v := R (84 + 6 * (4 * s1 + b) + 4)) (ob_3 J.s4 J.s5 hs5 hb4 vb)) (gV hjl wd_518 wd_519 wd_520 wd_16 wd_521) rfl 3 (by decide +kernel) rfl ⟨Nat.le_of_ble_eq_true rfl, Nat.le_of_ble_eq_true rfl⟩ rfl hl.1 (Nat.le_of_ble_eq_true rfl) ⟨Nat.zero_le _, Nat.zero_le _⟩ dL_swaps_94) h (fun H locs h => ?_)
            refine lv_if_lt (tgt := 104) hx hb dL_swaps_97 (by decide) (fun b_97 => by first | exact absurd b_97 (i_nlt (bt_ge (J.v hs5 hb4 (b01_of (J.ob (by omega) hb4) vb)).2.2.1 0 (by decide))) | exact absurd (i_nlt (bt_ge (J.v hs5 hb4 (b01_of (J.ob (by omega) hb4) vb)).2.2.1 0 (by decide))) b_97) (fun b_97 => ?_)
            refine lv_iconst (v := 1) hx hb dL_swaps_100 (by decide) ?_
            refine lv_goto (tgt := 105) hx hb dL_swaps_101 (by decide) ?_
            refine lv_iadd hx hb dL_swaps_105 ?_
            refine lv_iadd hx hb dL_swaps_106 ?_
            refine lv_istore (lv' := [(7, .int (gnF R a b s1 + (0 + 1))), (0, .ref (gz g + 0)), (1, .int (nI a)), (2, .int (nI b)), (3, .int 0), (4, .int (R (5 + 11 * a + 1))), (5, .int (-100005)), (6, .int (R (5 + 11 * a + 3))), (8, .int (vsI R sc)), (9, .int (nI s1))]) hx hb dL_swaps_107 hl (by decide) rfl (fun ls hl => ?_)
            have hl : lv_has ls 10 [(7, .int (gnF R a b (s1 + 1))), (0, .ref (gz g + 0)), (1, .int (nI a)), (2, .int (nI b)), (3, .int 0), (4, .int (R (5 + 11 * a + 1))), (5, .int (-100005)), (6, .int (R (5 + 11 * a + 3))), (8, .int (vsI R sc)), (9, .int (nI s1))] := by rw [show (gnF R a b (s1 + 1) : Int32) = (gnF R a b s1 + (0 + 1)) from (show gnF R a b (s1 + 1) = gnF R a b s1 + ((if R (84 + 6 * (4 * s1 + a) + 0) = 0 then 0 else 1) + (if R (84 + 6 * (4 * s1 + b) + 0) = 0 then 0 else 1)) from rfl).trans (by rw [if_pos va, if_neg vb])]; exact hl
            refine lv_iinc (v := nI (s1 + 1)) (lv' := [(9, .int (nI (s1 + 1))), (7, .int (gnF R a b (s1 + 1))), (0, .ref (gz g + 0)), (1, .int (nI a)), (2, .int (nI b)), (3, .int 0), (4, .int (R (5 + 11 * a + 1))), (5, .int (-100005)), (6, .int (R (5 + 11 * a + 3))), (8, .int (vsI R sc))]) hx hb dL_swaps_109 hl (k := 9) rfl (by exact (nI_succ s1).symm) (by decide) rfl (fun ls hl => ?_)
            refine lv_goto (tgt := 61) hx hb dL_swaps_112 (by decide) ?_
            exact ih_lg (s1 + 1) (by omega) _ _ _ (by omega) h (lv_sub hl [2, 3, 4, 5, 6, 7, 8, 9, 1, 0] rfl)
          by_cases vb : R (84 + 6 * (4 * s1 + b) + 0) = 0
          · skip
            have hs5 : s1 < sc := lp_lt (N := sc) rfl (by omega) (by omega) b_68
            refine lv_iload hx hb dL_swaps_71 (lv_at hl 8 rfl) ?_
            refine lv_aload_n hx hb dL_swaps_73 rfl (lv_at hl 0 rfl) ?_
            refine lv_iload hx hb dL_swaps_74 (lv_at hl 9 rfl) ?_
            refine lv_iload_n hx hb dL_swaps_76 rfl (lv_at hl 1 rfl) ?_
            refine lv_iconst (v := 3) hx hb dL_swaps_77 (by decide) ?_
            refine u_iE (v := R (84 + 6 * (4 * s1 + a) + 4)) (ru_V (As := [.int (nI s1), .int (nI a), .int 3]) (rest := [.int (gnF R a b s1)]) F h hWd.1 rfl (kw_observation l g n c hWd J (nI s1) (nI a) 3 (v := R (84 + 6 * (4 * s1 + a) + 4)) (ob_3 J.s4 J.s5 hs5 ha4 va)) (gV hjl wd_518 wd_519 wd_520 wd_16 wd_521) rfl 3 (by decide +kernel) rfl ⟨Nat.le_of_ble_eq_true rfl, Nat.le_of_ble_eq_true rfl⟩ rfl hl.1 (Nat.le_of_ble_eq_true rfl) ⟨Nat.zero_le _, Nat.zero_le _⟩ dL_swaps_78) h (fun H locs h => ?_)
            refine lv_if_lt (tgt := 88) hx hb dL_swaps_81 (by decide) (fun b_81 => by first | exact absurd b_81 (i_nlt (bt_ge (J.v hs5 ha4 (b01_of (J.ob (by omega) ha4) va)).2.2.1 0 (by decide))) | exact absurd (i_nlt (bt_ge (J.v hs5 ha4 (b01_of (J.ob (by omega) ha4) va)).2.2.1 0 (by decide))) b_81) (fun b_81 => ?_)
            refine lv_iconst (v := 1) hx hb dL_swaps_84 (by decide) ?_
            refine lv_goto (tgt := 89) hx hb dL_swaps_85 (by decide) ?_
            refine lv_aload_n hx hb dL_swaps_89 rfl (lv_at hl 0 rfl) ?_
            refine lv_iload hx hb dL_swaps_90 (lv_at hl 9 rfl) ?_
            refine lv_iload_n hx hb dL_swaps_92 rfl (lv_at hl 2 rfl) ?_
            refine lv_iconst (v := 3) hx hb dL_swaps_93 (by decide) ?_
            refine u_iE (v := (-100005)) (ru_V (As := [.int (nI s1), .int (nI b), .int 3]) (rest := [.int 1, .int (gnF R a b s1)]) F h hWd.1 rfl (kw_observation l g n c hWd J (nI s1) (nI b) 3 (v := (-100005)) (ob_n J.s4 J.s5 hs5 hb4 vb (by decide))) (gV hjl wd_518 wd_519 wd_520 wd_16 wd_521) rfl 3 (by decide +kernel) rfl ⟨Nat.le_of_ble_eq_true rfl, Nat.le_of_ble_eq_true rfl⟩ rfl hl.1 (Nat.le_of_ble_eq_true rfl) ⟨Nat.zero_le _, Nat.zero_le _⟩ dL_swaps_94) h (fun H locs h => ?_)
            refine lv_if_lt (tgt := 104) hx hb dL_swaps_97 (by decide) (fun b_97 => ?_) (fun b_97 => by first | exact absurd (by decide) b_97 | exact absurd b_97 (by decide))
            refine lv_iconst (v := 0) hx hb dL_swaps_104 (by decide) ?_
            refine lv_iadd hx hb dL_swaps_105 ?_
            refine lv_iadd hx hb dL_swaps_106 ?_
            refine lv_istore (lv' := [(7, .int (gnF R a b s1 + (1 + 0))), (0, .ref (gz g + 0)), (1, .int (nI a)), (2, .int (nI b)), (3, .int 0), (4, .int (R (5 + 11 * a + 1))), (5, .int (-100005)), (6, .int (R (5 + 11 * a + 3))), (8, .int (vsI R sc)), (9, .int (nI s1))]) hx hb dL_swaps_107 hl (by decide) rfl (fun ls hl => ?_)
            have hl : lv_has ls 10 [(7, .int (gnF R a b (s1 + 1))), (0, .ref (gz g + 0)), (1, .int (nI a)), (2, .int (nI b)), (3, .int 0), (4, .int (R (5 + 11 * a + 1))), (5, .int (-100005)), (6, .int (R (5 + 11 * a + 3))), (8, .int (vsI R sc)), (9, .int (nI s1))] := by rw [show (gnF R a b (s1 + 1) : Int32) = (gnF R a b s1 + (1 + 0)) from (show gnF R a b (s1 + 1) = gnF R a b s1 + ((if R (84 + 6 * (4 * s1 + a) + 0) = 0 then 0 else 1) + (if R (84 + 6 * (4 * s1 + b) + 0) = 0 then 0 else 1)) from rfl).trans (by rw [if_neg va, if_pos vb])]; exact hl
            refine lv_iinc (v := nI (s1 + 1)) (lv' := [(9, .int (nI (s1 + 1))), (7, .int (gnF R a b (s1 + 1))), (0, .ref (gz g + 0)), (1, .int (nI a)), (2, .int (nI b)), (3, .int 0), (4, .int (R (5 + 11 * a + 1))), (5, .int (-100005)), (6, .int (R (5 + 11 * a + 3))), (8, .int (vsI R sc))]) hx hb dL_swaps_109 hl (k := 9) rfl (by exact (nI_succ s1).symm) (by decide) rfl (fun ls hl => ?_)
            refine lv_goto (tgt := 61) hx hb dL_swaps_112 (by decide) ?_
            exact ih_lg (s1 + 1) (by omega) _ _ _ (by omega) h (lv_sub hl [2, 3, 4, 5, 6, 7, 8, 9, 1, 0] rfl)
          refine lv_iload hx hb dL_swaps_71 (lv_at hl 8 rfl) ?_
          refine lv_aload_n hx hb dL_swaps_73 rfl (lv_at hl 0 rfl) ?_
          refine lv_iload hx hb dL_swaps_74 (lv_at hl 9 rfl) ?_
          refine lv_iload_n hx hb dL_swaps_76 rfl (lv_at hl 1 rfl) ?_
          refine lv_iconst (v := 3) hx hb dL_swaps_77 (by decide) ?_
          refine u_iE (v := R (84 + 6 * (4 * s1 + a) + 4)) (ru_V (As := [.int (nI s1), .int (nI a), .int 3]) (rest := [.int (gnF R a b s1)]) F h hWd.1 rfl (kw_observation l g n c hWd J (nI s1) (nI a) 3 (v := R (84 + 6 * (4 * s1 + a) + 4)) (ob_3 J.s4 J.s5 hs5 ha4 va)) (gV hjl wd_518 wd_519 wd_520 wd_16 wd_521) rfl 3 (by decide +kernel) rfl ⟨Nat.le_of_ble_eq_true rfl, Nat.le_of_ble_eq_true rfl⟩ rfl hl.1 (Nat.le_of_ble_eq_true rfl) ⟨Nat.zero_le _, Nat.zero_le _⟩ dL_swaps_78) h (fun H locs h => ?_)
          refine lv_if_lt (tgt := 88) hx hb dL_swaps_81 (by decide) (fun b_81 => by first | exact absurd b_81 (i_nlt (bt_ge (J.v hs5 ha4 (b01_of (J.ob (by omega) ha4) va)).2.2.1 0 (by decide))) | exact absurd (i_nlt (bt_ge (J.v hs5 ha4 (b01_of (J.ob (by omega) ha4) va)).2.2.1 0 (by decide))) b_81) (fun b_81 => ?_)
          refine lv_iconst (v := 1) hx hb dL_swaps_84 (by decide) ?_
          refine lv_goto (tgt := 89) hx hb dL_swaps_85 (by decide) ?_
          refine lv_aload_n hx hb dL_swaps_89 rfl (lv_at hl 0 rfl) ?_
          refine lv_iload hx hb dL_swaps_90 (lv_at hl 9 rfl) ?_
          refine lv_iload_n hx hb dL_swaps_92 rfl (lv_at hl 2 rfl) ?_
          refine lv_iconst (v := 3) hx hb dL_swaps_93 (by decide) ?_
          refine u_iE (v := R (84 + 6 * (4 * s1 + b) + 4)) (ru_V (As := [.int (nI s1), .int (nI b), .int 3]) (rest := [.int 1, .int (gnF R a b s1)]) F h hWd.1 rfl (kw_observation l g n c hWd J (nI s1) (nI b) 3 (v := R (84 + 6 * (4 * s1 + b) + 4)) (ob_3 J.s4 J.s5 hs5 hb4 vb)) (gV hjl wd_518 wd_519 wd_520 wd_16 wd_521) rfl 3 (by decide +kernel) rfl ⟨Nat.le_of_ble_eq_true rfl, Nat.le_of_ble_eq_true rfl⟩ rfl hl.1 (Nat.le_of_ble_eq_true rfl) ⟨Nat.zero_le _, Nat.zero_le _⟩ dL_swaps_94) h (fun H locs h => ?_)
          refine lv_if_lt (tgt := 104) hx hb dL_swaps_97 (by decide) (fun b_97 => by first | exact absurd b_97 (i_nlt (bt_ge (J.v hs5 hb4 (b01_of (J.ob (by omega) hb4) vb)).2.2.1 0 (by decide))) | exact absurd (i_nlt (bt_ge (J.v hs5 hb4 (b01_of (J.ob (by omega) hb4) vb)).2.2.1 0 (by decide))) b_97) (fun b_97 => ?_)
          refine lv_iconst (v := 1) hx hb dL_swaps_100 (by decide) ?_
          refine lv_goto (tgt := 105) hx hb dL_swaps_101 (by decide) ?_
          refine lv_iadd hx hb dL_swaps_105 ?_
          refine lv_iadd hx hb dL_swaps_106 ?_
          refine lv_istore (lv' := [(7, .int (gnF R a b s1 + (1 + 1))), (0, .ref (gz g + 0)), (1, .int (nI a)), (2, .int (nI b)), (3, .int 0), (4, .int (R (5 + 11 * a + 1))), (5, .int (-100005)), (6, .int (R (5 + 11 * a + 3))), (8, .int (vsI R sc)), (9, .int (nI s1))]) hx hb dL_swaps_107 hl (by decide) rfl (fun ls hl => ?_)
          have hl : lv_has ls 10 [(7, .int (gnF R a b (s1 + 1))), (0, .ref (gz g + 0)), (1, .int (nI a)), (2, .int (nI b)), (3, .int 0), (4, .int (R (5 + 11 * a + 1))), (5, .int (-100005)), (6, .int (R (5 + 11 * a + 3))), (8, .int (vsI R sc)), (9, .int (nI s1))] := by rw [show (gnF R a b (s1 + 1) : Int32) = (gnF R a b s1 + (1 + 1)) from (show gnF R a b (s1 + 1) = gnF R a b s1 + ((if R (84 + 6 * (4 * s1 + a) + 0) = 0 then 0 else 1) + (if R (84 + 6 * (4 * s1 + b) + 0) = 0 then 0 else 1)) from rfl).trans (by rw [if_neg va, if_neg vb])]; exact hl
          refine lv_iinc (v := nI (s1 + 1)) (lv' := [(9, .int (nI (s1 + 1))), (7, .int (gnF R a b (s1 + 1))), (0, .ref (gz g + 0)), (1, .int (nI a)), (2, .int (nI b)), (3, .int 0), (4, .int (R (5 + 11 * a + 1))), (5, .int (-100005)), (6, .int (R (5 + 11 * a + 3))), (8, .int (vsI R sc))]) hx hb dL_swaps_109 hl (k := 9) rfl (by exact (nI_succ s1).symm) (by decide) rfl (fun ls hl => ?_)
          refine lv_goto (tgt := 61) hx hb dL_swaps_112 (by decide) ?_
          exact ih_lg (s1 + 1) (by omega) _ _ _ (by omega) h (lv_sub hl [2, 3, 4, 5, 6, 7, 8, 9, 1, 0] rfl)
      exact lg _ 0 (Nat.zero_le _) _ _ _ (Nat.le_refl _) h (lv_sub hl [7, 8, 9, 6, 5, 4, 3, 1, 2, 0] rfl)
    have h1 := b01_of (J.b ha4) na
    refine lv_aload_n hx hb dL_swaps_0 rfl (lv_at hl 0 rfl) ?_
    refine lv_iload_n hx hb dL_swaps_1 rfl (lv_at hl 1 rfl) ?_
    refine lv_iconst (v := 2) hx hb dL_swaps_2 (by decide) ?_
    refine u_iE (v := R (5 + 11 * a + 3)) (ru_V (As := [.int (nI a), .int 2]) (rest := []) F h hWd.1 rfl (kw_wire l g n c hWd J (nI a) 2 (v := R (5 + 11 * a + 3)) (wi_2 ha4 (b01_of (J.b ha4) na))) (gV hjl wd_390 wd_391 wd_392 wd_16 wd_393) rfl 2 (by decide +kernel) rfl ⟨Nat.le_of_ble_eq_true rfl, Nat.le_of_ble_eq_true rfl⟩ rfl hl.1 (Nat.le_of_ble_eq_true rfl) ⟨Nat.zero_le _, Nat.zero_le _⟩ dL_swaps_3) h (fun H locs h => ?_)
    refine lv_if_le (tgt := 22) hx hb dL_swaps_6 (by decide) (fun b_6 => by first | exact absurd b_6 (i_nle (bt_gt (J.wg ha4 h1).2.2.1 0 (by decide))) | exact absurd (i_nle (bt_gt (J.wg ha4 h1).2.2.1 0 (by decide))) b_6) (fun b_6 => ?_)
    refine lv_aload_n hx hb dL_swaps_9 rfl (lv_at hl 0 rfl) ?_
    refine lv_iload_n hx hb dL_swaps_10 rfl (lv_at hl 2 rfl) ?_
    refine lv_iconst (v := 2) hx hb dL_swaps_11 (by decide) ?_
    refine u_iE (v := (-100005)) (ru_V (As := [.int (nI b), .int 2]) (rest := []) F h hWd.1 rfl (kw_wire l g n c hWd J (nI b) 2 (v := (-100005)) (wi_n hb4 nb (by decide))) (gV hjl wd_390 wd_391 wd_392 wd_16 wd_393) rfl 2 (by decide +kernel) rfl ⟨Nat.le_of_ble_eq_true rfl, Nat.le_of_ble_eq_true rfl⟩ rfl hl.1 (Nat.le_of_ble_eq_true rfl) ⟨Nat.zero_le _, Nat.zero_le _⟩ dL_swaps_12) h (fun H locs h => ?_)
    refine lv_if_le (tgt := 22) hx hb dL_swaps_15 (by decide) (fun b_15 => ?_) (fun b_15 => by first | exact absurd (by decide) b_15 | exact absurd b_15 (by decide))
    refine lv_iconst (v := 0) hx hb dL_swaps_22 (by decide) ?_
    refine lv_istore_n (lv' := [(3, .int 0), (0, .ref (gz g + 0)), (1, .int (nI a)), (2, .int (nI b))]) hx hb dL_swaps_23 rfl hl (by decide) rfl (fun ls hl => ?_)
    refine lv_aload_n hx hb dL_swaps_24 rfl (lv_at hl 1 rfl) ?_
    refine lv_iload_n hx hb dL_swaps_25 rfl (lv_at hl 2 rfl) ?_
    refine lv_iconst (v := 0) hx hb dL_swaps_26 (by decide) ?_
    refine u_iE (v := R (5 + 11 * a + 1)) (ru_V (As := [.int (nI a), .int 0]) (rest := []) F h hWd.1 rfl (kw_wire l g n c hWd J (nI a) 0 (v := R (5 + 11 * a + 1)) (wi_0 ha4 (b01_of (J.b ha4) na))) (gV hjl wd_390 wd_391 wd_392 wd_16 wd_393) rfl 2 (by decide +kernel) rfl ⟨Nat.le_of_ble_eq_true rfl, Nat.le_of_ble_eq_true rfl⟩ rfl hl.1 (Nat.le_of_ble_eq_true rfl) ⟨Nat.zero_le _, Nat.zero_le _⟩ dL_swaps_27) h (fun H locs h => ?_)
    refine lv_istore (lv' := [(4, .int (R (5 + 11 * a + 1))), (3, .int 0), (0, .ref (gz g + 0)), (1, .int (nI a)), (2, .int (nI b))]) hx hb dL_swaps_30 hl (by decide) rfl (fun ls hl => ?_)
    refine lv_aload_n hx hb dL_swaps_32 rfl (lv_at hl 2 rfl) ?_
    refine lv_iload_n hx hb dL_swaps_33 rfl (lv_at hl 4 rfl) ?_
    refine lv_iconst (v := 1) hx hb dL_swaps_34 (by decide) ?_
    refine u_iE (v := (-100005)) (ru_V (As := [.int (nI b), .int 1]) (rest := []) F h hWd.1 rfl (kw_wire l g n c hWd J (nI b) 1 (v := (-100005)) (wi_n hb4 nb (by decide))) (gV hjl wd_390 wd_391 wd_392 wd_16 wd_393) rfl 2 (by decide +kernel) rfl ⟨Nat.le_of_ble_eq_true rfl, Nat.le_of_ble_eq_true rfl⟩ rfl hl.1 (Nat.le_of_ble_eq_true rfl) ⟨Nat.zero_le _, Nat.zero_le _⟩ dL_swaps_35) h (fun H locs h => ?_)
    refine lv_istore (lv' := [(5, .int (-100005)), (4, .int (R (5 + 11 * a + 1))), (3, .int 0), (0, .ref (gz g + 0)), (1, .int (nI a)), (2, .int (nI b))]) hx hb dL_swaps_38 hl (by decide) rfl (fun ls hl => ?_)
    refine lv_aload_n hx hb dL_swaps_40 rfl (lv_at hl 3 rfl) ?_
    refine lv_iload_n hx hb dL_swaps_41 rfl (lv_at hl 4 rfl) ?_
    refine lv_iconst (v := 2) hx hb dL_swaps_42 (by decide) ?_
    refine u_iE (v := R (5 + 11 * a + 3)) (ru_V (As := [.int (nI a), .int 2]) (rest := []) F h hWd.1 rfl (kw_wire l g n c hWd J (nI a) 2 (v := R (5 + 11 * a + 3)) (wi_2 ha4 (b01_of (J.b ha4) na))) (gV hjl wd_390 wd_391 wd_392 wd_16 wd_393) rfl 2 (by decide +kernel) rfl ⟨Nat.le_of_ble_eq_true rfl, Nat.le_of_ble_eq_true rfl⟩ rfl hl.1 (Nat.le_of_ble_eq_true rfl) ⟨Nat.zero_le _, Nat.zero_le _⟩ dL_swaps_43) h (fun H locs h => ?_)
    refine lv_istore (lv' := [(6, .int (R (5 + 11 * a + 3))), (5, .int (-100005)), (4, .int (R (5 + 11 * a + 1))), (3, .int 0), (0, .ref (gz g + 0)), (1, .int (nI a)), (2, .int (nI b))]) hx hb dL_swaps_46 hl (by decide) rfl (fun ls hl => ?_)
    refine lv_iconst (v := 0) hx hb dL_swaps_48 (by decide) ?_
    refine lv_istore (lv' := [(7, .int 0), (6, .int (R (5 + 11 * a + 3))), (5, .int (-100005)), (4, .int (R (5 + 11 * a + 1))), (3, .int 0), (0, .ref (gz g + 0)), (1, .int (nI a)), (2, .int (nI b))]) hx hb dL_swaps_49 hl (by decide) rfl (fun ls hl => ?_)
    refine lv_aload_n hx hb dL_swaps_51 rfl (lv_at hl 5 rfl) ?_
    refine lv_iconst (v := 5) hx hb dL_swaps_52 (by decide) ?_
    refine u_iE (v := vsI R sc) (ru_V (As := [.int 5]) (rest := []) F h hWd.1 rfl (kw_count l g n c hWd J 5 (v := vsI R sc) (rfl)) (gV hjl wd_399 wd_400 wd_401 wd_16 wd_402) rfl 1 (by decide +kernel) rfl ⟨Nat.le_of_ble_eq_true rfl, Nat.le_of_ble_eq_true rfl⟩ rfl hl.1 (Nat.le_of_ble_eq_true rfl) ⟨Nat.zero_le _, Nat.zero_le _⟩ dL_swaps_53) h (fun H locs h => ?_)
    refine lv_istore (lv' := [(8, .int (vsI R sc)), (7, .int 0), (6, .int (R (5 + 11 * a + 3))), (5, .int (-100005)), (4, .int (R (5 + 11 * a + 1))), (3, .int 0), (0, .ref (gz g + 0)), (1, .int (nI a)), (2, .int (nI b))]) hx hb dL_swaps_56 hl (by decide) rfl (fun ls hl => ?_)
    refine lv_iconst (v := 0) hx hb dL_swaps_58 (by decide) ?_
    refine lv_istore (lv' := [(9, .int 0), (8, .int (vsI R sc)), (7, .int 0), (6, .int (R (5 + 11 * a + 3))), (5, .int (-100005)), (4, .int (R (5 + 11 * a + 1))), (3, .int 0), (0, .ref (gz g + 0)), (1, .int (nI a)), (2, .int (nI b))]) hx hb dL_swaps_59 hl (by decide) rfl (fun ls hl => ?_)
    have lg : ∀ (k : Nat) (s1 : Nat) (hs : s1 ≤ sc) (H : Heap) (locs : List Loc) (ls : Array Slot), (6 - s1) ≤ k → Hv g s H locs n c → lv_has ls 10 [(0, .ref (gz g + 0)), (1, .int (nI a)), (2, .int (nI b)), (3, .int 0), (4, .int (R (5 + 11 * a + 1))), (5, .int (-100005)), (6, .int (R (5 + 11 * a + 3))), (8, .int (vsI R sc)), (7, .int (gnF R a b s1)), (9, .int (nI s1))] → W p l e (Rm 5 109 0 0) s m args below meth c0 H locs 0 0 (MQ below (Qi g (fun xr n' c' => xr = 1 ∧ n ≤ n' ∧ ∃ (lh' : Nat) (rs' : Int32) (R' : Nat → Int32) (hq' : Nat → Nat → Int32), Wd g c' lh' rs' R' hq' ∧ Jv R' sc cn tb)) args s 0 0 (mAf g)) (F0 m 61 ls []) := by
      intro k_lg
      induction k_lg with
      | zero => intro s1 hs H locs ls hk h hl; exact absurd hk (by omega)
      | succ k_lg ih_lg =>
        intro s1 hs H locs ls hk_lg h hl
        refine lv_iload hx hb dL_swaps_61 (lv_at hl 9 rfl) ?_
        refine lv_aload_n hx hb dL_swaps_63 rfl (lv_at hl 0 rfl) ?_
        refine lv_iconst (v := 3) hx hb dL_swaps_64 (by decide) ?_
        refine u_iE (v := nI sc) (ru_V (As := [.int 3]) (rest := [.int (nI s1)]) F h hWd.1 rfl (kw_count l g n c hWd J 3 (v := nI sc) (J.s4)) (gV hjl wd_399 wd_400 wd_401 wd_16 wd_402) rfl 1 (by decide +kernel) rfl ⟨Nat.le_of_ble_eq_true rfl, Nat.le_of_ble_eq_true rfl⟩ rfl hl.1 (Nat.le_of_ble_eq_true rfl) ⟨Nat.zero_le _, Nat.zero_le _⟩ dL_swaps_65) h (fun H locs h => ?_)
        refine lv_icmp_ge (tgt := 115) hx hb dL_swaps_68 (by decide) (fun b_68 => ?_) (fun b_68 => ?_)
        · skip
          have e5 : s1 = sc := by have := lp_ge (N := sc) rfl (by omega) (by omega) b_68; omega
          have hl : lv_has ls 10 [(0, .ref (gz g + 0)), (1, .int (nI a)), (2, .int (nI b)), (3, .int 0), (4, .int (R (5 + 11 * a + 1))), (5, .int (-100005)), (6, .int (R (5 + 11 * a + 3))), (8, .int (vsI R sc)), (7, .int (gnF R a b sc)), (9, .int (nI s1))] := by rw [show (gnF R a b sc : Int32) = gnF R a b s1 from by rw [e5]]; exact hl
          refine lv_aload_n hx hb dL_swaps_115 rfl (lv_at hl 0 rfl) ?_
          refine lv_iload_n hx hb dL_swaps_116 rfl (lv_at hl 1 rfl) ?_
          refine lv_iload_n hx hb dL_swaps_117 rfl (lv_at hl 2 rfl) ?_
          have hWua6 : Wd g c lh rs R hq := hWd
          refine u_i (ru_V (As := [.int (nI a), .int (nI b)]) (rest := []) F h hWd.1 rfl (k_X7_swap l g n c lh 0 rs hWua6.1 R hWua6.2.1 hWua6.2.2.2.2 hq hWua6.2.2.1 J.wb (nI a) (nI b) sc sc J.s4 J.s5) (gV hjl wd_676 wd_677 wd_678 wd_16 wd_679) rfl 2 (by decide +kernel) rfl ⟨Nat.le_of_ble_eq_true rfl, Nat.le_of_ble_eq_true rfl⟩ rfl hl.1 (Nat.le_of_ble_eq_true rfl) ⟨Nat.zero_le _, Nat.zero_le _⟩ dL_swaps_118) h (fun ra6 na6 ca6 H locs hp h => ?_)
          obtain ⟨hna6, hxa6, hWa6, hFa6⟩ := paW hp hWua6 (by omega) (sw_nh ha4 hb4 hab (Or.inr nb)) (hWua6).2.2.2.2
          subst hxa6
          refine lv_istore (lv' := [(9, .int (-100003)), (0, .ref (gz g + 0)), (1, .int (nI a)), (2, .int (nI b)), (3, .int 0), (4, .int (R (5 + 11 * a + 1))), (5, .int (-100005)), (6, .int (R (5 + 11 * a + 3))), (8, .int (vsI R sc)), (7, .int (gnF R a b sc))]) hx hb dL_swaps_121 hl (by decide) rfl (fun ls hl => ?_)
          refine lv_iload_n hx hb dL_swaps_123 rfl (lv_at hl 2 rfl) ?_
          refine lv_iload_n hx hb dL_swaps_124 rfl (lv_at hl 3 rfl) ?_
          refine lv_icmp_eq (tgt := 132) hx hb dL_swaps_125 (by decide) (fun b_125 => by first | exact absurd b_125 (fun z => hab ((nI_eq (by omega) (by omega)).mp z)) | exact absurd (fun z => hab ((nI_eq (by omega) (by omega)).mp z)) b_125) (fun b_125 => ?_)
          refine lv_iload_n hx hb dL_swaps_128 rfl (lv_at hl 4 rfl) ?_
          refine lv_if_ne (tgt := 165) hx hb dL_swaps_129 (by decide) (fun b_129 => by first | exact absurd b_129 (by decide) | exact absurd (by decide) b_129) (fun b_129 => ?_)
          refine lv_iload hx hb dL_swaps_132 (lv_at hl 0 rfl) ?_
          refine lv_iload_n hx hb dL_swaps_134 rfl (lv_at hl 2 rfl) ?_
          refine lv_iload_n hx hb dL_swaps_135 rfl (lv_at hl 3 rfl) ?_
          refine lv_icmp_ne (tgt := 144) hx hb dL_swaps_136 (by decide) (fun b_136 => ?_) (fun b_136 => by first | exact absurd (fun z => hab ((nI_eq (by omega) (by omega)).mp z)) b_136 | exact absurd b_136 (fun z => hab ((nI_eq (by omega) (by omega)).mp z)))
          refine lv_ldc (v := (-100003)) hx hb F.2.2.2.1 (F.2.2.2.2.1 (Cond.constant RL 74 (-100003)) (List.mem_cons_of_mem _ wd_660)) dL_swaps_144 ?_
          refine lv_icmp_ne (tgt := 163) hx hb dL_swaps_146 (by decide) (fun b_146 => by first | exact absurd b_146 (by decide) | exact absurd (by decide) b_146) (fun b_146 => ?_)
          refine lv_aload_n hx hb dL_swaps_149 rfl (lv_at hl 1 rfl) ?_
          refine lv_iconst (v := 5) hx hb dL_swaps_150 (by decide) ?_
          refine u_iE (v := vsI R sc) (ru_V (As := [.int 5]) (rest := []) F h hWa6.1 rfl (kw_count l g na6 ca6 hWa6 J 5 (v := vsI R sc) (rfl)) (gV hjl wd_399 wd_400 wd_401 wd_16 wd_402) rfl 1 (by decide +kernel) rfl ⟨Nat.le_of_ble_eq_true rfl, Nat.le_of_ble_eq_true rfl⟩ rfl hl.1 (Nat.le_of_ble_eq_true rfl) ⟨Nat.zero_le _, Nat.zero_le _⟩ dL_swaps_151) h (fun H locs h => ?_)
          refine lv_iload hx hb dL_swaps_154 (lv_at hl 8 rfl) ?_
          refine lv_icmp_ne (tgt := 163) hx hb dL_swaps_156 (by decide) (fun b_156 => by first | exact absurd b_156 (rfl) | exact absurd (rfl) b_156) (fun b_156 => ?_)
          refine lv_iconst (v := 1) hx hb dL_swaps_159 (by decide) ?_
          refine lv_goto (tgt := 164) hx hb dL_swaps_160 (by decide) ?_
          exact ret_z F h (by decide) (Nat.zero_le _) (Nat.zero_le _) dL_swaps_164 (⟨rfl, by omega, _, _, _, _, hWa6, J⟩)
        have hs5 : s1 < sc := lp_lt (N := sc) rfl (by omega) (by omega) b_68
        by_cases va : R (84 + 6 * (4 * s1 + a) + 0) = 0
        · skip
          have hs5 : s1 < sc := lp_lt (N := sc) rfl (by omega) (by omega) b_68
          by_cases vb : R (84 + 6 * (4 * s1 + b) + 0) = 0
          · skip
            have hs5 : s1 < sc := lp_lt (N := sc) rfl (by omega) (by omega) b_68
            refine lv_iload hx hb dL_swaps_71 (lv_at hl 8 rfl) ?_
            refine lv_aload_n hx hb dL_swaps_73 rfl (lv_at hl 0 rfl) ?_
            refine lv_iload hx hb dL_swaps_74 (lv_at hl 9 rfl) ?_
            refine lv_iload_n hx hb dL_swaps_76 rfl (lv_at hl 1 rfl) ?_
            refine lv_iconst (v := 3) hx hb dL_swaps_77 (by decide) ?_
            refine u_iE (v := (-100005)) (ru_V (As := [.int (nI s1), .int (nI a), .int 3]) (rest := [.int (gnF R a b s1)]) F h hWd.1 rfl (kw_observation l g n c hWd J (nI s1) (nI a) 3 (v := (-100005)) (ob_n J.s4 J.s5 hs5 ha4 va (by decide))) (gV hjl wd_518 wd_519 wd_520 wd_16 wd_521) rfl 3 (by decide +kernel) rfl ⟨Nat.le_of_ble_eq_true rfl, Nat.le_of_ble_eq_true rfl⟩ rfl hl.1 (Nat.le_of_ble_eq_true rfl) ⟨Nat.zero_le _, Nat.zero_le _⟩ dL_swaps_78) h (fun H locs h => ?_)
            refine lv_if_lt (tgt := 88) hx hb dL_swaps_81 (by decide) (fun b_81 => ?_) (fun b_81 => by first | exact absurd (by decide) b_81 | exact absurd b_81 (by decide))
            refine lv_iconst (v := 0) hx hb dL_swaps_88 (by decide) ?_
            refine lv_aload_n hx hb dL_swaps_89 rfl (lv_at hl 0 rfl) ?_
            refine lv_iload hx hb dL_swaps_90 (lv_at hl 9 rfl) ?_
            refine lv_iload_n hx hb dL_swaps_92 rfl (lv_at hl 2 rfl) ?_
            refine lv_iconst (v := 3) hx hb dL_swaps_93 (by decide) ?_
            refine u_iE (v := (-100005)) (ru_V (As := [.int (nI s1), .int (nI b), .int 3]) (rest := [.int 0, .int (gnF R a b s1)]) F h hWd.1 rfl (kw_observation l g n c hWd J (nI s1) (nI b) 3 (v := (-100005)) (ob_n J.s4 J.s5 hs5 hb4 vb (by decide))) (gV hjl wd_518 wd_519 wd_520 wd_16 wd_521) rfl 3 (by decide +kernel) rfl ⟨Nat.le_of_ble_eq_true rfl, Nat.le_of_ble_eq_true rfl⟩ rfl hl.1 (Nat.le_of_ble_eq_true rfl) ⟨Nat.zero_le _, Nat.zero_le _⟩ dL_swaps_94) h (fun H locs h => ?_)
            refine lv_if_lt (tgt := 104) hx hb dL_swaps_97 (by decide) (fun b_97 => ?_) (fun b_97 => by first | exact absurd (by decide) b_97 | exact absurd b_97 (by decide))
            refine lv_iconst (v := 0) hx hb dL_swaps_104 (by decide) ?_
            refine lv_iadd hx hb dL_swaps_105 ?_
            refine lv_iadd hx hb dL_swaps_106 ?_
            refine lv_istore (lv' := [(7, .int (gnF R a b s1 + (0 + 0))), (0, .ref (gz g + 0)), (1, .int (nI a)), (2, .int (nI b)), (3, .int 0), (4, .int (R (5 + 11 * a + 1))), (5, .int (-100005)), (6, .int (R (5 + 11 * a + 3))), (8, .int (vsI R sc)), (9, .int (nI s1))]) hx hb dL_swaps_107 hl (by decide) rfl (fun ls hl => ?_)
            have hl : lv_has ls 10 [(7, .int (gnF R a b (s1 + 1))), (0, .ref (gz g + 0)), (1, .int (nI a)), (2, .int (nI b)), (3, .int 0), (4, .int (R (5 + 11 * a + 1))), (5, .int (-100005)), (6, .int (R (5 + 11 * a + 3))), (8, .int (vsI R sc)), (9, .int (nI s1))] := by rw [show (gnF R a b (s1 + 1) : Int32) = (gnF R a b s1 + (0 + 0)) from (show gnF R a b (s1 + 1) = gnF R a b s1 + ((if R (84 + 6 * (4 * s1 + a) + 0) = 0 then 0 else 1) + (if R (84 + 6 * (4 * s1 + b) + 0) = 0 then 0 else 1)) from rfl).trans (by rw [if_pos va, if_pos vb])]; exact hl
            refine lv_iinc (v := nI (s1 + 1)) (lv' := [(9, .int (nI (s1 + 1))), (7, .int (gnF R a b (s1 + 1))), (0, .ref (gz g + 0)), (1, .int (nI a)), (2, .int (nI b)), (3, .int 0), (4, .int (R (5 + 11 * a + 1))), (5, .int (-100005)), (6, .int (R (5 + 11 * a + 3))), (8, .int (vsI R sc))]) hx hb dL_swaps_109 hl (k := 9) rfl (by exact (nI_succ s1).symm) (by decide) rfl (fun ls hl => ?_)
            refine lv_goto (tgt := 61) hx hb dL_swaps_112 (by decide) ?_
            exact ih_lg (s1 + 1) (by omega) _ _ _ (by omega) h (lv_sub hl [2, 3, 4, 5, 6, 7, 8, 9, 1, 0] rfl)
          refine lv_iload hx hb dL_swaps_71 (lv_at hl 8 rfl) ?_
          refine lv_aload_n hx hb dL_swaps_73 rfl (lv_at hl 0 rfl) ?_
          refine lv_iload hx hb dL_swaps_74 (lv_at hl 9 rfl) ?_
          refine lv_iload_n hx hb dL_swaps_76 rfl (lv_at hl 1 rfl) ?_
          refine lv_iconst (v := 3) hx hb dL_swaps_77 (by decide) ?_
          refine u_iE (v := (-100005)) (ru_V (As := [.int (nI s1), .int (nI a), .int 3]) (rest := [.int (gnF R a b s1)]) F h hWd.1 rfl (kw_observation l g n c hWd J (nI s1) (nI a) 3 (v := (-100005)) (ob_n J.s4 J.s5 hs5 ha4 va (by decide))) (gV hjl wd_518 wd_519 wd_520 wd_16 wd_521) rfl 3 (by decide +kernel) rfl ⟨Nat.le_of_ble_eq_true rfl, Nat.le_of_ble_eq_true rfl⟩ rfl hl.1 (Nat.le_of_ble_eq_true rfl) ⟨Nat.zero_le _, Nat.zero_le _⟩ dL_swaps_78) h (fun H locs h => ?_)
          refine lv_if_lt (tgt := 88) hx hb dL_swaps_81 (by decide) (fun b_81 => ?_) (fun b_81 => by first | exact absurd (by decide) b_81 | exact absurd b_81 (by decide))
          refine lv_iconst (v := 0) hx hb dL_swaps_88 (by decide) ?_
          refine lv_aload_n hx hb dL_swaps_89 rfl (lv_at hl 0 rfl) ?_
          refine lv_iload hx hb dL_swaps_90 (lv_at hl 9 rfl) ?_
          refine lv_iload_n hx hb dL_swaps_92 rfl (lv_at hl 2 rfl) ?_
          refine lv_iconst (v := 3) hx hb dL_swaps_93 (by decide) ?_
          refine u_iE (v := R (84 + 6 * (4 * s1 + b) + 4)) (ru_V (As := [.int (nI s1), .int (nI b), .int 3]) (rest := [.int 0, .int (gnF R a b s1)]) F h hWd.1 rfl (kw_observation l g n c hWd J (nI s1) (nI b) 3 (v := R (84 + 6 * (4 * s1 + b) + 4)) (ob_3 J.s4 J.s5 hs5 hb4 vb)) (gV hjl wd_518 wd_519 wd_520 wd_16 wd_521) rfl 3 (by decide +kernel) rfl ⟨Nat.le_of_ble_eq_true rfl, Nat.le_of_ble_eq_true rfl⟩ rfl hl.1 (Nat.le_of_ble_eq_true rfl) ⟨Nat.zero_le _, Nat.zero_le _⟩ dL_swaps_94) h (fun H locs h => ?_)
          refine lv_if_lt (tgt := 104) hx hb dL_swaps_97 (by decide) (fun b_97 => by first | exact absurd b_97 (i_nlt (bt_ge (J.v hs5 hb4 (b01_of (J.ob (by omega) hb4) vb)).2.2.1 0 (by decide))) | exact absurd (i_nlt (bt_ge (J.v hs5 hb4 (b01_of (J.ob (by omega) hb4) vb)).2.2.1 0 (by decide))) b_97) (fun b_97 => ?_)
          refine lv_iconst (v := 1) hx hb dL_swaps_100 (by decide) ?_
          refine lv_goto (tgt := 105) hx hb dL_swaps_101 (by decide) ?_
          refine lv_iadd hx hb dL_swaps_105 ?_
          refine lv_iadd hx hb dL_swaps_106 ?_
          refine lv_istore (lv' := [(7, .int (gnF R a b s1 + (0 + 1))), (0, .ref (gz g + 0)), (1, .int (nI a)), (2, .int (nI b)), (3, .int 0), (4, .int (R (5 + 11 * a + 1))), (5, .int (-100005)), (6, .int (R (5 + 11 * a + 3))), (8, .int (vsI R sc)), (9, .int (nI s1))]) hx hb dL_swaps_107 hl (by decide) rfl (fun ls hl => ?_)
          have hl : lv_has ls 10 [(7, .int (gnF R a b (s1 + 1))), (0, .ref (gz g + 0)), (1, .int (nI a)), (2, .int (nI b)), (3, .int 0), (4, .int (R (5 + 11 * a + 1))), (5, .int (-100005)), (6, .int (R (5 + 11 * a + 3))), (8, .int (vsI R sc)), (9, .int (nI s1))] := by rw [show (gnF R a b (s1 + 1) : Int32) = (gnF R a b s1 + (0 + 1)) from (show gnF R a b (s1 + 1) = gnF R a b s1 + ((if R (84 + 6 * (4 * s1 + a) + 0) = 0 then 0 else 1) + (if R (84 + 6 * (4 * s1 + b) + 0) = 0 then 0 else 1)) from rfl).trans (by rw [if_pos va, if_neg vb])]; exact hl
          refine lv_iinc (v := nI (s1 + 1)) (lv' := [(9, .int (nI (s1 + 1))), (7, .int (gnF R a b (s1 + 1))), (0, .ref (gz g + 0)), (1, .int (nI a)), (2, .int (nI b)), (3, .int 0), (4, .int (R (5 + 11 * a + 1))), (5, .int (-100005)), (6, .int (R (5 + 11 * a + 3))), (8, .int (vsI R sc))]) hx hb dL_swaps_109 hl (k := 9) rfl (by exact (nI_succ s1).symm) (by decide) rfl (fun ls hl => ?_)
          refine lv_goto (tgt := 61) hx hb dL_swaps_112 (by decide) ?_
          exact ih_lg (s1 + 1) (by omega) _ _ _ (by omega) h (lv_sub hl [2, 3, 4, 5, 6, 7, 8, 9, 1, 0] rfl)
        by_cases vb : R (84 + 6 * (4 * s1 + b) + 0) = 0
        · skip
          have hs5 : s1 < sc := lp_lt (N := sc) rfl (by omega) (by omega) b_68
          refine lv_iload hx hb dL_swaps_71 (lv_at hl 8 rfl) ?_
          refine lv_aload_n hx hb dL_swaps_73 rfl (lv_at hl 0 rfl) ?_
          refine lv_iload hx hb dL_swaps_74 (lv_at hl 9 rfl) ?_
          refine lv_iload_n hx hb dL_swaps_76 rfl (lv_at hl 1 rfl) ?_
          refine lv_iconst (v := 3) hx hb dL_swaps_77 (by decide) ?_
          refine u_iE (v := R (84 + 6 * (4 * s1 + a) + 4)) (ru_V (As := [.int (nI s1), .int (nI a), .int 3]) (rest := [.int (gnF R a b s1)]) F h hWd.1 rfl (kw_observation l g n c hWd J (nI s1) (nI a) 3 (v := R (84 + 6 * (4 * s1 + a) + 4)) (ob_3 J.s4 J.s5 hs5 ha4 va)) (gV hjl wd_518 wd_519 wd_520 wd_16 wd_521) rfl 3 (by decide +kernel) rfl ⟨Nat.le_of_ble_eq_true rfl, Nat.le_of_ble_eq_true rfl⟩ rfl hl.1 (Nat.le_of_ble_eq_true rfl) ⟨Nat.zero_le _, Nat.zero_le _⟩ dL_swaps_78) h (fun H locs h => ?_)
          refine lv_if_lt (tgt := 88) hx hb dL_swaps_81 (by decide) (fun b_81 => by first | exact absurd b_81 (i_nlt (bt_ge (J.v hs5 ha4 (b01_of (J.ob (by omega) ha4) va)).2.2.1 0 (by decide))) | exact absurd (i_nlt (bt_ge (J.v hs5 ha4 (b01_of (J.ob (by omega) ha4) va)).2.2.1 0 (by decide))) b_81) (fun b_81 => ?_)
          refine lv_iconst (v := 1) hx hb dL_swaps_84 (by decide) ?_
          refine lv_goto (tgt := 89) hx hb dL_swaps_85 (by decide) ?_
          refine lv_aload_n hx hb dL_swaps_89 rfl (lv_at hl 0 rfl) ?_
          refine lv_iload hx hb dL_swaps_90 (lv_at hl 9 rfl) ?_
          refine lv_iload_n hx hb dL_swaps_92 rfl (lv_at hl 2 rfl) ?_
          refine lv_iconst (v := 3) hx hb dL_swaps_93 (by decide) ?_
          refine u_iE (v := (-100005)) (ru_V (As := [.int (nI s1), .int (nI b), .int 3]) (rest := [.int 1, .int (gnF R a b s1)]) F h hWd.1 rfl (kw_observation l g n c hWd J (nI s1) (nI b) 3 (v := (-100005)) (ob_n J.s4 J.s5 hs5 hb4 vb (by decide))) (gV hjl wd_518 wd_519 wd_520 wd_16 wd_521) rfl 3 (by decide +kernel) rfl ⟨Nat.le_of_ble_eq_true rfl, Nat.le_of_ble_eq_true rfl⟩ rfl hl.1 (Nat.le_of_ble_eq_true rfl) ⟨Nat.zero_le _, Nat.zero_le _⟩ dL_swaps_94) h (fun H locs h => ?_)
          refine lv_if_lt (tgt := 104) hx hb dL_swaps_97 (by decide) (fun b_97 => ?_) (fun b_97 => by first | exact absurd (by decide) b_97 | exact absurd b_97 (by decide))
          refine lv_iconst (v := 0) hx hb dL_swaps_104 (by decide) ?_
          refine lv_iadd hx hb dL_swaps_105 ?_
          refine lv_iadd hx hb dL_swaps_106 ?_
          refine lv_istore (lv' := [(7, .int (gnF R a b s1 + (1 + 0))), (0, .ref (gz g + 0)), (1, .int (nI a)), (2, .int (nI b)), (3, .int 0), (4, .int (R (5 + 11 * a + 1))), (5, .int (-100005)), (6, .int (R (5 + 11 * a + 3))), (8, .int (vsI R sc)), (9, .int (nI s1))]) hx hb dL_swaps_107 hl (by decide) rfl (fun ls hl => ?_)
          have hl : lv_has ls 10 [(7, .int (gnF R a b (s1 + 1))), (0, .ref (gz g + 0)), (1, .int (nI a)), (2, .int (nI b)), (3, .int 0), (4, .int (R (5 + 11 * a + 1))), (5, .int (-100005)), (6, .int (R (5 + 11 * a + 3))), (8, .int (vsI R sc)), (9, .int (nI s1))] := by rw [show (gnF R a b (s1 + 1) : Int32) = (gnF R a b s1 + (1 + 0)) from (show gnF R a b (s1 + 1) = gnF R a b s1 + ((if R (84 + 6 * (4 * s1 + a) + 0) = 0 then 0 else 1) + (if R (84 + 6 * (4 * s1 + b) + 0) = 0 then 0 else 1)) from rfl).trans (by rw [if_neg va, if_pos vb])]; exact hl
          refine lv_iinc (v := nI (s1 + 1)) (lv' := [(9, .int (nI (s1 + 1))), (7, .int (gnF R a b (s1 + 1))), (0, .ref (gz g + 0)), (1, .int (nI a)), (2, .int (nI b)), (3, .int 0), (4, .int (R (5 + 11 * a + 1))), (5, .int (-100005)), (6, .int (R (5 + 11 * a + 3))), (8, .int (vsI R sc))]) hx hb dL_swaps_109 hl (k := 9) rfl (by exact (nI_succ s1).symm) (by decide) rfl (fun ls hl => ?_)
          refine lv_goto (tgt := 61) hx hb dL_swaps_112 (by decide) ?_
          exact ih_lg (s1 + 1) (by omega) _ _ _ (by omega) h (lv_sub hl [2, 3, 4, 5, 6, 7, 8, 9, 1, 0] rfl)
        refine lv_iload hx hb dL_swaps_71 (lv_at hl 8 rfl) ?_
        refine lv_aload_n hx hb dL_swaps_73 rfl (lv_at hl 0 rfl) ?_
        refine lv_iload hx hb dL_swaps_74 (lv_at hl 9 rfl) ?_
        refine lv_iload_n hx hb dL_swaps_76 rfl (lv_at hl 1 rfl) ?_
        refine lv_iconst (v := 3) hx hb dL_swaps_77 (by decide) ?_
        refine u_iE (v := R (84 + 6 * (4 * s1 + a) + 4)) (ru_V (As := [.int (nI s1), .int (nI a), .int 3]) (rest := [.int (gnF R a b s1)]) F h hWd.1 rfl (kw_observation l g n c hWd J (nI s1) (nI a) 3 (v := R (84 + 6 * (4 * s1 + a) + 4)) (ob_3 J.s4 J.s5 hs5 ha4 va)) (gV hjl wd_518 wd_519 wd_520 wd_16 wd_521) rfl 3 (by decide +kernel) rfl ⟨Nat.le_of_ble_eq_true rfl, Nat.le_of_ble_eq_true rfl⟩ rfl hl.1 (Nat.le_of_ble_eq_true rfl) ⟨Nat.zero_le _, Nat.zero_le _⟩ dL_swaps_78) h (fun H locs h => ?_)
        refine lv_if_lt (tgt := 88) hx hb dL_swaps_81 (by decide) (fun b_81 => by first | exact absurd b_81 (i_nlt (bt_ge (J.v hs5 ha4 (b01_of (J.ob (by omega) ha4) va)).2.2.1 0 (by decide))) | exact absurd (i_nlt (bt_ge (J.v hs5 ha4 (b01_of (J.ob (by omega) ha4) va)).2.2.1 0 (by decide))) b_81) (fun b_81 => ?_)
        refine lv_iconst (v := 1) hx hb dL_swaps_84 (by decide) ?_
        refine lv_goto (tgt := 89) hx hb dL_swaps_85 (by decide) ?_
        refine lv_aload_n hx hb dL_swaps_89 rfl (lv_at hl 0 rfl) ?_
        refine lv_iload hx hb dL_swaps_90 (lv_at hl 9 rfl) ?_
        refine lv_iload_n hx hb dL_swaps_92 rfl (lv_at hl 2 rfl) ?_
        refine lv_iconst (v := 3) hx hb dL_swaps_93 (by decide) ?_
        refine u_iE (v := R (84 + 6 * (4 * s1 + b) + 4)) (ru_V (As := [.int (nI s1), .int (nI b), .int 3]) (rest := [.int 1, .int (gnF R a b s1)]) F h hWd.1 rfl (kw_observation l g n c hWd J (nI s1) (nI b) 3 (v := R (84 + 6 * (4 * s1 + b) + 4)) (ob_3 J.s4 J.s5 hs5 hb4 vb)) (gV hjl wd_518 wd_519 wd_520 wd_16 wd_521) rfl 3 (by decide +kernel) rfl ⟨Nat.le_of_ble_eq_true rfl, Nat.le_of_ble_eq_true rfl⟩ rfl hl.1 (Nat.le_of_ble_eq_true rfl) ⟨Nat.zero_le _, Nat.zero_le _⟩ dL_swaps_94) h (fun H locs h => ?_)
        refine lv_if_lt (tgt := 104) hx hb dL_swaps_97 (by decide) (fun b_97 => by first | exact absurd b_97 (i_nlt (bt_ge (J.v hs5 hb4 (b01_of (J.ob (by omega) hb4) vb)).2.2.1 0 (by decide))) | exact absurd (i_nlt (bt_ge (J.v hs5 hb4 (b01_of (J.ob (by omega) hb4) vb)).2.2.1 0 (by decide))) b_97) (fun b_97 => ?_)
        refine lv_iconst (v := 1) hx hb dL_swaps_100 (by decide) ?_
        refine lv_goto (tgt := 105) hx hb dL_swaps_101 (by decide) ?_
        refine lv_iadd hx hb dL_swaps_105 ?_
        refine lv_iadd hx hb dL_swaps_106 ?_
        refine lv_istore (lv' := [(7, .int (gnF R a b s1 + (1 + 1))), (0, .ref (gz g + 0)), (1, .int (nI a)), (2, .int (nI b)), (3, .int 0), (4, .int (R (5 + 11 * a + 1))), (5, .int (-100005)), (6, .int (R (5 + 11 * a + 3))), (8, .int (vsI R sc)), (9, .int (nI s1))]) hx hb dL_swaps_107 hl (by decide) rfl (fun ls hl => ?_)
        have hl : lv_has ls 10 [(7, .int (gnF R a b (s1 + 1))), (0, .ref (gz g + 0)), (1, .int (nI a)), (2, .int (nI b)), (3, .int 0), (4, .int (R (5 + 11 * a + 1))), (5, .int (-100005)), (6, .int (R (5 + 11 * a + 3))), (8, .int (vsI R sc)), (9, .int (nI s1))] := by rw [show (gnF R a b (s1 + 1) : Int32) = (gnF R a b s1 + (1 + 1)) from (show gnF R a b (s1 + 1) = gnF R a b s1 + ((if R (84 + 6 * (4 * s1 + a) + 0) = 0 then 0 else 1) + (if R (84 + 6 * (4 * s1 + b) + 0) = 0 then 0 else 1)) from rfl).trans (by rw [if_neg va, if_neg vb])]; exact hl
        refine lv_iinc (v := nI (s1 + 1)) (lv' := [(9, .int (nI (s1 + 1))), (7, .int (gnF R a b (s1 + 1))), (0, .ref (gz g + 0)), (1, .int (nI a)), (2, .int (nI b)), (3, .int 0), (4, .int (R (5 + 11 * a + 1))), (5, .int (-100005)), (6, .int (R (5 + 11 * a + 3))), (8, .int (vsI R sc))]) hx hb dL_swaps_109 hl (k := 9) rfl (by exact (nI_succ s1).symm) (by decide) rfl (fun ls hl => ?_)
        refine lv_goto (tgt := 61) hx hb dL_swaps_112 (by decide) ?_
        exact ih_lg (s1 + 1) (by omega) _ _ _ (by omega) h (lv_sub hl [2, 3, 4, 5, 6, 7, 8, 9, 1, 0] rfl)
    exact lg _ 0 (Nat.zero_le _) _ _ _ (Nat.le_refl _) h (lv_sub hl [7, 8, 9, 6, 5, 4, 3, 1, 2, 0] rfl)
  by_cases hab : a = b
  · skip
    have h1 := b01_of (J.b ha4) na
    have h2 := b01_of (J.b hb4) nb
    refine lv_aload_n hx hb dL_swaps_0 rfl (lv_at hl 0 rfl) ?_
    refine lv_iload_n hx hb dL_swaps_1 rfl (lv_at hl 1 rfl) ?_
    refine lv_iconst (v := 2) hx hb dL_swaps_2 (by decide) ?_
    refine u_iE (v := R (5 + 11 * a + 3)) (ru_V (As := [.int (nI a), .int 2]) (rest := []) F h hWd.1 rfl (kw_wire l g n c hWd J (nI a) 2 (v := R (5 + 11 * a + 3)) (wi_2 ha4 (b01_of (J.b ha4) na))) (gV hjl wd_390 wd_391 wd_392 wd_16 wd_393) rfl 2 (by decide +kernel) rfl ⟨Nat.le_of_ble_eq_true rfl, Nat.le_of_ble_eq_true rfl⟩ rfl hl.1 (Nat.le_of_ble_eq_true rfl) ⟨Nat.zero_le _, Nat.zero_le _⟩ dL_swaps_3) h (fun H locs h => ?_)
    refine lv_if_le (tgt := 22) hx hb dL_swaps_6 (by decide) (fun b_6 => by first | exact absurd b_6 (i_nle (bt_gt (J.wg ha4 h1).2.2.1 0 (by decide))) | exact absurd (i_nle (bt_gt (J.wg ha4 h1).2.2.1 0 (by decide))) b_6) (fun b_6 => ?_)
    refine lv_aload_n hx hb dL_swaps_9 rfl (lv_at hl 0 rfl) ?_
    refine lv_iload_n hx hb dL_swaps_10 rfl (lv_at hl 2 rfl) ?_
    refine lv_iconst (v := 2) hx hb dL_swaps_11 (by decide) ?_
    refine u_iE (v := R (5 + 11 * b + 3)) (ru_V (As := [.int (nI b), .int 2]) (rest := []) F h hWd.1 rfl (kw_wire l g n c hWd J (nI b) 2 (v := R (5 + 11 * b + 3)) (wi_2 hb4 (b01_of (J.b hb4) nb))) (gV hjl wd_390 wd_391 wd_392 wd_16 wd_393) rfl 2 (by decide +kernel) rfl ⟨Nat.le_of_ble_eq_true rfl, Nat.le_of_ble_eq_true rfl⟩ rfl hl.1 (Nat.le_of_ble_eq_true rfl) ⟨Nat.zero_le _, Nat.zero_le _⟩ dL_swaps_12) h (fun H locs h => ?_)
    refine lv_if_le (tgt := 22) hx hb dL_swaps_15 (by decide) (fun b_15 => by first | exact absurd b_15 (i_nle (bt_gt (J.wg hb4 h2).2.2.1 0 (by decide))) | exact absurd (i_nle (bt_gt (J.wg hb4 h2).2.2.1 0 (by decide))) b_15) (fun b_15 => ?_)
    refine lv_iconst (v := 1) hx hb dL_swaps_18 (by decide) ?_
    refine lv_goto (tgt := 23) hx hb dL_swaps_19 (by decide) ?_
    refine lv_istore_n (lv' := [(3, .int 1), (0, .ref (gz g + 0)), (1, .int (nI a)), (2, .int (nI b))]) hx hb dL_swaps_23 rfl hl (by decide) rfl (fun ls hl => ?_)
    refine lv_aload_n hx hb dL_swaps_24 rfl (lv_at hl 1 rfl) ?_
    refine lv_iload_n hx hb dL_swaps_25 rfl (lv_at hl 2 rfl) ?_
    refine lv_iconst (v := 0) hx hb dL_swaps_26 (by decide) ?_
    refine u_iE (v := R (5 + 11 * a + 1)) (ru_V (As := [.int (nI a), .int 0]) (rest := []) F h hWd.1 rfl (kw_wire l g n c hWd J (nI a) 0 (v := R (5 + 11 * a + 1)) (wi_0 ha4 (b01_of (J.b ha4) na))) (gV hjl wd_390 wd_391 wd_392 wd_16 wd_393) rfl 2 (by decide +kernel) rfl ⟨Nat.le_of_ble_eq_true rfl, Nat.le_of_ble_eq_true rfl⟩ rfl hl.1 (Nat.le_of_ble_eq_true rfl) ⟨Nat.zero_le _, Nat.zero_le _⟩ dL_swaps_27) h (fun H locs h => ?_)
    refine lv_istore (lv' := [(4, .int (R (5 + 11 * a + 1))), (3, .int 1), (0, .ref (gz g + 0)), (1, .int (nI a)), (2, .int (nI b))]) hx hb dL_swaps_30 hl (by decide) rfl (fun ls hl => ?_)
    refine lv_aload_n hx hb dL_swaps_32 rfl (lv_at hl 2 rfl) ?_
    refine lv_iload_n hx hb dL_swaps_33 rfl (lv_at hl 4 rfl) ?_
    refine lv_iconst (v := 1) hx hb dL_swaps_34 (by decide) ?_
    refine u_iE (v := R (5 + 11 * b + 2)) (ru_V (As := [.int (nI b), .int 1]) (rest := []) F h hWd.1 rfl (kw_wire l g n c hWd J (nI b) 1 (v := R (5 + 11 * b + 2)) (wi_1 hb4 (b01_of (J.b hb4) nb))) (gV hjl wd_390 wd_391 wd_392 wd_16 wd_393) rfl 2 (by decide +kernel) rfl ⟨Nat.le_of_ble_eq_true rfl, Nat.le_of_ble_eq_true rfl⟩ rfl hl.1 (Nat.le_of_ble_eq_true rfl) ⟨Nat.zero_le _, Nat.zero_le _⟩ dL_swaps_35) h (fun H locs h => ?_)
    refine lv_istore (lv' := [(5, .int (R (5 + 11 * b + 2))), (4, .int (R (5 + 11 * a + 1))), (3, .int 1), (0, .ref (gz g + 0)), (1, .int (nI a)), (2, .int (nI b))]) hx hb dL_swaps_38 hl (by decide) rfl (fun ls hl => ?_)
    refine lv_aload_n hx hb dL_swaps_40 rfl (lv_at hl 3 rfl) ?_
    refine lv_iload_n hx hb dL_swaps_41 rfl (lv_at hl 4 rfl) ?_
    refine lv_iconst (v := 2) hx hb dL_swaps_42 (by decide) ?_
    refine u_iE (v := R (5 + 11 * a + 3)) (ru_V (As := [.int (nI a), .int 2]) (rest := []) F h hWd.1 rfl (kw_wire l g n c hWd J (nI a) 2 (v := R (5 + 11 * a + 3)) (wi_2 ha4 (b01_of (J.b ha4) na))) (gV hjl wd_390 wd_391 wd_392 wd_16 wd_393) rfl 2 (by decide +kernel) rfl ⟨Nat.le_of_ble_eq_true rfl, Nat.le_of_ble_eq_true rfl⟩ rfl hl.1 (Nat.le_of_ble_eq_true rfl) ⟨Nat.zero_le _, Nat.zero_le _⟩ dL_swaps_43) h (fun H locs h => ?_)
    refine lv_istore (lv' := [(6, .int (R (5 + 11 * a + 3))), (5, .int (R (5 + 11 * b + 2))), (4, .int (R (5 + 11 * a + 1))), (3, .int 1), (0, .ref (gz g + 0)), (1, .int (nI a)), (2, .int (nI b))]) hx hb dL_swaps_46 hl (by decide) rfl (fun ls hl => ?_)
    refine lv_iconst (v := 0) hx hb dL_swaps_48 (by decide) ?_
    refine lv_istore (lv' := [(7, .int 0), (6, .int (R (5 + 11 * a + 3))), (5, .int (R (5 + 11 * b + 2))), (4, .int (R (5 + 11 * a + 1))), (3, .int 1), (0, .ref (gz g + 0)), (1, .int (nI a)), (2, .int (nI b))]) hx hb dL_swaps_49 hl (by decide) rfl (fun ls hl => ?_)
    refine lv_aload_n hx hb dL_swaps_51 rfl (lv_at hl 5 rfl) ?_
    refine lv_iconst (v := 5) hx hb dL_swaps_52 (by decide) ?_
    refine u_iE (v := vsI R sc) (ru_V (As := [.int 5]) (rest := []) F h hWd.1 rfl (kw_count l g n c hWd J 5 (v := vsI R sc) (rfl)) (gV hjl wd_399 wd_400 wd_401 wd_16 wd_402) rfl 1 (by decide +kernel) rfl ⟨Nat.le_of_ble_eq_true rfl, Nat.le_of_ble_eq_true rfl⟩ rfl hl.1 (Nat.le_of_ble_eq_true rfl) ⟨Nat.zero_le _, Nat.zero_le _⟩ dL_swaps_53) h (fun H locs h => ?_)
    refine lv_istore (lv' := [(8, .int (vsI R sc)), (7, .int 0), (6, .int (R (5 + 11 * a + 3))), (5, .int (R (5 + 11 * b + 2))), (4, .int (R (5 + 11 * a + 1))), (3, .int 1), (0, .ref (gz g + 0)), (1, .int (nI a)), (2, .int (nI b))]) hx hb dL_swaps_56 hl (by decide) rfl (fun ls hl => ?_)
    refine lv_iconst (v := 0) hx hb dL_swaps_58 (by decide) ?_
    refine lv_istore (lv' := [(9, .int 0), (8, .int (vsI R sc)), (7, .int 0), (6, .int (R (5 + 11 * a + 3))), (5, .int (R (5 + 11 * b + 2))), (4, .int (R (5 + 11 * a + 1))), (3, .int 1), (0, .ref (gz g + 0)), (1, .int (nI a)), (2, .int (nI b))]) hx hb dL_swaps_59 hl (by decide) rfl (fun ls hl => ?_)
    have lg : ∀ (k : Nat) (s1 : Nat) (hs : s1 ≤ sc) (H : Heap) (locs : List Loc) (ls : Array Slot), (6 - s1) ≤ k → Hv g s H locs n c → lv_has ls 10 [(0, .ref (gz g + 0)), (1, .int (nI a)), (2, .int (nI b)), (3, .int 1), (4, .int (R (5 + 11 * a + 1))), (5, .int (R (5 + 11 * b + 2))), (6, .int (R (5 + 11 * a + 3))), (8, .int (vsI R sc)), (7, .int (gnF R a b s1)), (9, .int (nI s1))] → W p l e (Rm 5 109 0 0) s m args below meth c0 H locs 0 0 (MQ below (Qi g (fun xr n' c' => xr = 1 ∧ n ≤ n' ∧ ∃ (lh' : Nat) (rs' : Int32) (R' : Nat → Int32) (hq' : Nat → Nat → Int32), Wd g c' lh' rs' R' hq' ∧ Jv R' sc cn tb)) args s 0 0 (mAf g)) (F0 m 61 ls []) := by
      intro k_lg
      induction k_lg with
      | zero => intro s1 hs H locs ls hk h hl; exact absurd hk (by omega)
      | succ k_lg ih_lg =>
        intro s1 hs H locs ls hk_lg h hl
        refine lv_iload hx hb dL_swaps_61 (lv_at hl 9 rfl) ?_
        refine lv_aload_n hx hb dL_swaps_63 rfl (lv_at hl 0 rfl) ?_
        refine lv_iconst (v := 3) hx hb dL_swaps_64 (by decide) ?_
        refine u_iE (v := nI sc) (ru_V (As := [.int 3]) (rest := [.int (nI s1)]) F h hWd.1 rfl (kw_count l g n c hWd J 3 (v := nI sc) (J.s4)) (gV hjl wd_399 wd_400 wd_401 wd_16 wd_402) rfl 1 (by decide +kernel) rfl ⟨Nat.le_of_ble_eq_true rfl, Nat.le_of_ble_eq_true rfl⟩ rfl hl.1 (Nat.le_of_ble_eq_true rfl) ⟨Nat.zero_le _, Nat.zero_le _⟩ dL_swaps_65) h (fun H locs h => ?_)
        refine lv_icmp_ge (tgt := 115) hx hb dL_swaps_68 (by decide) (fun b_68 => ?_) (fun b_68 => ?_)
        · skip
          have e5 : s1 = sc := by have := lp_ge (N := sc) rfl (by omega) (by omega) b_68; omega
          have hl : lv_has ls 10 [(0, .ref (gz g + 0)), (1, .int (nI a)), (2, .int (nI b)), (3, .int 1), (4, .int (R (5 + 11 * a + 1))), (5, .int (R (5 + 11 * b + 2))), (6, .int (R (5 + 11 * a + 3))), (8, .int (vsI R sc)), (7, .int (gnF R a b sc)), (9, .int (nI s1))] := by rw [show (gnF R a b sc : Int32) = gnF R a b s1 from by rw [e5]]; exact hl
          refine lv_aload_n hx hb dL_swaps_115 rfl (lv_at hl 0 rfl) ?_
          refine lv_iload_n hx hb dL_swaps_116 rfl (lv_at hl 1 rfl) ?_
          refine lv_iload_n hx hb dL_swaps_117 rfl (lv_at hl 2 rfl) ?_
          have hWua7 : Wd g c lh rs R hq := hWd
          refine u_i (ru_V (As := [.int (nI a), .int (nI b)]) (rest := []) F h hWd.1 rfl (k_X7_swap l g n c lh 0 rs hWua7.1 R hWua7.2.1 hWua7.2.2.2.2 hq hWua7.2.2.1 J.wb (nI a) (nI b) sc sc J.s4 J.s5) (gV hjl wd_676 wd_677 wd_678 wd_16 wd_679) rfl 2 (by decide +kernel) rfl ⟨Nat.le_of_ble_eq_true rfl, Nat.le_of_ble_eq_true rfl⟩ rfl hl.1 (Nat.le_of_ble_eq_true rfl) ⟨Nat.zero_le _, Nat.zero_le _⟩ dL_swaps_118) h (fun ra7 na7 ca7 H locs hp h => ?_)
          obtain ⟨hna7, hxa7, hWa7, hFa7⟩ := paW hp hWua7 (by omega) (by rw [← hab]; exact sw_same ha4) (hWua7).2.2.2.2
          subst hxa7
          refine lv_istore (lv' := [(9, .int (-100002)), (0, .ref (gz g + 0)), (1, .int (nI a)), (2, .int (nI b)), (3, .int 1), (4, .int (R (5 + 11 * a + 1))), (5, .int (R (5 + 11 * b + 2))), (6, .int (R (5 + 11 * a + 3))), (8, .int (vsI R sc)), (7, .int (gnF R a b sc))]) hx hb dL_swaps_121 hl (by decide) rfl (fun ls hl => ?_)
          refine lv_iload_n hx hb dL_swaps_123 rfl (lv_at hl 2 rfl) ?_
          refine lv_iload_n hx hb dL_swaps_124 rfl (lv_at hl 3 rfl) ?_
          refine lv_icmp_eq (tgt := 132) hx hb dL_swaps_125 (by decide) (fun b_125 => ?_) (fun b_125 => by first | exact absurd (congrArg nI hab) b_125 | exact absurd b_125 (congrArg nI hab))
          refine lv_iload hx hb dL_swaps_132 (lv_at hl 0 rfl) ?_
          refine lv_iload_n hx hb dL_swaps_134 rfl (lv_at hl 2 rfl) ?_
          refine lv_iload_n hx hb dL_swaps_135 rfl (lv_at hl 3 rfl) ?_
          refine lv_icmp_ne (tgt := 144) hx hb dL_swaps_136 (by decide) (fun b_136 => by first | exact absurd b_136 (congrArg nI hab) | exact absurd (congrArg nI hab) b_136) (fun b_136 => ?_)
          refine lv_ldc (v := (-100002)) hx hb F.2.2.2.1 (F.2.2.2.2.1 (Cond.constant RL 15 (-100002)) (List.mem_cons_of_mem _ wd_442)) dL_swaps_139 ?_
          refine lv_goto (tgt := 146) hx hb dL_swaps_141 (by decide) ?_
          refine lv_icmp_ne (tgt := 163) hx hb dL_swaps_146 (by decide) (fun b_146 => by first | exact absurd b_146 (by decide) | exact absurd (by decide) b_146) (fun b_146 => ?_)
          refine lv_aload_n hx hb dL_swaps_149 rfl (lv_at hl 1 rfl) ?_
          refine lv_iconst (v := 5) hx hb dL_swaps_150 (by decide) ?_
          refine u_iE (v := vsI R sc) (ru_V (As := [.int 5]) (rest := []) F h hWa7.1 rfl (kw_count l g na7 ca7 hWa7 J 5 (v := vsI R sc) (rfl)) (gV hjl wd_399 wd_400 wd_401 wd_16 wd_402) rfl 1 (by decide +kernel) rfl ⟨Nat.le_of_ble_eq_true rfl, Nat.le_of_ble_eq_true rfl⟩ rfl hl.1 (Nat.le_of_ble_eq_true rfl) ⟨Nat.zero_le _, Nat.zero_le _⟩ dL_swaps_151) h (fun H locs h => ?_)
          refine lv_iload hx hb dL_swaps_154 (lv_at hl 8 rfl) ?_
          refine lv_icmp_ne (tgt := 163) hx hb dL_swaps_156 (by decide) (fun b_156 => by first | exact absurd b_156 (rfl) | exact absurd (rfl) b_156) (fun b_156 => ?_)
          refine lv_iconst (v := 1) hx hb dL_swaps_159 (by decide) ?_
          refine lv_goto (tgt := 164) hx hb dL_swaps_160 (by decide) ?_
          exact ret_z F h (by decide) (Nat.zero_le _) (Nat.zero_le _) dL_swaps_164 (⟨rfl, by omega, _, _, _, _, hWa7, J⟩)
        have hs5 : s1 < sc := lp_lt (N := sc) rfl (by omega) (by omega) b_68
        by_cases va : R (84 + 6 * (4 * s1 + a) + 0) = 0
        · skip
          have hs5 : s1 < sc := lp_lt (N := sc) rfl (by omega) (by omega) b_68
          by_cases vb : R (84 + 6 * (4 * s1 + b) + 0) = 0
          · skip
            have hs5 : s1 < sc := lp_lt (N := sc) rfl (by omega) (by omega) b_68
            refine lv_iload hx hb dL_swaps_71 (lv_at hl 8 rfl) ?_
            refine lv_aload_n hx hb dL_swaps_73 rfl (lv_at hl 0 rfl) ?_
            refine lv_iload hx hb dL_swaps_74 (lv_at hl 9 rfl) ?_
            refine lv_iload_n hx hb dL_swaps_76 rfl (lv_at hl 1 rfl) ?_
            refine lv_iconst (v := 3) hx hb dL_swaps_77 (by decide) ?_
            refine u_iE (v := (-100005)) (ru_V (As := [.int (nI s1), .int (nI a), .int 3]) (rest := [.int (gnF R a b s1)]) F h hWd.1 rfl (kw_observation l g n c hWd J (nI s1) (nI a) 3 (v := (-100005)) (ob_n J.s4 J.s5 hs5 ha4 va (by decide))) (gV hjl wd_518 wd_519 wd_520 wd_16 wd_521) rfl 3 (by decide +kernel) rfl ⟨Nat.le_of_ble_eq_true rfl, Nat.le_of_ble_eq_true rfl⟩ rfl hl.1 (Nat.le_of_ble_eq_true rfl) ⟨Nat.zero_le _, Nat.zero_le _⟩ dL_swaps_78) h (fun H locs h => ?_)
            refine lv_if_lt (tgt := 88) hx hb dL_swaps_81 (by decide) (fun b_81 => ?_) (fun b_81 => by first | exact absurd (by decide) b_81 | exact absurd b_81 (by decide))
            refine lv_iconst (v := 0) hx hb dL_swaps_88 (by decide) ?_
            refine lv_aload_n hx hb dL_swaps_89 rfl (lv_at hl 0 rfl) ?_
            refine lv_iload hx hb dL_swaps_90 (lv_at hl 9 rfl) ?_
            refine lv_iload_n hx hb dL_swaps_92 rfl (lv_at hl 2 rfl) ?_
            refine lv_iconst (v := 3) hx hb dL_swaps_93 (by decide) ?_
            refine u_iE (v := (-100005)) (ru_V (As := [.int (nI s1), .int (nI b), .int 3]) (rest := [.int 0, .int (gnF R a b s1)]) F h hWd.1 rfl (kw_observation l g n c hWd J (nI s1) (nI b) 3 (v := (-100005)) (ob_n J.s4 J.s5 hs5 hb4 vb (by decide))) (gV hjl wd_518 wd_519 wd_520 wd_16 wd_521) rfl 3 (by decide +kernel) rfl ⟨Nat.le_of_ble_eq_true rfl, Nat.le_of_ble_eq_true rfl⟩ rfl hl.1 (Nat.le_of_ble_eq_true rfl) ⟨Nat.zero_le _, Nat.zero_le _⟩ dL_swaps_94) h (fun H locs h => ?_)
            refine lv_if_lt (tgt := 104) hx hb dL_swaps_97 (by decide) (fun b_97 => ?_) (fun b_97 => by first | exact absurd (by decide) b_97 | exact absurd b_97 (by decide))
            refine lv_iconst (v := 0) hx hb dL_swaps_104 (by decide) ?_
            refine lv_iadd hx hb dL_swaps_105 ?_
            refine lv_iadd hx hb dL_swaps_106 ?_
            refine lv_istore (lv' := [(7, .int (gnF R a b s1 + (0 + 0))), (0, .ref (gz g + 0)), (1, .int (nI a)), (2, .int (nI b)), (3, .int 1), (4, .int (R (5 + 11 * a + 1))), (5, .int (R (5 + 11 * b + 2))), (6, .int (R (5 + 11 * a + 3))), (8, .int (vsI R sc)), (9, .int (nI s1))]) hx hb dL_swaps_107 hl (by decide) rfl (fun ls hl => ?_)
            have hl : lv_has ls 10 [(7, .int (gnF R a b (s1 + 1))), (0, .ref (gz g + 0)), (1, .int (nI a)), (2, .int (nI b)), (3, .int 1), (4, .int (R (5 + 11 * a + 1))), (5, .int (R (5 + 11 * b + 2))), (6, .int (R (5 + 11 * a + 3))), (8, .int (vsI R sc)), (9, .int (nI s1))] := by rw [show (gnF R a b (s1 + 1) : Int32) = (gnF R a b s1 + (0 + 0)) from (show gnF R a b (s1 + 1) = gnF R a b s1 + ((if R (84 + 6 * (4 * s1 + a) + 0) = 0 then 0 else 1) + (if R (84 + 6 * (4 * s1 + b) + 0) = 0 then 0 else 1)) from rfl).trans (by rw [if_pos va, if_pos vb])]; exact hl
            refine lv_iinc (v := nI (s1 + 1)) (lv' := [(9, .int (nI (s1 + 1))), (7, .int (gnF R a b (s1 + 1))), (0, .ref (gz g + 0)), (1, .int (nI a)), (2, .int (nI b)), (3, .int 1), (4, .int (R (5 + 11 * a + 1))), (5, .int (R (5 + 11 * b + 2))), (6, .int (R (5 + 11 * a + 3))), (8, .int (vsI R sc))]) hx hb dL_swaps_109 hl (k := 9) rfl (by exact (nI_succ s1).symm) (by decide) rfl (fun ls hl => ?_)
            refine lv_goto (tgt := 61) hx hb dL_swaps_112 (by decide) ?_
            exact ih_lg (s1 + 1) (by omega) _ _ _ (by omega) h (lv_sub hl [2, 3, 4, 5, 6, 7, 8, 9, 1, 0] rfl)
          refine lv_iload hx hb dL_swaps_71 (lv_at hl 8 rfl) ?_
          refine lv_aload_n hx hb dL_swaps_73 rfl (lv_at hl 0 rfl) ?_
          refine lv_iload hx hb dL_swaps_74 (lv_at hl 9 rfl) ?_
          refine lv_iload_n hx hb dL_swaps_76 rfl (lv_at hl 1 rfl) ?_
          refine lv_iconst (v := 3) hx hb dL_swaps_77 (by decide) ?_
          refine u_iE (v := (-100005)) (ru_V (As := [.int (nI s1), .int (nI a), .int 3]) (rest := [.int (gnF R a b s1)]) F h hWd.1 rfl (kw_observation l g n c hWd J (nI s1) (nI a) 3 (v := (-100005)) (ob_n J.s4 J.s5 hs5 ha4 va (by decide))) (gV hjl wd_518 wd_519 wd_520 wd_16 wd_521) rfl 3 (by decide +kernel) rfl ⟨Nat.le_of_ble_eq_true rfl, Nat.le_of_ble_eq_true rfl⟩ rfl hl.1 (Nat.le_of_ble_eq_true rfl) ⟨Nat.zero_le _, Nat.zero_le _⟩ dL_swaps_78) h (fun H locs h => ?_)
          refine lv_if_lt (tgt := 88) hx hb dL_swaps_81 (by decide) (fun b_81 => ?_) (fun b_81 => by first | exact absurd (by decide) b_81 | exact absurd b_81 (by decide))
          refine lv_iconst (v := 0) hx hb dL_swaps_88 (by decide) ?_
          refine lv_aload_n hx hb dL_swaps_89 rfl (lv_at hl 0 rfl) ?_
          refine lv_iload hx hb dL_swaps_90 (lv_at hl 9 rfl) ?_
          refine lv_iload_n hx hb dL_swaps_92 rfl (lv_at hl 2 rfl) ?_
          refine lv_iconst (v := 3) hx hb dL_swaps_93 (by decide) ?_
          refine u_iE (v := R (84 + 6 * (4 * s1 + b) + 4)) (ru_V (As := [.int (nI s1), .int (nI b), .int 3]) (rest := [.int 0, .int (gnF R a b s1)]) F h hWd.1 rfl (kw_observation l g n c hWd J (nI s1) (nI b) 3 (v := R (84 + 6 * (4 * s1 + b) + 4)) (ob_3 J.s4 J.s5 hs5 hb4 vb)) (gV hjl wd_518 wd_519 wd_520 wd_16 wd_521) rfl 3 (by decide +kernel) rfl ⟨Nat.le_of_ble_eq_true rfl, Nat.le_of_ble_eq_true rfl⟩ rfl hl.1 (Nat.le_of_ble_eq_true rfl) ⟨Nat.zero_le _, Nat.zero_le _⟩ dL_swaps_94) h (fun H locs h => ?_)
          refine lv_if_lt (tgt := 104) hx hb dL_swaps_97 (by decide) (fun b_97 => by first | exact absurd b_97 (i_nlt (bt_ge (J.v hs5 hb4 (b01_of (J.ob (by omega) hb4) vb)).2.2.1 0 (by decide))) | exact absurd (i_nlt (bt_ge (J.v hs5 hb4 (b01_of (J.ob (by omega) hb4) vb)).2.2.1 0 (by decide))) b_97) (fun b_97 => ?_)
          refine lv_iconst (v := 1) hx hb dL_swaps_100 (by decide) ?_
          refine lv_goto (tgt := 105) hx hb dL_swaps_101 (by decide) ?_
          refine lv_iadd hx hb dL_swaps_105 ?_
          refine lv_iadd hx hb dL_swaps_106 ?_
          refine lv_istore (lv' := [(7, .int (gnF R a b s1 + (0 + 1))), (0, .ref (gz g + 0)), (1, .int (nI a)), (2, .int (nI b)), (3, .int 1), (4, .int (R (5 + 11 * a + 1))), (5, .int (R (5 + 11 * b + 2))), (6, .int (R (5 + 11 * a + 3))), (8, .int (vsI R sc)), (9, .int (nI s1))]) hx hb dL_swaps_107 hl (by decide) rfl (fun ls hl => ?_)
          have hl : lv_has ls 10 [(7, .int (gnF R a b (s1 + 1))), (0, .ref (gz g + 0)), (1, .int (nI a)), (2, .int (nI b)), (3, .int 1), (4, .int (R (5 + 11 * a + 1))), (5, .int (R (5 + 11 * b + 2))), (6, .int (R (5 + 11 * a + 3))), (8, .int (vsI R sc)), (9, .int (nI s1))] := by rw [show (gnF R a b (s1 + 1) : Int32) = (gnF R a b s1 + (0 + 1)) from (show gnF R a b (s1 + 1) = gnF R a b s1 + ((if R (84 + 6 * (4 * s1 + a) + 0) = 0 then 0 else 1) + (if R (84 + 6 * (4 * s1 + b) + 0) = 0 then 0 else 1)) from rfl).trans (by rw [if_pos va, if_neg vb])]; exact hl
          refine lv_iinc (v := nI (s1 + 1)) (lv' := [(9, .int (nI (s1 + 1))), (7, .int (gnF R a b (s1 + 1))), (0, .ref (gz g + 0)), (1, .int (nI a)), (2, .int (nI b)), (3, .int 1), (4, .int (R (5 + 11 * a + 1))), (5, .int (R (5 + 11 * b + 2))), (6, .int (R (5 + 11 * a + 3))), (8, .int (vsI R sc))]) hx hb dL_swaps_109 hl (k := 9) rfl (by exact (nI_succ s1).symm) (by decide) rfl (fun ls hl => ?_)
          refine lv_goto (tgt := 61) hx hb dL_swaps_112 (by decide) ?_
          exact ih_lg (s1 + 1) (by omega) _ _ _ (by omega) h (lv_sub hl [2, 3, 4, 5, 6, 7, 8, 9, 1, 0] rfl)
        by_cases vb : R (84 + 6 * (4 * s1 + b) + 0) = 0
        · skip
          have hs5 : s1 < sc := lp_lt (N := sc) rfl (by omega) (by omega) b_68
          refine lv_iload hx hb dL_swaps_71 (lv_at hl 8 rfl) ?_
          refine lv_aload_n hx hb dL_swaps_73 rfl (lv_at hl 0 rfl) ?_
          refine lv_iload hx hb dL_swaps_74 (lv_at hl 9 rfl) ?_
          refine lv_iload_n hx hb dL_swaps_76 rfl (lv_at hl 1 rfl) ?_
          refine lv_iconst (v := 3) hx hb dL_swaps_77 (by decide) ?_
          refine u_iE (v := R (84 + 6 * (4 * s1 + a) + 4)) (ru_V (As := [.int (nI s1), .int (nI a), .int 3]) (rest := [.int (gnF R a b s1)]) F h hWd.1 rfl (kw_observation l g n c hWd J (nI s1) (nI a) 3 (v := R (84 + 6 * (4 * s1 + a) + 4)) (ob_3 J.s4 J.s5 hs5 ha4 va)) (gV hjl wd_518 wd_519 wd_520 wd_16 wd_521) rfl 3 (by decide +kernel) rfl ⟨Nat.le_of_ble_eq_true rfl, Nat.le_of_ble_eq_true rfl⟩ rfl hl.1 (Nat.le_of_ble_eq_true rfl) ⟨Nat.zero_le _, Nat.zero_le _⟩ dL_swaps_78) h (fun H locs h => ?_)
          refine lv_if_lt (tgt := 88) hx hb dL_swaps_81 (by decide) (fun b_81 => by first | exact absurd b_81 (i_nlt (bt_ge (J.v hs5 ha4 (b01_of (J.ob (by omega) ha4) va)).2.2.1 0 (by decide))) | exact absurd (i_nlt (bt_ge (J.v hs5 ha4 (b01_of (J.ob (by omega) ha4) va)).2.2.1 0 (by decide))) b_81) (fun b_81 => ?_)
          refine lv_iconst (v := 1) hx hb dL_swaps_84 (by decide) ?_
          refine lv_goto (tgt := 89) hx hb dL_swaps_85 (by decide) ?_
          refine lv_aload_n hx hb dL_swaps_89 rfl (lv_at hl 0 rfl) ?_
          refine lv_iload hx hb dL_swaps_90 (lv_at hl 9 rfl) ?_
          refine lv_iload_n hx hb dL_swaps_92 rfl (lv_at hl 2 rfl) ?_
          refine lv_iconst (v := 3) hx hb dL_swaps_93 (by decide) ?_
          refine u_iE (v := (-100005)) (ru_V (As := [.int (nI s1), .int (nI b), .int 3]) (rest := [.int 1, .int (gnF R a b s1)]) F h hWd.1 rfl (kw_observation l g n c hWd J (nI s1) (nI b) 3 (v := (-100005)) (ob_n J.s4 J.s5 hs5 hb4 vb (by decide))) (gV hjl wd_518 wd_519 wd_520 wd_16 wd_521) rfl 3 (by decide +kernel) rfl ⟨Nat.le_of_ble_eq_true rfl, Nat.le_of_ble_eq_true rfl⟩ rfl hl.1 (Nat.le_of_ble_eq_true rfl) ⟨Nat.zero_le _, Nat.zero_le _⟩ dL_swaps_94) h (fun H locs h => ?_)
          refine lv_if_lt (tgt := 104) hx hb dL_swaps_97 (by decide) (fun b_97 => ?_) (fun b_97 => by first | exact absurd (by decide) b_97 | exact absurd b_97 (by decide))
          refine lv_iconst (v := 0) hx hb dL_swaps_104 (by decide) ?_
          refine lv_iadd hx hb dL_swaps_105 ?_
          refine lv_iadd hx hb dL_swaps_106 ?_
          refine lv_istore (lv' := [(7, .int (gnF R a b s1 + (1 + 0))), (0, .ref (gz g + 0)), (1, .int (nI a)), (2, .int (nI b)), (3, .int 1), (4, .int (R (5 + 11 * a + 1))), (5, .int (R (5 + 11 * b + 2))), (6, .int (R (5 + 11 * a + 3))), (8, .int (vsI R sc)), (9, .int (nI s1))]) hx hb dL_swaps_107 hl (by decide) rfl (fun ls hl => ?_)
          have hl : lv_has ls 10 [(7, .int (gnF R a b (s1 + 1))), (0, .ref (gz g + 0)), (1, .int (nI a)), (2, .int (nI b)), (3, .int 1), (4, .int (R (5 + 11 * a + 1))), (5, .int (R (5 + 11 * b + 2))), (6, .int (R (5 + 11 * a + 3))), (8, .int (vsI R sc)), (9, .int (nI s1))] := by rw [show (gnF R a b (s1 + 1) : Int32) = (gnF R a b s1 + (1 + 0)) from (show gnF R a b (s1 + 1) = gnF R a b s1 + ((if R (84 + 6 * (4 * s1 + a) + 0) = 0 then 0 else 1) + (if R (84 + 6 * (4 * s1 + b) + 0) = 0 then 0 else 1)) from rfl).trans (by rw [if_neg va, if_pos vb])]; exact hl
          refine lv_iinc (v := nI (s1 + 1)) (lv' := [(9, .int (nI (s1 + 1))), (7, .int (gnF R a b (s1 + 1))), (0, .ref (gz g + 0)), (1, .int (nI a)), (2, .int (nI b)), (3, .int 1), (4, .int (R (5 + 11 * a + 1))), (5, .int (R (5 + 11 * b + 2))), (6, .int (R (5 + 11 * a + 3))), (8, .int (vsI R sc))]) hx hb dL_swaps_109 hl (k := 9) rfl (by exact (nI_succ s1).symm) (by decide) rfl (fun ls hl => ?_)
          refine lv_goto (tgt := 61) hx hb dL_swaps_112 (by decide) ?_
          exact ih_lg (s1 + 1) (by omega) _ _ _ (by omega) h (lv_sub hl [2, 3, 4, 5, 6, 7, 8, 9, 1, 0] rfl)
        refine lv_iload hx hb dL_swaps_71 (lv_at hl 8 rfl) ?_
        refine lv_aload_n hx hb dL_swaps_73 rfl (lv_at hl 0 rfl) ?_
        refine lv_iload hx hb dL_swaps_74 (lv_at hl 9 rfl) ?_
        refine lv_iload_n hx hb dL_swaps_76 rfl (lv_at hl 1 rfl) ?_
        refine lv_iconst (v := 3) hx hb dL_swaps_77 (by decide) ?_
        refine u_iE (v := R (84 + 6 * (4 * s1 + a) + 4)) (ru_V (As := [.int (nI s1), .int (nI a), .int 3]) (rest := [.int (gnF R a b s1)]) F h hWd.1 rfl (kw_observation l g n c hWd J (nI s1) (nI a) 3 (v := R (84 + 6 * (4 * s1 + a) + 4)) (ob_3 J.s4 J.s5 hs5 ha4 va)) (gV hjl wd_518 wd_519 wd_520 wd_16 wd_521) rfl 3 (by decide +kernel) rfl ⟨Nat.le_of_ble_eq_true rfl, Nat.le_of_ble_eq_true rfl⟩ rfl hl.1 (Nat.le_of_ble_eq_true rfl) ⟨Nat.zero_le _, Nat.zero_le _⟩ dL_swaps_78) h (fun H locs h => ?_)
        refine lv_if_lt (tgt := 88) hx hb dL_swaps_81 (by decide) (fun b_81 => by first | exact absurd b_81 (i_nlt (bt_ge (J.v hs5 ha4 (b01_of (J.ob (by omega) ha4) va)).2.2.1 0 (by decide))) | exact absurd (i_nlt (bt_ge (J.v hs5 ha4 (b01_of (J.ob (by omega) ha4) va)).2.2.1 0 (by decide))) b_81) (fun b_81 => ?_)
        refine lv_iconst (v := 1) hx hb dL_swaps_84 (by decide) ?_
        refine lv_goto (tgt := 89) hx hb dL_swaps_85 (by decide) ?_
        refine lv_aload_n hx hb dL_swaps_89 rfl (lv_at hl 0 rfl) ?_
        refine lv_iload hx hb dL_swaps_90 (lv_at hl 9 rfl) ?_
        refine lv_iload_n hx hb dL_swaps_92 rfl (lv_at hl 2 rfl) ?_
        refine lv_iconst (v := 3) hx hb dL_swaps_93 (by decide) ?_
        refine u_iE (v := R (84 + 6 * (4 * s1 + b) + 4)) (ru_V (As := [.int (nI s1), .int (nI b), .int 3]) (rest := [.int 1, .int (gnF R a b s1)]) F h hWd.1 rfl (kw_observation l g n c hWd J (nI s1) (nI b) 3 (v := R (84 + 6 * (4 * s1 + b) + 4)) (ob_3 J.s4 J.s5 hs5 hb4 vb)) (gV hjl wd_518 wd_519 wd_520 wd_16 wd_521) rfl 3 (by decide +kernel) rfl ⟨Nat.le_of_ble_eq_true rfl, Nat.le_of_ble_eq_true rfl⟩ rfl hl.1 (Nat.le_of_ble_eq_true rfl) ⟨Nat.zero_le _, Nat.zero_le _⟩ dL_swaps_94) h (fun H locs h => ?_)
        refine lv_if_lt (tgt := 104) hx hb dL_swaps_97 (by decide) (fun b_97 => by first | exact absurd b_97 (i_nlt (bt_ge (J.v hs5 hb4 (b01_of (J.ob (by omega) hb4) vb)).2.2.1 0 (by decide))) | exact absurd (i_nlt (bt_ge (J.v hs5 hb4 (b01_of (J.ob (by omega) hb4) vb)).2.2.1 0 (by decide))) b_97) (fun b_97 => ?_)
        refine lv_iconst (v := 1) hx hb dL_swaps_100 (by decide) ?_
        refine lv_goto (tgt := 105) hx hb dL_swaps_101 (by decide) ?_
        refine lv_iadd hx hb dL_swaps_105 ?_
        refine lv_iadd hx hb dL_swaps_106 ?_
        refine lv_istore (lv' := [(7, .int (gnF R a b s1 + (1 + 1))), (0, .ref (gz g + 0)), (1, .int (nI a)), (2, .int (nI b)), (3, .int 1), (4, .int (R (5 + 11 * a + 1))), (5, .int (R (5 + 11 * b + 2))), (6, .int (R (5 + 11 * a + 3))), (8, .int (vsI R sc)), (9, .int (nI s1))]) hx hb dL_swaps_107 hl (by decide) rfl (fun ls hl => ?_)
        have hl : lv_has ls 10 [(7, .int (gnF R a b (s1 + 1))), (0, .ref (gz g + 0)), (1, .int (nI a)), (2, .int (nI b)), (3, .int 1), (4, .int (R (5 + 11 * a + 1))), (5, .int (R (5 + 11 * b + 2))), (6, .int (R (5 + 11 * a + 3))), (8, .int (vsI R sc)), (9, .int (nI s1))] := by rw [show (gnF R a b (s1 + 1) : Int32) = (gnF R a b s1 + (1 + 1)) from (show gnF R a b (s1 + 1) = gnF R a b s1 + ((if R (84 + 6 * (4 * s1 + a) + 0) = 0 then 0 else 1) + (if R (84 + 6 * (4 * s1 + b) + 0) = 0 then 0 else 1)) from rfl).trans (by rw [if_neg va, if_neg vb])]; exact hl
        refine lv_iinc (v := nI (s1 + 1)) (lv' := [(9, .int (nI (s1 + 1))), (7, .int (gnF R a b (s1 + 1))), (0, .ref (gz g + 0)), (1, .int (nI a)), (2, .int (nI b)), (3, .int 1), (4, .int (R (5 + 11 * a + 1))), (5, .int (R (5 + 11 * b + 2))), (6, .int (R (5 + 11 * a + 3))), (8, .int (vsI R sc))]) hx hb dL_swaps_109 hl (k := 9) rfl (by exact (nI_succ s1).symm) (by decide) rfl (fun ls hl => ?_)
        refine lv_goto (tgt := 61) hx hb dL_swaps_112 (by decide) ?_
        exact ih_lg (s1 + 1) (by omega) _ _ _ (by omega) h (lv_sub hl [2, 3, 4, 5, 6, 7, 8, 9, 1, 0] rfl)
    exact lg _ 0 (Nat.zero_le _) _ _ _ (Nat.le_refl _) h (lv_sub hl [7, 8, 9, 6, 5, 4, 3, 1, 2, 0] rfl)
  have h1 := b01_of (J.b ha4) na
  have h2 := b01_of (J.b hb4) nb
  refine lv_aload_n hx hb dL_swaps_0 rfl (lv_at hl 0 rfl) ?_
  refine lv_iload_n hx hb dL_swaps_1 rfl (lv_at hl 1 rfl) ?_
  refine lv_iconst (v := 2) hx hb dL_swaps_2 (by decide) ?_
  refine u_iE (v := R (5 + 11 * a + 3)) (ru_V (As := [.int (nI a), .int 2]) (rest := []) F h hWd.1 rfl (kw_wire l g n c hWd J (nI a) 2 (v := R (5 + 11 * a + 3)) (wi_2 ha4 (b01_of (J.b ha4) na))) (gV hjl wd_390 wd_391 wd_392 wd_16 wd_393) rfl 2 (by decide +kernel) rfl ⟨Nat.le_of_ble_eq_true rfl, Nat.le_of_ble_eq_true rfl⟩ rfl hl.1 (Nat.le_of_ble_eq_true rfl) ⟨Nat.zero_le _, Nat.zero_le _⟩ dL_swaps_3) h (fun H locs h => ?_)
  refine lv_if_le (tgt := 22) hx hb dL_swaps_6 (by decide) (fun b_6 => by first | exact absurd b_6 (i_nle (bt_gt (J.wg ha4 h1).2.2.1 0 (by decide))) | exact absurd (i_nle (bt_gt (J.wg ha4 h1).2.2.1 0 (by decide))) b_6) (fun b_6 => ?_)
  refine lv_aload_n hx hb dL_swaps_9 rfl (lv_at hl 0 rfl) ?_
  refine lv_iload_n hx hb dL_swaps_10 rfl (lv_at hl 2 rfl) ?_
  refine lv_iconst (v := 2) hx hb dL_swaps_11 (by decide) ?_
  refine u_iE (v := R (5 + 11 * b + 3)) (ru_V (As := [.int (nI b), .int 2]) (rest := []) F h hWd.1 rfl (kw_wire l g n c hWd J (nI b) 2 (v := R (5 + 11 * b + 3)) (wi_2 hb4 (b01_of (J.b hb4) nb))) (gV hjl wd_390 wd_391 wd_392 wd_16 wd_393) rfl 2 (by decide +kernel) rfl ⟨Nat.le_of_ble_eq_true rfl, Nat.le_of_ble_eq_true rfl⟩ rfl hl.1 (Nat.le_of_ble_eq_true rfl) ⟨Nat.zero_le _, Nat.zero_le _⟩ dL_swaps_12) h (fun H locs h => ?_)
  refine lv_if_le (tgt := 22) hx hb dL_swaps_15 (by decide) (fun b_15 => by first | exact absurd b_15 (i_nle (bt_gt (J.wg hb4 h2).2.2.1 0 (by decide))) | exact absurd (i_nle (bt_gt (J.wg hb4 h2).2.2.1 0 (by decide))) b_15) (fun b_15 => ?_)
  refine lv_iconst (v := 1) hx hb dL_swaps_18 (by decide) ?_
  refine lv_goto (tgt := 23) hx hb dL_swaps_19 (by decide) ?_
  refine lv_istore_n (lv' := [(3, .int 1), (0, .ref (gz g + 0)), (1, .int (nI a)), (2, .int (nI b))]) hx hb dL_swaps_23 rfl hl (by decide) rfl (fun ls hl => ?_)
  refine lv_aload_n hx hb dL_swaps_24 rfl (lv_at hl 1 rfl) ?_
  refine lv_iload_n hx hb dL_swaps_25 rfl (lv_at hl 2 rfl) ?_
  refine lv_iconst (v := 0) hx hb dL_swaps_26 (by decide) ?_
  refine u_iE (v := R (5 + 11 * a + 1)) (ru_V (As := [.int (nI a), .int 0]) (rest := []) F h hWd.1 rfl (kw_wire l g n c hWd J (nI a) 0 (v := R (5 + 11 * a + 1)) (wi_0 ha4 (b01_of (J.b ha4) na))) (gV hjl wd_390 wd_391 wd_392 wd_16 wd_393) rfl 2 (by decide +kernel) rfl ⟨Nat.le_of_ble_eq_true rfl, Nat.le_of_ble_eq_true rfl⟩ rfl hl.1 (Nat.le_of_ble_eq_true rfl) ⟨Nat.zero_le _, Nat.zero_le _⟩ dL_swaps_27) h (fun H locs h => ?_)
  refine lv_istore (lv' := [(4, .int (R (5 + 11 * a + 1))), (3, .int 1), (0, .ref (gz g + 0)), (1, .int (nI a)), (2, .int (nI b))]) hx hb dL_swaps_30 hl (by decide) rfl (fun ls hl => ?_)
  refine lv_aload_n hx hb dL_swaps_32 rfl (lv_at hl 2 rfl) ?_
  refine lv_iload_n hx hb dL_swaps_33 rfl (lv_at hl 4 rfl) ?_
  refine lv_iconst (v := 1) hx hb dL_swaps_34 (by decide) ?_
  refine u_iE (v := R (5 + 11 * b + 2)) (ru_V (As := [.int (nI b), .int 1]) (rest := []) F h hWd.1 rfl (kw_wire l g n c hWd J (nI b) 1 (v := R (5 + 11 * b + 2)) (wi_1 hb4 (b01_of (J.b hb4) nb))) (gV hjl wd_390 wd_391 wd_392 wd_16 wd_393) rfl 2 (by decide +kernel) rfl ⟨Nat.le_of_ble_eq_true rfl, Nat.le_of_ble_eq_true rfl⟩ rfl hl.1 (Nat.le_of_ble_eq_true rfl) ⟨Nat.zero_le _, Nat.zero_le _⟩ dL_swaps_35) h (fun H locs h => ?_)
  refine lv_istore (lv' := [(5, .int (R (5 + 11 * b + 2))), (4, .int (R (5 + 11 * a + 1))), (3, .int 1), (0, .ref (gz g + 0)), (1, .int (nI a)), (2, .int (nI b))]) hx hb dL_swaps_38 hl (by decide) rfl (fun ls hl => ?_)
  refine lv_aload_n hx hb dL_swaps_40 rfl (lv_at hl 3 rfl) ?_
  refine lv_iload_n hx hb dL_swaps_41 rfl (lv_at hl 4 rfl) ?_
  refine lv_iconst (v := 2) hx hb dL_swaps_42 (by decide) ?_
  refine u_iE (v := R (5 + 11 * a + 3)) (ru_V (As := [.int (nI a), .int 2]) (rest := []) F h hWd.1 rfl (kw_wire l g n c hWd J (nI a) 2 (v := R (5 + 11 * a + 3)) (wi_2 ha4 (b01_of (J.b ha4) na))) (gV hjl wd_390 wd_391 wd_392 wd_16 wd_393) rfl 2 (by decide +kernel) rfl ⟨Nat.le_of_ble_eq_true rfl, Nat.le_of_ble_eq_true rfl⟩ rfl hl.1 (Nat.le_of_ble_eq_true rfl) ⟨Nat.zero_le _, Nat.zero_le _⟩ dL_swaps_43) h (fun H locs h => ?_)
  refine lv_istore (lv' := [(6, .int (R (5 + 11 * a + 3))), (5, .int (R (5 + 11 * b + 2))), (4, .int (R (5 + 11 * a + 1))), (3, .int 1), (0, .ref (gz g + 0)), (1, .int (nI a)), (2, .int (nI b))]) hx hb dL_swaps_46 hl (by decide) rfl (fun ls hl => ?_)
  refine lv_iconst (v := 0) hx hb dL_swaps_48 (by decide) ?_
  refine lv_istore (lv' := [(7, .int 0), (6, .int (R (5 + 11 * a + 3))), (5, .int (R (5 + 11 * b + 2))), (4, .int (R (5 + 11 * a + 1))), (3, .int 1), (0, .ref (gz g + 0)), (1, .int (nI a)), (2, .int (nI b))]) hx hb dL_swaps_49 hl (by decide) rfl (fun ls hl => ?_)
  refine lv_aload_n hx hb dL_swaps_51 rfl (lv_at hl 5 rfl) ?_
  refine lv_iconst (v := 5) hx hb dL_swaps_52 (by decide) ?_
  refine u_iE (v := vsI R sc) (ru_V (As := [.int 5]) (rest := []) F h hWd.1 rfl (kw_count l g n c hWd J 5 (v := vsI R sc) (rfl)) (gV hjl wd_399 wd_400 wd_401 wd_16 wd_402) rfl 1 (by decide +kernel) rfl ⟨Nat.le_of_ble_eq_true rfl, Nat.le_of_ble_eq_true rfl⟩ rfl hl.1 (Nat.le_of_ble_eq_true rfl) ⟨Nat.zero_le _, Nat.zero_le _⟩ dL_swaps_53) h (fun H locs h => ?_)
  refine lv_istore (lv' := [(8, .int (vsI R sc)), (7, .int 0), (6, .int (R (5 + 11 * a + 3))), (5, .int (R (5 + 11 * b + 2))), (4, .int (R (5 + 11 * a + 1))), (3, .int 1), (0, .ref (gz g + 0)), (1, .int (nI a)), (2, .int (nI b))]) hx hb dL_swaps_56 hl (by decide) rfl (fun ls hl => ?_)
  refine lv_iconst (v := 0) hx hb dL_swaps_58 (by decide) ?_
  refine lv_istore (lv' := [(9, .int 0), (8, .int (vsI R sc)), (7, .int 0), (6, .int (R (5 + 11 * a + 3))), (5, .int (R (5 + 11 * b + 2))), (4, .int (R (5 + 11 * a + 1))), (3, .int 1), (0, .ref (gz g + 0)), (1, .int (nI a)), (2, .int (nI b))]) hx hb dL_swaps_59 hl (by decide) rfl (fun ls hl => ?_)
  have lg : ∀ (k : Nat) (s1 : Nat) (hs : s1 ≤ sc) (H : Heap) (locs : List Loc) (ls : Array Slot), (6 - s1) ≤ k → Hv g s H locs n c → lv_has ls 10 [(0, .ref (gz g + 0)), (1, .int (nI a)), (2, .int (nI b)), (3, .int 1), (4, .int (R (5 + 11 * a + 1))), (5, .int (R (5 + 11 * b + 2))), (6, .int (R (5 + 11 * a + 3))), (8, .int (vsI R sc)), (7, .int (gnF R a b s1)), (9, .int (nI s1))] → W p l e (Rm 5 109 0 0) s m args below meth c0 H locs 0 0 (MQ below (Qi g (fun xr n' c' => xr = 1 ∧ n ≤ n' ∧ ∃ (lh' : Nat) (rs' : Int32) (R' : Nat → Int32) (hq' : Nat → Nat → Int32), Wd g c' lh' rs' R' hq' ∧ Jv R' sc cn tb)) args s 0 0 (mAf g)) (F0 m 61 ls []) := by
    intro k_lg
    induction k_lg with
    | zero => intro s1 hs H locs ls hk h hl; exact absurd hk (by omega)
    | succ k_lg ih_lg =>
      intro s1 hs H locs ls hk_lg h hl
      refine lv_iload hx hb dL_swaps_61 (lv_at hl 9 rfl) ?_
      refine lv_aload_n hx hb dL_swaps_63 rfl (lv_at hl 0 rfl) ?_
      refine lv_iconst (v := 3) hx hb dL_swaps_64 (by decide) ?_
      refine u_iE (v := nI sc) (ru_V (As := [.int 3]) (rest := [.int (nI s1)]) F h hWd.1 rfl (kw_count l g n c hWd J 3 (v := nI sc) (J.s4)) (gV hjl wd_399 wd_400 wd_401 wd_16 wd_402) rfl 1 (by decide +kernel) rfl ⟨Nat.le_of_ble_eq_true rfl, Nat.le_of_ble_eq_true rfl⟩ rfl hl.1 (Nat.le_of_ble_eq_true rfl) ⟨Nat.zero_le _, Nat.zero_le _⟩ dL_swaps_65) h (fun H locs h => ?_)
      refine lv_icmp_ge (tgt := 115) hx hb dL_swaps_68 (by decide) (fun b_68 => ?_) (fun b_68 => ?_)
      · skip
        have e5 : s1 = sc := by have := lp_ge (N := sc) rfl (by omega) (by omega) b_68; omega
        have hl : lv_has ls 10 [(0, .ref (gz g + 0)), (1, .int (nI a)), (2, .int (nI b)), (3, .int 1), (4, .int (R (5 + 11 * a + 1))), (5, .int (R (5 + 11 * b + 2))), (6, .int (R (5 + 11 * a + 3))), (8, .int (vsI R sc)), (7, .int (gnF R a b sc)), (9, .int (nI s1))] := by rw [show (gnF R a b sc : Int32) = gnF R a b s1 from by rw [e5]]; exact hl
        refine lv_aload_n hx hb dL_swaps_115 rfl (lv_at hl 0 rfl) ?_
        refine lv_iload_n hx hb dL_swaps_116 rfl (lv_at hl 1 rfl) ?_
        refine lv_iload_n hx hb dL_swaps_117 rfl (lv_at hl 2 rfl) ?_
        have hWua8 : Wd g c lh rs R hq := hWd
        refine u_i (ru_V (As := [.int (nI a), .int (nI b)]) (rest := []) F h hWd.1 rfl (k_X7_swap l g n c lh 0 rs hWua8.1 R hWua8.2.1 hWua8.2.2.2.2 hq hWua8.2.2.1 J.wb (nI a) (nI b) sc sc J.s4 J.s5) (gV hjl wd_676 wd_677 wd_678 wd_16 wd_679) rfl 2 (by decide +kernel) rfl ⟨Nat.le_of_ble_eq_true rfl, Nat.le_of_ble_eq_true rfl⟩ rfl hl.1 (Nat.le_of_ble_eq_true rfl) ⟨Nat.zero_le _, Nat.zero_le _⟩ dL_swaps_118) h (fun ra8 na8 ca8 H locs hp h => ?_)
        obtain ⟨hna8, hxa8, hWa8, hFa8⟩ := paW hp hWua8 (by omega) (sw_ok ha4 hb4 hab h1 h2) (rmL_le (hWua8).2.2.2.2)
        subst hxa8
        have J2 := Jv.swap J ha4 hb4 hab h1 h2
        have fa : swR R a b sc (5 + 11 * a + 0) = 1 := by rw [sw_lo (by omega), sw_0 hab]; exact h1
        have fb : swR R a b sc (5 + 11 * b + 0) = 1 := by rw [sw_lo (by omega), sw_0 hab]; exact h2
        refine lv_istore (lv' := [(9, .int (gnF R a b sc)), (0, .ref (gz g + 0)), (1, .int (nI a)), (2, .int (nI b)), (3, .int 1), (4, .int (R (5 + 11 * a + 1))), (5, .int (R (5 + 11 * b + 2))), (6, .int (R (5 + 11 * a + 3))), (8, .int (vsI R sc)), (7, .int (gnF R a b sc))]) hx hb dL_swaps_121 hl (by decide) rfl (fun ls hl => ?_)
        refine lv_iload_n hx hb dL_swaps_123 rfl (lv_at hl 2 rfl) ?_
        refine lv_iload_n hx hb dL_swaps_124 rfl (lv_at hl 3 rfl) ?_
        refine lv_icmp_eq (tgt := 132) hx hb dL_swaps_125 (by decide) (fun b_125 => by first | exact absurd b_125 (fun z => hab ((nI_eq (by omega) (by omega)).mp z)) | exact absurd (fun z => hab ((nI_eq (by omega) (by omega)).mp z)) b_125) (fun b_125 => ?_)
        refine lv_iload_n hx hb dL_swaps_128 rfl (lv_at hl 4 rfl) ?_
        refine lv_if_ne (tgt := 165) hx hb dL_swaps_129 (by decide) (fun b_129 => ?_) (fun b_129 => by first | exact absurd (by decide) b_129 | exact absurd b_129 (by decide))
        refine lv_iload hx hb dL_swaps_165 (lv_at hl 0 rfl) ?_
        refine lv_iload hx hb dL_swaps_167 (lv_at hl 9 rfl) ?_
        refine lv_icmp_ne (tgt := 262) hx hb dL_swaps_169 (by decide) (fun b_169 => by first | exact absurd b_169 (rfl) | exact absurd (rfl) b_169) (fun b_169 => ?_)
        refine lv_aload_n hx hb dL_swaps_172 rfl (lv_at hl 1 rfl) ?_
        refine lv_iconst (v := 5) hx hb dL_swaps_173 (by decide) ?_
        refine u_iE (v := vsI R sc - gnF R a b sc) (ru_V (As := [.int 5]) (rest := []) F h hWa8.1 rfl (kw_count l g na8 ca8 hWa8 J2 5 (v := vsI R sc - gnF R a b sc) (sw_v hab ha4 hb4)) (gV hjl wd_399 wd_400 wd_401 wd_16 wd_402) rfl 1 (by decide +kernel) rfl ⟨Nat.le_of_ble_eq_true rfl, Nat.le_of_ble_eq_true rfl⟩ rfl hl.1 (Nat.le_of_ble_eq_true rfl) ⟨Nat.zero_le _, Nat.zero_le _⟩ dL_swaps_174) h (fun H locs h => ?_)
        refine lv_iload hx hb dL_swaps_177 (lv_at hl 8 rfl) ?_
        refine lv_iload hx hb dL_swaps_179 (lv_at hl 9 rfl) ?_
        refine lv_isub hx hb dL_swaps_181 ?_
        refine lv_icmp_ne (tgt := 262) hx hb dL_swaps_182 (by decide) (fun b_182 => by first | exact absurd b_182 (rfl) | exact absurd (rfl) b_182) (fun b_182 => ?_)
        refine lv_aload_n hx hb dL_swaps_185 rfl (lv_at hl 1 rfl) ?_
        refine lv_iload_n hx hb dL_swaps_186 rfl (lv_at hl 3 rfl) ?_
        refine lv_iconst (v := 0) hx hb dL_swaps_187 (by decide) ?_
        refine u_iE (v := R (5 + 11 * a + 1)) (ru_V (As := [.int (nI b), .int 0]) (rest := []) F h hWa8.1 rfl (kw_wire l g na8 ca8 hWa8 J2 (nI b) 0 (v := R (5 + 11 * a + 1)) ((wi_0 hb4 fb).trans ((sw_lo (by omega)).trans (sw_b (by decide))))) (gV hjl wd_390 wd_391 wd_392 wd_16 wd_393) rfl 2 (by decide +kernel) rfl ⟨Nat.le_of_ble_eq_true rfl, Nat.le_of_ble_eq_true rfl⟩ rfl hl.1 (Nat.le_of_ble_eq_true rfl) ⟨Nat.zero_le _, Nat.zero_le _⟩ dL_swaps_188) h (fun H locs h => ?_)
        refine lv_iload hx hb dL_swaps_191 (lv_at hl 5 rfl) ?_
        refine lv_icmp_ne (tgt := 262) hx hb dL_swaps_193 (by decide) (fun b_193 => by first | exact absurd b_193 (rfl) | exact absurd (rfl) b_193) (fun b_193 => ?_)
        refine lv_aload_n hx hb dL_swaps_196 rfl (lv_at hl 1 rfl) ?_
        refine lv_iload_n hx hb dL_swaps_197 rfl (lv_at hl 2 rfl) ?_
        refine lv_iconst (v := 1) hx hb dL_swaps_198 (by decide) ?_
        refine u_iE (v := R (5 + 11 * b + 2)) (ru_V (As := [.int (nI a), .int 1]) (rest := []) F h hWa8.1 rfl (kw_wire l g na8 ca8 hWa8 J2 (nI a) 1 (v := R (5 + 11 * b + 2)) ((wi_1 ha4 fa).trans ((sw_lo (by omega)).trans (sw_a hab (by decide))))) (gV hjl wd_390 wd_391 wd_392 wd_16 wd_393) rfl 2 (by decide +kernel) rfl ⟨Nat.le_of_ble_eq_true rfl, Nat.le_of_ble_eq_true rfl⟩ rfl hl.1 (Nat.le_of_ble_eq_true rfl) ⟨Nat.zero_le _, Nat.zero_le _⟩ dL_swaps_199) h (fun H locs h => ?_)
        refine lv_iload hx hb dL_swaps_202 (lv_at hl 6 rfl) ?_
        refine lv_icmp_ne (tgt := 262) hx hb dL_swaps_204 (by decide) (fun b_204 => by first | exact absurd b_204 (rfl) | exact absurd (rfl) b_204) (fun b_204 => ?_)
        refine lv_aload_n hx hb dL_swaps_207 rfl (lv_at hl 1 rfl) ?_
        refine lv_iload_n hx hb dL_swaps_208 rfl (lv_at hl 2 rfl) ?_
        refine lv_iconst (v := 2) hx hb dL_swaps_209 (by decide) ?_
        refine u_iE (v := R (5 + 11 * a + 3)) (ru_V (As := [.int (nI a), .int 2]) (rest := []) F h hWa8.1 rfl (kw_wire l g na8 ca8 hWa8 J2 (nI a) 2 (v := R (5 + 11 * a + 3)) ((wi_2 ha4 fa).trans ((sw_lo (by omega)).trans (sw_a hab (by decide))))) (gV hjl wd_390 wd_391 wd_392 wd_16 wd_393) rfl 2 (by decide +kernel) rfl ⟨Nat.le_of_ble_eq_true rfl, Nat.le_of_ble_eq_true rfl⟩ rfl hl.1 (Nat.le_of_ble_eq_true rfl) ⟨Nat.zero_le _, Nat.zero_le _⟩ dL_swaps_210) h (fun H locs h => ?_)
        refine lv_iload hx hb dL_swaps_213 (lv_at hl 7 rfl) ?_
        refine lv_icmp_ne (tgt := 262) hx hb dL_swaps_215 (by decide) (fun b_215 => by first | exact absurd b_215 (rfl) | exact absurd (rfl) b_215) (fun b_215 => ?_)
        refine lv_aload_n hx hb dL_swaps_218 rfl (lv_at hl 1 rfl) ?_
        refine lv_iload_n hx hb dL_swaps_219 rfl (lv_at hl 2 rfl) ?_
        refine lv_bipush (v := 8) hx hb dL_swaps_220 (by decide) ?_
        refine u_iE (v := 0) (ru_V (As := [.int (nI a), .int 8]) (rest := []) F h hWa8.1 rfl (kw_wire l g na8 ca8 hWa8 J2 (nI a) 8 (v := 0) ((wi_8 ha4 fa).trans ((sw_lo (by omega)).trans (sw_a hab (by decide))))) (gV hjl wd_390 wd_391 wd_392 wd_16 wd_393) rfl 2 (by decide +kernel) rfl ⟨Nat.le_of_ble_eq_true rfl, Nat.le_of_ble_eq_true rfl⟩ rfl hl.1 (Nat.le_of_ble_eq_true rfl) ⟨Nat.zero_le _, Nat.zero_le _⟩ dL_swaps_222) h (fun H locs h => ?_)
        refine lv_if_ne (tgt := 262) hx hb dL_swaps_225 (by decide) (fun b_225 => by first | exact absurd b_225 (by decide) | exact absurd (by decide) b_225) (fun b_225 => ?_)
        refine lv_aload_n hx hb dL_swaps_228 rfl (lv_at hl 1 rfl) ?_
        refine lv_iload_n hx hb dL_swaps_229 rfl (lv_at hl 3 rfl) ?_
        refine lv_bipush (v := 8) hx hb dL_swaps_230 (by decide) ?_
        refine u_iE (v := 0) (ru_V (As := [.int (nI b), .int 8]) (rest := []) F h hWa8.1 rfl (kw_wire l g na8 ca8 hWa8 J2 (nI b) 8 (v := 0) ((wi_8 hb4 fb).trans ((sw_lo (by omega)).trans (sw_b (by decide))))) (gV hjl wd_390 wd_391 wd_392 wd_16 wd_393) rfl 2 (by decide +kernel) rfl ⟨Nat.le_of_ble_eq_true rfl, Nat.le_of_ble_eq_true rfl⟩ rfl hl.1 (Nat.le_of_ble_eq_true rfl) ⟨Nat.zero_le _, Nat.zero_le _⟩ dL_swaps_232) h (fun H locs h => ?_)
        refine lv_if_ne (tgt := 262) hx hb dL_swaps_235 (by decide) (fun b_235 => by first | exact absurd b_235 (by decide) | exact absurd (by decide) b_235) (fun b_235 => ?_)
        refine lv_aload_n hx hb dL_swaps_238 rfl (lv_at hl 1 rfl) ?_
        refine lv_iload_n hx hb dL_swaps_239 rfl (lv_at hl 2 rfl) ?_
        refine lv_bipush (v := 9) hx hb dL_swaps_240 (by decide) ?_
        refine u_iE (v := 0) (ru_V (As := [.int (nI a), .int 9]) (rest := []) F h hWa8.1 rfl (kw_wire l g na8 ca8 hWa8 J2 (nI a) 9 (v := 0) ((wi_9 ha4 fa).trans ((sw_lo (by omega)).trans (sw_a hab (by decide))))) (gV hjl wd_390 wd_391 wd_392 wd_16 wd_393) rfl 2 (by decide +kernel) rfl ⟨Nat.le_of_ble_eq_true rfl, Nat.le_of_ble_eq_true rfl⟩ rfl hl.1 (Nat.le_of_ble_eq_true rfl) ⟨Nat.zero_le _, Nat.zero_le _⟩ dL_swaps_242) h (fun H locs h => ?_)
        refine lv_if_ne (tgt := 262) hx hb dL_swaps_245 (by decide) (fun b_245 => by first | exact absurd b_245 (by decide) | exact absurd (by decide) b_245) (fun b_245 => ?_)
        refine lv_aload_n hx hb dL_swaps_248 rfl (lv_at hl 1 rfl) ?_
        refine lv_iload_n hx hb dL_swaps_249 rfl (lv_at hl 3 rfl) ?_
        refine lv_bipush (v := 9) hx hb dL_swaps_250 (by decide) ?_
        refine u_iE (v := 0) (ru_V (As := [.int (nI b), .int 9]) (rest := []) F h hWa8.1 rfl (kw_wire l g na8 ca8 hWa8 J2 (nI b) 9 (v := 0) ((wi_9 hb4 fb).trans ((sw_lo (by omega)).trans (sw_b (by decide))))) (gV hjl wd_390 wd_391 wd_392 wd_16 wd_393) rfl 2 (by decide +kernel) rfl ⟨Nat.le_of_ble_eq_true rfl, Nat.le_of_ble_eq_true rfl⟩ rfl hl.1 (Nat.le_of_ble_eq_true rfl) ⟨Nat.zero_le _, Nat.zero_le _⟩ dL_swaps_252) h (fun H locs h => ?_)
        refine lv_if_ne (tgt := 262) hx hb dL_swaps_255 (by decide) (fun b_255 => by first | exact absurd b_255 (by decide) | exact absurd (by decide) b_255) (fun b_255 => ?_)
        refine lv_iconst (v := 1) hx hb dL_swaps_258 (by decide) ?_
        refine lv_goto (tgt := 263) hx hb dL_swaps_259 (by decide) ?_
        exact ret_z F h (by decide) (Nat.zero_le _) (Nat.zero_le _) dL_swaps_263 (⟨rfl, by omega, _, _, _, _, hWa8, J2⟩)
      have hs5 : s1 < sc := lp_lt (N := sc) rfl (by omega) (by omega) b_68
      by_cases va : R (84 + 6 * (4 * s1 + a) + 0) = 0
      · skip
        have hs5 : s1 < sc := lp_lt (N := sc) rfl (by omega) (by omega) b_68
        by_cases vb : R (84 + 6 * (4 * s1 + b) + 0) = 0
        · skip
          have hs5 : s1 < sc := lp_lt (N := sc) rfl (by omega) (by omega) b_68
          refine lv_iload hx hb dL_swaps_71 (lv_at hl 8 rfl) ?_
          refine lv_aload_n hx hb dL_swaps_73 rfl (lv_at hl 0 rfl) ?_
          refine lv_iload hx hb dL_swaps_74 (lv_at hl 9 rfl) ?_
          refine lv_iload_n hx hb dL_swaps_76 rfl (lv_at hl 1 rfl) ?_
          refine lv_iconst (v := 3) hx hb dL_swaps_77 (by decide) ?_
          refine u_iE (v := (-100005)) (ru_V (As := [.int (nI s1), .int (nI a), .int 3]) (rest := [.int (gnF R a b s1)]) F h hWd.1 rfl (kw_observation l g n c hWd J (nI s1) (nI a) 3 (v := (-100005)) (ob_n J.s4 J.s5 hs5 ha4 va (by decide))) (gV hjl wd_518 wd_519 wd_520 wd_16 wd_521) rfl 3 (by decide +kernel) rfl ⟨Nat.le_of_ble_eq_true rfl, Nat.le_of_ble_eq_true rfl⟩ rfl hl.1 (Nat.le_of_ble_eq_true rfl) ⟨Nat.zero_le _, Nat.zero_le _⟩ dL_swaps_78) h (fun H locs h => ?_)
          refine lv_if_lt (tgt := 88) hx hb dL_swaps_81 (by decide) (fun b_81 => ?_) (fun b_81 => by first | exact absurd (by decide) b_81 | exact absurd b_81 (by decide))
          refine lv_iconst (v := 0) hx hb dL_swaps_88 (by decide) ?_
          refine lv_aload_n hx hb dL_swaps_89 rfl (lv_at hl 0 rfl) ?_
          refine lv_iload hx hb dL_swaps_90 (lv_at hl 9 rfl) ?_
          refine lv_iload_n hx hb dL_swaps_92 rfl (lv_at hl 2 rfl) ?_
          refine lv_iconst (v := 3) hx hb dL_swaps_93 (by decide) ?_
          refine u_iE (v := (-100005)) (ru_V (As := [.int (nI s1), .int (nI b), .int 3]) (rest := [.int 0, .int (gnF R a b s1)]) F h hWd.1 rfl (kw_observation l g n c hWd J (nI s1) (nI b) 3 (v := (-100005)) (ob_n J.s4 J.s5 hs5 hb4 vb (by decide))) (gV hjl wd_518 wd_519 wd_520 wd_16 wd_521) rfl 3 (by decide +kernel) rfl ⟨Nat.le_of_ble_eq_true rfl, Nat.le_of_ble_eq_true rfl⟩ rfl hl.1 (Nat.le_of_ble_eq_true rfl) ⟨Nat.zero_le _, Nat.zero_le _⟩ dL_swaps_94) h (fun H locs h => ?_)
          refine lv_if_lt (tgt := 104) hx hb dL_swaps_97 (by decide) (fun b_97 => ?_) (fun b_97 => by first | exact absurd (by decide) b_97 | exact absurd b_97 (by decide))
          refine lv_iconst (v := 0) hx hb dL_swaps_104 (by decide) ?_
          refine lv_iadd hx hb dL_swaps_105 ?_
          refine lv_iadd hx hb dL_swaps_106 ?_
          refine lv_istore (lv' := [(7, .int (gnF R a b s1 + (0 + 0))), (0, .ref (gz g + 0)), (1, .int (nI a)), (2, .int (nI b)), (3, .int 1), (4, .int (R (5 + 11 * a + 1))), (5, .int (R (5 + 11 * b + 2))), (6, .int (R (5 + 11 * a + 3))), (8, .int (vsI R sc)), (9, .int (nI s1))]) hx hb dL_swaps_107 hl (by decide) rfl (fun ls hl => ?_)
          have hl : lv_has ls 10 [(7, .int (gnF R a b (s1 + 1))), (0, .ref (gz g + 0)), (1, .int (nI a)), (2, .int (nI b)), (3, .int 1), (4, .int (R (5 + 11 * a + 1))), (5, .int (R (5 + 11 * b + 2))), (6, .int (R (5 + 11 * a + 3))), (8, .int (vsI R sc)), (9, .int (nI s1))] := by rw [show (gnF R a b (s1 + 1) : Int32) = (gnF R a b s1 + (0 + 0)) from (show gnF R a b (s1 + 1) = gnF R a b s1 + ((if R (84 + 6 * (4 * s1 + a) + 0) = 0 then 0 else 1) + (if R (84 + 6 * (4 * s1 + b) + 0) = 0 then 0 else 1)) from rfl).trans (by rw [if_pos va, if_pos vb])]; exact hl
          refine lv_iinc (v := nI (s1 + 1)) (lv' := [(9, .int (nI (s1 + 1))), (7, .int (gnF R a b (s1 + 1))), (0, .ref (gz g + 0)), (1, .int (nI a)), (2, .int (nI b)), (3, .int 1), (4, .int (R (5 + 11 * a + 1))), (5, .int (R (5 + 11 * b + 2))), (6, .int (R (5 + 11 * a + 3))), (8, .int (vsI R sc))]) hx hb dL_swaps_109 hl (k := 9) rfl (by exact (nI_succ s1).symm) (by decide) rfl (fun ls hl => ?_)
          refine lv_goto (tgt := 61) hx hb dL_swaps_112 (by decide) ?_
          exact ih_lg (s1 + 1) (by omega) _ _ _ (by omega) h (lv_sub hl [2, 3, 4, 5, 6, 7, 8, 9, 1, 0] rfl)
        refine lv_iload hx hb dL_swaps_71 (lv_at hl 8 rfl) ?_
        refine lv_aload_n hx hb dL_swaps_73 rfl (lv_at hl 0 rfl) ?_
        refine lv_iload hx hb dL_swaps_74 (lv_at hl 9 rfl) ?_
        refine lv_iload_n hx hb dL_swaps_76 rfl (lv_at hl 1 rfl) ?_
        refine lv_iconst (v := 3) hx hb dL_swaps_77 (by decide) ?_
        refine u_iE (v := (-100005)) (ru_V (As := [.int (nI s1), .int (nI a), .int 3]) (rest := [.int (gnF R a b s1)]) F h hWd.1 rfl (kw_observation l g n c hWd J (nI s1) (nI a) 3 (v := (-100005)) (ob_n J.s4 J.s5 hs5 ha4 va (by decide))) (gV hjl wd_518 wd_519 wd_520 wd_16 wd_521) rfl 3 (by decide +kernel) rfl ⟨Nat.le_of_ble_eq_true rfl, Nat.le_of_ble_eq_true rfl⟩ rfl hl.1 (Nat.le_of_ble_eq_true rfl) ⟨Nat.zero_le _, Nat.zero_le _⟩ dL_swaps_78) h (fun H locs h => ?_)
        refine lv_if_lt (tgt := 88) hx hb dL_swaps_81 (by decide) (fun b_81 => ?_) (fun b_81 => by first | exact absurd (by decide) b_81 | exact absurd b_81 (by decide))
        refine lv_iconst (v := 0) hx hb dL_swaps_88 (by decide) ?_
        refine lv_aload_n hx hb dL_swaps_89 rfl (lv_at hl 0 rfl) ?_
        refine lv_iload hx hb dL_swaps_90 (lv_at hl 9 rfl) ?_
        refine lv_iload_n hx hb dL_swaps_92 rfl (lv_at hl 2 rfl) ?_
        refine lv_iconst (v := 3) hx hb dL_swaps_93 (by decide) ?_
        refine u_iE (v := R (84 + 6 * (4 * s1 + b) + 4)) (ru_V (As := [.int (nI s1), .int (nI b), .int 3]) (rest := [.int 0, .int (gnF R a b s1)]) F h hWd.1 rfl (kw_observation l g n c hWd J (nI s1) (nI b) 3 (v := R (84 + 6 * (4 * s1 + b) + 4)) (ob_3 J.s4 J.s5 hs5 hb4 vb)) (gV hjl wd_518 wd_519 wd_520 wd_16 wd_521) rfl 3 (by decide +kernel) rfl ⟨Nat.le_of_ble_eq_true rfl, Nat.le_of_ble_eq_true rfl⟩ rfl hl.1 (Nat.le_of_ble_eq_true rfl) ⟨Nat.zero_le _, Nat.zero_le _⟩ dL_swaps_94) h (fun H locs h => ?_)
        refine lv_if_lt (tgt := 104) hx hb dL_swaps_97 (by decide) (fun b_97 => by first | exact absurd b_97 (i_nlt (bt_ge (J.v hs5 hb4 (b01_of (J.ob (by omega) hb4) vb)).2.2.1 0 (by decide))) | exact absurd (i_nlt (bt_ge (J.v hs5 hb4 (b01_of (J.ob (by omega) hb4) vb)).2.2.1 0 (by decide))) b_97) (fun b_97 => ?_)
        refine lv_iconst (v := 1) hx hb dL_swaps_100 (by decide) ?_
        refine lv_goto (tgt := 105) hx hb dL_swaps_101 (by decide) ?_
        refine lv_iadd hx hb dL_swaps_105 ?_
        refine lv_iadd hx hb dL_swaps_106 ?_
        refine lv_istore (lv' := [(7, .int (gnF R a b s1 + (0 + 1))), (0, .ref (gz g + 0)), (1, .int (nI a)), (2, .int (nI b)), (3, .int 1), (4, .int (R (5 + 11 * a + 1))), (5, .int (R (5 + 11 * b + 2))), (6, .int (R (5 + 11 * a + 3))), (8, .int (vsI R sc)), (9, .int (nI s1))]) hx hb dL_swaps_107 hl (by decide) rfl (fun ls hl => ?_)
        have hl : lv_has ls 10 [(7, .int (gnF R a b (s1 + 1))), (0, .ref (gz g + 0)), (1, .int (nI a)), (2, .int (nI b)), (3, .int 1), (4, .int (R (5 + 11 * a + 1))), (5, .int (R (5 + 11 * b + 2))), (6, .int (R (5 + 11 * a + 3))), (8, .int (vsI R sc)), (9, .int (nI s1))] := by rw [show (gnF R a b (s1 + 1) : Int32) = (gnF R a b s1 + (0 + 1)) from (show gnF R a b (s1 + 1) = gnF R a b s1 + ((if R (84 + 6 * (4 * s1 + a) + 0) = 0 then 0 else 1) + (if R (84 + 6 * (4 * s1 + b) + 0) = 0 then 0 else 1)) from rfl).trans (by rw [if_pos va, if_neg vb])]; exact hl
        refine lv_iinc (v := nI (s1 + 1)) (lv' := [(9, .int (nI (s1 + 1))), (7, .int (gnF R a b (s1 + 1))), (0, .ref (gz g + 0)), (1, .int (nI a)), (2, .int (nI b)), (3, .int 1), (4, .int (R (5 + 11 * a + 1))), (5, .int (R (5 + 11 * b + 2))), (6, .int (R (5 + 11 * a + 3))), (8, .int (vsI R sc))]) hx hb dL_swaps_109 hl (k := 9) rfl (by exact (nI_succ s1).symm) (by decide) rfl (fun ls hl => ?_)
        refine lv_goto (tgt := 61) hx hb dL_swaps_112 (by decide) ?_
        exact ih_lg (s1 + 1) (by omega) _ _ _ (by omega) h (lv_sub hl [2, 3, 4, 5, 6, 7, 8, 9, 1, 0] rfl)
      by_cases vb : R (84 + 6 * (4 * s1 + b) + 0) = 0
      · skip
        have hs5 : s1 < sc := lp_lt (N := sc) rfl (by omega) (by omega) b_68
        refine lv_iload hx hb dL_swaps_71 (lv_at hl 8 rfl) ?_
        refine lv_aload_n hx hb dL_swaps_73 rfl (lv_at hl 0 rfl) ?_
        refine lv_iload hx hb dL_swaps_74 (lv_at hl 9 rfl) ?_
        refine lv_iload_n hx hb dL_swaps_76 rfl (lv_at hl 1 rfl) ?_
        refine lv_iconst (v := 3) hx hb dL_swaps_77 (by decide) ?_
        refine u_iE (v := R (84 + 6 * (4 * s1 + a) + 4)) (ru_V (As := [.int (nI s1), .int (nI a), .int 3]) (rest := [.int (gnF R a b s1)]) F h hWd.1 rfl (kw_observation l g n c hWd J (nI s1) (nI a) 3 (v := R (84 + 6 * (4 * s1 + a) + 4)) (ob_3 J.s4 J.s5 hs5 ha4 va)) (gV hjl wd_518 wd_519 wd_520 wd_16 wd_521) rfl 3 (by decide +kernel) rfl ⟨Nat.le_of_ble_eq_true rfl, Nat.le_of_ble_eq_true rfl⟩ rfl hl.1 (Nat.le_of_ble_eq_true rfl) ⟨Nat.zero_le _, Nat.zero_le _⟩ dL_swaps_78) h (fun H locs h => ?_)
        refine lv_if_lt (tgt := 88) hx hb dL_swaps_81 (by decide) (fun b_81 => by first | exact absurd b_81 (i_nlt (bt_ge (J.v hs5 ha4 (b01_of (J.ob (by omega) ha4) va)).2.2.1 0 (by decide))) | exact absurd (i_nlt (bt_ge (J.v hs5 ha4 (b01_of (J.ob (by omega) ha4) va)).2.2.1 0 (by decide))) b_81) (fun b_81 => ?_)
        refine lv_iconst (v := 1) hx hb dL_swaps_84 (by decide) ?_
        refine lv_goto (tgt := 89) hx hb dL_swaps_85 (by decide) ?_
        refine lv_aload_n hx hb dL_swaps_89 rfl (lv_at hl 0 rfl) ?_
        refine lv_iload hx hb dL_swaps_90 (lv_at hl 9 rfl) ?_
        refine lv_iload_n hx hb dL_swaps_92 rfl (lv_at hl 2 rfl) ?_
        refine lv_iconst (v := 3) hx hb dL_swaps_93 (by decide) ?_
        refine u_iE (v := (-100005)) (ru_V (As := [.int (nI s1), .int (nI b), .int 3]) (rest := [.int 1, .int (gnF R a b s1)]) F h hWd.1 rfl (kw_observation l g n c hWd J (nI s1) (nI b) 3 (v := (-100005)) (ob_n J.s4 J.s5 hs5 hb4 vb (by decide))) (gV hjl wd_518 wd_519 wd_520 wd_16 wd_521) rfl 3 (by decide +kernel) rfl ⟨Nat.le_of_ble_eq_true rfl, Nat.le_of_ble_eq_true rfl⟩ rfl hl.1 (Nat.le_of_ble_eq_true rfl) ⟨Nat.zero_le _, Nat.zero_le _⟩ dL_swaps_94) h (fun H locs h => ?_)
        refine lv_if_lt (tgt := 104) hx hb dL_swaps_97 (by decide) (fun b_97 => ?_) (fun b_97 => by first | exact absurd (by decide) b_97 | exact absurd b_97 (by decide))
        refine lv_iconst (v := 0) hx hb dL_swaps_104 (by decide) ?_
        refine lv_iadd hx hb dL_swaps_105 ?_
        refine lv_iadd hx hb dL_swaps_106 ?_
        refine lv_istore (lv' := [(7, .int (gnF R a b s1 + (1 + 0))), (0, .ref (gz g + 0)), (1, .int (nI a)), (2, .int (nI b)), (3, .int 1), (4, .int (R (5 + 11 * a + 1))), (5, .int (R (5 + 11 * b + 2))), (6, .int (R (5 + 11 * a + 3))), (8, .int (vsI R sc)), (9, .int (nI s1))]) hx hb dL_swaps_107 hl (by decide) rfl (fun ls hl => ?_)
        have hl : lv_has ls 10 [(7, .int (gnF R a b (s1 + 1))), (0, .ref (gz g + 0)), (1, .int (nI a)), (2, .int (nI b)), (3, .int 1), (4, .int (R (5 + 11 * a + 1))), (5, .int (R (5 + 11 * b + 2))), (6, .int (R (5 + 11 * a + 3))), (8, .int (vsI R sc)), (9, .int (nI s1))] := by rw [show (gnF R a b (s1 + 1) : Int32) = (gnF R a b s1 + (1 + 0)) from (show gnF R a b (s1 + 1) = gnF R a b s1 + ((if R (84 + 6 * (4 * s1 + a) + 0) = 0 then 0 else 1) + (if R (84 + 6 * (4 * s1 + b) + 0) = 0 then 0 else 1)) from rfl).trans (by rw [if_neg va, if_pos vb])]; exact hl
        refine lv_iinc (v := nI (s1 + 1)) (lv' := [(9, .int (nI (s1 + 1))), (7, .int (gnF R a b (s1 + 1))), (0, .ref (gz g + 0)), (1, .int (nI a)), (2, .int (nI b)), (3, .int 1), (4, .int (R (5 + 11 * a + 1))), (5, .int (R (5 + 11 * b + 2))), (6, .int (R (5 + 11 * a + 3))), (8, .int (vsI R sc))]) hx hb dL_swaps_109 hl (k := 9) rfl (by exact (nI_succ s1).symm) (by decide) rfl (fun ls hl => ?_)
        refine lv_goto (tgt := 61) hx hb dL_swaps_112 (by decide) ?_
        exact ih_lg (s1 + 1) (by omega) _ _ _ (by omega) h (lv_sub hl [2, 3, 4, 5, 6, 7, 8, 9, 1, 0] rfl)
      refine lv_iload hx hb dL_swaps_71 (lv_at hl 8 rfl) ?_
      refine lv_aload_n hx hb dL_swaps_73 rfl (lv_at hl 0 rfl) ?_
      refine lv_iload hx hb dL_swaps_74 (lv_at hl 9 rfl) ?_
      refine lv_iload_n hx hb dL_swaps_76 rfl (lv_at hl 1 rfl) ?_
      refine lv_iconst (v := 3) hx hb dL_swaps_77 (by decide) ?_
      refine u_iE (v := R (84 + 6 * (4 * s1 + a) + 4)) (ru_V (As := [.int (nI s1), .int (nI a), .int 3]) (rest := [.int (gnF R a b s1)]) F h hWd.1 rfl (kw_observation l g n c hWd J (nI s1) (nI a) 3 (v := R (84 + 6 * (4 * s1 + a) + 4)) (ob_3 J.s4 J.s5 hs5 ha4 va)) (gV hjl wd_518 wd_519 wd_520 wd_16 wd_521) rfl 3 (by decide +kernel) rfl ⟨Nat.le_of_ble_eq_true rfl, Nat.le_of_ble_eq_true rfl⟩ rfl hl.1 (Nat.le_of_ble_eq_true rfl) ⟨Nat.zero_le _, Nat.zero_le _⟩ dL_swaps_78) h (fun H locs h => ?_)
      refine lv_if_lt (tgt := 88) hx hb dL_swaps_81 (by decide) (fun b_81 => by first | exact absurd b_81 (i_nlt (bt_ge (J.v hs5 ha4 (b01_of (J.ob (by omega) ha4) va)).2.2.1 0 (by decide))) | exact absurd (i_nlt (bt_ge (J.v hs5 ha4 (b01_of (J.ob (by omega) ha4) va)).2.2.1 0 (by decide))) b_81) (fun b_81 => ?_)
      refine lv_iconst (v := 1) hx hb dL_swaps_84 (by decide) ?_
      refine lv_goto (tgt := 89) hx hb dL_swaps_85 (by decide) ?_
      refine lv_aload_n hx hb dL_swaps_89 rfl (lv_at hl 0 rfl) ?_
      refine lv_iload hx hb dL_swaps_90 (lv_at hl 9 rfl) ?_
      refine lv_iload_n hx hb dL_swaps_92 rfl (lv_at hl 2 rfl) ?_
      refine lv_iconst (v := 3) hx hb dL_swaps_93 (by decide) ?_
      refine u_iE (v := R (84 + 6 * (4 * s1 + b) + 4)) (ru_V (As := [.int (nI s1), .int (nI b), .int 3]) (rest := [.int 1, .int (gnF R a b s1)]) F h hWd.1 rfl (kw_observation l g n c hWd J (nI s1) (nI b) 3 (v := R (84 + 6 * (4 * s1 + b) + 4)) (ob_3 J.s4 J.s5 hs5 hb4 vb)) (gV hjl wd_518 wd_519 wd_520 wd_16 wd_521) rfl 3 (by decide +kernel) rfl ⟨Nat.le_of_ble_eq_true rfl, Nat.le_of_ble_eq_true rfl⟩ rfl hl.1 (Nat.le_of_ble_eq_true rfl) ⟨Nat.zero_le _, Nat.zero_le _⟩ dL_swaps_94) h (fun H locs h => ?_)
      refine lv_if_lt (tgt := 104) hx hb dL_swaps_97 (by decide) (fun b_97 => by first | exact absurd b_97 (i_nlt (bt_ge (J.v hs5 hb4 (b01_of (J.ob (by omega) hb4) vb)).2.2.1 0 (by decide))) | exact absurd (i_nlt (bt_ge (J.v hs5 hb4 (b01_of (J.ob (by omega) hb4) vb)).2.2.1 0 (by decide))) b_97) (fun b_97 => ?_)
      refine lv_iconst (v := 1) hx hb dL_swaps_100 (by decide) ?_
      refine lv_goto (tgt := 105) hx hb dL_swaps_101 (by decide) ?_
      refine lv_iadd hx hb dL_swaps_105 ?_
      refine lv_iadd hx hb dL_swaps_106 ?_
      refine lv_istore (lv' := [(7, .int (gnF R a b s1 + (1 + 1))), (0, .ref (gz g + 0)), (1, .int (nI a)), (2, .int (nI b)), (3, .int 1), (4, .int (R (5 + 11 * a + 1))), (5, .int (R (5 + 11 * b + 2))), (6, .int (R (5 + 11 * a + 3))), (8, .int (vsI R sc)), (9, .int (nI s1))]) hx hb dL_swaps_107 hl (by decide) rfl (fun ls hl => ?_)
      have hl : lv_has ls 10 [(7, .int (gnF R a b (s1 + 1))), (0, .ref (gz g + 0)), (1, .int (nI a)), (2, .int (nI b)), (3, .int 1), (4, .int (R (5 + 11 * a + 1))), (5, .int (R (5 + 11 * b + 2))), (6, .int (R (5 + 11 * a + 3))), (8, .int (vsI R sc)), (9, .int (nI s1))] := by rw [show (gnF R a b (s1 + 1) : Int32) = (gnF R a b s1 + (1 + 1)) from (show gnF R a b (s1 + 1) = gnF R a b s1 + ((if R (84 + 6 * (4 * s1 + a) + 0) = 0 then 0 else 1) + (if R (84 + 6 * (4 * s1 + b) + 0) = 0 then 0 else 1)) from rfl).trans (by rw [if_neg va, if_neg vb])]; exact hl
      refine lv_iinc (v := nI (s1 + 1)) (lv' := [(9, .int (nI (s1 + 1))), (7, .int (gnF R a b (s1 + 1))), (0, .ref (gz g + 0)), (1, .int (nI a)), (2, .int (nI b)), (3, .int 1), (4, .int (R (5 + 11 * a + 1))), (5, .int (R (5 + 11 * b + 2))), (6, .int (R (5 + 11 * a + 3))), (8, .int (vsI R sc))]) hx hb dL_swaps_109 hl (k := 9) rfl (by exact (nI_succ s1).symm) (by decide) rfl (fun ls hl => ?_)
      refine lv_goto (tgt := 61) hx hb dL_swaps_112 (by decide) ?_
      exact ih_lg (s1 + 1) (by omega) _ _ _ (by omega) h (lv_sub hl [2, 3, 4, 5, 6, 7, 8, 9, 1, 0] rfl)
  exact lg _ 0 (Nat.zero_le _) _ _ _ (Nat.le_refl _) h (lv_sub hl [7, 8, 9, 6, 5, 4, 3, 1, 2, 0] rfl)
