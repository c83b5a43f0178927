/-! The law: errors. -/
set_option maxHeartbeats 4000000 in
set_option maxRecDepth 100000 in
theorem k_L_errors (l : Launch) (g : Gf) (n : Nat) (c : Mp) {lh : Nat} {rs : Int32} {R : Nat → Int32} {hq : Nat → Nat → Int32} (hWd : Wd g c lh rs R hq) {sc cn tb : Nat} (J : Jv R sc cn tb) (hn : 352 ≤ n) : Ct l g yL_errors wsL_errors 5 130 4 16 [.ref (gz g + 0)] n c (Qi g (fun xr _ _ => xr = 1)) := by
  have s5 := J.s5
  refine ent (by decide) rfl (Nat.le_of_ble_eq_true rfl) ?_
  intro p e s m args below meth c0 F h ls hl
  have hx := F.1
  have hb := F.2.1
  have hl : lv_has ls 5 [(0, .ref (gz g + 0))] := hl
  refine lv_ldc (v := (-100001)) hx hb F.2.2.2.1 (F.2.2.2.2.1 (Cond.constant RL 52 (-100001)) (List.mem_cons_of_mem _ wd_514)) dL_errors_0 ?_
  refine lv_istore_n (lv' := [(1, .int (-100001)), (0, .ref (gz g + 0))]) hx hb dL_errors_2 rfl hl (by decide) rfl (fun ls hl => ?_)
  refine lv_ldc (v := (-100002)) hx hb F.2.2.2.1 (F.2.2.2.2.1 (Cond.constant RL 15 (-100002)) (List.mem_cons_of_mem _ wd_442)) dL_errors_3 ?_
  refine lv_istore_n (lv' := [(2, .int (-100002)), (1, .int (-100001)), (0, .ref (gz g + 0))]) hx hb dL_errors_5 rfl hl (by decide) rfl (fun ls hl => ?_)
  refine lv_aload_n hx hb dL_errors_6 rfl (lv_at hl 2 rfl) ?_
  refine lv_iconst (v := 3) hx hb dL_errors_7 (by decide) ?_
  refine u_iE (v := nI sc) (ru_V (As := [.int 3]) (rest := []) F h hWd.1 rfl (kw_count l g n c hWd J 3 (v := nI sc) (J.s4)) (gV hjl wd_399 wd_400 wd_401 wd_16 wd_402) rfl 1 (by decide +kernel) rfl ⟨Nat.le_of_ble_eq_true rfl, Nat.le_of_ble_eq_true rfl⟩ rfl hl.1 (Nat.le_of_ble_eq_true rfl) ⟨Nat.zero_le _, Nat.zero_le _⟩ dL_errors_8) h (fun H locs h => ?_)
  refine lv_istore_n (lv' := [(3, .int (nI sc)), (2, .int (-100002)), (1, .int (-100001)), (0, .ref (gz g + 0))]) hx hb dL_errors_11 rfl hl (by decide) rfl (fun ls hl => ?_)
  refine lv_aload_n hx hb dL_errors_12 rfl (lv_at hl 3 rfl) ?_
  refine lv_iconst (v := 4) hx hb dL_errors_13 (by decide) ?_
  refine lv_iconst (v := 0) hx hb dL_errors_14 (by decide) ?_
  refine lv_iconst (v := 0) hx hb dL_errors_15 (by decide) ?_
  refine lv_iconst (v := 1) hx hb dL_errors_16 (by decide) ?_
  refine lv_bipush (v := 10) hx hb dL_errors_17 (by decide) ?_
  have hWua1 : Wd g c lh rs R hq := hWd
  refine u_i (ru_V (As := [.int 4, .int 0, .int 0, .int 1, .int 10]) (rest := []) F h hWd.1 rfl (k_X7_hang l g n c lh 0 rs hWua1.1 R hWua1.2.1 hWua1.2.2.2.2 hq hWua1.2.2.1 J.wb 4 0 0 1 10 sc J.s4 J.s5) (gV hjl wd_270 wd_271 wd_272 wd_16 wd_273) rfl 5 (by decide +kernel) rfl ⟨Nat.le_of_ble_eq_true rfl, Nat.le_of_ble_eq_true rfl⟩ rfl hl.1 (Nat.le_of_ble_eq_true rfl) ⟨Nat.zero_le _, Nat.zero_le _⟩ dL_errors_19) h (fun ra1 na1 ca1 H locs hp h => ?_)
  obtain ⟨hna1, hxa1, hWa1, hFa1⟩ := paW hp hWua1 (by omega) (by unfold sq_X7_hang; rw [if_pos (by decide)]) (hWua1).2.2.2.2
  subst hxa1
  refine lv_iload_n hx hb dL_errors_22 rfl (lv_at hl 2 rfl) ?_
  refine lv_icmp_ne (tgt := 166) hx hb dL_errors_23 (by decide) (fun b_23 => by first | exact absurd b_23 (by decide) | exact absurd (by decide) b_23) (fun b_23 => ?_)
  refine lv_aload_n hx hb dL_errors_26 rfl (lv_at hl 3 rfl) ?_
  refine lv_iconst (v := 0) hx hb dL_errors_27 (by decide) ?_
  refine lv_sipush (v := 5001) hx hb dL_errors_28 (by decide) ?_
  refine lv_iconst (v := 0) hx hb dL_errors_31 (by decide) ?_
  refine lv_iconst (v := 1) hx hb dL_errors_32 (by decide) ?_
  refine lv_bipush (v := 10) hx hb dL_errors_33 (by decide) ?_
  have hWua2 : Wd g ca1 lh rs R hq := hWa1
  refine u_i (ru_V (As := [.int 0, .int 5001, .int 0, .int 1, .int 10]) (rest := []) F h hWa1.1 rfl (k_X7_hang l g na1 ca1 lh 0 rs hWua2.1 R hWua2.2.1 hWua2.2.2.2.2 hq hWua2.2.2.1 J.wb 0 5001 0 1 10 sc J.s4 J.s5) (gV hjl wd_270 wd_271 wd_272 wd_16 wd_273) rfl 5 (by decide +kernel) rfl ⟨Nat.le_of_ble_eq_true rfl, Nat.le_of_ble_eq_true rfl⟩ rfl hl.1 (Nat.le_of_ble_eq_true rfl) ⟨Nat.zero_le _, Nat.zero_le _⟩ dL_errors_35) h (fun ra2 na2 ca2 H locs hp h => ?_)
  obtain ⟨hna2, hxa2, hWa2, hFa2⟩ := paW hp hWua2 (by omega) (by unfold sq_X7_hang; rw [if_neg (by decide), if_pos (by decide)]) (hWua2).2.2.2.2
  subst hxa2
  refine lv_iload_n hx hb dL_errors_38 rfl (lv_at hl 1 rfl) ?_
  refine lv_icmp_ne (tgt := 166) hx hb dL_errors_39 (by decide) (fun b_39 => by first | exact absurd b_39 (by decide) | exact absurd (by decide) b_39) (fun b_39 => ?_)
  refine lv_aload_n hx hb dL_errors_42 rfl (lv_at hl 3 rfl) ?_
  refine lv_iconst (v := 0) hx hb dL_errors_43 (by decide) ?_
  refine lv_iconst (v := 0) hx hb dL_errors_44 (by decide) ?_
  refine lv_iconst (v := 0) hx hb dL_errors_45 (by decide) ?_
  refine lv_iconst (v := 0) hx hb dL_errors_46 (by decide) ?_
  refine lv_bipush (v := 10) hx hb dL_errors_47 (by decide) ?_
  have hWua3 : Wd g ca2 lh rs R hq := hWa2
  refine u_i (ru_V (As := [.int 0, .int 0, .int 0, .int 0, .int 10]) (rest := []) F h hWa2.1 rfl (k_X7_hang l g na2 ca2 lh 0 rs hWua3.1 R hWua3.2.1 hWua3.2.2.2.2 hq hWua3.2.2.1 J.wb 0 0 0 0 10 sc J.s4 J.s5) (gV hjl wd_270 wd_271 wd_272 wd_16 wd_273) rfl 5 (by decide +kernel) rfl ⟨Nat.le_of_ble_eq_true rfl, Nat.le_of_ble_eq_true rfl⟩ rfl hl.1 (Nat.le_of_ble_eq_true rfl) ⟨Nat.zero_le _, Nat.zero_le _⟩ dL_errors_49) h (fun ra3 na3 ca3 H locs hp h => ?_)
  obtain ⟨hna3, hxa3, hWa3, hFa3⟩ := paW hp hWua3 (by omega) (by unfold sq_X7_hang; rw [if_neg (by decide), if_neg (by decide), if_neg (by decide), if_pos (by decide)]) (hWua3).2.2.2.2
  subst hxa3
  refine lv_iload_n hx hb dL_errors_52 rfl (lv_at hl 1 rfl) ?_
  refine lv_icmp_ne (tgt := 166) hx hb dL_errors_53 (by decide) (fun b_53 => by first | exact absurd b_53 (by decide) | exact absurd (by decide) b_53) (fun b_53 => ?_)
  refine lv_aload_n hx hb dL_errors_56 rfl (lv_at hl 3 rfl) ?_
  refine lv_iconst (v := 0) hx hb dL_errors_57 (by decide) ?_
  refine lv_iconst (v := 0) hx hb dL_errors_58 (by decide) ?_
  refine lv_iconst (v := 0) hx hb dL_errors_59 (by decide) ?_
  refine lv_iconst (v := 1) hx hb dL_errors_60 (by decide) ?_
  refine lv_sipush (v := 801) hx hb dL_errors_61 (by decide) ?_
  have hWua4 : Wd g ca3 lh rs R hq := hWa3
  refine u_i (ru_V (As := [.int 0, .int 0, .int 0, .int 1, .int 801]) (rest := []) F h hWa3.1 rfl (k_X7_hang l g na3 ca3 lh 0 rs hWua4.1 R hWua4.2.1 hWua4.2.2.2.2 hq hWua4.2.2.1 J.wb 0 0 0 1 801 sc J.s4 J.s5) (gV hjl wd_270 wd_271 wd_272 wd_16 wd_273) rfl 5 (by decide +kernel) rfl ⟨Nat.le_of_ble_eq_true rfl, Nat.le_of_ble_eq_true rfl⟩ rfl hl.1 (Nat.le_of_ble_eq_true rfl) ⟨Nat.zero_le _, Nat.zero_le _⟩ dL_errors_64) h (fun ra4 na4 ca4 H locs hp h => ?_)
  obtain ⟨hna4, hxa4, hWa4, hFa4⟩ := paW hp hWua4 (by omega) (by unfold sq_X7_hang; rw [if_neg (by decide), if_neg (by decide), if_neg (by decide), if_neg (by decide), if_pos (by decide)]) (hWua4).2.2.2.2
  subst hxa4
  refine lv_iload_n hx hb dL_errors_67 rfl (lv_at hl 1 rfl) ?_
  refine lv_icmp_ne (tgt := 166) hx hb dL_errors_68 (by decide) (fun b_68 => by first | exact absurd b_68 (by decide) | exact absurd (by decide) b_68) (fun b_68 => ?_)
  refine lv_aload_n hx hb dL_errors_71 rfl (lv_at hl 3 rfl) ?_
  refine lv_iconst (v := 0) hx hb dL_errors_72 (by decide) ?_
  refine lv_iconst (v := 0) hx hb dL_errors_73 (by decide) ?_
  refine lv_iconst (v := 0) hx hb dL_errors_74 (by decide) ?_
  refine lv_iconst (v := 1) hx hb dL_errors_75 (by decide) ?_
  refine lv_bipush (v := 9) hx hb dL_errors_76 (by decide) ?_
  have hWua5 : Wd g ca4 lh rs R hq := hWa4
  refine u_i (ru_V (As := [.int 0, .int 0, .int 0, .int 1, .int 9]) (rest := []) F h hWa4.1 rfl (k_X7_hang l g na4 ca4 lh 0 rs hWua5.1 R hWua5.2.1 hWua5.2.2.2.2 hq hWua5.2.2.1 J.wb 0 0 0 1 9 sc J.s4 J.s5) (gV hjl wd_270 wd_271 wd_272 wd_16 wd_273) rfl 5 (by decide +kernel) rfl ⟨Nat.le_of_ble_eq_true rfl, Nat.le_of_ble_eq_true rfl⟩ rfl hl.1 (Nat.le_of_ble_eq_true rfl) ⟨Nat.zero_le _, Nat.zero_le _⟩ dL_errors_78) h (fun ra5 na5 ca5 H locs hp h => ?_)
  obtain ⟨hna5, hxa5, hWa5, hFa5⟩ := paW hp hWua5 (by omega) (by unfold sq_X7_hang; rw [if_neg (by decide), if_neg (by decide), if_neg (by decide), if_neg (by decide), if_pos (by decide)]) (hWua5).2.2.2.2
  subst hxa5
  refine lv_iload_n hx hb dL_errors_81 rfl (lv_at hl 1 rfl) ?_
  refine lv_icmp_ne (tgt := 166) hx hb dL_errors_82 (by decide) (fun b_82 => by first | exact absurd b_82 (by decide) | exact absurd (by decide) b_82) (fun b_82 => ?_)
  refine lv_aload_n hx hb dL_errors_85 rfl (lv_at hl 3 rfl) ?_
  refine lv_iconst (v := (-1)) hx hb dL_errors_86 (by decide) ?_
  have hWua6 : Wd g ca5 lh rs R hq := hWa5
  refine u_i (ru_V (As := [.int (-1)]) (rest := []) F h hWa5.1 rfl (k_X7_lift l g na5 ca5 lh 0 rs hWua6.1 R hWua6.2.1 hWua6.2.2.2.2 hq hWua6.2.2.1 J.wb (-1) sc J.s4 J.s5) (gV hjl wd_326 wd_327 wd_328 wd_16 wd_329) rfl 1 (by decide +kernel) rfl ⟨Nat.le_of_ble_eq_true rfl, Nat.le_of_ble_eq_true rfl⟩ rfl hl.1 (Nat.le_of_ble_eq_true rfl) ⟨Nat.zero_le _, Nat.zero_le _⟩ dL_errors_87) h (fun ra6 na6 ca6 H locs hp h => ?_)
  obtain ⟨hna6, hxa6, hWa6, hFa6⟩ := paW hp hWua6 (by omega) (by unfold sq_X7_lift; rw [if_pos (by decide)]) (hWua6).2.2.2.2
  subst hxa6
  refine lv_iload_n hx hb dL_errors_90 rfl (lv_at hl 2 rfl) ?_
  refine lv_icmp_ne (tgt := 166) hx hb dL_errors_91 (by decide) (fun b_91 => by first | exact absurd b_91 (by decide) | exact absurd (by decide) b_91) (fun b_91 => ?_)
  refine lv_aload_n hx hb dL_errors_94 rfl (lv_at hl 3 rfl) ?_
  refine lv_iconst (v := 4) hx hb dL_errors_95 (by decide) ?_
  refine lv_iconst (v := 0) hx hb dL_errors_96 (by decide) ?_
  refine lv_iconst (v := 0) hx hb dL_errors_97 (by decide) ?_
  have hWua7 : Wd g ca6 lh rs R hq := hWa6
  refine u_i (ru_V (As := [.int 4, .int 0, .int 0]) (rest := []) F h hWa6.1 rfl (k_X7_setClamp l g na6 ca6 lh 0 rs hWua7.1 R hWua7.2.1 hWua7.2.2.2.2 hq hWua7.2.2.1 J.wb 4 0 0 sc J.s4 J.s5) (gV hjl wd_339 wd_340 wd_341 wd_16 wd_342) rfl 3 (by decide +kernel) rfl ⟨Nat.le_of_ble_eq_true rfl, Nat.le_of_ble_eq_true rfl⟩ rfl hl.1 (Nat.le_of_ble_eq_true rfl) ⟨Nat.zero_le _, Nat.zero_le _⟩ dL_errors_98) h (fun ra7 na7 ca7 H locs hp h => ?_)
  obtain ⟨hna7, hxa7, hWa7, hFa7⟩ := paW hp hWua7 (by omega) (by unfold sq_X7_setClamp; rw [if_pos (by decide)]) (hWua7).2.2.2.2
  subst hxa7
  refine lv_iload_n hx hb dL_errors_101 rfl (lv_at hl 2 rfl) ?_
  refine lv_icmp_ne (tgt := 166) hx hb dL_errors_102 (by decide) (fun b_102 => by first | exact absurd b_102 (by decide) | exact absurd (by decide) b_102) (fun b_102 => ?_)
  refine lv_aload_n hx hb dL_errors_105 rfl (lv_at hl 3 rfl) ?_
  refine lv_iconst (v := 0) hx hb dL_errors_106 (by decide) ?_
  refine lv_bipush (v := 21) hx hb dL_errors_107 (by decide) ?_
  refine lv_iconst (v := 0) hx hb dL_errors_109 (by decide) ?_
  have hWua8 : Wd g ca7 lh rs R hq := hWa7
  refine u_i (ru_V (As := [.int 0, .int 21, .int 0]) (rest := []) F h hWa7.1 rfl (k_X7_setClamp l g na7 ca7 lh 0 rs hWua8.1 R hWua8.2.1 hWua8.2.2.2.2 hq hWua8.2.2.1 J.wb 0 21 0 sc J.s4 J.s5) (gV hjl wd_339 wd_340 wd_341 wd_16 wd_342) rfl 3 (by decide +kernel) rfl ⟨Nat.le_of_ble_eq_true rfl, Nat.le_of_ble_eq_true rfl⟩ rfl hl.1 (Nat.le_of_ble_eq_true rfl) ⟨Nat.zero_le _, Nat.zero_le _⟩ dL_errors_110) h (fun ra8 na8 ca8 H locs hp h => ?_)
  obtain ⟨hna8, hxa8, hWa8, hFa8⟩ := paW hp hWua8 (by omega) (by unfold sq_X7_setClamp; rw [if_neg (by decide), if_pos (by decide)]) (hWua8).2.2.2.2
  subst hxa8
  refine lv_iload_n hx hb dL_errors_113 rfl (lv_at hl 1 rfl) ?_
  refine lv_icmp_ne (tgt := 166) hx hb dL_errors_114 (by decide) (fun b_114 => by first | exact absurd b_114 (by decide) | exact absurd (by decide) b_114) (fun b_114 => ?_)
  refine lv_aload_n hx hb dL_errors_117 rfl (lv_at hl 3 rfl) ?_
  refine lv_iconst (v := 0) hx hb dL_errors_118 (by decide) ?_
  refine lv_iconst (v := 3) hx hb dL_errors_119 (by decide) ?_
  have hWua9 : Wd g ca8 lh rs R hq := hWa8
  refine u_i (ru_V (As := [.int 0, .int 3]) (rest := []) F h hWa8.1 rfl (k_X7_setBucket l g na8 ca8 lh 0 rs hWua9.1 R hWua9.2.1 hWua9.2.2.2.2 hq hWua9.2.2.1 J.wb 0 3 sc J.s4 J.s5) (gV hjl wd_346 wd_347 wd_348 wd_16 wd_349) rfl 2 (by decide +kernel) rfl ⟨Nat.le_of_ble_eq_true rfl, Nat.le_of_ble_eq_true rfl⟩ rfl hl.1 (Nat.le_of_ble_eq_true rfl) ⟨Nat.zero_le _, Nat.zero_le _⟩ dL_errors_120) h (fun ra9 na9 ca9 H locs hp h => ?_)
  obtain ⟨hna9, hxa9, hWa9, hFa9⟩ := paW hp hWua9 (by omega) (by unfold sq_X7_setBucket; rw [if_neg (by decide), if_pos (by decide)]) (hWua9).2.2.2.2
  subst hxa9
  refine lv_iload_n hx hb dL_errors_123 rfl (lv_at hl 1 rfl) ?_
  refine lv_icmp_ne (tgt := 166) hx hb dL_errors_124 (by decide) (fun b_124 => by first | exact absurd b_124 (by decide) | exact absurd (by decide) b_124) (fun b_124 => ?_)
  refine lv_aload_n hx hb dL_errors_127 rfl (lv_at hl 3 rfl) ?_
  refine lv_iconst (v := 0) hx hb dL_errors_128 (by decide) ?_
  refine lv_bipush (v := 8) hx hb dL_errors_129 (by decide) ?_
  refine lv_iconst (v := 1) hx hb dL_errors_131 (by decide) ?_
  have hWua10 : Wd g ca9 lh rs R hq := hWa9
  refine u_i (ru_V (As := [.int 0, .int 8, .int 1]) (rest := []) F h hWa9.1 rfl (k_X7_push l g na9 ca9 lh 0 rs hWua10.1 R hWua10.2.1 hWua10.2.2.2.2 hq hWua10.2.2.1 J.wb 0 8 1 sc J.s4 J.s5) (gV hjl wd_350 wd_351 wd_352 wd_16 wd_353) rfl 3 (by decide +kernel) rfl ⟨Nat.le_of_ble_eq_true rfl, Nat.le_of_ble_eq_true rfl⟩ rfl hl.1 (Nat.le_of_ble_eq_true rfl) ⟨Nat.zero_le _, Nat.zero_le _⟩ dL_errors_132) h (fun ra10 na10 ca10 H locs hp h => ?_)
  obtain ⟨hna10, hxa10, hWa10, hFa10⟩ := paW hp hWua10 (by omega) (by unfold sq_X7_push; rw [if_neg (by decide), if_pos (by decide)]) (hWua10).2.2.2.2
  subst hxa10
  refine lv_iload_n hx hb dL_errors_135 rfl (lv_at hl 1 rfl) ?_
  refine lv_icmp_ne (tgt := 166) hx hb dL_errors_136 (by decide) (fun b_136 => by first | exact absurd b_136 (by decide) | exact absurd (by decide) b_136) (fun b_136 => ?_)
  refine lv_aload_n hx hb dL_errors_139 rfl (lv_at hl 3 rfl) ?_
  refine lv_iconst (v := 0) hx hb dL_errors_140 (by decide) ?_
  refine lv_iconst (v := 0) hx hb dL_errors_141 (by decide) ?_
  refine lv_sipush (v := 501) hx hb dL_errors_142 (by decide) ?_
  have hWua11 : Wd g ca10 lh rs R hq := hWa10
  refine u_i (ru_V (As := [.int 0, .int 0, .int 501]) (rest := []) F h hWa10.1 rfl (k_X7_push l g na10 ca10 lh 0 rs hWua11.1 R hWua11.2.1 hWua11.2.2.2.2 hq hWua11.2.2.1 J.wb 0 0 501 sc J.s4 J.s5) (gV hjl wd_350 wd_351 wd_352 wd_16 wd_353) rfl 3 (by decide +kernel) rfl ⟨Nat.le_of_ble_eq_true rfl, Nat.le_of_ble_eq_true rfl⟩ rfl hl.1 (Nat.le_of_ble_eq_true rfl) ⟨Nat.zero_le _, Nat.zero_le _⟩ dL_errors_145) h (fun ra11 na11 ca11 H locs hp h => ?_)
  obtain ⟨hna11, hxa11, hWa11, hFa11⟩ := paW hp hWua11 (by omega) (by unfold sq_X7_push; rw [if_neg (by decide), if_neg (by decide), if_pos (by decide)]) (hWua11).2.2.2.2
  subst hxa11
  refine lv_iload_n hx hb dL_errors_148 rfl (lv_at hl 1 rfl) ?_
  refine lv_icmp_ne (tgt := 166) hx hb dL_errors_149 (by decide) (fun b_149 => by first | exact absurd b_149 (by decide) | exact absurd (by decide) b_149) (fun b_149 => ?_)
  refine lv_aload_n hx hb dL_errors_152 rfl (lv_at hl 3 rfl) ?_
  refine lv_iconst (v := 0) hx hb dL_errors_153 (by decide) ?_
  refine lv_iconst (v := 4) hx hb dL_errors_154 (by decide) ?_
  have hWua12 : Wd g ca11 lh rs R hq := hWa11
  refine u_i (ru_V (As := [.int 0, .int 4]) (rest := []) F h hWa11.1 rfl (k_X7_swap l g na11 ca11 lh 0 rs hWua12.1 R hWua12.2.1 hWua12.2.2.2.2 hq hWua12.2.2.1 J.wb 0 4 sc sc J.s4 J.s5) (gV hjl wd_676 wd_677 wd_678 wd_16 wd_679) rfl 2 (by decide +kernel) rfl ⟨Nat.le_of_ble_eq_true rfl, Nat.le_of_ble_eq_true rfl⟩ rfl hl.1 (Nat.le_of_ble_eq_true rfl) ⟨Nat.zero_le _, Nat.zero_le _⟩ dL_errors_155) h (fun ra12 na12 ca12 H locs hp h => ?_)
  obtain ⟨hna12, hxa12, hWa12, hFa12⟩ := paW hp hWua12 (by omega) (by unfold sq_X7_swap; rw [if_neg (by decide), if_pos (by decide)]) (hWua12).2.2.2.2
  subst hxa12
  refine lv_iload_n hx hb dL_errors_158 rfl (lv_at hl 2 rfl) ?_
  refine lv_icmp_ne (tgt := 166) hx hb dL_errors_159 (by decide) (fun b_159 => by first | exact absurd b_159 (by decide) | exact absurd (by decide) b_159) (fun b_159 => ?_)
  refine lv_iconst (v := 1) hx hb dL_errors_162 (by decide) ?_
  refine lv_goto (tgt := 167) hx hb dL_errors_163 (by decide) ?_
  refine lv_istore (lv' := [(4, .int 1), (3, .int (nI sc)), (2, .int (-100002)), (1, .int (-100001)), (0, .ref (gz g + 0))]) hx hb dL_errors_167 hl (by decide) rfl (fun ls hl => ?_)
  refine lv_iload hx hb dL_errors_169 (lv_at hl 0 rfl) ?_
  refine lv_if_eq (tgt := 332) hx hb dL_errors_171 (by decide) (fun b_171 => by first | exact absurd b_171 (by decide) | exact absurd (by decide) b_171) (fun b_171 => ?_)
  refine lv_aload_n hx hb dL_errors_174 rfl (lv_at hl 4 rfl) ?_
  refine lv_iconst (v := 5) hx hb dL_errors_175 (by decide) ?_
  refine lv_iconst (v := 5) hx hb dL_errors_176 (by decide) ?_
  refine lv_iconst (v := 0) hx hb dL_errors_177 (by decide) ?_
  refine lv_iconst (v := 0) hx hb dL_errors_178 (by decide) ?_
  have hWua13 : Wd g ca12 lh rs R hq := hWa12
  refine u_i (ru_V (As := [.int 5, .int 5, .int 0, .int 0]) (rest := []) F h hWa12.1 rfl (k_X7_addCurrent l g na12 ca12 lh 0 rs hWua13.1 R hWua13.2.1 hWua13.2.2.2.2 hq hWua13.2.2.1 J.wb 5 5 0 0 sc cn J.s4 J.s5 J.c3 J.c5) (gV hjl wd_359 wd_360 wd_361 wd_16 wd_362) rfl 4 (by decide +kernel) rfl ⟨Nat.le_of_ble_eq_true rfl, Nat.le_of_ble_eq_true rfl⟩ rfl hl.1 (Nat.le_of_ble_eq_true rfl) ⟨Nat.zero_le _, Nat.zero_le _⟩ dL_errors_179) h (fun ra13 na13 ca13 H locs hp h => ?_)
  obtain ⟨hna13, hxa13, hWa13, hFa13⟩ := paW hp hWua13 (by omega) (by unfold sq_X7_addCurrent; rw [if_neg (by decide), if_pos (by decide)]) (hWua13).2.2.2.2
  subst hxa13
  refine lv_iload_n hx hb dL_errors_182 rfl (lv_at hl 2 rfl) ?_
  refine lv_icmp_ne (tgt := 332) hx hb dL_errors_183 (by decide) (fun b_183 => by first | exact absurd b_183 (by decide) | exact absurd (by decide) b_183) (fun b_183 => ?_)
  refine lv_aload_n hx hb dL_errors_186 rfl (lv_at hl 4 rfl) ?_
  refine lv_iconst (v := (-1)) hx hb dL_errors_187 (by decide) ?_
  refine lv_iconst (v := 5) hx hb dL_errors_188 (by decide) ?_
  refine lv_iconst (v := 0) hx hb dL_errors_189 (by decide) ?_
  refine lv_iconst (v := 0) hx hb dL_errors_190 (by decide) ?_
  have hWua14 : Wd g ca13 lh rs R hq := hWa13
  refine u_i (ru_V (As := [.int (-1), .int 5, .int 0, .int 0]) (rest := []) F h hWa13.1 rfl (k_X7_addCurrent l g na13 ca13 lh 0 rs hWua14.1 R hWua14.2.1 hWua14.2.2.2.2 hq hWua14.2.2.1 J.wb (-1) 5 0 0 sc cn J.s4 J.s5 J.c3 J.c5) (gV hjl wd_359 wd_360 wd_361 wd_16 wd_362) rfl 4 (by decide +kernel) rfl ⟨Nat.le_of_ble_eq_true rfl, Nat.le_of_ble_eq_true rfl⟩ rfl hl.1 (Nat.le_of_ble_eq_true rfl) ⟨Nat.zero_le _, Nat.zero_le _⟩ dL_errors_191) h (fun ra14 na14 ca14 H locs hp h => ?_)
  obtain ⟨hna14, hxa14, hWa14, hFa14⟩ := paW hp hWua14 (by omega) (by unfold sq_X7_addCurrent; rw [if_pos (by decide)]) (hWua14).2.2.2.2
  subst hxa14
  refine lv_iload_n hx hb dL_errors_194 rfl (lv_at hl 2 rfl) ?_
  refine lv_icmp_ne (tgt := 332) hx hb dL_errors_195 (by decide) (fun b_195 => by first | exact absurd b_195 (by decide) | exact absurd (by decide) b_195) (fun b_195 => ?_)
  refine lv_aload_n hx hb dL_errors_198 rfl (lv_at hl 4 rfl) ?_
  refine lv_iconst (v := 0) hx hb dL_errors_199 (by decide) ?_
  refine lv_sipush (v := 801) hx hb dL_errors_200 (by decide) ?_
  refine lv_iconst (v := 0) hx hb dL_errors_203 (by decide) ?_
  refine lv_iconst (v := 0) hx hb dL_errors_204 (by decide) ?_
  have hWua15 : Wd g ca14 lh rs R hq := hWa14
  refine u_i (ru_V (As := [.int 0, .int 801, .int 0, .int 0]) (rest := []) F h hWa14.1 rfl (k_X7_addCurrent l g na14 ca14 lh 0 rs hWua15.1 R hWua15.2.1 hWua15.2.2.2.2 hq hWua15.2.2.1 J.wb 0 801 0 0 sc cn J.s4 J.s5 J.c3 J.c5) (gV hjl wd_359 wd_360 wd_361 wd_16 wd_362) rfl 4 (by decide +kernel) rfl ⟨Nat.le_of_ble_eq_true rfl, Nat.le_of_ble_eq_true rfl⟩ rfl hl.1 (Nat.le_of_ble_eq_true rfl) ⟨Nat.zero_le _, Nat.zero_le _⟩ dL_errors_205) h (fun ra15 na15 ca15 H locs hp h => ?_)
  obtain ⟨hna15, hxa15, hWa15, hFa15⟩ := paW hp hWua15 (by omega) (by unfold sq_X7_addCurrent; rw [if_neg (by decide), if_pos (by decide)]) (hWua15).2.2.2.2
  subst hxa15
  refine lv_iload_n hx hb dL_errors_208 rfl (lv_at hl 2 rfl) ?_
  refine lv_icmp_ne (tgt := 332) hx hb dL_errors_209 (by decide) (fun b_209 => by first | exact absurd b_209 (by decide) | exact absurd (by decide) b_209) (fun b_209 => ?_)
  refine lv_aload_n hx hb dL_errors_212 rfl (lv_at hl 4 rfl) ?_
  refine lv_iconst (v := 0) hx hb dL_errors_213 (by decide) ?_
  refine lv_iconst (v := 1) hx hb dL_errors_214 (by decide) ?_
  refine lv_bipush (v := 51) hx hb dL_errors_215 (by decide) ?_
  refine lv_iconst (v := 0) hx hb dL_errors_217 (by decide) ?_
  have hWua16 : Wd g ca15 lh rs R hq := hWa15
  refine u_i (ru_V (As := [.int 0, .int 1, .int 51, .int 0]) (rest := []) F h hWa15.1 rfl (k_X7_addCurrent l g na15 ca15 lh 0 rs hWua16.1 R hWua16.2.1 hWua16.2.2.2.2 hq hWua16.2.2.1 J.wb 0 1 51 0 sc cn J.s4 J.s5 J.c3 J.c5) (gV hjl wd_359 wd_360 wd_361 wd_16 wd_362) rfl 4 (by decide +kernel) rfl ⟨Nat.le_of_ble_eq_true rfl, Nat.le_of_ble_eq_true rfl⟩ rfl hl.1 (Nat.le_of_ble_eq_true rfl) ⟨Nat.zero_le _, Nat.zero_le _⟩ dL_errors_218) h (fun ra16 na16 ca16 H locs hp h => ?_)
  obtain ⟨hna16, hxa16, hWa16, hFa16⟩ := paW hp hWua16 (by omega) (by unfold sq_X7_addCurrent; rw [if_neg (by decide), if_neg (by decide), if_pos (by decide)]) (hWua16).2.2.2.2
  subst hxa16
  refine lv_iload_n hx hb dL_errors_221 rfl (lv_at hl 2 rfl) ?_
  refine lv_icmp_ne (tgt := 332) hx hb dL_errors_222 (by decide) (fun b_222 => by first | exact absurd b_222 (by decide) | exact absurd (by decide) b_222) (fun b_222 => ?_)
  refine lv_aload_n hx hb dL_errors_225 rfl (lv_at hl 4 rfl) ?_
  refine lv_iconst (v := 0) hx hb dL_errors_226 (by decide) ?_
  refine lv_iconst (v := 0) hx hb dL_errors_227 (by decide) ?_
  have hWua17 : Wd g ca16 lh rs R hq := hWa16
  refine u_i (ru_V (As := [.int 0, .int 0]) (rest := []) F h hWa16.1 rfl (k_X7_addStation l g na16 ca16 lh 0 rs hWua17.1 R hWua17.2.1 hWua17.2.2.2.2 hq hWua17.2.2.1 J.wb 0 0 sc J.s4 J.s5) (gV hjl wd_378 wd_379 wd_380 wd_16 wd_381) rfl 2 (by decide +kernel) rfl ⟨Nat.le_of_ble_eq_true rfl, Nat.le_of_ble_eq_true rfl⟩ rfl hl.1 (Nat.le_of_ble_eq_true rfl) ⟨Nat.zero_le _, Nat.zero_le _⟩ dL_errors_228) h (fun ra17 na17 ca17 H locs hp h => ?_)
  obtain ⟨hna17, hxa17, hWa17, hFa17⟩ := paW hp hWua17 (by omega) (by unfold sq_X7_addStation; rw [if_pos (by decide)]) (hWua17).2.2.2.2
  subst hxa17
  refine lv_iload_n hx hb dL_errors_231 rfl (lv_at hl 2 rfl) ?_
  refine lv_icmp_ne (tgt := 332) hx hb dL_errors_232 (by decide) (fun b_232 => by first | exact absurd b_232 (by decide) | exact absurd (by decide) b_232) (fun b_232 => ?_)
  refine lv_aload_n hx hb dL_errors_235 rfl (lv_at hl 4 rfl) ?_
  refine lv_iconst (v := 1) hx hb dL_errors_236 (by decide) ?_
  refine lv_sipush (v := 8000) hx hb dL_errors_237 (by decide) ?_
  have hWua18 : Wd g ca17 lh rs R hq := hWa17
  refine u_i (ru_V (As := [.int 1, .int 8000]) (rest := []) F h hWa17.1 rfl (k_X7_addStation l g na17 ca17 lh 0 rs hWua18.1 R hWua18.2.1 hWua18.2.2.2.2 hq hWua18.2.2.1 J.wb 1 8000 sc J.s4 J.s5) (gV hjl wd_378 wd_379 wd_380 wd_16 wd_381) rfl 2 (by decide +kernel) rfl ⟨Nat.le_of_ble_eq_true rfl, Nat.le_of_ble_eq_true rfl⟩ rfl hl.1 (Nat.le_of_ble_eq_true rfl) ⟨Nat.zero_le _, Nat.zero_le _⟩ dL_errors_240) h (fun ra18 na18 ca18 H locs hp h => ?_)
  obtain ⟨hna18, hxa18, hWa18, hFa18⟩ := paW hp hWua18 (by omega) (by unfold sq_X7_addStation; rw [if_neg (by decide), if_pos (by decide)]) (hWua18).2.2.2.2
  subst hxa18
  refine lv_iload_n hx hb dL_errors_243 rfl (lv_at hl 2 rfl) ?_
  refine lv_icmp_ne (tgt := 332) hx hb dL_errors_244 (by decide) (fun b_244 => by first | exact absurd b_244 (by decide) | exact absurd (by decide) b_244) (fun b_244 => ?_)
  refine lv_aload_n hx hb dL_errors_247 rfl (lv_at hl 4 rfl) ?_
  refine lv_sipush (v := 501) hx hb dL_errors_248 (by decide) ?_
  have hWua19 : Wd g ca18 lh rs R hq := hWa18
  refine u_i (ru_V (As := [.int 501]) (rest := []) F h hWa18.1 rfl (k_X7_setTolerance l g na18 ca18 lh 0 rs hWua19.1 R hWua19.2.1 hWua19.2.2.2.2 hq hWua19.2.2.1 J.wb 501 ) (gV hjl wd_386 wd_387 wd_388 wd_16 wd_389) rfl 1 (by decide +kernel) rfl ⟨Nat.le_of_ble_eq_true rfl, Nat.le_of_ble_eq_true rfl⟩ rfl hl.1 (Nat.le_of_ble_eq_true rfl) ⟨Nat.zero_le _, Nat.zero_le _⟩ dL_errors_251) h (fun ra19 na19 ca19 H locs hp h => ?_)
  obtain ⟨hna19, hxa19, hWa19, hFa19⟩ := paW hp hWua19 (by omega) (by unfold sq_X7_setTolerance; rw [if_pos (by decide)]) (hWua19).2.2.2.2
  subst hxa19
  refine lv_iload_n hx hb dL_errors_254 rfl (lv_at hl 2 rfl) ?_
  refine lv_icmp_ne (tgt := 332) hx hb dL_errors_255 (by decide) (fun b_255 => by first | exact absurd b_255 (by decide) | exact absurd (by decide) b_255) (fun b_255 => ?_)
  refine lv_aload_n hx hb dL_errors_258 rfl (lv_at hl 4 rfl) ?_
  refine lv_iconst (v := 0) hx hb dL_errors_259 (by decide) ?_
  refine lv_iload_n hx hb dL_errors_260 rfl (lv_at hl 1 rfl) ?_
  refine lv_iconst (v := 1) hx hb dL_errors_261 (by decide) ?_
  have hWua20 : Wd g ca19 lh rs R hq := hWa19
  refine u_i (ru_V (As := [.int 0, .int (nI sc), .int 1]) (rest := []) F h hWa19.1 rfl (k_X7_observe l g na19 ca19 lh 0 rs hWua20.1 R hWua20.2.1 hWua20.2.2.2.2 hq hWua20.2.2.1 J.wb 0 (nI sc) 1 sc cn J.s4 J.s5 J.c3 J.c5 (by omega)) (gV hjl wd_610 wd_611 wd_612 wd_16 wd_613) rfl 3 (by decide +kernel) rfl ⟨Nat.le_of_ble_eq_true rfl, Nat.le_of_ble_eq_true rfl⟩ rfl hl.1 (Nat.le_of_ble_eq_true rfl) ⟨by decide, by decide⟩ dL_errors_262) h (fun ra20 na20 ca20 H locs hp h => ?_)
  obtain ⟨hna20, hxa20, hWa20, hFa20⟩ := paW hp hWua20 (by omega) (by unfold sq_X7_observe; rw [if_neg (by decide), if_pos (outS J.s4 J.s5)]) (hWua20).2.2.2.2
  subst hxa20
  refine lv_iload_n hx hb dL_errors_265 rfl (lv_at hl 3 rfl) ?_
  refine lv_icmp_ne (tgt := 332) hx hb dL_errors_266 (by decide) (fun b_266 => by first | exact absurd b_266 (by decide) | exact absurd (by decide) b_266) (fun b_266 => ?_)
  refine lv_aload_n hx hb dL_errors_269 rfl (lv_at hl 4 rfl) ?_
  refine lv_iconst (v := 4) hx hb dL_errors_270 (by decide) ?_
  refine lv_iconst (v := 0) hx hb dL_errors_271 (by decide) ?_
  refine lv_iconst (v := 1) hx hb dL_errors_272 (by decide) ?_
  have hWua21 : Wd g ca20 lh rs R hq := hWa20
  refine u_i (ru_V (As := [.int 4, .int 0, .int 1]) (rest := []) F h hWa20.1 rfl (k_X7_observe l g na20 ca20 lh 0 rs hWua21.1 R hWua21.2.1 hWua21.2.2.2.2 hq hWua21.2.2.1 J.wb 4 0 1 sc cn J.s4 J.s5 J.c3 J.c5 (by omega)) (gV hjl wd_610 wd_611 wd_612 wd_16 wd_613) rfl 3 (by decide +kernel) rfl ⟨Nat.le_of_ble_eq_true rfl, Nat.le_of_ble_eq_true rfl⟩ rfl hl.1 (Nat.le_of_ble_eq_true rfl) ⟨by decide, by decide⟩ dL_errors_273) h (fun ra21 na21 ca21 H locs hp h => ?_)
  obtain ⟨hna21, hxa21, hWa21, hFa21⟩ := paW hp hWua21 (by omega) (by unfold sq_X7_observe; rw [if_pos (by decide)]) (hWua21).2.2.2.2
  subst hxa21
  refine lv_iload_n hx hb dL_errors_276 rfl (lv_at hl 3 rfl) ?_
  refine lv_icmp_ne (tgt := 332) hx hb dL_errors_277 (by decide) (fun b_277 => by first | exact absurd b_277 (by decide) | exact absurd (by decide) b_277) (fun b_277 => ?_)
  refine lv_aload_n hx hb dL_errors_280 rfl (lv_at hl 4 rfl) ?_
  refine lv_iload_n hx hb dL_errors_281 rfl (lv_at hl 1 rfl) ?_
  have hWua22 : Wd g ca21 lh rs R hq := hWa21
  refine u_i (ru_V (As := [.int (nI sc)]) (rest := []) F h hWa21.1 rfl (k_X7_orient l g na21 ca21 lh 0 rs hWua22.1 R hWua22.2.1 hWua22.2.2.2.2 hq hWua22.2.2.1 J.wb (nI sc) sc J.s4 J.s5) (gV hjl wd_664 wd_665 wd_666 wd_16 wd_667) rfl 1 (by decide +kernel) rfl ⟨Nat.le_of_ble_eq_true rfl, Nat.le_of_ble_eq_true rfl⟩ rfl hl.1 (Nat.le_of_ble_eq_true rfl) ⟨by decide, by decide⟩ dL_errors_282) h (fun ra22 na22 ca22 H locs hp h => ?_)
  obtain ⟨hna22, hxa22, hWa22, hFa22⟩ := paW hp hWua22 (by omega) (by unfold sq_X7_orient; rw [if_pos (outS J.s4 J.s5)]) (hWua22).2.2.2.2
  subst hxa22
  refine lv_iload_n hx hb dL_errors_285 rfl (lv_at hl 3 rfl) ?_
  refine lv_icmp_ne (tgt := 332) hx hb dL_errors_286 (by decide) (fun b_286 => by first | exact absurd b_286 (by decide) | exact absurd (by decide) b_286) (fun b_286 => ?_)
  refine lv_aload_n hx hb dL_errors_289 rfl (lv_at hl 4 rfl) ?_
  refine lv_iload_n hx hb dL_errors_290 rfl (lv_at hl 1 rfl) ?_
  refine lv_iconst (v := 0) hx hb dL_errors_291 (by decide) ?_
  refine u_iE (v := (-100001)) (ru_V (As := [.int (nI sc), .int 0]) (rest := []) F h hWa22.1 rfl (kw_station l g na22 ca22 hWa22 J (nI sc) 0 (v := (-100001)) (st_u J.s4 J.s5)) (gV hjl wd_584 wd_585 wd_586 wd_16 wd_587) rfl 2 (by decide +kernel) rfl ⟨Nat.le_of_ble_eq_true rfl, Nat.le_of_ble_eq_true rfl⟩ rfl hl.1 (Nat.le_of_ble_eq_true rfl) ⟨by decide, by decide⟩ dL_errors_292) h (fun H locs h => ?_)
  refine lv_iload_n hx hb dL_errors_295 rfl (lv_at hl 3 rfl) ?_
  refine lv_icmp_ne (tgt := 332) hx hb dL_errors_296 (by decide) (fun b_296 => by first | exact absurd b_296 (by decide) | exact absurd (by decide) b_296) (fun b_296 => ?_)
  refine lv_aload_n hx hb dL_errors_299 rfl (lv_at hl 4 rfl) ?_
  refine lv_iload_n hx hb dL_errors_300 rfl (lv_at hl 1 rfl) ?_
  refine lv_iconst (v := 0) hx hb dL_errors_301 (by decide) ?_
  refine lv_iconst (v := 0) hx hb dL_errors_302 (by decide) ?_
  refine u_iE (v := (-100001)) (ru_V (As := [.int (nI sc), .int 0, .int 0]) (rest := []) F h hWa22.1 rfl (kw_observation l g na22 ca22 hWa22 J (nI sc) 0 0 (v := (-100001)) (ob_u J.s4 J.s5)) (gV hjl wd_518 wd_519 wd_520 wd_16 wd_521) rfl 3 (by decide +kernel) rfl ⟨Nat.le_of_ble_eq_true rfl, Nat.le_of_ble_eq_true rfl⟩ rfl hl.1 (Nat.le_of_ble_eq_true rfl) ⟨by decide, by decide⟩ dL_errors_303) h (fun H locs h => ?_)
  refine lv_iload_n hx hb dL_errors_306 rfl (lv_at hl 3 rfl) ?_
  refine lv_icmp_ne (tgt := 332) hx hb dL_errors_307 (by decide) (fun b_307 => by first | exact absurd b_307 (by decide) | exact absurd (by decide) b_307) (fun b_307 => ?_)
  refine lv_aload_n hx hb dL_errors_310 rfl (lv_at hl 4 rfl) ?_
  refine lv_iconst (v := 2) hx hb dL_errors_311 (by decide) ?_
  refine u_iE (v := (-100001)) (ru_V (As := [.int 2]) (rest := []) F h hWa22.1 rfl (k_X7_keep_e l g na22 ca22 lh 0 rs hWa22.1 R hWa22.2.1 2 (by decide)) (gV hjl wd_687 wd_688 wd_689 wd_16 wd_690) rfl 1 (by decide +kernel) rfl ⟨Nat.le_of_ble_eq_true rfl, Nat.le_of_ble_eq_true rfl⟩ rfl hl.1 (Nat.le_of_ble_eq_true rfl) ⟨by decide, by decide⟩ dL_errors_312) h (fun H locs h => ?_)
  refine lv_iload_n hx hb dL_errors_315 rfl (lv_at hl 3 rfl) ?_
  refine lv_icmp_ne (tgt := 332) hx hb dL_errors_316 (by decide) (fun b_316 => by first | exact absurd b_316 (by decide) | exact absurd (by decide) b_316) (fun b_316 => ?_)
  refine lv_aload_n hx hb dL_errors_319 rfl (lv_at hl 4 rfl) ?_
  refine lv_iconst (v := (-1)) hx hb dL_errors_320 (by decide) ?_
  refine u_iE (v := (-100001)) (ru_V (As := [.int (-1)]) (rest := []) F h hWa22.1 rfl (k_X7_restore_e l g na22 ca22 lh 0 rs hWa22.1 R hWa22.2.1 (-1) (by decide)) (gV hjl wd_694 wd_695 wd_696 wd_16 wd_697) rfl 1 (by decide +kernel) rfl ⟨Nat.le_of_ble_eq_true rfl, Nat.le_of_ble_eq_true rfl⟩ rfl hl.1 (Nat.le_of_ble_eq_true rfl) ⟨by decide, by decide⟩ dL_errors_321) h (fun H locs h => ?_)
  refine lv_iload_n hx hb dL_errors_324 rfl (lv_at hl 3 rfl) ?_
  refine lv_icmp_ne (tgt := 332) hx hb dL_errors_325 (by decide) (fun b_325 => by first | exact absurd b_325 (by decide) | exact absurd (by decide) b_325) (fun b_325 => ?_)
  refine lv_iconst (v := 1) hx hb dL_errors_328 (by decide) ?_
  refine lv_goto (tgt := 333) hx hb dL_errors_329 (by decide) ?_
  exact ret_z F h (by decide) (by decide) (by decide) dL_errors_333 (rfl)
