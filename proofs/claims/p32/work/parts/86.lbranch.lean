/-! The law, act by act. -/
theorem ac_ab {v1 v2 : Int32} : Bt (lwI v1 700) 0 699 ∧ (lwI v1 700).toInt + 1 ≤ ((lwI v1 700 + 1) + lwI v2 100).toInt ∧ ((lwI v1 700 + 1) + lwI v2 100).toInt ≤ 800 := by
  obtain ⟨a1, a2⟩ := lw_0 (v := v1) (n2 := 700) (N := 700) rfl (by decide)
  obtain ⟨b1, b2⟩ := lw_0 (v := v2) (n2 := 100) (N := 100) rfl (by decide)
  have z : (1 : Int32).toInt = 1 := rfl
  have e1 : (lwI v1 700 + 1).toInt = (lwI v1 700).toInt + 1 := by rw [fb_addI (by rw [z]; omega) (by rw [z]; omega), z]
  have e2 : ((lwI v1 700 + 1) + lwI v2 100).toInt = (lwI v1 700).toInt + 1 + (lwI v2 100).toInt := by rw [fb_addI (by rw [e1]; omega) (by rw [e1]; omega), e1]
  refine ⟨⟨a1, a2⟩, ?_, ?_⟩ <;> rw [e2] <;> omega
theorem lw_t4 {v : Int32} {m : Nat} (h0 : 0 < m) (h : m ≤ 1000) (h6 : m ≤ 60) : ∃ k : Nat, 1 ≤ k ∧ k ≤ 60 ∧ 1 + lwI v (nI m) = nI k := by
  obtain ⟨k, a, b, e⟩ := lw_t (v := v) h0 h
  exact ⟨k, a, by omega, e⟩
section LC
variable {p : Program} {l : Launch} {e : Env} {s : State} {m : MethodId} {below : List Frame} {meth : Method} {c0 : Code} {b : Nat} {g : Gf} {tb n : Nat} {c : Mp} {H : Heap} {locs : List Loc} {cl sl : Nat} {ls : Array Slot} {lh : Nat} {rs : Int32} {R : Nat → Int32} {hq : Nat → Nat → Int32} {sc cn : Nat}
set_option maxHeartbeats 4000000 in
set_option maxRecDepth 100000 in
theorem lc_hang (F : Fx p s m #[Value.ref b] meth c0 code 12 ret RL lw_tbl g meth.name) (h : Hv g s H locs n c) (hWd : Wd g c lh rs R hq) (J : Jv R sc cn tb) (hs1 : 1 ≤ sc) (hn : 352 ≤ n) (ht : tb ≤ 800000000) (i1 : Nat) (gv hv : Int32) (w : Nat) (hw4 : w < 4) (hl : lv_has ls 12 [(0, .ref b), (1, .ref (gz g + 0)), (2, .int (nI i1)), (3, .int gv), (4, .int hv), (6, .int (nI w))]) (hcl : cl + 5 ≤ 744077) (hsl : sl + 14 ≤ 6870016) (K : LK p l e s m below meth c0 b g i1 gv hv (cl + 5) (sl + 14) (tb + 60)) : W p l e room_1 s m #[Value.ref b] below meth c0 H locs cl sl (lw_Z below #[Value.ref b] s) (F0 m 105 ls []) := by
  have hx := F.1
  have hb := F.2.1
  have s5 := J.s5
  have c5 := J.c5
  by_cases h0 : R (5 + 11 * w + 0) = 0
  · skip
    refine lv_aload_n hx hb dL_law_105 rfl (lv_at hl 1 rfl) ?_
    refine lv_iconst (v := 1) hx hb dL_law_106 (by decide) ?_
    refine u_iE (v := ctI (fun v => R (5 + 11 * v)) 4) (ru_V (As := [.int 1]) (rest := []) F h hWd.1 rfl (kw_count l g n c hWd J 1 (v := ctI (fun v => R (5 + 11 * v)) 4) (rfl)) (gV lwG_in wd_399 wd_400 wd_401 wd_16 wd_402) rfl 1 (by decide +kernel) rfl ⟨Nat.le_of_ble_eq_true rfl, Nat.le_of_ble_eq_true rfl⟩ rfl hl.1 (Nat.le_of_ble_eq_true rfl) ⟨by show cl + 0 ≤ 744077; omega, by show sl + 0 ≤ 6870016; omega⟩ dL_law_107) h (fun H locs h => ?_)
    refine lv_aload_n hx hb dL_law_110 rfl (lv_at hl 1 rfl) ?_
    refine lv_iload hx hb dL_law_111 (lv_at hl 5 rfl) ?_
    refine lv_iconst (v := 2) hx hb dL_law_113 (by decide) ?_
    refine u_iE (v := (-100005)) (ru_V (As := [.int (nI w), .int 2]) (rest := [.int (ctI (fun v => R (5 + 11 * v)) 4)]) F h hWd.1 rfl (kw_wire l g n c hWd J (nI w) 2 (v := (-100005)) (wi_n hw4 h0 (by decide))) (gV lwG_in wd_390 wd_391 wd_392 wd_16 wd_393) rfl 2 (by decide +kernel) rfl ⟨Nat.le_of_ble_eq_true rfl, Nat.le_of_ble_eq_true rfl⟩ rfl hl.1 (Nat.le_of_ble_eq_true rfl) ⟨by show cl + 0 ≤ 744077; omega, by show sl + 0 ≤ 6870016; omega⟩ dL_law_114) h (fun H locs h => ?_)
    refine lv_if_ge (tgt := 124) hx hb dL_law_117 (by decide) (fun b_117 => by first | exact absurd b_117 (by decide) | exact absurd (by decide) b_117) (fun b_117 => ?_)
    refine lv_iconst (v := 1) hx hb dL_law_120 (by decide) ?_
    refine lv_goto (tgt := 125) hx hb dL_law_121 (by decide) ?_
    refine lv_iadd hx hb dL_law_125 ?_
    refine lv_istore (lv' := [(8, .int (ctI (fun v => R (5 + 11 * v)) 4 + 1)), (0, .ref b), (1, .ref (gz g + 0)), (2, .int (nI i1)), (3, .int gv), (4, .int hv), (6, .int (nI w))]) hx hb dL_law_126 hl (by decide) rfl (fun ls hl => ?_)
    refine lv_aload_n hx hb dL_law_128 rfl (lv_at hl 2 rfl) ?_
    refine lv_iload hx hb dL_law_129 (lv_at hl 6 rfl) ?_
    refine lv_iload hx hb dL_law_131 (lv_at hl 5 rfl) ?_
    refine lv_sipush (v := 2001) hx hb dL_law_133 (by decide) ?_
    refine u_iE (v := (lwI hv 2001)) (ru_S (As := [.int hv, .int 2001]) (rest := [.int (nI w), .ref (gz g + 0)]) F h (k_L_low l g n c hv 2001 (by decide)) (gS lwG_in wd_419 wd_420 wd_15 wd_421) rfl 2 (by decide +kernel) rfl ⟨Nat.le_of_ble_eq_true rfl, Nat.le_of_ble_eq_true rfl⟩ rfl hl.1 (Nat.le_of_ble_eq_true rfl) ⟨by show cl + 0 ≤ 744077; omega, by show sl + 0 ≤ 6870016; omega⟩ dL_law_136) h (fun H locs h => ?_)
    refine lv_sipush (v := 1000) hx hb dL_law_139 (by decide) ?_
    refine lv_isub hx hb dL_law_142 ?_
    refine lv_iload hx hb dL_law_143 (lv_at hl 5 rfl) ?_
    refine lv_bipush (v := 11) hx hb dL_law_145 (by decide) ?_
    refine lv_ishr hx hb dL_law_147 ?_
    refine lv_sipush (v := 2001) hx hb dL_law_148 (by decide) ?_
    refine u_iE (v := (lwI (hv >>> ((11 : Int32) &&& 31)) 2001)) (ru_S (As := [.int (hv >>> ((11 : Int32) &&& 31)), .int 2001]) (rest := [.int ((lwI hv 2001) - 1000), .int (nI w), .ref (gz g + 0)]) F h (k_L_low l g n c (hv >>> ((11 : Int32) &&& 31)) 2001 (by decide)) (gS lwG_in wd_419 wd_420 wd_15 wd_421) rfl 2 (by decide +kernel) rfl ⟨Nat.le_of_ble_eq_true rfl, Nat.le_of_ble_eq_true rfl⟩ rfl hl.1 (Nat.le_of_ble_eq_true rfl) ⟨by show cl + 0 ≤ 744077; omega, by show sl + 0 ≤ 6870016; omega⟩ dL_law_151) h (fun H locs h => ?_)
    refine lv_sipush (v := 1000) hx hb dL_law_154 (by decide) ?_
    refine lv_isub hx hb dL_law_157 ?_
    refine lv_iconst (v := 1) hx hb dL_law_158 (by decide) ?_
    refine lv_iload_n hx hb dL_law_159 rfl (lv_at hl 4 rfl) ?_
    refine lv_iconst (v := 2) hx hb dL_law_160 (by decide) ?_
    refine lv_ishr hx hb dL_law_161 ?_
    refine lv_sipush (v := 200) hx hb dL_law_162 (by decide) ?_
    refine u_iE (v := (lwI (gv >>> ((2 : Int32) &&& 31)) 200)) (ru_S (As := [.int (gv >>> ((2 : Int32) &&& 31)), .int 200]) (rest := [.int 1, .int ((lwI (hv >>> ((11 : Int32) &&& 31)) 2001) - 1000), .int ((lwI hv 2001) - 1000), .int (nI w), .ref (gz g + 0)]) F h (k_L_low l g n c (gv >>> ((2 : Int32) &&& 31)) 200 (by decide)) (gS lwG_in wd_419 wd_420 wd_15 wd_421) rfl 2 (by decide +kernel) rfl ⟨Nat.le_of_ble_eq_true rfl, Nat.le_of_ble_eq_true rfl⟩ rfl hl.1 (Nat.le_of_ble_eq_true rfl) ⟨by show cl + 0 ≤ 744077; omega, by show sl + 0 ≤ 6870016; omega⟩ dL_law_165) h (fun H locs h => ?_)
    refine lv_iadd hx hb dL_law_168 ?_
    refine lv_bipush (v := 10) hx hb dL_law_169 (by decide) ?_
    refine lv_iload_n hx hb dL_law_171 rfl (lv_at hl 4 rfl) ?_
    refine lv_bipush (v := 10) hx hb dL_law_172 (by decide) ?_
    refine lv_ishr hx hb dL_law_174 ?_
    refine lv_sipush (v := 791) hx hb dL_law_175 (by decide) ?_
    refine u_iE (v := (lwI (gv >>> ((10 : Int32) &&& 31)) 791)) (ru_S (As := [.int (gv >>> ((10 : Int32) &&& 31)), .int 791]) (rest := [.int 10, .int (1 + (lwI (gv >>> ((2 : Int32) &&& 31)) 200)), .int ((lwI (hv >>> ((11 : Int32) &&& 31)) 2001) - 1000), .int ((lwI hv 2001) - 1000), .int (nI w), .ref (gz g + 0)]) F h (k_L_low l g n c (gv >>> ((10 : Int32) &&& 31)) 791 (by decide)) (gS lwG_in wd_419 wd_420 wd_15 wd_421) rfl 2 (by decide +kernel) rfl ⟨Nat.le_of_ble_eq_true rfl, Nat.le_of_ble_eq_true rfl⟩ rfl hl.1 (Nat.le_of_ble_eq_true rfl) ⟨by show cl + 0 ≤ 744077; omega, by show sl + 0 ≤ 6870016; omega⟩ dL_law_178) h (fun H locs h => ?_)
    refine lv_iadd hx hb dL_law_181 ?_
    have hWua1 : Wd g c lh rs R hq := hWd
    refine u_i (ru_V (As := [.int (nI w), .int ((lwI hv 2001) - 1000), .int ((lwI (hv >>> ((11 : Int32) &&& 31)) 2001) - 1000), .int (1 + (lwI (gv >>> ((2 : Int32) &&& 31)) 200)), .int (10 + (lwI (gv >>> ((10 : Int32) &&& 31)) 791))]) (rest := []) F h hWd.1 rfl (k_X7_hang l g n c lh 0 rs hWua1.1 R hWua1.2.1 hWua1.2.2.2.2 hq hWua1.2.2.1 J.wb (nI w) ((lwI hv 2001) - 1000) ((lwI (hv >>> ((11 : Int32) &&& 31)) 2001) - 1000) (1 + (lwI (gv >>> ((2 : Int32) &&& 31)) 200)) (10 + (lwI (gv >>> ((10 : Int32) &&& 31)) 791)) sc J.s4 J.s5) (gV lwG_in wd_270 wd_271 wd_272 wd_16 wd_273) rfl 5 (by decide +kernel) rfl ⟨Nat.le_of_ble_eq_true rfl, Nat.le_of_ble_eq_true rfl⟩ rfl hl.1 (Nat.le_of_ble_eq_true rfl) ⟨by show cl + 0 ≤ 744077; omega, by show sl + 0 ≤ 6870016; omega⟩ dL_law_182) h (fun ra1 na1 ca1 H locs hp h => ?_)
    obtain ⟨hna1, hxa1, hWa1, hFa1⟩ := paW hp hWua1 (by omega) ((hg_ok hw4 (bt_w (lw_c (N := 2001) (K := 1000) rfl rfl (by decide) (by decide) (by decide) (by decide)) (by decide) (by decide)) (bt_w (lw_c (N := 2001) (K := 1000) rfl rfl (by decide) (by decide) (by decide) (by decide)) (by decide) (by decide)) (bt_w (lw_p (N := 200) (K := 1) rfl rfl (by decide) (by decide) (by decide) (by decide)) (by decide) (by decide)) (bt_w (lw_p (N := 791) (K := 10) rfl rfl (by decide) (by decide) (by decide) (by decide)) (by decide) (by decide))).trans (by rw [if_pos h0])) (rmL_le (hWua1).2.2.2.2)
    subst hxa1
    have J2 := J.hang hw4 (x := ((lwI hv 2001) - 1000)) (y := ((lwI (hv >>> ((11 : Int32) &&& 31)) 2001) - 1000)) (ma := (1 + (lwI (gv >>> ((2 : Int32) &&& 31)) 200))) (de := (10 + (lwI (gv >>> ((10 : Int32) &&& 31)) 791))) (bt_w (lw_c (N := 2001) (K := 1000) rfl rfl (by decide) (by decide) (by decide) (by decide)) (by decide) (by decide)) (bt_w (lw_c (N := 2001) (K := 1000) rfl rfl (by decide) (by decide) (by decide) (by decide)) (by decide) (by decide)) (bt_w (lw_p (N := 200) (K := 1) rfl rfl (by decide) (by decide) (by decide) (by decide)) (by decide) (by decide)) (bt_w (lw_p (N := 791) (K := 10) rfl rfl (by decide) (by decide) (by decide) (by decide)) (by decide) (by decide))
    have f2 : hgR R w ((lwI hv 2001) - 1000) ((lwI (hv >>> ((11 : Int32) &&& 31)) 2001) - 1000) (1 + (lwI (gv >>> ((2 : Int32) &&& 31)) 200)) (10 + (lwI (gv >>> ((10 : Int32) &&& 31)) 791)) sc (5 + 11 * w + 0) = 1 := wv_w hw4 (by decide)
    refine lv_iload hx hb dL_law_185 (lv_at hl 0 rfl) ?_
    refine lv_icmp_ne (tgt := 223) hx hb dL_law_187 (by decide) (fun b_187 => by first | exact absurd b_187 (rfl) | exact absurd (rfl) b_187) (fun b_187 => ?_)
    refine lv_aload_n hx hb dL_law_190 rfl (lv_at hl 2 rfl) ?_
    refine lv_iload hx hb dL_law_191 (lv_at hl 6 rfl) ?_
    refine lv_bipush (v := 8) hx hb dL_law_193 (by decide) ?_
    refine u_iE (v := 0) (ru_V (As := [.int (nI w), .int 8]) (rest := []) F h hWa1.1 rfl (kw_wire l g na1 ca1 hWa1 J2 (nI w) 8 (v := 0) ((wi_8 hw4 f2).trans (wv_w hw4 (by decide)))) (gV lwG_in wd_390 wd_391 wd_392 wd_16 wd_393) rfl 2 (by decide +kernel) rfl ⟨Nat.le_of_ble_eq_true rfl, Nat.le_of_ble_eq_true rfl⟩ rfl hl.1 (Nat.le_of_ble_eq_true rfl) ⟨by show cl + 0 ≤ 744077; omega, by show sl + 0 ≤ 6870016; omega⟩ dL_law_195) h (fun H locs h => ?_)
    refine lv_if_ne (tgt := 223) hx hb dL_law_198 (by decide) (fun b_198 => by first | exact absurd b_198 (by decide) | exact absurd (by decide) b_198) (fun b_198 => ?_)
    refine lv_aload_n hx hb dL_law_201 rfl (lv_at hl 2 rfl) ?_
    refine lv_iload hx hb dL_law_202 (lv_at hl 6 rfl) ?_
    refine lv_bipush (v := 9) hx hb dL_law_204 (by decide) ?_
    refine u_iE (v := 0) (ru_V (As := [.int (nI w), .int 9]) (rest := []) F h hWa1.1 rfl (kw_wire l g na1 ca1 hWa1 J2 (nI w) 9 (v := 0) ((wi_9 hw4 f2).trans (wv_w hw4 (by decide)))) (gV lwG_in wd_390 wd_391 wd_392 wd_16 wd_393) rfl 2 (by decide +kernel) rfl ⟨Nat.le_of_ble_eq_true rfl, Nat.le_of_ble_eq_true rfl⟩ rfl hl.1 (Nat.le_of_ble_eq_true rfl) ⟨by show cl + 0 ≤ 744077; omega, by show sl + 0 ≤ 6870016; omega⟩ dL_law_206) h (fun H locs h => ?_)
    refine lv_if_ne (tgt := 223) hx hb dL_law_209 (by decide) (fun b_209 => by first | exact absurd b_209 (by decide) | exact absurd (by decide) b_209) (fun b_209 => ?_)
    refine lv_aload_n hx hb dL_law_212 rfl (lv_at hl 2 rfl) ?_
    refine lv_iload hx hb dL_law_213 (lv_at hl 6 rfl) ?_
    refine lv_bipush (v := 6) hx hb dL_law_215 (by decide) ?_
    refine u_iE (v := 0) (ru_V (As := [.int (nI w), .int 6]) (rest := []) F h hWa1.1 rfl (kw_wire l g na1 ca1 hWa1 J2 (nI w) 6 (v := 0) ((wi_6 hw4 f2).trans (wv_w hw4 (by decide)))) (gV lwG_in wd_390 wd_391 wd_392 wd_16 wd_393) rfl 2 (by decide +kernel) rfl ⟨Nat.le_of_ble_eq_true rfl, Nat.le_of_ble_eq_true rfl⟩ rfl hl.1 (Nat.le_of_ble_eq_true rfl) ⟨by show cl + 0 ≤ 744077; omega, by show sl + 0 ≤ 6870016; omega⟩ dL_law_217) h (fun H locs h => ?_)
    refine lv_if_eq (tgt := 225) hx hb dL_law_220 (by decide) (fun b_220 => ?_) (fun b_220 => by first | exact absurd (by decide) b_220 | exact absurd b_220 (by decide))
    refine lv_goto (tgt := 868) hx hb dL_law_225 (by decide) ?_
    exact W.widen (by omega) (by omega) (K _ _ _ _ _ h ⟨by omega, _, _, _, _, _, _, hWa1, J2.le (by omega), hs1⟩ (lv_sub hl [1, 2, 3, 4, 5] rfl))
  have h1 : R (5 + 11 * w + 0) = 1 := b01_of (J.b hw4) h0
  have gw := J.wg hw4 h1
  refine lv_aload_n hx hb dL_law_105 rfl (lv_at hl 1 rfl) ?_
  refine lv_iconst (v := 1) hx hb dL_law_106 (by decide) ?_
  refine u_iE (v := ctI (fun v => R (5 + 11 * v)) 4) (ru_V (As := [.int 1]) (rest := []) F h hWd.1 rfl (kw_count l g n c hWd J 1 (v := ctI (fun v => R (5 + 11 * v)) 4) (rfl)) (gV lwG_in wd_399 wd_400 wd_401 wd_16 wd_402) rfl 1 (by decide +kernel) rfl ⟨Nat.le_of_ble_eq_true rfl, Nat.le_of_ble_eq_true rfl⟩ rfl hl.1 (Nat.le_of_ble_eq_true rfl) ⟨by show cl + 0 ≤ 744077; omega, by show sl + 0 ≤ 6870016; omega⟩ dL_law_107) h (fun H locs h => ?_)
  refine lv_aload_n hx hb dL_law_110 rfl (lv_at hl 1 rfl) ?_
  refine lv_iload hx hb dL_law_111 (lv_at hl 5 rfl) ?_
  refine lv_iconst (v := 2) hx hb dL_law_113 (by decide) ?_
  refine u_iE (v := (R (5 + 11 * w + 3))) (ru_V (As := [.int (nI w), .int 2]) (rest := [.int (ctI (fun v => R (5 + 11 * v)) 4)]) F h hWd.1 rfl (kw_wire l g n c hWd J (nI w) 2 (v := (R (5 + 11 * w + 3))) (wi_2 hw4 h1)) (gV lwG_in wd_390 wd_391 wd_392 wd_16 wd_393) rfl 2 (by decide +kernel) rfl ⟨Nat.le_of_ble_eq_true rfl, Nat.le_of_ble_eq_true rfl⟩ rfl hl.1 (Nat.le_of_ble_eq_true rfl) ⟨by show cl + 0 ≤ 744077; omega, by show sl + 0 ≤ 6870016; omega⟩ dL_law_114) h (fun H locs h => ?_)
  refine lv_if_ge (tgt := 124) hx hb dL_law_117 (by decide) (fun b_117 => ?_) (fun b_117 => by first | exact absurd (bt_ge gw.2.2.1 0 (by decide)) b_117 | exact absurd b_117 (bt_ge gw.2.2.1 0 (by decide)))
  refine lv_iconst (v := 0) hx hb dL_law_124 (by decide) ?_
  refine lv_iadd hx hb dL_law_125 ?_
  refine lv_istore (lv' := [(8, .int (ctI (fun v => R (5 + 11 * v)) 4 + 0)), (0, .ref b), (1, .ref (gz g + 0)), (2, .int (nI i1)), (3, .int gv), (4, .int hv), (6, .int (nI w))]) hx hb dL_law_126 hl (by decide) rfl (fun ls hl => ?_)
  refine lv_aload_n hx hb dL_law_128 rfl (lv_at hl 2 rfl) ?_
  refine lv_iload hx hb dL_law_129 (lv_at hl 6 rfl) ?_
  refine lv_iload hx hb dL_law_131 (lv_at hl 5 rfl) ?_
  refine lv_sipush (v := 2001) hx hb dL_law_133 (by decide) ?_
  refine u_iE (v := (lwI hv 2001)) (ru_S (As := [.int hv, .int 2001]) (rest := [.int (nI w), .ref (gz g + 0)]) F h (k_L_low l g n c hv 2001 (by decide)) (gS lwG_in wd_419 wd_420 wd_15 wd_421) rfl 2 (by decide +kernel) rfl ⟨Nat.le_of_ble_eq_true rfl, Nat.le_of_ble_eq_true rfl⟩ rfl hl.1 (Nat.le_of_ble_eq_true rfl) ⟨by show cl + 0 ≤ 744077; omega, by show sl + 0 ≤ 6870016; omega⟩ dL_law_136) h (fun H locs h => ?_)
  refine lv_sipush (v := 1000) hx hb dL_law_139 (by decide) ?_
  refine lv_isub hx hb dL_law_142 ?_
  refine lv_iload hx hb dL_law_143 (lv_at hl 5 rfl) ?_
  refine lv_bipush (v := 11) hx hb dL_law_145 (by decide) ?_
  refine lv_ishr hx hb dL_law_147 ?_
  refine lv_sipush (v := 2001) hx hb dL_law_148 (by decide) ?_
  refine u_iE (v := (lwI (hv >>> ((11 : Int32) &&& 31)) 2001)) (ru_S (As := [.int (hv >>> ((11 : Int32) &&& 31)), .int 2001]) (rest := [.int ((lwI hv 2001) - 1000), .int (nI w), .ref (gz g + 0)]) F h (k_L_low l g n c (hv >>> ((11 : Int32) &&& 31)) 2001 (by decide)) (gS lwG_in wd_419 wd_420 wd_15 wd_421) rfl 2 (by decide +kernel) rfl ⟨Nat.le_of_ble_eq_true rfl, Nat.le_of_ble_eq_true rfl⟩ rfl hl.1 (Nat.le_of_ble_eq_true rfl) ⟨by show cl + 0 ≤ 744077; omega, by show sl + 0 ≤ 6870016; omega⟩ dL_law_151) h (fun H locs h => ?_)
  refine lv_sipush (v := 1000) hx hb dL_law_154 (by decide) ?_
  refine lv_isub hx hb dL_law_157 ?_
  refine lv_iconst (v := 1) hx hb dL_law_158 (by decide) ?_
  refine lv_iload_n hx hb dL_law_159 rfl (lv_at hl 4 rfl) ?_
  refine lv_iconst (v := 2) hx hb dL_law_160 (by decide) ?_
  refine lv_ishr hx hb dL_law_161 ?_
  refine lv_sipush (v := 200) hx hb dL_law_162 (by decide) ?_
  refine u_iE (v := (lwI (gv >>> ((2 : Int32) &&& 31)) 200)) (ru_S (As := [.int (gv >>> ((2 : Int32) &&& 31)), .int 200]) (rest := [.int 1, .int ((lwI (hv >>> ((11 : Int32) &&& 31)) 2001) - 1000), .int ((lwI hv 2001) - 1000), .int (nI w), .ref (gz g + 0)]) F h (k_L_low l g n c (gv >>> ((2 : Int32) &&& 31)) 200 (by decide)) (gS lwG_in wd_419 wd_420 wd_15 wd_421) rfl 2 (by decide +kernel) rfl ⟨Nat.le_of_ble_eq_true rfl, Nat.le_of_ble_eq_true rfl⟩ rfl hl.1 (Nat.le_of_ble_eq_true rfl) ⟨by show cl + 0 ≤ 744077; omega, by show sl + 0 ≤ 6870016; omega⟩ dL_law_165) h (fun H locs h => ?_)
  refine lv_iadd hx hb dL_law_168 ?_
  refine lv_bipush (v := 10) hx hb dL_law_169 (by decide) ?_
  refine lv_iload_n hx hb dL_law_171 rfl (lv_at hl 4 rfl) ?_
  refine lv_bipush (v := 10) hx hb dL_law_172 (by decide) ?_
  refine lv_ishr hx hb dL_law_174 ?_
  refine lv_sipush (v := 791) hx hb dL_law_175 (by decide) ?_
  refine u_iE (v := (lwI (gv >>> ((10 : Int32) &&& 31)) 791)) (ru_S (As := [.int (gv >>> ((10 : Int32) &&& 31)), .int 791]) (rest := [.int 10, .int (1 + (lwI (gv >>> ((2 : Int32) &&& 31)) 200)), .int ((lwI (hv >>> ((11 : Int32) &&& 31)) 2001) - 1000), .int ((lwI hv 2001) - 1000), .int (nI w), .ref (gz g + 0)]) F h (k_L_low l g n c (gv >>> ((10 : Int32) &&& 31)) 791 (by decide)) (gS lwG_in wd_419 wd_420 wd_15 wd_421) rfl 2 (by decide +kernel) rfl ⟨Nat.le_of_ble_eq_true rfl, Nat.le_of_ble_eq_true rfl⟩ rfl hl.1 (Nat.le_of_ble_eq_true rfl) ⟨by show cl + 0 ≤ 744077; omega, by show sl + 0 ≤ 6870016; omega⟩ dL_law_178) h (fun H locs h => ?_)
  refine lv_iadd hx hb dL_law_181 ?_
  have hWua2 : Wd g c lh rs R hq := hWd
  refine u_i (ru_V (As := [.int (nI w), .int ((lwI hv 2001) - 1000), .int ((lwI (hv >>> ((11 : Int32) &&& 31)) 2001) - 1000), .int (1 + (lwI (gv >>> ((2 : Int32) &&& 31)) 200)), .int (10 + (lwI (gv >>> ((10 : Int32) &&& 31)) 791))]) (rest := []) F h hWd.1 rfl (k_X7_hang l g n c lh 0 rs hWua2.1 R hWua2.2.1 hWua2.2.2.2.2 hq hWua2.2.2.1 J.wb (nI w) ((lwI hv 2001) - 1000) ((lwI (hv >>> ((11 : Int32) &&& 31)) 2001) - 1000) (1 + (lwI (gv >>> ((2 : Int32) &&& 31)) 200)) (10 + (lwI (gv >>> ((10 : Int32) &&& 31)) 791)) sc J.s4 J.s5) (gV lwG_in wd_270 wd_271 wd_272 wd_16 wd_273) rfl 5 (by decide +kernel) rfl ⟨Nat.le_of_ble_eq_true rfl, Nat.le_of_ble_eq_true rfl⟩ rfl hl.1 (Nat.le_of_ble_eq_true rfl) ⟨by show cl + 0 ≤ 744077; omega, by show sl + 0 ≤ 6870016; omega⟩ dL_law_182) h (fun ra2 na2 ca2 H locs hp h => ?_)
  obtain ⟨hna2, hxa2, hWa2, hFa2⟩ := paW hp hWua2 (by omega) ((hg_ok hw4 (bt_w (lw_c (N := 2001) (K := 1000) rfl rfl (by decide) (by decide) (by decide) (by decide)) (by decide) (by decide)) (bt_w (lw_c (N := 2001) (K := 1000) rfl rfl (by decide) (by decide) (by decide) (by decide)) (by decide) (by decide)) (bt_w (lw_p (N := 200) (K := 1) rfl rfl (by decide) (by decide) (by decide) (by decide)) (by decide) (by decide)) (bt_w (lw_p (N := 791) (K := 10) rfl rfl (by decide) (by decide) (by decide) (by decide)) (by decide) (by decide))).trans (by rw [if_neg h0])) (rmL_le (hWua2).2.2.2.2)
  subst hxa2
  have J2 := J.hang hw4 (x := ((lwI hv 2001) - 1000)) (y := ((lwI (hv >>> ((11 : Int32) &&& 31)) 2001) - 1000)) (ma := (1 + (lwI (gv >>> ((2 : Int32) &&& 31)) 200))) (de := (10 + (lwI (gv >>> ((10 : Int32) &&& 31)) 791))) (bt_w (lw_c (N := 2001) (K := 1000) rfl rfl (by decide) (by decide) (by decide) (by decide)) (by decide) (by decide)) (bt_w (lw_c (N := 2001) (K := 1000) rfl rfl (by decide) (by decide) (by decide) (by decide)) (by decide) (by decide)) (bt_w (lw_p (N := 200) (K := 1) rfl rfl (by decide) (by decide) (by decide) (by decide)) (by decide) (by decide)) (bt_w (lw_p (N := 791) (K := 10) rfl rfl (by decide) (by decide) (by decide) (by decide)) (by decide) (by decide))
  have f2 : hgR R w ((lwI hv 2001) - 1000) ((lwI (hv >>> ((11 : Int32) &&& 31)) 2001) - 1000) (1 + (lwI (gv >>> ((2 : Int32) &&& 31)) 200)) (10 + (lwI (gv >>> ((10 : Int32) &&& 31)) 791)) sc (5 + 11 * w + 0) = 1 := wv_w hw4 (by decide)
  refine lv_iload hx hb dL_law_185 (lv_at hl 0 rfl) ?_
  refine lv_icmp_ne (tgt := 223) hx hb dL_law_187 (by decide) (fun b_187 => by first | exact absurd b_187 (rfl) | exact absurd (rfl) b_187) (fun b_187 => ?_)
  refine lv_aload_n hx hb dL_law_190 rfl (lv_at hl 2 rfl) ?_
  refine lv_iload hx hb dL_law_191 (lv_at hl 6 rfl) ?_
  refine lv_bipush (v := 8) hx hb dL_law_193 (by decide) ?_
  refine u_iE (v := 0) (ru_V (As := [.int (nI w), .int 8]) (rest := []) F h hWa2.1 rfl (kw_wire l g na2 ca2 hWa2 J2 (nI w) 8 (v := 0) ((wi_8 hw4 f2).trans (wv_w hw4 (by decide)))) (gV lwG_in wd_390 wd_391 wd_392 wd_16 wd_393) rfl 2 (by decide +kernel) rfl ⟨Nat.le_of_ble_eq_true rfl, Nat.le_of_ble_eq_true rfl⟩ rfl hl.1 (Nat.le_of_ble_eq_true rfl) ⟨by show cl + 0 ≤ 744077; omega, by show sl + 0 ≤ 6870016; omega⟩ dL_law_195) h (fun H locs h => ?_)
  refine lv_if_ne (tgt := 223) hx hb dL_law_198 (by decide) (fun b_198 => by first | exact absurd b_198 (by decide) | exact absurd (by decide) b_198) (fun b_198 => ?_)
  refine lv_aload_n hx hb dL_law_201 rfl (lv_at hl 2 rfl) ?_
  refine lv_iload hx hb dL_law_202 (lv_at hl 6 rfl) ?_
  refine lv_bipush (v := 9) hx hb dL_law_204 (by decide) ?_
  refine u_iE (v := 0) (ru_V (As := [.int (nI w), .int 9]) (rest := []) F h hWa2.1 rfl (kw_wire l g na2 ca2 hWa2 J2 (nI w) 9 (v := 0) ((wi_9 hw4 f2).trans (wv_w hw4 (by decide)))) (gV lwG_in wd_390 wd_391 wd_392 wd_16 wd_393) rfl 2 (by decide +kernel) rfl ⟨Nat.le_of_ble_eq_true rfl, Nat.le_of_ble_eq_true rfl⟩ rfl hl.1 (Nat.le_of_ble_eq_true rfl) ⟨by show cl + 0 ≤ 744077; omega, by show sl + 0 ≤ 6870016; omega⟩ dL_law_206) h (fun H locs h => ?_)
  refine lv_if_ne (tgt := 223) hx hb dL_law_209 (by decide) (fun b_209 => by first | exact absurd b_209 (by decide) | exact absurd (by decide) b_209) (fun b_209 => ?_)
  refine lv_aload_n hx hb dL_law_212 rfl (lv_at hl 2 rfl) ?_
  refine lv_iload hx hb dL_law_213 (lv_at hl 6 rfl) ?_
  refine lv_bipush (v := 6) hx hb dL_law_215 (by decide) ?_
  refine u_iE (v := 0) (ru_V (As := [.int (nI w), .int 6]) (rest := []) F h hWa2.1 rfl (kw_wire l g na2 ca2 hWa2 J2 (nI w) 6 (v := 0) ((wi_6 hw4 f2).trans (wv_w hw4 (by decide)))) (gV lwG_in wd_390 wd_391 wd_392 wd_16 wd_393) rfl 2 (by decide +kernel) rfl ⟨Nat.le_of_ble_eq_true rfl, Nat.le_of_ble_eq_true rfl⟩ rfl hl.1 (Nat.le_of_ble_eq_true rfl) ⟨by show cl + 0 ≤ 744077; omega, by show sl + 0 ≤ 6870016; omega⟩ dL_law_217) h (fun H locs h => ?_)
  refine lv_if_eq (tgt := 225) hx hb dL_law_220 (by decide) (fun b_220 => ?_) (fun b_220 => by first | exact absurd (by decide) b_220 | exact absurd b_220 (by decide))
  refine lv_goto (tgt := 868) hx hb dL_law_225 (by decide) ?_
  exact W.widen (by omega) (by omega) (K _ _ _ _ _ h ⟨by omega, _, _, _, _, _, _, hWa2, J2.le (by omega), hs1⟩ (lv_sub hl [1, 2, 3, 4, 5] rfl))
set_option maxHeartbeats 4000000 in
set_option maxRecDepth 100000 in
theorem lc_push (F : Fx p s m #[Value.ref b] meth c0 code 12 ret RL lw_tbl g meth.name) (h : Hv g s H locs n c) (hWd : Wd g c lh rs R hq) (J : Jv R sc cn tb) (hs1 : 1 ≤ sc) (hn : 352 ≤ n) (ht : tb ≤ 800000000) (i1 : Nat) (gv hv : Int32) (w : Nat) (hw4 : w < 4) (hl : lv_has ls 12 [(0, .ref b), (1, .ref (gz g + 0)), (2, .int (nI i1)), (3, .int gv), (4, .int hv), (6, .int (nI w))]) (hcl : cl + 5 ≤ 744077) (hsl : sl + 14 ≤ 6870016) (K : LK p l e s m below meth c0 b g i1 gv hv (cl + 5) (sl + 14) (tb + 60)) : W p l e room_1 s m #[Value.ref b] below meth c0 H locs cl sl (lw_Z below #[Value.ref b] s) (F0 m 234 ls []) := by
  have hx := F.1
  have hb := F.2.1
  have s5 := J.s5
  have c5 := J.c5
  by_cases h0 : R (5 + 11 * w + 0) = 0
  · skip
    refine lv_aload_n hx hb dL_law_234 rfl (lv_at hl 1 rfl) ?_
    refine lv_iload hx hb dL_law_235 (lv_at hl 5 rfl) ?_
    refine lv_bipush (v := 10) hx hb dL_law_237 (by decide) ?_
    refine u_iE (v := (-100005)) (ru_V (As := [.int (nI w), .int 10]) (rest := []) F h hWd.1 rfl (kw_wire l g n c hWd J (nI w) 10 (v := (-100005)) (wi_n hw4 h0 (by decide))) (gV lwG_in wd_390 wd_391 wd_392 wd_16 wd_393) rfl 2 (by decide +kernel) rfl ⟨Nat.le_of_ble_eq_true rfl, Nat.le_of_ble_eq_true rfl⟩ rfl hl.1 (Nat.le_of_ble_eq_true rfl) ⟨by show cl + 0 ≤ 744077; omega, by show sl + 0 ≤ 6870016; omega⟩ dL_law_239) h (fun H locs h => ?_)
    refine lv_istore (lv' := [(8, .int (-100005)), (0, .ref b), (1, .ref (gz g + 0)), (2, .int (nI i1)), (3, .int gv), (4, .int hv), (6, .int (nI w))]) hx hb dL_law_242 hl (by decide) rfl (fun ls hl => ?_)
    refine lv_iload hx hb dL_law_244 (lv_at hl 5 rfl) ?_
    refine lv_bipush (v := 8) hx hb dL_law_246 (by decide) ?_
    refine u_iE (v := (lwI hv 8)) (ru_S (As := [.int hv, .int 8]) (rest := []) F h (k_L_low l g n c hv 8 (by decide)) (gS lwG_in wd_419 wd_420 wd_15 wd_421) rfl 2 (by decide +kernel) rfl ⟨Nat.le_of_ble_eq_true rfl, Nat.le_of_ble_eq_true rfl⟩ rfl hl.1 (Nat.le_of_ble_eq_true rfl) ⟨by show cl + 0 ≤ 744077; omega, by show sl + 0 ≤ 6870016; omega⟩ dL_law_248) h (fun H locs h => ?_)
    refine lv_istore (lv' := [(9, .int (lwI hv 8)), (8, .int (-100005)), (0, .ref b), (1, .ref (gz g + 0)), (2, .int (nI i1)), (3, .int gv), (4, .int hv), (6, .int (nI w))]) hx hb dL_law_251 hl (by decide) rfl (fun ls hl => ?_)
    refine lv_iconst (v := 1) hx hb dL_law_253 (by decide) ?_
    refine lv_iload hx hb dL_law_254 (lv_at hl 6 rfl) ?_
    refine lv_iconst (v := 3) hx hb dL_law_256 (by decide) ?_
    refine lv_ishr hx hb dL_law_257 ?_
    refine lv_sipush (v := 500) hx hb dL_law_258 (by decide) ?_
    refine u_iE (v := (lwI (hv >>> ((3 : Int32) &&& 31)) 500)) (ru_S (As := [.int (hv >>> ((3 : Int32) &&& 31)), .int 500]) (rest := [.int 1]) F h (k_L_low l g n c (hv >>> ((3 : Int32) &&& 31)) 500 (by decide)) (gS lwG_in wd_419 wd_420 wd_15 wd_421) rfl 2 (by decide +kernel) rfl ⟨Nat.le_of_ble_eq_true rfl, Nat.le_of_ble_eq_true rfl⟩ rfl hl.1 (Nat.le_of_ble_eq_true rfl) ⟨by show cl + 0 ≤ 744077; omega, by show sl + 0 ≤ 6870016; omega⟩ dL_law_261) h (fun H locs h => ?_)
    refine lv_iadd hx hb dL_law_264 ?_
    refine lv_istore (lv' := [(10, .int (1 + (lwI (hv >>> ((3 : Int32) &&& 31)) 500))), (9, .int (lwI hv 8)), (8, .int (-100005)), (0, .ref b), (1, .ref (gz g + 0)), (2, .int (nI i1)), (3, .int gv), (4, .int hv), (6, .int (nI w))]) hx hb dL_law_265 hl (by decide) rfl (fun ls hl => ?_)
    refine lv_aload_n hx hb dL_law_267 rfl (lv_at hl 4 rfl) ?_
    refine lv_iload hx hb dL_law_268 (lv_at hl 8 rfl) ?_
    refine lv_iload hx hb dL_law_270 (lv_at hl 1 rfl) ?_
    refine lv_iload hx hb dL_law_272 (lv_at hl 0 rfl) ?_
    have hWua1 : Wd g c lh rs R hq := hWd
    refine u_i (ru_V (As := [.int (nI w), .int (lwI hv 8), .int (1 + (lwI (hv >>> ((3 : Int32) &&& 31)) 500))]) (rest := []) F h hWd.1 rfl (k_X7_push l g n c lh 0 rs hWua1.1 R hWua1.2.1 hWua1.2.2.2.2 hq hWua1.2.2.1 J.wb (nI w) (lwI hv 8) (1 + (lwI (hv >>> ((3 : Int32) &&& 31)) 500)) sc J.s4 J.s5) (gV lwG_in wd_350 wd_351 wd_352 wd_16 wd_353) rfl 3 (by decide +kernel) rfl ⟨Nat.le_of_ble_eq_true rfl, Nat.le_of_ble_eq_true rfl⟩ rfl hl.1 (Nat.le_of_ble_eq_true rfl) ⟨by show cl + 0 ≤ 744077; omega, by show sl + 0 ≤ 6870016; omega⟩ dL_law_274) h (fun ra1 na1 ca1 H locs hp h => ?_)
    obtain ⟨hna1, hxa1, hWa1, hFa1⟩ := paW hp hWua1 (by omega) (pu_n hw4 (lw_0 (n2 := 8) (N := 8) rfl (by decide)) (bt_w (lw_p (n2 := 500) (k2 := 1) (N := 500) (K := 1) rfl rfl (by decide) (by decide) (by decide) (by decide)) (by decide) (by decide)) h0) (hWua1).2.2.2.2
    subst hxa1
    refine lv_iload hx hb dL_law_277 (lv_at hl 2 rfl) ?_
    refine lv_if_ge (tgt := 287) hx hb dL_law_279 (by decide) (fun b_279 => by first | exact absurd b_279 (by decide) | exact absurd (by decide) b_279) (fun b_279 => ?_)
    refine lv_ldc (v := (-100003)) hx hb F.2.2.2.1 (F.2.2.2.2.1 (Cond.constant RL 74 (-100003)) (lwG_in _ wd_660)) dL_law_282 ?_
    refine lv_goto (tgt := 289) hx hb dL_law_284 (by decide) ?_
    refine lv_icmp_ne (tgt := 334) hx hb dL_law_289 (by decide) (fun b_289 => by first | exact absurd b_289 (rfl) | exact absurd (rfl) b_289) (fun b_289 => ?_)
    refine lv_iload hx hb dL_law_292 (lv_at hl 2 rfl) ?_
    refine lv_if_le (tgt := 336) hx hb dL_law_294 (by decide) (fun b_294 => ?_) (fun b_294 => by first | exact absurd (by decide) b_294 | exact absurd b_294 (by decide))
    refine lv_goto (tgt := 868) hx hb dL_law_336 (by decide) ?_
    exact W.widen (by omega) (by omega) (K _ _ _ _ _ h ⟨by omega, _, _, _, _, _, _, hWa1, J.le (by omega), hs1⟩ (lv_sub hl [3, 4, 5, 6, 7] rfl))
  have h1 : R (5 + 11 * w + 0) = 1 := b01_of (J.b hw4) h0
  have gw := J.wg hw4 h1
  refine lv_aload_n hx hb dL_law_234 rfl (lv_at hl 1 rfl) ?_
  refine lv_iload hx hb dL_law_235 (lv_at hl 5 rfl) ?_
  refine lv_bipush (v := 10) hx hb dL_law_237 (by decide) ?_
  refine u_iE (v := (4 * qdI (R (5 + 11 * w + 4)))) (ru_V (As := [.int (nI w), .int 10]) (rest := []) F h hWd.1 rfl (kw_wire l g n c hWd J (nI w) 10 (v := (4 * qdI (R (5 + 11 * w + 4)))) (wi_10 hw4 h1)) (gV lwG_in wd_390 wd_391 wd_392 wd_16 wd_393) rfl 2 (by decide +kernel) rfl ⟨Nat.le_of_ble_eq_true rfl, Nat.le_of_ble_eq_true rfl⟩ rfl hl.1 (Nat.le_of_ble_eq_true rfl) ⟨by show cl + 0 ≤ 744077; omega, by show sl + 0 ≤ 6870016; omega⟩ dL_law_239) h (fun H locs h => ?_)
  refine lv_istore (lv' := [(8, .int (4 * qdI (R (5 + 11 * w + 4)))), (0, .ref b), (1, .ref (gz g + 0)), (2, .int (nI i1)), (3, .int gv), (4, .int hv), (6, .int (nI w))]) hx hb dL_law_242 hl (by decide) rfl (fun ls hl => ?_)
  refine lv_iload hx hb dL_law_244 (lv_at hl 5 rfl) ?_
  refine lv_bipush (v := 8) hx hb dL_law_246 (by decide) ?_
  refine u_iE (v := (lwI hv 8)) (ru_S (As := [.int hv, .int 8]) (rest := []) F h (k_L_low l g n c hv 8 (by decide)) (gS lwG_in wd_419 wd_420 wd_15 wd_421) rfl 2 (by decide +kernel) rfl ⟨Nat.le_of_ble_eq_true rfl, Nat.le_of_ble_eq_true rfl⟩ rfl hl.1 (Nat.le_of_ble_eq_true rfl) ⟨by show cl + 0 ≤ 744077; omega, by show sl + 0 ≤ 6870016; omega⟩ dL_law_248) h (fun H locs h => ?_)
  refine lv_istore (lv' := [(9, .int (lwI hv 8)), (8, .int (4 * qdI (R (5 + 11 * w + 4)))), (0, .ref b), (1, .ref (gz g + 0)), (2, .int (nI i1)), (3, .int gv), (4, .int hv), (6, .int (nI w))]) hx hb dL_law_251 hl (by decide) rfl (fun ls hl => ?_)
  refine lv_iconst (v := 1) hx hb dL_law_253 (by decide) ?_
  refine lv_iload hx hb dL_law_254 (lv_at hl 6 rfl) ?_
  refine lv_iconst (v := 3) hx hb dL_law_256 (by decide) ?_
  refine lv_ishr hx hb dL_law_257 ?_
  refine lv_sipush (v := 500) hx hb dL_law_258 (by decide) ?_
  refine u_iE (v := (lwI (hv >>> ((3 : Int32) &&& 31)) 500)) (ru_S (As := [.int (hv >>> ((3 : Int32) &&& 31)), .int 500]) (rest := [.int 1]) F h (k_L_low l g n c (hv >>> ((3 : Int32) &&& 31)) 500 (by decide)) (gS lwG_in wd_419 wd_420 wd_15 wd_421) rfl 2 (by decide +kernel) rfl ⟨Nat.le_of_ble_eq_true rfl, Nat.le_of_ble_eq_true rfl⟩ rfl hl.1 (Nat.le_of_ble_eq_true rfl) ⟨by show cl + 0 ≤ 744077; omega, by show sl + 0 ≤ 6870016; omega⟩ dL_law_261) h (fun H locs h => ?_)
  refine lv_iadd hx hb dL_law_264 ?_
  refine lv_istore (lv' := [(10, .int (1 + (lwI (hv >>> ((3 : Int32) &&& 31)) 500))), (9, .int (lwI hv 8)), (8, .int (4 * qdI (R (5 + 11 * w + 4)))), (0, .ref b), (1, .ref (gz g + 0)), (2, .int (nI i1)), (3, .int gv), (4, .int hv), (6, .int (nI w))]) hx hb dL_law_265 hl (by decide) rfl (fun ls hl => ?_)
  refine lv_aload_n hx hb dL_law_267 rfl (lv_at hl 4 rfl) ?_
  refine lv_iload hx hb dL_law_268 (lv_at hl 8 rfl) ?_
  refine lv_iload hx hb dL_law_270 (lv_at hl 1 rfl) ?_
  refine lv_iload hx hb dL_law_272 (lv_at hl 0 rfl) ?_
  have hWua2 : Wd g c lh rs R hq := hWd
  refine u_i (ru_V (As := [.int (nI w), .int (lwI hv 8), .int (1 + (lwI (hv >>> ((3 : Int32) &&& 31)) 500))]) (rest := []) F h hWd.1 rfl (k_X7_push l g n c lh 0 rs hWua2.1 R hWua2.2.1 hWua2.2.2.2.2 hq hWua2.2.2.1 J.wb (nI w) (lwI hv 8) (1 + (lwI (hv >>> ((3 : Int32) &&& 31)) 500)) sc J.s4 J.s5) (gV lwG_in wd_350 wd_351 wd_352 wd_16 wd_353) rfl 3 (by decide +kernel) rfl ⟨Nat.le_of_ble_eq_true rfl, Nat.le_of_ble_eq_true rfl⟩ rfl hl.1 (Nat.le_of_ble_eq_true rfl) ⟨by show cl + 0 ≤ 744077; omega, by show sl + 0 ≤ 6870016; omega⟩ dL_law_274) h (fun ra2 na2 ca2 H locs hp h => ?_)
  obtain ⟨hna2, hxa2, hWa2, hFa2⟩ := paW hp hWua2 (by omega) (pu_ok hw4 (lw_0 (n2 := 8) (N := 8) rfl (by decide)) (bt_w (lw_p (n2 := 500) (k2 := 1) (N := 500) (K := 1) rfl rfl (by decide) (by decide) (by decide) (by decide)) (by decide) (by decide)) h1) (rmL_le (hWua2).2.2.2.2)
  subst hxa2
  have J2 := J.push hw4 (x := (lwI hv 8)) (y := (1 + (lwI (hv >>> ((3 : Int32) &&& 31)) 500))) (lw_0 (n2 := 8) (N := 8) rfl (by decide)) (bt_w (lw_p (n2 := 500) (k2 := 1) (N := 500) (K := 1) rfl rfl (by decide) (by decide) (by decide) (by decide)) (by decide) (by decide)) h1
  have f2 : puR R w (lwI hv 8) (1 + (lwI (hv >>> ((3 : Int32) &&& 31)) 500)) sc (5 + 11 * w + 0) = 1 := (wv_w hw4 (by decide)).trans h1
  refine lv_iload hx hb dL_law_277 (lv_at hl 2 rfl) ?_
  refine lv_if_ge (tgt := 287) hx hb dL_law_279 (by decide) (fun b_279 => ?_) (fun b_279 => by first | exact absurd (bt_ge (lo := 4) (hi := 36) ⟨(cm_p gw).1, (cm_p gw).2.1⟩ 0 (by decide)) b_279 | exact absurd b_279 (bt_ge (lo := 4) (hi := 36) ⟨(cm_p gw).1, (cm_p gw).2.1⟩ 0 (by decide)))
  refine lv_iload hx hb dL_law_287 (lv_at hl 2 rfl) ?_
  refine lv_icmp_ne (tgt := 334) hx hb dL_law_289 (by decide) (fun b_289 => by first | exact absurd b_289 (rfl) | exact absurd (rfl) b_289) (fun b_289 => ?_)
  refine lv_iload hx hb dL_law_292 (lv_at hl 2 rfl) ?_
  refine lv_if_le (tgt := 336) hx hb dL_law_294 (by decide) (fun b_294 => by first | exact absurd b_294 (i_nle (bt_gt (lo := 4) (hi := 36) ⟨(cm_p gw).1, (cm_p gw).2.1⟩ 0 (by decide))) | exact absurd (i_nle (bt_gt (lo := 4) (hi := 36) ⟨(cm_p gw).1, (cm_p gw).2.1⟩ 0 (by decide))) b_294) (fun b_294 => ?_)
  refine lv_aload_n hx hb dL_law_297 rfl (lv_at hl 4 rfl) ?_
  refine lv_iload hx hb dL_law_298 (lv_at hl 8 rfl) ?_
  refine lv_bipush (v := 7) hx hb dL_law_300 (by decide) ?_
  refine u_iE (v := (lwI hv 8)) (ru_V (As := [.int (nI w), .int 7]) (rest := []) F h hWa2.1 rfl (kw_wire l g na2 ca2 hWa2 J2 (nI w) 7 (v := (lwI hv 8)) ((wi_7 hw4 f2).trans (wv_w hw4 (by decide)))) (gV lwG_in wd_390 wd_391 wd_392 wd_16 wd_393) rfl 2 (by decide +kernel) rfl ⟨Nat.le_of_ble_eq_true rfl, Nat.le_of_ble_eq_true rfl⟩ rfl hl.1 (Nat.le_of_ble_eq_true rfl) ⟨by show cl + 0 ≤ 744077; omega, by show sl + 0 ≤ 6870016; omega⟩ dL_law_302) h (fun H locs h => ?_)
  refine lv_iload hx hb dL_law_305 (lv_at hl 1 rfl) ?_
  refine lv_icmp_ne (tgt := 334) hx hb dL_law_307 (by decide) (fun b_307 => by first | exact absurd b_307 (rfl) | exact absurd (rfl) b_307) (fun b_307 => ?_)
  refine lv_aload_n hx hb dL_law_310 rfl (lv_at hl 4 rfl) ?_
  refine lv_iload hx hb dL_law_311 (lv_at hl 8 rfl) ?_
  refine lv_bipush (v := 8) hx hb dL_law_313 (by decide) ?_
  refine u_iE (v := (1 + (lwI (hv >>> ((3 : Int32) &&& 31)) 500))) (ru_V (As := [.int (nI w), .int 8]) (rest := []) F h hWa2.1 rfl (kw_wire l g na2 ca2 hWa2 J2 (nI w) 8 (v := (1 + (lwI (hv >>> ((3 : Int32) &&& 31)) 500))) ((wi_8 hw4 f2).trans (wv_w hw4 (by decide)))) (gV lwG_in wd_390 wd_391 wd_392 wd_16 wd_393) rfl 2 (by decide +kernel) rfl ⟨Nat.le_of_ble_eq_true rfl, Nat.le_of_ble_eq_true rfl⟩ rfl hl.1 (Nat.le_of_ble_eq_true rfl) ⟨by show cl + 0 ≤ 744077; omega, by show sl + 0 ≤ 6870016; omega⟩ dL_law_315) h (fun H locs h => ?_)
  refine lv_iload hx hb dL_law_318 (lv_at hl 0 rfl) ?_
  refine lv_icmp_ne (tgt := 334) hx hb dL_law_320 (by decide) (fun b_320 => by first | exact absurd b_320 (rfl) | exact absurd (rfl) b_320) (fun b_320 => ?_)
  refine lv_aload_n hx hb dL_law_323 rfl (lv_at hl 4 rfl) ?_
  refine lv_iload hx hb dL_law_324 (lv_at hl 8 rfl) ?_
  refine lv_bipush (v := 9) hx hb dL_law_326 (by decide) ?_
  refine u_iE (v := 0) (ru_V (As := [.int (nI w), .int 9]) (rest := []) F h hWa2.1 rfl (kw_wire l g na2 ca2 hWa2 J2 (nI w) 9 (v := 0) ((wi_9 hw4 f2).trans (wv_w hw4 (by decide)))) (gV lwG_in wd_390 wd_391 wd_392 wd_16 wd_393) rfl 2 (by decide +kernel) rfl ⟨Nat.le_of_ble_eq_true rfl, Nat.le_of_ble_eq_true rfl⟩ rfl hl.1 (Nat.le_of_ble_eq_true rfl) ⟨by show cl + 0 ≤ 744077; omega, by show sl + 0 ≤ 6870016; omega⟩ dL_law_328) h (fun H locs h => ?_)
  refine lv_if_eq (tgt := 336) hx hb dL_law_331 (by decide) (fun b_331 => ?_) (fun b_331 => by first | exact absurd (by decide) b_331 | exact absurd b_331 (by decide))
  refine lv_goto (tgt := 868) hx hb dL_law_336 (by decide) ?_
  exact W.widen (by omega) (by omega) (K _ _ _ _ _ h ⟨by omega, _, _, _, _, _, _, hWa2, J2.le (by omega), hs1⟩ (lv_sub hl [3, 4, 5, 6, 7] rfl))
set_option maxHeartbeats 4000000 in
set_option maxRecDepth 100000 in
theorem lc_gear (F : Fx p s m #[Value.ref b] meth c0 code 12 ret RL lw_tbl g meth.name) (h : Hv g s H locs n c) (hWd : Wd g c lh rs R hq) (J : Jv R sc cn tb) (hs1 : 1 ≤ sc) (hn : 352 ≤ n) (ht : tb ≤ 800000000) (i1 : Nat) (gv hv : Int32) (w : Nat) (hw4 : w < 4) (hl : lv_has ls 12 [(0, .ref b), (1, .ref (gz g + 0)), (2, .int (nI i1)), (3, .int gv), (4, .int hv), (6, .int (nI w))]) (hcl : cl + 5 ≤ 744077) (hsl : sl + 14 ≤ 6870016) (K : LK p l e s m below meth c0 b g i1 gv hv (cl + 5) (sl + 14) (tb + 60)) : W p l e room_1 s m #[Value.ref b] below meth c0 H locs cl sl (lw_Z below #[Value.ref b] s) (F0 m 345 ls []) := by
  have hx := F.1
  have hb := F.2.1
  have s5 := J.s5
  have c5 := J.c5
  by_cases h0 : R (5 + 11 * w + 0) = 0
  · skip
    refine lv_aload_n hx hb dL_law_345 rfl (lv_at hl 1 rfl) ?_
    refine lv_iload hx hb dL_law_346 (lv_at hl 5 rfl) ?_
    refine lv_bipush (v := 6) hx hb dL_law_348 (by decide) ?_
    refine u_iE (v := (-100005)) (ru_V (As := [.int (nI w), .int 6]) (rest := []) F h hWd.1 rfl (kw_wire l g n c hWd J (nI w) 6 (v := (-100005)) (wi_n hw4 h0 (by decide))) (gV lwG_in wd_390 wd_391 wd_392 wd_16 wd_393) rfl 2 (by decide +kernel) rfl ⟨Nat.le_of_ble_eq_true rfl, Nat.le_of_ble_eq_true rfl⟩ rfl hl.1 (Nat.le_of_ble_eq_true rfl) ⟨by show cl + 0 ≤ 744077; omega, by show sl + 0 ≤ 6870016; omega⟩ dL_law_350) h (fun H locs h => ?_)
    refine lv_istore (lv' := [(8, .int (-100005)), (0, .ref b), (1, .ref (gz g + 0)), (2, .int (nI i1)), (3, .int gv), (4, .int hv), (6, .int (nI w))]) hx hb dL_law_353 hl (by decide) rfl (fun ls hl => ?_)
    refine lv_iload hx hb dL_law_355 (lv_at hl 5 rfl) ?_
    refine lv_bipush (v := 41) hx hb dL_law_357 (by decide) ?_
    refine u_iE (v := (lwI hv 41)) (ru_S (As := [.int hv, .int 41]) (rest := []) F h (k_L_low l g n c hv 41 (by decide)) (gS lwG_in wd_419 wd_420 wd_15 wd_421) rfl 2 (by decide +kernel) rfl ⟨Nat.le_of_ble_eq_true rfl, Nat.le_of_ble_eq_true rfl⟩ rfl hl.1 (Nat.le_of_ble_eq_true rfl) ⟨by show cl + 0 ≤ 744077; omega, by show sl + 0 ≤ 6870016; omega⟩ dL_law_359) h (fun H locs h => ?_)
    refine lv_bipush (v := 20) hx hb dL_law_362 (by decide) ?_
    refine lv_isub hx hb dL_law_364 ?_
    refine lv_istore (lv' := [(9, .int ((lwI hv 41) - 20)), (8, .int (-100005)), (0, .ref b), (1, .ref (gz g + 0)), (2, .int (nI i1)), (3, .int gv), (4, .int hv), (6, .int (nI w))]) hx hb dL_law_365 hl (by decide) rfl (fun ls hl => ?_)
    refine lv_iload hx hb dL_law_367 (lv_at hl 6 rfl) ?_
    refine lv_bipush (v := 6) hx hb dL_law_369 (by decide) ?_
    refine lv_ishr hx hb dL_law_371 ?_
    refine lv_bipush (v := 41) hx hb dL_law_372 (by decide) ?_
    refine u_iE (v := (lwI (hv >>> ((6 : Int32) &&& 31)) 41)) (ru_S (As := [.int (hv >>> ((6 : Int32) &&& 31)), .int 41]) (rest := []) F h (k_L_low l g n c (hv >>> ((6 : Int32) &&& 31)) 41 (by decide)) (gS lwG_in wd_419 wd_420 wd_15 wd_421) rfl 2 (by decide +kernel) rfl ⟨Nat.le_of_ble_eq_true rfl, Nat.le_of_ble_eq_true rfl⟩ rfl hl.1 (Nat.le_of_ble_eq_true rfl) ⟨by show cl + 0 ≤ 744077; omega, by show sl + 0 ≤ 6870016; omega⟩ dL_law_374) h (fun H locs h => ?_)
    refine lv_bipush (v := 20) hx hb dL_law_377 (by decide) ?_
    refine lv_isub hx hb dL_law_379 ?_
    refine lv_istore (lv' := [(10, .int ((lwI (hv >>> ((6 : Int32) &&& 31)) 41) - 20)), (9, .int ((lwI hv 41) - 20)), (8, .int (-100005)), (0, .ref b), (1, .ref (gz g + 0)), (2, .int (nI i1)), (3, .int gv), (4, .int hv), (6, .int (nI w))]) hx hb dL_law_380 hl (by decide) rfl (fun ls hl => ?_)
    refine lv_iload_n hx hb dL_law_382 rfl (lv_at hl 6 rfl) ?_
    refine lv_iconst (v := 4) hx hb dL_law_383 (by decide) ?_
    refine lv_iand hx hb dL_law_384 ?_
    refine lv_if_ne (tgt := 403) hx hb dL_law_385 (by decide) (fun b_385 => ?_) (fun b_385 => ?_)
    · skip
      refine lv_aload_n hx hb dL_law_403 rfl (lv_at hl 4 rfl) ?_
      refine lv_iload hx hb dL_law_404 (lv_at hl 8 rfl) ?_
      refine lv_iload hx hb dL_law_406 (lv_at hl 1 rfl) ?_
      refine lv_iload hx hb dL_law_408 (lv_at hl 0 rfl) ?_
      have hWua1 : Wd g c lh rs R hq := hWd
      refine u_i (ru_V (As := [.int (nI w), .int ((lwI hv 41) - 20), .int ((lwI (hv >>> ((6 : Int32) &&& 31)) 41) - 20)]) (rest := []) F h hWd.1 rfl (k_X7_setClamp l g n c lh 0 rs hWua1.1 R hWua1.2.1 hWua1.2.2.2.2 hq hWua1.2.2.1 J.wb (nI w) ((lwI hv 41) - 20) ((lwI (hv >>> ((6 : Int32) &&& 31)) 41) - 20) sc J.s4 J.s5) (gV lwG_in wd_339 wd_340 wd_341 wd_16 wd_342) rfl 3 (by decide +kernel) rfl ⟨Nat.le_of_ble_eq_true rfl, Nat.le_of_ble_eq_true rfl⟩ rfl hl.1 (Nat.le_of_ble_eq_true rfl) ⟨by show cl + 0 ≤ 744077; omega, by show sl + 0 ≤ 6870016; omega⟩ dL_law_410) h (fun ra1 na1 ca1 H locs hp h => ?_)
      obtain ⟨hna1, hxa1, hWa1, hFa1⟩ := paW hp hWua1 (by omega) (cl_n hw4 (bt_w (lw_c (n2 := 41) (k2 := 20) (N := 41) (K := 20) rfl rfl (by decide) (by decide) (by decide) (by decide)) (by decide) (by decide)) (bt_w (lw_c (n2 := 41) (k2 := 20) (N := 41) (K := 20) rfl rfl (by decide) (by decide) (by decide) (by decide)) (by decide) (by decide)) h0) (hWua1).2.2.2.2
      subst hxa1
      refine lv_istore (lv' := [(11, .int (-100003)), (10, .int ((lwI (hv >>> ((6 : Int32) &&& 31)) 41) - 20)), (9, .int ((lwI hv 41) - 20)), (8, .int (-100005)), (0, .ref b), (1, .ref (gz g + 0)), (2, .int (nI i1)), (3, .int gv), (4, .int hv), (6, .int (nI w))]) hx hb dL_law_413 hl (by decide) rfl (fun ls hl => ?_)
      refine lv_iload hx hb dL_law_415 (lv_at hl 0 rfl) ?_
      refine lv_iload hx hb dL_law_417 (lv_at hl 3 rfl) ?_
      refine lv_if_ge (tgt := 427) hx hb dL_law_419 (by decide) (fun b_419 => by first | exact absurd b_419 (by decide) | exact absurd (by decide) b_419) (fun b_419 => ?_)
      refine lv_ldc (v := (-100003)) hx hb F.2.2.2.1 (F.2.2.2.2.1 (Cond.constant RL 74 (-100003)) (lwG_in _ wd_660)) dL_law_422 ?_
      refine lv_goto (tgt := 449) hx hb dL_law_424 (by decide) ?_
      refine lv_icmp_eq (tgt := 454) hx hb dL_law_449 (by decide) (fun b_449 => ?_) (fun b_449 => by first | exact absurd (rfl) b_449 | exact absurd b_449 (rfl))
      refine lv_goto (tgt := 868) hx hb dL_law_454 (by decide) ?_
      exact W.widen (by omega) (by omega) (K _ _ _ _ _ h ⟨by omega, _, _, _, _, _, _, hWa1, J.le (by omega), hs1⟩ (lv_sub hl [4, 5, 6, 7, 8] rfl))
    refine lv_aload_n hx hb dL_law_388 rfl (lv_at hl 4 rfl) ?_
    refine lv_iload hx hb dL_law_389 (lv_at hl 8 rfl) ?_
    refine lv_iload hx hb dL_law_391 (lv_at hl 7 rfl) ?_
    refine lv_iconst (v := 3) hx hb dL_law_393 (by decide) ?_
    refine u_iE (v := (lwI hv 3)) (ru_S (As := [.int hv, .int 3]) (rest := [.int (nI w), .ref (gz g + 0)]) F h (k_L_low l g n c hv 3 (by decide)) (gS lwG_in wd_419 wd_420 wd_15 wd_421) rfl 2 (by decide +kernel) rfl ⟨Nat.le_of_ble_eq_true rfl, Nat.le_of_ble_eq_true rfl⟩ rfl hl.1 (Nat.le_of_ble_eq_true rfl) ⟨by show cl + 0 ≤ 744077; omega, by show sl + 0 ≤ 6870016; omega⟩ dL_law_394) h (fun H locs h => ?_)
    have hWua2 : Wd g c lh rs R hq := hWd
    refine u_i (ru_V (As := [.int (nI w), .int (lwI hv 3)]) (rest := []) F h hWd.1 rfl (k_X7_setBucket l g n c lh 0 rs hWua2.1 R hWua2.2.1 hWua2.2.2.2.2 hq hWua2.2.2.1 J.wb (nI w) (lwI hv 3) sc J.s4 J.s5) (gV lwG_in wd_346 wd_347 wd_348 wd_16 wd_349) rfl 2 (by decide +kernel) rfl ⟨Nat.le_of_ble_eq_true rfl, Nat.le_of_ble_eq_true rfl⟩ rfl hl.1 (Nat.le_of_ble_eq_true rfl) ⟨by show cl + 0 ≤ 744077; omega, by show sl + 0 ≤ 6870016; omega⟩ dL_law_397) h (fun ra2 na2 ca2 H locs hp h => ?_)
    obtain ⟨hna2, hxa2, hWa2, hFa2⟩ := paW hp hWua2 (by omega) (bk_n hw4 (lw_0 (n2 := 3) (N := 3) rfl (by decide)) h0) (hWua2).2.2.2.2
    subst hxa2
    refine lv_goto (tgt := 413) hx hb dL_law_400 (by decide) ?_
    refine lv_istore (lv' := [(11, .int (-100003)), (10, .int ((lwI (hv >>> ((6 : Int32) &&& 31)) 41) - 20)), (9, .int ((lwI hv 41) - 20)), (8, .int (-100005)), (0, .ref b), (1, .ref (gz g + 0)), (2, .int (nI i1)), (3, .int gv), (4, .int hv), (6, .int (nI w))]) hx hb dL_law_413 hl (by decide) rfl (fun ls hl => ?_)
    refine lv_iload hx hb dL_law_415 (lv_at hl 0 rfl) ?_
    refine lv_iload hx hb dL_law_417 (lv_at hl 3 rfl) ?_
    refine lv_if_ge (tgt := 427) hx hb dL_law_419 (by decide) (fun b_419 => by first | exact absurd b_419 (by decide) | exact absurd (by decide) b_419) (fun b_419 => ?_)
    refine lv_ldc (v := (-100003)) hx hb F.2.2.2.1 (F.2.2.2.2.1 (Cond.constant RL 74 (-100003)) (lwG_in _ wd_660)) dL_law_422 ?_
    refine lv_goto (tgt := 449) hx hb dL_law_424 (by decide) ?_
    refine lv_icmp_eq (tgt := 454) hx hb dL_law_449 (by decide) (fun b_449 => ?_) (fun b_449 => by first | exact absurd (rfl) b_449 | exact absurd b_449 (rfl))
    refine lv_goto (tgt := 868) hx hb dL_law_454 (by decide) ?_
    exact W.widen (by omega) (by omega) (K _ _ _ _ _ h ⟨by omega, _, _, _, _, _, _, hWa2, J.le (by omega), hs1⟩ (lv_sub hl [4, 5, 6, 7, 8] rfl))
  have h1 : R (5 + 11 * w + 0) = 1 := b01_of (J.b hw4) h0
  have gw := J.wg hw4 h1
  refine lv_aload_n hx hb dL_law_345 rfl (lv_at hl 1 rfl) ?_
  refine lv_iload hx hb dL_law_346 (lv_at hl 5 rfl) ?_
  refine lv_bipush (v := 6) hx hb dL_law_348 (by decide) ?_
  refine u_iE (v := (R (5 + 11 * w + 7))) (ru_V (As := [.int (nI w), .int 6]) (rest := []) F h hWd.1 rfl (kw_wire l g n c hWd J (nI w) 6 (v := (R (5 + 11 * w + 7))) (wi_6 hw4 h1)) (gV lwG_in wd_390 wd_391 wd_392 wd_16 wd_393) rfl 2 (by decide +kernel) rfl ⟨Nat.le_of_ble_eq_true rfl, Nat.le_of_ble_eq_true rfl⟩ rfl hl.1 (Nat.le_of_ble_eq_true rfl) ⟨by show cl + 0 ≤ 744077; omega, by show sl + 0 ≤ 6870016; omega⟩ dL_law_350) h (fun H locs h => ?_)
  refine lv_istore (lv' := [(8, .int (R (5 + 11 * w + 7))), (0, .ref b), (1, .ref (gz g + 0)), (2, .int (nI i1)), (3, .int gv), (4, .int hv), (6, .int (nI w))]) hx hb dL_law_353 hl (by decide) rfl (fun ls hl => ?_)
  refine lv_iload hx hb dL_law_355 (lv_at hl 5 rfl) ?_
  refine lv_bipush (v := 41) hx hb dL_law_357 (by decide) ?_
  refine u_iE (v := (lwI hv 41)) (ru_S (As := [.int hv, .int 41]) (rest := []) F h (k_L_low l g n c hv 41 (by decide)) (gS lwG_in wd_419 wd_420 wd_15 wd_421) rfl 2 (by decide +kernel) rfl ⟨Nat.le_of_ble_eq_true rfl, Nat.le_of_ble_eq_true rfl⟩ rfl hl.1 (Nat.le_of_ble_eq_true rfl) ⟨by show cl + 0 ≤ 744077; omega, by show sl + 0 ≤ 6870016; omega⟩ dL_law_359) h (fun H locs h => ?_)
  refine lv_bipush (v := 20) hx hb dL_law_362 (by decide) ?_
  refine lv_isub hx hb dL_law_364 ?_
  refine lv_istore (lv' := [(9, .int ((lwI hv 41) - 20)), (8, .int (R (5 + 11 * w + 7))), (0, .ref b), (1, .ref (gz g + 0)), (2, .int (nI i1)), (3, .int gv), (4, .int hv), (6, .int (nI w))]) hx hb dL_law_365 hl (by decide) rfl (fun ls hl => ?_)
  refine lv_iload hx hb dL_law_367 (lv_at hl 6 rfl) ?_
  refine lv_bipush (v := 6) hx hb dL_law_369 (by decide) ?_
  refine lv_ishr hx hb dL_law_371 ?_
  refine lv_bipush (v := 41) hx hb dL_law_372 (by decide) ?_
  refine u_iE (v := (lwI (hv >>> ((6 : Int32) &&& 31)) 41)) (ru_S (As := [.int (hv >>> ((6 : Int32) &&& 31)), .int 41]) (rest := []) F h (k_L_low l g n c (hv >>> ((6 : Int32) &&& 31)) 41 (by decide)) (gS lwG_in wd_419 wd_420 wd_15 wd_421) rfl 2 (by decide +kernel) rfl ⟨Nat.le_of_ble_eq_true rfl, Nat.le_of_ble_eq_true rfl⟩ rfl hl.1 (Nat.le_of_ble_eq_true rfl) ⟨by show cl + 0 ≤ 744077; omega, by show sl + 0 ≤ 6870016; omega⟩ dL_law_374) h (fun H locs h => ?_)
  refine lv_bipush (v := 20) hx hb dL_law_377 (by decide) ?_
  refine lv_isub hx hb dL_law_379 ?_
  refine lv_istore (lv' := [(10, .int ((lwI (hv >>> ((6 : Int32) &&& 31)) 41) - 20)), (9, .int ((lwI hv 41) - 20)), (8, .int (R (5 + 11 * w + 7))), (0, .ref b), (1, .ref (gz g + 0)), (2, .int (nI i1)), (3, .int gv), (4, .int hv), (6, .int (nI w))]) hx hb dL_law_380 hl (by decide) rfl (fun ls hl => ?_)
  refine lv_iload_n hx hb dL_law_382 rfl (lv_at hl 6 rfl) ?_
  refine lv_iconst (v := 4) hx hb dL_law_383 (by decide) ?_
  refine lv_iand hx hb dL_law_384 ?_
  refine lv_if_ne (tgt := 403) hx hb dL_law_385 (by decide) (fun b_385 => ?_) (fun b_385 => ?_)
  · skip
    refine lv_aload_n hx hb dL_law_403 rfl (lv_at hl 4 rfl) ?_
    refine lv_iload hx hb dL_law_404 (lv_at hl 8 rfl) ?_
    refine lv_iload hx hb dL_law_406 (lv_at hl 1 rfl) ?_
    refine lv_iload hx hb dL_law_408 (lv_at hl 0 rfl) ?_
    have hWua3 : Wd g c lh rs R hq := hWd
    refine u_i (ru_V (As := [.int (nI w), .int ((lwI hv 41) - 20), .int ((lwI (hv >>> ((6 : Int32) &&& 31)) 41) - 20)]) (rest := []) F h hWd.1 rfl (k_X7_setClamp l g n c lh 0 rs hWua3.1 R hWua3.2.1 hWua3.2.2.2.2 hq hWua3.2.2.1 J.wb (nI w) ((lwI hv 41) - 20) ((lwI (hv >>> ((6 : Int32) &&& 31)) 41) - 20) sc J.s4 J.s5) (gV lwG_in wd_339 wd_340 wd_341 wd_16 wd_342) rfl 3 (by decide +kernel) rfl ⟨Nat.le_of_ble_eq_true rfl, Nat.le_of_ble_eq_true rfl⟩ rfl hl.1 (Nat.le_of_ble_eq_true rfl) ⟨by show cl + 0 ≤ 744077; omega, by show sl + 0 ≤ 6870016; omega⟩ dL_law_410) h (fun ra3 na3 ca3 H locs hp h => ?_)
    obtain ⟨hna3, hxa3, hWa3, hFa3⟩ := paW hp hWua3 (by omega) (cl_ok hw4 (bt_w (lw_c (n2 := 41) (k2 := 20) (N := 41) (K := 20) rfl rfl (by decide) (by decide) (by decide) (by decide)) (by decide) (by decide)) (bt_w (lw_c (n2 := 41) (k2 := 20) (N := 41) (K := 20) rfl rfl (by decide) (by decide) (by decide) (by decide)) (by decide) (by decide)) h1) (rmL_le (hWua3).2.2.2.2)
    subst hxa3
    have J2 := J.clamp hw4 (x := ((lwI hv 41) - 20)) (y := ((lwI (hv >>> ((6 : Int32) &&& 31)) 41) - 20)) (bt_w (lw_c (n2 := 41) (k2 := 20) (N := 41) (K := 20) rfl rfl (by decide) (by decide) (by decide) (by decide)) (by decide) (by decide)) (bt_w (lw_c (n2 := 41) (k2 := 20) (N := 41) (K := 20) rfl rfl (by decide) (by decide) (by decide) (by decide)) (by decide) (by decide)) h1
    refine lv_istore (lv' := [(11, .int (szI ((lwI hv 41) - 20) + szI ((lwI (hv >>> ((6 : Int32) &&& 31)) 41) - 20))), (10, .int ((lwI (hv >>> ((6 : Int32) &&& 31)) 41) - 20)), (9, .int ((lwI hv 41) - 20)), (8, .int (R (5 + 11 * w + 7))), (0, .ref b), (1, .ref (gz g + 0)), (2, .int (nI i1)), (3, .int gv), (4, .int hv), (6, .int (nI w))]) hx hb dL_law_413 hl (by decide) rfl (fun ls hl => ?_)
    refine lv_iload hx hb dL_law_415 (lv_at hl 0 rfl) ?_
    refine lv_iload hx hb dL_law_417 (lv_at hl 3 rfl) ?_
    refine lv_if_ge (tgt := 427) hx hb dL_law_419 (by decide) (fun b_419 => ?_) (fun b_419 => by first | exact absurd (bt_ge gw.2.2.2.2.2.2.1 0 (by decide)) b_419 | exact absurd b_419 (bt_ge gw.2.2.2.2.2.2.1 0 (by decide)))
    refine lv_iload_n hx hb dL_law_427 rfl (lv_at hl 7 rfl) ?_
    refine lv_iconst (v := 4) hx hb dL_law_428 (by decide) ?_
    refine lv_iand hx hb dL_law_429 ?_
    refine lv_if_ne (tgt := 438) hx hb dL_law_430 (by decide) (fun b_430 => ?_) (fun b_430 => by first | exact absurd (b_385) b_430 | exact absurd b_430 (b_385))
    refine lv_iload hx hb dL_law_438 (lv_at hl 2 rfl) ?_
    refine u_iE (v := (szI ((lwI hv 41) - 20))) (ru_S (As := [.int ((lwI hv 41) - 20)]) (rest := [.int (szI ((lwI hv 41) - 20) + szI ((lwI (hv >>> ((6 : Int32) &&& 31)) 41) - 20))]) F h (k_L_size l g na3 ca3 ((lwI hv 41) - 20)) (gS lwG_in wd_423 wd_424 wd_15 wd_425) rfl 1 (by decide +kernel) rfl ⟨Nat.le_of_ble_eq_true rfl, Nat.le_of_ble_eq_true rfl⟩ rfl hl.1 (Nat.le_of_ble_eq_true rfl) ⟨by show cl + 0 ≤ 744077; omega, by show sl + 0 ≤ 6870016; omega⟩ dL_law_440) h (fun H locs h => ?_)
    refine lv_iload hx hb dL_law_443 (lv_at hl 1 rfl) ?_
    refine u_iE (v := (szI ((lwI (hv >>> ((6 : Int32) &&& 31)) 41) - 20))) (ru_S (As := [.int ((lwI (hv >>> ((6 : Int32) &&& 31)) 41) - 20)]) (rest := [.int (szI ((lwI hv 41) - 20)), .int (szI ((lwI hv 41) - 20) + szI ((lwI (hv >>> ((6 : Int32) &&& 31)) 41) - 20))]) F h (k_L_size l g na3 ca3 ((lwI (hv >>> ((6 : Int32) &&& 31)) 41) - 20)) (gS lwG_in wd_423 wd_424 wd_15 wd_425) rfl 1 (by decide +kernel) rfl ⟨Nat.le_of_ble_eq_true rfl, Nat.le_of_ble_eq_true rfl⟩ rfl hl.1 (Nat.le_of_ble_eq_true rfl) ⟨by show cl + 0 ≤ 744077; omega, by show sl + 0 ≤ 6870016; omega⟩ dL_law_445) h (fun H locs h => ?_)
    refine lv_iadd hx hb dL_law_448 ?_
    refine lv_icmp_eq (tgt := 454) hx hb dL_law_449 (by decide) (fun b_449 => ?_) (fun b_449 => by first | exact absurd (rfl) b_449 | exact absurd b_449 (rfl))
    refine lv_goto (tgt := 868) hx hb dL_law_454 (by decide) ?_
    exact W.widen (by omega) (by omega) (K _ _ _ _ _ h ⟨by omega, _, _, _, _, _, _, hWa3, J2.le (by omega), hs1⟩ (lv_sub hl [4, 5, 6, 7, 8] rfl))
  refine lv_aload_n hx hb dL_law_388 rfl (lv_at hl 4 rfl) ?_
  refine lv_iload hx hb dL_law_389 (lv_at hl 8 rfl) ?_
  refine lv_iload hx hb dL_law_391 (lv_at hl 7 rfl) ?_
  refine lv_iconst (v := 3) hx hb dL_law_393 (by decide) ?_
  refine u_iE (v := (lwI hv 3)) (ru_S (As := [.int hv, .int 3]) (rest := [.int (nI w), .ref (gz g + 0)]) F h (k_L_low l g n c hv 3 (by decide)) (gS lwG_in wd_419 wd_420 wd_15 wd_421) rfl 2 (by decide +kernel) rfl ⟨Nat.le_of_ble_eq_true rfl, Nat.le_of_ble_eq_true rfl⟩ rfl hl.1 (Nat.le_of_ble_eq_true rfl) ⟨by show cl + 0 ≤ 744077; omega, by show sl + 0 ≤ 6870016; omega⟩ dL_law_394) h (fun H locs h => ?_)
  have hWua4 : Wd g c lh rs R hq := hWd
  refine u_i (ru_V (As := [.int (nI w), .int (lwI hv 3)]) (rest := []) F h hWd.1 rfl (k_X7_setBucket l g n c lh 0 rs hWua4.1 R hWua4.2.1 hWua4.2.2.2.2 hq hWua4.2.2.1 J.wb (nI w) (lwI hv 3) sc J.s4 J.s5) (gV lwG_in wd_346 wd_347 wd_348 wd_16 wd_349) rfl 2 (by decide +kernel) rfl ⟨Nat.le_of_ble_eq_true rfl, Nat.le_of_ble_eq_true rfl⟩ rfl hl.1 (Nat.le_of_ble_eq_true rfl) ⟨by show cl + 0 ≤ 744077; omega, by show sl + 0 ≤ 6870016; omega⟩ dL_law_397) h (fun ra4 na4 ca4 H locs hp h => ?_)
  obtain ⟨hna4, hxa4, hWa4, hFa4⟩ := paW hp hWua4 (by omega) (bk_ok hw4 (lw_0 (n2 := 3) (N := 3) rfl (by decide)) h1) (rmL_le (hWua4).2.2.2.2)
  subst hxa4
  have J2 := J.bucket hw4 (x := (lwI hv 3)) (lw_0 (n2 := 3) (N := 3) rfl (by decide)) h1
  refine lv_goto (tgt := 413) hx hb dL_law_400 (by decide) ?_
  refine lv_istore (lv' := [(11, .int (R (5 + 11 * w + 7))), (10, .int ((lwI (hv >>> ((6 : Int32) &&& 31)) 41) - 20)), (9, .int ((lwI hv 41) - 20)), (8, .int (R (5 + 11 * w + 7))), (0, .ref b), (1, .ref (gz g + 0)), (2, .int (nI i1)), (3, .int gv), (4, .int hv), (6, .int (nI w))]) hx hb dL_law_413 hl (by decide) rfl (fun ls hl => ?_)
  refine lv_iload hx hb dL_law_415 (lv_at hl 0 rfl) ?_
  refine lv_iload hx hb dL_law_417 (lv_at hl 3 rfl) ?_
  refine lv_if_ge (tgt := 427) hx hb dL_law_419 (by decide) (fun b_419 => ?_) (fun b_419 => by first | exact absurd (bt_ge gw.2.2.2.2.2.2.1 0 (by decide)) b_419 | exact absurd b_419 (bt_ge gw.2.2.2.2.2.2.1 0 (by decide)))
  refine lv_iload_n hx hb dL_law_427 rfl (lv_at hl 7 rfl) ?_
  refine lv_iconst (v := 4) hx hb dL_law_428 (by decide) ?_
  refine lv_iand hx hb dL_law_429 ?_
  refine lv_if_ne (tgt := 438) hx hb dL_law_430 (by decide) (fun b_430 => by first | exact absurd b_430 (b_385) | exact absurd (b_385) b_430) (fun b_430 => ?_)
  refine lv_iload hx hb dL_law_433 (lv_at hl 3 rfl) ?_
  refine lv_goto (tgt := 449) hx hb dL_law_435 (by decide) ?_
  refine lv_icmp_eq (tgt := 454) hx hb dL_law_449 (by decide) (fun b_449 => ?_) (fun b_449 => by first | exact absurd (rfl) b_449 | exact absurd b_449 (rfl))
  refine lv_goto (tgt := 868) hx hb dL_law_454 (by decide) ?_
  exact W.widen (by omega) (by omega) (K _ _ _ _ _ h ⟨by omega, _, _, _, _, _, _, hWa4, J2.le (by omega), hs1⟩ (lv_sub hl [4, 5, 6, 7, 8] rfl))
set_option maxHeartbeats 4000000 in
set_option maxRecDepth 100000 in
theorem lc_air (F : Fx p s m #[Value.ref b] meth c0 code 12 ret RL lw_tbl g meth.name) (h : Hv g s H locs n c) (hWd : Wd g c lh rs R hq) (J : Jv R sc cn tb) (hs1 : 1 ≤ sc) (hn : 352 ≤ n) (ht : tb ≤ 800000000) (i1 : Nat) (gv hv : Int32)  (hl : lv_has ls 12 [(0, .ref b), (1, .ref (gz g + 0)), (2, .int (nI i1)), (3, .int gv), (4, .int hv)]) (hcl : cl + 5 ≤ 744077) (hsl : sl + 14 ≤ 6870016) (K : LK p l e s m below meth c0 b g i1 gv hv (cl + 5) (sl + 14) (tb + 60)) : W p l e room_1 s m #[Value.ref b] below meth c0 H locs cl sl (lw_Z below #[Value.ref b] s) (F0 m 463 ls []) := by
  have hx := F.1
  have hb := F.2.1
  have s5 := J.s5
  have c5 := J.c5
  by_cases c0 : cn = 0
  · skip
    have c5f : ¬ cn = 5 := by omega
    refine lv_aload_n hx hb dL_law_463 rfl (lv_at hl 1 rfl) ?_
    refine lv_iconst (v := 2) hx hb dL_law_464 (by decide) ?_
    refine u_iE (v := (nI cn)) (ru_V (As := [.int 2]) (rest := []) F h hWd.1 rfl (kw_count l g n c hWd J 2 (v := (nI cn)) (J.c3)) (gV lwG_in wd_399 wd_400 wd_401 wd_16 wd_402) rfl 1 (by decide +kernel) rfl ⟨Nat.le_of_ble_eq_true rfl, Nat.le_of_ble_eq_true rfl⟩ rfl hl.1 (Nat.le_of_ble_eq_true rfl) ⟨by show cl + 0 ≤ 744077; omega, by show sl + 0 ≤ 6870016; omega⟩ dL_law_465) h (fun H locs h => ?_)
    refine lv_istore (lv' := [(8, .int (nI cn)), (0, .ref b), (1, .ref (gz g + 0)), (2, .int (nI i1)), (3, .int gv), (4, .int hv)]) hx hb dL_law_468 hl (by decide) rfl (fun ls hl => ?_)
    refine lv_iload hx hb dL_law_470 (lv_at hl 5 rfl) ?_
    refine lv_sipush (v := 700) hx hb dL_law_472 (by decide) ?_
    refine u_iE (v := (lwI hv 700)) (ru_S (As := [.int hv, .int 700]) (rest := []) F h (k_L_low l g n c hv 700 (by decide)) (gS lwG_in wd_419 wd_420 wd_15 wd_421) rfl 2 (by decide +kernel) rfl ⟨Nat.le_of_ble_eq_true rfl, Nat.le_of_ble_eq_true rfl⟩ rfl hl.1 (Nat.le_of_ble_eq_true rfl) ⟨by show cl + 0 ≤ 744077; omega, by show sl + 0 ≤ 6870016; omega⟩ dL_law_475) h (fun H locs h => ?_)
    refine lv_istore (lv' := [(9, .int (lwI hv 700)), (8, .int (nI cn)), (0, .ref b), (1, .ref (gz g + 0)), (2, .int (nI i1)), (3, .int gv), (4, .int hv)]) hx hb dL_law_478 hl (by decide) rfl (fun ls hl => ?_)
    refine lv_iload_n hx hb dL_law_480 rfl (lv_at hl 5 rfl) ?_
    refine lv_bipush (v := 12) hx hb dL_law_481 (by decide) ?_
    refine lv_iand hx hb dL_law_483 ?_
    refine lv_if_ne (tgt := 494) hx hb dL_law_484 (by decide) (fun b_484 => ?_) (fun b_484 => ?_)
    · skip
      refine lv_aload_n hx hb dL_law_494 rfl (lv_at hl 3 rfl) ?_
      refine lv_iload hx hb dL_law_495 (lv_at hl 0 rfl) ?_
      refine lv_iload hx hb dL_law_497 (lv_at hl 0 rfl) ?_
      refine lv_iconst (v := 1) hx hb dL_law_499 (by decide) ?_
      refine lv_iadd hx hb dL_law_500 ?_
      refine lv_iload hx hb dL_law_501 (lv_at hl 6 rfl) ?_
      refine lv_bipush (v := 10) hx hb dL_law_503 (by decide) ?_
      refine lv_ishr hx hb dL_law_505 ?_
      refine lv_bipush (v := 100) hx hb dL_law_506 (by decide) ?_
      refine u_iE (v := (lwI (hv >>> ((10 : Int32) &&& 31)) 100)) (ru_S (As := [.int (hv >>> ((10 : Int32) &&& 31)), .int 100]) (rest := [.int ((lwI hv 700) + 1), .int (lwI hv 700), .ref (gz g + 0)]) F h (k_L_low l g n c (hv >>> ((10 : Int32) &&& 31)) 100 (by decide)) (gS lwG_in wd_419 wd_420 wd_15 wd_421) rfl 2 (by decide +kernel) rfl ⟨Nat.le_of_ble_eq_true rfl, Nat.le_of_ble_eq_true rfl⟩ rfl hl.1 (Nat.le_of_ble_eq_true rfl) ⟨by show cl + 0 ≤ 744077; omega, by show sl + 0 ≤ 6870016; omega⟩ dL_law_508) h (fun H locs h => ?_)
      refine lv_iadd hx hb dL_law_511 ?_
      refine lv_iload_n hx hb dL_law_512 rfl (lv_at hl 5 rfl) ?_
      refine lv_iconst (v := 4) hx hb dL_law_513 (by decide) ?_
      refine lv_ishr hx hb dL_law_514 ?_
      refine lv_bipush (v := 101) hx hb dL_law_515 (by decide) ?_
      refine u_iE (v := (lwI (gv >>> ((4 : Int32) &&& 31)) 101)) (ru_S (As := [.int (gv >>> ((4 : Int32) &&& 31)), .int 101]) (rest := [.int (((lwI hv 700) + 1) + (lwI (hv >>> ((10 : Int32) &&& 31)) 100)), .int (lwI hv 700), .ref (gz g + 0)]) F h (k_L_low l g n c (gv >>> ((4 : Int32) &&& 31)) 101 (by decide)) (gS lwG_in wd_419 wd_420 wd_15 wd_421) rfl 2 (by decide +kernel) rfl ⟨Nat.le_of_ble_eq_true rfl, Nat.le_of_ble_eq_true rfl⟩ rfl hl.1 (Nat.le_of_ble_eq_true rfl) ⟨by show cl + 0 ≤ 744077; omega, by show sl + 0 ≤ 6870016; omega⟩ dL_law_517) h (fun H locs h => ?_)
      refine lv_bipush (v := 50) hx hb dL_law_520 (by decide) ?_
      refine lv_isub hx hb dL_law_522 ?_
      refine lv_iload_n hx hb dL_law_523 rfl (lv_at hl 5 rfl) ?_
      refine lv_bipush (v := 11) hx hb dL_law_524 (by decide) ?_
      refine lv_ishr hx hb dL_law_526 ?_
      refine lv_bipush (v := 101) hx hb dL_law_527 (by decide) ?_
      refine u_iE (v := (lwI (gv >>> ((11 : Int32) &&& 31)) 101)) (ru_S (As := [.int (gv >>> ((11 : Int32) &&& 31)), .int 101]) (rest := [.int ((lwI (gv >>> ((4 : Int32) &&& 31)) 101) - 50), .int (((lwI hv 700) + 1) + (lwI (hv >>> ((10 : Int32) &&& 31)) 100)), .int (lwI hv 700), .ref (gz g + 0)]) F h (k_L_low l g n c (gv >>> ((11 : Int32) &&& 31)) 101 (by decide)) (gS lwG_in wd_419 wd_420 wd_15 wd_421) rfl 2 (by decide +kernel) rfl ⟨Nat.le_of_ble_eq_true rfl, Nat.le_of_ble_eq_true rfl⟩ rfl hl.1 (Nat.le_of_ble_eq_true rfl) ⟨by show cl + 0 ≤ 744077; omega, by show sl + 0 ≤ 6870016; omega⟩ dL_law_529) h (fun H locs h => ?_)
      refine lv_bipush (v := 50) hx hb dL_law_532 (by decide) ?_
      refine lv_isub hx hb dL_law_534 ?_
      have ab := ac_ab (v1 := hv) (v2 := hv >>> ((10 : Int32) &&& 31))
      obtain ⟨ab1, ab2, ab3⟩ := ab
      have hWua1 : Wd g c lh rs R hq := hWd
      refine u_i (ru_V (As := [.int (lwI hv 700), .int (((lwI hv 700) + 1) + (lwI (hv >>> ((10 : Int32) &&& 31)) 100)), .int ((lwI (gv >>> ((4 : Int32) &&& 31)) 101) - 50), .int ((lwI (gv >>> ((11 : Int32) &&& 31)) 101) - 50)]) (rest := []) F h hWd.1 rfl (k_X7_addCurrent l g n c lh 0 rs hWua1.1 R hWua1.2.1 hWua1.2.2.2.2 hq hWua1.2.2.1 J.wb (lwI hv 700) (((lwI hv 700) + 1) + (lwI (hv >>> ((10 : Int32) &&& 31)) 100)) ((lwI (gv >>> ((4 : Int32) &&& 31)) 101) - 50) ((lwI (gv >>> ((11 : Int32) &&& 31)) 101) - 50) sc cn J.s4 J.s5 J.c3 J.c5) (gV lwG_in wd_359 wd_360 wd_361 wd_16 wd_362) rfl 4 (by decide +kernel) rfl ⟨Nat.le_of_ble_eq_true rfl, Nat.le_of_ble_eq_true rfl⟩ rfl hl.1 (Nat.le_of_ble_eq_true rfl) ⟨by show cl + 0 ≤ 744077; omega, by show sl + 0 ≤ 6870016; omega⟩ dL_law_535) h (fun ra1 na1 ca1 H locs hp h => ?_)
      obtain ⟨hna1, hxa1, hWa1, hFa1⟩ := paW hp hWua1 (by omega) (ac_ok J c5f ab1 ab2 ab3 (bt_w (lw_c (n2 := 101) (k2 := 50) (N := 101) (K := 50) rfl rfl (by decide) (by decide) (by decide) (by decide)) (by decide) (by decide)) (bt_w (lw_c (n2 := 101) (k2 := 50) (N := 101) (K := 50) rfl rfl (by decide) (by decide) (by decide) (by decide)) (by decide) (by decide))) (rmL_le (hWua1).2.2.2.2)
      subst hxa1
      have J2 := J.add c5f (x := (lwI hv 700)) (y := (((lwI hv 700) + 1) + (lwI (hv >>> ((10 : Int32) &&& 31)) 100))) (fx := ((lwI (gv >>> ((4 : Int32) &&& 31)) 101) - 50)) (fy := ((lwI (gv >>> ((11 : Int32) &&& 31)) 101) - 50)) ab1 ab2 ab3 (bt_w (lw_c (n2 := 101) (k2 := 50) (N := 101) (K := 50) rfl rfl (by decide) (by decide) (by decide) (by decide)) (by decide) (by decide)) (bt_w (lw_c (n2 := 101) (k2 := 50) (N := 101) (K := 50) rfl rfl (by decide) (by decide) (by decide) (by decide)) (by decide) (by decide))
      refine lv_istore (lv' := [(10, .int (nI cn + 1)), (9, .int (lwI hv 700)), (8, .int (nI cn)), (0, .ref b), (1, .ref (gz g + 0)), (2, .int (nI i1)), (3, .int gv), (4, .int hv)]) hx hb dL_law_538 hl (by decide) rfl (fun ls hl => ?_)
      refine lv_iload_n hx hb dL_law_540 rfl (lv_at hl 6 rfl) ?_
      refine lv_bipush (v := 12) hx hb dL_law_541 (by decide) ?_
      refine lv_iand hx hb dL_law_543 ?_
      refine lv_if_ne (tgt := 562) hx hb dL_law_544 (by decide) (fun b_544 => ?_) (fun b_544 => by first | exact absurd (b_484) b_544 | exact absurd b_544 (b_484))
      refine lv_iload hx hb dL_law_562 (lv_at hl 2 rfl) ?_
      refine lv_iconst (v := 5) hx hb dL_law_564 (by decide) ?_
      refine lv_icmp_ne (tgt := 573) hx hb dL_law_565 (by decide) (fun b_565 => ?_) (fun b_565 => by first | exact absurd (fun z => c5f ((nI_eq (b := 5) (by omega) (by omega)).mp z)) b_565 | exact absurd b_565 (fun z => c5f ((nI_eq (b := 5) (by omega) (by omega)).mp z)))
      refine lv_iload hx hb dL_law_573 (lv_at hl 2 rfl) ?_
      refine lv_iconst (v := 1) hx hb dL_law_575 (by decide) ?_
      refine lv_iadd hx hb dL_law_576 ?_
      refine lv_istore (lv' := [(11, .int ((nI cn) + 1)), (10, .int (nI cn + 1)), (9, .int (lwI hv 700)), (8, .int (nI cn)), (0, .ref b), (1, .ref (gz g + 0)), (2, .int (nI i1)), (3, .int gv), (4, .int hv)]) hx hb dL_law_577 hl (by decide) rfl (fun ls hl => ?_)
      refine lv_iload hx hb dL_law_579 (lv_at hl 1 rfl) ?_
      refine lv_iload hx hb dL_law_581 (lv_at hl 0 rfl) ?_
      refine lv_icmp_ne (tgt := 599) hx hb dL_law_583 (by decide) (fun b_583 => by first | exact absurd b_583 (rfl) | exact absurd (rfl) b_583) (fun b_583 => ?_)
      refine lv_iload hx hb dL_law_586 (lv_at hl 1 rfl) ?_
      refine lv_if_le (tgt := 601) hx hb dL_law_588 (by decide) (fun b_588 => by first | exact absurd b_588 (by rw [nI_1]; exact nI_nle (by omega) (by omega)) | exact absurd (by rw [nI_1]; exact nI_nle (by omega) (by omega)) b_588) (fun b_588 => ?_)
      refine lv_aload_n hx hb dL_law_591 rfl (lv_at hl 5 rfl) ?_
      refine lv_iconst (v := 5) hx hb dL_law_592 (by decide) ?_
      refine u_iE (v := 0) (ru_V (As := [.int 5]) (rest := []) F h hWa1.1 rfl (kw_count l g na1 ca1 hWa1 J2 5 (v := 0) (va_v _ sc)) (gV lwG_in wd_399 wd_400 wd_401 wd_16 wd_402) rfl 1 (by decide +kernel) rfl ⟨Nat.le_of_ble_eq_true rfl, Nat.le_of_ble_eq_true rfl⟩ rfl hl.1 (Nat.le_of_ble_eq_true rfl) ⟨by show cl + 0 ≤ 744077; omega, by show sl + 0 ≤ 6870016; omega⟩ dL_law_593) h (fun H locs h => ?_)
      refine lv_if_eq (tgt := 601) hx hb dL_law_596 (by decide) (fun b_596 => ?_) (fun b_596 => by first | exact absurd (by decide) b_596 | exact absurd b_596 (by decide))
      refine lv_goto (tgt := 868) hx hb dL_law_601 (by decide) ?_
      exact W.widen (by omega) (by omega) (K _ _ _ _ _ h ⟨by omega, _, _, _, _, _, _, hWa1, J2.le (by omega), hs1⟩ (lv_sub hl [4, 5, 6, 7, 8] rfl))
    refine lv_aload_n hx hb dL_law_487 rfl (lv_at hl 3 rfl) ?_
    have hWua2 : Wd g c lh rs R hq := hWd
    refine u_i (ru_V (As := []) (rest := []) F h hWd.1 rfl (k_X7_clearCurrents l g n c lh 0 rs hWua2.1 R hWua2.2.1 hWua2.2.2.2.2 hq hWua2.2.2.1 J.wb  sc J.s4 J.s5) (gV lwG_in wd_373 wd_374 wd_375 wd_16 wd_376) rfl 0 (by decide +kernel) rfl ⟨Nat.le_of_ble_eq_true rfl, Nat.le_of_ble_eq_true rfl⟩ rfl hl.1 (Nat.le_of_ble_eq_true rfl) ⟨by show cl + 0 ≤ 744077; omega, by show sl + 0 ≤ 6870016; omega⟩ dL_law_488) h (fun ra2 na2 ca2 H locs hp h => ?_)
    obtain ⟨hna2, hxa2, hWa2, hFa2⟩ := paW hp hWua2 (by omega) (cc_n J c0) (hWua2).2.2.2.2
    subst hxa2
    refine lv_goto (tgt := 538) hx hb dL_law_491 (by decide) ?_
    refine lv_istore (lv' := [(10, .int (-100005)), (9, .int (lwI hv 700)), (8, .int (nI cn)), (0, .ref b), (1, .ref (gz g + 0)), (2, .int (nI i1)), (3, .int gv), (4, .int hv)]) hx hb dL_law_538 hl (by decide) rfl (fun ls hl => ?_)
    refine lv_iload_n hx hb dL_law_540 rfl (lv_at hl 6 rfl) ?_
    refine lv_bipush (v := 12) hx hb dL_law_541 (by decide) ?_
    refine lv_iand hx hb dL_law_543 ?_
    refine lv_if_ne (tgt := 562) hx hb dL_law_544 (by decide) (fun b_544 => by first | exact absurd b_544 (b_484) | exact absurd (b_484) b_544) (fun b_544 => ?_)
    refine lv_iload hx hb dL_law_547 (lv_at hl 2 rfl) ?_
    refine lv_if_ne (tgt := 557) hx hb dL_law_549 (by decide) (fun b_549 => by first | exact absurd b_549 (by rw [c0]; rfl) | exact absurd (by rw [c0]; rfl) b_549) (fun b_549 => ?_)
    refine lv_ldc (v := (-100005)) hx hb F.2.2.2.1 (F.2.2.2.2.1 (Cond.constant RL 35 (-100005)) (lwG_in _ wd_446)) dL_law_552 ?_
    refine lv_goto (tgt := 577) hx hb dL_law_554 (by decide) ?_
    refine lv_istore (lv' := [(11, .int (-100005)), (10, .int (-100005)), (9, .int (lwI hv 700)), (8, .int (nI cn)), (0, .ref b), (1, .ref (gz g + 0)), (2, .int (nI i1)), (3, .int gv), (4, .int hv)]) hx hb dL_law_577 hl (by decide) rfl (fun ls hl => ?_)
    refine lv_iload hx hb dL_law_579 (lv_at hl 1 rfl) ?_
    refine lv_iload hx hb dL_law_581 (lv_at hl 0 rfl) ?_
    refine lv_icmp_ne (tgt := 599) hx hb dL_law_583 (by decide) (fun b_583 => by first | exact absurd b_583 (rfl) | exact absurd (rfl) b_583) (fun b_583 => ?_)
    refine lv_iload hx hb dL_law_586 (lv_at hl 1 rfl) ?_
    refine lv_if_le (tgt := 601) hx hb dL_law_588 (by decide) (fun b_588 => ?_) (fun b_588 => by first | exact absurd (by decide) b_588 | exact absurd b_588 (by decide))
    refine lv_goto (tgt := 868) hx hb dL_law_601 (by decide) ?_
    exact W.widen (by omega) (by omega) (K _ _ _ _ _ h ⟨by omega, _, _, _, _, _, _, hWa2, J.le (by omega), hs1⟩ (lv_sub hl [4, 5, 6, 7, 8] rfl))
  by_cases c5f : cn = 5
  · skip
    refine lv_aload_n hx hb dL_law_463 rfl (lv_at hl 1 rfl) ?_
    refine lv_iconst (v := 2) hx hb dL_law_464 (by decide) ?_
    refine u_iE (v := (nI cn)) (ru_V (As := [.int 2]) (rest := []) F h hWd.1 rfl (kw_count l g n c hWd J 2 (v := (nI cn)) (J.c3)) (gV lwG_in wd_399 wd_400 wd_401 wd_16 wd_402) rfl 1 (by decide +kernel) rfl ⟨Nat.le_of_ble_eq_true rfl, Nat.le_of_ble_eq_true rfl⟩ rfl hl.1 (Nat.le_of_ble_eq_true rfl) ⟨by show cl + 0 ≤ 744077; omega, by show sl + 0 ≤ 6870016; omega⟩ dL_law_465) h (fun H locs h => ?_)
    refine lv_istore (lv' := [(8, .int (nI cn)), (0, .ref b), (1, .ref (gz g + 0)), (2, .int (nI i1)), (3, .int gv), (4, .int hv)]) hx hb dL_law_468 hl (by decide) rfl (fun ls hl => ?_)
    refine lv_iload hx hb dL_law_470 (lv_at hl 5 rfl) ?_
    refine lv_sipush (v := 700) hx hb dL_law_472 (by decide) ?_
    refine u_iE (v := (lwI hv 700)) (ru_S (As := [.int hv, .int 700]) (rest := []) F h (k_L_low l g n c hv 700 (by decide)) (gS lwG_in wd_419 wd_420 wd_15 wd_421) rfl 2 (by decide +kernel) rfl ⟨Nat.le_of_ble_eq_true rfl, Nat.le_of_ble_eq_true rfl⟩ rfl hl.1 (Nat.le_of_ble_eq_true rfl) ⟨by show cl + 0 ≤ 744077; omega, by show sl + 0 ≤ 6870016; omega⟩ dL_law_475) h (fun H locs h => ?_)
    refine lv_istore (lv' := [(9, .int (lwI hv 700)), (8, .int (nI cn)), (0, .ref b), (1, .ref (gz g + 0)), (2, .int (nI i1)), (3, .int gv), (4, .int hv)]) hx hb dL_law_478 hl (by decide) rfl (fun ls hl => ?_)
    refine lv_iload_n hx hb dL_law_480 rfl (lv_at hl 5 rfl) ?_
    refine lv_bipush (v := 12) hx hb dL_law_481 (by decide) ?_
    refine lv_iand hx hb dL_law_483 ?_
    refine lv_if_ne (tgt := 494) hx hb dL_law_484 (by decide) (fun b_484 => ?_) (fun b_484 => ?_)
    · skip
      refine lv_aload_n hx hb dL_law_494 rfl (lv_at hl 3 rfl) ?_
      refine lv_iload hx hb dL_law_495 (lv_at hl 0 rfl) ?_
      refine lv_iload hx hb dL_law_497 (lv_at hl 0 rfl) ?_
      refine lv_iconst (v := 1) hx hb dL_law_499 (by decide) ?_
      refine lv_iadd hx hb dL_law_500 ?_
      refine lv_iload hx hb dL_law_501 (lv_at hl 6 rfl) ?_
      refine lv_bipush (v := 10) hx hb dL_law_503 (by decide) ?_
      refine lv_ishr hx hb dL_law_505 ?_
      refine lv_bipush (v := 100) hx hb dL_law_506 (by decide) ?_
      refine u_iE (v := (lwI (hv >>> ((10 : Int32) &&& 31)) 100)) (ru_S (As := [.int (hv >>> ((10 : Int32) &&& 31)), .int 100]) (rest := [.int ((lwI hv 700) + 1), .int (lwI hv 700), .ref (gz g + 0)]) F h (k_L_low l g n c (hv >>> ((10 : Int32) &&& 31)) 100 (by decide)) (gS lwG_in wd_419 wd_420 wd_15 wd_421) rfl 2 (by decide +kernel) rfl ⟨Nat.le_of_ble_eq_true rfl, Nat.le_of_ble_eq_true rfl⟩ rfl hl.1 (Nat.le_of_ble_eq_true rfl) ⟨by show cl + 0 ≤ 744077; omega, by show sl + 0 ≤ 6870016; omega⟩ dL_law_508) h (fun H locs h => ?_)
      refine lv_iadd hx hb dL_law_511 ?_
      refine lv_iload_n hx hb dL_law_512 rfl (lv_at hl 5 rfl) ?_
      refine lv_iconst (v := 4) hx hb dL_law_513 (by decide) ?_
      refine lv_ishr hx hb dL_law_514 ?_
      refine lv_bipush (v := 101) hx hb dL_law_515 (by decide) ?_
      refine u_iE (v := (lwI (gv >>> ((4 : Int32) &&& 31)) 101)) (ru_S (As := [.int (gv >>> ((4 : Int32) &&& 31)), .int 101]) (rest := [.int (((lwI hv 700) + 1) + (lwI (hv >>> ((10 : Int32) &&& 31)) 100)), .int (lwI hv 700), .ref (gz g + 0)]) F h (k_L_low l g n c (gv >>> ((4 : Int32) &&& 31)) 101 (by decide)) (gS lwG_in wd_419 wd_420 wd_15 wd_421) rfl 2 (by decide +kernel) rfl ⟨Nat.le_of_ble_eq_true rfl, Nat.le_of_ble_eq_true rfl⟩ rfl hl.1 (Nat.le_of_ble_eq_true rfl) ⟨by show cl + 0 ≤ 744077; omega, by show sl + 0 ≤ 6870016; omega⟩ dL_law_517) h (fun H locs h => ?_)
      refine lv_bipush (v := 50) hx hb dL_law_520 (by decide) ?_
      refine lv_isub hx hb dL_law_522 ?_
      refine lv_iload_n hx hb dL_law_523 rfl (lv_at hl 5 rfl) ?_
      refine lv_bipush (v := 11) hx hb dL_law_524 (by decide) ?_
      refine lv_ishr hx hb dL_law_526 ?_
      refine lv_bipush (v := 101) hx hb dL_law_527 (by decide) ?_
      refine u_iE (v := (lwI (gv >>> ((11 : Int32) &&& 31)) 101)) (ru_S (As := [.int (gv >>> ((11 : Int32) &&& 31)), .int 101]) (rest := [.int ((lwI (gv >>> ((4 : Int32) &&& 31)) 101) - 50), .int (((lwI hv 700) + 1) + (lwI (hv >>> ((10 : Int32) &&& 31)) 100)), .int (lwI hv 700), .ref (gz g + 0)]) F h (k_L_low l g n c (gv >>> ((11 : Int32) &&& 31)) 101 (by decide)) (gS lwG_in wd_419 wd_420 wd_15 wd_421) rfl 2 (by decide +kernel) rfl ⟨Nat.le_of_ble_eq_true rfl, Nat.le_of_ble_eq_true rfl⟩ rfl hl.1 (Nat.le_of_ble_eq_true rfl) ⟨by show cl + 0 ≤ 744077; omega, by show sl + 0 ≤ 6870016; omega⟩ dL_law_529) h (fun H locs h => ?_)
      refine lv_bipush (v := 50) hx hb dL_law_532 (by decide) ?_
      refine lv_isub hx hb dL_law_534 ?_
      have ab := ac_ab (v1 := hv) (v2 := hv >>> ((10 : Int32) &&& 31))
      obtain ⟨ab1, ab2, ab3⟩ := ab
      have hWua3 : Wd g c lh rs R hq := hWd
      refine u_i (ru_V (As := [.int (lwI hv 700), .int (((lwI hv 700) + 1) + (lwI (hv >>> ((10 : Int32) &&& 31)) 100)), .int ((lwI (gv >>> ((4 : Int32) &&& 31)) 101) - 50), .int ((lwI (gv >>> ((11 : Int32) &&& 31)) 101) - 50)]) (rest := []) F h hWd.1 rfl (k_X7_addCurrent l g n c lh 0 rs hWua3.1 R hWua3.2.1 hWua3.2.2.2.2 hq hWua3.2.2.1 J.wb (lwI hv 700) (((lwI hv 700) + 1) + (lwI (hv >>> ((10 : Int32) &&& 31)) 100)) ((lwI (gv >>> ((4 : Int32) &&& 31)) 101) - 50) ((lwI (gv >>> ((11 : Int32) &&& 31)) 101) - 50) sc cn J.s4 J.s5 J.c3 J.c5) (gV lwG_in wd_359 wd_360 wd_361 wd_16 wd_362) rfl 4 (by decide +kernel) rfl ⟨Nat.le_of_ble_eq_true rfl, Nat.le_of_ble_eq_true rfl⟩ rfl hl.1 (Nat.le_of_ble_eq_true rfl) ⟨by show cl + 0 ≤ 744077; omega, by show sl + 0 ≤ 6870016; omega⟩ dL_law_535) h (fun ra3 na3 ca3 H locs hp h => ?_)
      obtain ⟨hna3, hxa3, hWa3, hFa3⟩ := paW hp hWua3 (by omega) (ac_f J c5f ab1 ab2 ab3 (bt_w (lw_c (n2 := 101) (k2 := 50) (N := 101) (K := 50) rfl rfl (by decide) (by decide) (by decide) (by decide)) (by decide) (by decide)) (bt_w (lw_c (n2 := 101) (k2 := 50) (N := 101) (K := 50) rfl rfl (by decide) (by decide) (by decide) (by decide)) (by decide) (by decide))) (hWua3).2.2.2.2
      subst hxa3
      refine lv_istore (lv' := [(10, .int (-100004)), (9, .int (lwI hv 700)), (8, .int (nI cn)), (0, .ref b), (1, .ref (gz g + 0)), (2, .int (nI i1)), (3, .int gv), (4, .int hv)]) hx hb dL_law_538 hl (by decide) rfl (fun ls hl => ?_)
      refine lv_iload_n hx hb dL_law_540 rfl (lv_at hl 6 rfl) ?_
      refine lv_bipush (v := 12) hx hb dL_law_541 (by decide) ?_
      refine lv_iand hx hb dL_law_543 ?_
      refine lv_if_ne (tgt := 562) hx hb dL_law_544 (by decide) (fun b_544 => ?_) (fun b_544 => by first | exact absurd (b_484) b_544 | exact absurd b_544 (b_484))
      refine lv_iload hx hb dL_law_562 (lv_at hl 2 rfl) ?_
      refine lv_iconst (v := 5) hx hb dL_law_564 (by decide) ?_
      refine lv_icmp_ne (tgt := 573) hx hb dL_law_565 (by decide) (fun b_565 => by first | exact absurd b_565 (by rw [c5f]; rfl) | exact absurd (by rw [c5f]; rfl) b_565) (fun b_565 => ?_)
      refine lv_ldc (v := (-100004)) hx hb F.2.2.2.1 (F.2.2.2.2.1 (Cond.constant RL 125 (-100004)) (lwG_in _ wd_698)) dL_law_568 ?_
      refine lv_goto (tgt := 577) hx hb dL_law_570 (by decide) ?_
      refine lv_istore (lv' := [(11, .int (-100004)), (10, .int (-100004)), (9, .int (lwI hv 700)), (8, .int (nI cn)), (0, .ref b), (1, .ref (gz g + 0)), (2, .int (nI i1)), (3, .int gv), (4, .int hv)]) hx hb dL_law_577 hl (by decide) rfl (fun ls hl => ?_)
      refine lv_iload hx hb dL_law_579 (lv_at hl 1 rfl) ?_
      refine lv_iload hx hb dL_law_581 (lv_at hl 0 rfl) ?_
      refine lv_icmp_ne (tgt := 599) hx hb dL_law_583 (by decide) (fun b_583 => by first | exact absurd b_583 (rfl) | exact absurd (rfl) b_583) (fun b_583 => ?_)
      refine lv_iload hx hb dL_law_586 (lv_at hl 1 rfl) ?_
      refine lv_if_le (tgt := 601) hx hb dL_law_588 (by decide) (fun b_588 => ?_) (fun b_588 => by first | exact absurd (by decide) b_588 | exact absurd b_588 (by decide))
      refine lv_goto (tgt := 868) hx hb dL_law_601 (by decide) ?_
      exact W.widen (by omega) (by omega) (K _ _ _ _ _ h ⟨by omega, _, _, _, _, _, _, hWa3, J.le (by omega), hs1⟩ (lv_sub hl [4, 5, 6, 7, 8] rfl))
    refine lv_aload_n hx hb dL_law_487 rfl (lv_at hl 3 rfl) ?_
    have hWua4 : Wd g c lh rs R hq := hWd
    refine u_i (ru_V (As := []) (rest := []) F h hWd.1 rfl (k_X7_clearCurrents l g n c lh 0 rs hWua4.1 R hWua4.2.1 hWua4.2.2.2.2 hq hWua4.2.2.1 J.wb  sc J.s4 J.s5) (gV lwG_in wd_373 wd_374 wd_375 wd_16 wd_376) rfl 0 (by decide +kernel) rfl ⟨Nat.le_of_ble_eq_true rfl, Nat.le_of_ble_eq_true rfl⟩ rfl hl.1 (Nat.le_of_ble_eq_true rfl) ⟨by show cl + 0 ≤ 744077; omega, by show sl + 0 ≤ 6870016; omega⟩ dL_law_488) h (fun ra4 na4 ca4 H locs hp h => ?_)
    obtain ⟨hna4, hxa4, hWa4, hFa4⟩ := paW hp hWua4 (by omega) (cc_ok J c0) (rmL_le (hWua4).2.2.2.2)
    subst hxa4
    have J2 := J.clear c0
    refine lv_goto (tgt := 538) hx hb dL_law_491 (by decide) ?_
    refine lv_istore (lv' := [(10, .int (nI cn)), (9, .int (lwI hv 700)), (8, .int (nI cn)), (0, .ref b), (1, .ref (gz g + 0)), (2, .int (nI i1)), (3, .int gv), (4, .int hv)]) hx hb dL_law_538 hl (by decide) rfl (fun ls hl => ?_)
    refine lv_iload_n hx hb dL_law_540 rfl (lv_at hl 6 rfl) ?_
    refine lv_bipush (v := 12) hx hb dL_law_541 (by decide) ?_
    refine lv_iand hx hb dL_law_543 ?_
    refine lv_if_ne (tgt := 562) hx hb dL_law_544 (by decide) (fun b_544 => by first | exact absurd b_544 (b_484) | exact absurd (b_484) b_544) (fun b_544 => ?_)
    refine lv_iload hx hb dL_law_547 (lv_at hl 2 rfl) ?_
    refine lv_if_ne (tgt := 557) hx hb dL_law_549 (by decide) (fun b_549 => ?_) (fun b_549 => by first | exact absurd (nI_ne0 (by omega) (by omega)) b_549 | exact absurd b_549 (nI_ne0 (by omega) (by omega)))
    refine lv_iload hx hb dL_law_557 (lv_at hl 2 rfl) ?_
    refine lv_goto (tgt := 577) hx hb dL_law_559 (by decide) ?_
    refine lv_istore (lv' := [(11, .int (nI cn)), (10, .int (nI cn)), (9, .int (lwI hv 700)), (8, .int (nI cn)), (0, .ref b), (1, .ref (gz g + 0)), (2, .int (nI i1)), (3, .int gv), (4, .int hv)]) hx hb dL_law_577 hl (by decide) rfl (fun ls hl => ?_)
    refine lv_iload hx hb dL_law_579 (lv_at hl 1 rfl) ?_
    refine lv_iload hx hb dL_law_581 (lv_at hl 0 rfl) ?_
    refine lv_icmp_ne (tgt := 599) hx hb dL_law_583 (by decide) (fun b_583 => by first | exact absurd b_583 (rfl) | exact absurd (rfl) b_583) (fun b_583 => ?_)
    refine lv_iload hx hb dL_law_586 (lv_at hl 1 rfl) ?_
    refine lv_if_le (tgt := 601) hx hb dL_law_588 (by decide) (fun b_588 => by first | exact absurd b_588 (nI_nle (by omega) (by omega)) | exact absurd (nI_nle (by omega) (by omega)) b_588) (fun b_588 => ?_)
    refine lv_aload_n hx hb dL_law_591 rfl (lv_at hl 5 rfl) ?_
    refine lv_iconst (v := 5) hx hb dL_law_592 (by decide) ?_
    refine u_iE (v := 0) (ru_V (As := [.int 5]) (rest := []) F h hWa4.1 rfl (kw_count l g na4 ca4 hWa4 J2 5 (v := 0) (va_v _ sc)) (gV lwG_in wd_399 wd_400 wd_401 wd_16 wd_402) rfl 1 (by decide +kernel) rfl ⟨Nat.le_of_ble_eq_true rfl, Nat.le_of_ble_eq_true rfl⟩ rfl hl.1 (Nat.le_of_ble_eq_true rfl) ⟨by show cl + 0 ≤ 744077; omega, by show sl + 0 ≤ 6870016; omega⟩ dL_law_593) h (fun H locs h => ?_)
    refine lv_if_eq (tgt := 601) hx hb dL_law_596 (by decide) (fun b_596 => ?_) (fun b_596 => by first | exact absurd (by decide) b_596 | exact absurd b_596 (by decide))
    refine lv_goto (tgt := 868) hx hb dL_law_601 (by decide) ?_
    exact W.widen (by omega) (by omega) (K _ _ _ _ _ h ⟨by omega, _, _, _, _, _, _, hWa4, J2.le (by omega), hs1⟩ (lv_sub hl [4, 5, 6, 7, 8] rfl))
  refine lv_aload_n hx hb dL_law_463 rfl (lv_at hl 1 rfl) ?_
  refine lv_iconst (v := 2) hx hb dL_law_464 (by decide) ?_
  refine u_iE (v := (nI cn)) (ru_V (As := [.int 2]) (rest := []) F h hWd.1 rfl (kw_count l g n c hWd J 2 (v := (nI cn)) (J.c3)) (gV lwG_in wd_399 wd_400 wd_401 wd_16 wd_402) rfl 1 (by decide +kernel) rfl ⟨Nat.le_of_ble_eq_true rfl, Nat.le_of_ble_eq_true rfl⟩ rfl hl.1 (Nat.le_of_ble_eq_true rfl) ⟨by show cl + 0 ≤ 744077; omega, by show sl + 0 ≤ 6870016; omega⟩ dL_law_465) h (fun H locs h => ?_)
  refine lv_istore (lv' := [(8, .int (nI cn)), (0, .ref b), (1, .ref (gz g + 0)), (2, .int (nI i1)), (3, .int gv), (4, .int hv)]) hx hb dL_law_468 hl (by decide) rfl (fun ls hl => ?_)
  refine lv_iload hx hb dL_law_470 (lv_at hl 5 rfl) ?_
  refine lv_sipush (v := 700) hx hb dL_law_472 (by decide) ?_
  refine u_iE (v := (lwI hv 700)) (ru_S (As := [.int hv, .int 700]) (rest := []) F h (k_L_low l g n c hv 700 (by decide)) (gS lwG_in wd_419 wd_420 wd_15 wd_421) rfl 2 (by decide +kernel) rfl ⟨Nat.le_of_ble_eq_true rfl, Nat.le_of_ble_eq_true rfl⟩ rfl hl.1 (Nat.le_of_ble_eq_true rfl) ⟨by show cl + 0 ≤ 744077; omega, by show sl + 0 ≤ 6870016; omega⟩ dL_law_475) h (fun H locs h => ?_)
  refine lv_istore (lv' := [(9, .int (lwI hv 700)), (8, .int (nI cn)), (0, .ref b), (1, .ref (gz g + 0)), (2, .int (nI i1)), (3, .int gv), (4, .int hv)]) hx hb dL_law_478 hl (by decide) rfl (fun ls hl => ?_)
  refine lv_iload_n hx hb dL_law_480 rfl (lv_at hl 5 rfl) ?_
  refine lv_bipush (v := 12) hx hb dL_law_481 (by decide) ?_
  refine lv_iand hx hb dL_law_483 ?_
  refine lv_if_ne (tgt := 494) hx hb dL_law_484 (by decide) (fun b_484 => ?_) (fun b_484 => ?_)
  · skip
    refine lv_aload_n hx hb dL_law_494 rfl (lv_at hl 3 rfl) ?_
    refine lv_iload hx hb dL_law_495 (lv_at hl 0 rfl) ?_
    refine lv_iload hx hb dL_law_497 (lv_at hl 0 rfl) ?_
    refine lv_iconst (v := 1) hx hb dL_law_499 (by decide) ?_
    refine lv_iadd hx hb dL_law_500 ?_
    refine lv_iload hx hb dL_law_501 (lv_at hl 6 rfl) ?_
    refine lv_bipush (v := 10) hx hb dL_law_503 (by decide) ?_
    refine lv_ishr hx hb dL_law_505 ?_
    refine lv_bipush (v := 100) hx hb dL_law_506 (by decide) ?_
    refine u_iE (v := (lwI (hv >>> ((10 : Int32) &&& 31)) 100)) (ru_S (As := [.int (hv >>> ((10 : Int32) &&& 31)), .int 100]) (rest := [.int ((lwI hv 700) + 1), .int (lwI hv 700), .ref (gz g + 0)]) F h (k_L_low l g n c (hv >>> ((10 : Int32) &&& 31)) 100 (by decide)) (gS lwG_in wd_419 wd_420 wd_15 wd_421) rfl 2 (by decide +kernel) rfl ⟨Nat.le_of_ble_eq_true rfl, Nat.le_of_ble_eq_true rfl⟩ rfl hl.1 (Nat.le_of_ble_eq_true rfl) ⟨by show cl + 0 ≤ 744077; omega, by show sl + 0 ≤ 6870016; omega⟩ dL_law_508) h (fun H locs h => ?_)
    refine lv_iadd hx hb dL_law_511 ?_
    refine lv_iload_n hx hb dL_law_512 rfl (lv_at hl 5 rfl) ?_
    refine lv_iconst (v := 4) hx hb dL_law_513 (by decide) ?_
    refine lv_ishr hx hb dL_law_514 ?_
    refine lv_bipush (v := 101) hx hb dL_law_515 (by decide) ?_
    refine u_iE (v := (lwI (gv >>> ((4 : Int32) &&& 31)) 101)) (ru_S (As := [.int (gv >>> ((4 : Int32) &&& 31)), .int 101]) (rest := [.int (((lwI hv 700) + 1) + (lwI (hv >>> ((10 : Int32) &&& 31)) 100)), .int (lwI hv 700), .ref (gz g + 0)]) F h (k_L_low l g n c (gv >>> ((4 : Int32) &&& 31)) 101 (by decide)) (gS lwG_in wd_419 wd_420 wd_15 wd_421) rfl 2 (by decide +kernel) rfl ⟨Nat.le_of_ble_eq_true rfl, Nat.le_of_ble_eq_true rfl⟩ rfl hl.1 (Nat.le_of_ble_eq_true rfl) ⟨by show cl + 0 ≤ 744077; omega, by show sl + 0 ≤ 6870016; omega⟩ dL_law_517) h (fun H locs h => ?_)
    refine lv_bipush (v := 50) hx hb dL_law_520 (by decide) ?_
    refine lv_isub hx hb dL_law_522 ?_
    refine lv_iload_n hx hb dL_law_523 rfl (lv_at hl 5 rfl) ?_
    refine lv_bipush (v := 11) hx hb dL_law_524 (by decide) ?_
    refine lv_ishr hx hb dL_law_526 ?_
    refine lv_bipush (v := 101) hx hb dL_law_527 (by decide) ?_
    refine u_iE (v := (lwI (gv >>> ((11 : Int32) &&& 31)) 101)) (ru_S (As := [.int (gv >>> ((11 : Int32) &&& 31)), .int 101]) (rest := [.int ((lwI (gv >>> ((4 : Int32) &&& 31)) 101) - 50), .int (((lwI hv 700) + 1) + (lwI (hv >>> ((10 : Int32) &&& 31)) 100)), .int (lwI hv 700), .ref (gz g + 0)]) F h (k_L_low l g n c (gv >>> ((11 : Int32) &&& 31)) 101 (by decide)) (gS lwG_in wd_419 wd_420 wd_15 wd_421) rfl 2 (by decide +kernel) rfl ⟨Nat.le_of_ble_eq_true rfl, Nat.le_of_ble_eq_true rfl⟩ rfl hl.1 (Nat.le_of_ble_eq_true rfl) ⟨by show cl + 0 ≤ 744077; omega, by show sl + 0 ≤ 6870016; omega⟩ dL_law_529) h (fun H locs h => ?_)
    refine lv_bipush (v := 50) hx hb dL_law_532 (by decide) ?_
    refine lv_isub hx hb dL_law_534 ?_
    have ab := ac_ab (v1 := hv) (v2 := hv >>> ((10 : Int32) &&& 31))
    obtain ⟨ab1, ab2, ab3⟩ := ab
    have hWua5 : Wd g c lh rs R hq := hWd
    refine u_i (ru_V (As := [.int (lwI hv 700), .int (((lwI hv 700) + 1) + (lwI (hv >>> ((10 : Int32) &&& 31)) 100)), .int ((lwI (gv >>> ((4 : Int32) &&& 31)) 101) - 50), .int ((lwI (gv >>> ((11 : Int32) &&& 31)) 101) - 50)]) (rest := []) F h hWd.1 rfl (k_X7_addCurrent l g n c lh 0 rs hWua5.1 R hWua5.2.1 hWua5.2.2.2.2 hq hWua5.2.2.1 J.wb (lwI hv 700) (((lwI hv 700) + 1) + (lwI (hv >>> ((10 : Int32) &&& 31)) 100)) ((lwI (gv >>> ((4 : Int32) &&& 31)) 101) - 50) ((lwI (gv >>> ((11 : Int32) &&& 31)) 101) - 50) sc cn J.s4 J.s5 J.c3 J.c5) (gV lwG_in wd_359 wd_360 wd_361 wd_16 wd_362) rfl 4 (by decide +kernel) rfl ⟨Nat.le_of_ble_eq_true rfl, Nat.le_of_ble_eq_true rfl⟩ rfl hl.1 (Nat.le_of_ble_eq_true rfl) ⟨by show cl + 0 ≤ 744077; omega, by show sl + 0 ≤ 6870016; omega⟩ dL_law_535) h (fun ra5 na5 ca5 H locs hp h => ?_)
    obtain ⟨hna5, hxa5, hWa5, hFa5⟩ := paW hp hWua5 (by omega) (ac_ok J c5f ab1 ab2 ab3 (bt_w (lw_c (n2 := 101) (k2 := 50) (N := 101) (K := 50) rfl rfl (by decide) (by decide) (by decide) (by decide)) (by decide) (by decide)) (bt_w (lw_c (n2 := 101) (k2 := 50) (N := 101) (K := 50) rfl rfl (by decide) (by decide) (by decide) (by decide)) (by decide) (by decide))) (rmL_le (hWua5).2.2.2.2)
    subst hxa5
    have J2 := J.add c5f (x := (lwI hv 700)) (y := (((lwI hv 700) + 1) + (lwI (hv >>> ((10 : Int32) &&& 31)) 100))) (fx := ((lwI (gv >>> ((4 : Int32) &&& 31)) 101) - 50)) (fy := ((lwI (gv >>> ((11 : Int32) &&& 31)) 101) - 50)) ab1 ab2 ab3 (bt_w (lw_c (n2 := 101) (k2 := 50) (N := 101) (K := 50) rfl rfl (by decide) (by decide) (by decide) (by decide)) (by decide) (by decide)) (bt_w (lw_c (n2 := 101) (k2 := 50) (N := 101) (K := 50) rfl rfl (by decide) (by decide) (by decide) (by decide)) (by decide) (by decide))
    refine lv_istore (lv' := [(10, .int (nI cn + 1)), (9, .int (lwI hv 700)), (8, .int (nI cn)), (0, .ref b), (1, .ref (gz g + 0)), (2, .int (nI i1)), (3, .int gv), (4, .int hv)]) hx hb dL_law_538 hl (by decide) rfl (fun ls hl => ?_)
    refine lv_iload_n hx hb dL_law_540 rfl (lv_at hl 6 rfl) ?_
    refine lv_bipush (v := 12) hx hb dL_law_541 (by decide) ?_
    refine lv_iand hx hb dL_law_543 ?_
    refine lv_if_ne (tgt := 562) hx hb dL_law_544 (by decide) (fun b_544 => ?_) (fun b_544 => by first | exact absurd (b_484) b_544 | exact absurd b_544 (b_484))
    refine lv_iload hx hb dL_law_562 (lv_at hl 2 rfl) ?_
    refine lv_iconst (v := 5) hx hb dL_law_564 (by decide) ?_
    refine lv_icmp_ne (tgt := 573) hx hb dL_law_565 (by decide) (fun b_565 => ?_) (fun b_565 => by first | exact absurd (fun z => c5f ((nI_eq (b := 5) (by omega) (by omega)).mp z)) b_565 | exact absurd b_565 (fun z => c5f ((nI_eq (b := 5) (by omega) (by omega)).mp z)))
    refine lv_iload hx hb dL_law_573 (lv_at hl 2 rfl) ?_
    refine lv_iconst (v := 1) hx hb dL_law_575 (by decide) ?_
    refine lv_iadd hx hb dL_law_576 ?_
    refine lv_istore (lv' := [(11, .int ((nI cn) + 1)), (10, .int (nI cn + 1)), (9, .int (lwI hv 700)), (8, .int (nI cn)), (0, .ref b), (1, .ref (gz g + 0)), (2, .int (nI i1)), (3, .int gv), (4, .int hv)]) hx hb dL_law_577 hl (by decide) rfl (fun ls hl => ?_)
    refine lv_iload hx hb dL_law_579 (lv_at hl 1 rfl) ?_
    refine lv_iload hx hb dL_law_581 (lv_at hl 0 rfl) ?_
    refine lv_icmp_ne (tgt := 599) hx hb dL_law_583 (by decide) (fun b_583 => by first | exact absurd b_583 (rfl) | exact absurd (rfl) b_583) (fun b_583 => ?_)
    refine lv_iload hx hb dL_law_586 (lv_at hl 1 rfl) ?_
    refine lv_if_le (tgt := 601) hx hb dL_law_588 (by decide) (fun b_588 => by first | exact absurd b_588 (by rw [nI_1]; exact nI_nle (by omega) (by omega)) | exact absurd (by rw [nI_1]; exact nI_nle (by omega) (by omega)) b_588) (fun b_588 => ?_)
    refine lv_aload_n hx hb dL_law_591 rfl (lv_at hl 5 rfl) ?_
    refine lv_iconst (v := 5) hx hb dL_law_592 (by decide) ?_
    refine u_iE (v := 0) (ru_V (As := [.int 5]) (rest := []) F h hWa5.1 rfl (kw_count l g na5 ca5 hWa5 J2 5 (v := 0) (va_v _ sc)) (gV lwG_in wd_399 wd_400 wd_401 wd_16 wd_402) rfl 1 (by decide +kernel) rfl ⟨Nat.le_of_ble_eq_true rfl, Nat.le_of_ble_eq_true rfl⟩ rfl hl.1 (Nat.le_of_ble_eq_true rfl) ⟨by show cl + 0 ≤ 744077; omega, by show sl + 0 ≤ 6870016; omega⟩ dL_law_593) h (fun H locs h => ?_)
    refine lv_if_eq (tgt := 601) hx hb dL_law_596 (by decide) (fun b_596 => ?_) (fun b_596 => by first | exact absurd (by decide) b_596 | exact absurd b_596 (by decide))
    refine lv_goto (tgt := 868) hx hb dL_law_601 (by decide) ?_
    exact W.widen (by omega) (by omega) (K _ _ _ _ _ h ⟨by omega, _, _, _, _, _, _, hWa5, J2.le (by omega), hs1⟩ (lv_sub hl [4, 5, 6, 7, 8] rfl))
  refine lv_aload_n hx hb dL_law_487 rfl (lv_at hl 3 rfl) ?_
  have hWua6 : Wd g c lh rs R hq := hWd
  refine u_i (ru_V (As := []) (rest := []) F h hWd.1 rfl (k_X7_clearCurrents l g n c lh 0 rs hWua6.1 R hWua6.2.1 hWua6.2.2.2.2 hq hWua6.2.2.1 J.wb  sc J.s4 J.s5) (gV lwG_in wd_373 wd_374 wd_375 wd_16 wd_376) rfl 0 (by decide +kernel) rfl ⟨Nat.le_of_ble_eq_true rfl, Nat.le_of_ble_eq_true rfl⟩ rfl hl.1 (Nat.le_of_ble_eq_true rfl) ⟨by show cl + 0 ≤ 744077; omega, by show sl + 0 ≤ 6870016; omega⟩ dL_law_488) h (fun ra6 na6 ca6 H locs hp h => ?_)
  obtain ⟨hna6, hxa6, hWa6, hFa6⟩ := paW hp hWua6 (by omega) (cc_ok J c0) (rmL_le (hWua6).2.2.2.2)
  subst hxa6
  have J2 := J.clear c0
  refine lv_goto (tgt := 538) hx hb dL_law_491 (by decide) ?_
  refine lv_istore (lv' := [(10, .int (nI cn)), (9, .int (lwI hv 700)), (8, .int (nI cn)), (0, .ref b), (1, .ref (gz g + 0)), (2, .int (nI i1)), (3, .int gv), (4, .int hv)]) hx hb dL_law_538 hl (by decide) rfl (fun ls hl => ?_)
  refine lv_iload_n hx hb dL_law_540 rfl (lv_at hl 6 rfl) ?_
  refine lv_bipush (v := 12) hx hb dL_law_541 (by decide) ?_
  refine lv_iand hx hb dL_law_543 ?_
  refine lv_if_ne (tgt := 562) hx hb dL_law_544 (by decide) (fun b_544 => by first | exact absurd b_544 (b_484) | exact absurd (b_484) b_544) (fun b_544 => ?_)
  refine lv_iload hx hb dL_law_547 (lv_at hl 2 rfl) ?_
  refine lv_if_ne (tgt := 557) hx hb dL_law_549 (by decide) (fun b_549 => ?_) (fun b_549 => by first | exact absurd (nI_ne0 (by omega) (by omega)) b_549 | exact absurd b_549 (nI_ne0 (by omega) (by omega)))
  refine lv_iload hx hb dL_law_557 (lv_at hl 2 rfl) ?_
  refine lv_goto (tgt := 577) hx hb dL_law_559 (by decide) ?_
  refine lv_istore (lv' := [(11, .int (nI cn)), (10, .int (nI cn)), (9, .int (lwI hv 700)), (8, .int (nI cn)), (0, .ref b), (1, .ref (gz g + 0)), (2, .int (nI i1)), (3, .int gv), (4, .int hv)]) hx hb dL_law_577 hl (by decide) rfl (fun ls hl => ?_)
  refine lv_iload hx hb dL_law_579 (lv_at hl 1 rfl) ?_
  refine lv_iload hx hb dL_law_581 (lv_at hl 0 rfl) ?_
  refine lv_icmp_ne (tgt := 599) hx hb dL_law_583 (by decide) (fun b_583 => by first | exact absurd b_583 (rfl) | exact absurd (rfl) b_583) (fun b_583 => ?_)
  refine lv_iload hx hb dL_law_586 (lv_at hl 1 rfl) ?_
  refine lv_if_le (tgt := 601) hx hb dL_law_588 (by decide) (fun b_588 => by first | exact absurd b_588 (nI_nle (by omega) (by omega)) | exact absurd (nI_nle (by omega) (by omega)) b_588) (fun b_588 => ?_)
  refine lv_aload_n hx hb dL_law_591 rfl (lv_at hl 5 rfl) ?_
  refine lv_iconst (v := 5) hx hb dL_law_592 (by decide) ?_
  refine u_iE (v := 0) (ru_V (As := [.int 5]) (rest := []) F h hWa6.1 rfl (kw_count l g na6 ca6 hWa6 J2 5 (v := 0) (va_v _ sc)) (gV lwG_in wd_399 wd_400 wd_401 wd_16 wd_402) rfl 1 (by decide +kernel) rfl ⟨Nat.le_of_ble_eq_true rfl, Nat.le_of_ble_eq_true rfl⟩ rfl hl.1 (Nat.le_of_ble_eq_true rfl) ⟨by show cl + 0 ≤ 744077; omega, by show sl + 0 ≤ 6870016; omega⟩ dL_law_593) h (fun H locs h => ?_)
  refine lv_if_eq (tgt := 601) hx hb dL_law_596 (by decide) (fun b_596 => ?_) (fun b_596 => by first | exact absurd (by decide) b_596 | exact absurd b_596 (by decide))
  refine lv_goto (tgt := 868) hx hb dL_law_601 (by decide) ?_
  exact W.widen (by omega) (by omega) (K _ _ _ _ _ h ⟨by omega, _, _, _, _, _, _, hWa6, J2.le (by omega), hs1⟩ (lv_sub hl [4, 5, 6, 7, 8] rfl))
set_option maxHeartbeats 4000000 in
set_option maxRecDepth 100000 in
theorem lc_station (F : Fx p s m #[Value.ref b] meth c0 code 12 ret RL lw_tbl g meth.name) (h : Hv g s H locs n c) (hWd : Wd g c lh rs R hq) (J : Jv R sc cn tb) (hs1 : 1 ≤ sc) (hn : 352 ≤ n) (ht : tb ≤ 800000000) (i1 : Nat) (gv hv : Int32)  (hl : lv_has ls 12 [(0, .ref b), (1, .ref (gz g + 0)), (2, .int (nI i1)), (3, .int gv), (4, .int hv)]) (hcl : cl + 5 ≤ 744077) (hsl : sl + 14 ≤ 6870016) (K : LK p l e s m below meth c0 b g i1 gv hv (cl + 5) (sl + 14) (tb + 60)) : W p l e room_1 s m #[Value.ref b] below meth c0 H locs cl sl (lw_Z below #[Value.ref b] s) (F0 m 611 ls []) := by
  have hx := F.1
  have hb := F.2.1
  have s5 := J.s5
  have c5 := J.c5
  by_cases s5f : sc = 5
  · skip
    refine lv_aload_n hx hb dL_law_611 rfl (lv_at hl 1 rfl) ?_
    refine lv_iconst (v := 3) hx hb dL_law_612 (by decide) ?_
    refine u_iE (v := (nI sc)) (ru_V (As := [.int 3]) (rest := []) F h hWd.1 rfl (kw_count l g n c hWd J 3 (v := (nI sc)) (J.s4)) (gV lwG_in wd_399 wd_400 wd_401 wd_16 wd_402) rfl 1 (by decide +kernel) rfl ⟨Nat.le_of_ble_eq_true rfl, Nat.le_of_ble_eq_true rfl⟩ rfl hl.1 (Nat.le_of_ble_eq_true rfl) ⟨by show cl + 0 ≤ 744077; omega, by show sl + 0 ≤ 6870016; omega⟩ dL_law_613) h (fun H locs h => ?_)
    refine lv_istore (lv' := [(8, .int (nI sc)), (0, .ref b), (1, .ref (gz g + 0)), (2, .int (nI i1)), (3, .int gv), (4, .int hv)]) hx hb dL_law_616 hl (by decide) rfl (fun ls hl => ?_)
    refine lv_aload_n hx hb dL_law_618 rfl (lv_at hl 2 rfl) ?_
    refine lv_iconst (v := 1) hx hb dL_law_619 (by decide) ?_
    refine lv_iload hx hb dL_law_620 (lv_at hl 5 rfl) ?_
    refine lv_sipush (v := 400) hx hb dL_law_622 (by decide) ?_
    refine u_iE (v := (lwI hv 400)) (ru_S (As := [.int hv, .int 400]) (rest := [.int 1, .ref (gz g + 0)]) F h (k_L_low l g n c hv 400 (by decide)) (gS lwG_in wd_419 wd_420 wd_15 wd_421) rfl 2 (by decide +kernel) rfl ⟨Nat.le_of_ble_eq_true rfl, Nat.le_of_ble_eq_true rfl⟩ rfl hl.1 (Nat.le_of_ble_eq_true rfl) ⟨by show cl + 0 ≤ 744077; omega, by show sl + 0 ≤ 6870016; omega⟩ dL_law_625) h (fun H locs h => ?_)
    refine lv_iadd hx hb dL_law_628 ?_
    refine lv_iload hx hb dL_law_629 (lv_at hl 5 rfl) ?_
    refine lv_bipush (v := 9) hx hb dL_law_631 (by decide) ?_
    refine lv_ishr hx hb dL_law_633 ?_
    refine lv_sipush (v := 8000) hx hb dL_law_634 (by decide) ?_
    refine u_iE (v := (lwI (hv >>> ((9 : Int32) &&& 31)) 8000)) (ru_S (As := [.int (hv >>> ((9 : Int32) &&& 31)), .int 8000]) (rest := [.int (1 + (lwI hv 400)), .ref (gz g + 0)]) F h (k_L_low l g n c (hv >>> ((9 : Int32) &&& 31)) 8000 (by decide)) (gS lwG_in wd_419 wd_420 wd_15 wd_421) rfl 2 (by decide +kernel) rfl ⟨Nat.le_of_ble_eq_true rfl, Nat.le_of_ble_eq_true rfl⟩ rfl hl.1 (Nat.le_of_ble_eq_true rfl) ⟨by show cl + 0 ≤ 744077; omega, by show sl + 0 ≤ 6870016; omega⟩ dL_law_637) h (fun H locs h => ?_)
    have hWua1 : Wd g c lh rs R hq := hWd
    refine u_i (ru_V (As := [.int (1 + (lwI hv 400)), .int (lwI (hv >>> ((9 : Int32) &&& 31)) 8000)]) (rest := []) F h hWd.1 rfl (k_X7_addStation l g n c lh 0 rs hWua1.1 R hWua1.2.1 hWua1.2.2.2.2 hq hWua1.2.2.1 J.wb (1 + (lwI hv 400)) (lwI (hv >>> ((9 : Int32) &&& 31)) 8000) sc J.s4 J.s5) (gV lwG_in wd_378 wd_379 wd_380 wd_16 wd_381) rfl 2 (by decide +kernel) rfl ⟨Nat.le_of_ble_eq_true rfl, Nat.le_of_ble_eq_true rfl⟩ rfl hl.1 (Nat.le_of_ble_eq_true rfl) ⟨by show cl + 0 ≤ 744077; omega, by show sl + 0 ≤ 6870016; omega⟩ dL_law_640) h (fun ra1 na1 ca1 H locs hp h => ?_)
    obtain ⟨hna1, hxa1, hWa1, hFa1⟩ := paW hp hWua1 (by omega) (as_f J s5f (bt_w (lw_p (n2 := 400) (k2 := 1) (N := 400) (K := 1) rfl rfl (by decide) (by decide) (by decide) (by decide)) (by decide) (by decide)) (lw_0 (n2 := 8000) (N := 8000) rfl (by decide))) (hWua1).2.2.2.2
    subst hxa1
    refine lv_iload hx hb dL_law_643 (lv_at hl 0 rfl) ?_
    refine lv_iconst (v := 5) hx hb dL_law_645 (by decide) ?_
    refine lv_icmp_ne (tgt := 654) hx hb dL_law_646 (by decide) (fun b_646 => by first | exact absurd b_646 (by rw [s5f]; rfl) | exact absurd (by rw [s5f]; rfl) b_646) (fun b_646 => ?_)
    refine lv_ldc (v := (-100004)) hx hb F.2.2.2.1 (F.2.2.2.2.1 (Cond.constant RL 125 (-100004)) (lwG_in _ wd_698)) dL_law_649 ?_
    refine lv_goto (tgt := 656) hx hb dL_law_651 (by decide) ?_
    refine lv_icmp_eq (tgt := 661) hx hb dL_law_656 (by decide) (fun b_656 => ?_) (fun b_656 => by first | exact absurd (rfl) b_656 | exact absurd b_656 (rfl))
    refine lv_goto (tgt := 868) hx hb dL_law_661 (by decide) ?_
    exact W.widen (by omega) (by omega) (K _ _ _ _ _ h ⟨by omega, _, _, _, _, _, _, hWa1, J.le (by omega), hs1⟩ (lv_sub hl [1, 2, 3, 4, 5] rfl))
  refine lv_aload_n hx hb dL_law_611 rfl (lv_at hl 1 rfl) ?_
  refine lv_iconst (v := 3) hx hb dL_law_612 (by decide) ?_
  refine u_iE (v := (nI sc)) (ru_V (As := [.int 3]) (rest := []) F h hWd.1 rfl (kw_count l g n c hWd J 3 (v := (nI sc)) (J.s4)) (gV lwG_in wd_399 wd_400 wd_401 wd_16 wd_402) rfl 1 (by decide +kernel) rfl ⟨Nat.le_of_ble_eq_true rfl, Nat.le_of_ble_eq_true rfl⟩ rfl hl.1 (Nat.le_of_ble_eq_true rfl) ⟨by show cl + 0 ≤ 744077; omega, by show sl + 0 ≤ 6870016; omega⟩ dL_law_613) h (fun H locs h => ?_)
  refine lv_istore (lv' := [(8, .int (nI sc)), (0, .ref b), (1, .ref (gz g + 0)), (2, .int (nI i1)), (3, .int gv), (4, .int hv)]) hx hb dL_law_616 hl (by decide) rfl (fun ls hl => ?_)
  refine lv_aload_n hx hb dL_law_618 rfl (lv_at hl 2 rfl) ?_
  refine lv_iconst (v := 1) hx hb dL_law_619 (by decide) ?_
  refine lv_iload hx hb dL_law_620 (lv_at hl 5 rfl) ?_
  refine lv_sipush (v := 400) hx hb dL_law_622 (by decide) ?_
  refine u_iE (v := (lwI hv 400)) (ru_S (As := [.int hv, .int 400]) (rest := [.int 1, .ref (gz g + 0)]) F h (k_L_low l g n c hv 400 (by decide)) (gS lwG_in wd_419 wd_420 wd_15 wd_421) rfl 2 (by decide +kernel) rfl ⟨Nat.le_of_ble_eq_true rfl, Nat.le_of_ble_eq_true rfl⟩ rfl hl.1 (Nat.le_of_ble_eq_true rfl) ⟨by show cl + 0 ≤ 744077; omega, by show sl + 0 ≤ 6870016; omega⟩ dL_law_625) h (fun H locs h => ?_)
  refine lv_iadd hx hb dL_law_628 ?_
  refine lv_iload hx hb dL_law_629 (lv_at hl 5 rfl) ?_
  refine lv_bipush (v := 9) hx hb dL_law_631 (by decide) ?_
  refine lv_ishr hx hb dL_law_633 ?_
  refine lv_sipush (v := 8000) hx hb dL_law_634 (by decide) ?_
  refine u_iE (v := (lwI (hv >>> ((9 : Int32) &&& 31)) 8000)) (ru_S (As := [.int (hv >>> ((9 : Int32) &&& 31)), .int 8000]) (rest := [.int (1 + (lwI hv 400)), .ref (gz g + 0)]) F h (k_L_low l g n c (hv >>> ((9 : Int32) &&& 31)) 8000 (by decide)) (gS lwG_in wd_419 wd_420 wd_15 wd_421) rfl 2 (by decide +kernel) rfl ⟨Nat.le_of_ble_eq_true rfl, Nat.le_of_ble_eq_true rfl⟩ rfl hl.1 (Nat.le_of_ble_eq_true rfl) ⟨by show cl + 0 ≤ 744077; omega, by show sl + 0 ≤ 6870016; omega⟩ dL_law_637) h (fun H locs h => ?_)
  have hWua2 : Wd g c lh rs R hq := hWd
  refine u_i (ru_V (As := [.int (1 + (lwI hv 400)), .int (lwI (hv >>> ((9 : Int32) &&& 31)) 8000)]) (rest := []) F h hWd.1 rfl (k_X7_addStation l g n c lh 0 rs hWua2.1 R hWua2.2.1 hWua2.2.2.2.2 hq hWua2.2.2.1 J.wb (1 + (lwI hv 400)) (lwI (hv >>> ((9 : Int32) &&& 31)) 8000) sc J.s4 J.s5) (gV lwG_in wd_378 wd_379 wd_380 wd_16 wd_381) rfl 2 (by decide +kernel) rfl ⟨Nat.le_of_ble_eq_true rfl, Nat.le_of_ble_eq_true rfl⟩ rfl hl.1 (Nat.le_of_ble_eq_true rfl) ⟨by show cl + 0 ≤ 744077; omega, by show sl + 0 ≤ 6870016; omega⟩ dL_law_640) h (fun ra2 na2 ca2 H locs hp h => ?_)
  obtain ⟨hna2, hxa2, hWa2, hFa2⟩ := paW hp hWua2 (by omega) (as_ok J s5f (bt_w (lw_p (n2 := 400) (k2 := 1) (N := 400) (K := 1) rfl rfl (by decide) (by decide) (by decide) (by decide)) (by decide) (by decide)) (lw_0 (n2 := 8000) (N := 8000) rfl (by decide))) (rmL_le (hWua2).2.2.2.2)
  subst hxa2
  have J2 := J.addS s5f (x := (1 + (lwI hv 400))) (y := (lwI (hv >>> ((9 : Int32) &&& 31)) 8000)) (bt_w (lw_p (n2 := 400) (k2 := 1) (N := 400) (K := 1) rfl rfl (by decide) (by decide) (by decide) (by decide)) (by decide) (by decide)) (lw_0 (n2 := 8000) (N := 8000) rfl (by decide))
  refine lv_iload hx hb dL_law_643 (lv_at hl 0 rfl) ?_
  refine lv_iconst (v := 5) hx hb dL_law_645 (by decide) ?_
  refine lv_icmp_ne (tgt := 654) hx hb dL_law_646 (by decide) (fun b_646 => ?_) (fun b_646 => by first | exact absurd (fun z => s5f ((nI_eq (b := 5) (by omega) (by omega)).mp z)) b_646 | exact absurd b_646 (fun z => s5f ((nI_eq (b := 5) (by omega) (by omega)).mp z)))
  refine lv_iload hx hb dL_law_654 (lv_at hl 0 rfl) ?_
  refine lv_icmp_eq (tgt := 661) hx hb dL_law_656 (by decide) (fun b_656 => ?_) (fun b_656 => by first | exact absurd (rfl) b_656 | exact absurd b_656 (rfl))
  refine lv_goto (tgt := 868) hx hb dL_law_661 (by decide) ?_
  exact W.widen (by omega) (by omega) (K _ _ _ _ _ h ⟨by omega, _, _, _, _, _, _, hWa2, J2.le (by omega), (by omega)⟩ (lv_sub hl [1, 2, 3, 4, 5] rfl))
set_option maxHeartbeats 4000000 in
set_option maxRecDepth 100000 in
theorem lc_pass (F : Fx p s m #[Value.ref b] meth c0 code 12 ret RL lw_tbl g meth.name) (h : Hv g s H locs n c) (hWd : Wd g c lh rs R hq) (J : Jv R sc cn tb) (hs1 : 1 ≤ sc) (hn : 352 ≤ n) (ht : tb ≤ 800000000) (i1 : Nat) (gv hv : Int32)  (hl : lv_has ls 12 [(0, .ref b), (1, .ref (gz g + 0)), (2, .int (nI i1)), (3, .int gv), (4, .int hv)]) (hcl : cl + 5 ≤ 744077) (hsl : sl + 14 ≤ 6870016) (K : LK p l e s m below meth c0 b g i1 gv hv (cl + 5) (sl + 14) (tb + 60)) : W p l e room_1 s m #[Value.ref b] below meth c0 H locs cl sl (lw_Z below #[Value.ref b] s) (F0 m 671 ls []) := by
  have hx := F.1
  have hb := F.2.1
  have s5 := J.s5
  have c5 := J.c5
  refine lv_aload_n hx hb dL_law_671 rfl (lv_at hl 1 rfl) ?_
  refine lv_iconst (v := 1) hx hb dL_law_672 (by decide) ?_
  refine lv_iload hx hb dL_law_673 (lv_at hl 4 rfl) ?_
  refine lv_bipush (v := 60) hx hb dL_law_675 (by decide) ?_
  refine u_iE (v := (lwI hv 60)) (ru_S (As := [.int hv, .int 60]) (rest := [.int 1, .ref (gz g + 0)]) F h (k_L_low l g n c hv 60 (by decide)) (gS lwG_in wd_419 wd_420 wd_15 wd_421) rfl 2 (by decide +kernel) rfl ⟨Nat.le_of_ble_eq_true rfl, Nat.le_of_ble_eq_true rfl⟩ rfl hl.1 (Nat.le_of_ble_eq_true rfl) ⟨by show cl + 0 ≤ 744077; omega, by show sl + 0 ≤ 6870016; omega⟩ dL_law_677) h (fun H locs h => ?_)
  refine lv_iadd hx hb dL_law_680 ?_
  obtain ⟨tz, tz1, tz2, e_tz⟩ := lw_t (v := hv) (m := 60) (by decide) (by decide)
  refine r_top (w := .int (nI tz)) (congrArg Value.int e_tz) ?_
  refine u_i (ru_S (As := [.ref (gz g + 0), .int (nI tz)]) (rest := []) F h (k_L_passes l g n c hWd J tz tz1 tz2 hn (by omega)) (gS lwG_in wd_592 wd_593 wd_15 wd_594) rfl 2 (by decide +kernel) rfl ⟨Nat.le_of_ble_eq_true rfl, Nat.le_of_ble_eq_true rfl⟩ rfl hl.1 (Nat.le_of_ble_eq_true rfl) ⟨by show cl + 2 ≤ 744077; omega, by show sl + 8 ≤ 6870016; omega⟩ dL_law_681) h (fun rz1 nz1 cz1 H locs hp h => ?_)
  obtain ⟨hrz1, hnz1, lhz1, rsz1, Rz1, hqz1, hWz1, Jz1⟩ := hp
  subst hrz1
  refine lv_if_ne (tgt := 868) hx hb dL_law_684 (by decide) (fun b_684 => ?_) (fun b_684 => by first | exact absurd (by decide) b_684 | exact absurd b_684 (by decide))
  exact W.widen (by omega) (by omega) (K _ _ _ _ _ h ⟨by omega, _, _, _, _, _, _, hWz1, Jz1.le (by omega), hs1⟩ (lv_sub hl [0, 1, 2, 3, 4] rfl))
set_option maxHeartbeats 4000000 in
set_option maxRecDepth 100000 in
theorem lc_observe (F : Fx p s m #[Value.ref b] meth c0 code 12 ret RL lw_tbl g meth.name) (h : Hv g s H locs n c) (hWd : Wd g c lh rs R hq) (J : Jv R sc cn tb) (hs1 : 1 ≤ sc) (hn : 352 ≤ n) (ht : tb ≤ 800000000) (i1 : Nat) (gv hv : Int32) (w : Nat) (hw4 : w < 4) (at1 : Nat) (ha1 : at1 < sc) (hl : lv_has ls 12 [(0, .ref b), (1, .ref (gz g + 0)), (2, .int (nI i1)), (3, .int gv), (4, .int hv), (6, .int (nI w)), (7, .int (nI at1))]) (hcl : cl + 5 ≤ 744077) (hsl : sl + 14 ≤ 6870016) (K : LK p l e s m below meth c0 b g i1 gv hv (cl + 5) (sl + 14) (tb + 60)) : W p l e room_1 s m #[Value.ref b] below meth c0 H locs cl sl (lw_Z below #[Value.ref b] s) (F0 m 696 ls []) := by
  have hx := F.1
  have hb := F.2.1
  have s5 := J.s5
  have c5 := J.c5
  refine lv_aload_n hx hb dL_law_696 rfl (lv_at hl 1 rfl) ?_
  refine lv_iload hx hb dL_law_697 (lv_at hl 5 rfl) ?_
  refine lv_iload hx hb dL_law_699 (lv_at hl 6 rfl) ?_
  refine lv_iconst (v := 1) hx hb dL_law_701 (by decide) ?_
  refine lv_iload hx hb dL_law_702 (lv_at hl 4 rfl) ?_
  refine lv_iconst (v := 3) hx hb dL_law_704 (by decide) ?_
  refine lv_ishr hx hb dL_law_705 ?_
  refine lv_iload_n hx hb dL_law_706 rfl (lv_at hl 3 rfl) ?_
  refine lv_iconst (v := 4) hx hb dL_law_707 (by decide) ?_
  refine lv_iand hx hb dL_law_708 ?_
  refine lv_if_ne (tgt := 716) hx hb dL_law_709 (by decide) (fun b_709 => ?_) (fun b_709 => ?_)
  · skip
    refine lv_bipush (v := 60) hx hb dL_law_716 (by decide) ?_
    refine u_iE (v := (lwI (hv >>> ((3 : Int32) &&& 31)) 60)) (ru_S (As := [.int (hv >>> ((3 : Int32) &&& 31)), .int 60]) (rest := [.int 1, .int (nI at1), .int (nI w), .ref (gz g + 0)]) F h (k_L_low l g n c (hv >>> ((3 : Int32) &&& 31)) 60 (by decide)) (gS lwG_in wd_419 wd_420 wd_15 wd_421) rfl 2 (by decide +kernel) rfl ⟨Nat.le_of_ble_eq_true rfl, Nat.le_of_ble_eq_true rfl⟩ rfl hl.1 (Nat.le_of_ble_eq_true rfl) ⟨by show cl + 0 ≤ 744077; omega, by show sl + 0 ≤ 6870016; omega⟩ dL_law_718) h (fun H locs h => ?_)
    refine lv_iadd hx hb dL_law_721 ?_
    obtain ⟨tz, tz1, tz2, e_tz⟩ := (lw_t4 (v := (hv >>> ((3 : Int32) &&& 31))) (m := 60) (by decide) (by decide) (by decide))
    refine r_top (w := .int (nI tz)) (congrArg Value.int e_tz) ?_
    refine u_i (ru_S (As := [.ref (gz g + 0), .int (nI w), .int (nI at1), .int (nI tz)]) (rest := []) F h (k_L_observes l g n c hWd J w at1 tz hw4 ha1 tz1 tz2 hn (by omega)) (gS lwG_in wd_607 wd_608 wd_15 wd_609) rfl 4 (by decide +kernel) rfl ⟨Nat.le_of_ble_eq_true rfl, Nat.le_of_ble_eq_true rfl⟩ rfl hl.1 (Nat.le_of_ble_eq_true rfl) ⟨by show cl + 5 ≤ 744077; omega, by show sl + 14 ≤ 6870016; omega⟩ dL_law_722) h (fun rz1 nz1 cz1 H locs hp h => ?_)
    obtain ⟨hrz1, hnz1, lhz1, rsz1, Rz1, hqz1, hWz1, Jz1⟩ := hp
    subst hrz1
    refine lv_if_ne (tgt := 868) hx hb dL_law_725 (by decide) (fun b_725 => ?_) (fun b_725 => by first | exact absurd (by decide) b_725 | exact absurd b_725 (by decide))
    exact W.widen (by omega) (by omega) (K _ _ _ _ _ h ⟨by omega, _, _, _, _, _, _, hWz1, Jz1.le (by omega), hs1⟩ (lv_sub hl [0, 1, 2, 3, 4] rfl))
  refine lv_iconst (v := 4) hx hb dL_law_712 (by decide) ?_
  refine lv_goto (tgt := 718) hx hb dL_law_713 (by decide) ?_
  refine u_iE (v := (lwI (hv >>> ((3 : Int32) &&& 31)) 4)) (ru_S (As := [.int (hv >>> ((3 : Int32) &&& 31)), .int 4]) (rest := [.int 1, .int (nI at1), .int (nI w), .ref (gz g + 0)]) F h (k_L_low l g n c (hv >>> ((3 : Int32) &&& 31)) 4 (by decide)) (gS lwG_in wd_419 wd_420 wd_15 wd_421) rfl 2 (by decide +kernel) rfl ⟨Nat.le_of_ble_eq_true rfl, Nat.le_of_ble_eq_true rfl⟩ rfl hl.1 (Nat.le_of_ble_eq_true rfl) ⟨by show cl + 0 ≤ 744077; omega, by show sl + 0 ≤ 6870016; omega⟩ dL_law_718) h (fun H locs h => ?_)
  refine lv_iadd hx hb dL_law_721 ?_
  obtain ⟨tz, tz1, tz2, e_tz⟩ := (lw_t4 (v := (hv >>> ((3 : Int32) &&& 31))) (m := 4) (by decide) (by decide) (by decide))
  refine r_top (w := .int (nI tz)) (congrArg Value.int e_tz) ?_
  refine u_i (ru_S (As := [.ref (gz g + 0), .int (nI w), .int (nI at1), .int (nI tz)]) (rest := []) F h (k_L_observes l g n c hWd J w at1 tz hw4 ha1 tz1 tz2 hn (by omega)) (gS lwG_in wd_607 wd_608 wd_15 wd_609) rfl 4 (by decide +kernel) rfl ⟨Nat.le_of_ble_eq_true rfl, Nat.le_of_ble_eq_true rfl⟩ rfl hl.1 (Nat.le_of_ble_eq_true rfl) ⟨by show cl + 5 ≤ 744077; omega, by show sl + 14 ≤ 6870016; omega⟩ dL_law_722) h (fun rz2 nz2 cz2 H locs hp h => ?_)
  obtain ⟨hrz2, hnz2, lhz2, rsz2, Rz2, hqz2, hWz2, Jz2⟩ := hp
  subst hrz2
  refine lv_if_ne (tgt := 868) hx hb dL_law_725 (by decide) (fun b_725 => ?_) (fun b_725 => by first | exact absurd (by decide) b_725 | exact absurd b_725 (by decide))
  exact W.widen (by omega) (by omega) (K _ _ _ _ _ h ⟨by omega, _, _, _, _, _, _, hWz2, Jz2.le (by omega), hs1⟩ (lv_sub hl [0, 1, 2, 3, 4] rfl))
set_option maxHeartbeats 4000000 in
set_option maxRecDepth 100000 in
theorem lc_orient (F : Fx p s m #[Value.ref b] meth c0 code 12 ret RL lw_tbl g meth.name) (h : Hv g s H locs n c) (hWd : Wd g c lh rs R hq) (J : Jv R sc cn tb) (hs1 : 1 ≤ sc) (hn : 352 ≤ n) (ht : tb ≤ 800000000) (i1 : Nat) (gv hv : Int32) (at1 : Nat) (ha1 : at1 < sc) (hl : lv_has ls 12 [(0, .ref b), (1, .ref (gz g + 0)), (2, .int (nI i1)), (3, .int gv), (4, .int hv), (7, .int (nI at1))]) (hcl : cl + 5 ≤ 744077) (hsl : sl + 14 ≤ 6870016) (K : LK p l e s m below meth c0 b g i1 gv hv (cl + 5) (sl + 14) (tb + 60)) : W p l e room_1 s m #[Value.ref b] below meth c0 H locs cl sl (lw_Z below #[Value.ref b] s) (F0 m 737 ls []) := by
  have hx := F.1
  have hb := F.2.1
  have s5 := J.s5
  have c5 := J.c5
  refine lv_aload_n hx hb dL_law_737 rfl (lv_at hl 1 rfl) ?_
  refine lv_bipush (v := 6) hx hb dL_law_738 (by decide) ?_
  refine u_iE (v := (R 1)) (ru_V (As := [.int 6]) (rest := []) F h hWd.1 rfl (kw_count l g n c hWd J 6 (v := (R 1)) (rfl)) (gV lwG_in wd_399 wd_400 wd_401 wd_16 wd_402) rfl 1 (by decide +kernel) rfl ⟨Nat.le_of_ble_eq_true rfl, Nat.le_of_ble_eq_true rfl⟩ rfl hl.1 (Nat.le_of_ble_eq_true rfl) ⟨by show cl + 0 ≤ 744077; omega, by show sl + 0 ≤ 6870016; omega⟩ dL_law_740) h (fun H locs h => ?_)
  refine lv_istore (lv' := [(8, .int (R 1)), (0, .ref b), (1, .ref (gz g + 0)), (2, .int (nI i1)), (3, .int gv), (4, .int hv), (7, .int (nI at1))]) hx hb dL_law_743 hl (by decide) rfl (fun ls hl => ?_)
  refine lv_aload_n hx hb dL_law_745 rfl (lv_at hl 2 rfl) ?_
  refine lv_iload hx hb dL_law_746 (lv_at hl 5 rfl) ?_
  refine lv_sipush (v := 501) hx hb dL_law_748 (by decide) ?_
  refine u_iE (v := (lwI hv 501)) (ru_S (As := [.int hv, .int 501]) (rest := [.ref (gz g + 0)]) F h (k_L_low l g n c hv 501 (by decide)) (gS lwG_in wd_419 wd_420 wd_15 wd_421) rfl 2 (by decide +kernel) rfl ⟨Nat.le_of_ble_eq_true rfl, Nat.le_of_ble_eq_true rfl⟩ rfl hl.1 (Nat.le_of_ble_eq_true rfl) ⟨by show cl + 0 ≤ 744077; omega, by show sl + 0 ≤ 6870016; omega⟩ dL_law_751) h (fun H locs h => ?_)
  have hWua1 : Wd g c lh rs R hq := hWd
  refine u_i (ru_V (As := [.int (lwI hv 501)]) (rest := []) F h hWd.1 rfl (k_X7_setTolerance l g n c lh 0 rs hWua1.1 R hWua1.2.1 hWua1.2.2.2.2 hq hWua1.2.2.1 J.wb (lwI hv 501) ) (gV lwG_in wd_386 wd_387 wd_388 wd_16 wd_389) rfl 1 (by decide +kernel) rfl ⟨Nat.le_of_ble_eq_true rfl, Nat.le_of_ble_eq_true rfl⟩ rfl hl.1 (Nat.le_of_ble_eq_true rfl) ⟨by show cl + 0 ≤ 744077; omega, by show sl + 0 ≤ 6870016; omega⟩ dL_law_754) h (fun ra1 na1 ca1 H locs hp h => ?_)
  obtain ⟨hna1, hxa1, hWa1, hFa1⟩ := paW hp hWua1 (by omega) (to_ok (lw_0 (n2 := 501) (N := 501) rfl (by decide))) (rmL_le (hWua1).2.2.2.2)
  subst hxa1
  have J2 := J.tole (x := (lwI hv 501)) (lw_0 (n2 := 501) (N := 501) rfl (by decide))
  refine lv_iload hx hb dL_law_757 (lv_at hl 0 rfl) ?_
  refine lv_icmp_ne (tgt := 771) hx hb dL_law_759 (by decide) (fun b_759 => by first | exact absurd b_759 (rfl) | exact absurd (rfl) b_759) (fun b_759 => ?_)
  refine lv_aload_n hx hb dL_law_762 rfl (lv_at hl 2 rfl) ?_
  refine lv_iload hx hb dL_law_763 (lv_at hl 6 rfl) ?_
  refine u_i (ru_S (As := [.ref (gz g + 0), .int (nI at1)]) (rest := []) F h (k_L_orients l g na1 ca1 hWa1 J2 at1 ha1 (by omega)) (gS lwG_in wd_661 wd_662 wd_15 wd_663) rfl 2 (by decide +kernel) rfl ⟨Nat.le_of_ble_eq_true rfl, Nat.le_of_ble_eq_true rfl⟩ rfl hl.1 (Nat.le_of_ble_eq_true rfl) ⟨by show cl + 0 ≤ 744077; omega, by show sl + 0 ≤ 6870016; omega⟩ dL_law_765) h (fun rz2 nz2 cz2 H locs hp h => ?_)
  obtain ⟨hrz2, hnz2, lhz2, rsz2, Rz2, hqz2, hWz2, Jz2⟩ := hp
  subst hrz2
  refine lv_if_ne (tgt := 773) hx hb dL_law_768 (by decide) (fun b_768 => ?_) (fun b_768 => by first | exact absurd (by decide) b_768 | exact absurd b_768 (by decide))
  refine lv_goto (tgt := 868) hx hb dL_law_773 (by decide) ?_
  exact W.widen (by omega) (by omega) (K _ _ _ _ _ h ⟨by omega, _, _, _, _, _, _, hWz2, Jz2.le (by omega), hs1⟩ (lv_sub hl [1, 2, 3, 4, 5] rfl))
set_option maxHeartbeats 4000000 in
set_option maxRecDepth 100000 in
theorem lc_swap (F : Fx p s m #[Value.ref b] meth c0 code 12 ret RL lw_tbl g meth.name) (h : Hv g s H locs n c) (hWd : Wd g c lh rs R hq) (J : Jv R sc cn tb) (hs1 : 1 ≤ sc) (hn : 352 ≤ n) (ht : tb ≤ 800000000) (i1 : Nat) (gv hv : Int32) (w : Nat) (hw4 : w < 4) (hl : lv_has ls 12 [(0, .ref b), (1, .ref (gz g + 0)), (2, .int (nI i1)), (3, .int gv), (4, .int hv), (6, .int (nI w))]) (hcl : cl + 5 ≤ 744077) (hsl : sl + 14 ≤ 6870016) (K : LK p l e s m below meth c0 b g i1 gv hv (cl + 5) (sl + 14) (tb + 60)) : W p l e room_1 s m #[Value.ref b] below meth c0 H locs cl sl (lw_Z below #[Value.ref b] s) (F0 m 783 ls []) := by
  have hx := F.1
  have hb := F.2.1
  have s5 := J.s5
  have c5 := J.c5
  refine lv_aload_n hx hb dL_law_783 rfl (lv_at hl 1 rfl) ?_
  refine lv_iload hx hb dL_law_784 (lv_at hl 5 rfl) ?_
  refine lv_iload hx hb dL_law_786 (lv_at hl 4 rfl) ?_
  refine lv_iconst (v := 4) hx hb dL_law_788 (by decide) ?_
  refine u_iE (v := (lwI hv 4)) (ru_S (As := [.int hv, .int 4]) (rest := [.int (nI w), .ref (gz g + 0)]) F h (k_L_low l g n c hv 4 (by decide)) (gS lwG_in wd_419 wd_420 wd_15 wd_421) rfl 2 (by decide +kernel) rfl ⟨Nat.le_of_ble_eq_true rfl, Nat.le_of_ble_eq_true rfl⟩ rfl hl.1 (Nat.le_of_ble_eq_true rfl) ⟨by show cl + 0 ≤ 744077; omega, by show sl + 0 ≤ 6870016; omega⟩ dL_law_789) h (fun H locs h => ?_)
  obtain ⟨v, hv4, e_v⟩ := lw_n (v := hv) (N := 4) (by decide) (by decide)
  refine r_top (w := .int (nI v)) (congrArg Value.int e_v) ?_
  refine u_i (ru_S (As := [.ref (gz g + 0), .int (nI w), .int (nI v)]) (rest := []) F h (k_L_swaps l g n c hWd J w v hw4 hv4 hn) (gS lwG_in wd_673 wd_674 wd_15 wd_675) rfl 3 (by decide +kernel) rfl ⟨Nat.le_of_ble_eq_true rfl, Nat.le_of_ble_eq_true rfl⟩ rfl hl.1 (Nat.le_of_ble_eq_true rfl) ⟨by show cl + 0 ≤ 744077; omega, by show sl + 0 ≤ 6870016; omega⟩ dL_law_792) h (fun rz1 nz1 cz1 H locs hp h => ?_)
  obtain ⟨hrz1, hnz1, lhz1, rsz1, Rz1, hqz1, hWz1, Jz1⟩ := hp
  subst hrz1
  refine lv_if_ne (tgt := 868) hx hb dL_law_795 (by decide) (fun b_795 => ?_) (fun b_795 => by first | exact absurd (by decide) b_795 | exact absurd b_795 (by decide))
  exact W.widen (by omega) (by omega) (K _ _ _ _ _ h ⟨by omega, _, _, _, _, _, _, hWz1, Jz1.le (by omega), hs1⟩ (lv_sub hl [0, 1, 2, 3, 4] rfl))
set_option maxHeartbeats 4000000 in
set_option maxRecDepth 100000 in
theorem lc_lift (F : Fx p s m #[Value.ref b] meth c0 code 12 ret RL lw_tbl g meth.name) (h : Hv g s H locs n c) (hWd : Wd g c lh rs R hq) (J : Jv R sc cn tb) (hs1 : 1 ≤ sc) (hn : 352 ≤ n) (ht : tb ≤ 800000000) (i1 : Nat) (gv hv : Int32) (w : Nat) (hw4 : w < 4) (hl : lv_has ls 12 [(0, .ref b), (1, .ref (gz g + 0)), (2, .int (nI i1)), (3, .int gv), (4, .int hv), (6, .int (nI w))]) (hcl : cl + 5 ≤ 744077) (hsl : sl + 14 ≤ 6870016) (K : LK p l e s m below meth c0 b g i1 gv hv (cl + 5) (sl + 14) (tb + 60)) : W p l e room_1 s m #[Value.ref b] below meth c0 H locs cl sl (lw_Z below #[Value.ref b] s) (F0 m 800 ls []) := by
  have hx := F.1
  have hb := F.2.1
  have s5 := J.s5
  have c5 := J.c5
  by_cases h0 : R (5 + 11 * w + 0) = 0
  · skip
    refine lv_iload hx hb dL_law_800 (lv_at hl 4 rfl) ?_
    refine lv_iconst (v := 3) hx hb dL_law_802 (by decide) ?_
    refine lv_iand hx hb dL_law_803 ?_
    refine lv_if_ne (tgt := 868) hx hb dL_law_804 (by decide) (fun b_804 => ?_) (fun b_804 => ?_)
    · skip
      exact W.widen (by omega) (by omega) (K _ _ _ _ _ h ⟨by omega, _, _, _, _, _, _, hWd, J.le (by omega), hs1⟩ (lv_sub hl [0, 1, 2, 3, 4] rfl))
    refine lv_aload_n hx hb dL_law_807 rfl (lv_at hl 1 rfl) ?_
    refine lv_iload hx hb dL_law_808 (lv_at hl 5 rfl) ?_
    refine lv_iconst (v := 2) hx hb dL_law_810 (by decide) ?_
    refine u_iE (v := (-100005)) (ru_V (As := [.int (nI w), .int 2]) (rest := []) F h hWd.1 rfl (kw_wire l g n c hWd J (nI w) 2 (v := (-100005)) (wi_n hw4 h0 (by decide))) (gV lwG_in wd_390 wd_391 wd_392 wd_16 wd_393) rfl 2 (by decide +kernel) rfl ⟨Nat.le_of_ble_eq_true rfl, Nat.le_of_ble_eq_true rfl⟩ rfl hl.1 (Nat.le_of_ble_eq_true rfl) ⟨by show cl + 0 ≤ 744077; omega, by show sl + 0 ≤ 6870016; omega⟩ dL_law_811) h (fun H locs h => ?_)
    refine lv_if_le (tgt := 821) hx hb dL_law_814 (by decide) (fun b_814 => ?_) (fun b_814 => by first | exact absurd (by decide) b_814 | exact absurd b_814 (by decide))
    refine lv_iconst (v := 0) hx hb dL_law_821 (by decide) ?_
    refine lv_istore (lv' := [(8, .int 0), (0, .ref b), (1, .ref (gz g + 0)), (2, .int (nI i1)), (3, .int gv), (4, .int hv), (6, .int (nI w))]) hx hb dL_law_822 hl (by decide) rfl (fun ls hl => ?_)
    refine lv_aload_n hx hb dL_law_824 rfl (lv_at hl 2 rfl) ?_
    refine lv_iconst (v := 1) hx hb dL_law_825 (by decide) ?_
    refine u_iE (v := (ctI (fun v => R (5 + 11 * v)) 4)) (ru_V (As := [.int 1]) (rest := []) F h hWd.1 rfl (kw_count l g n c hWd J 1 (v := (ctI (fun v => R (5 + 11 * v)) 4)) (rfl)) (gV lwG_in wd_399 wd_400 wd_401 wd_16 wd_402) rfl 1 (by decide +kernel) rfl ⟨Nat.le_of_ble_eq_true rfl, Nat.le_of_ble_eq_true rfl⟩ rfl hl.1 (Nat.le_of_ble_eq_true rfl) ⟨by show cl + 0 ≤ 744077; omega, by show sl + 0 ≤ 6870016; omega⟩ dL_law_826) h (fun H locs h => ?_)
    refine lv_istore (lv' := [(9, .int (ctI (fun v => R (5 + 11 * v)) 4)), (8, .int 0), (0, .ref b), (1, .ref (gz g + 0)), (2, .int (nI i1)), (3, .int gv), (4, .int hv), (6, .int (nI w))]) hx hb dL_law_829 hl (by decide) rfl (fun ls hl => ?_)
    refine lv_aload_n hx hb dL_law_831 rfl (lv_at hl 3 rfl) ?_
    refine lv_iload hx hb dL_law_832 (lv_at hl 7 rfl) ?_
    have hWua1 : Wd g c lh rs R hq := hWd
    refine u_i (ru_V (As := [.int (nI w)]) (rest := []) F h hWd.1 rfl (k_X7_lift l g n c lh 0 rs hWua1.1 R hWua1.2.1 hWua1.2.2.2.2 hq hWua1.2.2.1 J.wb (nI w) sc J.s4 J.s5) (gV lwG_in wd_326 wd_327 wd_328 wd_16 wd_329) rfl 1 (by decide +kernel) rfl ⟨Nat.le_of_ble_eq_true rfl, Nat.le_of_ble_eq_true rfl⟩ rfl hl.1 (Nat.le_of_ble_eq_true rfl) ⟨by show cl + 0 ≤ 744077; omega, by show sl + 0 ≤ 6870016; omega⟩ dL_law_834) h (fun ra1 na1 ca1 H locs hp h => ?_)
    obtain ⟨hna1, hxa1, hWa1, hFa1⟩ := paW hp hWua1 (by omega) (lf_n hw4 h0) (hWua1).2.2.2.2
    subst hxa1
    refine lv_iload hx hb dL_law_837 (lv_at hl 1 rfl) ?_
    refine lv_if_eq (tgt := 849) hx hb dL_law_839 (by decide) (fun b_839 => ?_) (fun b_839 => by first | exact absurd (by decide) b_839 | exact absurd b_839 (by decide))
    refine lv_ldc (v := (-100003)) hx hb F.2.2.2.1 (F.2.2.2.2.1 (Cond.constant RL 74 (-100003)) (lwG_in _ wd_660)) dL_law_849 ?_
    refine lv_icmp_ne (tgt := 866) hx hb dL_law_851 (by decide) (fun b_851 => by first | exact absurd b_851 (rfl) | exact absurd (rfl) b_851) (fun b_851 => ?_)
    refine lv_aload_n hx hb dL_law_854 rfl (lv_at hl 3 rfl) ?_
    refine lv_iload hx hb dL_law_855 (lv_at hl 7 rfl) ?_
    refine lv_iconst (v := 0) hx hb dL_law_857 (by decide) ?_
    refine u_iE (v := (-100005)) (ru_V (As := [.int (nI w), .int 0]) (rest := []) F h hWa1.1 rfl (kw_wire l g na1 ca1 hWa1 J (nI w) 0 (v := (-100005)) (wi_n hw4 h0 (by decide))) (gV lwG_in wd_390 wd_391 wd_392 wd_16 wd_393) rfl 2 (by decide +kernel) rfl ⟨Nat.le_of_ble_eq_true rfl, Nat.le_of_ble_eq_true rfl⟩ rfl hl.1 (Nat.le_of_ble_eq_true rfl) ⟨by show cl + 0 ≤ 744077; omega, by show sl + 0 ≤ 6870016; omega⟩ dL_law_858) h (fun H locs h => ?_)
    refine lv_ldc (v := (-100005)) hx hb F.2.2.2.1 (F.2.2.2.2.1 (Cond.constant RL 35 (-100005)) (lwG_in _ wd_446)) dL_law_861 ?_
    refine lv_icmp_eq (tgt := 868) hx hb dL_law_863 (by decide) (fun b_863 => ?_) (fun b_863 => by first | exact absurd (by decide) b_863 | exact absurd b_863 (by decide))
    exact W.widen (by omega) (by omega) (K _ _ _ _ _ h ⟨by omega, _, _, _, _, _, _, hWa1, J.le (by omega), hs1⟩ (lv_sub hl [2, 3, 4, 5, 6] rfl))
  have h1 : R (5 + 11 * w + 0) = 1 := b01_of (J.b hw4) h0
  have gw := J.wg hw4 h1
  refine lv_iload hx hb dL_law_800 (lv_at hl 4 rfl) ?_
  refine lv_iconst (v := 3) hx hb dL_law_802 (by decide) ?_
  refine lv_iand hx hb dL_law_803 ?_
  refine lv_if_ne (tgt := 868) hx hb dL_law_804 (by decide) (fun b_804 => ?_) (fun b_804 => ?_)
  · skip
    exact W.widen (by omega) (by omega) (K _ _ _ _ _ h ⟨by omega, _, _, _, _, _, _, hWd, J.le (by omega), hs1⟩ (lv_sub hl [0, 1, 2, 3, 4] rfl))
  refine lv_aload_n hx hb dL_law_807 rfl (lv_at hl 1 rfl) ?_
  refine lv_iload hx hb dL_law_808 (lv_at hl 5 rfl) ?_
  refine lv_iconst (v := 2) hx hb dL_law_810 (by decide) ?_
  refine u_iE (v := (R (5 + 11 * w + 3))) (ru_V (As := [.int (nI w), .int 2]) (rest := []) F h hWd.1 rfl (kw_wire l g n c hWd J (nI w) 2 (v := (R (5 + 11 * w + 3))) (wi_2 hw4 h1)) (gV lwG_in wd_390 wd_391 wd_392 wd_16 wd_393) rfl 2 (by decide +kernel) rfl ⟨Nat.le_of_ble_eq_true rfl, Nat.le_of_ble_eq_true rfl⟩ rfl hl.1 (Nat.le_of_ble_eq_true rfl) ⟨by show cl + 0 ≤ 744077; omega, by show sl + 0 ≤ 6870016; omega⟩ dL_law_811) h (fun H locs h => ?_)
  refine lv_if_le (tgt := 821) hx hb dL_law_814 (by decide) (fun b_814 => by first | exact absurd b_814 (i_nle (bt_gt gw.2.2.1 0 (by decide))) | exact absurd (i_nle (bt_gt gw.2.2.1 0 (by decide))) b_814) (fun b_814 => ?_)
  refine lv_iconst (v := 1) hx hb dL_law_817 (by decide) ?_
  refine lv_goto (tgt := 822) hx hb dL_law_818 (by decide) ?_
  refine lv_istore (lv' := [(8, .int 1), (0, .ref b), (1, .ref (gz g + 0)), (2, .int (nI i1)), (3, .int gv), (4, .int hv), (6, .int (nI w))]) hx hb dL_law_822 hl (by decide) rfl (fun ls hl => ?_)
  refine lv_aload_n hx hb dL_law_824 rfl (lv_at hl 2 rfl) ?_
  refine lv_iconst (v := 1) hx hb dL_law_825 (by decide) ?_
  refine u_iE (v := (ctI (fun v => R (5 + 11 * v)) 4)) (ru_V (As := [.int 1]) (rest := []) F h hWd.1 rfl (kw_count l g n c hWd J 1 (v := (ctI (fun v => R (5 + 11 * v)) 4)) (rfl)) (gV lwG_in wd_399 wd_400 wd_401 wd_16 wd_402) rfl 1 (by decide +kernel) rfl ⟨Nat.le_of_ble_eq_true rfl, Nat.le_of_ble_eq_true rfl⟩ rfl hl.1 (Nat.le_of_ble_eq_true rfl) ⟨by show cl + 0 ≤ 744077; omega, by show sl + 0 ≤ 6870016; omega⟩ dL_law_826) h (fun H locs h => ?_)
  refine lv_istore (lv' := [(9, .int (ctI (fun v => R (5 + 11 * v)) 4)), (8, .int 1), (0, .ref b), (1, .ref (gz g + 0)), (2, .int (nI i1)), (3, .int gv), (4, .int hv), (6, .int (nI w))]) hx hb dL_law_829 hl (by decide) rfl (fun ls hl => ?_)
  refine lv_aload_n hx hb dL_law_831 rfl (lv_at hl 3 rfl) ?_
  refine lv_iload hx hb dL_law_832 (lv_at hl 7 rfl) ?_
  have hWua2 : Wd g c lh rs R hq := hWd
  refine u_i (ru_V (As := [.int (nI w)]) (rest := []) F h hWd.1 rfl (k_X7_lift l g n c lh 0 rs hWua2.1 R hWua2.2.1 hWua2.2.2.2.2 hq hWua2.2.2.1 J.wb (nI w) sc J.s4 J.s5) (gV lwG_in wd_326 wd_327 wd_328 wd_16 wd_329) rfl 1 (by decide +kernel) rfl ⟨Nat.le_of_ble_eq_true rfl, Nat.le_of_ble_eq_true rfl⟩ rfl hl.1 (Nat.le_of_ble_eq_true rfl) ⟨by show cl + 0 ≤ 744077; omega, by show sl + 0 ≤ 6870016; omega⟩ dL_law_834) h (fun ra2 na2 ca2 H locs hp h => ?_)
  obtain ⟨hna2, hxa2, hWa2, hFa2⟩ := paW hp hWua2 (by omega) (lf_ok hw4 h1) (rmL_le (hWua2).2.2.2.2)
  subst hxa2
  have J2 := J.lift hw4 h1
  have f2 : lfR R w sc (5 + 11 * w + 0) = 0 := wv_w hw4 (by decide)
  refine lv_iload hx hb dL_law_837 (lv_at hl 1 rfl) ?_
  refine lv_if_eq (tgt := 849) hx hb dL_law_839 (by decide) (fun b_839 => by first | exact absurd b_839 (by decide) | exact absurd (by decide) b_839) (fun b_839 => ?_)
  refine lv_iload hx hb dL_law_842 (lv_at hl 0 rfl) ?_
  refine lv_iconst (v := 1) hx hb dL_law_844 (by decide) ?_
  refine lv_isub hx hb dL_law_845 ?_
  refine lv_goto (tgt := 851) hx hb dL_law_846 (by decide) ?_
  refine lv_icmp_ne (tgt := 866) hx hb dL_law_851 (by decide) (fun b_851 => by first | exact absurd b_851 (rfl) | exact absurd (rfl) b_851) (fun b_851 => ?_)
  refine lv_aload_n hx hb dL_law_854 rfl (lv_at hl 3 rfl) ?_
  refine lv_iload hx hb dL_law_855 (lv_at hl 7 rfl) ?_
  refine lv_iconst (v := 0) hx hb dL_law_857 (by decide) ?_
  refine u_iE (v := (-100005)) (ru_V (As := [.int (nI w), .int 0]) (rest := []) F h hWa2.1 rfl (kw_wire l g na2 ca2 hWa2 J2 (nI w) 0 (v := (-100005)) (wi_n hw4 f2 (by decide))) (gV lwG_in wd_390 wd_391 wd_392 wd_16 wd_393) rfl 2 (by decide +kernel) rfl ⟨Nat.le_of_ble_eq_true rfl, Nat.le_of_ble_eq_true rfl⟩ rfl hl.1 (Nat.le_of_ble_eq_true rfl) ⟨by show cl + 0 ≤ 744077; omega, by show sl + 0 ≤ 6870016; omega⟩ dL_law_858) h (fun H locs h => ?_)
  refine lv_ldc (v := (-100005)) hx hb F.2.2.2.1 (F.2.2.2.2.1 (Cond.constant RL 35 (-100005)) (lwG_in _ wd_446)) dL_law_861 ?_
  refine lv_icmp_eq (tgt := 868) hx hb dL_law_863 (by decide) (fun b_863 => ?_) (fun b_863 => by first | exact absurd (by decide) b_863 | exact absurd b_863 (by decide))
  exact W.widen (by omega) (by omega) (K _ _ _ _ _ h ⟨by omega, _, _, _, _, _, _, hWa2, J2.le (by omega), hs1⟩ (lv_sub hl [2, 3, 4, 5, 6] rfl))
end LC
