/-! The law: orientations. -/
set_option maxHeartbeats 4000000 in
set_option maxRecDepth 100000 in
theorem k_L_orients (l : Launch) (g : Gf) (n : Nat) (c : Mp) {lh : Nat} {rs : Int32} {R : Nat → Int32} {hq : Nat → Nat → Int32} (hWd : Wd g c lh rs R hq) {sc cn tb : Nat} (J : Jv R sc cn tb) (s1 : Nat) (hs5 : s1 < sc) (hn : 352 ≤ n) : Ct l g yL_orients wsL_orients 5 121 0 0 [.ref (gz g + 0), .int (nI s1)] n c (Qi g (fun xr n' c' => xr = 1 ∧ n ≤ n' ∧ ∃ (lh' : Nat) (rs' : Int32) (R' : Nat → Int32) (hq' : Nat → Nat → Int32), Wd g c' lh' rs' R' hq' ∧ Jv R' sc cn tb)) := by
  have s5 := J.s5
  refine ent (by decide) rfl (Nat.le_of_ble_eq_true rfl) ?_
  intro p e s m args below meth c0 F h ls hl
  have hx := F.1
  have hb := F.2.1
  have hl : lv_has ls 8 [(0, .ref (gz g + 0)), (1, .int (nI s1))] := hl
  refine lv_aload_n hx hb dL_orients_0 rfl (lv_at hl 0 rfl) ?_
  refine lv_iload_n hx hb dL_orients_1 rfl (lv_at hl 1 rfl) ?_
  refine lv_iconst (v := 2) hx hb dL_orients_2 (by decide) ?_
  refine u_iE (v := sq_X7_station R (nI s1) 2 sc) (ru_V (As := [.int (nI s1), .int 2]) (rest := []) F h hWd.1 rfl (kw_station l g n c hWd J (nI s1) 2 (v := sq_X7_station R (nI s1) 2 sc) (rfl)) (gV hjl wd_584 wd_585 wd_586 wd_16 wd_587) rfl 2 (by decide +kernel) rfl ⟨Nat.le_of_ble_eq_true rfl, Nat.le_of_ble_eq_true rfl⟩ rfl hl.1 (Nat.le_of_ble_eq_true rfl) ⟨Nat.zero_le _, Nat.zero_le _⟩ dL_orients_3) h (fun H locs h => ?_)
  refine lv_istore_n (lv' := [(2, .int (sq_X7_station R (nI s1) 2 sc)), (0, .ref (gz g + 0)), (1, .int (nI s1))]) hx hb dL_orients_6 rfl hl (by decide) rfl (fun ls hl => ?_)
  refine lv_iconst (v := 0) hx hb dL_orients_7 (by decide) ?_
  refine lv_istore_n (lv' := [(3, .int 0), (2, .int (sq_X7_station R (nI s1) 2 sc)), (0, .ref (gz g + 0)), (1, .int (nI s1))]) hx hb dL_orients_8 rfl hl (by decide) rfl (fun ls hl => ?_)
  refine lv_iconst (v := 0) hx hb dL_orients_9 (by decide) ?_
  refine lv_istore (lv' := [(4, .int 0), (3, .int 0), (2, .int (sq_X7_station R (nI s1) 2 sc)), (0, .ref (gz g + 0)), (1, .int (nI s1))]) hx hb dL_orients_10 hl (by decide) rfl (fun ls hl => ?_)
  have lop : ∀ (k : Nat) (pr : Nat) (hpr : pr ≤ 2) (H : Heap) (locs : List Loc) (ls : Array Slot), (3 - pr) ≤ k → Hv g s H locs n c → lv_has ls 8 [(0, .ref (gz g + 0)), (1, .int (nI s1)), (2, .int (sq_X7_station R (nI s1) 2 sc)), (3, .int (dvF R s1 pr)), (4, .int (nI pr))] → W p l e (Rm 5 121 0 0) s m args below meth c0 H locs 0 0 (MQ below (Qi g (fun xr n' c' => xr = 1 ∧ n ≤ n' ∧ ∃ (lh' : Nat) (rs' : Int32) (R' : Nat → Int32) (hq' : Nat → Nat → Int32), Wd g c' lh' rs' R' hq' ∧ Jv R' sc cn tb)) args s 0 0 (mAf g)) (F0 m 12 ls []) := by
    intro k_lop
    induction k_lop with
    | zero => intro pr hpr H locs ls hk h hl; exact absurd hk (by omega)
    | succ k_lop ih_lop =>
      intro pr hpr H locs ls hk_lop h hl
      refine lv_iload hx hb dL_orients_12 (lv_at hl 4 rfl) ?_
      refine lv_iconst (v := 2) hx hb dL_orients_14 (by decide) ?_
      refine lv_icmp_ge (tgt := 123) hx hb dL_orients_15 (by decide) (fun b_15 => ?_) (fun b_15 => ?_)
      · skip
        by_cases hw : whF R s1 = 0
        · skip
          have hl : lv_has ls 8 [(0, .ref (gz g + 0)), (1, .int (nI s1)), (2, .int (sq_X7_station R (nI s1) 2 sc)), (3, .int (whF R s1)), (4, .int (nI pr))] := by rw [show (whF R s1 : Int32) = dvF R s1 pr from by rw [dv_w, show pr = 2 from by have := lp_ge (N := 2) rfl (by omega) (by decide) b_15; omega]]; exact hl
          obtain ⟨r0, r1⟩ := wh_0 hw
          have hl : lv_has ls 8 [(0, .ref (gz g + 0)), (1, .int (nI s1)), (2, .int (sq_X7_station R (nI s1) 2 sc)), (3, .int 0), (4, .int (nI pr))] := by rw [show (0 : Int32) = whF R s1 from hw.symm]; exact hl
          refine lv_aload_n hx hb dL_orients_123 rfl (lv_at hl 0 rfl) ?_
          refine lv_iload_n hx hb dL_orients_124 rfl (lv_at hl 1 rfl) ?_
          refine lv_iconst (v := 0) hx hb dL_orients_125 (by decide) ?_
          refine u_iE (v := sq_X7_orientationFrom R s1 0) (ru_V (As := [.int (nI s1), .int 0]) (rest := []) F h hWd.1 rfl (kw_given l g n c hWd J (nI s1) 0 (v := sq_X7_orientationFrom R s1 0) (gv_v (pr := 0) J.s4 J.s5 hs5 (by decide) r0)) (gV hjl wd_557 wd_558 wd_559 wd_16 wd_560) rfl 2 (by decide +kernel) rfl ⟨Nat.le_of_ble_eq_true rfl, Nat.le_of_ble_eq_true rfl⟩ rfl hl.1 (Nat.le_of_ble_eq_true rfl) ⟨Nat.zero_le _, Nat.zero_le _⟩ dL_orients_126) h (fun H locs h => ?_)
          refine lv_istore (lv' := [(4, .int (sq_X7_orientationFrom R s1 0)), (0, .ref (gz g + 0)), (1, .int (nI s1)), (2, .int (sq_X7_station R (nI s1) 2 sc)), (3, .int 0)]) hx hb dL_orients_129 hl (by decide) rfl (fun ls hl => ?_)
          refine lv_aload_n hx hb dL_orients_131 rfl (lv_at hl 1 rfl) ?_
          refine lv_iload_n hx hb dL_orients_132 rfl (lv_at hl 2 rfl) ?_
          refine lv_iconst (v := 1) hx hb dL_orients_133 (by decide) ?_
          refine u_iE (v := sq_X7_orientationFrom R s1 1) (ru_V (As := [.int (nI s1), .int 1]) (rest := []) F h hWd.1 rfl (kw_given l g n c hWd J (nI s1) 1 (v := sq_X7_orientationFrom R s1 1) (gv_v (pr := 1) J.s4 J.s5 hs5 (by decide) r1)) (gV hjl wd_557 wd_558 wd_559 wd_16 wd_560) rfl 2 (by decide +kernel) rfl ⟨Nat.le_of_ble_eq_true rfl, Nat.le_of_ble_eq_true rfl⟩ rfl hl.1 (Nat.le_of_ble_eq_true rfl) ⟨Nat.zero_le _, Nat.zero_le _⟩ dL_orients_134) h (fun H locs h => ?_)
          refine lv_iload hx hb dL_orients_137 (lv_at hl 0 rfl) ?_
          refine lv_isub hx hb dL_orients_139 ?_
          refine lv_sipush (v := 4000) hx hb dL_orients_140 (by decide) ?_
          refine lv_iadd hx hb dL_orients_143 ?_
          refine u_iE (v := (rdI ((sq_X7_orientationFrom R s1 1 - sq_X7_orientationFrom R s1 0) + 4000))) (ru_S (As := [.int ((sq_X7_orientationFrom R s1 1 - sq_X7_orientationFrom R s1 0) + 4000)]) (rest := []) F h (k_L_round l g n c ((sq_X7_orientationFrom R s1 1 - sq_X7_orientationFrom R s1 0) + 4000)) (gS hjl wd_589 wd_590 wd_15 wd_591) rfl 1 (by decide +kernel) rfl ⟨Nat.le_of_ble_eq_true rfl, Nat.le_of_ble_eq_true rfl⟩ rfl hl.1 (Nat.le_of_ble_eq_true rfl) ⟨Nat.zero_le _, Nat.zero_le _⟩ dL_orients_144) h (fun H locs h => ?_)
          refine lv_sipush (v := 4000) hx hb dL_orients_147 (by decide) ?_
          refine lv_isub hx hb dL_orients_150 ?_
          refine lv_istore (lv' := [(5, .int ((rdI ((sq_X7_orientationFrom R s1 1 - sq_X7_orientationFrom R s1 0) + 4000)) - 4000)), (4, .int (sq_X7_orientationFrom R s1 0)), (0, .ref (gz g + 0)), (1, .int (nI s1)), (2, .int (sq_X7_station R (nI s1) 2 sc)), (3, .int 0)]) hx hb dL_orients_151 hl (by decide) rfl (fun ls hl => ?_)
          have hl : lv_has ls 8 [(5, .int (apF R s1)), (4, .int (sq_X7_orientationFrom R s1 0)), (0, .ref (gz g + 0)), (1, .int (nI s1)), (2, .int (sq_X7_station R (nI s1) 2 sc)), (3, .int 0)] := by rw [show (apF R s1 : Int32) = ((rdI ((sq_X7_orientationFrom R s1 1 - sq_X7_orientationFrom R s1 0) + 4000)) - 4000) from rfl]; exact hl
          refine lv_iload_n hx hb dL_orients_153 rfl (lv_at hl 5 rfl) ?_
          refine lv_if_ne (tgt := 175) hx hb dL_orients_154 (by decide) (fun b_154 => by first | exact absurd b_154 (by decide) | exact absurd (by decide) b_154) (fun b_154 => ?_)
          refine lv_iload hx hb dL_orients_157 (lv_at hl 0 rfl) ?_
          refine u_iE (v := (szI (apF R s1))) (ru_S (As := [.int (apF R s1)]) (rest := []) F h (k_L_size l g n c (apF R s1)) (gS hjl wd_423 wd_424 wd_15 wd_425) rfl 1 (by decide +kernel) rfl ⟨Nat.le_of_ble_eq_true rfl, Nat.le_of_ble_eq_true rfl⟩ rfl hl.1 (Nat.le_of_ble_eq_true rfl) ⟨Nat.zero_le _, Nat.zero_le _⟩ dL_orients_159) h (fun H locs h => ?_)
          refine lv_aload_n hx hb dL_orients_162 rfl (lv_at hl 2 rfl) ?_
          refine lv_bipush (v := 6) hx hb dL_orients_163 (by decide) ?_
          refine u_iE (v := R 1) (ru_V (As := [.int 6]) (rest := [.int (szI (apF R s1))]) F h hWd.1 rfl (kw_count l g n c hWd J 6 (v := R 1) (rfl)) (gV hjl wd_399 wd_400 wd_401 wd_16 wd_402) rfl 1 (by decide +kernel) rfl ⟨Nat.le_of_ble_eq_true rfl, Nat.le_of_ble_eq_true rfl⟩ rfl hl.1 (Nat.le_of_ble_eq_true rfl) ⟨Nat.zero_le _, Nat.zero_le _⟩ dL_orients_165) h (fun H locs h => ?_)
          refine lv_icmp_le (tgt := 175) hx hb dL_orients_168 (by decide) (fun b_168 => ?_) (fun b_168 => ?_)
          · skip
            refine lv_iload_n hx hb dL_orients_175 rfl (lv_at hl 5 rfl) ?_
            refine lv_istore_n (lv' := [(3, .int 0), (5, .int (apF R s1)), (4, .int (sq_X7_orientationFrom R s1 0)), (0, .ref (gz g + 0)), (1, .int (nI s1)), (2, .int (sq_X7_station R (nI s1) 2 sc))]) hx hb dL_orients_176 rfl hl (by decide) rfl (fun ls hl => ?_)
            refine lv_aload_n hx hb dL_orients_177 rfl (lv_at hl 3 rfl) ?_
            refine lv_iload_n hx hb dL_orients_178 rfl (lv_at hl 4 rfl) ?_
            have hWua1 : Wd g c lh rs R hq := hWd
            refine u_i (ru_V (As := [.int (nI s1)]) (rest := []) F h hWd.1 rfl (k_X7_orient l g n c lh 0 rs hWua1.1 R hWua1.2.1 hWua1.2.2.2.2 hq hWua1.2.2.1 J.wb (nI s1) sc J.s4 J.s5) (gV hjl wd_664 wd_665 wd_666 wd_16 wd_667) rfl 1 (by decide +kernel) rfl ⟨Nat.le_of_ble_eq_true rfl, Nat.le_of_ble_eq_true rfl⟩ rfl hl.1 (Nat.le_of_ble_eq_true rfl) ⟨Nat.zero_le _, Nat.zero_le _⟩ dL_orients_179) h (fun ra1 na1 ca1 H locs hp h => ?_)
            obtain ⟨hna1, hxa1, hWa1, hFa1⟩ := paW hp hWua1 (by omega) (or_k J hs5 hw b_168) (rmL_le (hWua1).2.2.2.2)
            subst hxa1
            have J2 := Jv.orient J hs5 hw b_168
            have e2 := J2.s4
            refine lv_istore (lv' := [(6, .int (orV R s1)), (3, .int 0), (5, .int (apF R s1)), (4, .int (sq_X7_orientationFrom R s1 0)), (0, .ref (gz g + 0)), (1, .int (nI s1)), (2, .int (sq_X7_station R (nI s1) 2 sc))]) hx hb dL_orients_182 hl (by decide) rfl (fun ls hl => ?_)
            refine lv_iload_n hx hb dL_orients_184 rfl (lv_at hl 1 rfl) ?_
            refine lv_if_le (tgt := 221) hx hb dL_orients_185 (by decide) (fun b_185 => ?_) (fun b_185 => by first | exact absurd (by decide) b_185 | exact absurd b_185 (by decide))
            refine lv_iload hx hb dL_orients_221 (lv_at hl 2 rfl) ?_
            refine lv_if_ge (tgt := 236) hx hb dL_orients_223 (by decide) (fun b_223 => ?_) (fun b_223 => ?_)
            · skip
              refine lv_iload hx hb dL_orients_236 (lv_at hl 2 rfl) ?_
              refine lv_iconst (v := 2) hx hb dL_orients_238 (by decide) ?_
              refine lv_idiv hx hb dL_orients_239 (by decide) ?_
              refine lv_istore (lv' := [(7, .int (apF R s1 / 2)), (6, .int (orV R s1)), (3, .int 0), (5, .int (apF R s1)), (4, .int (sq_X7_orientationFrom R s1 0)), (0, .ref (gz g + 0)), (1, .int (nI s1)), (2, .int (sq_X7_station R (nI s1) 2 sc))]) hx hb dL_orients_240 hl (by decide) rfl (fun ls hl => ?_)
              refine lv_iload hx hb dL_orients_242 (lv_at hl 1 rfl) ?_
              refine lv_iload hx hb dL_orients_244 (lv_at hl 4 rfl) ?_
              refine lv_iload hx hb dL_orients_246 (lv_at hl 0 rfl) ?_
              refine lv_iadd hx hb dL_orients_248 ?_
              refine u_iE (v := (rdI (sq_X7_orientationFrom R s1 0 + (apF R s1 / 2)))) (ru_S (As := [.int (sq_X7_orientationFrom R s1 0 + (apF R s1 / 2))]) (rest := [.int (orV R s1)]) F h (k_L_round l g na1 ca1 (sq_X7_orientationFrom R s1 0 + (apF R s1 / 2))) (gS hjl wd_589 wd_590 wd_15 wd_591) rfl 1 (by decide +kernel) rfl ⟨Nat.le_of_ble_eq_true rfl, Nat.le_of_ble_eq_true rfl⟩ rfl hl.1 (Nat.le_of_ble_eq_true rfl) ⟨Nat.zero_le _, Nat.zero_le _⟩ dL_orients_249) h (fun H locs h => ?_)
              refine lv_icmp_ne (tgt := 270) hx hb dL_orients_252 (by decide) (fun b_252 => by first | exact absurd b_252 (orV_h (hf_p b_223)) | exact absurd (orV_h (hf_p b_223)) b_252) (fun b_252 => ?_)
              refine lv_aload_n hx hb dL_orients_255 rfl (lv_at hl 5 rfl) ?_
              refine lv_iload_n hx hb dL_orients_256 rfl (lv_at hl 6 rfl) ?_
              refine lv_iconst (v := 2) hx hb dL_orients_257 (by decide) ?_
              refine u_iE (v := orV R s1) (ru_V (As := [.int (nI s1), .int 2]) (rest := []) F h hWa1.1 rfl (kw_station l g na1 ca1 hWa1 J2 (nI s1) 2 (v := orV R s1) ((st_2 e2 J.s5 hs5 (by rw [oR_h (by omega)]; decide)).trans oR_2)) (gV hjl wd_584 wd_585 wd_586 wd_16 wd_587) rfl 2 (by decide +kernel) rfl ⟨Nat.le_of_ble_eq_true rfl, Nat.le_of_ble_eq_true rfl⟩ rfl hl.1 (Nat.le_of_ble_eq_true rfl) ⟨Nat.zero_le _, Nat.zero_le _⟩ dL_orients_258) h (fun H locs h => ?_)
              refine lv_iload hx hb dL_orients_261 (lv_at hl 1 rfl) ?_
              refine lv_icmp_ne (tgt := 270) hx hb dL_orients_263 (by decide) (fun b_263 => by first | exact absurd b_263 (rfl) | exact absurd (rfl) b_263) (fun b_263 => ?_)
              refine lv_iconst (v := 1) hx hb dL_orients_266 (by decide) ?_
              refine lv_goto (tgt := 271) hx hb dL_orients_267 (by decide) ?_
              exact ret_z F h (by decide) (Nat.zero_le _) (Nat.zero_le _) dL_orients_271 (⟨rfl, by omega, _, _, _, _, hWa1, J2⟩)
            refine lv_iconst (v := 1) hx hb dL_orients_226 (by decide) ?_
            refine lv_iload hx hb dL_orients_227 (lv_at hl 2 rfl) ?_
            refine lv_isub hx hb dL_orients_229 ?_
            refine lv_iconst (v := 2) hx hb dL_orients_230 (by decide) ?_
            refine lv_idiv hx hb dL_orients_231 (by decide) ?_
            refine lv_ineg hx hb dL_orients_232 ?_
            refine lv_goto (tgt := 240) hx hb dL_orients_233 (by decide) ?_
            refine lv_istore (lv' := [(7, .int (-((1 - apF R s1) / 2))), (6, .int (orV R s1)), (3, .int 0), (5, .int (apF R s1)), (4, .int (sq_X7_orientationFrom R s1 0)), (0, .ref (gz g + 0)), (1, .int (nI s1)), (2, .int (sq_X7_station R (nI s1) 2 sc))]) hx hb dL_orients_240 hl (by decide) rfl (fun ls hl => ?_)
            refine lv_iload hx hb dL_orients_242 (lv_at hl 1 rfl) ?_
            refine lv_iload hx hb dL_orients_244 (lv_at hl 4 rfl) ?_
            refine lv_iload hx hb dL_orients_246 (lv_at hl 0 rfl) ?_
            refine lv_iadd hx hb dL_orients_248 ?_
            refine u_iE (v := (rdI (sq_X7_orientationFrom R s1 0 + (-((1 - apF R s1) / 2))))) (ru_S (As := [.int (sq_X7_orientationFrom R s1 0 + (-((1 - apF R s1) / 2)))]) (rest := [.int (orV R s1)]) F h (k_L_round l g na1 ca1 (sq_X7_orientationFrom R s1 0 + (-((1 - apF R s1) / 2)))) (gS hjl wd_589 wd_590 wd_15 wd_591) rfl 1 (by decide +kernel) rfl ⟨Nat.le_of_ble_eq_true rfl, Nat.le_of_ble_eq_true rfl⟩ rfl hl.1 (Nat.le_of_ble_eq_true rfl) ⟨Nat.zero_le _, Nat.zero_le _⟩ dL_orients_249) h (fun H locs h => ?_)
            refine lv_icmp_ne (tgt := 270) hx hb dL_orients_252 (by decide) (fun b_252 => by first | exact absurd b_252 (orV_h (hf_n b_223)) | exact absurd (orV_h (hf_n b_223)) b_252) (fun b_252 => ?_)
            refine lv_aload_n hx hb dL_orients_255 rfl (lv_at hl 5 rfl) ?_
            refine lv_iload_n hx hb dL_orients_256 rfl (lv_at hl 6 rfl) ?_
            refine lv_iconst (v := 2) hx hb dL_orients_257 (by decide) ?_
            refine u_iE (v := orV R s1) (ru_V (As := [.int (nI s1), .int 2]) (rest := []) F h hWa1.1 rfl (kw_station l g na1 ca1 hWa1 J2 (nI s1) 2 (v := orV R s1) ((st_2 e2 J.s5 hs5 (by rw [oR_h (by omega)]; decide)).trans oR_2)) (gV hjl wd_584 wd_585 wd_586 wd_16 wd_587) rfl 2 (by decide +kernel) rfl ⟨Nat.le_of_ble_eq_true rfl, Nat.le_of_ble_eq_true rfl⟩ rfl hl.1 (Nat.le_of_ble_eq_true rfl) ⟨Nat.zero_le _, Nat.zero_le _⟩ dL_orients_258) h (fun H locs h => ?_)
            refine lv_iload hx hb dL_orients_261 (lv_at hl 1 rfl) ?_
            refine lv_icmp_ne (tgt := 270) hx hb dL_orients_263 (by decide) (fun b_263 => by first | exact absurd b_263 (rfl) | exact absurd (rfl) b_263) (fun b_263 => ?_)
            refine lv_iconst (v := 1) hx hb dL_orients_266 (by decide) ?_
            refine lv_goto (tgt := 271) hx hb dL_orients_267 (by decide) ?_
            exact ret_z F h (by decide) (Nat.zero_le _) (Nat.zero_le _) dL_orients_271 (⟨rfl, by omega, _, _, _, _, hWa1, J2⟩)
          refine lv_iconst (v := 5) hx hb dL_orients_171 (by decide) ?_
          refine lv_goto (tgt := 176) hx hb dL_orients_172 (by decide) ?_
          refine lv_istore_n (lv' := [(3, .int 5), (5, .int (apF R s1)), (4, .int (sq_X7_orientationFrom R s1 0)), (0, .ref (gz g + 0)), (1, .int (nI s1)), (2, .int (sq_X7_station R (nI s1) 2 sc))]) hx hb dL_orients_176 rfl hl (by decide) rfl (fun ls hl => ?_)
          refine lv_aload_n hx hb dL_orients_177 rfl (lv_at hl 3 rfl) ?_
          refine lv_iload_n hx hb dL_orients_178 rfl (lv_at hl 4 rfl) ?_
          have hWua2 : Wd g c lh rs R hq := hWd
          refine u_i (ru_V (As := [.int (nI s1)]) (rest := []) F h hWd.1 rfl (k_X7_orient l g n c lh 0 rs hWua2.1 R hWua2.2.1 hWua2.2.2.2.2 hq hWua2.2.2.1 J.wb (nI s1) sc J.s4 J.s5) (gV hjl wd_664 wd_665 wd_666 wd_16 wd_667) rfl 1 (by decide +kernel) rfl ⟨Nat.le_of_ble_eq_true rfl, Nat.le_of_ble_eq_true rfl⟩ rfl hl.1 (Nat.le_of_ble_eq_true rfl) ⟨Nat.zero_le _, Nat.zero_le _⟩ dL_orients_179) h (fun ra2 na2 ca2 H locs hp h => ?_)
          obtain ⟨hna2, hxa2, hWa2, hFa2⟩ := paW hp hWua2 (by omega) (or_5 J hs5 hw b_168) (hWua2).2.2.2.2
          subst hxa2
          refine lv_istore (lv' := [(6, .int (-100003)), (3, .int 5), (5, .int (apF R s1)), (4, .int (sq_X7_orientationFrom R s1 0)), (0, .ref (gz g + 0)), (1, .int (nI s1)), (2, .int (sq_X7_station R (nI s1) 2 sc))]) hx hb dL_orients_182 hl (by decide) rfl (fun ls hl => ?_)
          refine lv_iload_n hx hb dL_orients_184 rfl (lv_at hl 1 rfl) ?_
          refine lv_if_le (tgt := 221) hx hb dL_orients_185 (by decide) (fun b_185 => by first | exact absurd b_185 (by decide) | exact absurd (by decide) b_185) (fun b_185 => ?_)
          refine lv_iload hx hb dL_orients_188 (lv_at hl 0 rfl) ?_
          refine lv_ldc (v := (-100003)) hx hb F.2.2.2.1 (F.2.2.2.2.1 (Cond.constant RL 74 (-100003)) (List.mem_cons_of_mem _ wd_660)) dL_orients_190 ?_
          refine lv_icmp_ne (tgt := 219) hx hb dL_orients_192 (by decide) (fun b_192 => by first | exact absurd b_192 (by decide) | exact absurd (by decide) b_192) (fun b_192 => ?_)
          refine lv_aload_n hx hb dL_orients_195 rfl (lv_at hl 4 rfl) ?_
          refine lv_bipush (v := 8) hx hb dL_orients_196 (by decide) ?_
          refine u_iE (v := 5) (ru_V (As := [.int 8]) (rest := []) F h hWa2.1 rfl (kw_count l g na2 ca2 hWa2 J 8 (v := 5) (rfl)) (gV hjl wd_399 wd_400 wd_401 wd_16 wd_402) rfl 1 (by decide +kernel) rfl ⟨Nat.le_of_ble_eq_true rfl, Nat.le_of_ble_eq_true rfl⟩ rfl hl.1 (Nat.le_of_ble_eq_true rfl) ⟨Nat.zero_le _, Nat.zero_le _⟩ dL_orients_198) h (fun H locs h => ?_)
          refine lv_iload_n hx hb dL_orients_201 rfl (lv_at hl 1 rfl) ?_
          refine lv_icmp_ne (tgt := 219) hx hb dL_orients_202 (by decide) (fun b_202 => by first | exact absurd b_202 (by decide) | exact absurd (by decide) b_202) (fun b_202 => ?_)
          refine lv_aload_n hx hb dL_orients_205 rfl (lv_at hl 4 rfl) ?_
          refine lv_iload_n hx hb dL_orients_206 rfl (lv_at hl 5 rfl) ?_
          refine lv_iconst (v := 2) hx hb dL_orients_207 (by decide) ?_
          refine u_iE (v := sq_X7_station R (nI s1) 2 sc) (ru_V (As := [.int (nI s1), .int 2]) (rest := []) F h hWa2.1 rfl (kw_station l g na2 ca2 hWa2 J (nI s1) 2 (v := sq_X7_station R (nI s1) 2 sc) (rfl)) (gV hjl wd_584 wd_585 wd_586 wd_16 wd_587) rfl 2 (by decide +kernel) rfl ⟨Nat.le_of_ble_eq_true rfl, Nat.le_of_ble_eq_true rfl⟩ rfl hl.1 (Nat.le_of_ble_eq_true rfl) ⟨Nat.zero_le _, Nat.zero_le _⟩ dL_orients_208) h (fun H locs h => ?_)
          refine lv_iload_n hx hb dL_orients_211 rfl (lv_at hl 6 rfl) ?_
          refine lv_icmp_ne (tgt := 219) hx hb dL_orients_212 (by decide) (fun b_212 => by first | exact absurd b_212 (rfl) | exact absurd (rfl) b_212) (fun b_212 => ?_)
          refine lv_iconst (v := 1) hx hb dL_orients_215 (by decide) ?_
          refine lv_goto (tgt := 220) hx hb dL_orients_216 (by decide) ?_
          exact ret_z F h (by decide) (Nat.zero_le _) (Nat.zero_le _) dL_orients_220 (⟨rfl, by omega, _, _, _, _, hWa2, J⟩)
        have hl : lv_has ls 8 [(0, .ref (gz g + 0)), (1, .int (nI s1)), (2, .int (sq_X7_station R (nI s1) 2 sc)), (3, .int (whF R s1)), (4, .int (nI pr))] := by rw [show (whF R s1 : Int32) = dvF R s1 pr from by rw [dv_w, show pr = 2 from by have := lp_ge (N := 2) rfl (by omega) (by decide) b_15; omega]]; exact hl
        refine lv_aload_n hx hb dL_orients_123 rfl (lv_at hl 0 rfl) ?_
        refine lv_iload_n hx hb dL_orients_124 rfl (lv_at hl 1 rfl) ?_
        refine lv_iconst (v := 0) hx hb dL_orients_125 (by decide) ?_
        refine u_iE (v := sq_X7_given R (nI s1) 0 sc) (ru_V (As := [.int (nI s1), .int 0]) (rest := []) F h hWd.1 rfl (kw_given l g n c hWd J (nI s1) 0 (v := sq_X7_given R (nI s1) 0 sc) (rfl)) (gV hjl wd_557 wd_558 wd_559 wd_16 wd_560) rfl 2 (by decide +kernel) rfl ⟨Nat.le_of_ble_eq_true rfl, Nat.le_of_ble_eq_true rfl⟩ rfl hl.1 (Nat.le_of_ble_eq_true rfl) ⟨Nat.zero_le _, Nat.zero_le _⟩ dL_orients_126) h (fun H locs h => ?_)
        refine lv_istore (lv' := [(4, .int (sq_X7_given R (nI s1) 0 sc)), (0, .ref (gz g + 0)), (1, .int (nI s1)), (2, .int (sq_X7_station R (nI s1) 2 sc)), (3, .int (whF R s1))]) hx hb dL_orients_129 hl (by decide) rfl (fun ls hl => ?_)
        refine lv_aload_n hx hb dL_orients_131 rfl (lv_at hl 1 rfl) ?_
        refine lv_iload_n hx hb dL_orients_132 rfl (lv_at hl 2 rfl) ?_
        refine lv_iconst (v := 1) hx hb dL_orients_133 (by decide) ?_
        refine u_iE (v := sq_X7_given R (nI s1) 1 sc) (ru_V (As := [.int (nI s1), .int 1]) (rest := []) F h hWd.1 rfl (kw_given l g n c hWd J (nI s1) 1 (v := sq_X7_given R (nI s1) 1 sc) (rfl)) (gV hjl wd_557 wd_558 wd_559 wd_16 wd_560) rfl 2 (by decide +kernel) rfl ⟨Nat.le_of_ble_eq_true rfl, Nat.le_of_ble_eq_true rfl⟩ rfl hl.1 (Nat.le_of_ble_eq_true rfl) ⟨Nat.zero_le _, Nat.zero_le _⟩ dL_orients_134) h (fun H locs h => ?_)
        refine lv_iload hx hb dL_orients_137 (lv_at hl 0 rfl) ?_
        refine lv_isub hx hb dL_orients_139 ?_
        refine lv_sipush (v := 4000) hx hb dL_orients_140 (by decide) ?_
        refine lv_iadd hx hb dL_orients_143 ?_
        refine u_iE (v := (rdI ((sq_X7_given R (nI s1) 1 sc - sq_X7_given R (nI s1) 0 sc) + 4000))) (ru_S (As := [.int ((sq_X7_given R (nI s1) 1 sc - sq_X7_given R (nI s1) 0 sc) + 4000)]) (rest := []) F h (k_L_round l g n c ((sq_X7_given R (nI s1) 1 sc - sq_X7_given R (nI s1) 0 sc) + 4000)) (gS hjl wd_589 wd_590 wd_15 wd_591) rfl 1 (by decide +kernel) rfl ⟨Nat.le_of_ble_eq_true rfl, Nat.le_of_ble_eq_true rfl⟩ rfl hl.1 (Nat.le_of_ble_eq_true rfl) ⟨Nat.zero_le _, Nat.zero_le _⟩ dL_orients_144) h (fun H locs h => ?_)
        refine lv_sipush (v := 4000) hx hb dL_orients_147 (by decide) ?_
        refine lv_isub hx hb dL_orients_150 ?_
        refine lv_istore (lv' := [(5, .int ((rdI ((sq_X7_given R (nI s1) 1 sc - sq_X7_given R (nI s1) 0 sc) + 4000)) - 4000)), (4, .int (sq_X7_given R (nI s1) 0 sc)), (0, .ref (gz g + 0)), (1, .int (nI s1)), (2, .int (sq_X7_station R (nI s1) 2 sc)), (3, .int (whF R s1))]) hx hb dL_orients_151 hl (by decide) rfl (fun ls hl => ?_)
        refine lv_iload_n hx hb dL_orients_153 rfl (lv_at hl 5 rfl) ?_
        refine lv_if_ne (tgt := 175) hx hb dL_orients_154 (by decide) (fun b_154 => ?_) (fun b_154 => by first | exact absurd (hw) b_154 | exact absurd b_154 (hw))
        refine lv_iload_n hx hb dL_orients_175 rfl (lv_at hl 5 rfl) ?_
        refine lv_istore_n (lv' := [(3, .int (whF R s1)), (5, .int ((rdI ((sq_X7_given R (nI s1) 1 sc - sq_X7_given R (nI s1) 0 sc) + 4000)) - 4000)), (4, .int (sq_X7_given R (nI s1) 0 sc)), (0, .ref (gz g + 0)), (1, .int (nI s1)), (2, .int (sq_X7_station R (nI s1) 2 sc))]) hx hb dL_orients_176 rfl hl (by decide) rfl (fun ls hl => ?_)
        refine lv_aload_n hx hb dL_orients_177 rfl (lv_at hl 3 rfl) ?_
        refine lv_iload_n hx hb dL_orients_178 rfl (lv_at hl 4 rfl) ?_
        have hWua3 : Wd g c lh rs R hq := hWd
        refine u_i (ru_V (As := [.int (nI s1)]) (rest := []) F h hWd.1 rfl (k_X7_orient l g n c lh 0 rs hWua3.1 R hWua3.2.1 hWua3.2.2.2.2 hq hWua3.2.2.1 J.wb (nI s1) sc J.s4 J.s5) (gV hjl wd_664 wd_665 wd_666 wd_16 wd_667) rfl 1 (by decide +kernel) rfl ⟨Nat.le_of_ble_eq_true rfl, Nat.le_of_ble_eq_true rfl⟩ rfl hl.1 (Nat.le_of_ble_eq_true rfl) ⟨Nat.zero_le _, Nat.zero_le _⟩ dL_orients_179) h (fun ra3 na3 ca3 H locs hp h => ?_)
        obtain ⟨hna3, hxa3, hWa3, hFa3⟩ := paW hp hWua3 (by omega) (or_w J hs5 hw) (hWua3).2.2.2.2
        subst hxa3
        refine lv_istore (lv' := [(6, .int (-100003)), (3, .int (whF R s1)), (5, .int ((rdI ((sq_X7_given R (nI s1) 1 sc - sq_X7_given R (nI s1) 0 sc) + 4000)) - 4000)), (4, .int (sq_X7_given R (nI s1) 0 sc)), (0, .ref (gz g + 0)), (1, .int (nI s1)), (2, .int (sq_X7_station R (nI s1) 2 sc))]) hx hb dL_orients_182 hl (by decide) rfl (fun ls hl => ?_)
        refine lv_iload_n hx hb dL_orients_184 rfl (lv_at hl 1 rfl) ?_
        refine lv_if_le (tgt := 221) hx hb dL_orients_185 (by decide) (fun b_185 => by first | exact absurd b_185 (wh_p hw) | exact absurd (wh_p hw) b_185) (fun b_185 => ?_)
        refine lv_iload hx hb dL_orients_188 (lv_at hl 0 rfl) ?_
        refine lv_ldc (v := (-100003)) hx hb F.2.2.2.1 (F.2.2.2.2.1 (Cond.constant RL 74 (-100003)) (List.mem_cons_of_mem _ wd_660)) dL_orients_190 ?_
        refine lv_icmp_ne (tgt := 219) hx hb dL_orients_192 (by decide) (fun b_192 => by first | exact absurd b_192 (by decide) | exact absurd (by decide) b_192) (fun b_192 => ?_)
        refine lv_aload_n hx hb dL_orients_195 rfl (lv_at hl 4 rfl) ?_
        refine lv_bipush (v := 8) hx hb dL_orients_196 (by decide) ?_
        refine u_iE (v := whF R s1) (ru_V (As := [.int 8]) (rest := []) F h hWa3.1 rfl (kw_count l g na3 ca3 hWa3 J 8 (v := whF R s1) (rfl)) (gV hjl wd_399 wd_400 wd_401 wd_16 wd_402) rfl 1 (by decide +kernel) rfl ⟨Nat.le_of_ble_eq_true rfl, Nat.le_of_ble_eq_true rfl⟩ rfl hl.1 (Nat.le_of_ble_eq_true rfl) ⟨Nat.zero_le _, Nat.zero_le _⟩ dL_orients_198) h (fun H locs h => ?_)
        refine lv_iload_n hx hb dL_orients_201 rfl (lv_at hl 1 rfl) ?_
        refine lv_icmp_ne (tgt := 219) hx hb dL_orients_202 (by decide) (fun b_202 => by first | exact absurd b_202 (rfl) | exact absurd (rfl) b_202) (fun b_202 => ?_)
        refine lv_aload_n hx hb dL_orients_205 rfl (lv_at hl 4 rfl) ?_
        refine lv_iload_n hx hb dL_orients_206 rfl (lv_at hl 5 rfl) ?_
        refine lv_iconst (v := 2) hx hb dL_orients_207 (by decide) ?_
        refine u_iE (v := sq_X7_station R (nI s1) 2 sc) (ru_V (As := [.int (nI s1), .int 2]) (rest := []) F h hWa3.1 rfl (kw_station l g na3 ca3 hWa3 J (nI s1) 2 (v := sq_X7_station R (nI s1) 2 sc) (rfl)) (gV hjl wd_584 wd_585 wd_586 wd_16 wd_587) rfl 2 (by decide +kernel) rfl ⟨Nat.le_of_ble_eq_true rfl, Nat.le_of_ble_eq_true rfl⟩ rfl hl.1 (Nat.le_of_ble_eq_true rfl) ⟨Nat.zero_le _, Nat.zero_le _⟩ dL_orients_208) h (fun H locs h => ?_)
        refine lv_iload_n hx hb dL_orients_211 rfl (lv_at hl 6 rfl) ?_
        refine lv_icmp_ne (tgt := 219) hx hb dL_orients_212 (by decide) (fun b_212 => by first | exact absurd b_212 (rfl) | exact absurd (rfl) b_212) (fun b_212 => ?_)
        refine lv_iconst (v := 1) hx hb dL_orients_215 (by decide) ?_
        refine lv_goto (tgt := 220) hx hb dL_orients_216 (by decide) ?_
        exact ret_z F h (by decide) (Nat.zero_le _) (Nat.zero_le _) dL_orients_220 (⟨rfl, by omega, _, _, _, _, hWa3, J⟩)
      have hp2 : pr < 2 := lp_lt (N := 2) rfl (by omega) (by decide) b_15
      refine lv_iconst (v := 2) hx hb dL_orients_18 (by decide) ?_
      refine lv_iload hx hb dL_orients_19 (lv_at hl 4 rfl) ?_
      refine lv_imul hx hb dL_orients_21 ?_
      refine r_top (w := .int (nI (2 * pr))) (congrArg Value.int (pk_mul 2 pr)) ?_
      refine lv_istore (lv' := [(5, .int (nI (2 * pr))), (0, .ref (gz g + 0)), (1, .int (nI s1)), (2, .int (sq_X7_station R (nI s1) 2 sc)), (3, .int (dvF R s1 pr)), (4, .int (nI pr))]) hx hb dL_orients_22 hl (by decide) rfl (fun ls hl => ?_)
      have jr : ∀ (H : Heap) (locs : List Loc) (ls : Array Slot), Hv g s H locs n c → lv_has ls 8 [(5, .int (nI (2 * pr))), (0, .ref (gz g + 0)), (1, .int (nI s1)), (2, .int (sq_X7_station R (nI s1) 2 sc)), (3, .int (dvF R s1 pr)), (4, .int (nI pr))] → W p l e (Rm 5 121 0 0) s m args below meth c0 H locs 0 0 (MQ below (Qi g (fun xr n' c' => xr = 1 ∧ n ≤ n' ∧ ∃ (lh' : Nat) (rs' : Int32) (R' : Nat → Int32) (hq' : Nat → Nat → Int32), Wd g c' lh' rs' R' hq' ∧ Jv R' sc cn tb)) args s 0 0 (mAf g)) (F0 m 93 ls [.int (sq_X7_reasonAgainst R s1 pr)]) := by
        intro H locs ls h hl
        refine lv_istore (lv' := [(6, .int (sq_X7_reasonAgainst R s1 pr)), (5, .int (nI (2 * pr))), (0, .ref (gz g + 0)), (1, .int (nI s1)), (2, .int (sq_X7_station R (nI s1) 2 sc)), (3, .int (dvF R s1 pr)), (4, .int (nI pr))]) hx hb dL_orients_93 hl (by decide) rfl (fun ls hl => ?_)
        refine lv_iload hx hb dL_orients_95 (lv_at hl 0 rfl) ?_
        refine lv_if_le (tgt := 115) hx hb dL_orients_97 (by decide) (fun b_97 => ?_) (fun b_97 => ?_)
        · skip
          refine lv_iload_n hx hb dL_orients_115 rfl (lv_at hl 5 rfl) ?_
          refine lv_istore_n (lv' := [(3, .int (dvF R s1 pr)), (6, .int (sq_X7_reasonAgainst R s1 pr)), (5, .int (nI (2 * pr))), (0, .ref (gz g + 0)), (1, .int (nI s1)), (2, .int (sq_X7_station R (nI s1) 2 sc)), (4, .int (nI pr))]) hx hb dL_orients_116 rfl hl (by decide) rfl (fun ls hl => ?_)
          have hl : lv_has ls 8 [(3, .int (dvF R s1 (pr + 1))), (6, .int (sq_X7_reasonAgainst R s1 pr)), (5, .int (nI (2 * pr))), (0, .ref (gz g + 0)), (1, .int (nI s1)), (2, .int (sq_X7_station R (nI s1) 2 sc)), (4, .int (nI pr))] := by rw [show (dvF R s1 (pr + 1) : Int32) = dvF R s1 pr from dv_l b_97]; exact hl
          refine lv_iinc (v := nI (pr + 1)) (lv' := [(4, .int (nI (pr + 1))), (3, .int (dvF R s1 (pr + 1))), (6, .int (sq_X7_reasonAgainst R s1 pr)), (5, .int (nI (2 * pr))), (0, .ref (gz g + 0)), (1, .int (nI s1)), (2, .int (sq_X7_station R (nI s1) 2 sc))]) hx hb dL_orients_117 hl (k := 6) rfl (by exact (nI_succ pr).symm) (by decide) rfl (fun ls hl => ?_)
          refine lv_goto (tgt := 12) hx hb dL_orients_120 (by decide) ?_
          exact ih_lop (pr + 1) (by omega) _ _ _ (by omega) h (lv_sub hl [4, 5, 6, 1, 0] rfl)
        refine lv_iload_n hx hb dL_orients_100 rfl (lv_at hl 5 rfl) ?_
        refine lv_if_eq (tgt := 110) hx hb dL_orients_101 (by decide) (fun b_101 => ?_) (fun b_101 => ?_)
        · skip
          refine lv_iload hx hb dL_orients_110 (lv_at hl 0 rfl) ?_
          refine lv_goto (tgt := 116) hx hb dL_orients_112 (by decide) ?_
          refine lv_istore_n (lv' := [(3, .int (sq_X7_reasonAgainst R s1 pr)), (6, .int (sq_X7_reasonAgainst R s1 pr)), (5, .int (nI (2 * pr))), (0, .ref (gz g + 0)), (1, .int (nI s1)), (2, .int (sq_X7_station R (nI s1) 2 sc)), (4, .int (nI pr))]) hx hb dL_orients_116 rfl hl (by decide) rfl (fun ls hl => ?_)
          have hl : lv_has ls 8 [(3, .int (dvF R s1 (pr + 1))), (6, .int (sq_X7_reasonAgainst R s1 pr)), (5, .int (nI (2 * pr))), (0, .ref (gz g + 0)), (1, .int (nI s1)), (2, .int (sq_X7_station R (nI s1) 2 sc)), (4, .int (nI pr))] := by rw [show (dvF R s1 (pr + 1) : Int32) = sq_X7_reasonAgainst R s1 pr from dv_z b_101]; exact hl
          refine lv_iinc (v := nI (pr + 1)) (lv' := [(4, .int (nI (pr + 1))), (3, .int (dvF R s1 (pr + 1))), (6, .int (sq_X7_reasonAgainst R s1 pr)), (5, .int (nI (2 * pr))), (0, .ref (gz g + 0)), (1, .int (nI s1)), (2, .int (sq_X7_station R (nI s1) 2 sc))]) hx hb dL_orients_117 hl (k := 6) rfl (by exact (nI_succ pr).symm) (by decide) rfl (fun ls hl => ?_)
          refine lv_goto (tgt := 12) hx hb dL_orients_120 (by decide) ?_
          exact ih_lop (pr + 1) (by omega) _ _ _ (by omega) h (lv_sub hl [4, 5, 6, 1, 0] rfl)
        refine lv_iload hx hb dL_orients_104 (lv_at hl 0 rfl) ?_
        refine lv_iload_n hx hb dL_orients_106 rfl (lv_at hl 5 rfl) ?_
        refine lv_icmp_ge (tgt := 115) hx hb dL_orients_107 (by decide) (fun b_107 => ?_) (fun b_107 => ?_)
        · skip
          refine lv_iload_n hx hb dL_orients_115 rfl (lv_at hl 5 rfl) ?_
          refine lv_istore_n (lv' := [(3, .int (dvF R s1 pr)), (6, .int (sq_X7_reasonAgainst R s1 pr)), (5, .int (nI (2 * pr))), (0, .ref (gz g + 0)), (1, .int (nI s1)), (2, .int (sq_X7_station R (nI s1) 2 sc)), (4, .int (nI pr))]) hx hb dL_orients_116 rfl hl (by decide) rfl (fun ls hl => ?_)
          have hl : lv_has ls 8 [(3, .int (dvF R s1 (pr + 1))), (6, .int (sq_X7_reasonAgainst R s1 pr)), (5, .int (nI (2 * pr))), (0, .ref (gz g + 0)), (1, .int (nI s1)), (2, .int (sq_X7_station R (nI s1) 2 sc)), (4, .int (nI pr))] := by rw [show (dvF R s1 (pr + 1) : Int32) = dvF R s1 pr from dv_g b_97 b_101 b_107]; exact hl
          refine lv_iinc (v := nI (pr + 1)) (lv' := [(4, .int (nI (pr + 1))), (3, .int (dvF R s1 (pr + 1))), (6, .int (sq_X7_reasonAgainst R s1 pr)), (5, .int (nI (2 * pr))), (0, .ref (gz g + 0)), (1, .int (nI s1)), (2, .int (sq_X7_station R (nI s1) 2 sc))]) hx hb dL_orients_117 hl (k := 6) rfl (by exact (nI_succ pr).symm) (by decide) rfl (fun ls hl => ?_)
          refine lv_goto (tgt := 12) hx hb dL_orients_120 (by decide) ?_
          exact ih_lop (pr + 1) (by omega) _ _ _ (by omega) h (lv_sub hl [4, 5, 6, 1, 0] rfl)
        refine lv_iload hx hb dL_orients_110 (lv_at hl 0 rfl) ?_
        refine lv_goto (tgt := 116) hx hb dL_orients_112 (by decide) ?_
        refine lv_istore_n (lv' := [(3, .int (sq_X7_reasonAgainst R s1 pr)), (6, .int (sq_X7_reasonAgainst R s1 pr)), (5, .int (nI (2 * pr))), (0, .ref (gz g + 0)), (1, .int (nI s1)), (2, .int (sq_X7_station R (nI s1) 2 sc)), (4, .int (nI pr))]) hx hb dL_orients_116 rfl hl (by decide) rfl (fun ls hl => ?_)
        have hl : lv_has ls 8 [(3, .int (dvF R s1 (pr + 1))), (6, .int (sq_X7_reasonAgainst R s1 pr)), (5, .int (nI (2 * pr))), (0, .ref (gz g + 0)), (1, .int (nI s1)), (2, .int (sq_X7_station R (nI s1) 2 sc)), (4, .int (nI pr))] := by rw [show (dvF R s1 (pr + 1) : Int32) = sq_X7_reasonAgainst R s1 pr from dv_s b_97 b_101 b_107]; exact hl
        refine lv_iinc (v := nI (pr + 1)) (lv' := [(4, .int (nI (pr + 1))), (3, .int (dvF R s1 (pr + 1))), (6, .int (sq_X7_reasonAgainst R s1 pr)), (5, .int (nI (2 * pr))), (0, .ref (gz g + 0)), (1, .int (nI s1)), (2, .int (sq_X7_station R (nI s1) 2 sc))]) hx hb dL_orients_117 hl (k := 6) rfl (by exact (nI_succ pr).symm) (by decide) rfl (fun ls hl => ?_)
        refine lv_goto (tgt := 12) hx hb dL_orients_120 (by decide) ?_
        exact ih_lop (pr + 1) (by omega) _ _ _ (by omega) h (lv_sub hl [4, 5, 6, 1, 0] rfl)
      by_cases ka : R (5 + 11 * (2 * pr) + 0) = 0
      · skip
        refine lv_aload_n hx hb dL_orients_24 rfl (lv_at hl 1 rfl) ?_
        refine lv_iload hx hb dL_orients_25 (lv_at hl 0 rfl) ?_
        refine lv_iconst (v := 2) hx hb dL_orients_27 (by decide) ?_
        refine u_iE (v := (-100005)) (ru_V (As := [.int (nI (2 * pr)), .int 2]) (rest := []) F h hWd.1 rfl (kw_wire l g n c hWd J (nI (2 * pr)) 2 (v := (-100005)) (wi_n (by omega) ka (by decide))) (gV hjl wd_390 wd_391 wd_392 wd_16 wd_393) rfl 2 (by decide +kernel) rfl ⟨Nat.le_of_ble_eq_true rfl, Nat.le_of_ble_eq_true rfl⟩ rfl hl.1 (Nat.le_of_ble_eq_true rfl) ⟨Nat.zero_le _, Nat.zero_le _⟩ dL_orients_28) h (fun H locs h => ?_)
        refine lv_if_lt (tgt := 46) hx hb dL_orients_31 (by decide) (fun b_31 => ?_) (fun b_31 => by first | exact absurd (by decide) b_31 | exact absurd b_31 (by decide))
        refine lv_iconst (v := 1) hx hb dL_orients_46 (by decide) ?_
        refine lv_goto (tgt := 93) hx hb dL_orients_47 (by decide) ?_
        refine r_top (w := .int (sq_X7_reasonAgainst R s1 pr)) (congrArg Value.int (ra_1 (Or.inl ka)).symm) ?_
        exact jr _ _ _ h (lv_sub hl [0, 1, 2, 3, 4, 5] rfl)
      by_cases kb : R (5 + 11 * (2 * pr + 1) + 0) = 0
      · skip
        refine lv_aload_n hx hb dL_orients_24 rfl (lv_at hl 1 rfl) ?_
        refine lv_iload hx hb dL_orients_25 (lv_at hl 0 rfl) ?_
        refine lv_iconst (v := 2) hx hb dL_orients_27 (by decide) ?_
        refine u_iE (v := R (5 + 11 * (2 * pr) + 3)) (ru_V (As := [.int (nI (2 * pr)), .int 2]) (rest := []) F h hWd.1 rfl (kw_wire l g n c hWd J (nI (2 * pr)) 2 (v := R (5 + 11 * (2 * pr) + 3)) (wi_2 (by omega) (b01_of (J.b (by omega)) ka))) (gV hjl wd_390 wd_391 wd_392 wd_16 wd_393) rfl 2 (by decide +kernel) rfl ⟨Nat.le_of_ble_eq_true rfl, Nat.le_of_ble_eq_true rfl⟩ rfl hl.1 (Nat.le_of_ble_eq_true rfl) ⟨Nat.zero_le _, Nat.zero_le _⟩ dL_orients_28) h (fun H locs h => ?_)
        refine lv_if_lt (tgt := 46) hx hb dL_orients_31 (by decide) (fun b_31 => by first | exact absurd b_31 (i_nlt (bt_ge (J.wg (w := 2 * pr) (by omega) (b01_of (J.b (by omega)) ka)).2.2.1 0 (by decide))) | exact absurd (i_nlt (bt_ge (J.wg (w := 2 * pr) (by omega) (b01_of (J.b (by omega)) ka)).2.2.1 0 (by decide))) b_31) (fun b_31 => ?_)
        refine lv_aload_n hx hb dL_orients_34 rfl (lv_at hl 1 rfl) ?_
        refine lv_iload hx hb dL_orients_35 (lv_at hl 0 rfl) ?_
        refine lv_iconst (v := 1) hx hb dL_orients_37 (by decide) ?_
        refine lv_iadd hx hb dL_orients_38 ?_
        refine r_top (w := .int (nI (2 * pr + 1))) (congrArg Value.int (nI_1 (2 * pr))) ?_
        refine lv_iconst (v := 2) hx hb dL_orients_39 (by decide) ?_
        refine u_iE (v := (-100005)) (ru_V (As := [.int (nI (2 * pr + 1)), .int 2]) (rest := []) F h hWd.1 rfl (kw_wire l g n c hWd J (nI (2 * pr + 1)) 2 (v := (-100005)) (wi_n (by omega) kb (by decide))) (gV hjl wd_390 wd_391 wd_392 wd_16 wd_393) rfl 2 (by decide +kernel) rfl ⟨Nat.le_of_ble_eq_true rfl, Nat.le_of_ble_eq_true rfl⟩ rfl hl.1 (Nat.le_of_ble_eq_true rfl) ⟨Nat.zero_le _, Nat.zero_le _⟩ dL_orients_40) h (fun H locs h => ?_)
        refine lv_if_ge (tgt := 50) hx hb dL_orients_43 (by decide) (fun b_43 => by first | exact absurd b_43 (by decide) | exact absurd (by decide) b_43) (fun b_43 => ?_)
        refine lv_iconst (v := 1) hx hb dL_orients_46 (by decide) ?_
        refine lv_goto (tgt := 93) hx hb dL_orients_47 (by decide) ?_
        refine r_top (w := .int (sq_X7_reasonAgainst R s1 pr)) (congrArg Value.int (ra_1 (Or.inr kb)).symm) ?_
        exact jr _ _ _ h (lv_sub hl [0, 1, 2, 3, 4, 5] rfl)
      have ka1 := b01_of (J.b (w := 2 * pr) (by omega)) ka
      have kb1 := b01_of (J.b (w := 2 * pr + 1) (by omega)) kb
      by_cases ua : R (84 + 6 * (4 * s1 + 2 * pr) + 0) = 0
      · skip
        have ka1 := b01_of (J.b (w := 2 * pr) (by omega)) ka
        have kb1 := b01_of (J.b (w := 2 * pr + 1) (by omega)) kb
        refine lv_aload_n hx hb dL_orients_24 rfl (lv_at hl 1 rfl) ?_
        refine lv_iload hx hb dL_orients_25 (lv_at hl 0 rfl) ?_
        refine lv_iconst (v := 2) hx hb dL_orients_27 (by decide) ?_
        refine u_iE (v := R (5 + 11 * (2 * pr) + 3)) (ru_V (As := [.int (nI (2 * pr)), .int 2]) (rest := []) F h hWd.1 rfl (kw_wire l g n c hWd J (nI (2 * pr)) 2 (v := R (5 + 11 * (2 * pr) + 3)) (wi_2 (by omega) (b01_of (J.b (by omega)) ka))) (gV hjl wd_390 wd_391 wd_392 wd_16 wd_393) rfl 2 (by decide +kernel) rfl ⟨Nat.le_of_ble_eq_true rfl, Nat.le_of_ble_eq_true rfl⟩ rfl hl.1 (Nat.le_of_ble_eq_true rfl) ⟨Nat.zero_le _, Nat.zero_le _⟩ dL_orients_28) h (fun H locs h => ?_)
        refine lv_if_lt (tgt := 46) hx hb dL_orients_31 (by decide) (fun b_31 => by first | exact absurd b_31 (i_nlt (bt_ge (J.wg (w := 2 * pr) (by omega) (b01_of (J.b (by omega)) ka)).2.2.1 0 (by decide))) | exact absurd (i_nlt (bt_ge (J.wg (w := 2 * pr) (by omega) (b01_of (J.b (by omega)) ka)).2.2.1 0 (by decide))) b_31) (fun b_31 => ?_)
        refine lv_aload_n hx hb dL_orients_34 rfl (lv_at hl 1 rfl) ?_
        refine lv_iload hx hb dL_orients_35 (lv_at hl 0 rfl) ?_
        refine lv_iconst (v := 1) hx hb dL_orients_37 (by decide) ?_
        refine lv_iadd hx hb dL_orients_38 ?_
        refine r_top (w := .int (nI (2 * pr + 1))) (congrArg Value.int (nI_1 (2 * pr))) ?_
        refine lv_iconst (v := 2) hx hb dL_orients_39 (by decide) ?_
        refine u_iE (v := R (5 + 11 * (2 * pr + 1) + 3)) (ru_V (As := [.int (nI (2 * pr + 1)), .int 2]) (rest := []) F h hWd.1 rfl (kw_wire l g n c hWd J (nI (2 * pr + 1)) 2 (v := R (5 + 11 * (2 * pr + 1) + 3)) (wi_2 (by omega) (b01_of (J.b (by omega)) kb))) (gV hjl wd_390 wd_391 wd_392 wd_16 wd_393) rfl 2 (by decide +kernel) rfl ⟨Nat.le_of_ble_eq_true rfl, Nat.le_of_ble_eq_true rfl⟩ rfl hl.1 (Nat.le_of_ble_eq_true rfl) ⟨Nat.zero_le _, Nat.zero_le _⟩ dL_orients_40) h (fun H locs h => ?_)
        refine lv_if_ge (tgt := 50) hx hb dL_orients_43 (by decide) (fun b_43 => ?_) (fun b_43 => by first | exact absurd (bt_ge (J.wg (w := 2 * pr + 1) (by omega) (b01_of (J.b (by omega)) kb)).2.2.1 0 (by decide)) b_43 | exact absurd b_43 (bt_ge (J.wg (w := 2 * pr + 1) (by omega) (b01_of (J.b (by omega)) kb)).2.2.1 0 (by decide)))
        refine lv_aload_n hx hb dL_orients_50 rfl (lv_at hl 1 rfl) ?_
        refine lv_iload_n hx hb dL_orients_51 rfl (lv_at hl 2 rfl) ?_
        refine lv_iload hx hb dL_orients_52 (lv_at hl 0 rfl) ?_
        refine lv_iconst (v := 3) hx hb dL_orients_54 (by decide) ?_
        refine u_iE (v := (-100005)) (ru_V (As := [.int (nI s1), .int (nI (2 * pr)), .int 3]) (rest := []) F h hWd.1 rfl (kw_observation l g n c hWd J (nI s1) (nI (2 * pr)) 3 (v := (-100005)) (ob_n J.s4 J.s5 hs5 (by omega) ua (by decide))) (gV hjl wd_518 wd_519 wd_520 wd_16 wd_521) rfl 3 (by decide +kernel) rfl ⟨Nat.le_of_ble_eq_true rfl, Nat.le_of_ble_eq_true rfl⟩ rfl hl.1 (Nat.le_of_ble_eq_true rfl) ⟨Nat.zero_le _, Nat.zero_le _⟩ dL_orients_55) h (fun H locs h => ?_)
        refine lv_if_lt (tgt := 74) hx hb dL_orients_58 (by decide) (fun b_58 => ?_) (fun b_58 => by first | exact absurd (by decide) b_58 | exact absurd b_58 (by decide))
        refine lv_iconst (v := 3) hx hb dL_orients_74 (by decide) ?_
        refine lv_goto (tgt := 93) hx hb dL_orients_75 (by decide) ?_
        refine r_top (w := .int (sq_X7_reasonAgainst R s1 pr)) (congrArg Value.int (ra_3 ka1 kb1 (Or.inl ua)).symm) ?_
        exact jr _ _ _ h (lv_sub hl [0, 1, 2, 3, 4, 5] rfl)
      by_cases ub : R (84 + 6 * (4 * s1 + (2 * pr + 1)) + 0) = 0
      · skip
        have ka1 := b01_of (J.b (w := 2 * pr) (by omega)) ka
        have kb1 := b01_of (J.b (w := 2 * pr + 1) (by omega)) kb
        refine lv_aload_n hx hb dL_orients_24 rfl (lv_at hl 1 rfl) ?_
        refine lv_iload hx hb dL_orients_25 (lv_at hl 0 rfl) ?_
        refine lv_iconst (v := 2) hx hb dL_orients_27 (by decide) ?_
        refine u_iE (v := R (5 + 11 * (2 * pr) + 3)) (ru_V (As := [.int (nI (2 * pr)), .int 2]) (rest := []) F h hWd.1 rfl (kw_wire l g n c hWd J (nI (2 * pr)) 2 (v := R (5 + 11 * (2 * pr) + 3)) (wi_2 (by omega) (b01_of (J.b (by omega)) ka))) (gV hjl wd_390 wd_391 wd_392 wd_16 wd_393) rfl 2 (by decide +kernel) rfl ⟨Nat.le_of_ble_eq_true rfl, Nat.le_of_ble_eq_true rfl⟩ rfl hl.1 (Nat.le_of_ble_eq_true rfl) ⟨Nat.zero_le _, Nat.zero_le _⟩ dL_orients_28) h (fun H locs h => ?_)
        refine lv_if_lt (tgt := 46) hx hb dL_orients_31 (by decide) (fun b_31 => by first | exact absurd b_31 (i_nlt (bt_ge (J.wg (w := 2 * pr) (by omega) (b01_of (J.b (by omega)) ka)).2.2.1 0 (by decide))) | exact absurd (i_nlt (bt_ge (J.wg (w := 2 * pr) (by omega) (b01_of (J.b (by omega)) ka)).2.2.1 0 (by decide))) b_31) (fun b_31 => ?_)
        refine lv_aload_n hx hb dL_orients_34 rfl (lv_at hl 1 rfl) ?_
        refine lv_iload hx hb dL_orients_35 (lv_at hl 0 rfl) ?_
        refine lv_iconst (v := 1) hx hb dL_orients_37 (by decide) ?_
        refine lv_iadd hx hb dL_orients_38 ?_
        refine r_top (w := .int (nI (2 * pr + 1))) (congrArg Value.int (nI_1 (2 * pr))) ?_
        refine lv_iconst (v := 2) hx hb dL_orients_39 (by decide) ?_
        refine u_iE (v := R (5 + 11 * (2 * pr + 1) + 3)) (ru_V (As := [.int (nI (2 * pr + 1)), .int 2]) (rest := []) F h hWd.1 rfl (kw_wire l g n c hWd J (nI (2 * pr + 1)) 2 (v := R (5 + 11 * (2 * pr + 1) + 3)) (wi_2 (by omega) (b01_of (J.b (by omega)) kb))) (gV hjl wd_390 wd_391 wd_392 wd_16 wd_393) rfl 2 (by decide +kernel) rfl ⟨Nat.le_of_ble_eq_true rfl, Nat.le_of_ble_eq_true rfl⟩ rfl hl.1 (Nat.le_of_ble_eq_true rfl) ⟨Nat.zero_le _, Nat.zero_le _⟩ dL_orients_40) h (fun H locs h => ?_)
        refine lv_if_ge (tgt := 50) hx hb dL_orients_43 (by decide) (fun b_43 => ?_) (fun b_43 => by first | exact absurd (bt_ge (J.wg (w := 2 * pr + 1) (by omega) (b01_of (J.b (by omega)) kb)).2.2.1 0 (by decide)) b_43 | exact absurd b_43 (bt_ge (J.wg (w := 2 * pr + 1) (by omega) (b01_of (J.b (by omega)) kb)).2.2.1 0 (by decide)))
        refine lv_aload_n hx hb dL_orients_50 rfl (lv_at hl 1 rfl) ?_
        refine lv_iload_n hx hb dL_orients_51 rfl (lv_at hl 2 rfl) ?_
        refine lv_iload hx hb dL_orients_52 (lv_at hl 0 rfl) ?_
        refine lv_iconst (v := 3) hx hb dL_orients_54 (by decide) ?_
        refine u_iE (v := R (84 + 6 * (4 * s1 + 2 * pr) + 4)) (ru_V (As := [.int (nI s1), .int (nI (2 * pr)), .int 3]) (rest := []) F h hWd.1 rfl (kw_observation l g n c hWd J (nI s1) (nI (2 * pr)) 3 (v := R (84 + 6 * (4 * s1 + 2 * pr) + 4)) (ob_3 J.s4 J.s5 hs5 (by omega) ua)) (gV hjl wd_518 wd_519 wd_520 wd_16 wd_521) rfl 3 (by decide +kernel) rfl ⟨Nat.le_of_ble_eq_true rfl, Nat.le_of_ble_eq_true rfl⟩ rfl hl.1 (Nat.le_of_ble_eq_true rfl) ⟨Nat.zero_le _, Nat.zero_le _⟩ dL_orients_55) h (fun H locs h => ?_)
        refine lv_if_lt (tgt := 74) hx hb dL_orients_58 (by decide) (fun b_58 => by first | exact absurd b_58 (i_nlt (bt_ge (J.v (w := 2 * pr) hs5 (by omega) (b01_of (J.ob (by omega) (by omega)) ua)).2.2.1 0 (by decide))) | exact absurd (i_nlt (bt_ge (J.v (w := 2 * pr) hs5 (by omega) (b01_of (J.ob (by omega) (by omega)) ua)).2.2.1 0 (by decide))) b_58) (fun b_58 => ?_)
        refine lv_aload_n hx hb dL_orients_61 rfl (lv_at hl 1 rfl) ?_
        refine lv_iload_n hx hb dL_orients_62 rfl (lv_at hl 2 rfl) ?_
        refine lv_iload hx hb dL_orients_63 (lv_at hl 0 rfl) ?_
        refine lv_iconst (v := 1) hx hb dL_orients_65 (by decide) ?_
        refine lv_iadd hx hb dL_orients_66 ?_
        refine r_top (w := .int (nI (2 * pr + 1))) (congrArg Value.int (nI_1 (2 * pr))) ?_
        refine lv_iconst (v := 3) hx hb dL_orients_67 (by decide) ?_
        refine u_iE (v := (-100005)) (ru_V (As := [.int (nI s1), .int (nI (2 * pr + 1)), .int 3]) (rest := []) F h hWd.1 rfl (kw_observation l g n c hWd J (nI s1) (nI (2 * pr + 1)) 3 (v := (-100005)) (ob_n J.s4 J.s5 hs5 (by omega) ub (by decide))) (gV hjl wd_518 wd_519 wd_520 wd_16 wd_521) rfl 3 (by decide +kernel) rfl ⟨Nat.le_of_ble_eq_true rfl, Nat.le_of_ble_eq_true rfl⟩ rfl hl.1 (Nat.le_of_ble_eq_true rfl) ⟨Nat.zero_le _, Nat.zero_le _⟩ dL_orients_68) h (fun H locs h => ?_)
        refine lv_if_ge (tgt := 78) hx hb dL_orients_71 (by decide) (fun b_71 => by first | exact absurd b_71 (by decide) | exact absurd (by decide) b_71) (fun b_71 => ?_)
        refine lv_iconst (v := 3) hx hb dL_orients_74 (by decide) ?_
        refine lv_goto (tgt := 93) hx hb dL_orients_75 (by decide) ?_
        refine r_top (w := .int (sq_X7_reasonAgainst R s1 pr)) (congrArg Value.int (ra_3 ka1 kb1 (Or.inr ub)).symm) ?_
        exact jr _ _ _ h (lv_sub hl [0, 1, 2, 3, 4, 5] rfl)
      by_cases rz : sq_X7_reasonAgainst R s1 pr = 0
      · skip
        have ka1 := b01_of (J.b (w := 2 * pr) (by omega)) ka
        have kb1 := b01_of (J.b (w := 2 * pr + 1) (by omega)) kb
        refine lv_aload_n hx hb dL_orients_24 rfl (lv_at hl 1 rfl) ?_
        refine lv_iload hx hb dL_orients_25 (lv_at hl 0 rfl) ?_
        refine lv_iconst (v := 2) hx hb dL_orients_27 (by decide) ?_
        refine u_iE (v := R (5 + 11 * (2 * pr) + 3)) (ru_V (As := [.int (nI (2 * pr)), .int 2]) (rest := []) F h hWd.1 rfl (kw_wire l g n c hWd J (nI (2 * pr)) 2 (v := R (5 + 11 * (2 * pr) + 3)) (wi_2 (by omega) (b01_of (J.b (by omega)) ka))) (gV hjl wd_390 wd_391 wd_392 wd_16 wd_393) rfl 2 (by decide +kernel) rfl ⟨Nat.le_of_ble_eq_true rfl, Nat.le_of_ble_eq_true rfl⟩ rfl hl.1 (Nat.le_of_ble_eq_true rfl) ⟨Nat.zero_le _, Nat.zero_le _⟩ dL_orients_28) h (fun H locs h => ?_)
        refine lv_if_lt (tgt := 46) hx hb dL_orients_31 (by decide) (fun b_31 => by first | exact absurd b_31 (i_nlt (bt_ge (J.wg (w := 2 * pr) (by omega) (b01_of (J.b (by omega)) ka)).2.2.1 0 (by decide))) | exact absurd (i_nlt (bt_ge (J.wg (w := 2 * pr) (by omega) (b01_of (J.b (by omega)) ka)).2.2.1 0 (by decide))) b_31) (fun b_31 => ?_)
        refine lv_aload_n hx hb dL_orients_34 rfl (lv_at hl 1 rfl) ?_
        refine lv_iload hx hb dL_orients_35 (lv_at hl 0 rfl) ?_
        refine lv_iconst (v := 1) hx hb dL_orients_37 (by decide) ?_
        refine lv_iadd hx hb dL_orients_38 ?_
        refine r_top (w := .int (nI (2 * pr + 1))) (congrArg Value.int (nI_1 (2 * pr))) ?_
        refine lv_iconst (v := 2) hx hb dL_orients_39 (by decide) ?_
        refine u_iE (v := R (5 + 11 * (2 * pr + 1) + 3)) (ru_V (As := [.int (nI (2 * pr + 1)), .int 2]) (rest := []) F h hWd.1 rfl (kw_wire l g n c hWd J (nI (2 * pr + 1)) 2 (v := R (5 + 11 * (2 * pr + 1) + 3)) (wi_2 (by omega) (b01_of (J.b (by omega)) kb))) (gV hjl wd_390 wd_391 wd_392 wd_16 wd_393) rfl 2 (by decide +kernel) rfl ⟨Nat.le_of_ble_eq_true rfl, Nat.le_of_ble_eq_true rfl⟩ rfl hl.1 (Nat.le_of_ble_eq_true rfl) ⟨Nat.zero_le _, Nat.zero_le _⟩ dL_orients_40) h (fun H locs h => ?_)
        refine lv_if_ge (tgt := 50) hx hb dL_orients_43 (by decide) (fun b_43 => ?_) (fun b_43 => by first | exact absurd (bt_ge (J.wg (w := 2 * pr + 1) (by omega) (b01_of (J.b (by omega)) kb)).2.2.1 0 (by decide)) b_43 | exact absurd b_43 (bt_ge (J.wg (w := 2 * pr + 1) (by omega) (b01_of (J.b (by omega)) kb)).2.2.1 0 (by decide)))
        refine lv_aload_n hx hb dL_orients_50 rfl (lv_at hl 1 rfl) ?_
        refine lv_iload_n hx hb dL_orients_51 rfl (lv_at hl 2 rfl) ?_
        refine lv_iload hx hb dL_orients_52 (lv_at hl 0 rfl) ?_
        refine lv_iconst (v := 3) hx hb dL_orients_54 (by decide) ?_
        refine u_iE (v := R (84 + 6 * (4 * s1 + 2 * pr) + 4)) (ru_V (As := [.int (nI s1), .int (nI (2 * pr)), .int 3]) (rest := []) F h hWd.1 rfl (kw_observation l g n c hWd J (nI s1) (nI (2 * pr)) 3 (v := R (84 + 6 * (4 * s1 + 2 * pr) + 4)) (ob_3 J.s4 J.s5 hs5 (by omega) ua)) (gV hjl wd_518 wd_519 wd_520 wd_16 wd_521) rfl 3 (by decide +kernel) rfl ⟨Nat.le_of_ble_eq_true rfl, Nat.le_of_ble_eq_true rfl⟩ rfl hl.1 (Nat.le_of_ble_eq_true rfl) ⟨Nat.zero_le _, Nat.zero_le _⟩ dL_orients_55) h (fun H locs h => ?_)
        refine lv_if_lt (tgt := 74) hx hb dL_orients_58 (by decide) (fun b_58 => by first | exact absurd b_58 (i_nlt (bt_ge (J.v (w := 2 * pr) hs5 (by omega) (b01_of (J.ob (by omega) (by omega)) ua)).2.2.1 0 (by decide))) | exact absurd (i_nlt (bt_ge (J.v (w := 2 * pr) hs5 (by omega) (b01_of (J.ob (by omega) (by omega)) ua)).2.2.1 0 (by decide))) b_58) (fun b_58 => ?_)
        refine lv_aload_n hx hb dL_orients_61 rfl (lv_at hl 1 rfl) ?_
        refine lv_iload_n hx hb dL_orients_62 rfl (lv_at hl 2 rfl) ?_
        refine lv_iload hx hb dL_orients_63 (lv_at hl 0 rfl) ?_
        refine lv_iconst (v := 1) hx hb dL_orients_65 (by decide) ?_
        refine lv_iadd hx hb dL_orients_66 ?_
        refine r_top (w := .int (nI (2 * pr + 1))) (congrArg Value.int (nI_1 (2 * pr))) ?_
        refine lv_iconst (v := 3) hx hb dL_orients_67 (by decide) ?_
        refine u_iE (v := R (84 + 6 * (4 * s1 + (2 * pr + 1)) + 4)) (ru_V (As := [.int (nI s1), .int (nI (2 * pr + 1)), .int 3]) (rest := []) F h hWd.1 rfl (kw_observation l g n c hWd J (nI s1) (nI (2 * pr + 1)) 3 (v := R (84 + 6 * (4 * s1 + (2 * pr + 1)) + 4)) (ob_3 J.s4 J.s5 hs5 (by omega) ub)) (gV hjl wd_518 wd_519 wd_520 wd_16 wd_521) rfl 3 (by decide +kernel) rfl ⟨Nat.le_of_ble_eq_true rfl, Nat.le_of_ble_eq_true rfl⟩ rfl hl.1 (Nat.le_of_ble_eq_true rfl) ⟨Nat.zero_le _, Nat.zero_le _⟩ dL_orients_68) h (fun H locs h => ?_)
        refine lv_if_ge (tgt := 78) hx hb dL_orients_71 (by decide) (fun b_71 => ?_) (fun b_71 => by first | exact absurd (bt_ge (J.v (w := 2 * pr + 1) hs5 (by omega) (b01_of (J.ob (by omega) (by omega)) ub)).2.2.1 0 (by decide)) b_71 | exact absurd b_71 (bt_ge (J.v (w := 2 * pr + 1) hs5 (by omega) (b01_of (J.ob (by omega) (by omega)) ub)).2.2.1 0 (by decide)))
        refine lv_aload_n hx hb dL_orients_78 rfl (lv_at hl 1 rfl) ?_
        refine lv_iload_n hx hb dL_orients_79 rfl (lv_at hl 2 rfl) ?_
        refine lv_iload hx hb dL_orients_80 (lv_at hl 5 rfl) ?_
        refine u_iE (v := sq_X7_orientationFrom R s1 pr) (ru_V (As := [.int (nI s1), .int (nI pr)]) (rest := []) F h hWd.1 rfl (kw_given l g n c hWd J (nI s1) (nI pr) (v := sq_X7_orientationFrom R s1 pr) (gv_v J.s4 J.s5 hs5 hp2 rz)) (gV hjl wd_557 wd_558 wd_559 wd_16 wd_560) rfl 2 (by decide +kernel) rfl ⟨Nat.le_of_ble_eq_true rfl, Nat.le_of_ble_eq_true rfl⟩ rfl hl.1 (Nat.le_of_ble_eq_true rfl) ⟨Nat.zero_le _, Nat.zero_le _⟩ dL_orients_82) h (fun H locs h => ?_)
        refine lv_if_ge (tgt := 92) hx hb dL_orients_85 (by decide) (fun b_85 => ?_) (fun b_85 => by first | exact absurd (bt_ge or_r 0 (by decide)) b_85 | exact absurd b_85 (bt_ge or_r 0 (by decide)))
        refine lv_iconst (v := 0) hx hb dL_orients_92 (by decide) ?_
        refine r_top (w := .int (sq_X7_reasonAgainst R s1 pr)) (congrArg Value.int (rz).symm) ?_
        exact jr _ _ _ h (lv_sub hl [0, 1, 2, 3, 4, 5] rfl)
      refine lv_aload_n hx hb dL_orients_24 rfl (lv_at hl 1 rfl) ?_
      refine lv_iload hx hb dL_orients_25 (lv_at hl 0 rfl) ?_
      refine lv_iconst (v := 2) hx hb dL_orients_27 (by decide) ?_
      refine u_iE (v := R (5 + 11 * (2 * pr) + 3)) (ru_V (As := [.int (nI (2 * pr)), .int 2]) (rest := []) F h hWd.1 rfl (kw_wire l g n c hWd J (nI (2 * pr)) 2 (v := R (5 + 11 * (2 * pr) + 3)) (wi_2 (by omega) (b01_of (J.b (by omega)) ka))) (gV hjl wd_390 wd_391 wd_392 wd_16 wd_393) rfl 2 (by decide +kernel) rfl ⟨Nat.le_of_ble_eq_true rfl, Nat.le_of_ble_eq_true rfl⟩ rfl hl.1 (Nat.le_of_ble_eq_true rfl) ⟨Nat.zero_le _, Nat.zero_le _⟩ dL_orients_28) h (fun H locs h => ?_)
      refine lv_if_lt (tgt := 46) hx hb dL_orients_31 (by decide) (fun b_31 => by first | exact absurd b_31 (i_nlt (bt_ge (J.wg (w := 2 * pr) (by omega) (b01_of (J.b (by omega)) ka)).2.2.1 0 (by decide))) | exact absurd (i_nlt (bt_ge (J.wg (w := 2 * pr) (by omega) (b01_of (J.b (by omega)) ka)).2.2.1 0 (by decide))) b_31) (fun b_31 => ?_)
      refine lv_aload_n hx hb dL_orients_34 rfl (lv_at hl 1 rfl) ?_
      refine lv_iload hx hb dL_orients_35 (lv_at hl 0 rfl) ?_
      refine lv_iconst (v := 1) hx hb dL_orients_37 (by decide) ?_
      refine lv_iadd hx hb dL_orients_38 ?_
      refine r_top (w := .int (nI (2 * pr + 1))) (congrArg Value.int (nI_1 (2 * pr))) ?_
      refine lv_iconst (v := 2) hx hb dL_orients_39 (by decide) ?_
      refine u_iE (v := R (5 + 11 * (2 * pr + 1) + 3)) (ru_V (As := [.int (nI (2 * pr + 1)), .int 2]) (rest := []) F h hWd.1 rfl (kw_wire l g n c hWd J (nI (2 * pr + 1)) 2 (v := R (5 + 11 * (2 * pr + 1) + 3)) (wi_2 (by omega) (b01_of (J.b (by omega)) kb))) (gV hjl wd_390 wd_391 wd_392 wd_16 wd_393) rfl 2 (by decide +kernel) rfl ⟨Nat.le_of_ble_eq_true rfl, Nat.le_of_ble_eq_true rfl⟩ rfl hl.1 (Nat.le_of_ble_eq_true rfl) ⟨Nat.zero_le _, Nat.zero_le _⟩ dL_orients_40) h (fun H locs h => ?_)
      refine lv_if_ge (tgt := 50) hx hb dL_orients_43 (by decide) (fun b_43 => ?_) (fun b_43 => by first | exact absurd (bt_ge (J.wg (w := 2 * pr + 1) (by omega) (b01_of (J.b (by omega)) kb)).2.2.1 0 (by decide)) b_43 | exact absurd b_43 (bt_ge (J.wg (w := 2 * pr + 1) (by omega) (b01_of (J.b (by omega)) kb)).2.2.1 0 (by decide)))
      refine lv_aload_n hx hb dL_orients_50 rfl (lv_at hl 1 rfl) ?_
      refine lv_iload_n hx hb dL_orients_51 rfl (lv_at hl 2 rfl) ?_
      refine lv_iload hx hb dL_orients_52 (lv_at hl 0 rfl) ?_
      refine lv_iconst (v := 3) hx hb dL_orients_54 (by decide) ?_
      refine u_iE (v := R (84 + 6 * (4 * s1 + 2 * pr) + 4)) (ru_V (As := [.int (nI s1), .int (nI (2 * pr)), .int 3]) (rest := []) F h hWd.1 rfl (kw_observation l g n c hWd J (nI s1) (nI (2 * pr)) 3 (v := R (84 + 6 * (4 * s1 + 2 * pr) + 4)) (ob_3 J.s4 J.s5 hs5 (by omega) ua)) (gV hjl wd_518 wd_519 wd_520 wd_16 wd_521) rfl 3 (by decide +kernel) rfl ⟨Nat.le_of_ble_eq_true rfl, Nat.le_of_ble_eq_true rfl⟩ rfl hl.1 (Nat.le_of_ble_eq_true rfl) ⟨Nat.zero_le _, Nat.zero_le _⟩ dL_orients_55) h (fun H locs h => ?_)
      refine lv_if_lt (tgt := 74) hx hb dL_orients_58 (by decide) (fun b_58 => by first | exact absurd b_58 (i_nlt (bt_ge (J.v (w := 2 * pr) hs5 (by omega) (b01_of (J.ob (by omega) (by omega)) ua)).2.2.1 0 (by decide))) | exact absurd (i_nlt (bt_ge (J.v (w := 2 * pr) hs5 (by omega) (b01_of (J.ob (by omega) (by omega)) ua)).2.2.1 0 (by decide))) b_58) (fun b_58 => ?_)
      refine lv_aload_n hx hb dL_orients_61 rfl (lv_at hl 1 rfl) ?_
      refine lv_iload_n hx hb dL_orients_62 rfl (lv_at hl 2 rfl) ?_
      refine lv_iload hx hb dL_orients_63 (lv_at hl 0 rfl) ?_
      refine lv_iconst (v := 1) hx hb dL_orients_65 (by decide) ?_
      refine lv_iadd hx hb dL_orients_66 ?_
      refine r_top (w := .int (nI (2 * pr + 1))) (congrArg Value.int (nI_1 (2 * pr))) ?_
      refine lv_iconst (v := 3) hx hb dL_orients_67 (by decide) ?_
      refine u_iE (v := R (84 + 6 * (4 * s1 + (2 * pr + 1)) + 4)) (ru_V (As := [.int (nI s1), .int (nI (2 * pr + 1)), .int 3]) (rest := []) F h hWd.1 rfl (kw_observation l g n c hWd J (nI s1) (nI (2 * pr + 1)) 3 (v := R (84 + 6 * (4 * s1 + (2 * pr + 1)) + 4)) (ob_3 J.s4 J.s5 hs5 (by omega) ub)) (gV hjl wd_518 wd_519 wd_520 wd_16 wd_521) rfl 3 (by decide +kernel) rfl ⟨Nat.le_of_ble_eq_true rfl, Nat.le_of_ble_eq_true rfl⟩ rfl hl.1 (Nat.le_of_ble_eq_true rfl) ⟨Nat.zero_le _, Nat.zero_le _⟩ dL_orients_68) h (fun H locs h => ?_)
      refine lv_if_ge (tgt := 78) hx hb dL_orients_71 (by decide) (fun b_71 => ?_) (fun b_71 => by first | exact absurd (bt_ge (J.v (w := 2 * pr + 1) hs5 (by omega) (b01_of (J.ob (by omega) (by omega)) ub)).2.2.1 0 (by decide)) b_71 | exact absurd b_71 (bt_ge (J.v (w := 2 * pr + 1) hs5 (by omega) (b01_of (J.ob (by omega) (by omega)) ub)).2.2.1 0 (by decide)))
      refine lv_aload_n hx hb dL_orients_78 rfl (lv_at hl 1 rfl) ?_
      refine lv_iload_n hx hb dL_orients_79 rfl (lv_at hl 2 rfl) ?_
      refine lv_iload hx hb dL_orients_80 (lv_at hl 5 rfl) ?_
      refine u_iE (v := (-100005)) (ru_V (As := [.int (nI s1), .int (nI pr)]) (rest := []) F h hWd.1 rfl (kw_given l g n c hWd J (nI s1) (nI pr) (v := (-100005)) (gv_n J.s4 J.s5 hs5 hp2 rz)) (gV hjl wd_557 wd_558 wd_559 wd_16 wd_560) rfl 2 (by decide +kernel) rfl ⟨Nat.le_of_ble_eq_true rfl, Nat.le_of_ble_eq_true rfl⟩ rfl hl.1 (Nat.le_of_ble_eq_true rfl) ⟨Nat.zero_le _, Nat.zero_le _⟩ dL_orients_82) h (fun H locs h => ?_)
      refine lv_if_ge (tgt := 92) hx hb dL_orients_85 (by decide) (fun b_85 => by first | exact absurd b_85 (by decide) | exact absurd (by decide) b_85) (fun b_85 => ?_)
      refine lv_iconst (v := 4) hx hb dL_orients_88 (by decide) ?_
      refine lv_goto (tgt := 93) hx hb dL_orients_89 (by decide) ?_
      refine r_top (w := .int (sq_X7_reasonAgainst R s1 pr)) (congrArg Value.int (ra_n4 ka1 kb1 ua ub rz).symm) ?_
      exact jr _ _ _ h (lv_sub hl [0, 1, 2, 3, 4, 5] rfl)
  exact lop _ 0 (Nat.zero_le _) _ _ _ (Nat.le_refl _) h (lv_sub hl [3, 4, 2, 1, 0] rfl)
