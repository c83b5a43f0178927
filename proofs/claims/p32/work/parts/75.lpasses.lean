/-! The law: time passes. -/
set_option maxHeartbeats 4000000 in
set_option maxRecDepth 100000 in
theorem k_L_passes (l : Launch) (g : Gf) (n : Nat) (c : Mp) {lh : Nat} {rs : Int32} {R : Nat → Int32} {hq : Nat → Nat → Int32} (hWd : Wd g c lh rs R hq) {sc cn tb : Nat} (J : Jv R sc cn tb) (tz : Nat) (hz1 : 1 ≤ tz) (hz6 : tz ≤ 60) (hn : 352 ≤ n) (ht : tb ≤ 900000000) : Ct l g yL_passes wsL_passes 5 107 2 8 [.ref (gz g + 0), .int (nI tz)] n c (Qi g (fun xr n' c' => xr = 1 ∧ n ≤ n' ∧ ∃ (lh' : Nat) (rs' : Int32) (R' : Nat → Int32) (hq' : Nat → Nat → Int32), Wd g c' lh' rs' R' hq' ∧ Jv R' sc cn (tb + 60))) := by
  refine ent (by decide) rfl (Nat.le_of_ble_eq_true rfl) ?_
  intro p e s m args below meth c0 F h ls hl
  have hx := F.1
  have hb := F.2.1
  have hl : lv_has ls 7 [(0, .ref (gz g + 0)), (1, .int (nI tz))] := hl
  refine lv_iconst (v := 4) hx hb dL_passes_0 (by decide) ?_
  refine r_newa (atype := .int) (ty := .int) F h (List.mem_cons_of_mem _ wd_244) rfl 0 rfl (fun _ z => z) (N := 4) (a0 := (4, .inl (fun _ => 0))) (vp_cell_i _ _ _) (by decide) (by decide) (by decide) (by decide) (by decide) dL_passes_1 (fun H h => ?_)
  refine lv_astore_n (lv' := [(2, .ref (gz g + n)), (0, .ref (gz g + 0)), (1, .int (nI tz))]) hx hb dL_passes_3 rfl hl (by decide) rfl (fun ls hl => ?_)
  refine lv_iconst (v := 4) hx hb dL_passes_4 (by decide) ?_
  refine r_newa (atype := .int) (ty := .int) F h (List.mem_cons_of_mem _ wd_244) rfl 0 rfl (fun _ z => z) (N := 4) (a0 := (4, .inl (fun _ => 0))) (vp_cell_i _ _ _) (by decide) (by decide) (by decide) (by decide) (by decide) dL_passes_5 (fun H h => ?_)
  refine lv_astore_n (lv' := [(3, .ref (gz g + (n + 1))), (2, .ref (gz g + n)), (0, .ref (gz g + 0)), (1, .int (nI tz))]) hx hb dL_passes_7 rfl hl (by decide) rfl (fun ls hl => ?_)
  refine lv_aload_n hx hb dL_passes_8 rfl (lv_at hl 2 rfl) ?_
  refine lv_iconst (v := 0) hx hb dL_passes_9 (by decide) ?_
  refine u_iE (v := R 0) (ru_V (As := [.int 0]) (rest := []) F h ((mu_ne (by omega) _).trans ((mu_ne (by omega) _).trans hWd.1)) rfl (kw_count l g (n + 2) (va_up (va_up c n (some (.inl (g.2.1 0, 4, .inl (fun _ => 0))))) (n + 1) (some (.inl (g.2.1 0, 4, .inl (fun _ => 0))))) ((hWd.up (by omega)).up (by omega)) J 0 (v := R 0) (rfl)) (gV hjl wd_399 wd_400 wd_401 wd_16 wd_402) rfl 1 (by decide +kernel) rfl ⟨Nat.le_of_ble_eq_true rfl, Nat.le_of_ble_eq_true rfl⟩ rfl hl.1 (Nat.le_of_ble_eq_true rfl) ⟨by decide, by decide⟩ dL_passes_10) h (fun H locs h => ?_)
  refine lv_istore (lv' := [(4, .int (R 0)), (3, .ref (gz g + (n + 1))), (2, .ref (gz g + n)), (0, .ref (gz g + 0)), (1, .int (nI tz))]) hx hb dL_passes_13 hl (by decide) rfl (fun ls hl => ?_)
  refine lv_iconst (v := 0) hx hb dL_passes_15 (by decide) ?_
  refine lv_istore (lv' := [(5, .int 0), (4, .int (R 0)), (3, .ref (gz g + (n + 1))), (2, .ref (gz g + n)), (0, .ref (gz g + 0)), (1, .int (nI tz))]) hx hb dL_passes_16 hl (by decide) rfl (fun ls hl => ?_)
  refine r_arr (fa_fill (phF R tz) (fun _ => 0) 0) h ((mu_ne (by omega) _).trans (mu_eq _ _ _)) (fun j _ => by rw [fa_fill_0]) (fun h => ?_)
  refine r_mem (c1 := (va_up (va_up c n (some (.inl (g.2.1 0, 4, .inl (fa_fill (phF R tz) (fun _ => 0) 0))))) (n + 1) (some (.inl (g.2.1 0, 4, .inl (fun _ => 0)))))) h ((mu_comm (by omega) _ _).trans (congrArg (fun z : Mp => va_up z (n + 1) _) (mu_uu _ _ _ _))) (fun h => ?_)
  refine r_arr (fa_fill (amF R tz) (fun _ => 0) 0) h (mu_eq _ _ _) (fun j _ => by rw [fa_fill_0]) (fun h => ?_)
  refine r_mem (c1 := (va_up (va_up c n (some (.inl (g.2.1 0, 4, .inl (fa_fill (phF R tz) (fun _ => 0) 0))))) (n + 1) (some (.inl (g.2.1 0, 4, .inl (fa_fill (amF R tz) (fun _ => 0) 0)))))) h (mu_uu _ _ _ _) (fun h => ?_)
  have lw : ∀ (k : Nat) (w : Nat) (hw : w ≤ 4) (H : Heap) (locs : List Loc) (ls : Array Slot), (5 - w) ≤ k → Hv g s H locs (n + 2) (va_up (va_up c n (some (.inl (g.2.1 0, 4, .inl (fa_fill (phF R tz) (fun _ => 0) w))))) (n + 1) (some (.inl (g.2.1 0, 4, .inl (fa_fill (amF R tz) (fun _ => 0) w))))) → lv_has ls 7 [(0, .ref (gz g + 0)), (1, .int (nI tz)), (2, .ref (gz g + n)), (3, .ref (gz g + (n + 1))), (4, .int (R 0)), (5, .int (nI w))] → W p l e (Rm 5 107 2 8) s m args below meth c0 H locs (0 + 1 + 1) (0 + 4 + 4) (MQ below (Qi g (fun xr n' c' => xr = 1 ∧ n ≤ n' ∧ ∃ (lh' : Nat) (rs' : Int32) (R' : Nat → Int32) (hq' : Nat → Nat → Int32), Wd g c' lh' rs' R' hq' ∧ Jv R' sc cn (tb + 60))) args s 2 8 (mAf g)) (F0 m 18 ls []) := by
    intro k_lw
    induction k_lw with
    | zero => intro w hw H locs ls hk h hl; exact absurd hk (by omega)
    | succ k_lw ih_lw =>
      intro w hw H locs ls hk_lw h hl
      refine lv_iload hx hb dL_passes_18 (lv_at hl 5 rfl) ?_
      refine lv_iconst (v := 4) hx hb dL_passes_20 (by decide) ?_
      refine lv_icmp_ge (tgt := 128) hx hb dL_passes_21 (by decide) (fun b_21 => ?_) (fun b_21 => ?_)
      · skip
        have e4 : w = 4 := by have := lp_ge (N := 4) rfl (by omega) (by decide) b_21; omega
        subst e4
        refine lv_aload_n hx hb dL_passes_128 rfl (lv_at hl 0 rfl) ?_
        refine lv_iload_n hx hb dL_passes_129 rfl (lv_at hl 1 rfl) ?_
        have hWua1 : Wd g (va_up (va_up c n (some (.inl (g.2.1 0, 4, .inl (fa_fill (phF R tz) (fun _ => 0) 4))))) (n + 1) (some (.inl (g.2.1 0, 4, .inl (fa_fill (amF R tz) (fun _ => 0) 4))))) lh rs R hq := ((hWd.up (by omega)).up (by omega))
        refine u_i (ru_V (As := [.int (nI tz)]) (rest := []) F h ((mu_ne (by omega) _).trans ((mu_ne (by omega) _).trans hWd.1)) rfl (k_X7_pass l g (n + 2) (va_up (va_up c n (some (.inl (g.2.1 0, 4, .inl (fa_fill (phF R tz) (fun _ => 0) 4))))) (n + 1) (some (.inl (g.2.1 0, 4, .inl (fa_fill (amF R tz) (fun _ => 0) 4))))) lh 0 rs hWua1.1 R hWua1.2.1 hWua1.2.2.2.2 hq hWua1.2.2.1 J.wb (nI tz) ) (gV hjl wd_595 wd_596 wd_597 wd_16 wd_598) rfl 1 (by decide +kernel) rfl ⟨Nat.le_of_ble_eq_true rfl, Nat.le_of_ble_eq_true rfl⟩ rfl hl.1 (Nat.le_of_ble_eq_true rfl) ⟨by decide, by decide⟩ dL_passes_130) h (fun ra1 na1 ca1 H locs hp h => ?_)
        obtain ⟨hna1, hxa1, hWa1, hFa1⟩ := paW hp hWua1 (by omega) (pa_ok hz1 hz6) (rmL_le (hWua1).2.2.2.2)
        subst hxa1
        have J1 := (J.tick (k := tz) (by omega))
        refine lv_iload hx hb dL_passes_133 (lv_at hl 4 rfl) ?_
        refine lv_iload_n hx hb dL_passes_135 rfl (lv_at hl 1 rfl) ?_
        refine lv_iadd hx hb dL_passes_136 ?_
        refine lv_icmp_ne (tgt := 173) hx hb dL_passes_137 (by decide) (fun b_137 => by first | exact absurd b_137 (rfl) | exact absurd (rfl) b_137) (fun b_137 => ?_)
        refine lv_aload_n hx hb dL_passes_140 rfl (lv_at hl 0 rfl) ?_
        refine lv_iconst (v := 0) hx hb dL_passes_141 (by decide) ?_
        refine u_iE (v := R 0 + nI tz) (ru_V (As := [.int 0]) (rest := []) F h hWa1.1 rfl (kw_count l g na1 ca1 hWa1 J1 0 (v := R 0 + nI tz) (tkN_0 R tz)) (gV hjl wd_399 wd_400 wd_401 wd_16 wd_402) rfl 1 (by decide +kernel) rfl ⟨Nat.le_of_ble_eq_true rfl, Nat.le_of_ble_eq_true rfl⟩ rfl hl.1 (Nat.le_of_ble_eq_true rfl) ⟨by decide, by decide⟩ dL_passes_142) h (fun H locs h => ?_)
        refine lv_iload hx hb dL_passes_145 (lv_at hl 4 rfl) ?_
        refine lv_iload_n hx hb dL_passes_147 rfl (lv_at hl 1 rfl) ?_
        refine lv_iadd hx hb dL_passes_148 ?_
        refine lv_icmp_ne (tgt := 173) hx hb dL_passes_149 (by decide) (fun b_149 => by first | exact absurd b_149 (rfl) | exact absurd (rfl) b_149) (fun b_149 => ?_)
        refine lv_aload_n hx hb dL_passes_152 rfl (lv_at hl 0 rfl) ?_
        refine lv_iconst (v := 0) hx hb dL_passes_153 (by decide) ?_
        have hWua2 : Wd g ca1 (rmL 0 lh) rs (tkN R tz) (rmQ 0 lh hq R) := hWa1
        refine u_i (ru_V (As := [.int 0]) (rest := []) F h hWa1.1 rfl (k_X7_pass l g na1 ca1 (rmL 0 lh) 0 rs hWua2.1 (tkN R tz) hWua2.2.1 hWua2.2.2.2.2 (rmQ 0 lh hq R) hWua2.2.2.1 J1.wb 0 ) (gV hjl wd_595 wd_596 wd_597 wd_16 wd_598) rfl 1 (by decide +kernel) rfl ⟨Nat.le_of_ble_eq_true rfl, Nat.le_of_ble_eq_true rfl⟩ rfl hl.1 (Nat.le_of_ble_eq_true rfl) ⟨by decide, by decide⟩ dL_passes_154) h (fun ra2 na2 ca2 H locs hp h => ?_)
        obtain ⟨hna2, hxa2, hWa2, hFa2⟩ := paW hp hWua2 (by omega) (pa_b (by decide)) (hWua2).2.2.2.2
        subst hxa2
        refine lv_ldc (v := (-100002)) hx hb F.2.2.2.1 (F.2.2.2.2.1 (Cond.constant RL 15 (-100002)) (List.mem_cons_of_mem _ wd_442)) dL_passes_157 ?_
        refine lv_icmp_ne (tgt := 173) hx hb dL_passes_159 (by decide) (fun b_159 => by first | exact absurd b_159 (by decide) | exact absurd (by decide) b_159) (fun b_159 => ?_)
        refine lv_aload_n hx hb dL_passes_162 rfl (lv_at hl 0 rfl) ?_
        refine lv_bipush (v := 61) hx hb dL_passes_163 (by decide) ?_
        have hWua3 : Wd g ca2 (rmL 0 lh) rs (tkN R tz) (rmQ 0 lh hq R) := hWa2
        refine u_i (ru_V (As := [.int 61]) (rest := []) F h hWa2.1 rfl (k_X7_pass l g na2 ca2 (rmL 0 lh) 0 rs hWua3.1 (tkN R tz) hWua3.2.1 hWua3.2.2.2.2 (rmQ 0 lh hq R) hWua3.2.2.1 J1.wb 61 ) (gV hjl wd_595 wd_596 wd_597 wd_16 wd_598) rfl 1 (by decide +kernel) rfl ⟨Nat.le_of_ble_eq_true rfl, Nat.le_of_ble_eq_true rfl⟩ rfl hl.1 (Nat.le_of_ble_eq_true rfl) ⟨by decide, by decide⟩ dL_passes_165) h (fun ra3 na3 ca3 H locs hp h => ?_)
        obtain ⟨hna3, hxa3, hWa3, hFa3⟩ := paW hp hWua3 (by omega) (pa_b (by decide)) (hWua3).2.2.2.2
        subst hxa3
        refine lv_ldc (v := (-100002)) hx hb F.2.2.2.1 (F.2.2.2.2.1 (Cond.constant RL 15 (-100002)) (List.mem_cons_of_mem _ wd_442)) dL_passes_168 ?_
        refine lv_icmp_eq (tgt := 175) hx hb dL_passes_170 (by decide) (fun b_170 => ?_) (fun b_170 => by first | exact absurd (by decide) b_170 | exact absurd b_170 (by decide))
        refine lv_iconst (v := 0) hx hb dL_passes_175 (by decide) ?_
        refine lv_istore (lv' := [(5, .int 0), (0, .ref (gz g + 0)), (1, .int (nI tz)), (2, .ref (gz g + n)), (3, .ref (gz g + (n + 1))), (4, .int (R 0))]) hx hb dL_passes_176 hl (by decide) rfl (fun ls hl => ?_)
        have lx : ∀ (k : Nat) (w : Nat) (hw : w ≤ 4) (H : Heap) (locs : List Loc) (ls : Array Slot), (5 - w) ≤ k → Hv g s H locs na3 ca3 → lv_has ls 7 [(0, .ref (gz g + 0)), (1, .int (nI tz)), (2, .ref (gz g + n)), (3, .ref (gz g + (n + 1))), (5, .int (nI w))] → W p l e (Rm 5 107 2 8) s m args below meth c0 H locs (0 + 1 + 1) (0 + 4 + 4) (MQ below (Qi g (fun xr n' c' => xr = 1 ∧ n ≤ n' ∧ ∃ (lh' : Nat) (rs' : Int32) (R' : Nat → Int32) (hq' : Nat → Nat → Int32), Wd g c' lh' rs' R' hq' ∧ Jv R' sc cn (tb + 60))) args s 2 8 (mAf g)) (F0 m 178 ls []) := by
          intro k_lx
          induction k_lx with
          | zero => intro w hw H locs ls hk h hl; exact absurd hk (by omega)
          | succ k_lx ih_lx =>
            intro w hw H locs ls hk_lx h hl
            refine lv_iload hx hb dL_passes_178 (lv_at hl 4 rfl) ?_
            refine lv_iconst (v := 4) hx hb dL_passes_180 (by decide) ?_
            refine lv_icmp_ge (tgt := 222) hx hb dL_passes_181 (by decide) (fun b_181 => ?_) (fun b_181 => ?_)
            · skip
              refine lv_iconst (v := 1) hx hb dL_passes_222 (by decide) ?_
              exact ret_z F h (by decide) (by decide) (by decide) dL_passes_223 (⟨rfl, by omega, _, _, _, _, hWa3, J1.le (by omega)⟩)
            have hw4 : w < 4 := lp_lt (N := 4) rfl (by omega) (by decide) b_181
            refine lv_aload_n hx hb dL_passes_184 rfl (lv_at hl 0 rfl) ?_
            refine lv_iload hx hb dL_passes_185 (lv_at hl 4 rfl) ?_
            refine lv_bipush (v := 9) hx hb dL_passes_187 (by decide) ?_
            refine u_iE (v := phF R tz w) (ru_V (As := [.int (nI w), .int 9]) (rest := []) F h hWa3.1 rfl (kw_wire l g na3 ca3 hWa3 J1 (nI w) 9 (v := phF R tz w) (wp_9 J (by omega) hw4)) (gV hjl wd_390 wd_391 wd_392 wd_16 wd_393) rfl 2 (by decide +kernel) rfl ⟨Nat.le_of_ble_eq_true rfl, Nat.le_of_ble_eq_true rfl⟩ rfl hl.1 (Nat.le_of_ble_eq_true rfl) ⟨by decide, by decide⟩ dL_passes_189) h (fun H locs h => ?_)
            refine lv_aload_n hx hb dL_passes_192 rfl (lv_at hl 2 rfl) ?_
            refine lv_iload hx hb dL_passes_193 (lv_at hl 4 rfl) ?_
            refine r_ialdN F h (k := w) ((hFa3 _ (by omega) (by omega)).trans ((hFa2 _ (by omega) (by omega)).trans ((hFa1 _ (by omega) (by omega)).trans ((mu_ne (by omega) _).trans (mu_eq _ _ _))))) (rfl) (by omega) (by decide) dL_passes_195 ?_
            refine r_top (w := .int (phF R tz w)) (congrArg Value.int (fa_fill_in hw4)) ?_
            refine lv_icmp_ne (tgt := 214) hx hb dL_passes_196 (by decide) (fun b_196 => by first | exact absurd b_196 (rfl) | exact absurd (rfl) b_196) (fun b_196 => ?_)
            refine lv_aload_n hx hb dL_passes_199 rfl (lv_at hl 0 rfl) ?_
            refine lv_iload hx hb dL_passes_200 (lv_at hl 4 rfl) ?_
            refine lv_bipush (v := 8) hx hb dL_passes_202 (by decide) ?_
            refine u_iE (v := amF R tz w) (ru_V (As := [.int (nI w), .int 8]) (rest := []) F h hWa3.1 rfl (kw_wire l g na3 ca3 hWa3 J1 (nI w) 8 (v := amF R tz w) (wp_8 J (by omega) hw4)) (gV hjl wd_390 wd_391 wd_392 wd_16 wd_393) rfl 2 (by decide +kernel) rfl ⟨Nat.le_of_ble_eq_true rfl, Nat.le_of_ble_eq_true rfl⟩ rfl hl.1 (Nat.le_of_ble_eq_true rfl) ⟨by decide, by decide⟩ dL_passes_204) h (fun H locs h => ?_)
            refine lv_aload_n hx hb dL_passes_207 rfl (lv_at hl 3 rfl) ?_
            refine lv_iload hx hb dL_passes_208 (lv_at hl 4 rfl) ?_
            refine r_ialdN F h (k := w) ((hFa3 _ (by omega) (by omega)).trans ((hFa2 _ (by omega) (by omega)).trans ((hFa1 _ (by omega) (by omega)).trans (mu_eq _ _ _)))) (rfl) (by omega) (by decide) dL_passes_210 ?_
            refine r_top (w := .int (amF R tz w)) (congrArg Value.int (fa_fill_in hw4)) ?_
            refine lv_icmp_eq (tgt := 216) hx hb dL_passes_211 (by decide) (fun b_211 => ?_) (fun b_211 => by first | exact absurd (rfl) b_211 | exact absurd b_211 (rfl))
            refine lv_iinc (v := nI (w + 1)) (lv' := [(5, .int (nI (w + 1))), (0, .ref (gz g + 0)), (1, .int (nI tz)), (2, .ref (gz g + n)), (3, .ref (gz g + (n + 1)))]) hx hb dL_passes_216 hl (k := 4) rfl (by exact (nI_succ w).symm) (by decide) rfl (fun ls hl => ?_)
            refine lv_goto (tgt := 178) hx hb dL_passes_219 (by decide) ?_
            exact ih_lx (w + 1) (by omega) _ _ _ (by omega) h (lv_sub hl [1, 2, 3, 4, 0] rfl)
        exact lx _ 0 (Nat.zero_le _) _ _ _ (Nat.le_refl _) h (lv_sub hl [1, 2, 3, 4, 0] rfl)
      have hw4 : w < 4 := lp_lt (N := 4) rfl (by omega) (by decide) b_21
      by_cases h0 : R (5 + 11 * w + 0) = 0
      · skip
        have hw4 : w < 4 := lp_lt (N := 4) rfl (by omega) (by decide) b_21
        refine lv_aload_n hx hb dL_passes_24 rfl (lv_at hl 2 rfl) ?_
        refine lv_iload hx hb dL_passes_25 (lv_at hl 5 rfl) ?_
        refine lv_aload_n hx hb dL_passes_27 rfl (lv_at hl 0 rfl) ?_
        refine lv_iload hx hb dL_passes_28 (lv_at hl 5 rfl) ?_
        refine lv_bipush (v := 9) hx hb dL_passes_30 (by decide) ?_
        refine u_iE (v := (-100005)) (ru_V (As := [.int (nI w), .int 9]) (rest := [.int (nI w), .ref (gz g + n)]) F h ((mu_ne (by omega) _).trans ((mu_ne (by omega) _).trans hWd.1)) rfl (kw_wire l g (n + 2) (va_up (va_up c n (some (.inl (g.2.1 0, 4, .inl (fa_fill (phF R tz) (fun _ => 0) w))))) (n + 1) (some (.inl (g.2.1 0, 4, .inl (fa_fill (amF R tz) (fun _ => 0) w))))) ((hWd.up (by omega)).up (by omega)) J (nI w) 9 (v := (-100005)) (wi_n hw4 h0 (by decide))) (gV hjl wd_390 wd_391 wd_392 wd_16 wd_393) rfl 2 (by decide +kernel) rfl ⟨Nat.le_of_ble_eq_true rfl, Nat.le_of_ble_eq_true rfl⟩ rfl hl.1 (Nat.le_of_ble_eq_true rfl) ⟨by decide, by decide⟩ dL_passes_32) h (fun H locs h => ?_)
        refine r_iastN F h (k := w) (f' := upd (fa_fill (phF R tz) (fun _ => 0) w) w (-100005)) ((mu_ne (by omega) _).trans (mu_eq _ _ _)) (rfl) (by omega) (by decide) dL_passes_35 (rfl) (fun H locs h => ?_)
        refine r_mem (c1 := (va_up (va_up c n (some (.inl (g.2.1 0, 4, .inl (upd (fa_fill (phF R tz) (fun _ => 0) w) w (-100005)))))) (n + 1) (some (.inl (g.2.1 0, 4, .inl (fa_fill (amF R tz) (fun _ => 0) w)))))) h ((mu_comm (by omega) _ _).trans (congrArg (fun z : Mp => va_up z (n + 1) _) (mu_uu _ _ _ _))) (fun h => ?_)
        refine lv_aload_n hx hb dL_passes_36 rfl (lv_at hl 3 rfl) ?_
        refine lv_iload hx hb dL_passes_37 (lv_at hl 5 rfl) ?_
        refine lv_aload_n hx hb dL_passes_39 rfl (lv_at hl 0 rfl) ?_
        refine lv_iload hx hb dL_passes_40 (lv_at hl 5 rfl) ?_
        refine lv_bipush (v := 8) hx hb dL_passes_42 (by decide) ?_
        refine u_iE (v := (-100005)) (ru_V (As := [.int (nI w), .int 8]) (rest := [.int (nI w), .ref (gz g + (n + 1))]) F h ((mu_ne (by omega) _).trans ((mu_ne (by omega) _).trans hWd.1)) rfl (kw_wire l g (n + 2) (va_up (va_up c n (some (.inl (g.2.1 0, 4, .inl (upd (fa_fill (phF R tz) (fun _ => 0) w) w (-100005)))))) (n + 1) (some (.inl (g.2.1 0, 4, .inl (fa_fill (amF R tz) (fun _ => 0) w))))) ((hWd.up (by omega)).up (by omega)) J (nI w) 8 (v := (-100005)) (wi_n hw4 h0 (by decide))) (gV hjl wd_390 wd_391 wd_392 wd_16 wd_393) rfl 2 (by decide +kernel) rfl ⟨Nat.le_of_ble_eq_true rfl, Nat.le_of_ble_eq_true rfl⟩ rfl hl.1 (Nat.le_of_ble_eq_true rfl) ⟨by decide, by decide⟩ dL_passes_44) h (fun H locs h => ?_)
        refine r_iastN F h (k := w) (f' := upd (fa_fill (amF R tz) (fun _ => 0) w) w (-100005)) (mu_eq _ _ _) (rfl) (by omega) (by decide) dL_passes_47 (rfl) (fun H locs h => ?_)
        refine r_mem (c1 := (va_up (va_up c n (some (.inl (g.2.1 0, 4, .inl (upd (fa_fill (phF R tz) (fun _ => 0) w) w (-100005)))))) (n + 1) (some (.inl (g.2.1 0, 4, .inl (upd (fa_fill (amF R tz) (fun _ => 0) w) w (-100005))))))) h (mu_uu _ _ _ _) (fun h => ?_)
        refine lv_iconst (v := 0) hx hb dL_passes_48 (by decide) ?_
        refine lv_istore (lv' := [(6, .int 0), (0, .ref (gz g + 0)), (1, .int (nI tz)), (2, .ref (gz g + n)), (3, .ref (gz g + (n + 1))), (4, .int (R 0)), (5, .int (nI w))]) hx hb dL_passes_49 hl (by decide) rfl (fun ls hl => ?_)
        refine lv_iload hx hb dL_passes_51 (lv_at hl 0 rfl) ?_
        refine lv_iload_n hx hb dL_passes_53 rfl (lv_at hl 2 rfl) ?_
        refine lv_icmp_ge (tgt := 122) hx hb dL_passes_54 (by decide) (fun b_54 => by first | exact absurd b_54 (nI_nle (by omega) (by omega)) | exact absurd (nI_nle (by omega) (by omega)) b_54) (fun b_54 => ?_)
        refine lv_aload_n hx hb dL_passes_57 rfl (lv_at hl 3 rfl) ?_
        refine lv_iload hx hb dL_passes_58 (lv_at hl 6 rfl) ?_
        refine r_ialdN F h (k := w) ((mu_ne (by omega) _).trans (mu_eq _ _ _)) (rfl) (by omega) (by decide) dL_passes_60 ?_
        refine r_top (w := .int (-100005)) (congrArg Value.int (upd_at _ _ _)) ?_
        refine lv_if_lt (tgt := 122) hx hb dL_passes_61 (by decide) (fun b_61 => ?_) (fun b_61 => by first | exact absurd (by decide) b_61 | exact absurd b_61 (by decide))
        refine r_arr (fa_fill (phF R tz) (fun _ => 0) (w + 1)) h ((mu_ne (by omega) _).trans (mu_eq _ _ _)) (fun j _ => congrFun ((congrArg (upd (fa_fill (phF R tz) (fun _ => 0) w) w) (show (-100005) = phF R tz w from (phF_n h0).symm)).trans (fa_fill_succ (phF R tz) _ w)) j) (fun h => ?_)
        refine r_mem (c1 := (va_up (va_up c n (some (.inl (g.2.1 0, 4, .inl (fa_fill (phF R tz) (fun _ => 0) (w + 1)))))) (n + 1) (some (.inl (g.2.1 0, 4, .inl (upd (fa_fill (amF R tz) (fun _ => 0) w) w (-100005))))))) h ((mu_comm (by omega) _ _).trans (congrArg (fun z : Mp => va_up z (n + 1) _) (mu_uu _ _ _ _))) (fun h => ?_)
        refine r_arr (fa_fill (amF R tz) (fun _ => 0) (w + 1)) h (mu_eq _ _ _) (fun j _ => congrFun ((congrArg (upd (fa_fill (amF R tz) (fun _ => 0) w) w) (show (-100005) = amF R tz w from (amF_n h0).symm)).trans (fa_fill_succ (amF R tz) _ w)) j) (fun h => ?_)
        refine r_mem (c1 := (va_up (va_up c n (some (.inl (g.2.1 0, 4, .inl (fa_fill (phF R tz) (fun _ => 0) (w + 1)))))) (n + 1) (some (.inl (g.2.1 0, 4, .inl (fa_fill (amF R tz) (fun _ => 0) (w + 1))))))) h (mu_uu _ _ _ _) (fun h => ?_)
        refine lv_iinc (v := nI (w + 1)) (lv' := [(5, .int (nI (w + 1))), (6, .int 0), (0, .ref (gz g + 0)), (1, .int (nI tz)), (2, .ref (gz g + n)), (3, .ref (gz g + (n + 1))), (4, .int (R 0))]) hx hb dL_passes_122 hl (k := 6) rfl (by exact (nI_succ w).symm) (by decide) rfl (fun ls hl => ?_)
        refine lv_goto (tgt := 18) hx hb dL_passes_125 (by decide) ?_
        exact ih_lw (w + 1) (by omega) _ _ _ (by omega) h (lv_sub hl [2, 3, 4, 5, 6, 0] rfl)
      have h1 : R (5 + 11 * w + 0) = 1 := b01_of (J.b hw4) h0
      refine lv_aload_n hx hb dL_passes_24 rfl (lv_at hl 2 rfl) ?_
      refine lv_iload hx hb dL_passes_25 (lv_at hl 5 rfl) ?_
      refine lv_aload_n hx hb dL_passes_27 rfl (lv_at hl 0 rfl) ?_
      refine lv_iload hx hb dL_passes_28 (lv_at hl 5 rfl) ?_
      refine lv_bipush (v := 9) hx hb dL_passes_30 (by decide) ?_
      refine u_iE (v := tkN R 0 (5 + 11 * w + 10)) (ru_V (As := [.int (nI w), .int 9]) (rest := [.int (nI w), .ref (gz g + n)]) F h ((mu_ne (by omega) _).trans ((mu_ne (by omega) _).trans hWd.1)) rfl (kw_wire l g (n + 2) (va_up (va_up c n (some (.inl (g.2.1 0, 4, .inl (fa_fill (phF R tz) (fun _ => 0) w))))) (n + 1) (some (.inl (g.2.1 0, 4, .inl (fa_fill (amF R tz) (fun _ => 0) w))))) ((hWd.up (by omega)).up (by omega)) J (nI w) 9 (v := tkN R 0 (5 + 11 * w + 10)) (wi_9 hw4 h1)) (gV hjl wd_390 wd_391 wd_392 wd_16 wd_393) rfl 2 (by decide +kernel) rfl ⟨Nat.le_of_ble_eq_true rfl, Nat.le_of_ble_eq_true rfl⟩ rfl hl.1 (Nat.le_of_ble_eq_true rfl) ⟨by decide, by decide⟩ dL_passes_32) h (fun H locs h => ?_)
      refine r_iastN F h (k := w) (f' := upd (fa_fill (phF R tz) (fun _ => 0) w) w (tkN R 0 (5 + 11 * w + 10))) ((mu_ne (by omega) _).trans (mu_eq _ _ _)) (rfl) (by omega) (by decide) dL_passes_35 (rfl) (fun H locs h => ?_)
      refine r_mem (c1 := (va_up (va_up c n (some (.inl (g.2.1 0, 4, .inl (upd (fa_fill (phF R tz) (fun _ => 0) w) w (tkN R 0 (5 + 11 * w + 10))))))) (n + 1) (some (.inl (g.2.1 0, 4, .inl (fa_fill (amF R tz) (fun _ => 0) w)))))) h ((mu_comm (by omega) _ _).trans (congrArg (fun z : Mp => va_up z (n + 1) _) (mu_uu _ _ _ _))) (fun h => ?_)
      refine lv_aload_n hx hb dL_passes_36 rfl (lv_at hl 3 rfl) ?_
      refine lv_iload hx hb dL_passes_37 (lv_at hl 5 rfl) ?_
      refine lv_aload_n hx hb dL_passes_39 rfl (lv_at hl 0 rfl) ?_
      refine lv_iload hx hb dL_passes_40 (lv_at hl 5 rfl) ?_
      refine lv_bipush (v := 8) hx hb dL_passes_42 (by decide) ?_
      refine u_iE (v := tkN R 0 (5 + 11 * w + 9)) (ru_V (As := [.int (nI w), .int 8]) (rest := [.int (nI w), .ref (gz g + (n + 1))]) F h ((mu_ne (by omega) _).trans ((mu_ne (by omega) _).trans hWd.1)) rfl (kw_wire l g (n + 2) (va_up (va_up c n (some (.inl (g.2.1 0, 4, .inl (upd (fa_fill (phF R tz) (fun _ => 0) w) w (tkN R 0 (5 + 11 * w + 10))))))) (n + 1) (some (.inl (g.2.1 0, 4, .inl (fa_fill (amF R tz) (fun _ => 0) w))))) ((hWd.up (by omega)).up (by omega)) J (nI w) 8 (v := tkN R 0 (5 + 11 * w + 9)) (wi_8 hw4 h1)) (gV hjl wd_390 wd_391 wd_392 wd_16 wd_393) rfl 2 (by decide +kernel) rfl ⟨Nat.le_of_ble_eq_true rfl, Nat.le_of_ble_eq_true rfl⟩ rfl hl.1 (Nat.le_of_ble_eq_true rfl) ⟨by decide, by decide⟩ dL_passes_44) h (fun H locs h => ?_)
      refine r_iastN F h (k := w) (f' := upd (fa_fill (amF R tz) (fun _ => 0) w) w (tkN R 0 (5 + 11 * w + 9))) (mu_eq _ _ _) (rfl) (by omega) (by decide) dL_passes_47 (rfl) (fun H locs h => ?_)
      refine r_mem (c1 := (va_up (va_up c n (some (.inl (g.2.1 0, 4, .inl (upd (fa_fill (phF R tz) (fun _ => 0) w) w (tkN R 0 (5 + 11 * w + 10))))))) (n + 1) (some (.inl (g.2.1 0, 4, .inl (upd (fa_fill (amF R tz) (fun _ => 0) w) w (tkN R 0 (5 + 11 * w + 9)))))))) h (mu_uu _ _ _ _) (fun h => ?_)
      refine lv_iconst (v := 0) hx hb dL_passes_48 (by decide) ?_
      refine lv_istore (lv' := [(6, .int 0), (0, .ref (gz g + 0)), (1, .int (nI tz)), (2, .ref (gz g + n)), (3, .ref (gz g + (n + 1))), (4, .int (R 0)), (5, .int (nI w))]) hx hb dL_passes_49 hl (by decide) rfl (fun ls hl => ?_)
      have lk : ∀ (k : Nat) (k1 : Nat) (hk1 : k1 ≤ tz) (H : Heap) (locs : List Loc) (ls : Array Slot), (tz + 1 - k1) ≤ k → Hv g s H locs (n + 2) (va_up (va_up c n (some (.inl (g.2.1 0, 4, .inl (upd (fa_fill (phF R tz) (fun _ => 0) w) w (tkN R k1 (5 + 11 * w + 10))))))) (n + 1) (some (.inl (g.2.1 0, 4, .inl (upd (fa_fill (amF R tz) (fun _ => 0) w) w (tkN R k1 (5 + 11 * w + 9))))))) → lv_has ls 7 [(0, .ref (gz g + 0)), (1, .int (nI tz)), (2, .ref (gz g + n)), (3, .ref (gz g + (n + 1))), (4, .int (R 0)), (5, .int (nI w)), (6, .int (nI k1))] → W p l e (Rm 5 107 2 8) s m args below meth c0 H locs (0 + 1 + 1) (0 + 4 + 4) (MQ below (Qi g (fun xr n' c' => xr = 1 ∧ n ≤ n' ∧ ∃ (lh' : Nat) (rs' : Int32) (R' : Nat → Int32) (hq' : Nat → Nat → Int32), Wd g c' lh' rs' R' hq' ∧ Jv R' sc cn (tb + 60))) args s 2 8 (mAf g)) (F0 m 51 ls []) := by
        intro k_lk
        induction k_lk with
        | zero => intro k1 hk1 H locs ls hk h hl; exact absurd hk (by omega)
        | succ k_lk ih_lk =>
          intro k1 hk1 H locs ls hk_lk h hl
          refine lv_iload hx hb dL_passes_51 (lv_at hl 6 rfl) ?_
          refine lv_iload_n hx hb dL_passes_53 rfl (lv_at hl 1 rfl) ?_
          refine lv_icmp_ge (tgt := 122) hx hb dL_passes_54 (by decide) (fun b_54 => ?_) (fun b_54 => ?_)
          · skip
            have ek : k1 = tz := by have := lp_ge (N := tz) rfl (by omega) (by omega) b_54; omega
            refine r_arr (fa_fill (phF R tz) (fun _ => 0) (w + 1)) h ((mu_ne (by omega) _).trans (mu_eq _ _ _)) (fun j _ => congrFun ((congrArg (upd (fa_fill (phF R tz) (fun _ => 0) w) w) (show tkN R k1 (5 + 11 * w + 10) = phF R tz w from by rw [ek]; exact (phF_h h0).symm)).trans (fa_fill_succ (phF R tz) _ w)) j) (fun h => ?_)
            refine r_mem (c1 := (va_up (va_up c n (some (.inl (g.2.1 0, 4, .inl (fa_fill (phF R tz) (fun _ => 0) (w + 1)))))) (n + 1) (some (.inl (g.2.1 0, 4, .inl (upd (fa_fill (amF R tz) (fun _ => 0) w) w (tkN R k1 (5 + 11 * w + 9)))))))) h ((mu_comm (by omega) _ _).trans (congrArg (fun z : Mp => va_up z (n + 1) _) (mu_uu _ _ _ _))) (fun h => ?_)
            refine r_arr (fa_fill (amF R tz) (fun _ => 0) (w + 1)) h (mu_eq _ _ _) (fun j _ => congrFun ((congrArg (upd (fa_fill (amF R tz) (fun _ => 0) w) w) (show tkN R k1 (5 + 11 * w + 9) = amF R tz w from by rw [ek]; exact (amF_h h0).symm)).trans (fa_fill_succ (amF R tz) _ w)) j) (fun h => ?_)
            refine r_mem (c1 := (va_up (va_up c n (some (.inl (g.2.1 0, 4, .inl (fa_fill (phF R tz) (fun _ => 0) (w + 1)))))) (n + 1) (some (.inl (g.2.1 0, 4, .inl (fa_fill (amF R tz) (fun _ => 0) (w + 1))))))) h (mu_uu _ _ _ _) (fun h => ?_)
            refine lv_iinc (v := nI (w + 1)) (lv' := [(5, .int (nI (w + 1))), (0, .ref (gz g + 0)), (1, .int (nI tz)), (2, .ref (gz g + n)), (3, .ref (gz g + (n + 1))), (4, .int (R 0)), (6, .int (nI k1))]) hx hb dL_passes_122 hl (k := 5) rfl (by exact (nI_succ w).symm) (by decide) rfl (fun ls hl => ?_)
            refine lv_goto (tgt := 18) hx hb dL_passes_125 (by decide) ?_
            exact ih_lw (w + 1) (by omega) _ _ _ (by omega) h (lv_sub hl [1, 2, 3, 4, 5, 0] rfl)
          have hk2 : k1 < tz := lp_lt (N := tz) rfl (by omega) (by omega) b_54
          have gk := (J.tick (k := k1) (by omega)).wg hw4 (by rw [J.tkw (by omega) hw4 (by decide)]; exact h1)
          refine lv_aload_n hx hb dL_passes_57 rfl (lv_at hl 2 rfl) ?_
          refine lv_iload hx hb dL_passes_58 (lv_at hl 5 rfl) ?_
          refine r_ialdN F h (k := w) ((mu_ne (by omega) _).trans (mu_eq _ _ _)) (rfl) (by omega) (by decide) dL_passes_60 ?_
          refine r_top (w := .int (tkN R k1 (5 + 11 * w + 10))) (congrArg Value.int (upd_at _ _ _)) ?_
          refine lv_if_lt (tgt := 122) hx hb dL_passes_61 (by decide) (fun b_61 => by first | exact absurd b_61 (i_nlt ((i_le _ _).mpr (cm_p gk).2.2.1)) | exact absurd (i_nlt ((i_le _ _).mpr (cm_p gk).2.2.1)) b_61) (fun b_61 => ?_)
          refine lv_aload_n hx hb dL_passes_64 rfl (lv_at hl 2 rfl) ?_
          refine lv_iload hx hb dL_passes_65 (lv_at hl 5 rfl) ?_
          refine lv_aload_n hx hb dL_passes_67 rfl (lv_at hl 2 rfl) ?_
          refine lv_iload hx hb dL_passes_68 (lv_at hl 5 rfl) ?_
          refine r_ialdN F h (k := w) ((mu_ne (by omega) _).trans (mu_eq _ _ _)) (rfl) (by omega) (by decide) dL_passes_70 ?_
          refine r_top (w := .int (tkN R k1 (5 + 11 * w + 10))) (congrArg Value.int (upd_at _ _ _)) ?_
          refine lv_iconst (v := 1) hx hb dL_passes_71 (by decide) ?_
          refine lv_iadd hx hb dL_passes_72 ?_
          refine lv_aload_n hx hb dL_passes_73 rfl (lv_at hl 0 rfl) ?_
          refine lv_iload hx hb dL_passes_74 (lv_at hl 5 rfl) ?_
          refine lv_bipush (v := 10) hx hb dL_passes_76 (by decide) ?_
          refine u_iE (v := 4 * qdI (R (5 + 11 * w + 4))) (ru_V (As := [.int (nI w), .int 10]) (rest := [.int (tkN R k1 (5 + 11 * w + 10) + 1), .int (nI w), .ref (gz g + n)]) F h ((mu_ne (by omega) _).trans ((mu_ne (by omega) _).trans hWd.1)) rfl (kw_wire l g (n + 2) (va_up (va_up c n (some (.inl (g.2.1 0, 4, .inl (upd (fa_fill (phF R tz) (fun _ => 0) w) w (tkN R k1 (5 + 11 * w + 10))))))) (n + 1) (some (.inl (g.2.1 0, 4, .inl (upd (fa_fill (amF R tz) (fun _ => 0) w) w (tkN R k1 (5 + 11 * w + 9))))))) ((hWd.up (by omega)).up (by omega)) J (nI w) 10 (v := 4 * qdI (R (5 + 11 * w + 4))) (wi_10 hw4 h1)) (gV hjl wd_390 wd_391 wd_392 wd_16 wd_393) rfl 2 (by decide +kernel) rfl ⟨Nat.le_of_ble_eq_true rfl, Nat.le_of_ble_eq_true rfl⟩ rfl hl.1 (Nat.le_of_ble_eq_true rfl) ⟨by decide, by decide⟩ dL_passes_78) h (fun H locs h => ?_)
          refine lv_irem hx hb dL_passes_81 (by have g4 := (J.wg hw4 h1).2.2.2.1; exact fun q => qd_440 g4 (by rw [q]; decide)) ?_
          refine r_iastN F h (k := w) (f' := upd (fa_fill (phF R tz) (fun _ => 0) w) w (tkN R (k1 + 1) (5 + 11 * w + 10))) ((mu_ne (by omega) _).trans (mu_eq _ _ _)) (rfl) (by omega) (by decide) dL_passes_82 ((upd_uu _ _ _ _).trans (congrArg (upd (fa_fill (phF R tz) (fun _ => 0) w) w) (tk_ph J (by omega) hw4 h1).symm)) (fun H locs h => ?_)
          refine r_mem (c1 := (va_up (va_up c n (some (.inl (g.2.1 0, 4, .inl (upd (fa_fill (phF R tz) (fun _ => 0) w) w (tkN R (k1 + 1) (5 + 11 * w + 10))))))) (n + 1) (some (.inl (g.2.1 0, 4, .inl (upd (fa_fill (amF R tz) (fun _ => 0) w) w (tkN R k1 (5 + 11 * w + 9)))))))) h ((mu_comm (by omega) _ _).trans (congrArg (fun z : Mp => va_up z (n + 1) _) (mu_uu _ _ _ _))) (fun h => ?_)
          refine lv_aload_n hx hb dL_passes_83 rfl (lv_at hl 3 rfl) ?_
          refine lv_iload hx hb dL_passes_84 (lv_at hl 5 rfl) ?_
          refine lv_aload_n hx hb dL_passes_86 rfl (lv_at hl 2 rfl) ?_
          refine lv_iload hx hb dL_passes_87 (lv_at hl 5 rfl) ?_
          refine r_ialdN F h (k := w) ((mu_ne (by omega) _).trans (mu_eq _ _ _)) (rfl) (by omega) (by decide) dL_passes_89 ?_
          refine r_top (w := .int (tkN R (k1 + 1) (5 + 11 * w + 10))) (congrArg Value.int (upd_at _ _ _)) ?_
          refine lv_if_ne (tgt := 111) hx hb dL_passes_90 (by decide) (fun b_90 => ?_) (fun b_90 => ?_)
          · skip
            refine lv_aload_n hx hb dL_passes_111 rfl (lv_at hl 3 rfl) ?_
            refine lv_iload hx hb dL_passes_112 (lv_at hl 5 rfl) ?_
            refine r_ialdN F h (k := w) (mu_eq _ _ _) (rfl) (by omega) (by decide) dL_passes_114 ?_
            refine r_top (w := .int (tkN R k1 (5 + 11 * w + 9))) (congrArg Value.int (upd_at _ _ _)) ?_
            refine r_iastN F h (k := w) (f' := upd (fa_fill (amF R tz) (fun _ => 0) w) w (tkN R (k1 + 1) (5 + 11 * w + 9))) (mu_eq _ _ _) (rfl) (by omega) (by decide) dL_passes_115 ((upd_uu _ _ _ _).trans (congrArg (upd (fa_fill (amF R tz) (fun _ => 0) w) w) (tk_a1 J (by omega) hw4 h1 b_90).symm)) (fun H locs h => ?_)
            refine r_mem (c1 := (va_up (va_up c n (some (.inl (g.2.1 0, 4, .inl (upd (fa_fill (phF R tz) (fun _ => 0) w) w (tkN R (k1 + 1) (5 + 11 * w + 10))))))) (n + 1) (some (.inl (g.2.1 0, 4, .inl (upd (fa_fill (amF R tz) (fun _ => 0) w) w (tkN R (k1 + 1) (5 + 11 * w + 9)))))))) h (mu_uu _ _ _ _) (fun h => ?_)
            refine lv_iinc (v := nI (k1 + 1)) (lv' := [(6, .int (nI (k1 + 1))), (0, .ref (gz g + 0)), (1, .int (nI tz)), (2, .ref (gz g + n)), (3, .ref (gz g + (n + 1))), (4, .int (R 0)), (5, .int (nI w))]) hx hb dL_passes_116 hl (k := 6) rfl (by exact (nI_succ k1).symm) (by decide) rfl (fun ls hl => ?_)
            refine lv_goto (tgt := 51) hx hb dL_passes_119 (by decide) ?_
            exact ih_lk (k1 + 1) (by omega) _ _ _ (by omega) h (lv_sub hl [1, 2, 3, 4, 5, 6, 0] rfl)
          refine lv_aload_n hx hb dL_passes_93 rfl (lv_at hl 3 rfl) ?_
          refine lv_iload hx hb dL_passes_94 (lv_at hl 5 rfl) ?_
          refine r_ialdN F h (k := w) (mu_eq _ _ _) (rfl) (by omega) (by decide) dL_passes_96 ?_
          refine r_top (w := .int (tkN R k1 (5 + 11 * w + 9))) (congrArg Value.int (upd_at _ _ _)) ?_
          refine lv_aload_n hx hb dL_passes_97 rfl (lv_at hl 0 rfl) ?_
          refine lv_iload hx hb dL_passes_98 (lv_at hl 5 rfl) ?_
          refine lv_bipush (v := 6) hx hb dL_passes_100 (by decide) ?_
          refine u_iE (v := R (5 + 11 * w + 7)) (ru_V (As := [.int (nI w), .int 6]) (rest := [.int (tkN R k1 (5 + 11 * w + 9)), .int (nI w), .ref (gz g + (n + 1))]) F h ((mu_ne (by omega) _).trans ((mu_ne (by omega) _).trans hWd.1)) rfl (kw_wire l g (n + 2) (va_up (va_up c n (some (.inl (g.2.1 0, 4, .inl (upd (fa_fill (phF R tz) (fun _ => 0) w) w (tkN R (k1 + 1) (5 + 11 * w + 10))))))) (n + 1) (some (.inl (g.2.1 0, 4, .inl (upd (fa_fill (amF R tz) (fun _ => 0) w) w (tkN R k1 (5 + 11 * w + 9))))))) ((hWd.up (by omega)).up (by omega)) J (nI w) 6 (v := R (5 + 11 * w + 7)) (wi_6 hw4 h1)) (gV hjl wd_390 wd_391 wd_392 wd_16 wd_393) rfl 2 (by decide +kernel) rfl ⟨Nat.le_of_ble_eq_true rfl, Nat.le_of_ble_eq_true rfl⟩ rfl hl.1 (Nat.le_of_ble_eq_true rfl) ⟨by decide, by decide⟩ dL_passes_102) h (fun H locs h => ?_)
          refine u_iE (v := ((tkN R k1 (5 + 11 * w + 9)) * cmI (R (5 + 11 * w + 7)) / 100)) (ru_S (As := [.int (tkN R k1 (5 + 11 * w + 9)), .int (R (5 + 11 * w + 7))]) (rest := [.int (nI w), .ref (gz g + (n + 1))]) F h (k_L_calmer l g (n + 2) (va_up (va_up c n (some (.inl (g.2.1 0, 4, .inl (upd (fa_fill (phF R tz) (fun _ => 0) w) w (tkN R (k1 + 1) (5 + 11 * w + 10))))))) (n + 1) (some (.inl (g.2.1 0, 4, .inl (upd (fa_fill (amF R tz) (fun _ => 0) w) w (tkN R k1 (5 + 11 * w + 9))))))) (tkN R k1 (5 + 11 * w + 9)) (R (5 + 11 * w + 7))) (gS hjl wd_511 wd_512 wd_15 wd_513) rfl 2 (by decide +kernel) rfl ⟨Nat.le_of_ble_eq_true rfl, Nat.le_of_ble_eq_true rfl⟩ rfl hl.1 (Nat.le_of_ble_eq_true rfl) ⟨by decide, by decide⟩ dL_passes_105) h (fun H locs h => ?_)
          refine lv_goto (tgt := 115) hx hb dL_passes_108 (by decide) ?_
          refine r_iastN F h (k := w) (f' := upd (fa_fill (amF R tz) (fun _ => 0) w) w (tkN R (k1 + 1) (5 + 11 * w + 9))) (mu_eq _ _ _) (rfl) (by omega) (by decide) dL_passes_115 ((upd_uu _ _ _ _).trans (congrArg (upd (fa_fill (amF R tz) (fun _ => 0) w) w) (tk_a0 J (by omega) hw4 h1 b_90).symm)) (fun H locs h => ?_)
          refine r_mem (c1 := (va_up (va_up c n (some (.inl (g.2.1 0, 4, .inl (upd (fa_fill (phF R tz) (fun _ => 0) w) w (tkN R (k1 + 1) (5 + 11 * w + 10))))))) (n + 1) (some (.inl (g.2.1 0, 4, .inl (upd (fa_fill (amF R tz) (fun _ => 0) w) w (tkN R (k1 + 1) (5 + 11 * w + 9)))))))) h (mu_uu _ _ _ _) (fun h => ?_)
          refine lv_iinc (v := nI (k1 + 1)) (lv' := [(6, .int (nI (k1 + 1))), (0, .ref (gz g + 0)), (1, .int (nI tz)), (2, .ref (gz g + n)), (3, .ref (gz g + (n + 1))), (4, .int (R 0)), (5, .int (nI w))]) hx hb dL_passes_116 hl (k := 6) rfl (by exact (nI_succ k1).symm) (by decide) rfl (fun ls hl => ?_)
          refine lv_goto (tgt := 51) hx hb dL_passes_119 (by decide) ?_
          exact ih_lk (k1 + 1) (by omega) _ _ _ (by omega) h (lv_sub hl [1, 2, 3, 4, 5, 6, 0] rfl)
      exact lk _ 0 (Nat.zero_le _) _ _ _ (Nat.le_refl _) h (lv_sub hl [1, 2, 3, 4, 5, 6, 0] rfl)
  exact lw _ 0 (Nat.zero_le _) _ _ _ (Nat.le_refl _) h (lv_sub hl [4, 5, 3, 2, 1, 0] rfl)
