/-! The class: remembering, what is read. -/
def rmL (ru : Int32) (lh : Nat) : Nat := if ru = 0 then (if lh = 5 then 5 else lh + 1) else lh
def rmQ (ru : Int32) (lh : Nat) (hq : Nat → Nat → Int32) (R : Nat → Int32) : Nat → Nat → Int32 := if ru = 0 then (if lh = 5 then (fun i => if i = 4 then R else hq (i + 1)) else (fun i => if i = lh then R else hq i)) else hq
theorem Hq.put {g : Gf} {c c2 : Mp} {π : Nat → Nat} {hq : Nat → Nat → Int32} (h : Hq g c π hq) {k : Nat} (hk : k < 5) {R : Nat → Int32} (hB : Bk g c2 (45 + 43 * π k) R) (F : Fr c c2 (45 + 43 * π k) (45 + 43 * π k + 43)) : Hx g c2 (fun i => if i = k then R else hq i) := by
  obtain ⟨h1, h2, h3⟩ := h
  refine ⟨π, (F 44 (by omega)).trans h1, h2, fun i hi => ?_⟩
  by_cases e : i = k
  · subst e
    show Bk g c2 _ (if i = i then R else hq i)
    rw [if_pos rfl]; exact hB
  · show Bk g c2 _ (if i = k then R else hq i)
    rw [if_neg e]
    have := h2.2 i k hi hk e
    exact (h3 i hi).kept (fun j _ _ => F j (by omega))
theorem rmQ_5 {ru : Int32} {lh : Nat} {hq : Nat → Nat → Int32} {R : Nat → Int32} (h0 : ru = 0) (h5 : lh = 5) : (fun i => if i = 4 then R else rotq hq i) = rmQ ru lh hq R := by
  unfold rmQ
  rw [if_pos h0, if_pos h5]
  funext i
  by_cases e : i = 4
  · rw [if_pos e, if_pos e]
  · rw [if_neg e, if_neg e]
    unfold rotq
    rw [if_neg e]
theorem rmQ_n {ru : Int32} {lh : Nat} {hq : Nat → Nat → Int32} {R : Nat → Int32} (h0 : ru = 0) (h5 : ¬ lh = 5) : (fun i => if i = lh then R else hq i) = rmQ ru lh hq R := by
  unfold rmQ
  rw [if_pos h0, if_neg h5]
theorem Hq.turn {g : Gf} {c : Mp} {π : Nat → Nat} {hq : Nat → Nat → Int32} (h : Hq g c π hq) {e : Option va_E} : Hq g (va_up (va_up c 44 (qsA (g.2.1 3) 5 (fun k => some (gz g + (45 + 43 * rot π k))))) 0 e) (rot π) (rotq hq) := by
  obtain ⟨h1, h2, h3⟩ := h
  have q : ∀ i : Nat, i < 5 → Bk g (va_up (va_up c 44 (qsA (g.2.1 3) 5 (fun k => some (gz g + (45 + 43 * rot π k))))) 0 e) (45 + 43 * π i) (hq i) := fun i hi => ((h3 i hi).out (by omega)).out (by omega)
  exact ⟨(mu_ne (by decide) _).trans (mu_eq _ _ _), h2.rotP, five (q 1 (by decide)) (q 2 (by decide)) (q 3 (by decide)) (q 4 (by decide)) (q 0 (by decide))⟩
set_option maxHeartbeats 4000000 in
set_option maxRecDepth 100000 in
theorem k_X7_remember (l : Launch) (g : Gf) (n : Nat) (c : Mp) (lh : Nat) (ru rs : Int32) (hP : c 0 = plC g (nI lh) ru rs) (R : Nat → Int32) (hB : Bk g c 1 R) (hk5 : lh ≤ 5) (hq : Nat → Nat → Int32) (hH : Hx g c hq) (hW : WB R) : Ct l g yX7_remember wsX7_remember 3 65 0 0 [.ref (gz g + 0)] n c (Qv g (fun n' c' => n' = n ∧ c' 0 = plC g (nI (rmL ru lh)) ru rs ∧ Bk g c' 1 R ∧ Hx g c' (rmQ ru lh hq R) ∧ Fr c c' 0 260)) := by
  obtain ⟨π, hH⟩ := hH
  refine ent (by decide) rfl (Nat.le_of_ble_eq_true rfl) ?_
  intro p e s m args below meth c0 F h ls hl
  have hx := F.1
  have hb := F.2.1
  have hl : lv_has ls 1 [(0, .ref (gz g + 0))] := hl
  refine lv_aload_n hx hb dX7_remember_0 rfl (lv_at hl 0 rfl) ?_
  refine r_get F h (C := RX7) (T := TX7) (N := 8) (hjc hi_X7) rfl hP 6 (by decide) (List.mem_cons_of_mem _ wd_251) rfl dX7_remember_1 ?_
  refine lv_if_eq (tgt := 8) hx hb dX7_remember_4 (by decide) (fun b_4 => ?_) (fun b_4 => ?_)
  · skip
    refine lv_aload_n hx hb dX7_remember_8 rfl (lv_at hl 0 rfl) ?_
    refine r_get F h (C := RX7) (T := TX7) (N := 8) (hjc hi_X7) rfl hP 2 (by decide) (List.mem_cons_of_mem _ wd_247) rfl dX7_remember_9 ?_
    refine lv_iconst (v := 5) hx hb dX7_remember_12 (by decide) ?_
    refine lv_icmp_lt (tgt := 20) hx hb dX7_remember_13 (by decide) (fun b_13 => ?_) (fun b_13 => ?_)
    · skip
      have hk4 : lh < 5 := by rcases Nat.lt_or_ge lh 5 with q | q; exact q; exact absurd b_13 (nI_nlt (a := lh) (b := 5) q (by omega))
      have hH1 := hH
      have hP1 := hP
      have hB1 := hB
      have hpk := hH1.2.1.1 lh hk4
      refine lv_aload_n hx hb dX7_remember_20 rfl (lv_at hl 0 rfl) ?_
      refine r_get F h (C := RX7) (T := TX7) (N := 8) (hjc hi_X7) rfl hP1 1 (by decide) (List.mem_cons_of_mem _ wd_246) rfl dX7_remember_21 ?_
      refine lv_aload_n hx hb dX7_remember_24 rfl (lv_at hl 0 rfl) ?_
      refine r_get F h (C := RX7) (T := TX7) (N := 8) (hjc hi_X7) rfl hP1 2 (by decide) (List.mem_cons_of_mem _ wd_247) rfl dX7_remember_25 ?_
      refine r_aald F h (C := RX4) hH1.1 (t0 := 3) rfl (vp_in_nI (show lh < 5 by omega) (by decide)) (a := gz g + (45 + 43 * π lh)) (qs_at (fun k => some (gz g + (45 + 43 * π k))) (by omega)) dX7_remember_28 ?_
      refine lv_aload_n hx hb dX7_remember_29 rfl (lv_at hl 0 rfl) ?_
      refine r_get F h (C := RX7) (T := TX7) (N := 8) (hjc hi_X7) rfl hP1 0 (by decide) (List.mem_cons_of_mem _ wd_245) rfl dX7_remember_30 ?_
      refine u_v (ru_V (As := [.ref (gz g + 1)]) (rest := []) F h ((hH1.2.2 lh (by omega)).1) rfl (k_X4_copyFrom l g n c (45 + 43 * π lh) (hq lh) (hH1.2.2 lh (by omega)) 1 R hB1 (by omega) hW.1 hW.2.1 hW.2.2) (gV hjl wd_290 wd_291 wd_292 wd_17 wd_293) rfl 1 (by decide +kernel) rfl ⟨Nat.le_of_ble_eq_true rfl, Nat.le_of_ble_eq_true rfl⟩ rfl hl.1 (Nat.le_of_ble_eq_true rfl) ⟨Nat.zero_le _, Nat.zero_le _⟩ dX7_remember_33) h (fun n1 c2 H locs hp h => ?_)
      obtain ⟨hn2, hB2, hF2⟩ := hp
      rw [hn2] at h
      refine lv_aload_n hx hb dX7_remember_36 rfl (lv_at hl 0 rfl) ?_
      refine lv_dup hx hb dX7_remember_37 rfl ?_
      refine r_get F h (C := RX7) (T := TX7) (N := 8) (hjc hi_X7) rfl ((hF2 0 (by omega)).trans hP1) 2 (by decide) (List.mem_cons_of_mem _ wd_247) rfl dX7_remember_38 ?_
      refine lv_iconst (v := 1) hx hb dX7_remember_41 (by decide) ?_
      refine lv_iadd hx hb dX7_remember_42 ?_
      refine r_top (w := .int (nI (lh + 1))) (congrArg Value.int (nI_succ lh).symm) ?_
      refine r_put F h (C := RX7) (T := TX7) (N := 8) (fs' := [.ref (gz g + 1), .ref (gz g + 44), .int (nI (lh + 1)), .ref (gz g + 260), .ref (gz g + 347), .ref (gz g + 348), .int ru, .int rs]) (hjc hi_X7) tyX7 tyX7_ok nmX7 rfl ((hF2 0 (by omega)).trans hP1) 2 (by decide) (List.mem_cons_of_mem _ wd_247) rfl (rfl) (rfl) (Nat.le_of_ble_eq_true rfl) rfl dX7_remember_43 (fun H locs h => ?_)
      exact ret_v F h (Nat.zero_le _) (Nat.zero_le _) dX7_remember_46 (⟨rfl, (mu_eq _ _ _).trans (by rw [rmL, if_pos b_4, if_neg (by omega)]), (hB1.kept (fun j _ _ => hF2 j (by omega))).out (by omega), by rw [← rmQ_n b_4 (show ¬ lh = 5 by omega)]; exact (hH1.put hk4 hB2 hF2).up (by omega), fun j hj => (mu_ne (by omega) _).trans ((hF2 j (by omega)).trans rfl)⟩)
    refine lv_aload_n hx hb dX7_remember_16 rfl (lv_at hl 0 rfl) ?_
    refine u_vE (ru_V (As := []) (rest := []) F h hP rfl (k_X7_dropOldestState l g n c (nI lh) ru rs hP π hq hH) (gV hjl wd_286 wd_288 wd_1 wd_16 wd_289) rfl 0 (by decide +kernel) rfl ⟨Nat.le_of_ble_eq_true rfl, Nat.le_of_ble_eq_true rfl⟩ rfl hl.1 (Nat.le_of_ble_eq_true rfl) ⟨Nat.zero_le _, Nat.zero_le _⟩ dX7_remember_17) h (fun H locs h => ?_)
    have e5 : lh = 5 := by rcases Nat.lt_or_ge lh 5 with q | q; exact absurd (nI_lt (a := lh) (b := 5) q (by decide)) b_13; omega
    refine r_mem (c1 := (va_up (va_up c 44 (qsA (g.2.1 3) 5 (fun k => some (gz g + (45 + 43 * rot π k))))) 0 (plC g (nI 4) ru rs))) h rfl (fun h => ?_)
    have hH1 : Hq g (va_up (va_up c 44 (qsA (g.2.1 3) 5 (fun k => some (gz g + (45 + 43 * rot π k))))) 0 (plC g (nI 4) ru rs)) (rot π) (rotq hq) := hH.turn
    have hP1 : (va_up (va_up c 44 (qsA (g.2.1 3) 5 (fun k => some (gz g + (45 + 43 * rot π k))))) 0 (plC g (nI 4) ru rs)) 0 = plC g (nI 4) ru rs := mu_eq _ _ _
    have hB1 : Bk g (va_up (va_up c 44 (qsA (g.2.1 3) 5 (fun k => some (gz g + (45 + 43 * rot π k))))) 0 (plC g (nI 4) ru rs)) 1 R := (hB.out (by omega)).out (by omega)
    have hpk := hH1.2.1.1 4 (by decide)
    refine lv_aload_n hx hb dX7_remember_20 rfl (lv_at hl 0 rfl) ?_
    refine r_get F h (C := RX7) (T := TX7) (N := 8) (hjc hi_X7) rfl hP1 1 (by decide) (List.mem_cons_of_mem _ wd_246) rfl dX7_remember_21 ?_
    refine lv_aload_n hx hb dX7_remember_24 rfl (lv_at hl 0 rfl) ?_
    refine r_get F h (C := RX7) (T := TX7) (N := 8) (hjc hi_X7) rfl hP1 2 (by decide) (List.mem_cons_of_mem _ wd_247) rfl dX7_remember_25 ?_
    refine r_aald F h (C := RX4) hH1.1 (t0 := 3) rfl (vp_in_nI (show 4 < 5 by omega) (by decide)) (a := gz g + (45 + 43 * (rot π) 4)) (qs_at (fun k => some (gz g + (45 + 43 * (rot π) k))) (by omega)) dX7_remember_28 ?_
    refine lv_aload_n hx hb dX7_remember_29 rfl (lv_at hl 0 rfl) ?_
    refine r_get F h (C := RX7) (T := TX7) (N := 8) (hjc hi_X7) rfl hP1 0 (by decide) (List.mem_cons_of_mem _ wd_245) rfl dX7_remember_30 ?_
    refine u_v (ru_V (As := [.ref (gz g + 1)]) (rest := []) F h ((hH1.2.2 4 (by omega)).1) rfl (k_X4_copyFrom l g n (va_up (va_up c 44 (qsA (g.2.1 3) 5 (fun k => some (gz g + (45 + 43 * rot π k))))) 0 (plC g (nI 4) ru rs)) (45 + 43 * (rot π) 4) ((rotq hq) 4) (hH1.2.2 4 (by omega)) 1 R hB1 (by omega) hW.1 hW.2.1 hW.2.2) (gV hjl wd_290 wd_291 wd_292 wd_17 wd_293) rfl 1 (by decide +kernel) rfl ⟨Nat.le_of_ble_eq_true rfl, Nat.le_of_ble_eq_true rfl⟩ rfl hl.1 (Nat.le_of_ble_eq_true rfl) ⟨Nat.zero_le _, Nat.zero_le _⟩ dX7_remember_33) h (fun n1 c2 H locs hp h => ?_)
    obtain ⟨hn2, hB2, hF2⟩ := hp
    rw [hn2] at h
    refine lv_aload_n hx hb dX7_remember_36 rfl (lv_at hl 0 rfl) ?_
    refine lv_dup hx hb dX7_remember_37 rfl ?_
    refine r_get F h (C := RX7) (T := TX7) (N := 8) (hjc hi_X7) rfl ((hF2 0 (by omega)).trans hP1) 2 (by decide) (List.mem_cons_of_mem _ wd_247) rfl dX7_remember_38 ?_
    refine lv_iconst (v := 1) hx hb dX7_remember_41 (by decide) ?_
    refine lv_iadd hx hb dX7_remember_42 ?_
    refine r_top (w := .int (nI (4 + 1))) (congrArg Value.int (nI_succ 4).symm) ?_
    refine r_put F h (C := RX7) (T := TX7) (N := 8) (fs' := [.ref (gz g + 1), .ref (gz g + 44), .int (nI (4 + 1)), .ref (gz g + 260), .ref (gz g + 347), .ref (gz g + 348), .int ru, .int rs]) (hjc hi_X7) tyX7 tyX7_ok nmX7 rfl ((hF2 0 (by omega)).trans hP1) 2 (by decide) (List.mem_cons_of_mem _ wd_247) rfl (rfl) (rfl) (Nat.le_of_ble_eq_true rfl) rfl dX7_remember_43 (fun H locs h => ?_)
    exact ret_v F h (Nat.zero_le _) (Nat.zero_le _) dX7_remember_46 (⟨rfl, (mu_eq _ _ _).trans (by rw [rmL, if_pos b_4, if_pos e5]), (hB1.kept (fun j _ _ => hF2 j (by omega))).out (by omega), by rw [← rmQ_5 b_4 e5]; exact (hH1.put (by decide) hB2 hF2).up (by omega), fun j hj => (mu_ne (by omega) _).trans ((hF2 j (by omega)).trans ((mu_ne (by omega) _).trans (mu_ne (by omega) _)))⟩)
  exact ret_v F h (Nat.zero_le _) (Nat.zero_le _) dX7_remember_7 (⟨rfl, by rw [rmL, if_neg b_4]; exact hP, hB, by rw [rmQ, if_neg b_4]; exact ⟨π, hH⟩, Fr.rfl'⟩)
set_option maxHeartbeats 4000000 in
set_option maxRecDepth 100000 in
theorem k_X7_isStation (l : Launch) (g : Gf) (n : Nat) (c : Mp) (lh : Nat) (ru rs : Int32) (hP : c 0 = plC g (nI lh) ru rs) (R : Nat → Int32) (hB : Bk g c 1 R) (x : Int32) : Ct l g yX7_isStation wsX7_isStation 1 22 0 0 [.ref (gz g + 0), .int x] n c (Qi g (fun xr n' c' => xr = inI x 0 (R 4 - 1) ∧ n' = n ∧ c' = c)) := by
  refine ent (by decide) rfl (Nat.le_of_ble_eq_true rfl) ?_
  intro p e s m args below meth c0 F h ls hl
  have hx := F.1
  have hb := F.2.1
  have hl : lv_has ls 2 [(0, .ref (gz g + 0)), (1, .int x)] := hl
  refine lv_iload_n hx hb dX7_isStation_0 rfl (lv_at hl 1 rfl) ?_
  refine lv_iconst (v := 0) hx hb dX7_isStation_1 (by decide) ?_
  refine lv_aload_n hx hb dX7_isStation_2 rfl (lv_at hl 0 rfl) ?_
  refine r_get F h (C := RX7) (T := TX7) (N := 8) (hjc hi_X7) rfl hP 0 (by decide) (List.mem_cons_of_mem _ wd_245) rfl dX7_isStation_3 ?_
  refine r_get F h (C := RX4) (T := TX4) (N := 8) (hjc hi_X4) rfl hB.1 4 (by decide) (List.mem_cons_of_mem _ wd_194) rfl dX7_isStation_6 ?_
  refine lv_iconst (v := 1) hx hb dX7_isStation_9 (by decide) ?_
  refine lv_isub hx hb dX7_isStation_10 ?_
  refine u_iE (v := (inI x 0 (R 4 - 1))) (ru_S (As := [.int x, .int 0, .int (R 4 - 1)]) (rest := []) F h (k_X7_isWithin l g n c x 0 (R 4 - 1)) (gS hjl wd_277 wd_278 wd_16 wd_279) rfl 3 (by decide +kernel) rfl ⟨Nat.le_of_ble_eq_true rfl, Nat.le_of_ble_eq_true rfl⟩ rfl hl.1 (Nat.le_of_ble_eq_true rfl) ⟨Nat.zero_le _, Nat.zero_le _⟩ dX7_isStation_11) h (fun H locs h => ?_)
  exact ret_z F h (inI_nar _ _ _) (Nat.zero_le _) (Nat.zero_le _) dX7_isStation_14 (⟨rfl, rfl, rfl⟩)
set_option maxHeartbeats 4000000 in
set_option maxRecDepth 100000 in
theorem k_X7_isHung (l : Launch) (g : Gf) (n : Nat) (c : Mp) (lh : Nat) (ru rs : Int32) (hP : c 0 = plC g (nI lh) ru rs) (R : Nat → Int32) (hB : Bk g c 1 R) (w : Nat) (hw : w < 4) (hb1 : B01 (R (5 + 11 * w + 0))) : Ct l g yX7_isHung wsX7_isHung 0 0 0 0 [.ref (gz g + 0), .int (nI w)] n c (Qi g (fun xr n' c' => xr = R (5 + 11 * w + 0) ∧ n' = n ∧ c' = c)) := by
  refine ent (by decide) rfl (Nat.le_of_ble_eq_true rfl) ?_
  intro p e s m args below meth c0 F h ls hl
  have hx := F.1
  have hb := F.2.1
  have hl : lv_has ls 2 [(0, .ref (gz g + 0)), (1, .int (nI w))] := hl
  refine lv_aload_n hx hb dX7_isHung_0 rfl (lv_at hl 0 rfl) ?_
  refine r_get F h (C := RX7) (T := TX7) (N := 8) (hjc hi_X7) rfl hP 0 (by decide) (List.mem_cons_of_mem _ wd_245) rfl dX7_isHung_1 ?_
  refine r_get F h (C := RX4) (T := TX4) (N := 8) (hjc hi_X4) rfl hB.1 0 (by decide) (List.mem_cons_of_mem _ wd_186) rfl dX7_isHung_4 ?_
  refine lv_iload_n hx hb dX7_isHung_7 rfl (lv_at hl 1 rfl) ?_
  refine r_aald F h (C := RX6) hB.2.1.1 (t0 := 4) rfl (vp_in_nI (show w < 4 by omega) (by decide)) (a := gz g + (1 + 2 + w)) (qs_at (fun k => some (gz g + (1 + 2 + k))) (by omega)) dX7_isHung_8 ?_
  refine r_get F h (C := RX6) (T := TX6) (N := 12) (hjc hi_X6) rfl (hB.2.1.2 w (by omega)) 0 (by decide) (List.mem_cons_of_mem _ wd_48) rfl dX7_isHung_9 ?_
  exact ret_z F h (b01n hb1) (Nat.zero_le _) (Nat.zero_le _) dX7_isHung_12 (⟨rfl, rfl, rfl⟩)
set_option maxHeartbeats 4000000 in
set_option maxRecDepth 100000 in
theorem k_X7_refuse (l : Launch) (g : Gf) (n : Nat) (c : Mp) (lh : Nat) (ru rs : Int32) (hP : c 0 = plC g (nI lh) ru rs) (R : Nat → Int32) (hB : Bk g c 1 R) (y : Int32) : Ct l g yX7_refuse wsX7_refuse 0 0 0 0 [.ref (gz g + 0), .int y] n c (Qi g (fun x n' c' => x = -100003 ∧ n' = n ∧ c' = va_up c 0 (plC g (nI lh) ru y))) := by
  refine ent (by decide) rfl (Nat.le_of_ble_eq_true rfl) ?_
  intro p e s m args below meth c0 F h ls hl
  have hx := F.1
  have hb := F.2.1
  have hl : lv_has ls 2 [(0, .ref (gz g + 0)), (1, .int y)] := hl
  refine lv_aload_n hx hb dX7_refuse_0 rfl (lv_at hl 0 rfl) ?_
  refine lv_iload_n hx hb dX7_refuse_1 rfl (lv_at hl 1 rfl) ?_
  refine r_put F h (C := RX7) (T := TX7) (N := 8) (fs' := [.ref (gz g + 1), .ref (gz g + 44), .int (nI lh), .ref (gz g + 260), .ref (gz g + 347), .ref (gz g + 348), .int ru, .int y]) (hjc hi_X7) tyX7 tyX7_ok nmX7 rfl hP 7 (by decide) (List.mem_cons_of_mem _ wd_252) rfl (rfl) (rfl) (Nat.le_of_ble_eq_true rfl) rfl dX7_refuse_2 (fun H locs h => ?_)
  refine lv_ldcw (v := (-100003)) hx hb F.2.2.2.1 (F.2.2.2.2.1 (Cond.constant RX7 294 (-100003)) (List.mem_cons_of_mem _ wd_338)) dX7_refuse_5 ?_
  exact ret_i F h (Nat.zero_le _) (Nat.zero_le _) dX7_refuse_8 (⟨rfl, rfl, rfl⟩)
def sq_X7_errorOfReading (R : Nat → Int32)  (x y z : Int32) : Int32 := if (inI x 0 3) = 0 then ((-100001)) else (if (inI y 0 800) = 0 then ((-100002)) else (if (inI z 0 1) = 0 then ((-100002)) else (if (R (5 + 11 * (wN x) + 0)) = 0 then ((-100005)) else (if y ≤ R (5 + 11 * wN x + 4) then (0) else ((-100005))))))
set_option maxHeartbeats 4000000 in
set_option maxRecDepth 100000 in
theorem k_X7_errorOfReading (l : Launch) (g : Gf) (n : Nat) (c : Mp) (lh : Nat) (ru rs : Int32) (hP : c 0 = plC g (nI lh) ru rs) (R : Nat → Int32) (hB : Bk g c 1 R) (x y z : Int32) (hW : WB R) : Ct l g yX7_errorOfReading wsX7_errorOfReading 2 42 0 0 [.ref (gz g + 0), .int x, .int y, .int z] n c (Qi g (fun xr n' c' => xr = sq_X7_errorOfReading R x y z ∧ n' = n ∧ c' = c)) := by
  refine ent (by decide) rfl (Nat.le_of_ble_eq_true rfl) ?_
  intro p e s m args below meth c0 F h ls hl
  have hx := F.1
  have hb := F.2.1
  have hl : lv_has ls 4 [(0, .ref (gz g + 0)), (1, .int x), (2, .int y), (3, .int z)] := hl
  refine lv_iload_n hx hb dX7_errorOfReading_0 rfl (lv_at hl 1 rfl) ?_
  refine u_iE (v := (inI x 0 3)) (ru_S (As := [.int x]) (rest := []) F h (k_X7_isWire l g n c x) (gS hjl wd_274 wd_275 wd_16 wd_276) rfl 1 (by decide +kernel) rfl ⟨Nat.le_of_ble_eq_true rfl, Nat.le_of_ble_eq_true rfl⟩ rfl hl.1 (Nat.le_of_ble_eq_true rfl) ⟨Nat.zero_le _, Nat.zero_le _⟩ dX7_errorOfReading_1) h (fun H locs h => ?_)
  refine lv_if_ne (tgt := 10) hx hb dX7_errorOfReading_4 (by decide) (fun b_4 => ?_) (fun b_4 => ?_)
  · skip
    refine lv_iload_n hx hb dX7_errorOfReading_10 rfl (lv_at hl 2 rfl) ?_
    refine lv_iconst (v := 0) hx hb dX7_errorOfReading_11 (by decide) ?_
    refine lv_sipush (v := 800) hx hb dX7_errorOfReading_12 (by decide) ?_
    refine u_iE (v := (inI y 0 800)) (ru_S (As := [.int y, .int 0, .int 800]) (rest := []) F h (k_X7_isWithin l g n c y 0 800) (gS hjl wd_277 wd_278 wd_16 wd_279) rfl 3 (by decide +kernel) rfl ⟨Nat.le_of_ble_eq_true rfl, Nat.le_of_ble_eq_true rfl⟩ rfl hl.1 (Nat.le_of_ble_eq_true rfl) ⟨Nat.zero_le _, Nat.zero_le _⟩ dX7_errorOfReading_15) h (fun H locs h => ?_)
    refine lv_if_eq (tgt := 30) hx hb dX7_errorOfReading_18 (by decide) (fun b_18 => ?_) (fun b_18 => ?_)
    · skip
      refine lv_ldc (v := (-100002)) hx hb F.2.2.2.1 (F.2.2.2.2.1 (Cond.constant RX7 47 (-100002)) (List.mem_cons_of_mem _ wd_281)) dX7_errorOfReading_30 ?_
      exact ret_i F h (Nat.zero_le _) (Nat.zero_le _) dX7_errorOfReading_32 (⟨((show sq_X7_errorOfReading R x y z = (-100002) by rw [sq_X7_errorOfReading, if_neg (c := (inI x 0 3) = 0) b_4, if_pos (c := (inI y 0 800) = 0) b_18])).symm, rfl, rfl⟩)
    refine lv_iload_n hx hb dX7_errorOfReading_21 rfl (lv_at hl 3 rfl) ?_
    refine lv_iconst (v := 0) hx hb dX7_errorOfReading_22 (by decide) ?_
    refine lv_iconst (v := 1) hx hb dX7_errorOfReading_23 (by decide) ?_
    refine u_iE (v := (inI z 0 1)) (ru_S (As := [.int z, .int 0, .int 1]) (rest := []) F h (k_X7_isWithin l g n c z 0 1) (gS hjl wd_277 wd_278 wd_16 wd_279) rfl 3 (by decide +kernel) rfl ⟨Nat.le_of_ble_eq_true rfl, Nat.le_of_ble_eq_true rfl⟩ rfl hl.1 (Nat.le_of_ble_eq_true rfl) ⟨Nat.zero_le _, Nat.zero_le _⟩ dX7_errorOfReading_24) h (fun H locs h => ?_)
    refine lv_if_ne (tgt := 33) hx hb dX7_errorOfReading_27 (by decide) (fun b_27 => ?_) (fun b_27 => ?_)
    · skip
      have h_x := inI_w (N := 3) (by decide) b_4
      have h4_x : wN x < 4 := h_x.1
      have hl : lv_has ls 4 [(0, .ref (gz g + 0)), (1, .int (nI (wN x))), (2, .int y), (3, .int z)] := by rw [show (nI (wN x) : Int32) = x from h_x.2]; exact hl
      refine lv_aload_n hx hb dX7_errorOfReading_33 rfl (lv_at hl 0 rfl) ?_
      refine lv_iload_n hx hb dX7_errorOfReading_34 rfl (lv_at hl 1 rfl) ?_
      refine u_iE (v := (R (5 + 11 * (wN x) + 0))) (ru_V (As := [.int (nI (wN x))]) (rest := []) F h hP rfl (k_X7_isHung l g n c lh ru rs hP R hB (wN x) (by omega) (hW.1 (wN x) (by omega))) (gV hjl wd_330 wd_332 wd_2 wd_16 wd_333) rfl 1 (by decide +kernel) rfl ⟨Nat.le_of_ble_eq_true rfl, Nat.le_of_ble_eq_true rfl⟩ rfl hl.1 (Nat.le_of_ble_eq_true rfl) ⟨Nat.zero_le _, Nat.zero_le _⟩ dX7_errorOfReading_35) h (fun H locs h => ?_)
      refine lv_if_eq (tgt := 57) hx hb dX7_errorOfReading_38 (by decide) (fun b_38 => ?_) (fun b_38 => ?_)
      · skip
        refine lv_ldc (v := (-100005)) hx hb F.2.2.2.1 (F.2.2.2.2.1 (Cond.constant RX7 123 (-100005)) (List.mem_cons_of_mem _ wd_377)) dX7_errorOfReading_57 ?_
        exact ret_i F h (Nat.zero_le _) (Nat.zero_le _) dX7_errorOfReading_59 (⟨((show sq_X7_errorOfReading R x y z = (-100005) by rw [sq_X7_errorOfReading, if_neg (c := (inI x 0 3) = 0) b_4, if_neg (c := (inI y 0 800) = 0) b_18, if_neg (c := (inI z 0 1) = 0) b_27, if_pos (c := (R (5 + 11 * (wN x) + 0)) = 0) b_38])).symm, rfl, rfl⟩)
      refine lv_iload_n hx hb dX7_errorOfReading_41 rfl (lv_at hl 2 rfl) ?_
      refine lv_aload_n hx hb dX7_errorOfReading_42 rfl (lv_at hl 0 rfl) ?_
      refine r_get F h (C := RX7) (T := TX7) (N := 8) (hjc hi_X7) rfl hP 0 (by decide) (List.mem_cons_of_mem _ wd_245) rfl dX7_errorOfReading_43 ?_
      refine r_get F h (C := RX4) (T := TX4) (N := 8) (hjc hi_X4) rfl hB.1 0 (by decide) (List.mem_cons_of_mem _ wd_186) rfl dX7_errorOfReading_46 ?_
      refine lv_iload_n hx hb dX7_errorOfReading_49 rfl (lv_at hl 1 rfl) ?_
      refine r_aald F h (C := RX6) hB.2.1.1 (t0 := 4) rfl (vp_in_nI (show wN x < 4 by omega) (by decide)) (a := gz g + (1 + 2 + wN x)) (qs_at (fun k => some (gz g + (1 + 2 + k))) (by omega)) dX7_errorOfReading_50 ?_
      refine r_get F h (C := RX6) (T := TX6) (N := 12) (hjc hi_X6) rfl (hB.2.1.2 (wN x) (by omega)) 4 (by decide) (List.mem_cons_of_mem _ wd_58) rfl dX7_errorOfReading_51 ?_
      refine lv_icmp_le (tgt := 60) hx hb dX7_errorOfReading_54 (by decide) (fun b_54 => ?_) (fun b_54 => ?_)
      · skip
        refine lv_iconst (v := 0) hx hb dX7_errorOfReading_60 (by decide) ?_
        exact ret_i F h (Nat.zero_le _) (Nat.zero_le _) dX7_errorOfReading_61 (⟨((show sq_X7_errorOfReading R x y z = 0 by rw [sq_X7_errorOfReading, if_neg (c := (inI x 0 3) = 0) b_4, if_neg (c := (inI y 0 800) = 0) b_18, if_neg (c := (inI z 0 1) = 0) b_27, if_neg (c := (R (5 + 11 * (wN x) + 0)) = 0) b_38, if_pos (c := y ≤ R (5 + 11 * wN x + 4)) b_54])).symm, rfl, rfl⟩)
      refine lv_ldc (v := (-100005)) hx hb F.2.2.2.1 (F.2.2.2.2.1 (Cond.constant RX7 123 (-100005)) (List.mem_cons_of_mem _ wd_377)) dX7_errorOfReading_57 ?_
      exact ret_i F h (Nat.zero_le _) (Nat.zero_le _) dX7_errorOfReading_59 (⟨((show sq_X7_errorOfReading R x y z = (-100005) by rw [sq_X7_errorOfReading, if_neg (c := (inI x 0 3) = 0) b_4, if_neg (c := (inI y 0 800) = 0) b_18, if_neg (c := (inI z 0 1) = 0) b_27, if_neg (c := (R (5 + 11 * (wN x) + 0)) = 0) b_38, if_neg (c := y ≤ R (5 + 11 * wN x + 4)) b_54])).symm, rfl, rfl⟩)
    refine lv_ldc (v := (-100002)) hx hb F.2.2.2.1 (F.2.2.2.2.1 (Cond.constant RX7 47 (-100002)) (List.mem_cons_of_mem _ wd_281)) dX7_errorOfReading_30 ?_
    exact ret_i F h (Nat.zero_le _) (Nat.zero_le _) dX7_errorOfReading_32 (⟨((show sq_X7_errorOfReading R x y z = (-100002) by rw [sq_X7_errorOfReading, if_neg (c := (inI x 0 3) = 0) b_4, if_neg (c := (inI y 0 800) = 0) b_18, if_pos (c := (inI z 0 1) = 0) b_27])).symm, rfl, rfl⟩)
  refine lv_ldc (v := (-100001)) hx hb F.2.2.2.1 (F.2.2.2.2.1 (Cond.constant RX7 42 (-100001)) (List.mem_cons_of_mem _ wd_280)) dX7_errorOfReading_7 ?_
  exact ret_i F h (Nat.zero_le _) (Nat.zero_le _) dX7_errorOfReading_9 (⟨((show sq_X7_errorOfReading R x y z = (-100001) by rw [sq_X7_errorOfReading, if_pos (c := (inI x 0 3) = 0) b_4])).symm, rfl, rfl⟩)
set_option maxHeartbeats 4000000 in
set_option maxRecDepth 100000 in
theorem k_X7_firstOf (l : Launch) (g : Gf) (n : Nat) (c : Mp) (lh : Nat) (ru rs : Int32) (hP : c 0 = plC g (nI lh) ru rs) (R : Nat → Int32) (hB : Bk g c 1 R) (q : Nat) (hq2 : q < 2) : Ct l g yX7_firstOf wsX7_firstOf 0 0 0 0 [.ref (gz g + 0), .int (nI q)] n c (Qr g (fun a n' c' => a = gz g + (1 + 2 + (2 * q)) ∧ n' = n ∧ c' = c)) := by
  refine ent (by decide) rfl (Nat.le_of_ble_eq_true rfl) ?_
  intro p e s m args below meth c0 F h ls hl
  have hx := F.1
  have hb := F.2.1
  have hl : lv_has ls 2 [(0, .ref (gz g + 0)), (1, .int (nI q))] := hl
  refine lv_aload_n hx hb dX7_firstOf_0 rfl (lv_at hl 0 rfl) ?_
  refine r_get F h (C := RX7) (T := TX7) (N := 8) (hjc hi_X7) rfl hP 0 (by decide) (List.mem_cons_of_mem _ wd_245) rfl dX7_firstOf_1 ?_
  refine r_get F h (C := RX4) (T := TX4) (N := 8) (hjc hi_X4) rfl hB.1 0 (by decide) (List.mem_cons_of_mem _ wd_186) rfl dX7_firstOf_4 ?_
  refine lv_iconst (v := 2) hx hb dX7_firstOf_7 (by decide) ?_
  refine lv_iload_n hx hb dX7_firstOf_8 rfl (lv_at hl 1 rfl) ?_
  refine lv_imul hx hb dX7_firstOf_9 ?_
  refine r_top (w := .int (nI (2 * q))) (congrArg Value.int (by simp only [fa_lit, pk_mul, nI_add]; first | done | (refine congrArg nI ?_; omega))) ?_
  refine r_aald F h (C := RX6) hB.2.1.1 (t0 := 4) rfl (vp_in_nI (show (2 * q) < 4 by omega) (by decide)) (a := gz g + (1 + 2 + (2 * q))) (qs_at (fun k => some (gz g + (1 + 2 + k))) (by omega)) dX7_firstOf_10 ?_
  exact ret_r F (Or.inl ⟨_, rfl⟩) h (Nat.zero_le _) (Nat.zero_le _) dX7_firstOf_11 (⟨rfl, rfl, rfl⟩)
set_option maxHeartbeats 4000000 in
set_option maxRecDepth 100000 in
theorem k_X7_secondOf (l : Launch) (g : Gf) (n : Nat) (c : Mp) (lh : Nat) (ru rs : Int32) (hP : c 0 = plC g (nI lh) ru rs) (R : Nat → Int32) (hB : Bk g c 1 R) (q : Nat) (hq2 : q < 2) : Ct l g yX7_secondOf wsX7_secondOf 0 0 0 0 [.ref (gz g + 0), .int (nI q)] n c (Qr g (fun a n' c' => a = gz g + (1 + 2 + (2 * q + 1)) ∧ n' = n ∧ c' = c)) := by
  refine ent (by decide) rfl (Nat.le_of_ble_eq_true rfl) ?_
  intro p e s m args below meth c0 F h ls hl
  have hx := F.1
  have hb := F.2.1
  have hl : lv_has ls 2 [(0, .ref (gz g + 0)), (1, .int (nI q))] := hl
  refine lv_aload_n hx hb dX7_secondOf_0 rfl (lv_at hl 0 rfl) ?_
  refine r_get F h (C := RX7) (T := TX7) (N := 8) (hjc hi_X7) rfl hP 0 (by decide) (List.mem_cons_of_mem _ wd_245) rfl dX7_secondOf_1 ?_
  refine r_get F h (C := RX4) (T := TX4) (N := 8) (hjc hi_X4) rfl hB.1 0 (by decide) (List.mem_cons_of_mem _ wd_186) rfl dX7_secondOf_4 ?_
  refine lv_iconst (v := 2) hx hb dX7_secondOf_7 (by decide) ?_
  refine lv_iload_n hx hb dX7_secondOf_8 rfl (lv_at hl 1 rfl) ?_
  refine lv_imul hx hb dX7_secondOf_9 ?_
  refine lv_iconst (v := 1) hx hb dX7_secondOf_10 (by decide) ?_
  refine lv_iadd hx hb dX7_secondOf_11 ?_
  refine r_top (w := .int (nI (2 * q + 1))) (congrArg Value.int (by simp only [fa_lit, pk_mul, nI_add]; first | done | (refine congrArg nI ?_; omega))) ?_
  refine r_aald F h (C := RX6) hB.2.1.1 (t0 := 4) rfl (vp_in_nI (show (2 * q + 1) < 4 by omega) (by decide)) (a := gz g + (1 + 2 + (2 * q + 1))) (qs_at (fun k => some (gz g + (1 + 2 + k))) (by omega)) dX7_secondOf_12 ?_
  exact ret_r F (Or.inl ⟨_, rfl⟩) h (Nat.zero_le _) (Nat.zero_le _) dX7_secondOf_13 (⟨rfl, rfl, rfl⟩)
set_option maxHeartbeats 4000000 in
set_option maxRecDepth 100000 in
theorem k_X7_firstSeen (l : Launch) (g : Gf) (n : Nat) (c : Mp) (lh : Nat) (ru rs : Int32) (hP : c 0 = plC g (nI lh) ru rs) (R : Nat → Int32) (hB : Bk g c 1 R) (s1 q : Nat) (hs5 : s1 < 5) (hq2 : q < 2) : Ct l g yX7_firstSeen wsX7_firstSeen 0 0 0 0 [.ref (gz g + 0), .int (nI s1), .int (nI q)] n c (Qr g (fun a n' c' => a = gz g + (1 + 13 + 6 * s1 + 2 + (2 * q)) ∧ n' = n ∧ c' = c)) := by
  refine ent (by decide) rfl (Nat.le_of_ble_eq_true rfl) ?_
  intro p e s m args below meth c0 F h ls hl
  have hx := F.1
  have hb := F.2.1
  have hl : lv_has ls 3 [(0, .ref (gz g + 0)), (1, .int (nI s1)), (2, .int (nI q))] := hl
  refine lv_aload_n hx hb dX7_firstSeen_0 rfl (lv_at hl 0 rfl) ?_
  refine r_get F h (C := RX7) (T := TX7) (N := 8) (hjc hi_X7) rfl hP 0 (by decide) (List.mem_cons_of_mem _ wd_245) rfl dX7_firstSeen_1 ?_
  refine r_get F h (C := RX4) (T := TX4) (N := 8) (hjc hi_X4) rfl hB.1 3 (by decide) (List.mem_cons_of_mem _ wd_192) rfl dX7_firstSeen_4 ?_
  refine lv_iload_n hx hb dX7_firstSeen_7 rfl (lv_at hl 1 rfl) ?_
  refine r_aald F h (C := RX5) hB.2.2.2.1 (t0 := 6) rfl (vp_in_nI (show s1 < 5 by omega) (by decide)) (a := gz g + (1 + 13 + 6 * s1)) (qs_at (fun k => some (gz g + (1 + 13 + 6 * k))) (by omega)) dX7_firstSeen_8 ?_
  refine r_get F h (C := RX5) (T := TX5) (N := 5) (hjc hi_X5) rfl ((hB.2.2.2.2 s1 (by omega)).1) 4 (by decide) (List.mem_cons_of_mem _ wd_173) rfl dX7_firstSeen_9 ?_
  refine lv_iconst (v := 2) hx hb dX7_firstSeen_12 (by decide) ?_
  refine lv_iload_n hx hb dX7_firstSeen_13 rfl (lv_at hl 2 rfl) ?_
  refine lv_imul hx hb dX7_firstSeen_14 ?_
  refine r_top (w := .int (nI (2 * q))) (congrArg Value.int (by simp only [fa_lit, pk_mul, nI_add]; first | done | (refine congrArg nI ?_; omega))) ?_
  refine r_aald F h (C := RX1) ((hB.2.2.2.2 s1 (by omega)).2.1) (t0 := 7) rfl (vp_in_nI (show (2 * q) < 4 by omega) (by decide)) (a := gz g + (1 + 13 + 6 * s1 + 2 + (2 * q))) (qs_at (fun k => some (gz g + (1 + 13 + 6 * s1 + 2 + k))) (by omega)) dX7_firstSeen_15 ?_
  exact ret_r F (Or.inl ⟨_, rfl⟩) h (Nat.zero_le _) (Nat.zero_le _) dX7_firstSeen_16 (⟨rfl, rfl, rfl⟩)
set_option maxHeartbeats 4000000 in
set_option maxRecDepth 100000 in
theorem k_X7_secondSeen (l : Launch) (g : Gf) (n : Nat) (c : Mp) (lh : Nat) (ru rs : Int32) (hP : c 0 = plC g (nI lh) ru rs) (R : Nat → Int32) (hB : Bk g c 1 R) (s1 q : Nat) (hs5 : s1 < 5) (hq2 : q < 2) : Ct l g yX7_secondSeen wsX7_secondSeen 0 0 0 0 [.ref (gz g + 0), .int (nI s1), .int (nI q)] n c (Qr g (fun a n' c' => a = gz g + (1 + 13 + 6 * s1 + 2 + (2 * q + 1)) ∧ n' = n ∧ c' = c)) := by
  refine ent (by decide) rfl (Nat.le_of_ble_eq_true rfl) ?_
  intro p e s m args below meth c0 F h ls hl
  have hx := F.1
  have hb := F.2.1
  have hl : lv_has ls 3 [(0, .ref (gz g + 0)), (1, .int (nI s1)), (2, .int (nI q))] := hl
  refine lv_aload_n hx hb dX7_secondSeen_0 rfl (lv_at hl 0 rfl) ?_
  refine r_get F h (C := RX7) (T := TX7) (N := 8) (hjc hi_X7) rfl hP 0 (by decide) (List.mem_cons_of_mem _ wd_245) rfl dX7_secondSeen_1 ?_
  refine r_get F h (C := RX4) (T := TX4) (N := 8) (hjc hi_X4) rfl hB.1 3 (by decide) (List.mem_cons_of_mem _ wd_192) rfl dX7_secondSeen_4 ?_
  refine lv_iload_n hx hb dX7_secondSeen_7 rfl (lv_at hl 1 rfl) ?_
  refine r_aald F h (C := RX5) hB.2.2.2.1 (t0 := 6) rfl (vp_in_nI (show s1 < 5 by omega) (by decide)) (a := gz g + (1 + 13 + 6 * s1)) (qs_at (fun k => some (gz g + (1 + 13 + 6 * k))) (by omega)) dX7_secondSeen_8 ?_
  refine r_get F h (C := RX5) (T := TX5) (N := 5) (hjc hi_X5) rfl ((hB.2.2.2.2 s1 (by omega)).1) 4 (by decide) (List.mem_cons_of_mem _ wd_173) rfl dX7_secondSeen_9 ?_
  refine lv_iconst (v := 2) hx hb dX7_secondSeen_12 (by decide) ?_
  refine lv_iload_n hx hb dX7_secondSeen_13 rfl (lv_at hl 2 rfl) ?_
  refine lv_imul hx hb dX7_secondSeen_14 ?_
  refine lv_iconst (v := 1) hx hb dX7_secondSeen_15 (by decide) ?_
  refine lv_iadd hx hb dX7_secondSeen_16 ?_
  refine r_top (w := .int (nI (2 * q + 1))) (congrArg Value.int (by simp only [fa_lit, pk_mul, nI_add]; first | done | (refine congrArg nI ?_; omega))) ?_
  refine r_aald F h (C := RX1) ((hB.2.2.2.2 s1 (by omega)).2.1) (t0 := 7) rfl (vp_in_nI (show (2 * q + 1) < 4 by omega) (by decide)) (a := gz g + (1 + 13 + 6 * s1 + 2 + (2 * q + 1))) (qs_at (fun k => some (gz g + (1 + 13 + 6 * s1 + 2 + k))) (by omega)) dX7_secondSeen_17 ?_
  exact ret_r F (Or.inl ⟨_, rfl⟩) h (Nat.zero_le _) (Nat.zero_le _) dX7_secondSeen_18 (⟨rfl, rfl, rfl⟩)
def sq_X7_isPairHung (R : Nat → Int32)  (q : Nat) : Int32 := if R (5 + 11 * (2 * q) + 0) = 0 then (0) else (if R (5 + 11 * (2 * q + 1) + 0) = 0 then (0) else (1))
set_option maxHeartbeats 4000000 in
set_option maxRecDepth 100000 in
theorem k_X7_isPairHung (l : Launch) (g : Gf) (n : Nat) (c : Mp) (lh : Nat) (ru rs : Int32) (hP : c 0 = plC g (nI lh) ru rs) (R : Nat → Int32) (hB : Bk g c 1 R) (q : Nat) (hq2 : q < 2) : Ct l g yX7_isPairHung wsX7_isPairHung 1 21 0 0 [.ref (gz g + 0), .int (nI q)] n c (Qi g (fun xr n' c' => xr = sq_X7_isPairHung R q ∧ n' = n ∧ c' = c)) := by
  refine ent (by decide) rfl (Nat.le_of_ble_eq_true rfl) ?_
  intro p e s m args below meth c0 F h ls hl
  have hx := F.1
  have hb := F.2.1
  have hl : lv_has ls 2 [(0, .ref (gz g + 0)), (1, .int (nI q))] := hl
  refine lv_aload_n hx hb dX7_isPairHung_0 rfl (lv_at hl 0 rfl) ?_
  refine lv_iload_n hx hb dX7_isPairHung_1 rfl (lv_at hl 1 rfl) ?_
  refine u_rE (v := gz g + (1 + 2 + (2 * q))) (ru_V (As := [.int (nI q)]) (rest := []) F h hP rfl (k_X7_firstOf l g n c lh ru rs hP R hB q (by omega)) (gV hjl wd_541 wd_543 wd_7 wd_16 wd_544) rfl 1 (by decide +kernel) rfl ⟨Nat.le_of_ble_eq_true rfl, Nat.le_of_ble_eq_true rfl⟩ rfl hl.1 (Nat.le_of_ble_eq_true rfl) ⟨Nat.zero_le _, Nat.zero_le _⟩ dX7_isPairHung_2) h (fun H locs h => ?_)
  refine r_get F h (C := RX6) (T := TX6) (N := 12) (hjc hi_X6) rfl (hB.2.1.2 (2 * q) (by omega)) 0 (by decide) (List.mem_cons_of_mem _ wd_48) rfl dX7_isPairHung_5 ?_
  refine lv_if_eq (tgt := 26) hx hb dX7_isPairHung_8 (by decide) (fun b_8 => ?_) (fun b_8 => ?_)
  · skip
    refine lv_iconst (v := 0) hx hb dX7_isPairHung_26 (by decide) ?_
    exact ret_z F h (by decide) (Nat.zero_le _) (Nat.zero_le _) dX7_isPairHung_27 (⟨((show sq_X7_isPairHung R q = 0 by rw [sq_X7_isPairHung, if_pos (c := R (5 + 11 * (2 * q) + 0) = 0) b_8])).symm, rfl, rfl⟩)
  refine lv_aload_n hx hb dX7_isPairHung_11 rfl (lv_at hl 0 rfl) ?_
  refine lv_iload_n hx hb dX7_isPairHung_12 rfl (lv_at hl 1 rfl) ?_
  refine u_rE (v := gz g + (1 + 2 + (2 * q + 1))) (ru_V (As := [.int (nI q)]) (rest := []) F h hP rfl (k_X7_secondOf l g n c lh ru rs hP R hB q (by omega)) (gV hjl wd_545 wd_547 wd_8 wd_16 wd_548) rfl 1 (by decide +kernel) rfl ⟨Nat.le_of_ble_eq_true rfl, Nat.le_of_ble_eq_true rfl⟩ rfl hl.1 (Nat.le_of_ble_eq_true rfl) ⟨Nat.zero_le _, Nat.zero_le _⟩ dX7_isPairHung_13) h (fun H locs h => ?_)
  refine r_get F h (C := RX6) (T := TX6) (N := 12) (hjc hi_X6) rfl (hB.2.1.2 (2 * q + 1) (by omega)) 0 (by decide) (List.mem_cons_of_mem _ wd_48) rfl dX7_isPairHung_16 ?_
  refine lv_if_eq (tgt := 26) hx hb dX7_isPairHung_19 (by decide) (fun b_19 => ?_) (fun b_19 => ?_)
  · skip
    refine lv_iconst (v := 0) hx hb dX7_isPairHung_26 (by decide) ?_
    exact ret_z F h (by decide) (Nat.zero_le _) (Nat.zero_le _) dX7_isPairHung_27 (⟨((show sq_X7_isPairHung R q = 0 by rw [sq_X7_isPairHung, if_neg (c := R (5 + 11 * (2 * q) + 0) = 0) b_8, if_pos (c := R (5 + 11 * (2 * q + 1) + 0) = 0) b_19])).symm, rfl, rfl⟩)
  refine lv_iconst (v := 1) hx hb dX7_isPairHung_22 (by decide) ?_
  refine lv_goto (tgt := 27) hx hb dX7_isPairHung_23 (by decide) ?_
  exact ret_z F h (by decide) (Nat.zero_le _) (Nat.zero_le _) dX7_isPairHung_27 (⟨((show sq_X7_isPairHung R q = 1 by rw [sq_X7_isPairHung, if_neg (c := R (5 + 11 * (2 * q) + 0) = 0) b_8, if_neg (c := R (5 + 11 * (2 * q + 1) + 0) = 0) b_19])).symm, rfl, rfl⟩)
def sq_X7_isPairAtOnePlace (R : Nat → Int32)  (q : Nat) : Int32 := if R (5 + 11 * (2 * q) + 1) = R (5 + 11 * (2 * q + 1) + 1) then (if R (5 + 11 * (2 * q) + 2) = R (5 + 11 * (2 * q + 1) + 2) then (1) else (0)) else (0)
set_option maxHeartbeats 4000000 in
set_option maxRecDepth 100000 in
theorem k_X7_isPairAtOnePlace (l : Launch) (g : Gf) (n : Nat) (c : Mp) (lh : Nat) (ru rs : Int32) (hP : c 0 = plC g (nI lh) ru rs) (R : Nat → Int32) (hB : Bk g c 1 R) (q : Nat) (hq2 : q < 2) : Ct l g yX7_isPairAtOnePlace wsX7_isPairAtOnePlace 1 21 0 0 [.ref (gz g + 0), .int (nI q)] n c (Qi g (fun xr n' c' => xr = sq_X7_isPairAtOnePlace R q ∧ n' = n ∧ c' = c)) := by
  refine ent (by decide) rfl (Nat.le_of_ble_eq_true rfl) ?_
  intro p e s m args below meth c0 F h ls hl
  have hx := F.1
  have hb := F.2.1
  have hl : lv_has ls 2 [(0, .ref (gz g + 0)), (1, .int (nI q))] := hl
  refine lv_aload_n hx hb dX7_isPairAtOnePlace_0 rfl (lv_at hl 0 rfl) ?_
  refine lv_iload_n hx hb dX7_isPairAtOnePlace_1 rfl (lv_at hl 1 rfl) ?_
  refine u_rE (v := gz g + (1 + 2 + (2 * q))) (ru_V (As := [.int (nI q)]) (rest := []) F h hP rfl (k_X7_firstOf l g n c lh ru rs hP R hB q (by omega)) (gV hjl wd_541 wd_543 wd_7 wd_16 wd_544) rfl 1 (by decide +kernel) rfl ⟨Nat.le_of_ble_eq_true rfl, Nat.le_of_ble_eq_true rfl⟩ rfl hl.1 (Nat.le_of_ble_eq_true rfl) ⟨Nat.zero_le _, Nat.zero_le _⟩ dX7_isPairAtOnePlace_2) h (fun H locs h => ?_)
  refine r_get F h (C := RX6) (T := TX6) (N := 12) (hjc hi_X6) rfl (hB.2.1.2 (2 * q) (by omega)) 1 (by decide) (List.mem_cons_of_mem _ wd_51) rfl dX7_isPairAtOnePlace_5 ?_
  refine lv_aload_n hx hb dX7_isPairAtOnePlace_8 rfl (lv_at hl 0 rfl) ?_
  refine lv_iload_n hx hb dX7_isPairAtOnePlace_9 rfl (lv_at hl 1 rfl) ?_
  refine u_rE (v := gz g + (1 + 2 + (2 * q + 1))) (ru_V (As := [.int (nI q)]) (rest := [.int (R (5 + 11 * (2 * q) + 1))]) F h hP rfl (k_X7_secondOf l g n c lh ru rs hP R hB q (by omega)) (gV hjl wd_545 wd_547 wd_8 wd_16 wd_548) rfl 1 (by decide +kernel) rfl ⟨Nat.le_of_ble_eq_true rfl, Nat.le_of_ble_eq_true rfl⟩ rfl hl.1 (Nat.le_of_ble_eq_true rfl) ⟨Nat.zero_le _, Nat.zero_le _⟩ dX7_isPairAtOnePlace_10) h (fun H locs h => ?_)
  refine r_get F h (C := RX6) (T := TX6) (N := 12) (hjc hi_X6) rfl (hB.2.1.2 (2 * q + 1) (by omega)) 1 (by decide) (List.mem_cons_of_mem _ wd_51) rfl dX7_isPairAtOnePlace_13 ?_
  refine lv_icmp_ne (tgt := 42) hx hb dX7_isPairAtOnePlace_16 (by decide) (fun b_16 => ?_) (fun b_16 => ?_)
  · skip
    refine lv_iconst (v := 0) hx hb dX7_isPairAtOnePlace_42 (by decide) ?_
    exact ret_z F h (by decide) (Nat.zero_le _) (Nat.zero_le _) dX7_isPairAtOnePlace_43 (⟨((show sq_X7_isPairAtOnePlace R q = 0 by rw [sq_X7_isPairAtOnePlace, if_neg (c := R (5 + 11 * (2 * q) + 1) = R (5 + 11 * (2 * q + 1) + 1)) b_16])).symm, rfl, rfl⟩)
  refine lv_aload_n hx hb dX7_isPairAtOnePlace_19 rfl (lv_at hl 0 rfl) ?_
  refine lv_iload_n hx hb dX7_isPairAtOnePlace_20 rfl (lv_at hl 1 rfl) ?_
  refine u_rE (v := gz g + (1 + 2 + (2 * q))) (ru_V (As := [.int (nI q)]) (rest := []) F h hP rfl (k_X7_firstOf l g n c lh ru rs hP R hB q (by omega)) (gV hjl wd_541 wd_543 wd_7 wd_16 wd_544) rfl 1 (by decide +kernel) rfl ⟨Nat.le_of_ble_eq_true rfl, Nat.le_of_ble_eq_true rfl⟩ rfl hl.1 (Nat.le_of_ble_eq_true rfl) ⟨Nat.zero_le _, Nat.zero_le _⟩ dX7_isPairAtOnePlace_21) h (fun H locs h => ?_)
  refine r_get F h (C := RX6) (T := TX6) (N := 12) (hjc hi_X6) rfl (hB.2.1.2 (2 * q) (by omega)) 2 (by decide) (List.mem_cons_of_mem _ wd_54) rfl dX7_isPairAtOnePlace_24 ?_
  refine lv_aload_n hx hb dX7_isPairAtOnePlace_27 rfl (lv_at hl 0 rfl) ?_
  refine lv_iload_n hx hb dX7_isPairAtOnePlace_28 rfl (lv_at hl 1 rfl) ?_
  refine u_rE (v := gz g + (1 + 2 + (2 * q + 1))) (ru_V (As := [.int (nI q)]) (rest := [.int (R (5 + 11 * (2 * q) + 2))]) F h hP rfl (k_X7_secondOf l g n c lh ru rs hP R hB q (by omega)) (gV hjl wd_545 wd_547 wd_8 wd_16 wd_548) rfl 1 (by decide +kernel) rfl ⟨Nat.le_of_ble_eq_true rfl, Nat.le_of_ble_eq_true rfl⟩ rfl hl.1 (Nat.le_of_ble_eq_true rfl) ⟨Nat.zero_le _, Nat.zero_le _⟩ dX7_isPairAtOnePlace_29) h (fun H locs h => ?_)
  refine r_get F h (C := RX6) (T := TX6) (N := 12) (hjc hi_X6) rfl (hB.2.1.2 (2 * q + 1) (by omega)) 2 (by decide) (List.mem_cons_of_mem _ wd_54) rfl dX7_isPairAtOnePlace_32 ?_
  refine lv_icmp_ne (tgt := 42) hx hb dX7_isPairAtOnePlace_35 (by decide) (fun b_35 => ?_) (fun b_35 => ?_)
  · skip
    refine lv_iconst (v := 0) hx hb dX7_isPairAtOnePlace_42 (by decide) ?_
    exact ret_z F h (by decide) (Nat.zero_le _) (Nat.zero_le _) dX7_isPairAtOnePlace_43 (⟨((show sq_X7_isPairAtOnePlace R q = 0 by rw [sq_X7_isPairAtOnePlace, if_pos (c := R (5 + 11 * (2 * q) + 1) = R (5 + 11 * (2 * q + 1) + 1)) b_16, if_neg (c := R (5 + 11 * (2 * q) + 2) = R (5 + 11 * (2 * q + 1) + 2)) b_35])).symm, rfl, rfl⟩)
  refine lv_iconst (v := 1) hx hb dX7_isPairAtOnePlace_38 (by decide) ?_
  refine lv_goto (tgt := 43) hx hb dX7_isPairAtOnePlace_39 (by decide) ?_
  exact ret_z F h (by decide) (Nat.zero_le _) (Nat.zero_le _) dX7_isPairAtOnePlace_43 (⟨((show sq_X7_isPairAtOnePlace R q = 1 by rw [sq_X7_isPairAtOnePlace, if_pos (c := R (5 + 11 * (2 * q) + 1) = R (5 + 11 * (2 * q + 1) + 1)) b_16, if_pos (c := R (5 + 11 * (2 * q) + 2) = R (5 + 11 * (2 * q + 1) + 2)) b_35])).symm, rfl, rfl⟩)
def sq_X7_bearingOf (dx dy : Int64) : Int32 := if (lg_cmp ((if 0 < dx then dx else -dx) + (if 0 < dy then dy else -dy)) 0) = 0 then (0) else (if (lg_cmp dx 0) ≤ 0 then (if (lg_cmp dy 0) ≤ 0 then (if 0 ≤ (lg_cmp dx 0) then ((6000 + ((2000 * dx) / ((if 0 < dx then dx else -dx) + (if 0 < dy then dy else -dy)))).toInt32) else ((4000 + ((2000 * (-dy)) / ((if 0 < dx then dx else -dx) + (if 0 < dy then dy else -dy)))).toInt32)) else ((2000 + ((2000 * (-dx)) / ((if 0 < dx then dx else -dx) + (if 0 < dy then dy else -dy)))).toInt32)) else (if (lg_cmp dy 0) < 0 then (if (lg_cmp dy 0) ≤ 0 then (if 0 ≤ (lg_cmp dx 0) then ((6000 + ((2000 * dx) / ((if 0 < dx then dx else -dx) + (if 0 < dy then dy else -dy)))).toInt32) else ((4000 + ((2000 * (-dy)) / ((if 0 < dx then dx else -dx) + (if 0 < dy then dy else -dy)))).toInt32)) else ((2000 + ((2000 * (-dx)) / ((if 0 < dx then dx else -dx) + (if 0 < dy then dy else -dy)))).toInt32)) else (((2000 * dy) / ((if 0 < dx then dx else -dx) + (if 0 < dy then dy else -dy))).toInt32)))
set_option maxHeartbeats 4000000 in
set_option maxRecDepth 100000 in
theorem k_X7_bearingOf (l : Launch) (g : Gf) (n : Nat) (c : Mp) (dx dy : Int64) : Ct l g yX7_bearingOf wsX7_bearingOf 1 21 0 0 [.long dx, .long dy] n c (Qi g (fun xr n' c' => xr = sq_X7_bearingOf dx dy ∧ n' = n ∧ c' = c)) := by
  refine ent (by decide) rfl (Nat.le_of_ble_eq_true rfl) ?_
  intro p e s m args below meth c0 F h ls hl
  have hx := F.1
  have hb := F.2.1
  have hl : lv_has ls 6 [(0, .long dx), (2, .long dy)] := hl
  refine lv_lload_n hx hb dX7_bearingOf_0 rfl (lv_at hl 0 rfl) ?_
  refine va_mabs_long hx hb (F.2.2.1.trans hl.1.symm) F.2.2.2.1 (F.2.2.2.2.1 _ (List.mem_cons_of_mem _ wd_436)) (F.2.2.2.2.1 _ (List.mem_cons_of_mem _ wd_437)) (F.2.2.2.2.1 _ (List.mem_cons_of_mem _ wd_23)) (F.2.2.2.2.1 _ (List.mem_cons_of_mem _ wd_438)) (Nat.le_of_ble_eq_true rfl) (Nat.le_of_ble_eq_true rfl) (Nat.zero_le _) (Nat.zero_le _) dX7_bearingOf_1 ?_
  refine lv_lload_n hx hb dX7_bearingOf_4 rfl (lv_at hl 1 rfl) ?_
  refine va_mabs_long hx hb (F.2.2.1.trans hl.1.symm) F.2.2.2.1 (F.2.2.2.2.1 _ (List.mem_cons_of_mem _ wd_436)) (F.2.2.2.2.1 _ (List.mem_cons_of_mem _ wd_437)) (F.2.2.2.2.1 _ (List.mem_cons_of_mem _ wd_23)) (F.2.2.2.2.1 _ (List.mem_cons_of_mem _ wd_438)) (Nat.le_of_ble_eq_true rfl) (Nat.le_of_ble_eq_true rfl) (Nat.zero_le _) (Nat.zero_le _) dX7_bearingOf_5 ?_
  refine lv_ladd hx hb dX7_bearingOf_8 ?_
  refine lv_lstore (lv' := [(4, .long ((if 0 < dx then dx else -dx) + (if 0 < dy then dy else -dy))), (0, .long dx), (2, .long dy)]) hx hb dX7_bearingOf_9 hl (by decide) rfl (fun ls hl => ?_)
  refine lv_lload hx hb dX7_bearingOf_11 (lv_at hl 0 rfl) ?_
  refine lv_lconst (v := 0) hx hb dX7_bearingOf_13 (by decide) ?_
  refine W.lcmp hx hb dX7_bearingOf_14 ?_
  refine lv_if_ne (tgt := 20) hx hb dX7_bearingOf_15 (by decide) (fun b_15 => ?_) (fun b_15 => ?_)
  · skip
    refine lv_lload_n hx hb dX7_bearingOf_20 rfl (lv_at hl 1 rfl) ?_
    refine lv_lconst (v := 0) hx hb dX7_bearingOf_21 (by decide) ?_
    refine W.lcmp hx hb dX7_bearingOf_22 ?_
    refine lv_if_le (tgt := 42) hx hb dX7_bearingOf_23 (by decide) (fun b_23 => ?_) (fun b_23 => ?_)
    · skip
      refine lv_lload_n hx hb dX7_bearingOf_42 rfl (lv_at hl 2 rfl) ?_
      refine lv_lconst (v := 0) hx hb dX7_bearingOf_43 (by decide) ?_
      refine W.lcmp hx hb dX7_bearingOf_44 ?_
      refine lv_if_le (tgt := 63) hx hb dX7_bearingOf_45 (by decide) (fun b_45 => ?_) (fun b_45 => ?_)
      · skip
        refine lv_lload_n hx hb dX7_bearingOf_63 rfl (lv_at hl 1 rfl) ?_
        refine lv_lconst (v := 0) hx hb dX7_bearingOf_64 (by decide) ?_
        refine W.lcmp hx hb dX7_bearingOf_65 ?_
        refine lv_if_ge (tgt := 84) hx hb dX7_bearingOf_66 (by decide) (fun b_66 => ?_) (fun b_66 => ?_)
        · skip
          refine lv_ldc2 (v := 6000) hx hb F.2.2.2.1 (F.2.2.2.2.1 (Cond.constantLong RX7 329 6000) (List.mem_cons_of_mem _ wd_441)) dX7_bearingOf_84 ?_
          refine lv_ldc2 (v := 2000) hx hb F.2.2.2.1 (F.2.2.2.2.1 (Cond.constantLong RX7 327 2000) (List.mem_cons_of_mem _ wd_439)) dX7_bearingOf_87 ?_
          refine lv_lload_n hx hb dX7_bearingOf_90 rfl (lv_at hl 1 rfl) ?_
          refine lv_lmul hx hb dX7_bearingOf_91 ?_
          refine lv_lload hx hb dX7_bearingOf_92 (lv_at hl 0 rfl) ?_
          refine lv_ldiv hx hb dX7_bearingOf_94 (fun z => b_15 ((lg_cmp_eq _ _).mpr z)) ?_
          refine lv_ladd hx hb dX7_bearingOf_95 ?_
          refine lv_l2i hx hb dX7_bearingOf_96 rfl ?_
          exact ret_i F h (Nat.zero_le _) (Nat.zero_le _) dX7_bearingOf_97 (⟨((show sq_X7_bearingOf dx dy = (6000 + ((2000 * dx) / ((if 0 < dx then dx else -dx) + (if 0 < dy then dy else -dy)))).toInt32 by rw [sq_X7_bearingOf, if_neg (c := (lg_cmp ((if 0 < dx then dx else -dx) + (if 0 < dy then dy else -dy)) 0) = 0) b_15, if_pos (c := (lg_cmp dx 0) ≤ 0) b_23, if_pos (c := (lg_cmp dy 0) ≤ 0) b_45, if_pos (c := 0 ≤ (lg_cmp dx 0)) b_66])).symm, rfl, rfl⟩)
        refine lv_ldc2 (v := 4000) hx hb F.2.2.2.1 (F.2.2.2.2.1 (Cond.constantLong RX7 175 4000) (List.mem_cons_of_mem _ wd_440)) dX7_bearingOf_69 ?_
        refine lv_ldc2 (v := 2000) hx hb F.2.2.2.1 (F.2.2.2.2.1 (Cond.constantLong RX7 327 2000) (List.mem_cons_of_mem _ wd_439)) dX7_bearingOf_72 ?_
        refine lv_lload_n hx hb dX7_bearingOf_75 rfl (lv_at hl 2 rfl) ?_
        refine lv_lneg hx hb dX7_bearingOf_76 ?_
        refine lv_lmul hx hb dX7_bearingOf_77 ?_
        refine lv_lload hx hb dX7_bearingOf_78 (lv_at hl 0 rfl) ?_
        refine lv_ldiv hx hb dX7_bearingOf_80 (fun z => b_15 ((lg_cmp_eq _ _).mpr z)) ?_
        refine lv_ladd hx hb dX7_bearingOf_81 ?_
        refine lv_l2i hx hb dX7_bearingOf_82 rfl ?_
        exact ret_i F h (Nat.zero_le _) (Nat.zero_le _) dX7_bearingOf_83 (⟨((show sq_X7_bearingOf dx dy = (4000 + ((2000 * (-dy)) / ((if 0 < dx then dx else -dx) + (if 0 < dy then dy else -dy)))).toInt32 by rw [sq_X7_bearingOf, if_neg (c := (lg_cmp ((if 0 < dx then dx else -dx) + (if 0 < dy then dy else -dy)) 0) = 0) b_15, if_pos (c := (lg_cmp dx 0) ≤ 0) b_23, if_pos (c := (lg_cmp dy 0) ≤ 0) b_45, if_neg (c := 0 ≤ (lg_cmp dx 0)) b_66])).symm, rfl, rfl⟩)
      refine lv_ldc2 (v := 2000) hx hb F.2.2.2.1 (F.2.2.2.2.1 (Cond.constantLong RX7 327 2000) (List.mem_cons_of_mem _ wd_439)) dX7_bearingOf_48 ?_
      refine lv_ldc2 (v := 2000) hx hb F.2.2.2.1 (F.2.2.2.2.1 (Cond.constantLong RX7 327 2000) (List.mem_cons_of_mem _ wd_439)) dX7_bearingOf_51 ?_
      refine lv_lload_n hx hb dX7_bearingOf_54 rfl (lv_at hl 1 rfl) ?_
      refine lv_lneg hx hb dX7_bearingOf_55 ?_
      refine lv_lmul hx hb dX7_bearingOf_56 ?_
      refine lv_lload hx hb dX7_bearingOf_57 (lv_at hl 0 rfl) ?_
      refine lv_ldiv hx hb dX7_bearingOf_59 (fun z => b_15 ((lg_cmp_eq _ _).mpr z)) ?_
      refine lv_ladd hx hb dX7_bearingOf_60 ?_
      refine lv_l2i hx hb dX7_bearingOf_61 rfl ?_
      exact ret_i F h (Nat.zero_le _) (Nat.zero_le _) dX7_bearingOf_62 (⟨((show sq_X7_bearingOf dx dy = (2000 + ((2000 * (-dx)) / ((if 0 < dx then dx else -dx) + (if 0 < dy then dy else -dy)))).toInt32 by rw [sq_X7_bearingOf, if_neg (c := (lg_cmp ((if 0 < dx then dx else -dx) + (if 0 < dy then dy else -dy)) 0) = 0) b_15, if_pos (c := (lg_cmp dx 0) ≤ 0) b_23, if_neg (c := (lg_cmp dy 0) ≤ 0) b_45])).symm, rfl, rfl⟩)
    refine lv_lload_n hx hb dX7_bearingOf_26 rfl (lv_at hl 2 rfl) ?_
    refine lv_lconst (v := 0) hx hb dX7_bearingOf_27 (by decide) ?_
    refine W.lcmp hx hb dX7_bearingOf_28 ?_
    refine lv_if_lt (tgt := 42) hx hb dX7_bearingOf_29 (by decide) (fun b_29 => ?_) (fun b_29 => ?_)
    · skip
      refine lv_lload_n hx hb dX7_bearingOf_42 rfl (lv_at hl 2 rfl) ?_
      refine lv_lconst (v := 0) hx hb dX7_bearingOf_43 (by decide) ?_
      refine W.lcmp hx hb dX7_bearingOf_44 ?_
      refine lv_if_le (tgt := 63) hx hb dX7_bearingOf_45 (by decide) (fun b_45 => ?_) (fun b_45 => ?_)
      · skip
        refine lv_lload_n hx hb dX7_bearingOf_63 rfl (lv_at hl 1 rfl) ?_
        refine lv_lconst (v := 0) hx hb dX7_bearingOf_64 (by decide) ?_
        refine W.lcmp hx hb dX7_bearingOf_65 ?_
        refine lv_if_ge (tgt := 84) hx hb dX7_bearingOf_66 (by decide) (fun b_66 => ?_) (fun b_66 => ?_)
        · skip
          refine lv_ldc2 (v := 6000) hx hb F.2.2.2.1 (F.2.2.2.2.1 (Cond.constantLong RX7 329 6000) (List.mem_cons_of_mem _ wd_441)) dX7_bearingOf_84 ?_
          refine lv_ldc2 (v := 2000) hx hb F.2.2.2.1 (F.2.2.2.2.1 (Cond.constantLong RX7 327 2000) (List.mem_cons_of_mem _ wd_439)) dX7_bearingOf_87 ?_
          refine lv_lload_n hx hb dX7_bearingOf_90 rfl (lv_at hl 1 rfl) ?_
          refine lv_lmul hx hb dX7_bearingOf_91 ?_
          refine lv_lload hx hb dX7_bearingOf_92 (lv_at hl 0 rfl) ?_
          refine lv_ldiv hx hb dX7_bearingOf_94 (fun z => b_15 ((lg_cmp_eq _ _).mpr z)) ?_
          refine lv_ladd hx hb dX7_bearingOf_95 ?_
          refine lv_l2i hx hb dX7_bearingOf_96 rfl ?_
          exact ret_i F h (Nat.zero_le _) (Nat.zero_le _) dX7_bearingOf_97 (⟨((show sq_X7_bearingOf dx dy = (6000 + ((2000 * dx) / ((if 0 < dx then dx else -dx) + (if 0 < dy then dy else -dy)))).toInt32 by rw [sq_X7_bearingOf, if_neg (c := (lg_cmp ((if 0 < dx then dx else -dx) + (if 0 < dy then dy else -dy)) 0) = 0) b_15, if_neg (c := (lg_cmp dx 0) ≤ 0) b_23, if_pos (c := (lg_cmp dy 0) < 0) b_29, if_pos (c := (lg_cmp dy 0) ≤ 0) b_45, if_pos (c := 0 ≤ (lg_cmp dx 0)) b_66])).symm, rfl, rfl⟩)
        refine lv_ldc2 (v := 4000) hx hb F.2.2.2.1 (F.2.2.2.2.1 (Cond.constantLong RX7 175 4000) (List.mem_cons_of_mem _ wd_440)) dX7_bearingOf_69 ?_
        refine lv_ldc2 (v := 2000) hx hb F.2.2.2.1 (F.2.2.2.2.1 (Cond.constantLong RX7 327 2000) (List.mem_cons_of_mem _ wd_439)) dX7_bearingOf_72 ?_
        refine lv_lload_n hx hb dX7_bearingOf_75 rfl (lv_at hl 2 rfl) ?_
        refine lv_lneg hx hb dX7_bearingOf_76 ?_
        refine lv_lmul hx hb dX7_bearingOf_77 ?_
        refine lv_lload hx hb dX7_bearingOf_78 (lv_at hl 0 rfl) ?_
        refine lv_ldiv hx hb dX7_bearingOf_80 (fun z => b_15 ((lg_cmp_eq _ _).mpr z)) ?_
        refine lv_ladd hx hb dX7_bearingOf_81 ?_
        refine lv_l2i hx hb dX7_bearingOf_82 rfl ?_
        exact ret_i F h (Nat.zero_le _) (Nat.zero_le _) dX7_bearingOf_83 (⟨((show sq_X7_bearingOf dx dy = (4000 + ((2000 * (-dy)) / ((if 0 < dx then dx else -dx) + (if 0 < dy then dy else -dy)))).toInt32 by rw [sq_X7_bearingOf, if_neg (c := (lg_cmp ((if 0 < dx then dx else -dx) + (if 0 < dy then dy else -dy)) 0) = 0) b_15, if_neg (c := (lg_cmp dx 0) ≤ 0) b_23, if_pos (c := (lg_cmp dy 0) < 0) b_29, if_pos (c := (lg_cmp dy 0) ≤ 0) b_45, if_neg (c := 0 ≤ (lg_cmp dx 0)) b_66])).symm, rfl, rfl⟩)
      refine lv_ldc2 (v := 2000) hx hb F.2.2.2.1 (F.2.2.2.2.1 (Cond.constantLong RX7 327 2000) (List.mem_cons_of_mem _ wd_439)) dX7_bearingOf_48 ?_
      refine lv_ldc2 (v := 2000) hx hb F.2.2.2.1 (F.2.2.2.2.1 (Cond.constantLong RX7 327 2000) (List.mem_cons_of_mem _ wd_439)) dX7_bearingOf_51 ?_
      refine lv_lload_n hx hb dX7_bearingOf_54 rfl (lv_at hl 1 rfl) ?_
      refine lv_lneg hx hb dX7_bearingOf_55 ?_
      refine lv_lmul hx hb dX7_bearingOf_56 ?_
      refine lv_lload hx hb dX7_bearingOf_57 (lv_at hl 0 rfl) ?_
      refine lv_ldiv hx hb dX7_bearingOf_59 (fun z => b_15 ((lg_cmp_eq _ _).mpr z)) ?_
      refine lv_ladd hx hb dX7_bearingOf_60 ?_
      refine lv_l2i hx hb dX7_bearingOf_61 rfl ?_
      exact ret_i F h (Nat.zero_le _) (Nat.zero_le _) dX7_bearingOf_62 (⟨((show sq_X7_bearingOf dx dy = (2000 + ((2000 * (-dx)) / ((if 0 < dx then dx else -dx) + (if 0 < dy then dy else -dy)))).toInt32 by rw [sq_X7_bearingOf, if_neg (c := (lg_cmp ((if 0 < dx then dx else -dx) + (if 0 < dy then dy else -dy)) 0) = 0) b_15, if_neg (c := (lg_cmp dx 0) ≤ 0) b_23, if_pos (c := (lg_cmp dy 0) < 0) b_29, if_neg (c := (lg_cmp dy 0) ≤ 0) b_45])).symm, rfl, rfl⟩)
    refine lv_ldc2 (v := 2000) hx hb F.2.2.2.1 (F.2.2.2.2.1 (Cond.constantLong RX7 327 2000) (List.mem_cons_of_mem _ wd_439)) dX7_bearingOf_32 ?_
    refine lv_lload_n hx hb dX7_bearingOf_35 rfl (lv_at hl 2 rfl) ?_
    refine lv_lmul hx hb dX7_bearingOf_36 ?_
    refine lv_lload hx hb dX7_bearingOf_37 (lv_at hl 0 rfl) ?_
    refine lv_ldiv hx hb dX7_bearingOf_39 (fun z => b_15 ((lg_cmp_eq _ _).mpr z)) ?_
    refine lv_l2i hx hb dX7_bearingOf_40 rfl ?_
    exact ret_i F h (Nat.zero_le _) (Nat.zero_le _) dX7_bearingOf_41 (⟨((show sq_X7_bearingOf dx dy = ((2000 * dy) / ((if 0 < dx then dx else -dx) + (if 0 < dy then dy else -dy))).toInt32 by rw [sq_X7_bearingOf, if_neg (c := (lg_cmp ((if 0 < dx then dx else -dx) + (if 0 < dy then dy else -dy)) 0) = 0) b_15, if_neg (c := (lg_cmp dx 0) ≤ 0) b_23, if_neg (c := (lg_cmp dy 0) < 0) b_29])).symm, rfl, rfl⟩)
  refine lv_iconst (v := 0) hx hb dX7_bearingOf_18 (by decide) ?_
  exact ret_i F h (Nat.zero_le _) (Nat.zero_le _) dX7_bearingOf_19 (⟨((show sq_X7_bearingOf dx dy = 0 by rw [sq_X7_bearingOf, if_pos (c := (lg_cmp ((if 0 < dx then dx else -dx) + (if 0 < dy then dy else -dy)) 0) = 0) b_15])).symm, rfl, rfl⟩)
def sq_X7_surfaceBearing (R : Nat → Int32)  (q : Nat) : Int32 := (sq_X7_bearingOf ((R (5 + 11 * (2 * q + 1) + 1) - R (5 + 11 * (2 * q) + 1)).toInt64) ((R (5 + 11 * (2 * q + 1) + 2) - R (5 + 11 * (2 * q) + 2)).toInt64))
set_option maxHeartbeats 4000000 in
set_option maxRecDepth 100000 in
theorem k_X7_surfaceBearing (l : Launch) (g : Gf) (n : Nat) (c : Mp) (lh : Nat) (ru rs : Int32) (hP : c 0 = plC g (nI lh) ru rs) (R : Nat → Int32) (hB : Bk g c 1 R) (q : Nat) (hq2 : q < 2) : Ct l g yX7_surfaceBearing wsX7_surfaceBearing 2 46 0 0 [.ref (gz g + 0), .int (nI q)] n c (Qi g (fun xr n' c' => xr = sq_X7_surfaceBearing R q ∧ n' = n ∧ c' = c)) := by
  refine ent (by decide) rfl (Nat.le_of_ble_eq_true rfl) ?_
  intro p e s m args below meth c0 F h ls hl
  have hx := F.1
  have hb := F.2.1
  have hl : lv_has ls 4 [(0, .ref (gz g + 0)), (1, .int (nI q))] := hl
  refine lv_aload_n hx hb dX7_surfaceBearing_0 rfl (lv_at hl 0 rfl) ?_
  refine lv_iload_n hx hb dX7_surfaceBearing_1 rfl (lv_at hl 1 rfl) ?_
  refine u_rE (v := gz g + (1 + 2 + (2 * q))) (ru_V (As := [.int (nI q)]) (rest := []) F h hP rfl (k_X7_firstOf l g n c lh ru rs hP R hB q (by omega)) (gV hjl wd_541 wd_543 wd_7 wd_16 wd_544) rfl 1 (by decide +kernel) rfl ⟨Nat.le_of_ble_eq_true rfl, Nat.le_of_ble_eq_true rfl⟩ rfl hl.1 (Nat.le_of_ble_eq_true rfl) ⟨Nat.zero_le _, Nat.zero_le _⟩ dX7_surfaceBearing_2) h (fun H locs h => ?_)
  refine lv_astore_n (lv' := [(2, .ref (gz g + (1 + 2 + (2 * q)))), (0, .ref (gz g + 0)), (1, .int (nI q))]) hx hb dX7_surfaceBearing_5 rfl hl (by decide) rfl (fun ls hl => ?_)
  refine lv_aload_n hx hb dX7_surfaceBearing_6 rfl (lv_at hl 1 rfl) ?_
  refine lv_iload_n hx hb dX7_surfaceBearing_7 rfl (lv_at hl 2 rfl) ?_
  refine u_rE (v := gz g + (1 + 2 + (2 * q + 1))) (ru_V (As := [.int (nI q)]) (rest := []) F h hP rfl (k_X7_secondOf l g n c lh ru rs hP R hB q (by omega)) (gV hjl wd_545 wd_547 wd_8 wd_16 wd_548) rfl 1 (by decide +kernel) rfl ⟨Nat.le_of_ble_eq_true rfl, Nat.le_of_ble_eq_true rfl⟩ rfl hl.1 (Nat.le_of_ble_eq_true rfl) ⟨Nat.zero_le _, Nat.zero_le _⟩ dX7_surfaceBearing_8) h (fun H locs h => ?_)
  refine lv_astore_n (lv' := [(3, .ref (gz g + (1 + 2 + (2 * q + 1)))), (2, .ref (gz g + (1 + 2 + (2 * q)))), (0, .ref (gz g + 0)), (1, .int (nI q))]) hx hb dX7_surfaceBearing_11 rfl hl (by decide) rfl (fun ls hl => ?_)
  refine lv_aload_n hx hb dX7_surfaceBearing_12 rfl (lv_at hl 0 rfl) ?_
  refine r_get F h (C := RX6) (T := TX6) (N := 12) (hjc hi_X6) rfl (hB.2.1.2 (2 * q + 1) (by omega)) 1 (by decide) (List.mem_cons_of_mem _ wd_51) rfl dX7_surfaceBearing_13 ?_
  refine lv_aload_n hx hb dX7_surfaceBearing_16 rfl (lv_at hl 1 rfl) ?_
  refine r_get F h (C := RX6) (T := TX6) (N := 12) (hjc hi_X6) rfl (hB.2.1.2 (2 * q) (by omega)) 1 (by decide) (List.mem_cons_of_mem _ wd_51) rfl dX7_surfaceBearing_17 ?_
  refine lv_isub hx hb dX7_surfaceBearing_20 ?_
  refine lv_i2l hx hb dX7_surfaceBearing_21 rfl ?_
  refine lv_aload_n hx hb dX7_surfaceBearing_22 rfl (lv_at hl 0 rfl) ?_
  refine r_get F h (C := RX6) (T := TX6) (N := 12) (hjc hi_X6) rfl (hB.2.1.2 (2 * q + 1) (by omega)) 2 (by decide) (List.mem_cons_of_mem _ wd_54) rfl dX7_surfaceBearing_23 ?_
  refine lv_aload_n hx hb dX7_surfaceBearing_26 rfl (lv_at hl 1 rfl) ?_
  refine r_get F h (C := RX6) (T := TX6) (N := 12) (hjc hi_X6) rfl (hB.2.1.2 (2 * q) (by omega)) 2 (by decide) (List.mem_cons_of_mem _ wd_54) rfl dX7_surfaceBearing_27 ?_
  refine lv_isub hx hb dX7_surfaceBearing_30 ?_
  refine lv_i2l hx hb dX7_surfaceBearing_31 rfl ?_
  refine u_iE (v := (sq_X7_bearingOf ((R (5 + 11 * (2 * q + 1) + 1) - R (5 + 11 * (2 * q) + 1)).toInt64) ((R (5 + 11 * (2 * q + 1) + 2) - R (5 + 11 * (2 * q) + 2)).toInt64))) (ru_S (As := [.long ((R (5 + 11 * (2 * q + 1) + 1) - R (5 + 11 * (2 * q) + 1)).toInt64), .long ((R (5 + 11 * (2 * q + 1) + 2) - R (5 + 11 * (2 * q) + 2)).toInt64)]) (rest := []) F h (k_X7_bearingOf l g n c ((R (5 + 11 * (2 * q + 1) + 1) - R (5 + 11 * (2 * q) + 1)).toInt64) ((R (5 + 11 * (2 * q + 1) + 2) - R (5 + 11 * (2 * q) + 2)).toInt64)) (gS hjl wd_433 wd_434 wd_16 wd_435) rfl 2 (by decide +kernel) rfl ⟨Nat.le_of_ble_eq_true rfl, Nat.le_of_ble_eq_true rfl⟩ rfl hl.1 (Nat.le_of_ble_eq_true rfl) ⟨Nat.zero_le _, Nat.zero_le _⟩ dX7_surfaceBearing_32) h (fun H locs h => ?_)
  exact ret_i F h (Nat.zero_le _) (Nat.zero_le _) dX7_surfaceBearing_35 (⟨((show sq_X7_surfaceBearing R q = (sq_X7_bearingOf ((R (5 + 11 * (2 * q + 1) + 1) - R (5 + 11 * (2 * q) + 1)).toInt64) ((R (5 + 11 * (2 * q + 1) + 2) - R (5 + 11 * (2 * q) + 2)).toInt64)) by rw [sq_X7_surfaceBearing])).symm, rfl, rfl⟩)
def sq_X7_reasonAgainst (R : Nat → Int32)  (s1 q : Nat) : Int32 := if (sq_X7_isPairHung R q) = 0 then (1) else (if R (84 + 6 * (4 * s1 + (2 * q)) + 0) = 0 then (3) else (if R (84 + 6 * (4 * s1 + (2 * q + 1)) + 0) = 0 then (3) else (if (sq_X7_isPairAtOnePlace R q) = 0 then (if R (84 + 6 * (4 * s1 + (2 * q)) + 1) = R (84 + 6 * (4 * s1 + (2 * q + 1)) + 1) then (if R (84 + 6 * (4 * s1 + (2 * q)) + 2) = R (84 + 6 * (4 * s1 + (2 * q + 1)) + 2) then (4) else (0)) else (0)) else (4))))
set_option maxHeartbeats 4000000 in
set_option maxRecDepth 100000 in
theorem k_X7_reasonAgainst (l : Launch) (g : Gf) (n : Nat) (c : Mp) (lh : Nat) (ru rs : Int32) (hP : c 0 = plC g (nI lh) ru rs) (R : Nat → Int32) (hB : Bk g c 1 R) (s1 q : Nat) (hs5 : s1 < 5) (hq2 : q < 2) : Ct l g yX7_reasonAgainst wsX7_reasonAgainst 2 42 0 0 [.ref (gz g + 0), .int (nI s1), .int (nI q)] n c (Qi g (fun xr n' c' => xr = sq_X7_reasonAgainst R s1 q ∧ n' = n ∧ c' = c)) := by
  refine ent (by decide) rfl (Nat.le_of_ble_eq_true rfl) ?_
  intro p e s m args below meth c0 F h ls hl
  have hx := F.1
  have hb := F.2.1
  have hl : lv_has ls 5 [(0, .ref (gz g + 0)), (1, .int (nI s1)), (2, .int (nI q))] := hl
  refine lv_aload_n hx hb dX7_reasonAgainst_0 rfl (lv_at hl 0 rfl) ?_
  refine lv_iload_n hx hb dX7_reasonAgainst_1 rfl (lv_at hl 2 rfl) ?_
  refine u_iE (v := (sq_X7_isPairHung R q)) (ru_V (As := [.int (nI q)]) (rest := []) F h hP rfl (k_X7_isPairHung l g n c lh ru rs hP R hB q (by omega)) (gV hjl wd_537 wd_539 wd_6 wd_16 wd_540) rfl 1 (by decide +kernel) rfl ⟨Nat.le_of_ble_eq_true rfl, Nat.le_of_ble_eq_true rfl⟩ rfl hl.1 (Nat.le_of_ble_eq_true rfl) ⟨Nat.zero_le _, Nat.zero_le _⟩ dX7_reasonAgainst_2) h (fun H locs h => ?_)
  refine lv_if_ne (tgt := 10) hx hb dX7_reasonAgainst_5 (by decide) (fun b_5 => ?_) (fun b_5 => ?_)
  · skip
    refine lv_aload_n hx hb dX7_reasonAgainst_10 rfl (lv_at hl 0 rfl) ?_
    refine lv_iload_n hx hb dX7_reasonAgainst_11 rfl (lv_at hl 1 rfl) ?_
    refine lv_iload_n hx hb dX7_reasonAgainst_12 rfl (lv_at hl 2 rfl) ?_
    refine u_rE (v := gz g + (1 + 13 + 6 * s1 + 2 + (2 * q))) (ru_V (As := [.int (nI s1), .int (nI q)]) (rest := []) F h hP rfl (k_X7_firstSeen l g n c lh ru rs hP R hB s1 q (by omega) (by omega)) (gV hjl wd_565 wd_567 wd_12 wd_16 wd_568) rfl 2 (by decide +kernel) rfl ⟨Nat.le_of_ble_eq_true rfl, Nat.le_of_ble_eq_true rfl⟩ rfl hl.1 (Nat.le_of_ble_eq_true rfl) ⟨Nat.zero_le _, Nat.zero_le _⟩ dX7_reasonAgainst_13) h (fun H locs h => ?_)
    refine lv_astore_n (lv' := [(3, .ref (gz g + (1 + 13 + 6 * s1 + 2 + (2 * q)))), (0, .ref (gz g + 0)), (1, .int (nI s1)), (2, .int (nI q))]) hx hb dX7_reasonAgainst_16 rfl hl (by decide) rfl (fun ls hl => ?_)
    refine lv_aload_n hx hb dX7_reasonAgainst_17 rfl (lv_at hl 1 rfl) ?_
    refine lv_iload_n hx hb dX7_reasonAgainst_18 rfl (lv_at hl 2 rfl) ?_
    refine lv_iload_n hx hb dX7_reasonAgainst_19 rfl (lv_at hl 3 rfl) ?_
    refine u_rE (v := gz g + (1 + 13 + 6 * s1 + 2 + (2 * q + 1))) (ru_V (As := [.int (nI s1), .int (nI q)]) (rest := []) F h hP rfl (k_X7_secondSeen l g n c lh ru rs hP R hB s1 q (by omega) (by omega)) (gV hjl wd_569 wd_571 wd_13 wd_16 wd_572) rfl 2 (by decide +kernel) rfl ⟨Nat.le_of_ble_eq_true rfl, Nat.le_of_ble_eq_true rfl⟩ rfl hl.1 (Nat.le_of_ble_eq_true rfl) ⟨Nat.zero_le _, Nat.zero_le _⟩ dX7_reasonAgainst_20) h (fun H locs h => ?_)
    refine lv_astore (lv' := [(4, .ref (gz g + (1 + 13 + 6 * s1 + 2 + (2 * q + 1)))), (3, .ref (gz g + (1 + 13 + 6 * s1 + 2 + (2 * q)))), (0, .ref (gz g + 0)), (1, .int (nI s1)), (2, .int (nI q))]) hx hb dX7_reasonAgainst_23 hl (by decide) rfl (fun ls hl => ?_)
    refine lv_aload_n hx hb dX7_reasonAgainst_25 rfl (lv_at hl 1 rfl) ?_
    refine r_get F h (C := RX1) (T := TX1) (N := 6) (hjc hi_X1) rfl ((hB.2.2.2.2 s1 (by omega)).2.2 (2 * q) (by omega)) 0 (by decide) (List.mem_cons_of_mem _ wd_134) rfl dX7_reasonAgainst_26 ?_
    refine lv_if_eq (tgt := 40) hx hb dX7_reasonAgainst_29 (by decide) (fun b_29 => ?_) (fun b_29 => ?_)
    · skip
      refine lv_iconst (v := 3) hx hb dX7_reasonAgainst_40 (by decide) ?_
      exact ret_i F h (Nat.zero_le _) (Nat.zero_le _) dX7_reasonAgainst_41 (⟨((show sq_X7_reasonAgainst R s1 q = 3 by rw [sq_X7_reasonAgainst, if_neg (c := (sq_X7_isPairHung R q) = 0) b_5, if_pos (c := R (84 + 6 * (4 * s1 + (2 * q)) + 0) = 0) b_29])).symm, rfl, rfl⟩)
    refine lv_aload hx hb dX7_reasonAgainst_32 (lv_at hl 0 rfl) ?_
    refine r_get F h (C := RX1) (T := TX1) (N := 6) (hjc hi_X1) rfl ((hB.2.2.2.2 s1 (by omega)).2.2 (2 * q + 1) (by omega)) 0 (by decide) (List.mem_cons_of_mem _ wd_134) rfl dX7_reasonAgainst_34 ?_
    refine lv_if_ne (tgt := 42) hx hb dX7_reasonAgainst_37 (by decide) (fun b_37 => ?_) (fun b_37 => ?_)
    · skip
      refine lv_aload_n hx hb dX7_reasonAgainst_42 rfl (lv_at hl 2 rfl) ?_
      refine lv_iload_n hx hb dX7_reasonAgainst_43 rfl (lv_at hl 4 rfl) ?_
      refine u_iE (v := (sq_X7_isPairAtOnePlace R q)) (ru_V (As := [.int (nI q)]) (rest := []) F h hP rfl (k_X7_isPairAtOnePlace l g n c lh ru rs hP R hB q (by omega)) (gV hjl wd_549 wd_551 wd_9 wd_16 wd_552) rfl 1 (by decide +kernel) rfl ⟨Nat.le_of_ble_eq_true rfl, Nat.le_of_ble_eq_true rfl⟩ rfl hl.1 (Nat.le_of_ble_eq_true rfl) ⟨Nat.zero_le _, Nat.zero_le _⟩ dX7_reasonAgainst_44) h (fun H locs h => ?_)
      refine lv_if_ne (tgt := 74) hx hb dX7_reasonAgainst_47 (by decide) (fun b_47 => ?_) (fun b_47 => ?_)
      · skip
        refine lv_iconst (v := 4) hx hb dX7_reasonAgainst_74 (by decide) ?_
        exact ret_i F h (Nat.zero_le _) (Nat.zero_le _) dX7_reasonAgainst_75 (⟨((show sq_X7_reasonAgainst R s1 q = 4 by rw [sq_X7_reasonAgainst, if_neg (c := (sq_X7_isPairHung R q) = 0) b_5, if_neg (c := R (84 + 6 * (4 * s1 + (2 * q)) + 0) = 0) b_29, if_neg (c := R (84 + 6 * (4 * s1 + (2 * q + 1)) + 0) = 0) b_37, if_neg (c := (sq_X7_isPairAtOnePlace R q) = 0) b_47])).symm, rfl, rfl⟩)
      refine lv_aload_n hx hb dX7_reasonAgainst_50 rfl (lv_at hl 1 rfl) ?_
      refine r_get F h (C := RX1) (T := TX1) (N := 6) (hjc hi_X1) rfl ((hB.2.2.2.2 s1 (by omega)).2.2 (2 * q) (by omega)) 1 (by decide) (List.mem_cons_of_mem _ wd_137) rfl dX7_reasonAgainst_51 ?_
      refine lv_aload hx hb dX7_reasonAgainst_54 (lv_at hl 0 rfl) ?_
      refine r_get F h (C := RX1) (T := TX1) (N := 6) (hjc hi_X1) rfl ((hB.2.2.2.2 s1 (by omega)).2.2 (2 * q + 1) (by omega)) 1 (by decide) (List.mem_cons_of_mem _ wd_137) rfl dX7_reasonAgainst_56 ?_
      refine lv_icmp_ne (tgt := 76) hx hb dX7_reasonAgainst_59 (by decide) (fun b_59 => ?_) (fun b_59 => ?_)
      · skip
        refine lv_iconst (v := 0) hx hb dX7_reasonAgainst_76 (by decide) ?_
        exact ret_i F h (Nat.zero_le _) (Nat.zero_le _) dX7_reasonAgainst_77 (⟨((show sq_X7_reasonAgainst R s1 q = 0 by rw [sq_X7_reasonAgainst, if_neg (c := (sq_X7_isPairHung R q) = 0) b_5, if_neg (c := R (84 + 6 * (4 * s1 + (2 * q)) + 0) = 0) b_29, if_neg (c := R (84 + 6 * (4 * s1 + (2 * q + 1)) + 0) = 0) b_37, if_pos (c := (sq_X7_isPairAtOnePlace R q) = 0) b_47, if_neg (c := R (84 + 6 * (4 * s1 + (2 * q)) + 1) = R (84 + 6 * (4 * s1 + (2 * q + 1)) + 1)) b_59])).symm, rfl, rfl⟩)
      refine lv_aload_n hx hb dX7_reasonAgainst_62 rfl (lv_at hl 1 rfl) ?_
      refine r_get F h (C := RX1) (T := TX1) (N := 6) (hjc hi_X1) rfl ((hB.2.2.2.2 s1 (by omega)).2.2 (2 * q) (by omega)) 2 (by decide) (List.mem_cons_of_mem _ wd_140) rfl dX7_reasonAgainst_63 ?_
      refine lv_aload hx hb dX7_reasonAgainst_66 (lv_at hl 0 rfl) ?_
      refine r_get F h (C := RX1) (T := TX1) (N := 6) (hjc hi_X1) rfl ((hB.2.2.2.2 s1 (by omega)).2.2 (2 * q + 1) (by omega)) 2 (by decide) (List.mem_cons_of_mem _ wd_140) rfl dX7_reasonAgainst_68 ?_
      refine lv_icmp_ne (tgt := 76) hx hb dX7_reasonAgainst_71 (by decide) (fun b_71 => ?_) (fun b_71 => ?_)
      · skip
        refine lv_iconst (v := 0) hx hb dX7_reasonAgainst_76 (by decide) ?_
        exact ret_i F h (Nat.zero_le _) (Nat.zero_le _) dX7_reasonAgainst_77 (⟨((show sq_X7_reasonAgainst R s1 q = 0 by rw [sq_X7_reasonAgainst, if_neg (c := (sq_X7_isPairHung R q) = 0) b_5, if_neg (c := R (84 + 6 * (4 * s1 + (2 * q)) + 0) = 0) b_29, if_neg (c := R (84 + 6 * (4 * s1 + (2 * q + 1)) + 0) = 0) b_37, if_pos (c := (sq_X7_isPairAtOnePlace R q) = 0) b_47, if_pos (c := R (84 + 6 * (4 * s1 + (2 * q)) + 1) = R (84 + 6 * (4 * s1 + (2 * q + 1)) + 1)) b_59, if_neg (c := R (84 + 6 * (4 * s1 + (2 * q)) + 2) = R (84 + 6 * (4 * s1 + (2 * q + 1)) + 2)) b_71])).symm, rfl, rfl⟩)
      refine lv_iconst (v := 4) hx hb dX7_reasonAgainst_74 (by decide) ?_
      exact ret_i F h (Nat.zero_le _) (Nat.zero_le _) dX7_reasonAgainst_75 (⟨((show sq_X7_reasonAgainst R s1 q = 4 by rw [sq_X7_reasonAgainst, if_neg (c := (sq_X7_isPairHung R q) = 0) b_5, if_neg (c := R (84 + 6 * (4 * s1 + (2 * q)) + 0) = 0) b_29, if_neg (c := R (84 + 6 * (4 * s1 + (2 * q + 1)) + 0) = 0) b_37, if_pos (c := (sq_X7_isPairAtOnePlace R q) = 0) b_47, if_pos (c := R (84 + 6 * (4 * s1 + (2 * q)) + 1) = R (84 + 6 * (4 * s1 + (2 * q + 1)) + 1)) b_59, if_pos (c := R (84 + 6 * (4 * s1 + (2 * q)) + 2) = R (84 + 6 * (4 * s1 + (2 * q + 1)) + 2)) b_71])).symm, rfl, rfl⟩)
    refine lv_iconst (v := 3) hx hb dX7_reasonAgainst_40 (by decide) ?_
    exact ret_i F h (Nat.zero_le _) (Nat.zero_le _) dX7_reasonAgainst_41 (⟨((show sq_X7_reasonAgainst R s1 q = 3 by rw [sq_X7_reasonAgainst, if_neg (c := (sq_X7_isPairHung R q) = 0) b_5, if_neg (c := R (84 + 6 * (4 * s1 + (2 * q)) + 0) = 0) b_29, if_pos (c := R (84 + 6 * (4 * s1 + (2 * q + 1)) + 0) = 0) b_37])).symm, rfl, rfl⟩)
  refine lv_iconst (v := 1) hx hb dX7_reasonAgainst_8 (by decide) ?_
  exact ret_i F h (Nat.zero_le _) (Nat.zero_le _) dX7_reasonAgainst_9 (⟨((show sq_X7_reasonAgainst R s1 q = 1 by rw [sq_X7_reasonAgainst, if_pos (c := (sq_X7_isPairHung R q) = 0) b_5])).symm, rfl, rfl⟩)
def sq_X7_orientationFrom (R : Nat → Int32)  (s1 q : Nat) : Int32 := (ciI ((sq_X7_surfaceBearing R q).toInt64 - (ciI ((sq_X7_bearingOf ((R (84 + 6 * (4 * s1 + (2 * q + 1)) + 1) - R (84 + 6 * (4 * s1 + (2 * q)) + 1)).toInt64) ((R (84 + 6 * (4 * s1 + (2 * q + 1)) + 2) - R (84 + 6 * (4 * s1 + (2 * q)) + 2)).toInt64)).toInt64 + (R (69 + 3 * s1 + 1)).toInt64)).toInt64))
set_option maxHeartbeats 4000000 in
set_option maxRecDepth 100000 in
theorem k_X7_orientationFrom (l : Launch) (g : Gf) (n : Nat) (c : Mp) (lh : Nat) (ru rs : Int32) (hP : c 0 = plC g (nI lh) ru rs) (R : Nat → Int32) (hB : Bk g c 1 R) (s1 q : Nat) (hs5 : s1 < 5) (hq2 : q < 2) : Ct l g yX7_orientationFrom wsX7_orientationFrom 3 69 0 0 [.ref (gz g + 0), .int (nI s1), .int (nI q)] n c (Qi g (fun xr n' c' => xr = sq_X7_orientationFrom R s1 q ∧ n' = n ∧ c' = c)) := by
  refine ent (by decide) rfl (Nat.le_of_ble_eq_true rfl) ?_
  intro p e s m args below meth c0 F h ls hl
  have hx := F.1
  have hb := F.2.1
  have hl : lv_has ls 7 [(0, .ref (gz g + 0)), (1, .int (nI s1)), (2, .int (nI q))] := hl
  refine lv_aload_n hx hb dX7_orientationFrom_0 rfl (lv_at hl 0 rfl) ?_
  refine lv_iload_n hx hb dX7_orientationFrom_1 rfl (lv_at hl 1 rfl) ?_
  refine lv_iload_n hx hb dX7_orientationFrom_2 rfl (lv_at hl 2 rfl) ?_
  refine u_rE (v := gz g + (1 + 13 + 6 * s1 + 2 + (2 * q))) (ru_V (As := [.int (nI s1), .int (nI q)]) (rest := []) F h hP rfl (k_X7_firstSeen l g n c lh ru rs hP R hB s1 q (by omega) (by omega)) (gV hjl wd_565 wd_567 wd_12 wd_16 wd_568) rfl 2 (by decide +kernel) rfl ⟨Nat.le_of_ble_eq_true rfl, Nat.le_of_ble_eq_true rfl⟩ rfl hl.1 (Nat.le_of_ble_eq_true rfl) ⟨Nat.zero_le _, Nat.zero_le _⟩ dX7_orientationFrom_3) h (fun H locs h => ?_)
  refine lv_astore_n (lv' := [(3, .ref (gz g + (1 + 13 + 6 * s1 + 2 + (2 * q)))), (0, .ref (gz g + 0)), (1, .int (nI s1)), (2, .int (nI q))]) hx hb dX7_orientationFrom_6 rfl hl (by decide) rfl (fun ls hl => ?_)
  refine lv_aload_n hx hb dX7_orientationFrom_7 rfl (lv_at hl 1 rfl) ?_
  refine lv_iload_n hx hb dX7_orientationFrom_8 rfl (lv_at hl 2 rfl) ?_
  refine lv_iload_n hx hb dX7_orientationFrom_9 rfl (lv_at hl 3 rfl) ?_
  refine u_rE (v := gz g + (1 + 13 + 6 * s1 + 2 + (2 * q + 1))) (ru_V (As := [.int (nI s1), .int (nI q)]) (rest := []) F h hP rfl (k_X7_secondSeen l g n c lh ru rs hP R hB s1 q (by omega) (by omega)) (gV hjl wd_569 wd_571 wd_13 wd_16 wd_572) rfl 2 (by decide +kernel) rfl ⟨Nat.le_of_ble_eq_true rfl, Nat.le_of_ble_eq_true rfl⟩ rfl hl.1 (Nat.le_of_ble_eq_true rfl) ⟨Nat.zero_le _, Nat.zero_le _⟩ dX7_orientationFrom_10) h (fun H locs h => ?_)
  refine lv_astore (lv' := [(4, .ref (gz g + (1 + 13 + 6 * s1 + 2 + (2 * q + 1)))), (3, .ref (gz g + (1 + 13 + 6 * s1 + 2 + (2 * q)))), (0, .ref (gz g + 0)), (1, .int (nI s1)), (2, .int (nI q))]) hx hb dX7_orientationFrom_13 hl (by decide) rfl (fun ls hl => ?_)
  refine lv_aload hx hb dX7_orientationFrom_15 (lv_at hl 0 rfl) ?_
  refine r_get F h (C := RX1) (T := TX1) (N := 6) (hjc hi_X1) rfl ((hB.2.2.2.2 s1 (by omega)).2.2 (2 * q + 1) (by omega)) 1 (by decide) (List.mem_cons_of_mem _ wd_137) rfl dX7_orientationFrom_17 ?_
  refine lv_aload_n hx hb dX7_orientationFrom_20 rfl (lv_at hl 1 rfl) ?_
  refine r_get F h (C := RX1) (T := TX1) (N := 6) (hjc hi_X1) rfl ((hB.2.2.2.2 s1 (by omega)).2.2 (2 * q) (by omega)) 1 (by decide) (List.mem_cons_of_mem _ wd_137) rfl dX7_orientationFrom_21 ?_
  refine lv_isub hx hb dX7_orientationFrom_24 ?_
  refine lv_i2l hx hb dX7_orientationFrom_25 rfl ?_
  refine lv_aload hx hb dX7_orientationFrom_26 (lv_at hl 0 rfl) ?_
  refine r_get F h (C := RX1) (T := TX1) (N := 6) (hjc hi_X1) rfl ((hB.2.2.2.2 s1 (by omega)).2.2 (2 * q + 1) (by omega)) 2 (by decide) (List.mem_cons_of_mem _ wd_140) rfl dX7_orientationFrom_28 ?_
  refine lv_aload_n hx hb dX7_orientationFrom_31 rfl (lv_at hl 1 rfl) ?_
  refine r_get F h (C := RX1) (T := TX1) (N := 6) (hjc hi_X1) rfl ((hB.2.2.2.2 s1 (by omega)).2.2 (2 * q) (by omega)) 2 (by decide) (List.mem_cons_of_mem _ wd_140) rfl dX7_orientationFrom_32 ?_
  refine lv_isub hx hb dX7_orientationFrom_35 ?_
  refine lv_i2l hx hb dX7_orientationFrom_36 rfl ?_
  refine u_iE (v := (sq_X7_bearingOf ((R (84 + 6 * (4 * s1 + (2 * q + 1)) + 1) - R (84 + 6 * (4 * s1 + (2 * q)) + 1)).toInt64) ((R (84 + 6 * (4 * s1 + (2 * q + 1)) + 2) - R (84 + 6 * (4 * s1 + (2 * q)) + 2)).toInt64))) (ru_S (As := [.long ((R (84 + 6 * (4 * s1 + (2 * q + 1)) + 1) - R (84 + 6 * (4 * s1 + (2 * q)) + 1)).toInt64), .long ((R (84 + 6 * (4 * s1 + (2 * q + 1)) + 2) - R (84 + 6 * (4 * s1 + (2 * q)) + 2)).toInt64)]) (rest := []) F h (k_X7_bearingOf l g n c ((R (84 + 6 * (4 * s1 + (2 * q + 1)) + 1) - R (84 + 6 * (4 * s1 + (2 * q)) + 1)).toInt64) ((R (84 + 6 * (4 * s1 + (2 * q + 1)) + 2) - R (84 + 6 * (4 * s1 + (2 * q)) + 2)).toInt64)) (gS hjl wd_433 wd_434 wd_16 wd_435) rfl 2 (by decide +kernel) rfl ⟨Nat.le_of_ble_eq_true rfl, Nat.le_of_ble_eq_true rfl⟩ rfl hl.1 (Nat.le_of_ble_eq_true rfl) ⟨Nat.zero_le _, Nat.zero_le _⟩ dX7_orientationFrom_37) h (fun H locs h => ?_)
  refine lv_istore (lv' := [(5, .int (sq_X7_bearingOf ((R (84 + 6 * (4 * s1 + (2 * q + 1)) + 1) - R (84 + 6 * (4 * s1 + (2 * q)) + 1)).toInt64) ((R (84 + 6 * (4 * s1 + (2 * q + 1)) + 2) - R (84 + 6 * (4 * s1 + (2 * q)) + 2)).toInt64))), (4, .ref (gz g + (1 + 13 + 6 * s1 + 2 + (2 * q + 1)))), (3, .ref (gz g + (1 + 13 + 6 * s1 + 2 + (2 * q)))), (0, .ref (gz g + 0)), (1, .int (nI s1)), (2, .int (nI q))]) hx hb dX7_orientationFrom_40 hl (by decide) rfl (fun ls hl => ?_)
  refine lv_iload hx hb dX7_orientationFrom_42 (lv_at hl 0 rfl) ?_
  refine lv_i2l hx hb dX7_orientationFrom_44 rfl ?_
  refine lv_aload_n hx hb dX7_orientationFrom_45 rfl (lv_at hl 3 rfl) ?_
  refine r_get F h (C := RX7) (T := TX7) (N := 8) (hjc hi_X7) rfl hP 0 (by decide) (List.mem_cons_of_mem _ wd_245) rfl dX7_orientationFrom_46 ?_
  refine r_get F h (C := RX4) (T := TX4) (N := 8) (hjc hi_X4) rfl hB.1 3 (by decide) (List.mem_cons_of_mem _ wd_192) rfl dX7_orientationFrom_49 ?_
  refine lv_iload_n hx hb dX7_orientationFrom_52 rfl (lv_at hl 4 rfl) ?_
  refine r_aald F h (C := RX5) hB.2.2.2.1 (t0 := 6) rfl (vp_in_nI (show s1 < 5 by omega) (by decide)) (a := gz g + (1 + 13 + 6 * s1)) (qs_at (fun k => some (gz g + (1 + 13 + 6 * k))) (by omega)) dX7_orientationFrom_53 ?_
  refine r_get F h (C := RX5) (T := TX5) (N := 5) (hjc hi_X5) rfl ((hB.2.2.2.2 s1 (by omega)).1) 1 (by decide) (List.mem_cons_of_mem _ wd_165) rfl dX7_orientationFrom_54 ?_
  refine lv_i2l hx hb dX7_orientationFrom_57 rfl ?_
  refine lv_ladd hx hb dX7_orientationFrom_58 ?_
  refine u_iE (v := (ciI ((sq_X7_bearingOf ((R (84 + 6 * (4 * s1 + (2 * q + 1)) + 1) - R (84 + 6 * (4 * s1 + (2 * q)) + 1)).toInt64) ((R (84 + 6 * (4 * s1 + (2 * q + 1)) + 2) - R (84 + 6 * (4 * s1 + (2 * q)) + 2)).toInt64)).toInt64 + (R (69 + 3 * s1 + 1)).toInt64))) (ru_S (As := [.long ((sq_X7_bearingOf ((R (84 + 6 * (4 * s1 + (2 * q + 1)) + 1) - R (84 + 6 * (4 * s1 + (2 * q)) + 1)).toInt64) ((R (84 + 6 * (4 * s1 + (2 * q + 1)) + 2) - R (84 + 6 * (4 * s1 + (2 * q)) + 2)).toInt64)).toInt64 + (R (69 + 3 * s1 + 1)).toInt64)]) (rest := []) F h (k_X7_onCircle l g n c ((sq_X7_bearingOf ((R (84 + 6 * (4 * s1 + (2 * q + 1)) + 1) - R (84 + 6 * (4 * s1 + (2 * q)) + 1)).toInt64) ((R (84 + 6 * (4 * s1 + (2 * q + 1)) + 2) - R (84 + 6 * (4 * s1 + (2 * q)) + 2)).toInt64)).toInt64 + (R (69 + 3 * s1 + 1)).toInt64)) (gS hjl wd_577 wd_578 wd_16 wd_579) rfl 1 (by decide +kernel) rfl ⟨Nat.le_of_ble_eq_true rfl, Nat.le_of_ble_eq_true rfl⟩ rfl hl.1 (Nat.le_of_ble_eq_true rfl) ⟨Nat.zero_le _, Nat.zero_le _⟩ dX7_orientationFrom_59) h (fun H locs h => ?_)
  refine lv_istore (lv' := [(6, .int (ciI ((sq_X7_bearingOf ((R (84 + 6 * (4 * s1 + (2 * q + 1)) + 1) - R (84 + 6 * (4 * s1 + (2 * q)) + 1)).toInt64) ((R (84 + 6 * (4 * s1 + (2 * q + 1)) + 2) - R (84 + 6 * (4 * s1 + (2 * q)) + 2)).toInt64)).toInt64 + (R (69 + 3 * s1 + 1)).toInt64))), (5, .int (sq_X7_bearingOf ((R (84 + 6 * (4 * s1 + (2 * q + 1)) + 1) - R (84 + 6 * (4 * s1 + (2 * q)) + 1)).toInt64) ((R (84 + 6 * (4 * s1 + (2 * q + 1)) + 2) - R (84 + 6 * (4 * s1 + (2 * q)) + 2)).toInt64))), (4, .ref (gz g + (1 + 13 + 6 * s1 + 2 + (2 * q + 1)))), (3, .ref (gz g + (1 + 13 + 6 * s1 + 2 + (2 * q)))), (0, .ref (gz g + 0)), (1, .int (nI s1)), (2, .int (nI q))]) hx hb dX7_orientationFrom_62 hl (by decide) rfl (fun ls hl => ?_)
  refine lv_aload_n hx hb dX7_orientationFrom_64 rfl (lv_at hl 4 rfl) ?_
  refine lv_iload_n hx hb dX7_orientationFrom_65 rfl (lv_at hl 6 rfl) ?_
  refine u_iE (v := (sq_X7_surfaceBearing R q)) (ru_V (As := [.int (nI q)]) (rest := []) F h hP rfl (k_X7_surfaceBearing l g n c lh ru rs hP R hB q (by omega)) (gV hjl wd_553 wd_555 wd_10 wd_16 wd_556) rfl 1 (by decide +kernel) rfl ⟨Nat.le_of_ble_eq_true rfl, Nat.le_of_ble_eq_true rfl⟩ rfl hl.1 (Nat.le_of_ble_eq_true rfl) ⟨Nat.zero_le _, Nat.zero_le _⟩ dX7_orientationFrom_66) h (fun H locs h => ?_)
  refine lv_i2l hx hb dX7_orientationFrom_69 rfl ?_
  refine lv_iload hx hb dX7_orientationFrom_70 (lv_at hl 0 rfl) ?_
  refine lv_i2l hx hb dX7_orientationFrom_72 rfl ?_
  refine lv_lsub hx hb dX7_orientationFrom_73 ?_
  refine u_iE (v := (ciI ((sq_X7_surfaceBearing R q).toInt64 - (ciI ((sq_X7_bearingOf ((R (84 + 6 * (4 * s1 + (2 * q + 1)) + 1) - R (84 + 6 * (4 * s1 + (2 * q)) + 1)).toInt64) ((R (84 + 6 * (4 * s1 + (2 * q + 1)) + 2) - R (84 + 6 * (4 * s1 + (2 * q)) + 2)).toInt64)).toInt64 + (R (69 + 3 * s1 + 1)).toInt64)).toInt64))) (ru_S (As := [.long ((sq_X7_surfaceBearing R q).toInt64 - (ciI ((sq_X7_bearingOf ((R (84 + 6 * (4 * s1 + (2 * q + 1)) + 1) - R (84 + 6 * (4 * s1 + (2 * q)) + 1)).toInt64) ((R (84 + 6 * (4 * s1 + (2 * q + 1)) + 2) - R (84 + 6 * (4 * s1 + (2 * q)) + 2)).toInt64)).toInt64 + (R (69 + 3 * s1 + 1)).toInt64)).toInt64)]) (rest := []) F h (k_X7_onCircle l g n c ((sq_X7_surfaceBearing R q).toInt64 - (ciI ((sq_X7_bearingOf ((R (84 + 6 * (4 * s1 + (2 * q + 1)) + 1) - R (84 + 6 * (4 * s1 + (2 * q)) + 1)).toInt64) ((R (84 + 6 * (4 * s1 + (2 * q + 1)) + 2) - R (84 + 6 * (4 * s1 + (2 * q)) + 2)).toInt64)).toInt64 + (R (69 + 3 * s1 + 1)).toInt64)).toInt64)) (gS hjl wd_577 wd_578 wd_16 wd_579) rfl 1 (by decide +kernel) rfl ⟨Nat.le_of_ble_eq_true rfl, Nat.le_of_ble_eq_true rfl⟩ rfl hl.1 (Nat.le_of_ble_eq_true rfl) ⟨Nat.zero_le _, Nat.zero_le _⟩ dX7_orientationFrom_74) h (fun H locs h => ?_)
  exact ret_i F h (Nat.zero_le _) (Nat.zero_le _) dX7_orientationFrom_77 (⟨((show sq_X7_orientationFrom R s1 q = (ciI ((sq_X7_surfaceBearing R q).toInt64 - (ciI ((sq_X7_bearingOf ((R (84 + 6 * (4 * s1 + (2 * q + 1)) + 1) - R (84 + 6 * (4 * s1 + (2 * q)) + 1)).toInt64) ((R (84 + 6 * (4 * s1 + (2 * q + 1)) + 2) - R (84 + 6 * (4 * s1 + (2 * q)) + 2)).toInt64)).toInt64 + (R (69 + 3 * s1 + 1)).toInt64)).toInt64)) by rw [sq_X7_orientationFrom])).symm, rfl, rfl⟩)
