/-! The class: acts. -/
theorem Fr.n {c c' : Mp} {n lo hi : Nat} (F : Fr c c' lo hi) (h : hi ≤ 260) : Fn c c' n := fun j h1 _ => F j (by omega)
def sPut (r : Nat → Int32) (s : Nat) (de fr : Int32) : Nat → Int32 := fun k => if k = 69 + 3 * s then de else if k = 69 + 3 * s + 1 then fr else if k = 69 + 3 * s + 2 then 0 else if k = 204 + s then 0 else if 84 + 24 * s ≤ k ∧ k < 84 + 24 * s + 24 ∧ (k - 84) % 6 = 0 then 0 else r k
theorem Bk.becomeP {g : Gf} {c c' : Mp} {b : Nat} {r : Nat → Int32} (h : Bk g c b r) {s : Nat} (hs : s < 5) {de fr : Int32} (hS : Sg g c' (b + 13 + 6 * s) de fr 0 0 (fun w q => if q = 0 then 0 else r (84 + 6 * (4 * s + w) + q))) (F : Fr c c' (b + 13 + 6 * s) (b + 13 + 6 * s + 6)) : Bk g c' b (sPut r s de fr) := by
  have e0 : sPut r s de fr (69 + 3 * s) = de := if_pos rfl
  have e1 : sPut r s de fr (69 + 3 * s + 1) = fr := by unfold sPut; rw [if_neg (by omega), if_pos rfl]
  have e2 : sPut r s de fr (69 + 3 * s + 2) = 0 := by unfold sPut; rw [if_neg (by omega), if_neg (by omega), if_pos rfl]
  have e3 : sPut r s de fr (204 + s) = 0 := by unfold sPut; rw [if_neg (by omega), if_neg (by omega), if_neg (by omega), if_pos rfl]
  refine h.stat hs ?_ F (fun k hk h1 h2 h3 => ?_)
  · rw [e0, e1, e2, e3]
    refine hS.cong (fun _ _ _ => rfl) (fun w q hw hq => ?_)
    unfold sPut
    rw [if_neg (by omega), if_neg (by omega), if_neg (by omega), if_neg (by omega)]
    by_cases e : q = 0
    · subst e; rw [if_pos ⟨by omega, by omega, by omega⟩, if_pos rfl]
    · rw [if_neg (fun z => by omega), if_neg e]
  · unfold sPut
    rw [if_neg (by omega), if_neg (by omega), if_neg (by omega), if_neg h2, if_neg (fun z => by omega)]
theorem wPut_4 (r : Nat → Int32) (w : Nat) (f : Nat → Int32) : wPut r w f 4 = r 4 := wPut_lo r w f (by decide)
theorem cPut_4 (r : Nat → Int32) (w : Nat) (f : Nat → Int32) : cPut r w f 4 = r 4 := cPut_lo r w f (by decide)
theorem vdR_4 (r : Nat → Int32) (w n : Nat) : vdR r w n 4 = r 4 := vdR_lo r w n (by decide)
theorem upd_34 (r : Nat → Int32) (v : Int32) : upd r 3 v 4 = r 4 := rfl
theorem cPut_3 (r : Nat → Int32) (w : Nat) (f : Nat → Int32) : cPut r w f 3 = r 3 := cPut_lo r w f (by decide)
def sq_X7_hang (lh : Nat) (ru rs : Int32) (R : Nat → Int32) (hq : Nat → Nat → Int32) (w x y ma de : Int32) (sc : Nat) : ClT := if (inI w 0 3) = 0 then (((-100001), rs, R, lh, hq)) else (if (inI x (-5000) 5000) = 0 then (((-100002), rs, R, lh, hq)) else (if (inI y (-5000) 5000) = 0 then (((-100002), rs, R, lh, hq)) else (if (inI ma 1 200) = 0 then (((-100002), rs, R, lh, hq)) else (if (inI de 10 800) = 0 then (((-100002), rs, R, lh, hq)) else (((ctI (fun v => (vdR (wPut R (wN w) (l11 1 x y ma de 0 0 0 0 0 0)) (wN w) sc) (5 + 11 * v)) 4), rs, vdR (wPut R (wN w) (l11 1 x y ma de 0 0 0 0 0 0)) (wN w) sc, (rmL ru lh), rmQ ru lh hq R))))))
set_option maxHeartbeats 4000000 in
set_option maxRecDepth 100000 in
theorem k_X7_hang (l : Launch) (g : Gf) (n : Nat) (c : Mp) (lh : Nat) (ru rs : Int32) (hP : c 0 = plC g (nI lh) ru rs) (R : Nat → Int32) (hB : Bk g c 1 R) (hk5 : lh ≤ 5) (hq : Nat → Nat → Int32) (hH : Hx g c hq) (hW : WB R) (w x y ma de : Int32) (sc : Nat) (hsc : R 4 = nI sc) (h5 : sc ≤ 5) : Ct l g yX7_hang wsX7_hang 4 85 0 0 [.ref (gz g + 0), .int w, .int x, .int y, .int ma, .int de] n c (Qi g (fun xr n' c' => PA g c n ru (sq_X7_hang lh ru rs R hq w x y ma de sc) xr n' c')) := by
  refine ent (by decide) rfl (Nat.le_of_ble_eq_true rfl) ?_
  intro p e s m args below meth c0 F h ls hl
  have hx := F.1
  have hb := F.2.1
  have hl : lv_has ls 6 [(0, .ref (gz g + 0)), (1, .int w), (2, .int x), (3, .int y), (4, .int ma), (5, .int de)] := hl
  refine lv_iload_n hx hb dX7_hang_0 rfl (lv_at hl 1 rfl) ?_
  refine u_iE (v := (inI w 0 3)) (ru_S (As := [.int w]) (rest := []) F h (k_X7_isWire l g n c w) (gS hjl wd_274 wd_275 wd_16 wd_276) rfl 1 (by decide +kernel) rfl ⟨Nat.le_of_ble_eq_true rfl, Nat.le_of_ble_eq_true rfl⟩ rfl hl.1 (Nat.le_of_ble_eq_true rfl) ⟨Nat.zero_le _, Nat.zero_le _⟩ dX7_hang_1) h (fun H locs h => ?_)
  refine lv_if_ne (tgt := 10) hx hb dX7_hang_4 (by decide) (fun b_4 => ?_) (fun b_4 => ?_)
  · skip
    refine lv_iload_n hx hb dX7_hang_10 rfl (lv_at hl 2 rfl) ?_
    refine lv_sipush (v := (-5000)) hx hb dX7_hang_11 (by decide) ?_
    refine lv_sipush (v := 5000) hx hb dX7_hang_14 (by decide) ?_
    refine u_iE (v := (inI x (-5000) 5000)) (ru_S (As := [.int x, .int (-5000), .int 5000]) (rest := []) F h (k_X7_isWithin l g n c x (-5000) 5000) (gS hjl wd_277 wd_278 wd_16 wd_279) rfl 3 (by decide +kernel) rfl ⟨Nat.le_of_ble_eq_true rfl, Nat.le_of_ble_eq_true rfl⟩ rfl hl.1 (Nat.le_of_ble_eq_true rfl) ⟨Nat.zero_le _, Nat.zero_le _⟩ dX7_hang_17) h (fun H locs h => ?_)
    refine lv_if_eq (tgt := 61) hx hb dX7_hang_20 (by decide) (fun b_20 => ?_) (fun b_20 => ?_)
    · skip
      refine lv_ldc (v := (-100002)) hx hb F.2.2.2.1 (F.2.2.2.2.1 (Cond.constant RX7 47 (-100002)) (List.mem_cons_of_mem _ wd_281)) dX7_hang_61 ?_
      exact ret_i F h (Nat.zero_le _) (Nat.zero_le _) dX7_hang_63 (paE (show sq_X7_hang lh ru rs R hq w x y ma de sc = ((-100002), rs, R, lh, hq) by rw [sq_X7_hang, if_neg (c := (inI w 0 3) = 0) b_4, if_pos (c := (inI x (-5000) 5000) = 0) b_20]) (Nat.le_refl _) hP hB hH Fn.rfl')
    refine lv_iload_n hx hb dX7_hang_23 rfl (lv_at hl 3 rfl) ?_
    refine lv_sipush (v := (-5000)) hx hb dX7_hang_24 (by decide) ?_
    refine lv_sipush (v := 5000) hx hb dX7_hang_27 (by decide) ?_
    refine u_iE (v := (inI y (-5000) 5000)) (ru_S (As := [.int y, .int (-5000), .int 5000]) (rest := []) F h (k_X7_isWithin l g n c y (-5000) 5000) (gS hjl wd_277 wd_278 wd_16 wd_279) rfl 3 (by decide +kernel) rfl ⟨Nat.le_of_ble_eq_true rfl, Nat.le_of_ble_eq_true rfl⟩ rfl hl.1 (Nat.le_of_ble_eq_true rfl) ⟨Nat.zero_le _, Nat.zero_le _⟩ dX7_hang_30) h (fun H locs h => ?_)
    refine lv_if_eq (tgt := 61) hx hb dX7_hang_33 (by decide) (fun b_33 => ?_) (fun b_33 => ?_)
    · skip
      refine lv_ldc (v := (-100002)) hx hb F.2.2.2.1 (F.2.2.2.2.1 (Cond.constant RX7 47 (-100002)) (List.mem_cons_of_mem _ wd_281)) dX7_hang_61 ?_
      exact ret_i F h (Nat.zero_le _) (Nat.zero_le _) dX7_hang_63 (paE (show sq_X7_hang lh ru rs R hq w x y ma de sc = ((-100002), rs, R, lh, hq) by rw [sq_X7_hang, if_neg (c := (inI w 0 3) = 0) b_4, if_neg (c := (inI x (-5000) 5000) = 0) b_20, if_pos (c := (inI y (-5000) 5000) = 0) b_33]) (Nat.le_refl _) hP hB hH Fn.rfl')
    refine lv_iload hx hb dX7_hang_36 (lv_at hl 4 rfl) ?_
    refine lv_iconst (v := 1) hx hb dX7_hang_38 (by decide) ?_
    refine lv_sipush (v := 200) hx hb dX7_hang_39 (by decide) ?_
    refine u_iE (v := (inI ma 1 200)) (ru_S (As := [.int ma, .int 1, .int 200]) (rest := []) F h (k_X7_isWithin l g n c ma 1 200) (gS hjl wd_277 wd_278 wd_16 wd_279) rfl 3 (by decide +kernel) rfl ⟨Nat.le_of_ble_eq_true rfl, Nat.le_of_ble_eq_true rfl⟩ rfl hl.1 (Nat.le_of_ble_eq_true rfl) ⟨Nat.zero_le _, Nat.zero_le _⟩ dX7_hang_42) h (fun H locs h => ?_)
    refine lv_if_eq (tgt := 61) hx hb dX7_hang_45 (by decide) (fun b_45 => ?_) (fun b_45 => ?_)
    · skip
      refine lv_ldc (v := (-100002)) hx hb F.2.2.2.1 (F.2.2.2.2.1 (Cond.constant RX7 47 (-100002)) (List.mem_cons_of_mem _ wd_281)) dX7_hang_61 ?_
      exact ret_i F h (Nat.zero_le _) (Nat.zero_le _) dX7_hang_63 (paE (show sq_X7_hang lh ru rs R hq w x y ma de sc = ((-100002), rs, R, lh, hq) by rw [sq_X7_hang, if_neg (c := (inI w 0 3) = 0) b_4, if_neg (c := (inI x (-5000) 5000) = 0) b_20, if_neg (c := (inI y (-5000) 5000) = 0) b_33, if_pos (c := (inI ma 1 200) = 0) b_45]) (Nat.le_refl _) hP hB hH Fn.rfl')
    refine lv_iload hx hb dX7_hang_48 (lv_at hl 5 rfl) ?_
    refine lv_bipush (v := 10) hx hb dX7_hang_50 (by decide) ?_
    refine lv_sipush (v := 800) hx hb dX7_hang_52 (by decide) ?_
    refine u_iE (v := (inI de 10 800)) (ru_S (As := [.int de, .int 10, .int 800]) (rest := []) F h (k_X7_isWithin l g n c de 10 800) (gS hjl wd_277 wd_278 wd_16 wd_279) rfl 3 (by decide +kernel) rfl ⟨Nat.le_of_ble_eq_true rfl, Nat.le_of_ble_eq_true rfl⟩ rfl hl.1 (Nat.le_of_ble_eq_true rfl) ⟨Nat.zero_le _, Nat.zero_le _⟩ dX7_hang_55) h (fun H locs h => ?_)
    refine lv_if_ne (tgt := 64) hx hb dX7_hang_58 (by decide) (fun b_58 => ?_) (fun b_58 => ?_)
    · skip
      have h_w := inI_w (N := 3) (by decide) b_4
      have h4_w : wN w < 4 := h_w.1
      have hl : lv_has ls 6 [(0, .ref (gz g + 0)), (1, .int (nI (wN w))), (2, .int x), (3, .int y), (4, .int ma), (5, .int de)] := by rw [show (nI (wN w) : Int32) = w from h_w.2]; exact hl
      refine lv_aload_n hx hb dX7_hang_64 rfl (lv_at hl 0 rfl) ?_
      refine u_v (ru_V (As := []) (rest := []) F h hP rfl (k_X7_remember l g n c lh ru rs hP R hB hk5 hq hH hW) (gV hjl wd_282 wd_284 wd_0 wd_16 wd_285) rfl 0 (by decide +kernel) rfl ⟨Nat.le_of_ble_eq_true rfl, Nat.le_of_ble_eq_true rfl⟩ rfl hl.1 (Nat.le_of_ble_eq_true rfl) ⟨Nat.zero_le _, Nat.zero_le _⟩ dX7_hang_65) h (fun n1 cz1 H locs hp h => ?_)
      obtain ⟨hnz1, hPz1, hBz1, hHz1, hFz1⟩ := hp
      rw [hnz1] at h
      refine lv_aload_n hx hb dX7_hang_68 rfl (lv_at hl 0 rfl) ?_
      refine r_get F h (C := RX7) (T := TX7) (N := 8) (hjc hi_X7) rfl hPz1 0 (by decide) (List.mem_cons_of_mem _ wd_245) rfl dX7_hang_69 ?_
      refine r_get F h (C := RX4) (T := TX4) (N := 8) (hjc hi_X4) rfl hBz1.1 0 (by decide) (List.mem_cons_of_mem _ wd_186) rfl dX7_hang_72 ?_
      refine lv_iload_n hx hb dX7_hang_75 rfl (lv_at hl 1 rfl) ?_
      refine r_aald F h (C := RX6) hBz1.2.1.1 (t0 := 4) rfl (vp_in_nI (show wN w < 4 by omega) (by decide)) (a := gz g + (1 + 2 + wN w)) (qs_at (fun k => some (gz g + (1 + 2 + k))) (by omega)) dX7_hang_76 ?_
      refine lv_iload_n hx hb dX7_hang_77 rfl (lv_at hl 2 rfl) ?_
      refine lv_iload_n hx hb dX7_hang_78 rfl (lv_at hl 3 rfl) ?_
      refine lv_iload hx hb dX7_hang_79 (lv_at hl 4 rfl) ?_
      refine lv_iload hx hb dX7_hang_81 (lv_at hl 5 rfl) ?_
      refine u_vE (ru_V (As := [.int x, .int y, .int ma, .int de]) (rest := []) F h (hBz1.2.1.2 (wN w) (by omega)) rfl (k_X6_hangAnew l g n cz1 (1 + 2 + wN w) (fun q => R (5 + 11 * wN w + q)) (hBz1.2.1.2 (wN w) (by omega)) x y ma de (qd_in b_58)) (gV hjl wd_310 wd_311 wd_312 wd_18 wd_313) rfl 4 (by decide +kernel) rfl ⟨Nat.le_of_ble_eq_true rfl, Nat.le_of_ble_eq_true rfl⟩ rfl hl.1 (Nat.le_of_ble_eq_true rfl) ⟨Nat.zero_le _, Nat.zero_le _⟩ dX7_hang_83) h (fun H locs h => ?_)
      refine lv_aload_n hx hb dX7_hang_86 rfl (lv_at hl 0 rfl) ?_
      refine r_get F h (C := RX7) (T := TX7) (N := 8) (hjc hi_X7) rfl ((mu_ne (by omega) _).trans hPz1) 0 (by decide) (List.mem_cons_of_mem _ wd_245) rfl dX7_hang_87 ?_
      refine lv_iload_n hx hb dX7_hang_90 rfl (lv_at hl 1 rfl) ?_
      refine u_i (ru_V (As := [.int (nI (wN w))]) (rest := []) F h ((mu_ne (by omega) _).trans hBz1.1) rfl (k_X4_voidWire l g n (va_up cz1 (1 + 2 + wN w) (some (.inr (6, [.int 1, .int x, .int y, .int ma, .int de, .int (qdI de), .int 0, .int 0, .int 0, .int 0, .int 0, .int 0])))) 1 (wPut R (wN w) (l11 1 x y ma de 0 0 0 0 0 0)) (hBz1.wireP (w := wN w) (by omega) (l11 1 x y ma de 0 0 0 0 0 0)) sc (by simp only [wPut_4, cPut_4, vdR_4, upd_34, hsc]) h5 (wN w) (by omega)) (gV hjl wd_318 wd_319 wd_320 wd_17 wd_321) rfl 1 (by decide +kernel) rfl ⟨Nat.le_of_ble_eq_true rfl, Nat.le_of_ble_eq_true rfl⟩ rfl hl.1 (Nat.le_of_ble_eq_true rfl) ⟨Nat.zero_le _, Nat.zero_le _⟩ dX7_hang_91) h (fun rz2 n1 cz2 H locs hp h => ?_)
      obtain ⟨hrz2, hnz2, hBz2, hFz2⟩ := hp
      rw [hnz2] at h
      rw [hrz2]
      refine lv_pop hx hb dX7_hang_94 rfl ?_
      refine lv_aload_n hx hb dX7_hang_95 rfl (lv_at hl 0 rfl) ?_
      refine r_get F h (C := RX7) (T := TX7) (N := 8) (hjc hi_X7) rfl ((hFz2 _ (by omega)).trans ((mu_ne (by omega) _).trans hPz1)) 0 (by decide) (List.mem_cons_of_mem _ wd_245) rfl dX7_hang_96 ?_
      refine u_iE (v := (ctI (fun v => (vdR (wPut R (wN w) (l11 1 x y ma de 0 0 0 0 0 0)) (wN w) sc) (5 + 11 * v)) 4)) (ru_V (As := []) (rest := []) F h hBz2.1 rfl (k_X4_hungWires l g n cz2 1 (vdR (wPut R (wN w) (l11 1 x y ma de 0 0 0 0 0 0)) (wN w) sc) hBz2 ) (gV hjl wd_322 wd_323 wd_324 wd_17 wd_325) rfl 0 (by decide +kernel) rfl ⟨Nat.le_of_ble_eq_true rfl, Nat.le_of_ble_eq_true rfl⟩ rfl hl.1 (Nat.le_of_ble_eq_true rfl) ⟨Nat.zero_le _, Nat.zero_le _⟩ dX7_hang_99) h (fun H locs h => ?_)
      exact ret_i F h (Nat.zero_le _) (Nat.zero_le _) dX7_hang_102 (paE (show sq_X7_hang lh ru rs R hq w x y ma de sc = ((ctI (fun v => (vdR (wPut R (wN w) (l11 1 x y ma de 0 0 0 0 0 0)) (wN w) sc) (5 + 11 * v)) 4), rs, vdR (wPut R (wN w) (l11 1 x y ma de 0 0 0 0 0 0)) (wN w) sc, (rmL ru lh), rmQ ru lh hq R) by rw [sq_X7_hang, if_neg (c := (inI w 0 3) = 0) b_4, if_neg (c := (inI x (-5000) 5000) = 0) b_20, if_neg (c := (inI y (-5000) 5000) = 0) b_33, if_neg (c := (inI ma 1 200) = 0) b_45, if_neg (c := (inI de 10 800) = 0) b_58]) (Nat.le_refl _) ((hFz2 _ (by omega)).trans ((mu_ne (by omega) _).trans hPz1)) hBz2 ((hHz1.up (by omega)).fr hFz2 (by decide)) (((Fn.rfl'.fr hFz1 (by decide)).up (by omega)).fr hFz2 (by decide)))
    refine lv_ldc (v := (-100002)) hx hb F.2.2.2.1 (F.2.2.2.2.1 (Cond.constant RX7 47 (-100002)) (List.mem_cons_of_mem _ wd_281)) dX7_hang_61 ?_
    exact ret_i F h (Nat.zero_le _) (Nat.zero_le _) dX7_hang_63 (paE (show sq_X7_hang lh ru rs R hq w x y ma de sc = ((-100002), rs, R, lh, hq) by rw [sq_X7_hang, if_neg (c := (inI w 0 3) = 0) b_4, if_neg (c := (inI x (-5000) 5000) = 0) b_20, if_neg (c := (inI y (-5000) 5000) = 0) b_33, if_neg (c := (inI ma 1 200) = 0) b_45, if_pos (c := (inI de 10 800) = 0) b_58]) (Nat.le_refl _) hP hB hH Fn.rfl')
  refine lv_ldc (v := (-100001)) hx hb F.2.2.2.1 (F.2.2.2.2.1 (Cond.constant RX7 42 (-100001)) (List.mem_cons_of_mem _ wd_280)) dX7_hang_7 ?_
  exact ret_i F h (Nat.zero_le _) (Nat.zero_le _) dX7_hang_9 (paE (show sq_X7_hang lh ru rs R hq w x y ma de sc = ((-100001), rs, R, lh, hq) by rw [sq_X7_hang, if_pos (c := (inI w 0 3) = 0) b_4]) (Nat.le_refl _) hP hB hH Fn.rfl')
def sq_X7_lift (lh : Nat) (ru rs : Int32) (R : Nat → Int32) (hq : Nat → Nat → Int32) (w : Int32) (sc : Nat) : ClT := if (inI w 0 3) = 0 then (((-100001), rs, R, lh, hq)) else (if (R (5 + 11 * (wN w) + 0)) = 0 then (((-100003), 1, R, lh, hq)) else (((ctI (fun v => (vdR (wPut R (wN w) (l11 0 (R (5 + 11 * wN w + 1)) (R (5 + 11 * wN w + 2)) (R (5 + 11 * wN w + 3)) (R (5 + 11 * wN w + 4)) (R (5 + 11 * wN w + 5)) (R (5 + 11 * wN w + 6)) (R (5 + 11 * wN w + 7)) (R (5 + 11 * wN w + 8)) (R (5 + 11 * wN w + 9)) (R (5 + 11 * wN w + 10)))) (wN w) sc) (5 + 11 * v)) 4), rs, vdR (wPut R (wN w) (l11 0 (R (5 + 11 * wN w + 1)) (R (5 + 11 * wN w + 2)) (R (5 + 11 * wN w + 3)) (R (5 + 11 * wN w + 4)) (R (5 + 11 * wN w + 5)) (R (5 + 11 * wN w + 6)) (R (5 + 11 * wN w + 7)) (R (5 + 11 * wN w + 8)) (R (5 + 11 * wN w + 9)) (R (5 + 11 * wN w + 10)))) (wN w) sc, (rmL ru lh), rmQ ru lh hq R)))
set_option maxHeartbeats 4000000 in
set_option maxRecDepth 100000 in
theorem k_X7_lift (l : Launch) (g : Gf) (n : Nat) (c : Mp) (lh : Nat) (ru rs : Int32) (hP : c 0 = plC g (nI lh) ru rs) (R : Nat → Int32) (hB : Bk g c 1 R) (hk5 : lh ≤ 5) (hq : Nat → Nat → Int32) (hH : Hx g c hq) (hW : WB R) (w : Int32) (sc : Nat) (hsc : R 4 = nI sc) (h5 : sc ≤ 5) : Ct l g yX7_lift wsX7_lift 4 85 0 0 [.ref (gz g + 0), .int w] n c (Qi g (fun xr n' c' => PA g c n ru (sq_X7_lift lh ru rs R hq w sc) xr n' c')) := by
  refine ent (by decide) rfl (Nat.le_of_ble_eq_true rfl) ?_
  intro p e s m args below meth c0 F h ls hl
  have hx := F.1
  have hb := F.2.1
  have hl : lv_has ls 2 [(0, .ref (gz g + 0)), (1, .int w)] := hl
  refine lv_iload_n hx hb dX7_lift_0 rfl (lv_at hl 1 rfl) ?_
  refine u_iE (v := (inI w 0 3)) (ru_S (As := [.int w]) (rest := []) F h (k_X7_isWire l g n c w) (gS hjl wd_274 wd_275 wd_16 wd_276) rfl 1 (by decide +kernel) rfl ⟨Nat.le_of_ble_eq_true rfl, Nat.le_of_ble_eq_true rfl⟩ rfl hl.1 (Nat.le_of_ble_eq_true rfl) ⟨Nat.zero_le _, Nat.zero_le _⟩ dX7_lift_1) h (fun H locs h => ?_)
  refine lv_if_ne (tgt := 10) hx hb dX7_lift_4 (by decide) (fun b_4 => ?_) (fun b_4 => ?_)
  · skip
    have h_w := inI_w (N := 3) (by decide) b_4
    have h4_w : wN w < 4 := h_w.1
    have hl : lv_has ls 2 [(0, .ref (gz g + 0)), (1, .int (nI (wN w)))] := by rw [show (nI (wN w) : Int32) = w from h_w.2]; exact hl
    refine lv_aload_n hx hb dX7_lift_10 rfl (lv_at hl 0 rfl) ?_
    refine lv_iload_n hx hb dX7_lift_11 rfl (lv_at hl 1 rfl) ?_
    refine u_iE (v := (R (5 + 11 * (wN w) + 0))) (ru_V (As := [.int (nI (wN w))]) (rest := []) F h hP rfl (k_X7_isHung l g n c lh ru rs hP R hB (wN w) (by omega) (hW.1 (wN w) (by omega))) (gV hjl wd_330 wd_332 wd_2 wd_16 wd_333) rfl 1 (by decide +kernel) rfl ⟨Nat.le_of_ble_eq_true rfl, Nat.le_of_ble_eq_true rfl⟩ rfl hl.1 (Nat.le_of_ble_eq_true rfl) ⟨Nat.zero_le _, Nat.zero_le _⟩ dX7_lift_12) h (fun H locs h => ?_)
    refine lv_if_ne (tgt := 24) hx hb dX7_lift_15 (by decide) (fun b_15 => ?_) (fun b_15 => ?_)
    · skip
      refine lv_aload_n hx hb dX7_lift_24 rfl (lv_at hl 0 rfl) ?_
      refine u_v (ru_V (As := []) (rest := []) F h hP rfl (k_X7_remember l g n c lh ru rs hP R hB hk5 hq hH hW) (gV hjl wd_282 wd_284 wd_0 wd_16 wd_285) rfl 0 (by decide +kernel) rfl ⟨Nat.le_of_ble_eq_true rfl, Nat.le_of_ble_eq_true rfl⟩ rfl hl.1 (Nat.le_of_ble_eq_true rfl) ⟨Nat.zero_le _, Nat.zero_le _⟩ dX7_lift_25) h (fun n1 cz1 H locs hp h => ?_)
      obtain ⟨hnz1, hPz1, hBz1, hHz1, hFz1⟩ := hp
      rw [hnz1] at h
      refine lv_aload_n hx hb dX7_lift_28 rfl (lv_at hl 0 rfl) ?_
      refine r_get F h (C := RX7) (T := TX7) (N := 8) (hjc hi_X7) rfl hPz1 0 (by decide) (List.mem_cons_of_mem _ wd_245) rfl dX7_lift_29 ?_
      refine r_get F h (C := RX4) (T := TX4) (N := 8) (hjc hi_X4) rfl hBz1.1 0 (by decide) (List.mem_cons_of_mem _ wd_186) rfl dX7_lift_32 ?_
      refine lv_iload_n hx hb dX7_lift_35 rfl (lv_at hl 1 rfl) ?_
      refine r_aald F h (C := RX6) hBz1.2.1.1 (t0 := 4) rfl (vp_in_nI (show wN w < 4 by omega) (by decide)) (a := gz g + (1 + 2 + wN w)) (qs_at (fun k => some (gz g + (1 + 2 + k))) (by omega)) dX7_lift_36 ?_
      refine lv_iconst (v := 0) hx hb dX7_lift_37 (by decide) ?_
      refine r_put F h (C := RX6) (T := TX6) (N := 12) (fs' := [.int 0, .int (R (5 + 11 * wN w + 1)), .int (R (5 + 11 * wN w + 2)), .int (R (5 + 11 * wN w + 3)), .int (R (5 + 11 * wN w + 4)), .int (qdI (R (5 + 11 * wN w + 4))), .int (R (5 + 11 * wN w + 5)), .int (R (5 + 11 * wN w + 6)), .int (R (5 + 11 * wN w + 7)), .int (R (5 + 11 * wN w + 8)), .int (R (5 + 11 * wN w + 9)), .int (R (5 + 11 * wN w + 10))]) (hjc hi_X6) tyX6 tyX6_ok nmX6 rfl (hBz1.2.1.2 (wN w) (by omega)) 0 (by decide) (List.mem_cons_of_mem _ wd_48) rfl (by decide) (by decide) (Nat.le_of_ble_eq_true rfl) rfl dX7_lift_38 (fun H locs h => ?_)
      refine lv_aload_n hx hb dX7_lift_41 rfl (lv_at hl 0 rfl) ?_
      refine r_get F h (C := RX7) (T := TX7) (N := 8) (hjc hi_X7) rfl ((mu_ne (by omega) _).trans hPz1) 0 (by decide) (List.mem_cons_of_mem _ wd_245) rfl dX7_lift_42 ?_
      refine lv_iload_n hx hb dX7_lift_45 rfl (lv_at hl 1 rfl) ?_
      refine u_i (ru_V (As := [.int (nI (wN w))]) (rest := []) F h ((mu_ne (by omega) _).trans hBz1.1) rfl (k_X4_voidWire l g n (va_up cz1 (1 + 2 + wN w) (some (.inr (6, [.int 0, .int (R (5 + 11 * wN w + 1)), .int (R (5 + 11 * wN w + 2)), .int (R (5 + 11 * wN w + 3)), .int (R (5 + 11 * wN w + 4)), .int (qdI (R (5 + 11 * wN w + 4))), .int (R (5 + 11 * wN w + 5)), .int (R (5 + 11 * wN w + 6)), .int (R (5 + 11 * wN w + 7)), .int (R (5 + 11 * wN w + 8)), .int (R (5 + 11 * wN w + 9)), .int (R (5 + 11 * wN w + 10))])))) 1 (wPut R (wN w) (l11 0 (R (5 + 11 * wN w + 1)) (R (5 + 11 * wN w + 2)) (R (5 + 11 * wN w + 3)) (R (5 + 11 * wN w + 4)) (R (5 + 11 * wN w + 5)) (R (5 + 11 * wN w + 6)) (R (5 + 11 * wN w + 7)) (R (5 + 11 * wN w + 8)) (R (5 + 11 * wN w + 9)) (R (5 + 11 * wN w + 10)))) (hBz1.wireP (w := wN w) (by omega) (l11 0 (R (5 + 11 * wN w + 1)) (R (5 + 11 * wN w + 2)) (R (5 + 11 * wN w + 3)) (R (5 + 11 * wN w + 4)) (R (5 + 11 * wN w + 5)) (R (5 + 11 * wN w + 6)) (R (5 + 11 * wN w + 7)) (R (5 + 11 * wN w + 8)) (R (5 + 11 * wN w + 9)) (R (5 + 11 * wN w + 10)))) sc (by simp only [wPut_4, cPut_4, vdR_4, upd_34, hsc]) h5 (wN w) (by omega)) (gV hjl wd_318 wd_319 wd_320 wd_17 wd_321) rfl 1 (by decide +kernel) rfl ⟨Nat.le_of_ble_eq_true rfl, Nat.le_of_ble_eq_true rfl⟩ rfl hl.1 (Nat.le_of_ble_eq_true rfl) ⟨Nat.zero_le _, Nat.zero_le _⟩ dX7_lift_46) h (fun rz2 n1 cz2 H locs hp h => ?_)
      obtain ⟨hrz2, hnz2, hBz2, hFz2⟩ := hp
      rw [hnz2] at h
      rw [hrz2]
      refine lv_pop hx hb dX7_lift_49 rfl ?_
      refine lv_aload_n hx hb dX7_lift_50 rfl (lv_at hl 0 rfl) ?_
      refine r_get F h (C := RX7) (T := TX7) (N := 8) (hjc hi_X7) rfl ((hFz2 _ (by omega)).trans ((mu_ne (by omega) _).trans hPz1)) 0 (by decide) (List.mem_cons_of_mem _ wd_245) rfl dX7_lift_51 ?_
      refine u_iE (v := (ctI (fun v => (vdR (wPut R (wN w) (l11 0 (R (5 + 11 * wN w + 1)) (R (5 + 11 * wN w + 2)) (R (5 + 11 * wN w + 3)) (R (5 + 11 * wN w + 4)) (R (5 + 11 * wN w + 5)) (R (5 + 11 * wN w + 6)) (R (5 + 11 * wN w + 7)) (R (5 + 11 * wN w + 8)) (R (5 + 11 * wN w + 9)) (R (5 + 11 * wN w + 10)))) (wN w) sc) (5 + 11 * v)) 4)) (ru_V (As := []) (rest := []) F h hBz2.1 rfl (k_X4_hungWires l g n cz2 1 (vdR (wPut R (wN w) (l11 0 (R (5 + 11 * wN w + 1)) (R (5 + 11 * wN w + 2)) (R (5 + 11 * wN w + 3)) (R (5 + 11 * wN w + 4)) (R (5 + 11 * wN w + 5)) (R (5 + 11 * wN w + 6)) (R (5 + 11 * wN w + 7)) (R (5 + 11 * wN w + 8)) (R (5 + 11 * wN w + 9)) (R (5 + 11 * wN w + 10)))) (wN w) sc) hBz2 ) (gV hjl wd_322 wd_323 wd_324 wd_17 wd_325) rfl 0 (by decide +kernel) rfl ⟨Nat.le_of_ble_eq_true rfl, Nat.le_of_ble_eq_true rfl⟩ rfl hl.1 (Nat.le_of_ble_eq_true rfl) ⟨Nat.zero_le _, Nat.zero_le _⟩ dX7_lift_54) h (fun H locs h => ?_)
      exact ret_i F h (Nat.zero_le _) (Nat.zero_le _) dX7_lift_57 (paE (show sq_X7_lift lh ru rs R hq w sc = ((ctI (fun v => (vdR (wPut R (wN w) (l11 0 (R (5 + 11 * wN w + 1)) (R (5 + 11 * wN w + 2)) (R (5 + 11 * wN w + 3)) (R (5 + 11 * wN w + 4)) (R (5 + 11 * wN w + 5)) (R (5 + 11 * wN w + 6)) (R (5 + 11 * wN w + 7)) (R (5 + 11 * wN w + 8)) (R (5 + 11 * wN w + 9)) (R (5 + 11 * wN w + 10)))) (wN w) sc) (5 + 11 * v)) 4), rs, vdR (wPut R (wN w) (l11 0 (R (5 + 11 * wN w + 1)) (R (5 + 11 * wN w + 2)) (R (5 + 11 * wN w + 3)) (R (5 + 11 * wN w + 4)) (R (5 + 11 * wN w + 5)) (R (5 + 11 * wN w + 6)) (R (5 + 11 * wN w + 7)) (R (5 + 11 * wN w + 8)) (R (5 + 11 * wN w + 9)) (R (5 + 11 * wN w + 10)))) (wN w) sc, (rmL ru lh), rmQ ru lh hq R) by rw [sq_X7_lift, if_neg (c := (inI w 0 3) = 0) b_4, if_neg (c := (R (5 + 11 * (wN w) + 0)) = 0) b_15]) (Nat.le_refl _) ((hFz2 _ (by omega)).trans ((mu_ne (by omega) _).trans hPz1)) hBz2 ((hHz1.up (by omega)).fr hFz2 (by decide)) (((Fn.rfl'.fr hFz1 (by decide)).up (by omega)).fr hFz2 (by decide)))
    refine lv_aload_n hx hb dX7_lift_18 rfl (lv_at hl 0 rfl) ?_
    refine lv_iconst (v := 1) hx hb dX7_lift_19 (by decide) ?_
    refine u_iE (v := (-100003)) (ru_V (As := [.int 1]) (rest := []) F h hP rfl (k_X7_refuse l g n c lh ru rs hP R hB 1) (gV hjl wd_334 wd_336 wd_3 wd_16 wd_337) rfl 1 (by decide +kernel) rfl ⟨Nat.le_of_ble_eq_true rfl, Nat.le_of_ble_eq_true rfl⟩ rfl hl.1 (Nat.le_of_ble_eq_true rfl) ⟨Nat.zero_le _, Nat.zero_le _⟩ dX7_lift_20) h (fun H locs h => ?_)
    exact ret_i F h (Nat.zero_le _) (Nat.zero_le _) dX7_lift_23 (paE (show sq_X7_lift lh ru rs R hq w sc = ((-100003), 1, R, lh, hq) by rw [sq_X7_lift, if_neg (c := (inI w 0 3) = 0) b_4, if_pos (c := (R (5 + 11 * (wN w) + 0)) = 0) b_15]) (Nat.le_refl _) (mu_eq _ _ _) (hB.out (by omega)) (hH.up (by omega)) (Fn.rfl'.up (by omega)))
  refine lv_ldc (v := (-100001)) hx hb F.2.2.2.1 (F.2.2.2.2.1 (Cond.constant RX7 42 (-100001)) (List.mem_cons_of_mem _ wd_280)) dX7_lift_7 ?_
  exact ret_i F h (Nat.zero_le _) (Nat.zero_le _) dX7_lift_9 (paE (show sq_X7_lift lh ru rs R hq w sc = ((-100001), rs, R, lh, hq) by rw [sq_X7_lift, if_pos (c := (inI w 0 3) = 0) b_4]) (Nat.le_refl _) hP hB hH Fn.rfl')
def sq_X7_setClamp (lh : Nat) (ru rs : Int32) (R : Nat → Int32) (hq : Nat → Nat → Int32) (w x y : Int32) (sc : Nat) : ClT := if (inI w 0 3) = 0 then (((-100001), rs, R, lh, hq)) else (if (inI x (-20) 20) = 0 then (((-100002), rs, R, lh, hq)) else (if (inI y (-20) 20) = 0 then (((-100002), rs, R, lh, hq)) else (if (R (5 + 11 * (wN w) + 0)) = 0 then (((-100003), 1, R, lh, hq)) else (if R (5 + 11 * wN w + 5) = x then (if R (5 + 11 * wN w + 6) = y then ((((if 0 ≤ x then x else 0 - x) + (if 0 ≤ y then y else 0 - y)), rs, R, (rmL ru lh), rmQ ru lh hq R)) else ((((if 0 ≤ x then x else 0 - x) + (if 0 ≤ y then y else 0 - y)), rs, vdR (wPut R (wN w) (l11 (R (5 + 11 * wN w + 0)) (R (5 + 11 * wN w + 1)) (R (5 + 11 * wN w + 2)) (R (5 + 11 * wN w + 3)) (R (5 + 11 * wN w + 4)) x y (R (5 + 11 * wN w + 7)) (R (5 + 11 * wN w + 8)) (R (5 + 11 * wN w + 9)) (R (5 + 11 * wN w + 10)))) (wN w) sc, (rmL ru lh), rmQ ru lh hq R))) else ((((if 0 ≤ x then x else 0 - x) + (if 0 ≤ y then y else 0 - y)), rs, vdR (wPut R (wN w) (l11 (R (5 + 11 * wN w + 0)) (R (5 + 11 * wN w + 1)) (R (5 + 11 * wN w + 2)) (R (5 + 11 * wN w + 3)) (R (5 + 11 * wN w + 4)) x y (R (5 + 11 * wN w + 7)) (R (5 + 11 * wN w + 8)) (R (5 + 11 * wN w + 9)) (R (5 + 11 * wN w + 10)))) (wN w) sc, (rmL ru lh), rmQ ru lh hq R))))))
set_option maxHeartbeats 4000000 in
set_option maxRecDepth 100000 in
theorem k_X7_setClamp (l : Launch) (g : Gf) (n : Nat) (c : Mp) (lh : Nat) (ru rs : Int32) (hP : c 0 = plC g (nI lh) ru rs) (R : Nat → Int32) (hB : Bk g c 1 R) (hk5 : lh ≤ 5) (hq : Nat → Nat → Int32) (hH : Hx g c hq) (hW : WB R) (w x y : Int32) (sc : Nat) (hsc : R 4 = nI sc) (h5 : sc ≤ 5) : Ct l g yX7_setClamp wsX7_setClamp 4 85 0 0 [.ref (gz g + 0), .int w, .int x, .int y] n c (Qi g (fun xr n' c' => PA g c n ru (sq_X7_setClamp lh ru rs R hq w x y sc) xr n' c')) := by
  refine ent (by decide) rfl (Nat.le_of_ble_eq_true rfl) ?_
  intro p e s m args below meth c0 F h ls hl
  have hx := F.1
  have hb := F.2.1
  have hl : lv_has ls 5 [(0, .ref (gz g + 0)), (1, .int w), (2, .int x), (3, .int y)] := hl
  refine lv_iload_n hx hb dX7_setClamp_0 rfl (lv_at hl 1 rfl) ?_
  refine u_iE (v := (inI w 0 3)) (ru_S (As := [.int w]) (rest := []) F h (k_X7_isWire l g n c w) (gS hjl wd_274 wd_275 wd_16 wd_276) rfl 1 (by decide +kernel) rfl ⟨Nat.le_of_ble_eq_true rfl, Nat.le_of_ble_eq_true rfl⟩ rfl hl.1 (Nat.le_of_ble_eq_true rfl) ⟨Nat.zero_le _, Nat.zero_le _⟩ dX7_setClamp_1) h (fun H locs h => ?_)
  refine lv_if_ne (tgt := 10) hx hb dX7_setClamp_4 (by decide) (fun b_4 => ?_) (fun b_4 => ?_)
  · skip
    refine lv_iload_n hx hb dX7_setClamp_10 rfl (lv_at hl 2 rfl) ?_
    refine lv_bipush (v := (-20)) hx hb dX7_setClamp_11 (by decide) ?_
    refine lv_bipush (v := 20) hx hb dX7_setClamp_13 (by decide) ?_
    refine u_iE (v := (inI x (-20) 20)) (ru_S (As := [.int x, .int (-20), .int 20]) (rest := []) F h (k_X7_isWithin l g n c x (-20) 20) (gS hjl wd_277 wd_278 wd_16 wd_279) rfl 3 (by decide +kernel) rfl ⟨Nat.le_of_ble_eq_true rfl, Nat.le_of_ble_eq_true rfl⟩ rfl hl.1 (Nat.le_of_ble_eq_true rfl) ⟨Nat.zero_le _, Nat.zero_le _⟩ dX7_setClamp_15) h (fun H locs h => ?_)
    refine lv_if_eq (tgt := 32) hx hb dX7_setClamp_18 (by decide) (fun b_18 => ?_) (fun b_18 => ?_)
    · skip
      refine lv_ldc (v := (-100002)) hx hb F.2.2.2.1 (F.2.2.2.2.1 (Cond.constant RX7 47 (-100002)) (List.mem_cons_of_mem _ wd_281)) dX7_setClamp_32 ?_
      exact ret_i F h (Nat.zero_le _) (Nat.zero_le _) dX7_setClamp_34 (paE (show sq_X7_setClamp lh ru rs R hq w x y sc = ((-100002), rs, R, lh, hq) by rw [sq_X7_setClamp, if_neg (c := (inI w 0 3) = 0) b_4, if_pos (c := (inI x (-20) 20) = 0) b_18]) (Nat.le_refl _) hP hB hH Fn.rfl')
    refine lv_iload_n hx hb dX7_setClamp_21 rfl (lv_at hl 3 rfl) ?_
    refine lv_bipush (v := (-20)) hx hb dX7_setClamp_22 (by decide) ?_
    refine lv_bipush (v := 20) hx hb dX7_setClamp_24 (by decide) ?_
    refine u_iE (v := (inI y (-20) 20)) (ru_S (As := [.int y, .int (-20), .int 20]) (rest := []) F h (k_X7_isWithin l g n c y (-20) 20) (gS hjl wd_277 wd_278 wd_16 wd_279) rfl 3 (by decide +kernel) rfl ⟨Nat.le_of_ble_eq_true rfl, Nat.le_of_ble_eq_true rfl⟩ rfl hl.1 (Nat.le_of_ble_eq_true rfl) ⟨Nat.zero_le _, Nat.zero_le _⟩ dX7_setClamp_26) h (fun H locs h => ?_)
    refine lv_if_ne (tgt := 35) hx hb dX7_setClamp_29 (by decide) (fun b_29 => ?_) (fun b_29 => ?_)
    · skip
      have h_w := inI_w (N := 3) (by decide) b_4
      have h4_w : wN w < 4 := h_w.1
      have hl : lv_has ls 5 [(0, .ref (gz g + 0)), (1, .int (nI (wN w))), (2, .int x), (3, .int y)] := by rw [show (nI (wN w) : Int32) = w from h_w.2]; exact hl
      refine lv_aload_n hx hb dX7_setClamp_35 rfl (lv_at hl 0 rfl) ?_
      refine lv_iload_n hx hb dX7_setClamp_36 rfl (lv_at hl 1 rfl) ?_
      refine u_iE (v := (R (5 + 11 * (wN w) + 0))) (ru_V (As := [.int (nI (wN w))]) (rest := []) F h hP rfl (k_X7_isHung l g n c lh ru rs hP R hB (wN w) (by omega) (hW.1 (wN w) (by omega))) (gV hjl wd_330 wd_332 wd_2 wd_16 wd_333) rfl 1 (by decide +kernel) rfl ⟨Nat.le_of_ble_eq_true rfl, Nat.le_of_ble_eq_true rfl⟩ rfl hl.1 (Nat.le_of_ble_eq_true rfl) ⟨Nat.zero_le _, Nat.zero_le _⟩ dX7_setClamp_37) h (fun H locs h => ?_)
      refine lv_if_ne (tgt := 49) hx hb dX7_setClamp_40 (by decide) (fun b_40 => ?_) (fun b_40 => ?_)
      · skip
        refine lv_aload_n hx hb dX7_setClamp_49 rfl (lv_at hl 0 rfl) ?_
        refine u_v (ru_V (As := []) (rest := []) F h hP rfl (k_X7_remember l g n c lh ru rs hP R hB hk5 hq hH hW) (gV hjl wd_282 wd_284 wd_0 wd_16 wd_285) rfl 0 (by decide +kernel) rfl ⟨Nat.le_of_ble_eq_true rfl, Nat.le_of_ble_eq_true rfl⟩ rfl hl.1 (Nat.le_of_ble_eq_true rfl) ⟨Nat.zero_le _, Nat.zero_le _⟩ dX7_setClamp_50) h (fun n1 cz1 H locs hp h => ?_)
        obtain ⟨hnz1, hPz1, hBz1, hHz1, hFz1⟩ := hp
        rw [hnz1] at h
        refine lv_aload_n hx hb dX7_setClamp_53 rfl (lv_at hl 0 rfl) ?_
        refine r_get F h (C := RX7) (T := TX7) (N := 8) (hjc hi_X7) rfl hPz1 0 (by decide) (List.mem_cons_of_mem _ wd_245) rfl dX7_setClamp_54 ?_
        refine r_get F h (C := RX4) (T := TX4) (N := 8) (hjc hi_X4) rfl hBz1.1 0 (by decide) (List.mem_cons_of_mem _ wd_186) rfl dX7_setClamp_57 ?_
        refine lv_iload_n hx hb dX7_setClamp_60 rfl (lv_at hl 1 rfl) ?_
        refine r_aald F h (C := RX6) hBz1.2.1.1 (t0 := 4) rfl (vp_in_nI (show wN w < 4 by omega) (by decide)) (a := gz g + (1 + 2 + wN w)) (qs_at (fun k => some (gz g + (1 + 2 + k))) (by omega)) dX7_setClamp_61 ?_
        refine lv_astore (lv' := [(4, .ref (gz g + (1 + 2 + wN w))), (0, .ref (gz g + 0)), (1, .int (nI (wN w))), (2, .int x), (3, .int y)]) hx hb dX7_setClamp_62 hl (by decide) rfl (fun ls hl => ?_)
        refine lv_aload hx hb dX7_setClamp_64 (lv_at hl 0 rfl) ?_
        refine r_get F h (C := RX6) (T := TX6) (N := 12) (hjc hi_X6) rfl (hBz1.2.1.2 (wN w) (by omega)) 6 (by decide) (List.mem_cons_of_mem _ wd_61) rfl dX7_setClamp_66 ?_
        refine lv_iload_n hx hb dX7_setClamp_69 rfl (lv_at hl 3 rfl) ?_
        refine lv_icmp_ne (tgt := 82) hx hb dX7_setClamp_70 (by decide) (fun b_70 => ?_) (fun b_70 => ?_)
        · skip
          refine lv_aload hx hb dX7_setClamp_82 (lv_at hl 0 rfl) ?_
          refine lv_iload_n hx hb dX7_setClamp_84 rfl (lv_at hl 3 rfl) ?_
          refine r_put F h (C := RX6) (T := TX6) (N := 12) (fs' := [.int (R (5 + 11 * wN w + 0)), .int (R (5 + 11 * wN w + 1)), .int (R (5 + 11 * wN w + 2)), .int (R (5 + 11 * wN w + 3)), .int (R (5 + 11 * wN w + 4)), .int (qdI (R (5 + 11 * wN w + 4))), .int x, .int (R (5 + 11 * wN w + 6)), .int (R (5 + 11 * wN w + 7)), .int (R (5 + 11 * wN w + 8)), .int (R (5 + 11 * wN w + 9)), .int (R (5 + 11 * wN w + 10))]) (hjc hi_X6) tyX6 tyX6_ok nmX6 rfl (hBz1.2.1.2 (wN w) (by omega)) 6 (by decide) (List.mem_cons_of_mem _ wd_61) rfl (rfl) (rfl) (Nat.le_of_ble_eq_true rfl) rfl dX7_setClamp_85 (fun H locs h => ?_)
          refine lv_aload hx hb dX7_setClamp_88 (lv_at hl 0 rfl) ?_
          refine lv_iload_n hx hb dX7_setClamp_90 rfl (lv_at hl 4 rfl) ?_
          refine r_put F h (C := RX6) (T := TX6) (N := 12) (fs' := [.int (R (5 + 11 * wN w + 0)), .int (R (5 + 11 * wN w + 1)), .int (R (5 + 11 * wN w + 2)), .int (R (5 + 11 * wN w + 3)), .int (R (5 + 11 * wN w + 4)), .int (qdI (R (5 + 11 * wN w + 4))), .int x, .int y, .int (R (5 + 11 * wN w + 7)), .int (R (5 + 11 * wN w + 8)), .int (R (5 + 11 * wN w + 9)), .int (R (5 + 11 * wN w + 10))]) (hjc hi_X6) tyX6 tyX6_ok nmX6 rfl (mu_eq _ _ _) 7 (by decide) (List.mem_cons_of_mem _ wd_64) rfl (rfl) (rfl) (Nat.le_of_ble_eq_true rfl) rfl dX7_setClamp_91 (fun H locs h => ?_)
          refine r_mem (c1 := (va_up cz1 (1 + 2 + wN w) (some (.inr (6, [.int (R (5 + 11 * wN w + 0)), .int (R (5 + 11 * wN w + 1)), .int (R (5 + 11 * wN w + 2)), .int (R (5 + 11 * wN w + 3)), .int (R (5 + 11 * wN w + 4)), .int (qdI (R (5 + 11 * wN w + 4))), .int x, .int y, .int (R (5 + 11 * wN w + 7)), .int (R (5 + 11 * wN w + 8)), .int (R (5 + 11 * wN w + 9)), .int (R (5 + 11 * wN w + 10))]))))) h (mu_uu _ _ _ _) (fun h => ?_)
          refine lv_aload_n hx hb dX7_setClamp_94 rfl (lv_at hl 1 rfl) ?_
          refine r_get F h (C := RX7) (T := TX7) (N := 8) (hjc hi_X7) rfl ((mu_ne (by omega) _).trans hPz1) 0 (by decide) (List.mem_cons_of_mem _ wd_245) rfl dX7_setClamp_95 ?_
          refine lv_iload_n hx hb dX7_setClamp_98 rfl (lv_at hl 2 rfl) ?_
          refine u_i (ru_V (As := [.int (nI (wN w))]) (rest := []) F h ((mu_ne (by omega) _).trans hBz1.1) rfl (k_X4_voidWire l g n (va_up cz1 (1 + 2 + wN w) (some (.inr (6, [.int (R (5 + 11 * wN w + 0)), .int (R (5 + 11 * wN w + 1)), .int (R (5 + 11 * wN w + 2)), .int (R (5 + 11 * wN w + 3)), .int (R (5 + 11 * wN w + 4)), .int (qdI (R (5 + 11 * wN w + 4))), .int x, .int y, .int (R (5 + 11 * wN w + 7)), .int (R (5 + 11 * wN w + 8)), .int (R (5 + 11 * wN w + 9)), .int (R (5 + 11 * wN w + 10))])))) 1 (wPut R (wN w) (l11 (R (5 + 11 * wN w + 0)) (R (5 + 11 * wN w + 1)) (R (5 + 11 * wN w + 2)) (R (5 + 11 * wN w + 3)) (R (5 + 11 * wN w + 4)) x y (R (5 + 11 * wN w + 7)) (R (5 + 11 * wN w + 8)) (R (5 + 11 * wN w + 9)) (R (5 + 11 * wN w + 10)))) (hBz1.wireP (w := wN w) (by omega) (l11 (R (5 + 11 * wN w + 0)) (R (5 + 11 * wN w + 1)) (R (5 + 11 * wN w + 2)) (R (5 + 11 * wN w + 3)) (R (5 + 11 * wN w + 4)) x y (R (5 + 11 * wN w + 7)) (R (5 + 11 * wN w + 8)) (R (5 + 11 * wN w + 9)) (R (5 + 11 * wN w + 10)))) sc (by simp only [wPut_4, cPut_4, vdR_4, upd_34, hsc]) h5 (wN w) (by omega)) (gV hjl wd_318 wd_319 wd_320 wd_17 wd_321) rfl 1 (by decide +kernel) rfl ⟨Nat.le_of_ble_eq_true rfl, Nat.le_of_ble_eq_true rfl⟩ rfl hl.1 (Nat.le_of_ble_eq_true rfl) ⟨Nat.zero_le _, Nat.zero_le _⟩ dX7_setClamp_99) h (fun rz2 n1 cz2 H locs hp h => ?_)
          obtain ⟨hrz2, hnz2, hBz2, hFz2⟩ := hp
          rw [hnz2] at h
          rw [hrz2]
          refine lv_pop hx hb dX7_setClamp_102 rfl ?_
          refine lv_iload_n hx hb dX7_setClamp_103 rfl (lv_at hl 3 rfl) ?_
          refine va_mabs hx hb (F.2.2.1.trans hl.1.symm) F.2.2.2.1 (F.2.2.2.2.1 _ (List.mem_cons_of_mem _ wd_343)) (F.2.2.2.2.1 _ (List.mem_cons_of_mem _ wd_344)) (F.2.2.2.2.1 _ (List.mem_cons_of_mem _ wd_23)) (F.2.2.2.2.1 _ (List.mem_cons_of_mem _ wd_345)) (Nat.le_of_ble_eq_true rfl) (Nat.le_of_ble_eq_true rfl) (Nat.zero_le _) (Nat.zero_le _) dX7_setClamp_104 ?_
          refine lv_iload_n hx hb dX7_setClamp_107 rfl (lv_at hl 4 rfl) ?_
          refine va_mabs hx hb (F.2.2.1.trans hl.1.symm) F.2.2.2.1 (F.2.2.2.2.1 _ (List.mem_cons_of_mem _ wd_343)) (F.2.2.2.2.1 _ (List.mem_cons_of_mem _ wd_344)) (F.2.2.2.2.1 _ (List.mem_cons_of_mem _ wd_23)) (F.2.2.2.2.1 _ (List.mem_cons_of_mem _ wd_345)) (Nat.le_of_ble_eq_true rfl) (Nat.le_of_ble_eq_true rfl) (Nat.zero_le _) (Nat.zero_le _) dX7_setClamp_108 ?_
          refine lv_iadd hx hb dX7_setClamp_111 ?_
          exact ret_i F h (Nat.zero_le _) (Nat.zero_le _) dX7_setClamp_112 (paE (show sq_X7_setClamp lh ru rs R hq w x y sc = (((if 0 ≤ x then x else 0 - x) + (if 0 ≤ y then y else 0 - y)), rs, vdR (wPut R (wN w) (l11 (R (5 + 11 * wN w + 0)) (R (5 + 11 * wN w + 1)) (R (5 + 11 * wN w + 2)) (R (5 + 11 * wN w + 3)) (R (5 + 11 * wN w + 4)) x y (R (5 + 11 * wN w + 7)) (R (5 + 11 * wN w + 8)) (R (5 + 11 * wN w + 9)) (R (5 + 11 * wN w + 10)))) (wN w) sc, (rmL ru lh), rmQ ru lh hq R) by rw [sq_X7_setClamp, if_neg (c := (inI w 0 3) = 0) b_4, if_neg (c := (inI x (-20) 20) = 0) b_18, if_neg (c := (inI y (-20) 20) = 0) b_29, if_neg (c := (R (5 + 11 * (wN w) + 0)) = 0) b_40, if_neg (c := R (5 + 11 * wN w + 5) = x) b_70]) (Nat.le_refl _) ((hFz2 _ (by omega)).trans ((mu_ne (by omega) _).trans hPz1)) hBz2 ((hHz1.up (by omega)).fr hFz2 (by decide)) (((Fn.rfl'.fr hFz1 (by decide)).up (by omega)).fr hFz2 (by decide)))
        refine lv_aload hx hb dX7_setClamp_73 (lv_at hl 0 rfl) ?_
        refine r_get F h (C := RX6) (T := TX6) (N := 12) (hjc hi_X6) rfl (hBz1.2.1.2 (wN w) (by omega)) 7 (by decide) (List.mem_cons_of_mem _ wd_64) rfl dX7_setClamp_75 ?_
        refine lv_iload_n hx hb dX7_setClamp_78 rfl (lv_at hl 4 rfl) ?_
        refine lv_icmp_eq (tgt := 103) hx hb dX7_setClamp_79 (by decide) (fun b_79 => ?_) (fun b_79 => ?_)
        · skip
          refine lv_iload_n hx hb dX7_setClamp_103 rfl (lv_at hl 3 rfl) ?_
          refine va_mabs hx hb (F.2.2.1.trans hl.1.symm) F.2.2.2.1 (F.2.2.2.2.1 _ (List.mem_cons_of_mem _ wd_343)) (F.2.2.2.2.1 _ (List.mem_cons_of_mem _ wd_344)) (F.2.2.2.2.1 _ (List.mem_cons_of_mem _ wd_23)) (F.2.2.2.2.1 _ (List.mem_cons_of_mem _ wd_345)) (Nat.le_of_ble_eq_true rfl) (Nat.le_of_ble_eq_true rfl) (Nat.zero_le _) (Nat.zero_le _) dX7_setClamp_104 ?_
          refine lv_iload_n hx hb dX7_setClamp_107 rfl (lv_at hl 4 rfl) ?_
          refine va_mabs hx hb (F.2.2.1.trans hl.1.symm) F.2.2.2.1 (F.2.2.2.2.1 _ (List.mem_cons_of_mem _ wd_343)) (F.2.2.2.2.1 _ (List.mem_cons_of_mem _ wd_344)) (F.2.2.2.2.1 _ (List.mem_cons_of_mem _ wd_23)) (F.2.2.2.2.1 _ (List.mem_cons_of_mem _ wd_345)) (Nat.le_of_ble_eq_true rfl) (Nat.le_of_ble_eq_true rfl) (Nat.zero_le _) (Nat.zero_le _) dX7_setClamp_108 ?_
          refine lv_iadd hx hb dX7_setClamp_111 ?_
          exact ret_i F h (Nat.zero_le _) (Nat.zero_le _) dX7_setClamp_112 (paE (show sq_X7_setClamp lh ru rs R hq w x y sc = (((if 0 ≤ x then x else 0 - x) + (if 0 ≤ y then y else 0 - y)), rs, R, (rmL ru lh), rmQ ru lh hq R) by rw [sq_X7_setClamp, if_neg (c := (inI w 0 3) = 0) b_4, if_neg (c := (inI x (-20) 20) = 0) b_18, if_neg (c := (inI y (-20) 20) = 0) b_29, if_neg (c := (R (5 + 11 * (wN w) + 0)) = 0) b_40, if_pos (c := R (5 + 11 * wN w + 5) = x) b_70, if_pos (c := R (5 + 11 * wN w + 6) = y) b_79]) (Nat.le_refl _) hPz1 hBz1 hHz1 (Fn.rfl'.fr hFz1 (by decide)))
        refine lv_aload hx hb dX7_setClamp_82 (lv_at hl 0 rfl) ?_
        refine lv_iload_n hx hb dX7_setClamp_84 rfl (lv_at hl 3 rfl) ?_
        refine r_put F h (C := RX6) (T := TX6) (N := 12) (fs' := [.int (R (5 + 11 * wN w + 0)), .int (R (5 + 11 * wN w + 1)), .int (R (5 + 11 * wN w + 2)), .int (R (5 + 11 * wN w + 3)), .int (R (5 + 11 * wN w + 4)), .int (qdI (R (5 + 11 * wN w + 4))), .int x, .int (R (5 + 11 * wN w + 6)), .int (R (5 + 11 * wN w + 7)), .int (R (5 + 11 * wN w + 8)), .int (R (5 + 11 * wN w + 9)), .int (R (5 + 11 * wN w + 10))]) (hjc hi_X6) tyX6 tyX6_ok nmX6 rfl (hBz1.2.1.2 (wN w) (by omega)) 6 (by decide) (List.mem_cons_of_mem _ wd_61) rfl (rfl) (rfl) (Nat.le_of_ble_eq_true rfl) rfl dX7_setClamp_85 (fun H locs h => ?_)
        refine lv_aload hx hb dX7_setClamp_88 (lv_at hl 0 rfl) ?_
        refine lv_iload_n hx hb dX7_setClamp_90 rfl (lv_at hl 4 rfl) ?_
        refine r_put F h (C := RX6) (T := TX6) (N := 12) (fs' := [.int (R (5 + 11 * wN w + 0)), .int (R (5 + 11 * wN w + 1)), .int (R (5 + 11 * wN w + 2)), .int (R (5 + 11 * wN w + 3)), .int (R (5 + 11 * wN w + 4)), .int (qdI (R (5 + 11 * wN w + 4))), .int x, .int y, .int (R (5 + 11 * wN w + 7)), .int (R (5 + 11 * wN w + 8)), .int (R (5 + 11 * wN w + 9)), .int (R (5 + 11 * wN w + 10))]) (hjc hi_X6) tyX6 tyX6_ok nmX6 rfl (mu_eq _ _ _) 7 (by decide) (List.mem_cons_of_mem _ wd_64) rfl (rfl) (rfl) (Nat.le_of_ble_eq_true rfl) rfl dX7_setClamp_91 (fun H locs h => ?_)
        refine r_mem (c1 := (va_up cz1 (1 + 2 + wN w) (some (.inr (6, [.int (R (5 + 11 * wN w + 0)), .int (R (5 + 11 * wN w + 1)), .int (R (5 + 11 * wN w + 2)), .int (R (5 + 11 * wN w + 3)), .int (R (5 + 11 * wN w + 4)), .int (qdI (R (5 + 11 * wN w + 4))), .int x, .int y, .int (R (5 + 11 * wN w + 7)), .int (R (5 + 11 * wN w + 8)), .int (R (5 + 11 * wN w + 9)), .int (R (5 + 11 * wN w + 10))]))))) h (mu_uu _ _ _ _) (fun h => ?_)
        refine lv_aload_n hx hb dX7_setClamp_94 rfl (lv_at hl 1 rfl) ?_
        refine r_get F h (C := RX7) (T := TX7) (N := 8) (hjc hi_X7) rfl ((mu_ne (by omega) _).trans hPz1) 0 (by decide) (List.mem_cons_of_mem _ wd_245) rfl dX7_setClamp_95 ?_
        refine lv_iload_n hx hb dX7_setClamp_98 rfl (lv_at hl 2 rfl) ?_
        refine u_i (ru_V (As := [.int (nI (wN w))]) (rest := []) F h ((mu_ne (by omega) _).trans hBz1.1) rfl (k_X4_voidWire l g n (va_up cz1 (1 + 2 + wN w) (some (.inr (6, [.int (R (5 + 11 * wN w + 0)), .int (R (5 + 11 * wN w + 1)), .int (R (5 + 11 * wN w + 2)), .int (R (5 + 11 * wN w + 3)), .int (R (5 + 11 * wN w + 4)), .int (qdI (R (5 + 11 * wN w + 4))), .int x, .int y, .int (R (5 + 11 * wN w + 7)), .int (R (5 + 11 * wN w + 8)), .int (R (5 + 11 * wN w + 9)), .int (R (5 + 11 * wN w + 10))])))) 1 (wPut R (wN w) (l11 (R (5 + 11 * wN w + 0)) (R (5 + 11 * wN w + 1)) (R (5 + 11 * wN w + 2)) (R (5 + 11 * wN w + 3)) (R (5 + 11 * wN w + 4)) x y (R (5 + 11 * wN w + 7)) (R (5 + 11 * wN w + 8)) (R (5 + 11 * wN w + 9)) (R (5 + 11 * wN w + 10)))) (hBz1.wireP (w := wN w) (by omega) (l11 (R (5 + 11 * wN w + 0)) (R (5 + 11 * wN w + 1)) (R (5 + 11 * wN w + 2)) (R (5 + 11 * wN w + 3)) (R (5 + 11 * wN w + 4)) x y (R (5 + 11 * wN w + 7)) (R (5 + 11 * wN w + 8)) (R (5 + 11 * wN w + 9)) (R (5 + 11 * wN w + 10)))) sc (by simp only [wPut_4, cPut_4, vdR_4, upd_34, hsc]) h5 (wN w) (by omega)) (gV hjl wd_318 wd_319 wd_320 wd_17 wd_321) rfl 1 (by decide +kernel) rfl ⟨Nat.le_of_ble_eq_true rfl, Nat.le_of_ble_eq_true rfl⟩ rfl hl.1 (Nat.le_of_ble_eq_true rfl) ⟨Nat.zero_le _, Nat.zero_le _⟩ dX7_setClamp_99) h (fun rz3 n1 cz3 H locs hp h => ?_)
        obtain ⟨hrz3, hnz3, hBz3, hFz3⟩ := hp
        rw [hnz3] at h
        rw [hrz3]
        refine lv_pop hx hb dX7_setClamp_102 rfl ?_
        refine lv_iload_n hx hb dX7_setClamp_103 rfl (lv_at hl 3 rfl) ?_
        refine va_mabs hx hb (F.2.2.1.trans hl.1.symm) F.2.2.2.1 (F.2.2.2.2.1 _ (List.mem_cons_of_mem _ wd_343)) (F.2.2.2.2.1 _ (List.mem_cons_of_mem _ wd_344)) (F.2.2.2.2.1 _ (List.mem_cons_of_mem _ wd_23)) (F.2.2.2.2.1 _ (List.mem_cons_of_mem _ wd_345)) (Nat.le_of_ble_eq_true rfl) (Nat.le_of_ble_eq_true rfl) (Nat.zero_le _) (Nat.zero_le _) dX7_setClamp_104 ?_
        refine lv_iload_n hx hb dX7_setClamp_107 rfl (lv_at hl 4 rfl) ?_
        refine va_mabs hx hb (F.2.2.1.trans hl.1.symm) F.2.2.2.1 (F.2.2.2.2.1 _ (List.mem_cons_of_mem _ wd_343)) (F.2.2.2.2.1 _ (List.mem_cons_of_mem _ wd_344)) (F.2.2.2.2.1 _ (List.mem_cons_of_mem _ wd_23)) (F.2.2.2.2.1 _ (List.mem_cons_of_mem _ wd_345)) (Nat.le_of_ble_eq_true rfl) (Nat.le_of_ble_eq_true rfl) (Nat.zero_le _) (Nat.zero_le _) dX7_setClamp_108 ?_
        refine lv_iadd hx hb dX7_setClamp_111 ?_
        exact ret_i F h (Nat.zero_le _) (Nat.zero_le _) dX7_setClamp_112 (paE (show sq_X7_setClamp lh ru rs R hq w x y sc = (((if 0 ≤ x then x else 0 - x) + (if 0 ≤ y then y else 0 - y)), rs, vdR (wPut R (wN w) (l11 (R (5 + 11 * wN w + 0)) (R (5 + 11 * wN w + 1)) (R (5 + 11 * wN w + 2)) (R (5 + 11 * wN w + 3)) (R (5 + 11 * wN w + 4)) x y (R (5 + 11 * wN w + 7)) (R (5 + 11 * wN w + 8)) (R (5 + 11 * wN w + 9)) (R (5 + 11 * wN w + 10)))) (wN w) sc, (rmL ru lh), rmQ ru lh hq R) by rw [sq_X7_setClamp, if_neg (c := (inI w 0 3) = 0) b_4, if_neg (c := (inI x (-20) 20) = 0) b_18, if_neg (c := (inI y (-20) 20) = 0) b_29, if_neg (c := (R (5 + 11 * (wN w) + 0)) = 0) b_40, if_pos (c := R (5 + 11 * wN w + 5) = x) b_70, if_neg (c := R (5 + 11 * wN w + 6) = y) b_79]) (Nat.le_refl _) ((hFz3 _ (by omega)).trans ((mu_ne (by omega) _).trans hPz1)) hBz3 ((hHz1.up (by omega)).fr hFz3 (by decide)) (((Fn.rfl'.fr hFz1 (by decide)).up (by omega)).fr hFz3 (by decide)))
      refine lv_aload_n hx hb dX7_setClamp_43 rfl (lv_at hl 0 rfl) ?_
      refine lv_iconst (v := 1) hx hb dX7_setClamp_44 (by decide) ?_
      refine u_iE (v := (-100003)) (ru_V (As := [.int 1]) (rest := []) F h hP rfl (k_X7_refuse l g n c lh ru rs hP R hB 1) (gV hjl wd_334 wd_336 wd_3 wd_16 wd_337) rfl 1 (by decide +kernel) rfl ⟨Nat.le_of_ble_eq_true rfl, Nat.le_of_ble_eq_true rfl⟩ rfl hl.1 (Nat.le_of_ble_eq_true rfl) ⟨Nat.zero_le _, Nat.zero_le _⟩ dX7_setClamp_45) h (fun H locs h => ?_)
      exact ret_i F h (Nat.zero_le _) (Nat.zero_le _) dX7_setClamp_48 (paE (show sq_X7_setClamp lh ru rs R hq w x y sc = ((-100003), 1, R, lh, hq) by rw [sq_X7_setClamp, if_neg (c := (inI w 0 3) = 0) b_4, if_neg (c := (inI x (-20) 20) = 0) b_18, if_neg (c := (inI y (-20) 20) = 0) b_29, if_pos (c := (R (5 + 11 * (wN w) + 0)) = 0) b_40]) (Nat.le_refl _) (mu_eq _ _ _) (hB.out (by omega)) (hH.up (by omega)) (Fn.rfl'.up (by omega)))
    refine lv_ldc (v := (-100002)) hx hb F.2.2.2.1 (F.2.2.2.2.1 (Cond.constant RX7 47 (-100002)) (List.mem_cons_of_mem _ wd_281)) dX7_setClamp_32 ?_
    exact ret_i F h (Nat.zero_le _) (Nat.zero_le _) dX7_setClamp_34 (paE (show sq_X7_setClamp lh ru rs R hq w x y sc = ((-100002), rs, R, lh, hq) by rw [sq_X7_setClamp, if_neg (c := (inI w 0 3) = 0) b_4, if_neg (c := (inI x (-20) 20) = 0) b_18, if_pos (c := (inI y (-20) 20) = 0) b_29]) (Nat.le_refl _) hP hB hH Fn.rfl')
  refine lv_ldc (v := (-100001)) hx hb F.2.2.2.1 (F.2.2.2.2.1 (Cond.constant RX7 42 (-100001)) (List.mem_cons_of_mem _ wd_280)) dX7_setClamp_7 ?_
  exact ret_i F h (Nat.zero_le _) (Nat.zero_le _) dX7_setClamp_9 (paE (show sq_X7_setClamp lh ru rs R hq w x y sc = ((-100001), rs, R, lh, hq) by rw [sq_X7_setClamp, if_pos (c := (inI w 0 3) = 0) b_4]) (Nat.le_refl _) hP hB hH Fn.rfl')
def sq_X7_setBucket (lh : Nat) (ru rs : Int32) (R : Nat → Int32) (hq : Nat → Nat → Int32) (w x : Int32) (sc : Nat) : ClT := if (inI w 0 3) = 0 then (((-100001), rs, R, lh, hq)) else (if (inI x 0 2) = 0 then (((-100002), rs, R, lh, hq)) else (if (R (5 + 11 * (wN w) + 0)) = 0 then (((-100003), 1, R, lh, hq)) else (if R (5 + 11 * wN w + 7) = x then ((R (5 + 11 * wN w + 7), rs, R, (rmL ru lh), rmQ ru lh hq R)) else ((R (5 + 11 * wN w + 7), rs, vdR (wPut R (wN w) (l11 (R (5 + 11 * wN w + 0)) (R (5 + 11 * wN w + 1)) (R (5 + 11 * wN w + 2)) (R (5 + 11 * wN w + 3)) (R (5 + 11 * wN w + 4)) (R (5 + 11 * wN w + 5)) (R (5 + 11 * wN w + 6)) x (R (5 + 11 * wN w + 8)) (R (5 + 11 * wN w + 9)) (R (5 + 11 * wN w + 10)))) (wN w) sc, (rmL ru lh), rmQ ru lh hq R)))))
set_option maxHeartbeats 4000000 in
set_option maxRecDepth 100000 in
theorem k_X7_setBucket (l : Launch) (g : Gf) (n : Nat) (c : Mp) (lh : Nat) (ru rs : Int32) (hP : c 0 = plC g (nI lh) ru rs) (R : Nat → Int32) (hB : Bk g c 1 R) (hk5 : lh ≤ 5) (hq : Nat → Nat → Int32) (hH : Hx g c hq) (hW : WB R) (w x : Int32) (sc : Nat) (hsc : R 4 = nI sc) (h5 : sc ≤ 5) : Ct l g yX7_setBucket wsX7_setBucket 4 85 0 0 [.ref (gz g + 0), .int w, .int x] n c (Qi g (fun xr n' c' => PA g c n ru (sq_X7_setBucket lh ru rs R hq w x sc) xr n' c')) := by
  refine ent (by decide) rfl (Nat.le_of_ble_eq_true rfl) ?_
  intro p e s m args below meth c0 F h ls hl
  have hx := F.1
  have hb := F.2.1
  have hl : lv_has ls 5 [(0, .ref (gz g + 0)), (1, .int w), (2, .int x)] := hl
  refine lv_iload_n hx hb dX7_setBucket_0 rfl (lv_at hl 1 rfl) ?_
  refine u_iE (v := (inI w 0 3)) (ru_S (As := [.int w]) (rest := []) F h (k_X7_isWire l g n c w) (gS hjl wd_274 wd_275 wd_16 wd_276) rfl 1 (by decide +kernel) rfl ⟨Nat.le_of_ble_eq_true rfl, Nat.le_of_ble_eq_true rfl⟩ rfl hl.1 (Nat.le_of_ble_eq_true rfl) ⟨Nat.zero_le _, Nat.zero_le _⟩ dX7_setBucket_1) h (fun H locs h => ?_)
  refine lv_if_ne (tgt := 10) hx hb dX7_setBucket_4 (by decide) (fun b_4 => ?_) (fun b_4 => ?_)
  · skip
    refine lv_iload_n hx hb dX7_setBucket_10 rfl (lv_at hl 2 rfl) ?_
    refine lv_iconst (v := 0) hx hb dX7_setBucket_11 (by decide) ?_
    refine lv_iconst (v := 2) hx hb dX7_setBucket_12 (by decide) ?_
    refine u_iE (v := (inI x 0 2)) (ru_S (As := [.int x, .int 0, .int 2]) (rest := []) F h (k_X7_isWithin l g n c x 0 2) (gS hjl wd_277 wd_278 wd_16 wd_279) rfl 3 (by decide +kernel) rfl ⟨Nat.le_of_ble_eq_true rfl, Nat.le_of_ble_eq_true rfl⟩ rfl hl.1 (Nat.le_of_ble_eq_true rfl) ⟨Nat.zero_le _, Nat.zero_le _⟩ dX7_setBucket_13) h (fun H locs h => ?_)
    refine lv_if_ne (tgt := 22) hx hb dX7_setBucket_16 (by decide) (fun b_16 => ?_) (fun b_16 => ?_)
    · skip
      have h_w := inI_w (N := 3) (by decide) b_4
      have h4_w : wN w < 4 := h_w.1
      have hl : lv_has ls 5 [(0, .ref (gz g + 0)), (1, .int (nI (wN w))), (2, .int x)] := by rw [show (nI (wN w) : Int32) = w from h_w.2]; exact hl
      refine lv_aload_n hx hb dX7_setBucket_22 rfl (lv_at hl 0 rfl) ?_
      refine lv_iload_n hx hb dX7_setBucket_23 rfl (lv_at hl 1 rfl) ?_
      refine u_iE (v := (R (5 + 11 * (wN w) + 0))) (ru_V (As := [.int (nI (wN w))]) (rest := []) F h hP rfl (k_X7_isHung l g n c lh ru rs hP R hB (wN w) (by omega) (hW.1 (wN w) (by omega))) (gV hjl wd_330 wd_332 wd_2 wd_16 wd_333) rfl 1 (by decide +kernel) rfl ⟨Nat.le_of_ble_eq_true rfl, Nat.le_of_ble_eq_true rfl⟩ rfl hl.1 (Nat.le_of_ble_eq_true rfl) ⟨Nat.zero_le _, Nat.zero_le _⟩ dX7_setBucket_24) h (fun H locs h => ?_)
      refine lv_if_ne (tgt := 36) hx hb dX7_setBucket_27 (by decide) (fun b_27 => ?_) (fun b_27 => ?_)
      · skip
        refine lv_aload_n hx hb dX7_setBucket_36 rfl (lv_at hl 0 rfl) ?_
        refine u_v (ru_V (As := []) (rest := []) F h hP rfl (k_X7_remember l g n c lh ru rs hP R hB hk5 hq hH hW) (gV hjl wd_282 wd_284 wd_0 wd_16 wd_285) rfl 0 (by decide +kernel) rfl ⟨Nat.le_of_ble_eq_true rfl, Nat.le_of_ble_eq_true rfl⟩ rfl hl.1 (Nat.le_of_ble_eq_true rfl) ⟨Nat.zero_le _, Nat.zero_le _⟩ dX7_setBucket_37) h (fun n1 cz1 H locs hp h => ?_)
        obtain ⟨hnz1, hPz1, hBz1, hHz1, hFz1⟩ := hp
        rw [hnz1] at h
        refine lv_aload_n hx hb dX7_setBucket_40 rfl (lv_at hl 0 rfl) ?_
        refine r_get F h (C := RX7) (T := TX7) (N := 8) (hjc hi_X7) rfl hPz1 0 (by decide) (List.mem_cons_of_mem _ wd_245) rfl dX7_setBucket_41 ?_
        refine r_get F h (C := RX4) (T := TX4) (N := 8) (hjc hi_X4) rfl hBz1.1 0 (by decide) (List.mem_cons_of_mem _ wd_186) rfl dX7_setBucket_44 ?_
        refine lv_iload_n hx hb dX7_setBucket_47 rfl (lv_at hl 1 rfl) ?_
        refine r_aald F h (C := RX6) hBz1.2.1.1 (t0 := 4) rfl (vp_in_nI (show wN w < 4 by omega) (by decide)) (a := gz g + (1 + 2 + wN w)) (qs_at (fun k => some (gz g + (1 + 2 + k))) (by omega)) dX7_setBucket_48 ?_
        refine lv_astore_n (lv' := [(3, .ref (gz g + (1 + 2 + wN w))), (0, .ref (gz g + 0)), (1, .int (nI (wN w))), (2, .int x)]) hx hb dX7_setBucket_49 rfl hl (by decide) rfl (fun ls hl => ?_)
        refine lv_aload_n hx hb dX7_setBucket_50 rfl (lv_at hl 0 rfl) ?_
        refine r_get F h (C := RX6) (T := TX6) (N := 12) (hjc hi_X6) rfl (hBz1.2.1.2 (wN w) (by omega)) 8 (by decide) (List.mem_cons_of_mem _ wd_67) rfl dX7_setBucket_51 ?_
        refine lv_istore (lv' := [(4, .int (R (5 + 11 * wN w + 7))), (3, .ref (gz g + (1 + 2 + wN w))), (0, .ref (gz g + 0)), (1, .int (nI (wN w))), (2, .int x)]) hx hb dX7_setBucket_54 hl (by decide) rfl (fun ls hl => ?_)
        refine lv_iload hx hb dX7_setBucket_56 (lv_at hl 0 rfl) ?_
        refine lv_iload_n hx hb dX7_setBucket_58 rfl (lv_at hl 4 rfl) ?_
        refine lv_icmp_eq (tgt := 76) hx hb dX7_setBucket_59 (by decide) (fun b_59 => ?_) (fun b_59 => ?_)
        · skip
          refine lv_iload hx hb dX7_setBucket_76 (lv_at hl 0 rfl) ?_
          exact ret_i F h (Nat.zero_le _) (Nat.zero_le _) dX7_setBucket_78 (paE (show sq_X7_setBucket lh ru rs R hq w x sc = (R (5 + 11 * wN w + 7), rs, R, (rmL ru lh), rmQ ru lh hq R) by rw [sq_X7_setBucket, if_neg (c := (inI w 0 3) = 0) b_4, if_neg (c := (inI x 0 2) = 0) b_16, if_neg (c := (R (5 + 11 * (wN w) + 0)) = 0) b_27, if_pos (c := R (5 + 11 * wN w + 7) = x) b_59]) (Nat.le_refl _) hPz1 hBz1 hHz1 (Fn.rfl'.fr hFz1 (by decide)))
        refine lv_aload_n hx hb dX7_setBucket_62 rfl (lv_at hl 1 rfl) ?_
        refine lv_iload_n hx hb dX7_setBucket_63 rfl (lv_at hl 4 rfl) ?_
        refine r_put F h (C := RX6) (T := TX6) (N := 12) (fs' := [.int (R (5 + 11 * wN w + 0)), .int (R (5 + 11 * wN w + 1)), .int (R (5 + 11 * wN w + 2)), .int (R (5 + 11 * wN w + 3)), .int (R (5 + 11 * wN w + 4)), .int (qdI (R (5 + 11 * wN w + 4))), .int (R (5 + 11 * wN w + 5)), .int (R (5 + 11 * wN w + 6)), .int x, .int (R (5 + 11 * wN w + 8)), .int (R (5 + 11 * wN w + 9)), .int (R (5 + 11 * wN w + 10))]) (hjc hi_X6) tyX6 tyX6_ok nmX6 rfl (hBz1.2.1.2 (wN w) (by omega)) 8 (by decide) (List.mem_cons_of_mem _ wd_67) rfl (rfl) (rfl) (Nat.le_of_ble_eq_true rfl) rfl dX7_setBucket_64 (fun H locs h => ?_)
        refine lv_aload_n hx hb dX7_setBucket_67 rfl (lv_at hl 2 rfl) ?_
        refine r_get F h (C := RX7) (T := TX7) (N := 8) (hjc hi_X7) rfl ((mu_ne (by omega) _).trans hPz1) 0 (by decide) (List.mem_cons_of_mem _ wd_245) rfl dX7_setBucket_68 ?_
        refine lv_iload_n hx hb dX7_setBucket_71 rfl (lv_at hl 3 rfl) ?_
        refine u_i (ru_V (As := [.int (nI (wN w))]) (rest := []) F h ((mu_ne (by omega) _).trans hBz1.1) rfl (k_X4_voidWire l g n (va_up cz1 (1 + 2 + wN w) (some (.inr (6, [.int (R (5 + 11 * wN w + 0)), .int (R (5 + 11 * wN w + 1)), .int (R (5 + 11 * wN w + 2)), .int (R (5 + 11 * wN w + 3)), .int (R (5 + 11 * wN w + 4)), .int (qdI (R (5 + 11 * wN w + 4))), .int (R (5 + 11 * wN w + 5)), .int (R (5 + 11 * wN w + 6)), .int x, .int (R (5 + 11 * wN w + 8)), .int (R (5 + 11 * wN w + 9)), .int (R (5 + 11 * wN w + 10))])))) 1 (wPut R (wN w) (l11 (R (5 + 11 * wN w + 0)) (R (5 + 11 * wN w + 1)) (R (5 + 11 * wN w + 2)) (R (5 + 11 * wN w + 3)) (R (5 + 11 * wN w + 4)) (R (5 + 11 * wN w + 5)) (R (5 + 11 * wN w + 6)) x (R (5 + 11 * wN w + 8)) (R (5 + 11 * wN w + 9)) (R (5 + 11 * wN w + 10)))) (hBz1.wireP (w := wN w) (by omega) (l11 (R (5 + 11 * wN w + 0)) (R (5 + 11 * wN w + 1)) (R (5 + 11 * wN w + 2)) (R (5 + 11 * wN w + 3)) (R (5 + 11 * wN w + 4)) (R (5 + 11 * wN w + 5)) (R (5 + 11 * wN w + 6)) x (R (5 + 11 * wN w + 8)) (R (5 + 11 * wN w + 9)) (R (5 + 11 * wN w + 10)))) sc (by simp only [wPut_4, cPut_4, vdR_4, upd_34, hsc]) h5 (wN w) (by omega)) (gV hjl wd_318 wd_319 wd_320 wd_17 wd_321) rfl 1 (by decide +kernel) rfl ⟨Nat.le_of_ble_eq_true rfl, Nat.le_of_ble_eq_true rfl⟩ rfl hl.1 (Nat.le_of_ble_eq_true rfl) ⟨Nat.zero_le _, Nat.zero_le _⟩ dX7_setBucket_72) h (fun rz2 n1 cz2 H locs hp h => ?_)
        obtain ⟨hrz2, hnz2, hBz2, hFz2⟩ := hp
        rw [hnz2] at h
        rw [hrz2]
        refine lv_pop hx hb dX7_setBucket_75 rfl ?_
        refine lv_iload hx hb dX7_setBucket_76 (lv_at hl 0 rfl) ?_
        exact ret_i F h (Nat.zero_le _) (Nat.zero_le _) dX7_setBucket_78 (paE (show sq_X7_setBucket lh ru rs R hq w x sc = (R (5 + 11 * wN w + 7), rs, vdR (wPut R (wN w) (l11 (R (5 + 11 * wN w + 0)) (R (5 + 11 * wN w + 1)) (R (5 + 11 * wN w + 2)) (R (5 + 11 * wN w + 3)) (R (5 + 11 * wN w + 4)) (R (5 + 11 * wN w + 5)) (R (5 + 11 * wN w + 6)) x (R (5 + 11 * wN w + 8)) (R (5 + 11 * wN w + 9)) (R (5 + 11 * wN w + 10)))) (wN w) sc, (rmL ru lh), rmQ ru lh hq R) by rw [sq_X7_setBucket, if_neg (c := (inI w 0 3) = 0) b_4, if_neg (c := (inI x 0 2) = 0) b_16, if_neg (c := (R (5 + 11 * (wN w) + 0)) = 0) b_27, if_neg (c := R (5 + 11 * wN w + 7) = x) b_59]) (Nat.le_refl _) ((hFz2 _ (by omega)).trans ((mu_ne (by omega) _).trans hPz1)) hBz2 ((hHz1.up (by omega)).fr hFz2 (by decide)) (((Fn.rfl'.fr hFz1 (by decide)).up (by omega)).fr hFz2 (by decide)))
      refine lv_aload_n hx hb dX7_setBucket_30 rfl (lv_at hl 0 rfl) ?_
      refine lv_iconst (v := 1) hx hb dX7_setBucket_31 (by decide) ?_
      refine u_iE (v := (-100003)) (ru_V (As := [.int 1]) (rest := []) F h hP rfl (k_X7_refuse l g n c lh ru rs hP R hB 1) (gV hjl wd_334 wd_336 wd_3 wd_16 wd_337) rfl 1 (by decide +kernel) rfl ⟨Nat.le_of_ble_eq_true rfl, Nat.le_of_ble_eq_true rfl⟩ rfl hl.1 (Nat.le_of_ble_eq_true rfl) ⟨Nat.zero_le _, Nat.zero_le _⟩ dX7_setBucket_32) h (fun H locs h => ?_)
      exact ret_i F h (Nat.zero_le _) (Nat.zero_le _) dX7_setBucket_35 (paE (show sq_X7_setBucket lh ru rs R hq w x sc = ((-100003), 1, R, lh, hq) by rw [sq_X7_setBucket, if_neg (c := (inI w 0 3) = 0) b_4, if_neg (c := (inI x 0 2) = 0) b_16, if_pos (c := (R (5 + 11 * (wN w) + 0)) = 0) b_27]) (Nat.le_refl _) (mu_eq _ _ _) (hB.out (by omega)) (hH.up (by omega)) (Fn.rfl'.up (by omega)))
    refine lv_ldc (v := (-100002)) hx hb F.2.2.2.1 (F.2.2.2.2.1 (Cond.constant RX7 47 (-100002)) (List.mem_cons_of_mem _ wd_281)) dX7_setBucket_19 ?_
    exact ret_i F h (Nat.zero_le _) (Nat.zero_le _) dX7_setBucket_21 (paE (show sq_X7_setBucket lh ru rs R hq w x sc = ((-100002), rs, R, lh, hq) by rw [sq_X7_setBucket, if_neg (c := (inI w 0 3) = 0) b_4, if_pos (c := (inI x 0 2) = 0) b_16]) (Nat.le_refl _) hP hB hH Fn.rfl')
  refine lv_ldc (v := (-100001)) hx hb F.2.2.2.1 (F.2.2.2.2.1 (Cond.constant RX7 42 (-100001)) (List.mem_cons_of_mem _ wd_280)) dX7_setBucket_7 ?_
  exact ret_i F h (Nat.zero_le _) (Nat.zero_le _) dX7_setBucket_9 (paE (show sq_X7_setBucket lh ru rs R hq w x sc = ((-100001), rs, R, lh, hq) by rw [sq_X7_setBucket, if_pos (c := (inI w 0 3) = 0) b_4]) (Nat.le_refl _) hP hB hH Fn.rfl')
def sq_X7_push (lh : Nat) (ru rs : Int32) (R : Nat → Int32) (hq : Nat → Nat → Int32) (w x y : Int32) (sc : Nat) : ClT := if (inI w 0 3) = 0 then (((-100001), rs, R, lh, hq)) else (if (inI x 0 7) = 0 then (((-100002), rs, R, lh, hq)) else (if (inI y 1 500) = 0 then (((-100002), rs, R, lh, hq)) else (if (R (5 + 11 * (wN w) + 0)) = 0 then (((-100003), 1, R, lh, hq)) else (((4 * qdI ((vdR (wPut R (wN w) (l11 (R (5 + 11 * wN w + 0)) (R (5 + 11 * wN w + 1)) (R (5 + 11 * wN w + 2)) (R (5 + 11 * wN w + 3)) (R (5 + 11 * wN w + 4)) (R (5 + 11 * wN w + 5)) (R (5 + 11 * wN w + 6)) (R (5 + 11 * wN w + 7)) x y 0)) (wN w) sc) (5 + 11 * wN w + 4))), rs, vdR (wPut R (wN w) (l11 (R (5 + 11 * wN w + 0)) (R (5 + 11 * wN w + 1)) (R (5 + 11 * wN w + 2)) (R (5 + 11 * wN w + 3)) (R (5 + 11 * wN w + 4)) (R (5 + 11 * wN w + 5)) (R (5 + 11 * wN w + 6)) (R (5 + 11 * wN w + 7)) x y 0)) (wN w) sc, (rmL ru lh), rmQ ru lh hq R)))))
set_option maxHeartbeats 4000000 in
set_option maxRecDepth 100000 in
theorem k_X7_push (l : Launch) (g : Gf) (n : Nat) (c : Mp) (lh : Nat) (ru rs : Int32) (hP : c 0 = plC g (nI lh) ru rs) (R : Nat → Int32) (hB : Bk g c 1 R) (hk5 : lh ≤ 5) (hq : Nat → Nat → Int32) (hH : Hx g c hq) (hW : WB R) (w x y : Int32) (sc : Nat) (hsc : R 4 = nI sc) (h5 : sc ≤ 5) : Ct l g yX7_push wsX7_push 4 85 0 0 [.ref (gz g + 0), .int w, .int x, .int y] n c (Qi g (fun xr n' c' => PA g c n ru (sq_X7_push lh ru rs R hq w x y sc) xr n' c')) := by
  refine ent (by decide) rfl (Nat.le_of_ble_eq_true rfl) ?_
  intro p e s m args below meth c0 F h ls hl
  have hx := F.1
  have hb := F.2.1
  have hl : lv_has ls 5 [(0, .ref (gz g + 0)), (1, .int w), (2, .int x), (3, .int y)] := hl
  refine lv_iload_n hx hb dX7_push_0 rfl (lv_at hl 1 rfl) ?_
  refine u_iE (v := (inI w 0 3)) (ru_S (As := [.int w]) (rest := []) F h (k_X7_isWire l g n c w) (gS hjl wd_274 wd_275 wd_16 wd_276) rfl 1 (by decide +kernel) rfl ⟨Nat.le_of_ble_eq_true rfl, Nat.le_of_ble_eq_true rfl⟩ rfl hl.1 (Nat.le_of_ble_eq_true rfl) ⟨Nat.zero_le _, Nat.zero_le _⟩ dX7_push_1) h (fun H locs h => ?_)
  refine lv_if_ne (tgt := 10) hx hb dX7_push_4 (by decide) (fun b_4 => ?_) (fun b_4 => ?_)
  · skip
    refine lv_iload_n hx hb dX7_push_10 rfl (lv_at hl 2 rfl) ?_
    refine lv_iconst (v := 0) hx hb dX7_push_11 (by decide) ?_
    refine lv_bipush (v := 7) hx hb dX7_push_12 (by decide) ?_
    refine u_iE (v := (inI x 0 7)) (ru_S (As := [.int x, .int 0, .int 7]) (rest := []) F h (k_X7_isWithin l g n c x 0 7) (gS hjl wd_277 wd_278 wd_16 wd_279) rfl 3 (by decide +kernel) rfl ⟨Nat.le_of_ble_eq_true rfl, Nat.le_of_ble_eq_true rfl⟩ rfl hl.1 (Nat.le_of_ble_eq_true rfl) ⟨Nat.zero_le _, Nat.zero_le _⟩ dX7_push_14) h (fun H locs h => ?_)
    refine lv_if_eq (tgt := 31) hx hb dX7_push_17 (by decide) (fun b_17 => ?_) (fun b_17 => ?_)
    · skip
      refine lv_ldc (v := (-100002)) hx hb F.2.2.2.1 (F.2.2.2.2.1 (Cond.constant RX7 47 (-100002)) (List.mem_cons_of_mem _ wd_281)) dX7_push_31 ?_
      exact ret_i F h (Nat.zero_le _) (Nat.zero_le _) dX7_push_33 (paE (show sq_X7_push lh ru rs R hq w x y sc = ((-100002), rs, R, lh, hq) by rw [sq_X7_push, if_neg (c := (inI w 0 3) = 0) b_4, if_pos (c := (inI x 0 7) = 0) b_17]) (Nat.le_refl _) hP hB hH Fn.rfl')
    refine lv_iload_n hx hb dX7_push_20 rfl (lv_at hl 3 rfl) ?_
    refine lv_iconst (v := 1) hx hb dX7_push_21 (by decide) ?_
    refine lv_sipush (v := 500) hx hb dX7_push_22 (by decide) ?_
    refine u_iE (v := (inI y 1 500)) (ru_S (As := [.int y, .int 1, .int 500]) (rest := []) F h (k_X7_isWithin l g n c y 1 500) (gS hjl wd_277 wd_278 wd_16 wd_279) rfl 3 (by decide +kernel) rfl ⟨Nat.le_of_ble_eq_true rfl, Nat.le_of_ble_eq_true rfl⟩ rfl hl.1 (Nat.le_of_ble_eq_true rfl) ⟨Nat.zero_le _, Nat.zero_le _⟩ dX7_push_25) h (fun H locs h => ?_)
    refine lv_if_ne (tgt := 34) hx hb dX7_push_28 (by decide) (fun b_28 => ?_) (fun b_28 => ?_)
    · skip
      have h_w := inI_w (N := 3) (by decide) b_4
      have h4_w : wN w < 4 := h_w.1
      have hl : lv_has ls 5 [(0, .ref (gz g + 0)), (1, .int (nI (wN w))), (2, .int x), (3, .int y)] := by rw [show (nI (wN w) : Int32) = w from h_w.2]; exact hl
      refine lv_aload_n hx hb dX7_push_34 rfl (lv_at hl 0 rfl) ?_
      refine lv_iload_n hx hb dX7_push_35 rfl (lv_at hl 1 rfl) ?_
      refine u_iE (v := (R (5 + 11 * (wN w) + 0))) (ru_V (As := [.int (nI (wN w))]) (rest := []) F h hP rfl (k_X7_isHung l g n c lh ru rs hP R hB (wN w) (by omega) (hW.1 (wN w) (by omega))) (gV hjl wd_330 wd_332 wd_2 wd_16 wd_333) rfl 1 (by decide +kernel) rfl ⟨Nat.le_of_ble_eq_true rfl, Nat.le_of_ble_eq_true rfl⟩ rfl hl.1 (Nat.le_of_ble_eq_true rfl) ⟨Nat.zero_le _, Nat.zero_le _⟩ dX7_push_36) h (fun H locs h => ?_)
      refine lv_if_ne (tgt := 48) hx hb dX7_push_39 (by decide) (fun b_39 => ?_) (fun b_39 => ?_)
      · skip
        refine lv_aload_n hx hb dX7_push_48 rfl (lv_at hl 0 rfl) ?_
        refine u_v (ru_V (As := []) (rest := []) F h hP rfl (k_X7_remember l g n c lh ru rs hP R hB hk5 hq hH hW) (gV hjl wd_282 wd_284 wd_0 wd_16 wd_285) rfl 0 (by decide +kernel) rfl ⟨Nat.le_of_ble_eq_true rfl, Nat.le_of_ble_eq_true rfl⟩ rfl hl.1 (Nat.le_of_ble_eq_true rfl) ⟨Nat.zero_le _, Nat.zero_le _⟩ dX7_push_49) h (fun n1 cz1 H locs hp h => ?_)
        obtain ⟨hnz1, hPz1, hBz1, hHz1, hFz1⟩ := hp
        rw [hnz1] at h
        refine lv_aload_n hx hb dX7_push_52 rfl (lv_at hl 0 rfl) ?_
        refine r_get F h (C := RX7) (T := TX7) (N := 8) (hjc hi_X7) rfl hPz1 0 (by decide) (List.mem_cons_of_mem _ wd_245) rfl dX7_push_53 ?_
        refine r_get F h (C := RX4) (T := TX4) (N := 8) (hjc hi_X4) rfl hBz1.1 0 (by decide) (List.mem_cons_of_mem _ wd_186) rfl dX7_push_56 ?_
        refine lv_iload_n hx hb dX7_push_59 rfl (lv_at hl 1 rfl) ?_
        refine r_aald F h (C := RX6) hBz1.2.1.1 (t0 := 4) rfl (vp_in_nI (show wN w < 4 by omega) (by decide)) (a := gz g + (1 + 2 + wN w)) (qs_at (fun k => some (gz g + (1 + 2 + k))) (by omega)) dX7_push_60 ?_
        refine lv_astore (lv' := [(4, .ref (gz g + (1 + 2 + wN w))), (0, .ref (gz g + 0)), (1, .int (nI (wN w))), (2, .int x), (3, .int y)]) hx hb dX7_push_61 hl (by decide) rfl (fun ls hl => ?_)
        refine lv_aload hx hb dX7_push_63 (lv_at hl 0 rfl) ?_
        refine lv_iload_n hx hb dX7_push_65 rfl (lv_at hl 3 rfl) ?_
        refine r_put F h (C := RX6) (T := TX6) (N := 12) (fs' := [.int (R (5 + 11 * wN w + 0)), .int (R (5 + 11 * wN w + 1)), .int (R (5 + 11 * wN w + 2)), .int (R (5 + 11 * wN w + 3)), .int (R (5 + 11 * wN w + 4)), .int (qdI (R (5 + 11 * wN w + 4))), .int (R (5 + 11 * wN w + 5)), .int (R (5 + 11 * wN w + 6)), .int (R (5 + 11 * wN w + 7)), .int x, .int (R (5 + 11 * wN w + 9)), .int (R (5 + 11 * wN w + 10))]) (hjc hi_X6) tyX6 tyX6_ok nmX6 rfl (hBz1.2.1.2 (wN w) (by omega)) 9 (by decide) (List.mem_cons_of_mem _ wd_69) rfl (rfl) (rfl) (Nat.le_of_ble_eq_true rfl) rfl dX7_push_66 (fun H locs h => ?_)
        refine lv_aload hx hb dX7_push_69 (lv_at hl 0 rfl) ?_
        refine lv_iload_n hx hb dX7_push_71 rfl (lv_at hl 4 rfl) ?_
        refine u_vE (ru_V (As := [.int y]) (rest := []) F h (mu_eq _ _ _) rfl (k_X6_startSway l g n (va_up cz1 (1 + 2 + wN w) (some (.inr (6, [.int (R (5 + 11 * wN w + 0)), .int (R (5 + 11 * wN w + 1)), .int (R (5 + 11 * wN w + 2)), .int (R (5 + 11 * wN w + 3)), .int (R (5 + 11 * wN w + 4)), .int (qdI (R (5 + 11 * wN w + 4))), .int (R (5 + 11 * wN w + 5)), .int (R (5 + 11 * wN w + 6)), .int (R (5 + 11 * wN w + 7)), .int x, .int (R (5 + 11 * wN w + 9)), .int (R (5 + 11 * wN w + 10))])))) (1 + 2 + wN w) (l11 (R (5 + 11 * wN w + 0)) (R (5 + 11 * wN w + 1)) (R (5 + 11 * wN w + 2)) (R (5 + 11 * wN w + 3)) (R (5 + 11 * wN w + 4)) (R (5 + 11 * wN w + 5)) (R (5 + 11 * wN w + 6)) (R (5 + 11 * wN w + 7)) x (R (5 + 11 * wN w + 9)) (R (5 + 11 * wN w + 10))) (mu_eq _ _ _) y) (gV hjl wd_354 wd_315 wd_316 wd_18 wd_317) rfl 1 (by decide +kernel) rfl ⟨Nat.le_of_ble_eq_true rfl, Nat.le_of_ble_eq_true rfl⟩ rfl hl.1 (Nat.le_of_ble_eq_true rfl) ⟨Nat.zero_le _, Nat.zero_le _⟩ dX7_push_72) h (fun H locs h => ?_)
        refine r_mem (c1 := (va_up cz1 (1 + 2 + wN w) (some (.inr (6, [.int (R (5 + 11 * wN w + 0)), .int (R (5 + 11 * wN w + 1)), .int (R (5 + 11 * wN w + 2)), .int (R (5 + 11 * wN w + 3)), .int (R (5 + 11 * wN w + 4)), .int (qdI (R (5 + 11 * wN w + 4))), .int (R (5 + 11 * wN w + 5)), .int (R (5 + 11 * wN w + 6)), .int (R (5 + 11 * wN w + 7)), .int x, .int y, .int 0]))))) h (mu_uu _ _ _ _) (fun h => ?_)
        refine lv_aload_n hx hb dX7_push_75 rfl (lv_at hl 1 rfl) ?_
        refine r_get F h (C := RX7) (T := TX7) (N := 8) (hjc hi_X7) rfl ((mu_ne (by omega) _).trans hPz1) 0 (by decide) (List.mem_cons_of_mem _ wd_245) rfl dX7_push_76 ?_
        refine lv_iload_n hx hb dX7_push_79 rfl (lv_at hl 2 rfl) ?_
        refine u_i (ru_V (As := [.int (nI (wN w))]) (rest := []) F h ((mu_ne (by omega) _).trans hBz1.1) rfl (k_X4_voidWire l g n (va_up cz1 (1 + 2 + wN w) (some (.inr (6, [.int (R (5 + 11 * wN w + 0)), .int (R (5 + 11 * wN w + 1)), .int (R (5 + 11 * wN w + 2)), .int (R (5 + 11 * wN w + 3)), .int (R (5 + 11 * wN w + 4)), .int (qdI (R (5 + 11 * wN w + 4))), .int (R (5 + 11 * wN w + 5)), .int (R (5 + 11 * wN w + 6)), .int (R (5 + 11 * wN w + 7)), .int x, .int y, .int 0])))) 1 (wPut R (wN w) (l11 (R (5 + 11 * wN w + 0)) (R (5 + 11 * wN w + 1)) (R (5 + 11 * wN w + 2)) (R (5 + 11 * wN w + 3)) (R (5 + 11 * wN w + 4)) (R (5 + 11 * wN w + 5)) (R (5 + 11 * wN w + 6)) (R (5 + 11 * wN w + 7)) x y 0)) (hBz1.wireP (w := wN w) (by omega) (l11 (R (5 + 11 * wN w + 0)) (R (5 + 11 * wN w + 1)) (R (5 + 11 * wN w + 2)) (R (5 + 11 * wN w + 3)) (R (5 + 11 * wN w + 4)) (R (5 + 11 * wN w + 5)) (R (5 + 11 * wN w + 6)) (R (5 + 11 * wN w + 7)) x y 0)) sc (by simp only [wPut_4, cPut_4, vdR_4, upd_34, hsc]) h5 (wN w) (by omega)) (gV hjl wd_318 wd_319 wd_320 wd_17 wd_321) rfl 1 (by decide +kernel) rfl ⟨Nat.le_of_ble_eq_true rfl, Nat.le_of_ble_eq_true rfl⟩ rfl hl.1 (Nat.le_of_ble_eq_true rfl) ⟨Nat.zero_le _, Nat.zero_le _⟩ dX7_push_80) h (fun rz2 n1 cz2 H locs hp h => ?_)
        obtain ⟨hrz2, hnz2, hBz2, hFz2⟩ := hp
        rw [hnz2] at h
        rw [hrz2]
        refine lv_pop hx hb dX7_push_83 rfl ?_
        refine lv_aload hx hb dX7_push_84 (lv_at hl 0 rfl) ?_
        refine u_iE (v := (4 * qdI ((vdR (wPut R (wN w) (l11 (R (5 + 11 * wN w + 0)) (R (5 + 11 * wN w + 1)) (R (5 + 11 * wN w + 2)) (R (5 + 11 * wN w + 3)) (R (5 + 11 * wN w + 4)) (R (5 + 11 * wN w + 5)) (R (5 + 11 * wN w + 6)) (R (5 + 11 * wN w + 7)) x y 0)) (wN w) sc) (5 + 11 * wN w + 4)))) (ru_V (As := []) (rest := []) F h (hBz2.2.1.2 (wN w) (by omega)) rfl (k_X6_periodTicks l g n cz2 (1 + 2 + wN w) (fun q => (vdR (wPut R (wN w) (l11 (R (5 + 11 * wN w + 0)) (R (5 + 11 * wN w + 1)) (R (5 + 11 * wN w + 2)) (R (5 + 11 * wN w + 3)) (R (5 + 11 * wN w + 4)) (R (5 + 11 * wN w + 5)) (R (5 + 11 * wN w + 6)) (R (5 + 11 * wN w + 7)) x y 0)) (wN w) sc) (5 + 11 * wN w + q)) (hBz2.2.1.2 (wN w) (by omega)) ) (gV hjl wd_355 wd_356 wd_357 wd_18 wd_358) rfl 0 (by decide +kernel) rfl ⟨Nat.le_of_ble_eq_true rfl, Nat.le_of_ble_eq_true rfl⟩ rfl hl.1 (Nat.le_of_ble_eq_true rfl) ⟨Nat.zero_le _, Nat.zero_le _⟩ dX7_push_86) h (fun H locs h => ?_)
        exact ret_i F h (Nat.zero_le _) (Nat.zero_le _) dX7_push_89 (paE (show sq_X7_push lh ru rs R hq w x y sc = ((4 * qdI ((vdR (wPut R (wN w) (l11 (R (5 + 11 * wN w + 0)) (R (5 + 11 * wN w + 1)) (R (5 + 11 * wN w + 2)) (R (5 + 11 * wN w + 3)) (R (5 + 11 * wN w + 4)) (R (5 + 11 * wN w + 5)) (R (5 + 11 * wN w + 6)) (R (5 + 11 * wN w + 7)) x y 0)) (wN w) sc) (5 + 11 * wN w + 4))), rs, vdR (wPut R (wN w) (l11 (R (5 + 11 * wN w + 0)) (R (5 + 11 * wN w + 1)) (R (5 + 11 * wN w + 2)) (R (5 + 11 * wN w + 3)) (R (5 + 11 * wN w + 4)) (R (5 + 11 * wN w + 5)) (R (5 + 11 * wN w + 6)) (R (5 + 11 * wN w + 7)) x y 0)) (wN w) sc, (rmL ru lh), rmQ ru lh hq R) by rw [sq_X7_push, if_neg (c := (inI w 0 3) = 0) b_4, if_neg (c := (inI x 0 7) = 0) b_17, if_neg (c := (inI y 1 500) = 0) b_28, if_neg (c := (R (5 + 11 * (wN w) + 0)) = 0) b_39]) (Nat.le_refl _) ((hFz2 _ (by omega)).trans ((mu_ne (by omega) _).trans hPz1)) hBz2 ((hHz1.up (by omega)).fr hFz2 (by decide)) (((Fn.rfl'.fr hFz1 (by decide)).up (by omega)).fr hFz2 (by decide)))
      refine lv_aload_n hx hb dX7_push_42 rfl (lv_at hl 0 rfl) ?_
      refine lv_iconst (v := 1) hx hb dX7_push_43 (by decide) ?_
      refine u_iE (v := (-100003)) (ru_V (As := [.int 1]) (rest := []) F h hP rfl (k_X7_refuse l g n c lh ru rs hP R hB 1) (gV hjl wd_334 wd_336 wd_3 wd_16 wd_337) rfl 1 (by decide +kernel) rfl ⟨Nat.le_of_ble_eq_true rfl, Nat.le_of_ble_eq_true rfl⟩ rfl hl.1 (Nat.le_of_ble_eq_true rfl) ⟨Nat.zero_le _, Nat.zero_le _⟩ dX7_push_44) h (fun H locs h => ?_)
      exact ret_i F h (Nat.zero_le _) (Nat.zero_le _) dX7_push_47 (paE (show sq_X7_push lh ru rs R hq w x y sc = ((-100003), 1, R, lh, hq) by rw [sq_X7_push, if_neg (c := (inI w 0 3) = 0) b_4, if_neg (c := (inI x 0 7) = 0) b_17, if_neg (c := (inI y 1 500) = 0) b_28, if_pos (c := (R (5 + 11 * (wN w) + 0)) = 0) b_39]) (Nat.le_refl _) (mu_eq _ _ _) (hB.out (by omega)) (hH.up (by omega)) (Fn.rfl'.up (by omega)))
    refine lv_ldc (v := (-100002)) hx hb F.2.2.2.1 (F.2.2.2.2.1 (Cond.constant RX7 47 (-100002)) (List.mem_cons_of_mem _ wd_281)) dX7_push_31 ?_
    exact ret_i F h (Nat.zero_le _) (Nat.zero_le _) dX7_push_33 (paE (show sq_X7_push lh ru rs R hq w x y sc = ((-100002), rs, R, lh, hq) by rw [sq_X7_push, if_neg (c := (inI w 0 3) = 0) b_4, if_neg (c := (inI x 0 7) = 0) b_17, if_pos (c := (inI y 1 500) = 0) b_28]) (Nat.le_refl _) hP hB hH Fn.rfl')
  refine lv_ldc (v := (-100001)) hx hb F.2.2.2.1 (F.2.2.2.2.1 (Cond.constant RX7 42 (-100001)) (List.mem_cons_of_mem _ wd_280)) dX7_push_7 ?_
  exact ret_i F h (Nat.zero_le _) (Nat.zero_le _) dX7_push_9 (paE (show sq_X7_push lh ru rs R hq w x y sc = ((-100001), rs, R, lh, hq) by rw [sq_X7_push, if_pos (c := (inI w 0 3) = 0) b_4]) (Nat.le_refl _) hP hB hH Fn.rfl')
