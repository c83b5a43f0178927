/-! The class: acts, on. -/
def sq_X7_swap (lh : Nat) (ru rs : Int32) (R : Nat → Int32) (hq : Nat → Nat → Int32) (x y : Int32) (sc : Nat) : ClT := if (inI x 0 3) = 0 then (((-100001), rs, R, lh, hq)) else (if (inI y 0 3) = 0 then (((-100001), rs, R, lh, hq)) else (if nI (wN x) = nI (wN y) then (((-100002), rs, R, lh, hq)) else (if (R (5 + 11 * (wN x) + 0)) = 0 then (((-100003), 1, R, lh, hq)) else (if (R (5 + 11 * (wN y) + 0)) = 0 then (((-100003), 1, R, lh, hq)) else ((((ctI (fun v => (wPut (wPut R (wN x) (l11 (R (5 + 11 * wN x + 0)) (R (5 + 11 * wN y + 1)) (R (5 + 11 * wN y + 2)) (R (5 + 11 * wN x + 3)) (R (5 + 11 * wN x + 4)) (R (5 + 11 * wN x + 5)) (R (5 + 11 * wN x + 6)) (R (5 + 11 * wN x + 7)) (R (5 + 11 * wN x + 8)) 0 0)) (wN y) (l11 (R (5 + 11 * wN y + 0)) (R (5 + 11 * wN x + 1)) (R (5 + 11 * wN x + 2)) (R (5 + 11 * wN y + 3)) (R (5 + 11 * wN y + 4)) (R (5 + 11 * wN y + 5)) (R (5 + 11 * wN y + 6)) (R (5 + 11 * wN y + 7)) (R (5 + 11 * wN y + 8)) 0 0)) (84 + 6 * (4 * v + (wN x)))) sc) + (ctI (fun v => (vdR (wPut (wPut R (wN x) (l11 (R (5 + 11 * wN x + 0)) (R (5 + 11 * wN y + 1)) (R (5 + 11 * wN y + 2)) (R (5 + 11 * wN x + 3)) (R (5 + 11 * wN x + 4)) (R (5 + 11 * wN x + 5)) (R (5 + 11 * wN x + 6)) (R (5 + 11 * wN x + 7)) (R (5 + 11 * wN x + 8)) 0 0)) (wN y) (l11 (R (5 + 11 * wN y + 0)) (R (5 + 11 * wN x + 1)) (R (5 + 11 * wN x + 2)) (R (5 + 11 * wN y + 3)) (R (5 + 11 * wN y + 4)) (R (5 + 11 * wN y + 5)) (R (5 + 11 * wN y + 6)) (R (5 + 11 * wN y + 7)) (R (5 + 11 * wN y + 8)) 0 0)) (wN x) sc) (84 + 6 * (4 * v + (wN y)))) sc)), rs, vdR (vdR (wPut (wPut R (wN x) (l11 (R (5 + 11 * wN x + 0)) (R (5 + 11 * wN y + 1)) (R (5 + 11 * wN y + 2)) (R (5 + 11 * wN x + 3)) (R (5 + 11 * wN x + 4)) (R (5 + 11 * wN x + 5)) (R (5 + 11 * wN x + 6)) (R (5 + 11 * wN x + 7)) (R (5 + 11 * wN x + 8)) 0 0)) (wN y) (l11 (R (5 + 11 * wN y + 0)) (R (5 + 11 * wN x + 1)) (R (5 + 11 * wN x + 2)) (R (5 + 11 * wN y + 3)) (R (5 + 11 * wN y + 4)) (R (5 + 11 * wN y + 5)) (R (5 + 11 * wN y + 6)) (R (5 + 11 * wN y + 7)) (R (5 + 11 * wN y + 8)) 0 0)) (wN x) sc) (wN y) sc, (rmL ru lh), rmQ ru lh hq R))))))
set_option maxHeartbeats 4000000 in
set_option maxRecDepth 100000 in
theorem k_X7_swap (l : Launch) (g : Gf) (n : Nat) (c : Mp) (lh : Nat) (ru rs : Int32) (hP : c 0 = plC g (nI lh) ru rs) (R : Nat → Int32) (hB : Bk g c 1 R) (hk5 : lh ≤ 5) (hq : Nat → Nat → Int32) (hH : Hx g c hq) (hW : WB R) (x y : Int32) (sc : Nat) (sc : Nat) (hsc : R 4 = nI sc) (h5 : sc ≤ 5) : Ct l g yX7_swap wsX7_swap 4 85 0 0 [.ref (gz g + 0), .int x, .int y] n c (Qi g (fun xr n' c' => PA g c n ru (sq_X7_swap lh ru rs R hq x y sc) xr n' c')) := by
  refine ent (by decide) rfl (Nat.le_of_ble_eq_true rfl) ?_
  intro p e s m args below meth c0 F h ls hl
  have hx := F.1
  have hb := F.2.1
  have hl : lv_has ls 5 [(0, .ref (gz g + 0)), (1, .int x), (2, .int y)] := hl
  refine lv_iload_n hx hb dX7_swap_0 rfl (lv_at hl 1 rfl) ?_
  refine u_iE (v := (inI x 0 3)) (ru_S (As := [.int x]) (rest := []) F h (k_X7_isWire l g n c x) (gS hjl wd_274 wd_275 wd_16 wd_276) rfl 1 (by decide +kernel) rfl ⟨Nat.le_of_ble_eq_true rfl, Nat.le_of_ble_eq_true rfl⟩ rfl hl.1 (Nat.le_of_ble_eq_true rfl) ⟨Nat.zero_le _, Nat.zero_le _⟩ dX7_swap_1) h (fun H locs h => ?_)
  refine lv_if_eq (tgt := 14) hx hb dX7_swap_4 (by decide) (fun b_4 => ?_) (fun b_4 => ?_)
  · skip
    refine lv_ldc (v := (-100001)) hx hb F.2.2.2.1 (F.2.2.2.2.1 (Cond.constant RX7 42 (-100001)) (List.mem_cons_of_mem _ wd_280)) dX7_swap_14 ?_
    exact ret_i F h (Nat.zero_le _) (Nat.zero_le _) dX7_swap_16 (paE (show sq_X7_swap lh ru rs R hq x y sc = ((-100001), rs, R, lh, hq) by rw [sq_X7_swap, if_pos (c := (inI x 0 3) = 0) b_4]) (Nat.le_refl _) hP hB hH Fn.rfl')
  refine lv_iload_n hx hb dX7_swap_7 rfl (lv_at hl 2 rfl) ?_
  refine u_iE (v := (inI y 0 3)) (ru_S (As := [.int y]) (rest := []) F h (k_X7_isWire l g n c y) (gS hjl wd_274 wd_275 wd_16 wd_276) rfl 1 (by decide +kernel) rfl ⟨Nat.le_of_ble_eq_true rfl, Nat.le_of_ble_eq_true rfl⟩ rfl hl.1 (Nat.le_of_ble_eq_true rfl) ⟨Nat.zero_le _, Nat.zero_le _⟩ dX7_swap_8) h (fun H locs h => ?_)
  refine lv_if_ne (tgt := 17) hx hb dX7_swap_11 (by decide) (fun b_11 => ?_) (fun b_11 => ?_)
  · skip
    have h_x := inI_w (N := 3) (by decide) b_4
    have h4_x : wN x < 4 := h_x.1
    have hl : lv_has ls 5 [(0, .ref (gz g + 0)), (1, .int (nI (wN x))), (2, .int y)] := by rw [show (nI (wN x) : Int32) = x from h_x.2]; exact hl
    have h_y := inI_w (N := 3) (by decide) b_11
    have h4_y : wN y < 4 := h_y.1
    have hl : lv_has ls 5 [(0, .ref (gz g + 0)), (1, .int (nI (wN x))), (2, .int (nI (wN y)))] := by rw [show (nI (wN y) : Int32) = y from h_y.2]; exact hl
    refine lv_iload_n hx hb dX7_swap_17 rfl (lv_at hl 1 rfl) ?_
    refine lv_iload_n hx hb dX7_swap_18 rfl (lv_at hl 2 rfl) ?_
    refine lv_icmp_ne (tgt := 25) hx hb dX7_swap_19 (by decide) (fun b_19 => ?_) (fun b_19 => ?_)
    · skip
      have hxy : ¬ wN x = wN y := fun z => b_19 (by rw [z])
      refine lv_aload_n hx hb dX7_swap_25 rfl (lv_at hl 0 rfl) ?_
      refine lv_iload_n hx hb dX7_swap_26 rfl (lv_at hl 1 rfl) ?_
      refine u_iE (v := (R (5 + 11 * (wN x) + 0))) (ru_V (As := [.int (nI (wN x))]) (rest := []) F h hP rfl (k_X7_isHung l g n c lh ru rs hP R hB (wN x) (by omega) (hW.1 (wN x) (by omega))) (gV hjl wd_330 wd_332 wd_2 wd_16 wd_333) rfl 1 (by decide +kernel) rfl ⟨Nat.le_of_ble_eq_true rfl, Nat.le_of_ble_eq_true rfl⟩ rfl hl.1 (Nat.le_of_ble_eq_true rfl) ⟨Nat.zero_le _, Nat.zero_le _⟩ dX7_swap_27) h (fun H locs h => ?_)
      refine lv_if_eq (tgt := 41) hx hb dX7_swap_30 (by decide) (fun b_30 => ?_) (fun b_30 => ?_)
      · skip
        refine lv_aload_n hx hb dX7_swap_41 rfl (lv_at hl 0 rfl) ?_
        refine lv_iconst (v := 1) hx hb dX7_swap_42 (by decide) ?_
        refine u_iE (v := (-100003)) (ru_V (As := [.int 1]) (rest := []) F h hP rfl (k_X7_refuse l g n c lh ru rs hP R hB 1) (gV hjl wd_334 wd_336 wd_3 wd_16 wd_337) rfl 1 (by decide +kernel) rfl ⟨Nat.le_of_ble_eq_true rfl, Nat.le_of_ble_eq_true rfl⟩ rfl hl.1 (Nat.le_of_ble_eq_true rfl) ⟨Nat.zero_le _, Nat.zero_le _⟩ dX7_swap_43) h (fun H locs h => ?_)
        exact ret_i F h (Nat.zero_le _) (Nat.zero_le _) dX7_swap_46 (paE (show sq_X7_swap lh ru rs R hq x y sc = ((-100003), 1, R, lh, hq) by rw [sq_X7_swap, if_neg (c := (inI x 0 3) = 0) b_4, if_neg (c := (inI y 0 3) = 0) b_11, if_neg (c := nI (wN x) = nI (wN y)) b_19, if_pos (c := (R (5 + 11 * (wN x) + 0)) = 0) b_30]) (Nat.le_refl _) (mu_eq _ _ _) (hB.out (by omega)) (hH.up (by omega)) (Fn.rfl'.up (by omega)))
      refine lv_aload_n hx hb dX7_swap_33 rfl (lv_at hl 0 rfl) ?_
      refine lv_iload_n hx hb dX7_swap_34 rfl (lv_at hl 2 rfl) ?_
      refine u_iE (v := (R (5 + 11 * (wN y) + 0))) (ru_V (As := [.int (nI (wN y))]) (rest := []) F h hP rfl (k_X7_isHung l g n c lh ru rs hP R hB (wN y) (by omega) (hW.1 (wN y) (by omega))) (gV hjl wd_330 wd_332 wd_2 wd_16 wd_333) rfl 1 (by decide +kernel) rfl ⟨Nat.le_of_ble_eq_true rfl, Nat.le_of_ble_eq_true rfl⟩ rfl hl.1 (Nat.le_of_ble_eq_true rfl) ⟨Nat.zero_le _, Nat.zero_le _⟩ dX7_swap_35) h (fun H locs h => ?_)
      refine lv_if_ne (tgt := 47) hx hb dX7_swap_38 (by decide) (fun b_38 => ?_) (fun b_38 => ?_)
      · skip
        refine lv_aload_n hx hb dX7_swap_47 rfl (lv_at hl 0 rfl) ?_
        refine u_v (ru_V (As := []) (rest := []) F h hP rfl (k_X7_remember l g n c lh ru rs hP R hB hk5 hq hH hW) (gV hjl wd_282 wd_284 wd_0 wd_16 wd_285) rfl 0 (by decide +kernel) rfl ⟨Nat.le_of_ble_eq_true rfl, Nat.le_of_ble_eq_true rfl⟩ rfl hl.1 (Nat.le_of_ble_eq_true rfl) ⟨Nat.zero_le _, Nat.zero_le _⟩ dX7_swap_48) h (fun n1 cz1 H locs hp h => ?_)
        obtain ⟨hnz1, hPz1, hBz1, hHz1, hFz1⟩ := hp
        rw [hnz1] at h
        refine lv_aload_n hx hb dX7_swap_51 rfl (lv_at hl 0 rfl) ?_
        refine r_get F h (C := RX7) (T := TX7) (N := 8) (hjc hi_X7) rfl hPz1 0 (by decide) (List.mem_cons_of_mem _ wd_245) rfl dX7_swap_52 ?_
        refine r_get F h (C := RX4) (T := TX4) (N := 8) (hjc hi_X4) rfl hBz1.1 0 (by decide) (List.mem_cons_of_mem _ wd_186) rfl dX7_swap_55 ?_
        refine lv_iload_n hx hb dX7_swap_58 rfl (lv_at hl 1 rfl) ?_
        refine r_aald F h (C := RX6) hBz1.2.1.1 (t0 := 4) rfl (vp_in_nI (show wN x < 4 by omega) (by decide)) (a := gz g + (1 + 2 + wN x)) (qs_at (fun k => some (gz g + (1 + 2 + k))) (by omega)) dX7_swap_59 ?_
        refine lv_astore_n (lv' := [(3, .ref (gz g + (1 + 2 + wN x))), (0, .ref (gz g + 0)), (1, .int (nI (wN x))), (2, .int (nI (wN y)))]) hx hb dX7_swap_60 rfl hl (by decide) rfl (fun ls hl => ?_)
        refine lv_aload_n hx hb dX7_swap_61 rfl (lv_at hl 1 rfl) ?_
        refine r_get F h (C := RX7) (T := TX7) (N := 8) (hjc hi_X7) rfl hPz1 0 (by decide) (List.mem_cons_of_mem _ wd_245) rfl dX7_swap_62 ?_
        refine r_get F h (C := RX4) (T := TX4) (N := 8) (hjc hi_X4) rfl hBz1.1 0 (by decide) (List.mem_cons_of_mem _ wd_186) rfl dX7_swap_65 ?_
        refine lv_iload_n hx hb dX7_swap_68 rfl (lv_at hl 3 rfl) ?_
        refine r_aald F h (C := RX6) hBz1.2.1.1 (t0 := 4) rfl (vp_in_nI (show wN y < 4 by omega) (by decide)) (a := gz g + (1 + 2 + wN y)) (qs_at (fun k => some (gz g + (1 + 2 + k))) (by omega)) dX7_swap_69 ?_
        refine lv_astore (lv' := [(4, .ref (gz g + (1 + 2 + wN y))), (3, .ref (gz g + (1 + 2 + wN x))), (0, .ref (gz g + 0)), (1, .int (nI (wN x))), (2, .int (nI (wN y)))]) hx hb dX7_swap_70 hl (by decide) rfl (fun ls hl => ?_)
        refine lv_aload_n hx hb dX7_swap_72 rfl (lv_at hl 1 rfl) ?_
        refine lv_aload hx hb dX7_swap_73 (lv_at hl 0 rfl) ?_
        refine u_vE (ru_V (As := [.ref (gz g + (1 + 2 + wN y))]) (rest := []) F h (hBz1.2.1.2 (wN x) (by omega)) rfl (k_X6_tradePlaces l g n cz1 (1 + 2 + wN x) (l11 (R (5 + 11 * wN x + 0)) (R (5 + 11 * wN x + 1)) (R (5 + 11 * wN x + 2)) (R (5 + 11 * wN x + 3)) (R (5 + 11 * wN x + 4)) (R (5 + 11 * wN x + 5)) (R (5 + 11 * wN x + 6)) (R (5 + 11 * wN x + 7)) (R (5 + 11 * wN x + 8)) (R (5 + 11 * wN x + 9)) (R (5 + 11 * wN x + 10))) (hBz1.2.1.2 (wN x) (by omega)) (1 + 2 + wN y) (l11 (R (5 + 11 * wN y + 0)) (R (5 + 11 * wN y + 1)) (R (5 + 11 * wN y + 2)) (R (5 + 11 * wN y + 3)) (R (5 + 11 * wN y + 4)) (R (5 + 11 * wN y + 5)) (R (5 + 11 * wN y + 6)) (R (5 + 11 * wN y + 7)) (R (5 + 11 * wN y + 8)) (R (5 + 11 * wN y + 9)) (R (5 + 11 * wN y + 10))) (hBz1.2.1.2 (wN y) (by omega)) (by omega)) (gV hjl wd_680 wd_681 wd_682 wd_18 wd_683) rfl 1 (by decide +kernel) rfl ⟨Nat.le_of_ble_eq_true rfl, Nat.le_of_ble_eq_true rfl⟩ rfl hl.1 (Nat.le_of_ble_eq_true rfl) ⟨Nat.zero_le _, Nat.zero_le _⟩ dX7_swap_75) h (fun H locs h => ?_)
        refine lv_aload_n hx hb dX7_swap_78 rfl (lv_at hl 1 rfl) ?_
        refine lv_iconst (v := 0) hx hb dX7_swap_79 (by decide) ?_
        refine u_vE (ru_V (As := [.int 0]) (rest := []) F h ((mu_ne (by omega) _).trans (mu_eq _ _ _)) rfl (k_X6_startSway l g n (va_up (va_up cz1 (1 + 2 + wN x) (some (.inr (6, [.int (R (5 + 11 * wN x + 0)), .int (R (5 + 11 * wN y + 1)), .int (R (5 + 11 * wN y + 2)), .int (R (5 + 11 * wN x + 3)), .int (R (5 + 11 * wN x + 4)), .int (qdI (R (5 + 11 * wN x + 4))), .int (R (5 + 11 * wN x + 5)), .int (R (5 + 11 * wN x + 6)), .int (R (5 + 11 * wN x + 7)), .int (R (5 + 11 * wN x + 8)), .int (R (5 + 11 * wN x + 9)), .int (R (5 + 11 * wN x + 10))])))) (1 + 2 + wN y) (some (.inr (6, [.int (R (5 + 11 * wN y + 0)), .int (R (5 + 11 * wN x + 1)), .int (R (5 + 11 * wN x + 2)), .int (R (5 + 11 * wN y + 3)), .int (R (5 + 11 * wN y + 4)), .int (qdI (R (5 + 11 * wN y + 4))), .int (R (5 + 11 * wN y + 5)), .int (R (5 + 11 * wN y + 6)), .int (R (5 + 11 * wN y + 7)), .int (R (5 + 11 * wN y + 8)), .int (R (5 + 11 * wN y + 9)), .int (R (5 + 11 * wN y + 10))])))) (1 + 2 + wN x) (l11 (R (5 + 11 * wN x + 0)) (R (5 + 11 * wN y + 1)) (R (5 + 11 * wN y + 2)) (R (5 + 11 * wN x + 3)) (R (5 + 11 * wN x + 4)) (R (5 + 11 * wN x + 5)) (R (5 + 11 * wN x + 6)) (R (5 + 11 * wN x + 7)) (R (5 + 11 * wN x + 8)) (R (5 + 11 * wN x + 9)) (R (5 + 11 * wN x + 10))) ((mu_ne (by omega) _).trans (mu_eq _ _ _)) 0) (gV hjl wd_354 wd_315 wd_316 wd_18 wd_317) rfl 1 (by decide +kernel) rfl ⟨Nat.le_of_ble_eq_true rfl, Nat.le_of_ble_eq_true rfl⟩ rfl hl.1 (Nat.le_of_ble_eq_true rfl) ⟨Nat.zero_le _, Nat.zero_le _⟩ dX7_swap_80) h (fun H locs h => ?_)
        refine r_mem (c1 := (va_up (va_up cz1 (1 + 2 + wN x) (some (.inr (6, [.int (R (5 + 11 * wN x + 0)), .int (R (5 + 11 * wN y + 1)), .int (R (5 + 11 * wN y + 2)), .int (R (5 + 11 * wN x + 3)), .int (R (5 + 11 * wN x + 4)), .int (qdI (R (5 + 11 * wN x + 4))), .int (R (5 + 11 * wN x + 5)), .int (R (5 + 11 * wN x + 6)), .int (R (5 + 11 * wN x + 7)), .int (R (5 + 11 * wN x + 8)), .int 0, .int 0])))) (1 + 2 + wN y) (some (.inr (6, [.int (R (5 + 11 * wN y + 0)), .int (R (5 + 11 * wN x + 1)), .int (R (5 + 11 * wN x + 2)), .int (R (5 + 11 * wN y + 3)), .int (R (5 + 11 * wN y + 4)), .int (qdI (R (5 + 11 * wN y + 4))), .int (R (5 + 11 * wN y + 5)), .int (R (5 + 11 * wN y + 6)), .int (R (5 + 11 * wN y + 7)), .int (R (5 + 11 * wN y + 8)), .int (R (5 + 11 * wN y + 9)), .int (R (5 + 11 * wN y + 10))]))))) h ((mu_comm (by omega) _ _).trans (congrArg (fun z : Mp => va_up z (1 + 2 + wN y) _) (mu_uu _ _ _ _))) (fun h => ?_)
        refine lv_aload hx hb dX7_swap_83 (lv_at hl 0 rfl) ?_
        refine lv_iconst (v := 0) hx hb dX7_swap_85 (by decide) ?_
        refine u_vE (ru_V (As := [.int 0]) (rest := []) F h (mu_eq _ _ _) rfl (k_X6_startSway l g n (va_up (va_up cz1 (1 + 2 + wN x) (some (.inr (6, [.int (R (5 + 11 * wN x + 0)), .int (R (5 + 11 * wN y + 1)), .int (R (5 + 11 * wN y + 2)), .int (R (5 + 11 * wN x + 3)), .int (R (5 + 11 * wN x + 4)), .int (qdI (R (5 + 11 * wN x + 4))), .int (R (5 + 11 * wN x + 5)), .int (R (5 + 11 * wN x + 6)), .int (R (5 + 11 * wN x + 7)), .int (R (5 + 11 * wN x + 8)), .int 0, .int 0])))) (1 + 2 + wN y) (some (.inr (6, [.int (R (5 + 11 * wN y + 0)), .int (R (5 + 11 * wN x + 1)), .int (R (5 + 11 * wN x + 2)), .int (R (5 + 11 * wN y + 3)), .int (R (5 + 11 * wN y + 4)), .int (qdI (R (5 + 11 * wN y + 4))), .int (R (5 + 11 * wN y + 5)), .int (R (5 + 11 * wN y + 6)), .int (R (5 + 11 * wN y + 7)), .int (R (5 + 11 * wN y + 8)), .int (R (5 + 11 * wN y + 9)), .int (R (5 + 11 * wN y + 10))])))) (1 + 2 + wN y) (l11 (R (5 + 11 * wN y + 0)) (R (5 + 11 * wN x + 1)) (R (5 + 11 * wN x + 2)) (R (5 + 11 * wN y + 3)) (R (5 + 11 * wN y + 4)) (R (5 + 11 * wN y + 5)) (R (5 + 11 * wN y + 6)) (R (5 + 11 * wN y + 7)) (R (5 + 11 * wN y + 8)) (R (5 + 11 * wN y + 9)) (R (5 + 11 * wN y + 10))) (mu_eq _ _ _) 0) (gV hjl wd_354 wd_315 wd_316 wd_18 wd_317) rfl 1 (by decide +kernel) rfl ⟨Nat.le_of_ble_eq_true rfl, Nat.le_of_ble_eq_true rfl⟩ rfl hl.1 (Nat.le_of_ble_eq_true rfl) ⟨Nat.zero_le _, Nat.zero_le _⟩ dX7_swap_86) h (fun H locs h => ?_)
        refine r_mem (c1 := (va_up (va_up cz1 (1 + 2 + wN x) (some (.inr (6, [.int (R (5 + 11 * wN x + 0)), .int (R (5 + 11 * wN y + 1)), .int (R (5 + 11 * wN y + 2)), .int (R (5 + 11 * wN x + 3)), .int (R (5 + 11 * wN x + 4)), .int (qdI (R (5 + 11 * wN x + 4))), .int (R (5 + 11 * wN x + 5)), .int (R (5 + 11 * wN x + 6)), .int (R (5 + 11 * wN x + 7)), .int (R (5 + 11 * wN x + 8)), .int 0, .int 0])))) (1 + 2 + wN y) (some (.inr (6, [.int (R (5 + 11 * wN y + 0)), .int (R (5 + 11 * wN x + 1)), .int (R (5 + 11 * wN x + 2)), .int (R (5 + 11 * wN y + 3)), .int (R (5 + 11 * wN y + 4)), .int (qdI (R (5 + 11 * wN y + 4))), .int (R (5 + 11 * wN y + 5)), .int (R (5 + 11 * wN y + 6)), .int (R (5 + 11 * wN y + 7)), .int (R (5 + 11 * wN y + 8)), .int 0, .int 0]))))) h (mu_uu _ _ _ _) (fun h => ?_)
        refine lv_aload_n hx hb dX7_swap_89 rfl (lv_at hl 2 rfl) ?_
        refine r_get F h (C := RX7) (T := TX7) (N := 8) (hjc hi_X7) rfl ((mu_ne (by omega) _).trans ((mu_ne (by omega) _).trans hPz1)) 0 (by decide) (List.mem_cons_of_mem _ wd_245) rfl dX7_swap_90 ?_
        refine lv_iload_n hx hb dX7_swap_93 rfl (lv_at hl 3 rfl) ?_
        refine u_i (ru_V (As := [.int (nI (wN x))]) (rest := []) F h ((mu_ne (by omega) _).trans ((mu_ne (by omega) _).trans hBz1.1)) rfl (k_X4_voidWire l g n (va_up (va_up cz1 (1 + 2 + wN x) (some (.inr (6, [.int (R (5 + 11 * wN x + 0)), .int (R (5 + 11 * wN y + 1)), .int (R (5 + 11 * wN y + 2)), .int (R (5 + 11 * wN x + 3)), .int (R (5 + 11 * wN x + 4)), .int (qdI (R (5 + 11 * wN x + 4))), .int (R (5 + 11 * wN x + 5)), .int (R (5 + 11 * wN x + 6)), .int (R (5 + 11 * wN x + 7)), .int (R (5 + 11 * wN x + 8)), .int 0, .int 0])))) (1 + 2 + wN y) (some (.inr (6, [.int (R (5 + 11 * wN y + 0)), .int (R (5 + 11 * wN x + 1)), .int (R (5 + 11 * wN x + 2)), .int (R (5 + 11 * wN y + 3)), .int (R (5 + 11 * wN y + 4)), .int (qdI (R (5 + 11 * wN y + 4))), .int (R (5 + 11 * wN y + 5)), .int (R (5 + 11 * wN y + 6)), .int (R (5 + 11 * wN y + 7)), .int (R (5 + 11 * wN y + 8)), .int 0, .int 0])))) 1 (wPut (wPut R (wN x) (l11 (R (5 + 11 * wN x + 0)) (R (5 + 11 * wN y + 1)) (R (5 + 11 * wN y + 2)) (R (5 + 11 * wN x + 3)) (R (5 + 11 * wN x + 4)) (R (5 + 11 * wN x + 5)) (R (5 + 11 * wN x + 6)) (R (5 + 11 * wN x + 7)) (R (5 + 11 * wN x + 8)) 0 0)) (wN y) (l11 (R (5 + 11 * wN y + 0)) (R (5 + 11 * wN x + 1)) (R (5 + 11 * wN x + 2)) (R (5 + 11 * wN y + 3)) (R (5 + 11 * wN y + 4)) (R (5 + 11 * wN y + 5)) (R (5 + 11 * wN y + 6)) (R (5 + 11 * wN y + 7)) (R (5 + 11 * wN y + 8)) 0 0)) ((hBz1.wireP (w := wN x) (by omega) (l11 (R (5 + 11 * wN x + 0)) (R (5 + 11 * wN y + 1)) (R (5 + 11 * wN y + 2)) (R (5 + 11 * wN x + 3)) (R (5 + 11 * wN x + 4)) (R (5 + 11 * wN x + 5)) (R (5 + 11 * wN x + 6)) (R (5 + 11 * wN x + 7)) (R (5 + 11 * wN x + 8)) 0 0)).wireP (w := wN y) (by omega) (l11 (R (5 + 11 * wN y + 0)) (R (5 + 11 * wN x + 1)) (R (5 + 11 * wN x + 2)) (R (5 + 11 * wN y + 3)) (R (5 + 11 * wN y + 4)) (R (5 + 11 * wN y + 5)) (R (5 + 11 * wN y + 6)) (R (5 + 11 * wN y + 7)) (R (5 + 11 * wN y + 8)) 0 0)) sc (by simp only [wPut_4, cPut_4, vdR_4, upd_34, hsc]) h5 (wN x) (by omega)) (gV hjl wd_318 wd_319 wd_320 wd_17 wd_321) rfl 1 (by decide +kernel) rfl ⟨Nat.le_of_ble_eq_true rfl, Nat.le_of_ble_eq_true rfl⟩ rfl hl.1 (Nat.le_of_ble_eq_true rfl) ⟨Nat.zero_le _, Nat.zero_le _⟩ dX7_swap_94) h (fun rz2 n1 cz2 H locs hp h => ?_)
        obtain ⟨hrz2, hnz2, hBz2, hFz2⟩ := hp
        rw [hnz2] at h
        rw [hrz2]
        refine lv_aload_n hx hb dX7_swap_97 rfl (lv_at hl 2 rfl) ?_
        refine r_get F h (C := RX7) (T := TX7) (N := 8) (hjc hi_X7) rfl ((hFz2 _ (by omega)).trans ((mu_ne (by omega) _).trans ((mu_ne (by omega) _).trans hPz1))) 0 (by decide) (List.mem_cons_of_mem _ wd_245) rfl dX7_swap_98 ?_
        refine lv_iload_n hx hb dX7_swap_101 rfl (lv_at hl 4 rfl) ?_
        refine u_i (ru_V (As := [.int (nI (wN y))]) (rest := [.int (ctI (fun v => (wPut (wPut R (wN x) (l11 (R (5 + 11 * wN x + 0)) (R (5 + 11 * wN y + 1)) (R (5 + 11 * wN y + 2)) (R (5 + 11 * wN x + 3)) (R (5 + 11 * wN x + 4)) (R (5 + 11 * wN x + 5)) (R (5 + 11 * wN x + 6)) (R (5 + 11 * wN x + 7)) (R (5 + 11 * wN x + 8)) 0 0)) (wN y) (l11 (R (5 + 11 * wN y + 0)) (R (5 + 11 * wN x + 1)) (R (5 + 11 * wN x + 2)) (R (5 + 11 * wN y + 3)) (R (5 + 11 * wN y + 4)) (R (5 + 11 * wN y + 5)) (R (5 + 11 * wN y + 6)) (R (5 + 11 * wN y + 7)) (R (5 + 11 * wN y + 8)) 0 0)) (84 + 6 * (4 * v + (wN x)))) sc)]) F h hBz2.1 rfl (k_X4_voidWire l g n cz2 1 (vdR (wPut (wPut R (wN x) (l11 (R (5 + 11 * wN x + 0)) (R (5 + 11 * wN y + 1)) (R (5 + 11 * wN y + 2)) (R (5 + 11 * wN x + 3)) (R (5 + 11 * wN x + 4)) (R (5 + 11 * wN x + 5)) (R (5 + 11 * wN x + 6)) (R (5 + 11 * wN x + 7)) (R (5 + 11 * wN x + 8)) 0 0)) (wN y) (l11 (R (5 + 11 * wN y + 0)) (R (5 + 11 * wN x + 1)) (R (5 + 11 * wN x + 2)) (R (5 + 11 * wN y + 3)) (R (5 + 11 * wN y + 4)) (R (5 + 11 * wN y + 5)) (R (5 + 11 * wN y + 6)) (R (5 + 11 * wN y + 7)) (R (5 + 11 * wN y + 8)) 0 0)) (wN x) sc) hBz2 sc (by simp only [wPut_4, cPut_4, vdR_4, upd_34, hsc]) h5 (wN y) (by omega)) (gV hjl wd_318 wd_319 wd_320 wd_17 wd_321) rfl 1 (by decide +kernel) rfl ⟨Nat.le_of_ble_eq_true rfl, Nat.le_of_ble_eq_true rfl⟩ rfl hl.1 (Nat.le_of_ble_eq_true rfl) ⟨Nat.zero_le _, Nat.zero_le _⟩ dX7_swap_102) h (fun rz3 n1 cz3 H locs hp h => ?_)
        obtain ⟨hrz3, hnz3, hBz3, hFz3⟩ := hp
        rw [hnz3] at h
        rw [hrz3]
        refine lv_iadd hx hb dX7_swap_105 ?_
        exact ret_i F h (Nat.zero_le _) (Nat.zero_le _) dX7_swap_106 (paE (show sq_X7_swap lh ru rs R hq x y sc = (((ctI (fun v => (wPut (wPut R (wN x) (l11 (R (5 + 11 * wN x + 0)) (R (5 + 11 * wN y + 1)) (R (5 + 11 * wN y + 2)) (R (5 + 11 * wN x + 3)) (R (5 + 11 * wN x + 4)) (R (5 + 11 * wN x + 5)) (R (5 + 11 * wN x + 6)) (R (5 + 11 * wN x + 7)) (R (5 + 11 * wN x + 8)) 0 0)) (wN y) (l11 (R (5 + 11 * wN y + 0)) (R (5 + 11 * wN x + 1)) (R (5 + 11 * wN x + 2)) (R (5 + 11 * wN y + 3)) (R (5 + 11 * wN y + 4)) (R (5 + 11 * wN y + 5)) (R (5 + 11 * wN y + 6)) (R (5 + 11 * wN y + 7)) (R (5 + 11 * wN y + 8)) 0 0)) (84 + 6 * (4 * v + (wN x)))) sc) + (ctI (fun v => (vdR (wPut (wPut R (wN x) (l11 (R (5 + 11 * wN x + 0)) (R (5 + 11 * wN y + 1)) (R (5 + 11 * wN y + 2)) (R (5 + 11 * wN x + 3)) (R (5 + 11 * wN x + 4)) (R (5 + 11 * wN x + 5)) (R (5 + 11 * wN x + 6)) (R (5 + 11 * wN x + 7)) (R (5 + 11 * wN x + 8)) 0 0)) (wN y) (l11 (R (5 + 11 * wN y + 0)) (R (5 + 11 * wN x + 1)) (R (5 + 11 * wN x + 2)) (R (5 + 11 * wN y + 3)) (R (5 + 11 * wN y + 4)) (R (5 + 11 * wN y + 5)) (R (5 + 11 * wN y + 6)) (R (5 + 11 * wN y + 7)) (R (5 + 11 * wN y + 8)) 0 0)) (wN x) sc) (84 + 6 * (4 * v + (wN y)))) sc)), rs, vdR (vdR (wPut (wPut R (wN x) (l11 (R (5 + 11 * wN x + 0)) (R (5 + 11 * wN y + 1)) (R (5 + 11 * wN y + 2)) (R (5 + 11 * wN x + 3)) (R (5 + 11 * wN x + 4)) (R (5 + 11 * wN x + 5)) (R (5 + 11 * wN x + 6)) (R (5 + 11 * wN x + 7)) (R (5 + 11 * wN x + 8)) 0 0)) (wN y) (l11 (R (5 + 11 * wN y + 0)) (R (5 + 11 * wN x + 1)) (R (5 + 11 * wN x + 2)) (R (5 + 11 * wN y + 3)) (R (5 + 11 * wN y + 4)) (R (5 + 11 * wN y + 5)) (R (5 + 11 * wN y + 6)) (R (5 + 11 * wN y + 7)) (R (5 + 11 * wN y + 8)) 0 0)) (wN x) sc) (wN y) sc, (rmL ru lh), rmQ ru lh hq R) by rw [sq_X7_swap, if_neg (c := (inI x 0 3) = 0) b_4, if_neg (c := (inI y 0 3) = 0) b_11, if_neg (c := nI (wN x) = nI (wN y)) b_19, if_neg (c := (R (5 + 11 * (wN x) + 0)) = 0) b_30, if_neg (c := (R (5 + 11 * (wN y) + 0)) = 0) b_38]) (Nat.le_refl _) ((hFz3 _ (by omega)).trans ((hFz2 _ (by omega)).trans ((mu_ne (by omega) _).trans ((mu_ne (by omega) _).trans hPz1)))) hBz3 ((((hHz1.up (by omega)).up (by omega)).fr hFz2 (by decide)).fr hFz3 (by decide)) (((((Fn.rfl'.fr hFz1 (by decide)).up (by omega)).up (by omega)).fr hFz2 (by decide)).fr hFz3 (by decide)))
      refine lv_aload_n hx hb dX7_swap_41 rfl (lv_at hl 0 rfl) ?_
      refine lv_iconst (v := 1) hx hb dX7_swap_42 (by decide) ?_
      refine u_iE (v := (-100003)) (ru_V (As := [.int 1]) (rest := []) F h hP rfl (k_X7_refuse l g n c lh ru rs hP R hB 1) (gV hjl wd_334 wd_336 wd_3 wd_16 wd_337) rfl 1 (by decide +kernel) rfl ⟨Nat.le_of_ble_eq_true rfl, Nat.le_of_ble_eq_true rfl⟩ rfl hl.1 (Nat.le_of_ble_eq_true rfl) ⟨Nat.zero_le _, Nat.zero_le _⟩ dX7_swap_43) h (fun H locs h => ?_)
      exact ret_i F h (Nat.zero_le _) (Nat.zero_le _) dX7_swap_46 (paE (show sq_X7_swap lh ru rs R hq x y sc = ((-100003), 1, R, lh, hq) by rw [sq_X7_swap, if_neg (c := (inI x 0 3) = 0) b_4, if_neg (c := (inI y 0 3) = 0) b_11, if_neg (c := nI (wN x) = nI (wN y)) b_19, if_neg (c := (R (5 + 11 * (wN x) + 0)) = 0) b_30, if_pos (c := (R (5 + 11 * (wN y) + 0)) = 0) b_38]) (Nat.le_refl _) (mu_eq _ _ _) (hB.out (by omega)) (hH.up (by omega)) (Fn.rfl'.up (by omega)))
    refine lv_ldc (v := (-100002)) hx hb F.2.2.2.1 (F.2.2.2.2.1 (Cond.constant RX7 47 (-100002)) (List.mem_cons_of_mem _ wd_281)) dX7_swap_22 ?_
    exact ret_i F h (Nat.zero_le _) (Nat.zero_le _) dX7_swap_24 (paE (show sq_X7_swap lh ru rs R hq x y sc = ((-100002), rs, R, lh, hq) by rw [sq_X7_swap, if_neg (c := (inI x 0 3) = 0) b_4, if_neg (c := (inI y 0 3) = 0) b_11, if_pos (c := nI (wN x) = nI (wN y)) b_19]) (Nat.le_refl _) hP hB hH Fn.rfl')
  refine lv_ldc (v := (-100001)) hx hb F.2.2.2.1 (F.2.2.2.2.1 (Cond.constant RX7 42 (-100001)) (List.mem_cons_of_mem _ wd_280)) dX7_swap_14 ?_
  exact ret_i F h (Nat.zero_le _) (Nat.zero_le _) dX7_swap_16 (paE (show sq_X7_swap lh ru rs R hq x y sc = ((-100001), rs, R, lh, hq) by rw [sq_X7_swap, if_neg (c := (inI x 0 3) = 0) b_4, if_pos (c := (inI y 0 3) = 0) b_11]) (Nat.le_refl _) hP hB hH Fn.rfl')
def sq_X7_addCurrent (lh : Nat) (ru rs : Int32) (R : Nat → Int32) (hq : Nat → Nat → Int32) (x y fx fy : Int32) (sc cn : Nat) : ClT := if (inI x 0 799) = 0 then (((-100002), rs, R, lh, hq)) else (if (inI y (x + 1) 800) = 0 then (((-100002), rs, R, lh, hq)) else (if (inI fx (-50) 50) = 0 then (((-100002), rs, R, lh, hq)) else (if (inI fy (-50) 50) = 0 then (((-100002), rs, R, lh, hq)) else (if R 3 < 5 then ((vaR (cPut (upd R 3 (R 3 + 1)) cn (l4 x y fx fy)) sc 4 3, rs, vaR (cPut (upd R 3 (R 3 + 1)) cn (l4 x y fx fy)) sc 4, (rmL ru lh), rmQ ru lh hq R)) else (((-100004), rs, R, lh, hq))))))
set_option maxHeartbeats 4000000 in
set_option maxRecDepth 100000 in
theorem k_X7_addCurrent (l : Launch) (g : Gf) (n : Nat) (c : Mp) (lh : Nat) (ru rs : Int32) (hP : c 0 = plC g (nI lh) ru rs) (R : Nat → Int32) (hB : Bk g c 1 R) (hk5 : lh ≤ 5) (hq : Nat → Nat → Int32) (hH : Hx g c hq) (hW : WB R) (x y fx fy : Int32) (sc cn : Nat) (hsc : R 4 = nI sc) (h5 : sc ≤ 5) (hcn : R 3 = nI cn) (h5c : cn ≤ 5) : Ct l g yX7_addCurrent wsX7_addCurrent 4 85 0 0 [.ref (gz g + 0), .int x, .int y, .int fx, .int fy] n c (Qi g (fun xr n' c' => PA g c n ru (sq_X7_addCurrent lh ru rs R hq x y fx fy sc cn) xr n' c')) := by
  refine ent (by decide) rfl (Nat.le_of_ble_eq_true rfl) ?_
  intro p e s m args below meth c0 F h ls hl
  have hx := F.1
  have hb := F.2.1
  have hl : lv_has ls 5 [(0, .ref (gz g + 0)), (1, .int x), (2, .int y), (3, .int fx), (4, .int fy)] := hl
  refine lv_iload_n hx hb dX7_addCurrent_0 rfl (lv_at hl 1 rfl) ?_
  refine lv_iconst (v := 0) hx hb dX7_addCurrent_1 (by decide) ?_
  refine lv_sipush (v := 799) hx hb dX7_addCurrent_2 (by decide) ?_
  refine u_iE (v := (inI x 0 799)) (ru_S (As := [.int x, .int 0, .int 799]) (rest := []) F h (k_X7_isWithin l g n c x 0 799) (gS hjl wd_277 wd_278 wd_16 wd_279) rfl 3 (by decide +kernel) rfl ⟨Nat.le_of_ble_eq_true rfl, Nat.le_of_ble_eq_true rfl⟩ rfl hl.1 (Nat.le_of_ble_eq_true rfl) ⟨Nat.zero_le _, Nat.zero_le _⟩ dX7_addCurrent_5) h (fun H locs h => ?_)
  refine lv_if_eq (tgt := 47) hx hb dX7_addCurrent_8 (by decide) (fun b_8 => ?_) (fun b_8 => ?_)
  · skip
    refine lv_ldc (v := (-100002)) hx hb F.2.2.2.1 (F.2.2.2.2.1 (Cond.constant RX7 47 (-100002)) (List.mem_cons_of_mem _ wd_281)) dX7_addCurrent_47 ?_
    exact ret_i F h (Nat.zero_le _) (Nat.zero_le _) dX7_addCurrent_49 (paE (show sq_X7_addCurrent lh ru rs R hq x y fx fy sc cn = ((-100002), rs, R, lh, hq) by rw [sq_X7_addCurrent, if_pos (c := (inI x 0 799) = 0) b_8]) (Nat.le_refl _) hP hB hH Fn.rfl')
  refine lv_iload_n hx hb dX7_addCurrent_11 rfl (lv_at hl 2 rfl) ?_
  refine lv_iload_n hx hb dX7_addCurrent_12 rfl (lv_at hl 1 rfl) ?_
  refine lv_iconst (v := 1) hx hb dX7_addCurrent_13 (by decide) ?_
  refine lv_iadd hx hb dX7_addCurrent_14 ?_
  refine lv_sipush (v := 800) hx hb dX7_addCurrent_15 (by decide) ?_
  refine u_iE (v := (inI y (x + 1) 800)) (ru_S (As := [.int y, .int (x + 1), .int 800]) (rest := []) F h (k_X7_isWithin l g n c y (x + 1) 800) (gS hjl wd_277 wd_278 wd_16 wd_279) rfl 3 (by decide +kernel) rfl ⟨Nat.le_of_ble_eq_true rfl, Nat.le_of_ble_eq_true rfl⟩ rfl hl.1 (Nat.le_of_ble_eq_true rfl) ⟨Nat.zero_le _, Nat.zero_le _⟩ dX7_addCurrent_18) h (fun H locs h => ?_)
  refine lv_if_eq (tgt := 47) hx hb dX7_addCurrent_21 (by decide) (fun b_21 => ?_) (fun b_21 => ?_)
  · skip
    refine lv_ldc (v := (-100002)) hx hb F.2.2.2.1 (F.2.2.2.2.1 (Cond.constant RX7 47 (-100002)) (List.mem_cons_of_mem _ wd_281)) dX7_addCurrent_47 ?_
    exact ret_i F h (Nat.zero_le _) (Nat.zero_le _) dX7_addCurrent_49 (paE (show sq_X7_addCurrent lh ru rs R hq x y fx fy sc cn = ((-100002), rs, R, lh, hq) by rw [sq_X7_addCurrent, if_neg (c := (inI x 0 799) = 0) b_8, if_pos (c := (inI y (x + 1) 800) = 0) b_21]) (Nat.le_refl _) hP hB hH Fn.rfl')
  refine lv_iload_n hx hb dX7_addCurrent_24 rfl (lv_at hl 3 rfl) ?_
  refine lv_bipush (v := (-50)) hx hb dX7_addCurrent_25 (by decide) ?_
  refine lv_bipush (v := 50) hx hb dX7_addCurrent_27 (by decide) ?_
  refine u_iE (v := (inI fx (-50) 50)) (ru_S (As := [.int fx, .int (-50), .int 50]) (rest := []) F h (k_X7_isWithin l g n c fx (-50) 50) (gS hjl wd_277 wd_278 wd_16 wd_279) rfl 3 (by decide +kernel) rfl ⟨Nat.le_of_ble_eq_true rfl, Nat.le_of_ble_eq_true rfl⟩ rfl hl.1 (Nat.le_of_ble_eq_true rfl) ⟨Nat.zero_le _, Nat.zero_le _⟩ dX7_addCurrent_29) h (fun H locs h => ?_)
  refine lv_if_eq (tgt := 47) hx hb dX7_addCurrent_32 (by decide) (fun b_32 => ?_) (fun b_32 => ?_)
  · skip
    refine lv_ldc (v := (-100002)) hx hb F.2.2.2.1 (F.2.2.2.2.1 (Cond.constant RX7 47 (-100002)) (List.mem_cons_of_mem _ wd_281)) dX7_addCurrent_47 ?_
    exact ret_i F h (Nat.zero_le _) (Nat.zero_le _) dX7_addCurrent_49 (paE (show sq_X7_addCurrent lh ru rs R hq x y fx fy sc cn = ((-100002), rs, R, lh, hq) by rw [sq_X7_addCurrent, if_neg (c := (inI x 0 799) = 0) b_8, if_neg (c := (inI y (x + 1) 800) = 0) b_21, if_pos (c := (inI fx (-50) 50) = 0) b_32]) (Nat.le_refl _) hP hB hH Fn.rfl')
  refine lv_iload hx hb dX7_addCurrent_35 (lv_at hl 4 rfl) ?_
  refine lv_bipush (v := (-50)) hx hb dX7_addCurrent_37 (by decide) ?_
  refine lv_bipush (v := 50) hx hb dX7_addCurrent_39 (by decide) ?_
  refine u_iE (v := (inI fy (-50) 50)) (ru_S (As := [.int fy, .int (-50), .int 50]) (rest := []) F h (k_X7_isWithin l g n c fy (-50) 50) (gS hjl wd_277 wd_278 wd_16 wd_279) rfl 3 (by decide +kernel) rfl ⟨Nat.le_of_ble_eq_true rfl, Nat.le_of_ble_eq_true rfl⟩ rfl hl.1 (Nat.le_of_ble_eq_true rfl) ⟨Nat.zero_le _, Nat.zero_le _⟩ dX7_addCurrent_41) h (fun H locs h => ?_)
  refine lv_if_ne (tgt := 50) hx hb dX7_addCurrent_44 (by decide) (fun b_44 => ?_) (fun b_44 => ?_)
  · skip
    refine lv_aload_n hx hb dX7_addCurrent_50 rfl (lv_at hl 0 rfl) ?_
    refine r_get F h (C := RX7) (T := TX7) (N := 8) (hjc hi_X7) rfl hP 0 (by decide) (List.mem_cons_of_mem _ wd_245) rfl dX7_addCurrent_51 ?_
    refine r_get F h (C := RX4) (T := TX4) (N := 8) (hjc hi_X4) rfl hB.1 2 (by decide) (List.mem_cons_of_mem _ wd_190) rfl dX7_addCurrent_54 ?_
    refine lv_iconst (v := 5) hx hb dX7_addCurrent_57 (by decide) ?_
    refine lv_icmp_lt (tgt := 64) hx hb dX7_addCurrent_58 (by decide) (fun b_58 => ?_) (fun b_58 => ?_)
    · skip
      have hcn5 : cn < 5 := by rcases Nat.lt_or_ge cn 5 with q | q; exact q; exact absurd (show nI cn < nI 5 by rw [← hcn]; exact b_58) (nI_nlt q (by omega))
      refine lv_aload_n hx hb dX7_addCurrent_64 rfl (lv_at hl 0 rfl) ?_
      refine u_v (ru_V (As := []) (rest := []) F h hP rfl (k_X7_remember l g n c lh ru rs hP R hB hk5 hq hH hW) (gV hjl wd_282 wd_284 wd_0 wd_16 wd_285) rfl 0 (by decide +kernel) rfl ⟨Nat.le_of_ble_eq_true rfl, Nat.le_of_ble_eq_true rfl⟩ rfl hl.1 (Nat.le_of_ble_eq_true rfl) ⟨Nat.zero_le _, Nat.zero_le _⟩ dX7_addCurrent_65) h (fun n1 cz1 H locs hp h => ?_)
      obtain ⟨hnz1, hPz1, hBz1, hHz1, hFz1⟩ := hp
      rw [hnz1] at h
      refine lv_aload_n hx hb dX7_addCurrent_68 rfl (lv_at hl 0 rfl) ?_
      refine r_get F h (C := RX7) (T := TX7) (N := 8) (hjc hi_X7) rfl hPz1 0 (by decide) (List.mem_cons_of_mem _ wd_245) rfl dX7_addCurrent_69 ?_
      refine r_get F h (C := RX4) (T := TX4) (N := 8) (hjc hi_X4) rfl hBz1.1 1 (by decide) (List.mem_cons_of_mem _ wd_188) rfl dX7_addCurrent_72 ?_
      refine lv_aload_n hx hb dX7_addCurrent_75 rfl (lv_at hl 0 rfl) ?_
      refine r_get F h (C := RX7) (T := TX7) (N := 8) (hjc hi_X7) rfl hPz1 0 (by decide) (List.mem_cons_of_mem _ wd_245) rfl dX7_addCurrent_76 ?_
      refine r_get F h (C := RX4) (T := TX4) (N := 8) (hjc hi_X4) rfl hBz1.1 2 (by decide) (List.mem_cons_of_mem _ wd_190) rfl dX7_addCurrent_79 ?_
      refine r_top (w := .int (nI cn)) (congrArg Value.int hcn) ?_
      refine r_aald F h (C := RX0) hBz1.2.2.1.1 (t0 := 5) rfl (vp_in_nI (show cn < 5 by omega) (by decide)) (a := gz g + (1 + 7 + cn)) (qs_at (fun k => some (gz g + (1 + 7 + k))) (by omega)) dX7_addCurrent_82 ?_
      refine lv_iload_n hx hb dX7_addCurrent_83 rfl (lv_at hl 1 rfl) ?_
      refine lv_iload_n hx hb dX7_addCurrent_84 rfl (lv_at hl 2 rfl) ?_
      refine lv_iload_n hx hb dX7_addCurrent_85 rfl (lv_at hl 3 rfl) ?_
      refine lv_iload hx hb dX7_addCurrent_86 (lv_at hl 4 rfl) ?_
      refine u_vE (ru_V (As := [.int x, .int y, .int fx, .int fy]) (rest := []) F h (hBz1.2.2.1.2 cn (by omega)) rfl (k_X0_become l g n cz1 (1 + 7 + cn) (fun q => R (49 + 4 * cn + q)) (hBz1.2.2.1.2 cn (by omega)) x y fx fy) (gV hjl wd_364 wd_365 wd_366 wd_19 wd_367) rfl 4 (by decide +kernel) rfl ⟨Nat.le_of_ble_eq_true rfl, Nat.le_of_ble_eq_true rfl⟩ rfl hl.1 (Nat.le_of_ble_eq_true rfl) ⟨Nat.zero_le _, Nat.zero_le _⟩ dX7_addCurrent_88) h (fun H locs h => ?_)
      refine lv_aload_n hx hb dX7_addCurrent_91 rfl (lv_at hl 0 rfl) ?_
      refine r_get F h (C := RX7) (T := TX7) (N := 8) (hjc hi_X7) rfl ((mu_ne (by omega) _).trans hPz1) 0 (by decide) (List.mem_cons_of_mem _ wd_245) rfl dX7_addCurrent_92 ?_
      refine lv_dup hx hb dX7_addCurrent_95 rfl ?_
      refine r_get F h (C := RX4) (T := TX4) (N := 8) (hjc hi_X4) rfl ((mu_ne (by omega) _).trans hBz1.1) 2 (by decide) (List.mem_cons_of_mem _ wd_190) rfl dX7_addCurrent_96 ?_
      refine lv_iconst (v := 1) hx hb dX7_addCurrent_99 (by decide) ?_
      refine lv_iadd hx hb dX7_addCurrent_100 ?_
      refine r_put F h (C := RX4) (T := TX4) (N := 8) (fs' := [.ref (gz g + (1 + 1)), .ref (gz g + (1 + 6)), .int (R 3 + 1), .ref (gz g + (1 + 12)), .int (R 4), .int (R 0), .int (R 1), .int (R 2)]) (hjc hi_X4) tyX4 tyX4_ok nmX4 rfl ((mu_ne (by omega) _).trans hBz1.1) 2 (by decide) (List.mem_cons_of_mem _ wd_190) rfl (rfl) (rfl) (Nat.le_of_ble_eq_true rfl) rfl dX7_addCurrent_101 (fun H locs h => ?_)
      refine lv_aload_n hx hb dX7_addCurrent_104 rfl (lv_at hl 0 rfl) ?_
      refine r_get F h (C := RX7) (T := TX7) (N := 8) (hjc hi_X7) rfl ((mu_ne (by decide) _).trans ((mu_ne (by omega) _).trans hPz1)) 0 (by decide) (List.mem_cons_of_mem _ wd_245) rfl dX7_addCurrent_105 ?_
      refine r_mem (c1 := (va_up (va_up cz1 1 (some (.inr (4, [.ref (gz g + (1 + 1)), .ref (gz g + (1 + 6)), .int (R 3 + 1), .ref (gz g + (1 + 12)), .int (R 4), .int (R 0), .int (R 1), .int (R 2)])))) (1 + 7 + cn) (some (.inr (0, [.int x, .int y, .int fx, .int fy]))))) h (mu_comm (by omega) _ _) (fun h => ?_)
      refine u_v (ru_V (As := []) (rest := []) F h ((mu_ne (by omega) _).trans (mu_eq _ _ _)) rfl (k_X4_voidAllWires l g n (va_up (va_up cz1 1 (some (.inr (4, [.ref (gz g + (1 + 1)), .ref (gz g + (1 + 6)), .int (R 3 + 1), .ref (gz g + (1 + 12)), .int (R 4), .int (R 0), .int (R 1), .int (R 2)])))) (1 + 7 + cn) (some (.inr (0, [.int x, .int y, .int fx, .int fy])))) 1 (cPut (upd R 3 (R 3 + 1)) cn (l4 x y fx fy)) ((hBz1.top (r' := upd R 3 (R 3 + 1)) rfl (fun k hk _ => if_neg (by omega))).curP (w := cn) (by omega) (l4 x y fx fy)) sc (by simp only [wPut_4, cPut_4, vdR_4, upd_34, hsc]) h5) (gV hjl wd_368 wd_369 wd_370 wd_17 wd_371) rfl 0 (by decide +kernel) rfl ⟨Nat.le_of_ble_eq_true rfl, Nat.le_of_ble_eq_true rfl⟩ rfl hl.1 (Nat.le_of_ble_eq_true rfl) ⟨Nat.zero_le _, Nat.zero_le _⟩ dX7_addCurrent_108) h (fun n1 cz2 H locs hp h => ?_)
      obtain ⟨hnz2, hBz2, hFz2⟩ := hp
      rw [hnz2] at h
      refine lv_aload_n hx hb dX7_addCurrent_111 rfl (lv_at hl 0 rfl) ?_
      refine r_get F h (C := RX7) (T := TX7) (N := 8) (hjc hi_X7) rfl ((hFz2 _ (by omega)).trans ((mu_ne (by omega) _).trans ((mu_ne (by decide) _).trans hPz1))) 0 (by decide) (List.mem_cons_of_mem _ wd_245) rfl dX7_addCurrent_112 ?_
      refine r_get F h (C := RX4) (T := TX4) (N := 8) (hjc hi_X4) rfl hBz2.1 2 (by decide) (List.mem_cons_of_mem _ wd_190) rfl dX7_addCurrent_115 ?_
      exact ret_i F h (Nat.zero_le _) (Nat.zero_le _) dX7_addCurrent_118 (paE (show sq_X7_addCurrent lh ru rs R hq x y fx fy sc cn = (vaR (cPut (upd R 3 (R 3 + 1)) cn (l4 x y fx fy)) sc 4 3, rs, vaR (cPut (upd R 3 (R 3 + 1)) cn (l4 x y fx fy)) sc 4, (rmL ru lh), rmQ ru lh hq R) by rw [sq_X7_addCurrent, if_neg (c := (inI x 0 799) = 0) b_8, if_neg (c := (inI y (x + 1) 800) = 0) b_21, if_neg (c := (inI fx (-50) 50) = 0) b_32, if_neg (c := (inI fy (-50) 50) = 0) b_44, if_pos (c := R 3 < 5) b_58]) (Nat.le_refl _) ((hFz2 _ (by omega)).trans ((mu_ne (by omega) _).trans ((mu_ne (by decide) _).trans hPz1))) hBz2 (((hHz1.up (by omega)).up (by omega)).fr hFz2 (by decide)) ((((Fn.rfl'.fr hFz1 (by decide)).up (by omega)).up (by omega)).fr hFz2 (by decide)))
    refine lv_ldc (v := (-100004)) hx hb F.2.2.2.1 (F.2.2.2.2.1 (Cond.constant RX7 110 (-100004)) (List.mem_cons_of_mem _ wd_363)) dX7_addCurrent_61 ?_
    exact ret_i F h (Nat.zero_le _) (Nat.zero_le _) dX7_addCurrent_63 (paE (show sq_X7_addCurrent lh ru rs R hq x y fx fy sc cn = ((-100004), rs, R, lh, hq) by rw [sq_X7_addCurrent, if_neg (c := (inI x 0 799) = 0) b_8, if_neg (c := (inI y (x + 1) 800) = 0) b_21, if_neg (c := (inI fx (-50) 50) = 0) b_32, if_neg (c := (inI fy (-50) 50) = 0) b_44, if_neg (c := R 3 < 5) b_58]) (Nat.le_refl _) hP hB hH Fn.rfl')
  refine lv_ldc (v := (-100002)) hx hb F.2.2.2.1 (F.2.2.2.2.1 (Cond.constant RX7 47 (-100002)) (List.mem_cons_of_mem _ wd_281)) dX7_addCurrent_47 ?_
  exact ret_i F h (Nat.zero_le _) (Nat.zero_le _) dX7_addCurrent_49 (paE (show sq_X7_addCurrent lh ru rs R hq x y fx fy sc cn = ((-100002), rs, R, lh, hq) by rw [sq_X7_addCurrent, if_neg (c := (inI x 0 799) = 0) b_8, if_neg (c := (inI y (x + 1) 800) = 0) b_21, if_neg (c := (inI fx (-50) 50) = 0) b_32, if_pos (c := (inI fy (-50) 50) = 0) b_44]) (Nat.le_refl _) hP hB hH Fn.rfl')
def sq_X7_clearCurrents (lh : Nat) (ru rs : Int32) (R : Nat → Int32) (hq : Nat → Nat → Int32) (sc : Nat) : ClT := if R 3 = 0 then (((-100005), rs, R, lh, hq)) else ((R 3, rs, vaR (upd R 3 0) sc 4, (rmL ru lh), rmQ ru lh hq R))
set_option maxHeartbeats 4000000 in
set_option maxRecDepth 100000 in
theorem k_X7_clearCurrents (l : Launch) (g : Gf) (n : Nat) (c : Mp) (lh : Nat) (ru rs : Int32) (hP : c 0 = plC g (nI lh) ru rs) (R : Nat → Int32) (hB : Bk g c 1 R) (hk5 : lh ≤ 5) (hq : Nat → Nat → Int32) (hH : Hx g c hq) (hW : WB R) (sc : Nat) (hsc : R 4 = nI sc) (h5 : sc ≤ 5) : Ct l g yX7_clearCurrents wsX7_clearCurrents 4 85 0 0 [.ref (gz g + 0)] n c (Qi g (fun xr n' c' => PA g c n ru (sq_X7_clearCurrents lh ru rs R hq sc) xr n' c')) := by
  refine ent (by decide) rfl (Nat.le_of_ble_eq_true rfl) ?_
  intro p e s m args below meth c0 F h ls hl
  have hx := F.1
  have hb := F.2.1
  have hl : lv_has ls 2 [(0, .ref (gz g + 0))] := hl
  refine lv_aload_n hx hb dX7_clearCurrents_0 rfl (lv_at hl 0 rfl) ?_
  refine r_get F h (C := RX7) (T := TX7) (N := 8) (hjc hi_X7) rfl hP 0 (by decide) (List.mem_cons_of_mem _ wd_245) rfl dX7_clearCurrents_1 ?_
  refine r_get F h (C := RX4) (T := TX4) (N := 8) (hjc hi_X4) rfl hB.1 2 (by decide) (List.mem_cons_of_mem _ wd_190) rfl dX7_clearCurrents_4 ?_
  refine lv_istore_n (lv' := [(1, .int (R 3)), (0, .ref (gz g + 0))]) hx hb dX7_clearCurrents_7 rfl hl (by decide) rfl (fun ls hl => ?_)
  refine lv_iload_n hx hb dX7_clearCurrents_8 rfl (lv_at hl 0 rfl) ?_
  refine lv_if_ne (tgt := 15) hx hb dX7_clearCurrents_9 (by decide) (fun b_9 => ?_) (fun b_9 => ?_)
  · skip
    refine lv_aload_n hx hb dX7_clearCurrents_15 rfl (lv_at hl 1 rfl) ?_
    refine u_v (ru_V (As := []) (rest := []) F h hP rfl (k_X7_remember l g n c lh ru rs hP R hB hk5 hq hH hW) (gV hjl wd_282 wd_284 wd_0 wd_16 wd_285) rfl 0 (by decide +kernel) rfl ⟨Nat.le_of_ble_eq_true rfl, Nat.le_of_ble_eq_true rfl⟩ rfl hl.1 (Nat.le_of_ble_eq_true rfl) ⟨Nat.zero_le _, Nat.zero_le _⟩ dX7_clearCurrents_16) h (fun n1 cz1 H locs hp h => ?_)
    obtain ⟨hnz1, hPz1, hBz1, hHz1, hFz1⟩ := hp
    rw [hnz1] at h
    refine lv_aload_n hx hb dX7_clearCurrents_19 rfl (lv_at hl 1 rfl) ?_
    refine r_get F h (C := RX7) (T := TX7) (N := 8) (hjc hi_X7) rfl hPz1 0 (by decide) (List.mem_cons_of_mem _ wd_245) rfl dX7_clearCurrents_20 ?_
    refine lv_iconst (v := 0) hx hb dX7_clearCurrents_23 (by decide) ?_
    refine r_put F h (C := RX4) (T := TX4) (N := 8) (fs' := [.ref (gz g + (1 + 1)), .ref (gz g + (1 + 6)), .int 0, .ref (gz g + (1 + 12)), .int (R 4), .int (R 0), .int (R 1), .int (R 2)]) (hjc hi_X4) tyX4 tyX4_ok nmX4 rfl hBz1.1 2 (by decide) (List.mem_cons_of_mem _ wd_190) rfl (rfl) (rfl) (Nat.le_of_ble_eq_true rfl) rfl dX7_clearCurrents_24 (fun H locs h => ?_)
    refine lv_aload_n hx hb dX7_clearCurrents_27 rfl (lv_at hl 1 rfl) ?_
    refine r_get F h (C := RX7) (T := TX7) (N := 8) (hjc hi_X7) rfl ((mu_ne (by decide) _).trans hPz1) 0 (by decide) (List.mem_cons_of_mem _ wd_245) rfl dX7_clearCurrents_28 ?_
    refine u_v (ru_V (As := []) (rest := []) F h (mu_eq _ _ _) rfl (k_X4_voidAllWires l g n (va_up cz1 1 (some (.inr (4, [.ref (gz g + (1 + 1)), .ref (gz g + (1 + 6)), .int 0, .ref (gz g + (1 + 12)), .int (R 4), .int (R 0), .int (R 1), .int (R 2)])))) 1 (upd R 3 0) (hBz1.top (r' := upd R 3 0) rfl (fun k hk _ => if_neg (by omega))) sc (by simp only [wPut_4, cPut_4, vdR_4, upd_34, hsc]) h5) (gV hjl wd_368 wd_369 wd_370 wd_17 wd_371) rfl 0 (by decide +kernel) rfl ⟨Nat.le_of_ble_eq_true rfl, Nat.le_of_ble_eq_true rfl⟩ rfl hl.1 (Nat.le_of_ble_eq_true rfl) ⟨Nat.zero_le _, Nat.zero_le _⟩ dX7_clearCurrents_31) h (fun n1 cz2 H locs hp h => ?_)
    obtain ⟨hnz2, hBz2, hFz2⟩ := hp
    rw [hnz2] at h
    refine lv_iload_n hx hb dX7_clearCurrents_34 rfl (lv_at hl 0 rfl) ?_
    exact ret_i F h (Nat.zero_le _) (Nat.zero_le _) dX7_clearCurrents_35 (paE (show sq_X7_clearCurrents lh ru rs R hq sc = (R 3, rs, vaR (upd R 3 0) sc 4, (rmL ru lh), rmQ ru lh hq R) by rw [sq_X7_clearCurrents, if_neg (c := R 3 = 0) b_9]) (Nat.le_refl _) ((hFz2 _ (by omega)).trans ((mu_ne (by decide) _).trans hPz1)) hBz2 ((hHz1.up (by omega)).fr hFz2 (by decide)) (((Fn.rfl'.fr hFz1 (by decide)).up (by omega)).fr hFz2 (by decide)))
  refine lv_ldc (v := (-100005)) hx hb F.2.2.2.1 (F.2.2.2.2.1 (Cond.constant RX7 123 (-100005)) (List.mem_cons_of_mem _ wd_377)) dX7_clearCurrents_12 ?_
  exact ret_i F h (Nat.zero_le _) (Nat.zero_le _) dX7_clearCurrents_14 (paE (show sq_X7_clearCurrents lh ru rs R hq sc = ((-100005), rs, R, lh, hq) by rw [sq_X7_clearCurrents, if_pos (c := R 3 = 0) b_9]) (Nat.le_refl _) hP hB hH Fn.rfl')
def sq_X7_addStation (lh : Nat) (ru rs : Int32) (R : Nat → Int32) (hq : Nat → Nat → Int32) (x y : Int32) (sc : Nat) : ClT := if (inI x 1 800) = 0 then (((-100002), rs, R, lh, hq)) else (if (inI y 0 7999) = 0 then (((-100002), rs, R, lh, hq)) else (if R 4 < 5 then ((nI sc, rs, upd (sPut R sc x y) 4 (sPut R sc x y 4 + 1), (rmL ru lh), rmQ ru lh hq R)) else (((-100004), rs, R, lh, hq))))
set_option maxHeartbeats 4000000 in
set_option maxRecDepth 100000 in
theorem k_X7_addStation (l : Launch) (g : Gf) (n : Nat) (c : Mp) (lh : Nat) (ru rs : Int32) (hP : c 0 = plC g (nI lh) ru rs) (R : Nat → Int32) (hB : Bk g c 1 R) (hk5 : lh ≤ 5) (hq : Nat → Nat → Int32) (hH : Hx g c hq) (hW : WB R) (x y : Int32) (sc : Nat) (hsc : R 4 = nI sc) (h5 : sc ≤ 5) : Ct l g yX7_addStation wsX7_addStation 4 85 0 0 [.ref (gz g + 0), .int x, .int y] n c (Qi g (fun xr n' c' => PA g c n ru (sq_X7_addStation lh ru rs R hq x y sc) xr n' c')) := by
  refine ent (by decide) rfl (Nat.le_of_ble_eq_true rfl) ?_
  intro p e s m args below meth c0 F h ls hl
  have hx := F.1
  have hb := F.2.1
  have hl : lv_has ls 4 [(0, .ref (gz g + 0)), (1, .int x), (2, .int y)] := hl
  refine lv_iload_n hx hb dX7_addStation_0 rfl (lv_at hl 1 rfl) ?_
  refine lv_iconst (v := 1) hx hb dX7_addStation_1 (by decide) ?_
  refine lv_sipush (v := 800) hx hb dX7_addStation_2 (by decide) ?_
  refine u_iE (v := (inI x 1 800)) (ru_S (As := [.int x, .int 1, .int 800]) (rest := []) F h (k_X7_isWithin l g n c x 1 800) (gS hjl wd_277 wd_278 wd_16 wd_279) rfl 3 (by decide +kernel) rfl ⟨Nat.le_of_ble_eq_true rfl, Nat.le_of_ble_eq_true rfl⟩ rfl hl.1 (Nat.le_of_ble_eq_true rfl) ⟨Nat.zero_le _, Nat.zero_le _⟩ dX7_addStation_5) h (fun H locs h => ?_)
  refine lv_if_eq (tgt := 22) hx hb dX7_addStation_8 (by decide) (fun b_8 => ?_) (fun b_8 => ?_)
  · skip
    refine lv_ldc (v := (-100002)) hx hb F.2.2.2.1 (F.2.2.2.2.1 (Cond.constant RX7 47 (-100002)) (List.mem_cons_of_mem _ wd_281)) dX7_addStation_22 ?_
    exact ret_i F h (Nat.zero_le _) (Nat.zero_le _) dX7_addStation_24 (paE (show sq_X7_addStation lh ru rs R hq x y sc = ((-100002), rs, R, lh, hq) by rw [sq_X7_addStation, if_pos (c := (inI x 1 800) = 0) b_8]) (Nat.le_refl _) hP hB hH Fn.rfl')
  refine lv_iload_n hx hb dX7_addStation_11 rfl (lv_at hl 2 rfl) ?_
  refine lv_iconst (v := 0) hx hb dX7_addStation_12 (by decide) ?_
  refine lv_sipush (v := 7999) hx hb dX7_addStation_13 (by decide) ?_
  refine u_iE (v := (inI y 0 7999)) (ru_S (As := [.int y, .int 0, .int 7999]) (rest := []) F h (k_X7_isWithin l g n c y 0 7999) (gS hjl wd_277 wd_278 wd_16 wd_279) rfl 3 (by decide +kernel) rfl ⟨Nat.le_of_ble_eq_true rfl, Nat.le_of_ble_eq_true rfl⟩ rfl hl.1 (Nat.le_of_ble_eq_true rfl) ⟨Nat.zero_le _, Nat.zero_le _⟩ dX7_addStation_16) h (fun H locs h => ?_)
  refine lv_if_ne (tgt := 25) hx hb dX7_addStation_19 (by decide) (fun b_19 => ?_) (fun b_19 => ?_)
  · skip
    refine lv_aload_n hx hb dX7_addStation_25 rfl (lv_at hl 0 rfl) ?_
    refine r_get F h (C := RX7) (T := TX7) (N := 8) (hjc hi_X7) rfl hP 0 (by decide) (List.mem_cons_of_mem _ wd_245) rfl dX7_addStation_26 ?_
    refine r_get F h (C := RX4) (T := TX4) (N := 8) (hjc hi_X4) rfl hB.1 4 (by decide) (List.mem_cons_of_mem _ wd_194) rfl dX7_addStation_29 ?_
    refine lv_iconst (v := 5) hx hb dX7_addStation_32 (by decide) ?_
    refine lv_icmp_lt (tgt := 39) hx hb dX7_addStation_33 (by decide) (fun b_33 => ?_) (fun b_33 => ?_)
    · skip
      have hsc5 : sc < 5 := by rcases Nat.lt_or_ge sc 5 with q | q; exact q; exact absurd (show nI sc < nI 5 by rw [← hsc]; exact b_33) (nI_nlt q (by omega))
      refine lv_aload_n hx hb dX7_addStation_39 rfl (lv_at hl 0 rfl) ?_
      refine u_v (ru_V (As := []) (rest := []) F h hP rfl (k_X7_remember l g n c lh ru rs hP R hB hk5 hq hH hW) (gV hjl wd_282 wd_284 wd_0 wd_16 wd_285) rfl 0 (by decide +kernel) rfl ⟨Nat.le_of_ble_eq_true rfl, Nat.le_of_ble_eq_true rfl⟩ rfl hl.1 (Nat.le_of_ble_eq_true rfl) ⟨Nat.zero_le _, Nat.zero_le _⟩ dX7_addStation_40) h (fun n1 cz1 H locs hp h => ?_)
      obtain ⟨hnz1, hPz1, hBz1, hHz1, hFz1⟩ := hp
      rw [hnz1] at h
      refine lv_aload_n hx hb dX7_addStation_43 rfl (lv_at hl 0 rfl) ?_
      refine r_get F h (C := RX7) (T := TX7) (N := 8) (hjc hi_X7) rfl hPz1 0 (by decide) (List.mem_cons_of_mem _ wd_245) rfl dX7_addStation_44 ?_
      refine r_get F h (C := RX4) (T := TX4) (N := 8) (hjc hi_X4) rfl hBz1.1 4 (by decide) (List.mem_cons_of_mem _ wd_194) rfl dX7_addStation_47 ?_
      refine r_top (w := .int (nI sc)) (congrArg Value.int hsc) ?_
      refine lv_istore_n (lv' := [(3, .int (nI sc)), (0, .ref (gz g + 0)), (1, .int x), (2, .int y)]) hx hb dX7_addStation_50 rfl hl (by decide) rfl (fun ls hl => ?_)
      refine lv_aload_n hx hb dX7_addStation_51 rfl (lv_at hl 1 rfl) ?_
      refine r_get F h (C := RX7) (T := TX7) (N := 8) (hjc hi_X7) rfl hPz1 0 (by decide) (List.mem_cons_of_mem _ wd_245) rfl dX7_addStation_52 ?_
      refine r_get F h (C := RX4) (T := TX4) (N := 8) (hjc hi_X4) rfl hBz1.1 3 (by decide) (List.mem_cons_of_mem _ wd_192) rfl dX7_addStation_55 ?_
      refine lv_iload_n hx hb dX7_addStation_58 rfl (lv_at hl 0 rfl) ?_
      refine r_aald F h (C := RX5) hBz1.2.2.2.1 (t0 := 6) rfl (vp_in_nI (show sc < 5 by omega) (by decide)) (a := gz g + (1 + 13 + 6 * sc)) (qs_at (fun k => some (gz g + (1 + 13 + 6 * k))) (by omega)) dX7_addStation_59 ?_
      refine lv_iload_n hx hb dX7_addStation_60 rfl (lv_at hl 2 rfl) ?_
      refine lv_iload_n hx hb dX7_addStation_61 rfl (lv_at hl 3 rfl) ?_
      refine u_v (ru_V (As := [.int x, .int y]) (rest := []) F h ((hBz1.2.2.2.2 sc (by omega)).1) rfl (k_X5_become l g n cz1 (1 + 13 + 6 * sc) _ _ _ _ _ (hBz1.2.2.2.2 sc (by omega)) x y) (gV hjl wd_382 wd_383 wd_384 wd_20 wd_385) rfl 2 (by decide +kernel) rfl ⟨Nat.le_of_ble_eq_true rfl, Nat.le_of_ble_eq_true rfl⟩ rfl hl.1 (Nat.le_of_ble_eq_true rfl) ⟨Nat.zero_le _, Nat.zero_le _⟩ dX7_addStation_62) h (fun n1 cz2 H locs hp h => ?_)
      obtain ⟨hnz2, hSz2, hFz2⟩ := hp
      rw [hnz2] at h
      have hBz2 := hBz1.becomeP (s := sc) (by omega) hSz2 hFz2
      refine lv_aload_n hx hb dX7_addStation_65 rfl (lv_at hl 1 rfl) ?_
      refine r_get F h (C := RX7) (T := TX7) (N := 8) (hjc hi_X7) rfl ((hFz2 _ (by omega)).trans hPz1) 0 (by decide) (List.mem_cons_of_mem _ wd_245) rfl dX7_addStation_66 ?_
      refine lv_dup hx hb dX7_addStation_69 rfl ?_
      refine r_get F h (C := RX4) (T := TX4) (N := 8) (hjc hi_X4) rfl hBz2.1 4 (by decide) (List.mem_cons_of_mem _ wd_194) rfl dX7_addStation_70 ?_
      refine lv_iconst (v := 1) hx hb dX7_addStation_73 (by decide) ?_
      refine lv_iadd hx hb dX7_addStation_74 ?_
      refine r_put F h (C := RX4) (T := TX4) (N := 8) (fs' := [.ref (gz g + (1 + 1)), .ref (gz g + (1 + 6)), .int (sPut R sc x y 3), .ref (gz g + (1 + 12)), .int (sPut R sc x y 4 + 1), .int (sPut R sc x y 0), .int (sPut R sc x y 1), .int (sPut R sc x y 2)]) (hjc hi_X4) tyX4 tyX4_ok nmX4 rfl hBz2.1 4 (by decide) (List.mem_cons_of_mem _ wd_194) rfl (rfl) (rfl) (Nat.le_of_ble_eq_true rfl) rfl dX7_addStation_75 (fun H locs h => ?_)
      refine lv_iload_n hx hb dX7_addStation_78 rfl (lv_at hl 0 rfl) ?_
      exact ret_i F h (Nat.zero_le _) (Nat.zero_le _) dX7_addStation_79 (paE (show sq_X7_addStation lh ru rs R hq x y sc = (nI sc, rs, upd (sPut R sc x y) 4 (sPut R sc x y 4 + 1), (rmL ru lh), rmQ ru lh hq R) by rw [sq_X7_addStation, if_neg (c := (inI x 1 800) = 0) b_8, if_neg (c := (inI y 0 7999) = 0) b_19, if_pos (c := R 4 < 5) b_33]) (Nat.le_refl _) ((mu_ne (by decide) _).trans ((hFz2 _ (by omega)).trans hPz1)) (hBz2.top (r' := upd (sPut R sc x y) 4 (sPut R sc x y 4 + 1)) rfl (fun k hk _ => if_neg (by omega))) ((hHz1.fr hFz2 (by omega)).up (by omega)) (((Fn.rfl'.fr hFz1 (by decide)).fr hFz2 (by omega)).up (by omega)))
    refine lv_ldc (v := (-100004)) hx hb F.2.2.2.1 (F.2.2.2.2.1 (Cond.constant RX7 110 (-100004)) (List.mem_cons_of_mem _ wd_363)) dX7_addStation_36 ?_
    exact ret_i F h (Nat.zero_le _) (Nat.zero_le _) dX7_addStation_38 (paE (show sq_X7_addStation lh ru rs R hq x y sc = ((-100004), rs, R, lh, hq) by rw [sq_X7_addStation, if_neg (c := (inI x 1 800) = 0) b_8, if_neg (c := (inI y 0 7999) = 0) b_19, if_neg (c := R 4 < 5) b_33]) (Nat.le_refl _) hP hB hH Fn.rfl')
  refine lv_ldc (v := (-100002)) hx hb F.2.2.2.1 (F.2.2.2.2.1 (Cond.constant RX7 47 (-100002)) (List.mem_cons_of_mem _ wd_281)) dX7_addStation_22 ?_
  exact ret_i F h (Nat.zero_le _) (Nat.zero_le _) dX7_addStation_24 (paE (show sq_X7_addStation lh ru rs R hq x y sc = ((-100002), rs, R, lh, hq) by rw [sq_X7_addStation, if_neg (c := (inI x 1 800) = 0) b_8, if_pos (c := (inI y 0 7999) = 0) b_19]) (Nat.le_refl _) hP hB hH Fn.rfl')
def sq_X7_setTolerance (lh : Nat) (ru rs : Int32) (R : Nat → Int32) (hq : Nat → Nat → Int32) (x : Int32) : ClT := if (inI x 0 500) = 0 then (((-100002), rs, R, lh, hq)) else ((R 1, rs, upd R 1 x, (rmL ru lh), rmQ ru lh hq R))
set_option maxHeartbeats 4000000 in
set_option maxRecDepth 100000 in
theorem k_X7_setTolerance (l : Launch) (g : Gf) (n : Nat) (c : Mp) (lh : Nat) (ru rs : Int32) (hP : c 0 = plC g (nI lh) ru rs) (R : Nat → Int32) (hB : Bk g c 1 R) (hk5 : lh ≤ 5) (hq : Nat → Nat → Int32) (hH : Hx g c hq) (hW : WB R) (x : Int32) : Ct l g yX7_setTolerance wsX7_setTolerance 4 85 0 0 [.ref (gz g + 0), .int x] n c (Qi g (fun xr n' c' => PA g c n ru (sq_X7_setTolerance lh ru rs R hq x) xr n' c')) := by
  refine ent (by decide) rfl (Nat.le_of_ble_eq_true rfl) ?_
  intro p e s m args below meth c0 F h ls hl
  have hx := F.1
  have hb := F.2.1
  have hl : lv_has ls 3 [(0, .ref (gz g + 0)), (1, .int x)] := hl
  refine lv_iload_n hx hb dX7_setTolerance_0 rfl (lv_at hl 1 rfl) ?_
  refine lv_iconst (v := 0) hx hb dX7_setTolerance_1 (by decide) ?_
  refine lv_sipush (v := 500) hx hb dX7_setTolerance_2 (by decide) ?_
  refine u_iE (v := (inI x 0 500)) (ru_S (As := [.int x, .int 0, .int 500]) (rest := []) F h (k_X7_isWithin l g n c x 0 500) (gS hjl wd_277 wd_278 wd_16 wd_279) rfl 3 (by decide +kernel) rfl ⟨Nat.le_of_ble_eq_true rfl, Nat.le_of_ble_eq_true rfl⟩ rfl hl.1 (Nat.le_of_ble_eq_true rfl) ⟨Nat.zero_le _, Nat.zero_le _⟩ dX7_setTolerance_5) h (fun H locs h => ?_)
  refine lv_if_ne (tgt := 14) hx hb dX7_setTolerance_8 (by decide) (fun b_8 => ?_) (fun b_8 => ?_)
  · skip
    refine lv_aload_n hx hb dX7_setTolerance_14 rfl (lv_at hl 0 rfl) ?_
    refine u_v (ru_V (As := []) (rest := []) F h hP rfl (k_X7_remember l g n c lh ru rs hP R hB hk5 hq hH hW) (gV hjl wd_282 wd_284 wd_0 wd_16 wd_285) rfl 0 (by decide +kernel) rfl ⟨Nat.le_of_ble_eq_true rfl, Nat.le_of_ble_eq_true rfl⟩ rfl hl.1 (Nat.le_of_ble_eq_true rfl) ⟨Nat.zero_le _, Nat.zero_le _⟩ dX7_setTolerance_15) h (fun n1 cz1 H locs hp h => ?_)
    obtain ⟨hnz1, hPz1, hBz1, hHz1, hFz1⟩ := hp
    rw [hnz1] at h
    refine lv_aload_n hx hb dX7_setTolerance_18 rfl (lv_at hl 0 rfl) ?_
    refine r_get F h (C := RX7) (T := TX7) (N := 8) (hjc hi_X7) rfl hPz1 0 (by decide) (List.mem_cons_of_mem _ wd_245) rfl dX7_setTolerance_19 ?_
    refine r_get F h (C := RX4) (T := TX4) (N := 8) (hjc hi_X4) rfl hBz1.1 6 (by decide) (List.mem_cons_of_mem _ wd_198) rfl dX7_setTolerance_22 ?_
    refine lv_istore_n (lv' := [(2, .int (R 1)), (0, .ref (gz g + 0)), (1, .int x)]) hx hb dX7_setTolerance_25 rfl hl (by decide) rfl (fun ls hl => ?_)
    refine lv_aload_n hx hb dX7_setTolerance_26 rfl (lv_at hl 1 rfl) ?_
    refine r_get F h (C := RX7) (T := TX7) (N := 8) (hjc hi_X7) rfl hPz1 0 (by decide) (List.mem_cons_of_mem _ wd_245) rfl dX7_setTolerance_27 ?_
    refine lv_iload_n hx hb dX7_setTolerance_30 rfl (lv_at hl 2 rfl) ?_
    refine r_put F h (C := RX4) (T := TX4) (N := 8) (fs' := [.ref (gz g + (1 + 1)), .ref (gz g + (1 + 6)), .int (R 3), .ref (gz g + (1 + 12)), .int (R 4), .int (R 0), .int x, .int (R 2)]) (hjc hi_X4) tyX4 tyX4_ok nmX4 rfl hBz1.1 6 (by decide) (List.mem_cons_of_mem _ wd_198) rfl (rfl) (rfl) (Nat.le_of_ble_eq_true rfl) rfl dX7_setTolerance_31 (fun H locs h => ?_)
    refine lv_iload_n hx hb dX7_setTolerance_34 rfl (lv_at hl 0 rfl) ?_
    exact ret_i F h (Nat.zero_le _) (Nat.zero_le _) dX7_setTolerance_35 (paE (show sq_X7_setTolerance lh ru rs R hq x = (R 1, rs, upd R 1 x, (rmL ru lh), rmQ ru lh hq R) by rw [sq_X7_setTolerance, if_neg (c := (inI x 0 500) = 0) b_8]) (Nat.le_refl _) ((mu_ne (by decide) _).trans hPz1) (hBz1.top (r' := upd R 1 x) rfl (fun k hk _ => if_neg (by omega))) (hHz1.up (by omega)) ((Fn.rfl'.fr hFz1 (by decide)).up (by omega)))
  refine lv_ldc (v := (-100002)) hx hb F.2.2.2.1 (F.2.2.2.2.1 (Cond.constant RX7 47 (-100002)) (List.mem_cons_of_mem _ wd_281)) dX7_setTolerance_11 ?_
  exact ret_i F h (Nat.zero_le _) (Nat.zero_le _) dX7_setTolerance_13 (paE (show sq_X7_setTolerance lh ru rs R hq x = ((-100002), rs, R, lh, hq) by rw [sq_X7_setTolerance, if_pos (c := (inI x 0 500) = 0) b_8]) (Nat.le_refl _) hP hB hH Fn.rfl')
def tkN (R : Nat → Int32) : Nat → Nat → Int32
  | 0 => R
  | k + 1 => tkR (tkN R k) 4
def sq_X7_pass (lh : Nat) (ru rs : Int32) (R : Nat → Int32) (hq : Nat → Nat → Int32) (x : Int32) : ClT := if (inI x 1 60) = 0 then (((-100002), rs, R, lh, hq)) else ((tkN R (wN x) 0, rs, tkN R (wN x), (rmL ru lh), rmQ ru lh hq R))
set_option maxHeartbeats 4000000 in
set_option maxRecDepth 100000 in
theorem k_X7_pass (l : Launch) (g : Gf) (n : Nat) (c : Mp) (lh : Nat) (ru rs : Int32) (hP : c 0 = plC g (nI lh) ru rs) (R : Nat → Int32) (hB : Bk g c 1 R) (hk5 : lh ≤ 5) (hq : Nat → Nat → Int32) (hH : Hx g c hq) (hW : WB R) (x : Int32) : Ct l g yX7_pass wsX7_pass 4 85 0 0 [.ref (gz g + 0), .int x] n c (Qi g (fun xr n' c' => PA g c n ru (sq_X7_pass lh ru rs R hq x) xr n' c')) := by
  refine ent (by decide) rfl (Nat.le_of_ble_eq_true rfl) ?_
  intro p e s m args below meth c0 F h ls hl
  have hx := F.1
  have hb := F.2.1
  have hl : lv_has ls 3 [(0, .ref (gz g + 0)), (1, .int x)] := hl
  refine lv_iload_n hx hb dX7_pass_0 rfl (lv_at hl 1 rfl) ?_
  refine lv_iconst (v := 1) hx hb dX7_pass_1 (by decide) ?_
  refine lv_bipush (v := 60) hx hb dX7_pass_2 (by decide) ?_
  refine u_iE (v := (inI x 1 60)) (ru_S (As := [.int x, .int 1, .int 60]) (rest := []) F h (k_X7_isWithin l g n c x 1 60) (gS hjl wd_277 wd_278 wd_16 wd_279) rfl 3 (by decide +kernel) rfl ⟨Nat.le_of_ble_eq_true rfl, Nat.le_of_ble_eq_true rfl⟩ rfl hl.1 (Nat.le_of_ble_eq_true rfl) ⟨Nat.zero_le _, Nat.zero_le _⟩ dX7_pass_4) h (fun H locs h => ?_)
  refine lv_if_ne (tgt := 13) hx hb dX7_pass_7 (by decide) (fun b_7 => ?_) (fun b_7 => ?_)
  · skip
    have h_x := inI_lo (N := 60) (by decide) (by decide) b_7
    have h4_x := h_x.1
    have hl : lv_has ls 3 [(0, .ref (gz g + 0)), (1, .int (nI (wN x)))] := by rw [show (nI (wN x) : Int32) = x from h_x.2]; exact hl
    refine lv_aload_n hx hb dX7_pass_13 rfl (lv_at hl 0 rfl) ?_
    refine u_v (ru_V (As := []) (rest := []) F h hP rfl (k_X7_remember l g n c lh ru rs hP R hB hk5 hq hH hW) (gV hjl wd_282 wd_284 wd_0 wd_16 wd_285) rfl 0 (by decide +kernel) rfl ⟨Nat.le_of_ble_eq_true rfl, Nat.le_of_ble_eq_true rfl⟩ rfl hl.1 (Nat.le_of_ble_eq_true rfl) ⟨Nat.zero_le _, Nat.zero_le _⟩ dX7_pass_14) h (fun n1 cz1 H locs hp h => ?_)
    obtain ⟨hnz1, hPz1, hBz1, hHz1, hFz1⟩ := hp
    rw [hnz1] at h
    refine lv_iconst (v := 0) hx hb dX7_pass_17 (by decide) ?_
    refine lv_istore_n (lv' := [(2, .int 0), (0, .ref (gz g + 0)), (1, .int (nI (wN x)))]) hx hb dX7_pass_18 rfl hl (by decide) rfl (fun ls hl => ?_)
    have lp : ∀ (k : Nat) (k1 : Nat) (c1 : Mp) (hk1 : k1 ≤ wN x) (hP1 : c1 0 = plC g (nI (rmL ru lh)) ru rs) (hB1 : Bk g c1 1 (tkN R k1)) (hH1 : Hx g c1 (rmQ ru lh hq R)) (hF1 : Fn c c1 n) (H : Heap) (locs : List Loc) (ls : Array Slot), (wN x + 1 - k1) ≤ k → Hv g s H locs n c1 → lv_has ls 3 [(0, .ref (gz g + 0)), (1, .int (nI (wN x))), (2, .int (nI k1))] → W p l e (Rm 4 85 0 0) s m args below meth c0 H locs 0 0 (MQ below (Qi g (fun xr n' c' => PA g c n ru (sq_X7_pass lh ru rs R hq x) xr n' c')) args s 0 0 (mAf g)) (F0 m 19 ls []) := by
      intro k
      induction k with
      | zero => intro k1 c1 hk1 hP1 hB1 hH1 hF1 H locs ls hk h hl; exact absurd hk (by omega)
      | succ k ih =>
        intro k1 c1 hk1 hP1 hB1 hH1 hF1 H locs ls hk h hl
        refine lv_iload_n hx hb dX7_pass_19 rfl (lv_at hl 2 rfl) ?_
        refine lv_iload_n hx hb dX7_pass_20 rfl (lv_at hl 1 rfl) ?_
        refine lv_icmp_ge (tgt := 37) hx hb dX7_pass_21 (by decide) (fun b_21 => ?_) (fun b_21 => ?_)
        · skip
          have e4 : wN x = k1 := by have := lp_ge (N := wN x) rfl (by omega) (by omega) b_21; omega
          have hB2 : Bk g c1 1 (tkN R (wN x)) := by rw [e4]; exact hB1
          refine lv_aload_n hx hb dX7_pass_37 rfl (lv_at hl 0 rfl) ?_
          refine r_get F h (C := RX7) (T := TX7) (N := 8) (hjc hi_X7) rfl hP1 0 (by decide) (List.mem_cons_of_mem _ wd_245) rfl dX7_pass_38 ?_
          refine r_get F h (C := RX4) (T := TX4) (N := 8) (hjc hi_X4) rfl hB2.1 5 (by decide) (List.mem_cons_of_mem _ wd_196) rfl dX7_pass_41 ?_
          exact ret_i F h (Nat.zero_le _) (Nat.zero_le _) dX7_pass_44 (paE (show sq_X7_pass lh ru rs R hq x = (tkN R (wN x) 0, rs, tkN R (wN x), (rmL ru lh), rmQ ru lh hq R) by rw [sq_X7_pass, if_neg (c := (inI x 1 60) = 0) b_7]) (Nat.le_refl _) hP1 hB2 hH1 hF1)
        have hk4 : k1 < wN x := lp_lt (N := wN x) rfl (by omega) (by omega) b_21
        refine lv_aload_n hx hb dX7_pass_24 rfl (lv_at hl 0 rfl) ?_
        refine r_get F h (C := RX7) (T := TX7) (N := 8) (hjc hi_X7) rfl hP1 0 (by decide) (List.mem_cons_of_mem _ wd_245) rfl dX7_pass_25 ?_
        refine u_v (ru_V (As := []) (rest := []) F h hB1.1 rfl (k_X4_passTick l g n c1 1 (tkN R k1) hB1 ) (gV hjl wd_599 wd_600 wd_601 wd_17 wd_602) rfl 0 (by decide +kernel) rfl ⟨Nat.le_of_ble_eq_true rfl, Nat.le_of_ble_eq_true rfl⟩ rfl hl.1 (Nat.le_of_ble_eq_true rfl) ⟨Nat.zero_le _, Nat.zero_le _⟩ dX7_pass_28) h (fun n1 cz2 H locs hp h => ?_)
        obtain ⟨hnz2, hBz2, hFz2⟩ := hp
        rw [hnz2] at h
        refine lv_iinc (v := nI (k1 + 1)) (lv' := [(2, .int (nI (k1 + 1))), (0, .ref (gz g + 0)), (1, .int (nI (wN x)))]) hx hb dX7_pass_31 hl (k := 2) rfl (by exact (nI_succ k1).symm) (by decide) rfl (fun ls hl => ?_)
        refine lv_goto (tgt := 19) hx hb dX7_pass_34 (by decide) ?_
        exact ih (k1 + 1) _ (by omega) ((hFz2 _ (by omega)).trans hP1) hBz2 (hH1.fr hFz2 (by decide)) (hF1.fr hFz2 (by decide)) _ _ _ (by omega) h (lv_sub hl [1, 2, 0] rfl)
    exact lp _ 0 _ (Nat.zero_le _) hPz1 hBz1 hHz1 (Fn.rfl'.fr hFz1 (by decide)) _ _ _ (Nat.le_refl _) h (lv_sub hl [1, 2, 0] rfl)
  refine lv_ldc (v := (-100002)) hx hb F.2.2.2.1 (F.2.2.2.2.1 (Cond.constant RX7 47 (-100002)) (List.mem_cons_of_mem _ wd_281)) dX7_pass_10 ?_
  exact ret_i F h (Nat.zero_le _) (Nat.zero_le _) dX7_pass_12 (paE (show sq_X7_pass lh ru rs R hq x = ((-100002), rs, R, lh, hq) by rw [sq_X7_pass, if_pos (c := (inI x 1 60) = 0) b_7]) (Nat.le_refl _) hP hB hH Fn.rfl')
def sq_fdI (x y : Int32) : Int32 := if 0 ≤ (x ^^^ y) then ((x / y)) else (if ((x / y) * y) = x then ((x / y)) else (((x / y) - 1)))
set_option maxHeartbeats 4000000 in
set_option maxRecDepth 100000 in
theorem k_J9_floorDiv_7cf53 (l : Launch) (g : Gf) (n : Nat) (c : Mp) (x y : Int32) (hy : ¬ y = 0) : Ct l g yJ9_floorDiv_7cf53 wsJ9_floorDiv_7cf53 0 0 0 0 [.int x, .int y] n c (Qi g (fun xr n' c' => xr = sq_fdI x y ∧ n' = n ∧ c' = c)) := by
  refine entF (by decide +kernel) rfl (Nat.le_of_ble_eq_true rfl) ?_
  intro p e s m args below meth c0 F h ls hl
  have hx := F.1
  have hb := F.2.1
  have hl : lv_has ls 3 [(0, .int x), (1, .int y)] := hl
  refine lv_iload_n hx hb dJ9_floorDiv_7cf53_0 rfl (lv_at hl 0 rfl) ?_
  refine lv_iload_n hx hb dJ9_floorDiv_7cf53_1 rfl (lv_at hl 1 rfl) ?_
  refine lv_idiv hx hb dJ9_floorDiv_7cf53_2 (hy) ?_
  refine lv_istore_n (lv' := [(2, .int (x / y)), (0, .int x), (1, .int y)]) hx hb dJ9_floorDiv_7cf53_3 rfl hl (by decide) rfl (fun ls hl => ?_)
  refine lv_iload_n hx hb dJ9_floorDiv_7cf53_4 rfl (lv_at hl 1 rfl) ?_
  refine lv_iload_n hx hb dJ9_floorDiv_7cf53_5 rfl (lv_at hl 2 rfl) ?_
  refine lv_ixor hx hb dJ9_floorDiv_7cf53_6 ?_
  refine lv_if_ge (tgt := 21) hx hb dJ9_floorDiv_7cf53_7 (by decide) (fun b_7 => ?_) (fun b_7 => ?_)
  · skip
    refine lv_iload_n hx hb dJ9_floorDiv_7cf53_21 rfl (lv_at hl 0 rfl) ?_
    exact ret_i F h (Nat.zero_le _) (Nat.zero_le _) dJ9_floorDiv_7cf53_22 (⟨((show sq_fdI x y = (x / y) by rw [sq_fdI, if_pos (c := 0 ≤ (x ^^^ y)) b_7])).symm, rfl, rfl⟩)
  refine lv_iload_n hx hb dJ9_floorDiv_7cf53_10 rfl (lv_at hl 0 rfl) ?_
  refine lv_iload_n hx hb dJ9_floorDiv_7cf53_11 rfl (lv_at hl 2 rfl) ?_
  refine lv_imul hx hb dJ9_floorDiv_7cf53_12 ?_
  refine lv_iload_n hx hb dJ9_floorDiv_7cf53_13 rfl (lv_at hl 1 rfl) ?_
  refine lv_icmp_eq (tgt := 21) hx hb dJ9_floorDiv_7cf53_14 (by decide) (fun b_14 => ?_) (fun b_14 => ?_)
  · skip
    refine lv_iload_n hx hb dJ9_floorDiv_7cf53_21 rfl (lv_at hl 0 rfl) ?_
    exact ret_i F h (Nat.zero_le _) (Nat.zero_le _) dJ9_floorDiv_7cf53_22 (⟨((show sq_fdI x y = (x / y) by rw [sq_fdI, if_neg (c := 0 ≤ (x ^^^ y)) b_7, if_pos (c := ((x / y) * y) = x) b_14])).symm, rfl, rfl⟩)
  refine lv_iload_n hx hb dJ9_floorDiv_7cf53_17 rfl (lv_at hl 0 rfl) ?_
  refine lv_iconst (v := 1) hx hb dJ9_floorDiv_7cf53_18 (by decide) ?_
  refine lv_isub hx hb dJ9_floorDiv_7cf53_19 ?_
  exact ret_i F h (Nat.zero_le _) (Nat.zero_le _) dJ9_floorDiv_7cf53_20 (⟨((show sq_fdI x y = ((x / y) - 1) by rw [sq_fdI, if_neg (c := 0 ≤ (x ^^^ y)) b_7, if_neg (c := ((x / y) * y) = x) b_14])).symm, rfl, rfl⟩)
def sq_mean (f : Nat → Int32) : Int32 := if 1 ≤ f 0 then ((sq_fdI (f 1) (f 0))) else (0)
set_option maxHeartbeats 4000000 in
set_option maxRecDepth 100000 in
theorem k_X3_mean (l : Launch) (g : Gf) (n : Nat) (c : Mp) (i : Nat) (f : Nat → Int32) (hi : c i = reC f) : Ct l g yX3_mean wsX3_mean 1 22 0 0 [.ref (gz g + i)] n c (Qi g (fun xr n' c' => xr = sq_mean f ∧ n' = n ∧ c' = c)) := by
  refine ent (by decide) rfl (Nat.le_of_ble_eq_true rfl) ?_
  intro p e s m args below meth c0 F h ls hl
  have hx := F.1
  have hb := F.2.1
  have hl : lv_has ls 1 [(0, .ref (gz g + i))] := hl
  refine lv_aload_n hx hb dX3_mean_0 rfl (lv_at hl 0 rfl) ?_
  refine r_get F h (C := RX3) (T := TX3) (N := 4) (hjc hi_X3) rfl hi 0 (by decide) (List.mem_cons_of_mem _ wd_625) rfl dX3_mean_1 ?_
  refine lv_iconst (v := 1) hx hb dX3_mean_4 (by decide) ?_
  refine lv_icmp_ge (tgt := 12) hx hb dX3_mean_5 (by decide) (fun b_5 => ?_) (fun b_5 => ?_)
  · skip
    refine lv_aload_n hx hb dX3_mean_12 rfl (lv_at hl 0 rfl) ?_
    refine r_get F h (C := RX3) (T := TX3) (N := 4) (hjc hi_X3) rfl hi 1 (by decide) (List.mem_cons_of_mem _ wd_626) rfl dX3_mean_13 ?_
    refine lv_aload_n hx hb dX3_mean_16 rfl (lv_at hl 0 rfl) ?_
    refine r_get F h (C := RX3) (T := TX3) (N := 4) (hjc hi_X3) rfl hi 0 (by decide) (List.mem_cons_of_mem _ wd_625) rfl dX3_mean_17 ?_
    refine u_iE (v := (sq_fdI (f 1) (f 0))) (ru_S (As := [.int (f 1), .int (f 0)]) (rest := []) F h (k_J9_floorDiv_7cf53 l g n c (f 1) (f 0) (fun z => by rw [z] at b_5; exact absurd b_5 (by decide))) (gS hjl wd_652 wd_653 wd_23b wd_654) rfl 2 (by decide +kernel) rfl ⟨Nat.le_of_ble_eq_true rfl, Nat.le_of_ble_eq_true rfl⟩ rfl hl.1 (Nat.le_of_ble_eq_true rfl) ⟨Nat.zero_le _, Nat.zero_le _⟩ dX3_mean_20) h (fun H locs h => ?_)
    exact ret_i F h (Nat.zero_le _) (Nat.zero_le _) dX3_mean_23 (⟨((show sq_mean f = (sq_fdI (f 1) (f 0)) by rw [sq_mean, if_pos (c := 1 ≤ f 0) b_5])).symm, rfl, rfl⟩)
  refine lv_iconst (v := 0) hx hb dX3_mean_8 (by decide) ?_
  refine lv_goto (tgt := 23) hx hb dX3_mean_9 (by decide) ?_
  exact ret_i F h (Nat.zero_le _) (Nat.zero_le _) dX3_mean_23 (⟨((show sq_mean f = 0 by rw [sq_mean, if_neg (c := 1 ≤ f 0) b_5])).symm, rfl, rfl⟩)
theorem isS_w {r : Nat → Int32} {x : Int32} {sc : Nat} (hsc : r 4 = nI sc) (h5 : sc ≤ 5) (h : ¬ inI x 0 (r 4 - 1) = 0) : wN x < sc ∧ nI (wN x) = x := noS_w hsc h5 (by unfold noS; rw [if_neg h])
def sq_X7_orient (lh : Nat) (ru rs : Int32) (R : Nat → Int32) (hq : Nat → Nat → Int32) (x : Int32) (sc : Nat) : ClT := if (inI x 0 (R 4 - 1)) = 0 then (((-100001), rs, R, lh, hq)) else (if (lrI (sq_X7_reasonAgainst R (wN x) 0) (sq_X7_reasonAgainst R (wN x) 1)) = 0 then (if (if 0 ≤ ((ciI (((sq_X7_orientationFrom R (wN x) 1).toInt64 - (sq_X7_orientationFrom R (wN x) 0).toInt64) + 4000)) - 4000) then ((ciI (((sq_X7_orientationFrom R (wN x) 1).toInt64 - (sq_X7_orientationFrom R (wN x) 0).toInt64) + 4000)) - 4000) else 0 - ((ciI (((sq_X7_orientationFrom R (wN x) 1).toInt64 - (sq_X7_orientationFrom R (wN x) 0).toInt64) + 4000)) - 4000)) ≤ R 1 then (((ciI ((sq_X7_orientationFrom R (wN x) 0).toInt64 + (sq_fdI ((ciI (((sq_X7_orientationFrom R (wN x) 1).toInt64 - (sq_X7_orientationFrom R (wN x) 0).toInt64) + 4000)) - 4000) 2).toInt64)), rs, hPut R (wN x) (R (69 + 3 * wN x)) (R (69 + 3 * wN x + 1)) 1 (ciI ((sq_X7_orientationFrom R (wN x) 0).toInt64 + (sq_fdI ((ciI (((sq_X7_orientationFrom R (wN x) 1).toInt64 - (sq_X7_orientationFrom R (wN x) 0).toInt64) + 4000)) - 4000) 2).toInt64)), (rmL ru lh), rmQ ru lh hq R)) else (((-100003), 5, R, lh, hq))) else (((-100003), (lrI (sq_X7_reasonAgainst R (wN x) 0) (sq_X7_reasonAgainst R (wN x) 1)), R, lh, hq)))
set_option maxHeartbeats 4000000 in
set_option maxRecDepth 100000 in
theorem k_X7_orient (l : Launch) (g : Gf) (n : Nat) (c : Mp) (lh : Nat) (ru rs : Int32) (hP : c 0 = plC g (nI lh) ru rs) (R : Nat → Int32) (hB : Bk g c 1 R) (hk5 : lh ≤ 5) (hq : Nat → Nat → Int32) (hH : Hx g c hq) (hW : WB R) (x : Int32) (sc : Nat) (hsc : R 4 = nI sc) (h5 : sc ≤ 5) : Ct l g yX7_orient wsX7_orient 4 95 0 0 [.ref (gz g + 0), .int x] n c (Qi g (fun xr n' c' => PA g c n ru (sq_X7_orient lh ru rs R hq x sc) xr n' c')) := by
  refine ent (by decide) rfl (Nat.le_of_ble_eq_true rfl) ?_
  intro p e s m args below meth c0 F h ls hl
  have hx := F.1
  have hb := F.2.1
  have hl : lv_has ls 7 [(0, .ref (gz g + 0)), (1, .int x)] := hl
  refine lv_aload_n hx hb dX7_orient_0 rfl (lv_at hl 0 rfl) ?_
  refine lv_iload_n hx hb dX7_orient_1 rfl (lv_at hl 1 rfl) ?_
  refine u_iE (v := (inI x 0 (R 4 - 1))) (ru_V (As := [.int x]) (rest := []) F h hP rfl (k_X7_isStation l g n c lh ru rs hP R hB x ) (gV hjl wd_522 wd_524 wd_5 wd_16 wd_525) rfl 1 (by decide +kernel) rfl ⟨Nat.le_of_ble_eq_true rfl, Nat.le_of_ble_eq_true rfl⟩ rfl hl.1 (Nat.le_of_ble_eq_true rfl) ⟨Nat.zero_le _, Nat.zero_le _⟩ dX7_orient_2) h (fun H locs h => ?_)
  refine lv_if_ne (tgt := 11) hx hb dX7_orient_5 (by decide) (fun b_5 => ?_) (fun b_5 => ?_)
  · skip
    have h_x := isS_w hsc h5 b_5
    have h4_x : wN x < 5 := by omega
    have hl : lv_has ls 7 [(0, .ref (gz g + 0)), (1, .int (nI (wN x)))] := by rw [show (nI (wN x) : Int32) = x from h_x.2]; exact hl
    refine lv_aload_n hx hb dX7_orient_11 rfl (lv_at hl 0 rfl) ?_
    refine lv_iload_n hx hb dX7_orient_12 rfl (lv_at hl 1 rfl) ?_
    refine lv_iconst (v := 0) hx hb dX7_orient_13 (by decide) ?_
    refine u_iE (v := (sq_X7_reasonAgainst R (wN x) 0)) (ru_V (As := [.int (nI (wN x)), .int 0]) (rest := []) F h hP rfl (k_X7_reasonAgainst l g n c lh ru rs hP R hB (wN x) 0 (by omega) (by omega)) (gV hjl wd_561 wd_563 wd_11 wd_16 wd_564) rfl 2 (by decide +kernel) rfl ⟨Nat.le_of_ble_eq_true rfl, Nat.le_of_ble_eq_true rfl⟩ rfl hl.1 (Nat.le_of_ble_eq_true rfl) ⟨Nat.zero_le _, Nat.zero_le _⟩ dX7_orient_14) h (fun H locs h => ?_)
    refine lv_aload_n hx hb dX7_orient_17 rfl (lv_at hl 0 rfl) ?_
    refine lv_iload_n hx hb dX7_orient_18 rfl (lv_at hl 1 rfl) ?_
    refine lv_iconst (v := 1) hx hb dX7_orient_19 (by decide) ?_
    refine u_iE (v := (sq_X7_reasonAgainst R (wN x) 1)) (ru_V (As := [.int (nI (wN x)), .int 1]) (rest := [.int (sq_X7_reasonAgainst R (wN x) 0)]) F h hP rfl (k_X7_reasonAgainst l g n c lh ru rs hP R hB (wN x) 1 (by omega) (by omega)) (gV hjl wd_561 wd_563 wd_11 wd_16 wd_564) rfl 2 (by decide +kernel) rfl ⟨Nat.le_of_ble_eq_true rfl, Nat.le_of_ble_eq_true rfl⟩ rfl hl.1 (Nat.le_of_ble_eq_true rfl) ⟨Nat.zero_le _, Nat.zero_le _⟩ dX7_orient_20) h (fun H locs h => ?_)
    refine u_iE (v := (lrI (sq_X7_reasonAgainst R (wN x) 0) (sq_X7_reasonAgainst R (wN x) 1))) (ru_S (As := [.int (sq_X7_reasonAgainst R (wN x) 0), .int (sq_X7_reasonAgainst R (wN x) 1)]) (rest := []) F h (k_X7_lowerReason l g n c (sq_X7_reasonAgainst R (wN x) 0) (sq_X7_reasonAgainst R (wN x) 1)) (gS hjl wd_668 wd_669 wd_16 wd_670) rfl 2 (by decide +kernel) rfl ⟨Nat.le_of_ble_eq_true rfl, Nat.le_of_ble_eq_true rfl⟩ rfl hl.1 (Nat.le_of_ble_eq_true rfl) ⟨Nat.zero_le _, Nat.zero_le _⟩ dX7_orient_23) h (fun H locs h => ?_)
    refine lv_istore_n (lv' := [(2, .int (lrI (sq_X7_reasonAgainst R (wN x) 0) (sq_X7_reasonAgainst R (wN x) 1))), (0, .ref (gz g + 0)), (1, .int (nI (wN x)))]) hx hb dX7_orient_26 rfl hl (by decide) rfl (fun ls hl => ?_)
    refine lv_iload_n hx hb dX7_orient_27 rfl (lv_at hl 0 rfl) ?_
    refine lv_if_eq (tgt := 37) hx hb dX7_orient_28 (by decide) (fun b_28 => ?_) (fun b_28 => ?_)
    · skip
      refine lv_aload_n hx hb dX7_orient_37 rfl (lv_at hl 1 rfl) ?_
      refine lv_iload_n hx hb dX7_orient_38 rfl (lv_at hl 2 rfl) ?_
      refine lv_iconst (v := 0) hx hb dX7_orient_39 (by decide) ?_
      refine u_iE (v := (sq_X7_orientationFrom R (wN x) 0)) (ru_V (As := [.int (nI (wN x)), .int 0]) (rest := []) F h hP rfl (k_X7_orientationFrom l g n c lh ru rs hP R hB (wN x) 0 (by omega) (by omega)) (gV hjl wd_573 wd_575 wd_14 wd_16 wd_576) rfl 2 (by decide +kernel) rfl ⟨Nat.le_of_ble_eq_true rfl, Nat.le_of_ble_eq_true rfl⟩ rfl hl.1 (Nat.le_of_ble_eq_true rfl) ⟨Nat.zero_le _, Nat.zero_le _⟩ dX7_orient_40) h (fun H locs h => ?_)
      refine lv_istore_n (lv' := [(3, .int (sq_X7_orientationFrom R (wN x) 0)), (2, .int (lrI (sq_X7_reasonAgainst R (wN x) 0) (sq_X7_reasonAgainst R (wN x) 1))), (0, .ref (gz g + 0)), (1, .int (nI (wN x)))]) hx hb dX7_orient_43 rfl hl (by decide) rfl (fun ls hl => ?_)
      refine lv_aload_n hx hb dX7_orient_44 rfl (lv_at hl 2 rfl) ?_
      refine lv_iload_n hx hb dX7_orient_45 rfl (lv_at hl 3 rfl) ?_
      refine lv_iconst (v := 1) hx hb dX7_orient_46 (by decide) ?_
      refine u_iE (v := (sq_X7_orientationFrom R (wN x) 1)) (ru_V (As := [.int (nI (wN x)), .int 1]) (rest := []) F h hP rfl (k_X7_orientationFrom l g n c lh ru rs hP R hB (wN x) 1 (by omega) (by omega)) (gV hjl wd_573 wd_575 wd_14 wd_16 wd_576) rfl 2 (by decide +kernel) rfl ⟨Nat.le_of_ble_eq_true rfl, Nat.le_of_ble_eq_true rfl⟩ rfl hl.1 (Nat.le_of_ble_eq_true rfl) ⟨Nat.zero_le _, Nat.zero_le _⟩ dX7_orient_47) h (fun H locs h => ?_)
      refine lv_istore (lv' := [(4, .int (sq_X7_orientationFrom R (wN x) 1)), (3, .int (sq_X7_orientationFrom R (wN x) 0)), (2, .int (lrI (sq_X7_reasonAgainst R (wN x) 0) (sq_X7_reasonAgainst R (wN x) 1))), (0, .ref (gz g + 0)), (1, .int (nI (wN x)))]) hx hb dX7_orient_50 hl (by decide) rfl (fun ls hl => ?_)
      refine lv_iload hx hb dX7_orient_52 (lv_at hl 0 rfl) ?_
      refine lv_i2l hx hb dX7_orient_54 rfl ?_
      refine lv_iload_n hx hb dX7_orient_55 rfl (lv_at hl 1 rfl) ?_
      refine lv_i2l hx hb dX7_orient_56 rfl ?_
      refine lv_lsub hx hb dX7_orient_57 ?_
      refine lv_ldc2 (v := 4000) hx hb F.2.2.2.1 (F.2.2.2.2.1 (Cond.constantLong RX7 175 4000) (List.mem_cons_of_mem _ wd_440)) dX7_orient_58 ?_
      refine lv_ladd hx hb dX7_orient_61 ?_
      refine u_iE (v := (ciI (((sq_X7_orientationFrom R (wN x) 1).toInt64 - (sq_X7_orientationFrom R (wN x) 0).toInt64) + 4000))) (ru_S (As := [.long (((sq_X7_orientationFrom R (wN x) 1).toInt64 - (sq_X7_orientationFrom R (wN x) 0).toInt64) + 4000)]) (rest := []) F h (k_X7_onCircle l g n c (((sq_X7_orientationFrom R (wN x) 1).toInt64 - (sq_X7_orientationFrom R (wN x) 0).toInt64) + 4000)) (gS hjl wd_577 wd_578 wd_16 wd_579) rfl 1 (by decide +kernel) rfl ⟨Nat.le_of_ble_eq_true rfl, Nat.le_of_ble_eq_true rfl⟩ rfl hl.1 (Nat.le_of_ble_eq_true rfl) ⟨Nat.zero_le _, Nat.zero_le _⟩ dX7_orient_62) h (fun H locs h => ?_)
      refine lv_sipush (v := 4000) hx hb dX7_orient_65 (by decide) ?_
      refine lv_isub hx hb dX7_orient_68 ?_
      refine lv_istore (lv' := [(5, .int ((ciI (((sq_X7_orientationFrom R (wN x) 1).toInt64 - (sq_X7_orientationFrom R (wN x) 0).toInt64) + 4000)) - 4000)), (4, .int (sq_X7_orientationFrom R (wN x) 1)), (3, .int (sq_X7_orientationFrom R (wN x) 0)), (2, .int (lrI (sq_X7_reasonAgainst R (wN x) 0) (sq_X7_reasonAgainst R (wN x) 1))), (0, .ref (gz g + 0)), (1, .int (nI (wN x)))]) hx hb dX7_orient_69 hl (by decide) rfl (fun ls hl => ?_)
      refine lv_iload hx hb dX7_orient_71 (lv_at hl 0 rfl) ?_
      refine va_mabs hx hb (F.2.2.1.trans hl.1.symm) F.2.2.2.1 (F.2.2.2.2.1 _ (List.mem_cons_of_mem _ wd_343)) (F.2.2.2.2.1 _ (List.mem_cons_of_mem _ wd_344)) (F.2.2.2.2.1 _ (List.mem_cons_of_mem _ wd_23)) (F.2.2.2.2.1 _ (List.mem_cons_of_mem _ wd_345)) (Nat.le_of_ble_eq_true rfl) (Nat.le_of_ble_eq_true rfl) (Nat.zero_le _) (Nat.zero_le _) dX7_orient_73 ?_
      refine lv_aload_n hx hb dX7_orient_76 rfl (lv_at hl 4 rfl) ?_
      refine r_get F h (C := RX7) (T := TX7) (N := 8) (hjc hi_X7) rfl hP 0 (by decide) (List.mem_cons_of_mem _ wd_245) rfl dX7_orient_77 ?_
      refine r_get F h (C := RX4) (T := TX4) (N := 8) (hjc hi_X4) rfl hB.1 6 (by decide) (List.mem_cons_of_mem _ wd_198) rfl dX7_orient_80 ?_
      refine lv_icmp_le (tgt := 92) hx hb dX7_orient_83 (by decide) (fun b_83 => ?_) (fun b_83 => ?_)
      · skip
        refine lv_aload_n hx hb dX7_orient_92 rfl (lv_at hl 4 rfl) ?_
        refine u_v (ru_V (As := []) (rest := []) F h hP rfl (k_X7_remember l g n c lh ru rs hP R hB hk5 hq hH hW) (gV hjl wd_282 wd_284 wd_0 wd_16 wd_285) rfl 0 (by decide +kernel) rfl ⟨Nat.le_of_ble_eq_true rfl, Nat.le_of_ble_eq_true rfl⟩ rfl hl.1 (Nat.le_of_ble_eq_true rfl) ⟨Nat.zero_le _, Nat.zero_le _⟩ dX7_orient_93) h (fun n1 cz1 H locs hp h => ?_)
        obtain ⟨hnz1, hPz1, hBz1, hHz1, hFz1⟩ := hp
        rw [hnz1] at h
        refine lv_aload_n hx hb dX7_orient_96 rfl (lv_at hl 4 rfl) ?_
        refine r_get F h (C := RX7) (T := TX7) (N := 8) (hjc hi_X7) rfl hPz1 0 (by decide) (List.mem_cons_of_mem _ wd_245) rfl dX7_orient_97 ?_
        refine r_get F h (C := RX4) (T := TX4) (N := 8) (hjc hi_X4) rfl hBz1.1 3 (by decide) (List.mem_cons_of_mem _ wd_192) rfl dX7_orient_100 ?_
        refine lv_iload_n hx hb dX7_orient_103 rfl (lv_at hl 5 rfl) ?_
        refine r_aald F h (C := RX5) hBz1.2.2.2.1 (t0 := 6) rfl (vp_in_nI (show wN x < 5 by omega) (by decide)) (a := gz g + (1 + 13 + 6 * wN x)) (qs_at (fun k => some (gz g + (1 + 13 + 6 * k))) (by omega)) dX7_orient_104 ?_
        refine lv_astore (lv' := [(6, .ref (gz g + (1 + 13 + 6 * wN x))), (5, .int ((ciI (((sq_X7_orientationFrom R (wN x) 1).toInt64 - (sq_X7_orientationFrom R (wN x) 0).toInt64) + 4000)) - 4000)), (4, .int (sq_X7_orientationFrom R (wN x) 1)), (3, .int (sq_X7_orientationFrom R (wN x) 0)), (2, .int (lrI (sq_X7_reasonAgainst R (wN x) 0) (sq_X7_reasonAgainst R (wN x) 1))), (0, .ref (gz g + 0)), (1, .int (nI (wN x)))]) hx hb dX7_orient_105 hl (by decide) rfl (fun ls hl => ?_)
        refine lv_aload hx hb dX7_orient_107 (lv_at hl 0 rfl) ?_
        refine lv_iload_n hx hb dX7_orient_109 rfl (lv_at hl 3 rfl) ?_
        refine lv_i2l hx hb dX7_orient_110 rfl ?_
        refine lv_iload hx hb dX7_orient_111 (lv_at hl 1 rfl) ?_
        refine lv_iconst (v := 2) hx hb dX7_orient_113 (by decide) ?_
        refine u_iE (v := (sq_fdI ((ciI (((sq_X7_orientationFrom R (wN x) 1).toInt64 - (sq_X7_orientationFrom R (wN x) 0).toInt64) + 4000)) - 4000) 2)) (ru_S (As := [.int ((ciI (((sq_X7_orientationFrom R (wN x) 1).toInt64 - (sq_X7_orientationFrom R (wN x) 0).toInt64) + 4000)) - 4000), .int 2]) (rest := [.long ((sq_X7_orientationFrom R (wN x) 0).toInt64), .ref (gz g + (1 + 13 + 6 * wN x))]) F h (k_J9_floorDiv_7cf53 l g n cz1 ((ciI (((sq_X7_orientationFrom R (wN x) 1).toInt64 - (sq_X7_orientationFrom R (wN x) 0).toInt64) + 4000)) - 4000) 2 (by decide)) (gS hjl wd_672 wd_653 wd_23b wd_654) rfl 2 (by decide +kernel) rfl ⟨Nat.le_of_ble_eq_true rfl, Nat.le_of_ble_eq_true rfl⟩ rfl hl.1 (Nat.le_of_ble_eq_true rfl) ⟨Nat.zero_le _, Nat.zero_le _⟩ dX7_orient_114) h (fun H locs h => ?_)
        refine lv_i2l hx hb dX7_orient_117 rfl ?_
        refine lv_ladd hx hb dX7_orient_118 ?_
        refine u_iE (v := (ciI ((sq_X7_orientationFrom R (wN x) 0).toInt64 + (sq_fdI ((ciI (((sq_X7_orientationFrom R (wN x) 1).toInt64 - (sq_X7_orientationFrom R (wN x) 0).toInt64) + 4000)) - 4000) 2).toInt64))) (ru_S (As := [.long ((sq_X7_orientationFrom R (wN x) 0).toInt64 + (sq_fdI ((ciI (((sq_X7_orientationFrom R (wN x) 1).toInt64 - (sq_X7_orientationFrom R (wN x) 0).toInt64) + 4000)) - 4000) 2).toInt64)]) (rest := [.ref (gz g + (1 + 13 + 6 * wN x))]) F h (k_X7_onCircle l g n cz1 ((sq_X7_orientationFrom R (wN x) 0).toInt64 + (sq_fdI ((ciI (((sq_X7_orientationFrom R (wN x) 1).toInt64 - (sq_X7_orientationFrom R (wN x) 0).toInt64) + 4000)) - 4000) 2).toInt64)) (gS hjl wd_577 wd_578 wd_16 wd_579) rfl 1 (by decide +kernel) rfl ⟨Nat.le_of_ble_eq_true rfl, Nat.le_of_ble_eq_true rfl⟩ rfl hl.1 (Nat.le_of_ble_eq_true rfl) ⟨Nat.zero_le _, Nat.zero_le _⟩ dX7_orient_119) h (fun H locs h => ?_)
        refine r_put F h (C := RX5) (T := TX5) (N := 5) (fs' := [.int (R (69 + 3 * wN x)), .int (R (69 + 3 * wN x + 1)), .int (R (204 + wN x)), .int (ciI ((sq_X7_orientationFrom R (wN x) 0).toInt64 + (sq_fdI ((ciI (((sq_X7_orientationFrom R (wN x) 1).toInt64 - (sq_X7_orientationFrom R (wN x) 0).toInt64) + 4000)) - 4000) 2).toInt64)), .ref (gz g + (1 + 13 + 6 * wN x + 1))]) (hjc hi_X5) tyX5 tyX5_ok nmX5 rfl ((hBz1.2.2.2.2 (wN x) (by omega)).1) 3 (by decide) (List.mem_cons_of_mem _ wd_170) rfl (rfl) (rfl) (Nat.le_of_ble_eq_true rfl) rfl dX7_orient_122 (fun H locs h => ?_)
        refine lv_aload hx hb dX7_orient_125 (lv_at hl 0 rfl) ?_
        refine lv_iconst (v := 1) hx hb dX7_orient_127 (by decide) ?_
        refine r_put F h (C := RX5) (T := TX5) (N := 5) (fs' := [.int (R (69 + 3 * wN x)), .int (R (69 + 3 * wN x + 1)), .int 1, .int (ciI ((sq_X7_orientationFrom R (wN x) 0).toInt64 + (sq_fdI ((ciI (((sq_X7_orientationFrom R (wN x) 1).toInt64 - (sq_X7_orientationFrom R (wN x) 0).toInt64) + 4000)) - 4000) 2).toInt64)), .ref (gz g + (1 + 13 + 6 * wN x + 1))]) (hjc hi_X5) tyX5 tyX5_ok nmX5 rfl (mu_eq _ _ _) 2 (by decide) (List.mem_cons_of_mem _ wd_168) rfl (by decide) (by decide) (Nat.le_of_ble_eq_true rfl) rfl dX7_orient_128 (fun H locs h => ?_)
        refine r_mem (c1 := (va_up cz1 (1 + 13 + 6 * wN x) (some (.inr (5, [.int (R (69 + 3 * wN x)), .int (R (69 + 3 * wN x + 1)), .int 1, .int (ciI ((sq_X7_orientationFrom R (wN x) 0).toInt64 + (sq_fdI ((ciI (((sq_X7_orientationFrom R (wN x) 1).toInt64 - (sq_X7_orientationFrom R (wN x) 0).toInt64) + 4000)) - 4000) 2).toInt64)), .ref (gz g + (1 + 13 + 6 * wN x + 1))]))))) h (mu_uu _ _ _ _) (fun h => ?_)
        refine lv_aload hx hb dX7_orient_131 (lv_at hl 0 rfl) ?_
        refine r_get F h (C := RX5) (T := TX5) (N := 5) (hjc hi_X5) rfl (mu_eq _ _ _) 3 (by decide) (List.mem_cons_of_mem _ wd_170) rfl dX7_orient_133 ?_
        exact ret_i F h (Nat.zero_le _) (Nat.zero_le _) dX7_orient_136 (paE (show sq_X7_orient lh ru rs R hq x sc = ((ciI ((sq_X7_orientationFrom R (wN x) 0).toInt64 + (sq_fdI ((ciI (((sq_X7_orientationFrom R (wN x) 1).toInt64 - (sq_X7_orientationFrom R (wN x) 0).toInt64) + 4000)) - 4000) 2).toInt64)), rs, hPut R (wN x) (R (69 + 3 * wN x)) (R (69 + 3 * wN x + 1)) 1 (ciI ((sq_X7_orientationFrom R (wN x) 0).toInt64 + (sq_fdI ((ciI (((sq_X7_orientationFrom R (wN x) 1).toInt64 - (sq_X7_orientationFrom R (wN x) 0).toInt64) + 4000)) - 4000) 2).toInt64)), (rmL ru lh), rmQ ru lh hq R) by rw [sq_X7_orient, if_neg (c := (inI x 0 (R 4 - 1)) = 0) b_5, if_pos (c := (lrI (sq_X7_reasonAgainst R (wN x) 0) (sq_X7_reasonAgainst R (wN x) 1)) = 0) b_28, if_pos (c := (if 0 ≤ ((ciI (((sq_X7_orientationFrom R (wN x) 1).toInt64 - (sq_X7_orientationFrom R (wN x) 0).toInt64) + 4000)) - 4000) then ((ciI (((sq_X7_orientationFrom R (wN x) 1).toInt64 - (sq_X7_orientationFrom R (wN x) 0).toInt64) + 4000)) - 4000) else 0 - ((ciI (((sq_X7_orientationFrom R (wN x) 1).toInt64 - (sq_X7_orientationFrom R (wN x) 0).toInt64) + 4000)) - 4000)) ≤ R 1) b_83]) (Nat.le_refl _) ((mu_ne (by omega) _).trans hPz1) (hBz1.headP (s := wN x) (by omega) (R (69 + 3 * wN x)) (R (69 + 3 * wN x + 1)) 1 (ciI ((sq_X7_orientationFrom R (wN x) 0).toInt64 + (sq_fdI ((ciI (((sq_X7_orientationFrom R (wN x) 1).toInt64 - (sq_X7_orientationFrom R (wN x) 0).toInt64) + 4000)) - 4000) 2).toInt64))) (hHz1.up (by omega)) ((Fn.rfl'.fr hFz1 (by decide)).up (by omega)))
      refine lv_aload_n hx hb dX7_orient_86 rfl (lv_at hl 4 rfl) ?_
      refine lv_iconst (v := 5) hx hb dX7_orient_87 (by decide) ?_
      refine u_iE (v := (-100003)) (ru_V (As := [.int 5]) (rest := []) F h hP rfl (k_X7_refuse l g n c lh ru rs hP R hB 5) (gV hjl wd_334 wd_336 wd_3 wd_16 wd_337) rfl 1 (by decide +kernel) rfl ⟨Nat.le_of_ble_eq_true rfl, Nat.le_of_ble_eq_true rfl⟩ rfl hl.1 (Nat.le_of_ble_eq_true rfl) ⟨Nat.zero_le _, Nat.zero_le _⟩ dX7_orient_88) h (fun H locs h => ?_)
      exact ret_i F h (Nat.zero_le _) (Nat.zero_le _) dX7_orient_91 (paE (show sq_X7_orient lh ru rs R hq x sc = ((-100003), 5, R, lh, hq) by rw [sq_X7_orient, if_neg (c := (inI x 0 (R 4 - 1)) = 0) b_5, if_pos (c := (lrI (sq_X7_reasonAgainst R (wN x) 0) (sq_X7_reasonAgainst R (wN x) 1)) = 0) b_28, if_neg (c := (if 0 ≤ ((ciI (((sq_X7_orientationFrom R (wN x) 1).toInt64 - (sq_X7_orientationFrom R (wN x) 0).toInt64) + 4000)) - 4000) then ((ciI (((sq_X7_orientationFrom R (wN x) 1).toInt64 - (sq_X7_orientationFrom R (wN x) 0).toInt64) + 4000)) - 4000) else 0 - ((ciI (((sq_X7_orientationFrom R (wN x) 1).toInt64 - (sq_X7_orientationFrom R (wN x) 0).toInt64) + 4000)) - 4000)) ≤ R 1) b_83]) (Nat.le_refl _) (mu_eq _ _ _) (hB.out (by omega)) (hH.up (by omega)) (Fn.rfl'.up (by omega)))
    refine lv_aload_n hx hb dX7_orient_31 rfl (lv_at hl 1 rfl) ?_
    refine lv_iload_n hx hb dX7_orient_32 rfl (lv_at hl 0 rfl) ?_
    refine u_iE (v := (-100003)) (ru_V (As := [.int (lrI (sq_X7_reasonAgainst R (wN x) 0) (sq_X7_reasonAgainst R (wN x) 1))]) (rest := []) F h hP rfl (k_X7_refuse l g n c lh ru rs hP R hB (lrI (sq_X7_reasonAgainst R (wN x) 0) (sq_X7_reasonAgainst R (wN x) 1))) (gV hjl wd_334 wd_336 wd_3 wd_16 wd_337) rfl 1 (by decide +kernel) rfl ⟨Nat.le_of_ble_eq_true rfl, Nat.le_of_ble_eq_true rfl⟩ rfl hl.1 (Nat.le_of_ble_eq_true rfl) ⟨Nat.zero_le _, Nat.zero_le _⟩ dX7_orient_33) h (fun H locs h => ?_)
    exact ret_i F h (Nat.zero_le _) (Nat.zero_le _) dX7_orient_36 (paE (show sq_X7_orient lh ru rs R hq x sc = ((-100003), (lrI (sq_X7_reasonAgainst R (wN x) 0) (sq_X7_reasonAgainst R (wN x) 1)), R, lh, hq) by rw [sq_X7_orient, if_neg (c := (inI x 0 (R 4 - 1)) = 0) b_5, if_neg (c := (lrI (sq_X7_reasonAgainst R (wN x) 0) (sq_X7_reasonAgainst R (wN x) 1)) = 0) b_28]) (Nat.le_refl _) (mu_eq _ _ _) (hB.out (by omega)) (hH.up (by omega)) (Fn.rfl'.up (by omega)))
  refine lv_ldc (v := (-100001)) hx hb F.2.2.2.1 (F.2.2.2.2.1 (Cond.constant RX7 42 (-100001)) (List.mem_cons_of_mem _ wd_280)) dX7_orient_8 ?_
  exact ret_i F h (Nat.zero_le _) (Nat.zero_le _) dX7_orient_10 (paE (show sq_X7_orient lh ru rs R hq x sc = ((-100001), rs, R, lh, hq) by rw [sq_X7_orient, if_pos (c := (inI x 0 (R 4 - 1)) = 0) b_5]) (Nat.le_refl _) hP hB hH Fn.rfl')
