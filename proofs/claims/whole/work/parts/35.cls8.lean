/-! The class: carrying out an order. -/
/-- nothing but the text, the history and the block at 1 is another -/
def Ft (c c' : Mp) (n : Nat) : Prop := ∀ i : Nat, (260 ≤ i ∧ i < 348) ∨ (352 ≤ i ∧ i < n) → c' i = c i
theorem Ft.rfl' {c : Mp} {n : Nat} : Ft c c n := fun _ _ => rfl
theorem Ft.up {c c' : Mp} {n : Nat} (h : Ft c c' n) {i : Nat} {e : Option va_E} (hi : i < 260 ∨ (348 ≤ i ∧ i < 352)) : Ft c (va_up c' i e) n := fun j h1 => (mu_ne (by omega) _).trans (h j h1)
theorem Ft.fr {c c1 c2 : Mp} {n lo hi : Nat} (h : Ft c c1 n) (F : Fr c1 c2 lo hi) (hh : hi ≤ 260) : Ft c c2 n := fun j h1 => (F j (by omega)).trans (h j h1)
theorem Ft.fn {c c1 c2 : Mp} {n n1 : Nat} (h : Ft c c1 n) (F : Fn c1 c2 n1) (hn : n ≤ n1) (h6 : 352 ≤ n) : Ft c c2 n := fun j h1 => (F j (by omega) (by omega)).trans (h j h1)
def sq_X7_carryOut (lh : Nat) (ru rs : Int32) (R : Nat → Int32) (hq : Nat → Nat → Int32) (wd nu : Nat → Int32) (k1 sc cn : Nat) : ClT := if (wd k1) = 0 then (((sq_X7_pass lh ru rs R hq (nu (k1 * 3 + 0))).1, (sq_X7_pass lh ru rs R hq (nu (k1 * 3 + 0))).2.1, (sq_X7_pass lh ru rs R hq (nu (k1 * 3 + 0))).2.2.1, ((sq_X7_pass lh ru rs R hq (nu (k1 * 3 + 0))).2.2.2.1), (sq_X7_pass lh ru rs R hq (nu (k1 * 3 + 0))).2.2.2.2)) else (if (wd k1) = 1 then (((sq_X7_push lh ru rs R hq (nu (k1 * 3 + 0)) (nu (k1 * 3 + 1)) (nu (k1 * 3 + 2)) sc).1, (sq_X7_push lh ru rs R hq (nu (k1 * 3 + 0)) (nu (k1 * 3 + 1)) (nu (k1 * 3 + 2)) sc).2.1, (sq_X7_push lh ru rs R hq (nu (k1 * 3 + 0)) (nu (k1 * 3 + 1)) (nu (k1 * 3 + 2)) sc).2.2.1, ((sq_X7_push lh ru rs R hq (nu (k1 * 3 + 0)) (nu (k1 * 3 + 1)) (nu (k1 * 3 + 2)) sc).2.2.2.1), (sq_X7_push lh ru rs R hq (nu (k1 * 3 + 0)) (nu (k1 * 3 + 1)) (nu (k1 * 3 + 2)) sc).2.2.2.2)) else (if (wd k1) = 2 then (((sq_X7_observe lh ru rs R hq (nu (k1 * 3 + 0)) (nu (k1 * 3 + 1)) (nu (k1 * 3 + 2)) sc cn).1, (sq_X7_observe lh ru rs R hq (nu (k1 * 3 + 0)) (nu (k1 * 3 + 1)) (nu (k1 * 3 + 2)) sc cn).2.1, (sq_X7_observe lh ru rs R hq (nu (k1 * 3 + 0)) (nu (k1 * 3 + 1)) (nu (k1 * 3 + 2)) sc cn).2.2.1, ((sq_X7_observe lh ru rs R hq (nu (k1 * 3 + 0)) (nu (k1 * 3 + 1)) (nu (k1 * 3 + 2)) sc cn).2.2.2.1), (sq_X7_observe lh ru rs R hq (nu (k1 * 3 + 0)) (nu (k1 * 3 + 1)) (nu (k1 * 3 + 2)) sc cn).2.2.2.2)) else (if (wd k1) = 3 then (((sq_X7_swap lh ru rs R hq (nu (k1 * 3 + 0)) (nu (k1 * 3 + 1)) sc).1, (sq_X7_swap lh ru rs R hq (nu (k1 * 3 + 0)) (nu (k1 * 3 + 1)) sc).2.1, (sq_X7_swap lh ru rs R hq (nu (k1 * 3 + 0)) (nu (k1 * 3 + 1)) sc).2.2.1, ((sq_X7_swap lh ru rs R hq (nu (k1 * 3 + 0)) (nu (k1 * 3 + 1)) sc).2.2.2.1), (sq_X7_swap lh ru rs R hq (nu (k1 * 3 + 0)) (nu (k1 * 3 + 1)) sc).2.2.2.2)) else (if (wd k1) = 4 then (((sq_X7_orient lh ru rs R hq (nu (k1 * 3 + 0)) sc).1, (sq_X7_orient lh ru rs R hq (nu (k1 * 3 + 0)) sc).2.1, (sq_X7_orient lh ru rs R hq (nu (k1 * 3 + 0)) sc).2.2.1, ((sq_X7_orient lh ru rs R hq (nu (k1 * 3 + 0)) sc).2.2.2.1), (sq_X7_orient lh ru rs R hq (nu (k1 * 3 + 0)) sc).2.2.2.2)) else (((sq_X7_orient lh ru rs R hq (nu (k1 * 3 + 0)) sc).1, (sq_X7_orient lh ru rs R hq (nu (k1 * 3 + 0)) sc).2.1, (sq_X7_orient lh ru rs R hq (nu (k1 * 3 + 0)) sc).2.2.1, ((sq_X7_orient lh ru rs R hq (nu (k1 * 3 + 0)) sc).2.2.2.1), (sq_X7_orient lh ru rs R hq (nu (k1 * 3 + 0)) sc).2.2.2.2))))))
set_option maxHeartbeats 4000000 in
set_option maxRecDepth 100000 in
theorem k_X7_carryOut (l : Launch) (g : Gf) (n : Nat) (c : Mp) (lh : Nat) (ru rs : Int32) (hP : c 0 = plC g (nI lh) ru rs) (R : Nat → Int32) (hB : Bk g c 1 R) (hk5 : lh ≤ 5) (hq : Nat → Nat → Int32) (hH : Hx g c hq) (hW : WB R) (T ct pl : Int32) (hO : c 348 = otC g T ct pl) (wd : Nat → Int32) (hOw : c 350 = iaA (g.2.1 0) 11 wd) (nu : Nat → Int32) (hOn : c 351 = iaA (g.2.1 0) 33 nu) (k1 : Nat) (hk11 : k1 < 11) (sc cn : Nat) (hsc : R 4 = nI sc) (h5 : sc ≤ 5) (hcn : R 3 = nI cn) (h5c : cn ≤ 5) (hn260 : 260 ≤ n) : Ct l g yX7_carryOut wsX7_carryOut 5 130 2 8 [.ref (gz g + 0), .int (nI k1)] n c (Qi g (fun xr n' c' => PA g c n ru (sq_X7_carryOut lh ru rs R hq wd nu k1 sc cn) xr n' c')) := by
  refine ent (by decide) rfl (Nat.le_of_ble_eq_true rfl) ?_
  intro p e s m args below meth c0 F h ls hl
  have hx := F.1
  have hb := F.2.1
  have hl : lv_has ls 5 [(0, .ref (gz g + 0)), (1, .int (nI k1))] := hl
  refine lv_aload_n hx hb dX7_carryOut_0 rfl (lv_at hl 0 rfl) ?_
  refine r_get F h (C := RX7) (T := TX7) (N := 8) (hjc hi_X7) rfl hP 5 (by decide) (List.mem_cons_of_mem _ wd_295) rfl dX7_carryOut_1 ?_
  refine lv_iload_n hx hb dX7_carryOut_4 rfl (lv_at hl 1 rfl) ?_
  refine lv_iconst (v := 0) hx hb dX7_carryOut_5 (by decide) ?_
  refine u_iE (v := (nu (k1 * 3 + 0))) (ru_V (As := [.int (nI k1), .int 0]) (rest := []) F h hO rfl (k_X2_numberOf l g n c T ct pl hO nu hOn k1 0 hk11 (by decide)) (gV hjl wd_723 wd_724 wd_725 wd_57 wd_726) rfl 2 (by decide +kernel) rfl ⟨Nat.le_of_ble_eq_true rfl, Nat.le_of_ble_eq_true rfl⟩ rfl hl.1 (Nat.le_of_ble_eq_true rfl) ⟨Nat.zero_le _, Nat.zero_le _⟩ dX7_carryOut_6) h (fun H locs h => ?_)
  refine lv_istore_n (lv' := [(2, .int (nu (k1 * 3 + 0))), (0, .ref (gz g + 0)), (1, .int (nI k1))]) hx hb dX7_carryOut_9 rfl hl (by decide) rfl (fun ls hl => ?_)
  refine lv_aload_n hx hb dX7_carryOut_10 rfl (lv_at hl 1 rfl) ?_
  refine r_get F h (C := RX7) (T := TX7) (N := 8) (hjc hi_X7) rfl hP 5 (by decide) (List.mem_cons_of_mem _ wd_295) rfl dX7_carryOut_11 ?_
  refine lv_iload_n hx hb dX7_carryOut_14 rfl (lv_at hl 2 rfl) ?_
  refine lv_iconst (v := 1) hx hb dX7_carryOut_15 (by decide) ?_
  refine u_iE (v := (nu (k1 * 3 + 1))) (ru_V (As := [.int (nI k1), .int 1]) (rest := []) F h hO rfl (k_X2_numberOf l g n c T ct pl hO nu hOn k1 1 hk11 (by decide)) (gV hjl wd_723 wd_724 wd_725 wd_57 wd_726) rfl 2 (by decide +kernel) rfl ⟨Nat.le_of_ble_eq_true rfl, Nat.le_of_ble_eq_true rfl⟩ rfl hl.1 (Nat.le_of_ble_eq_true rfl) ⟨Nat.zero_le _, Nat.zero_le _⟩ dX7_carryOut_16) h (fun H locs h => ?_)
  refine lv_istore_n (lv' := [(3, .int (nu (k1 * 3 + 1))), (2, .int (nu (k1 * 3 + 0))), (0, .ref (gz g + 0)), (1, .int (nI k1))]) hx hb dX7_carryOut_19 rfl hl (by decide) rfl (fun ls hl => ?_)
  refine lv_aload_n hx hb dX7_carryOut_20 rfl (lv_at hl 2 rfl) ?_
  refine r_get F h (C := RX7) (T := TX7) (N := 8) (hjc hi_X7) rfl hP 5 (by decide) (List.mem_cons_of_mem _ wd_295) rfl dX7_carryOut_21 ?_
  refine lv_iload_n hx hb dX7_carryOut_24 rfl (lv_at hl 3 rfl) ?_
  refine lv_iconst (v := 2) hx hb dX7_carryOut_25 (by decide) ?_
  refine u_iE (v := (nu (k1 * 3 + 2))) (ru_V (As := [.int (nI k1), .int 2]) (rest := []) F h hO rfl (k_X2_numberOf l g n c T ct pl hO nu hOn k1 2 hk11 (by decide)) (gV hjl wd_723 wd_724 wd_725 wd_57 wd_726) rfl 2 (by decide +kernel) rfl ⟨Nat.le_of_ble_eq_true rfl, Nat.le_of_ble_eq_true rfl⟩ rfl hl.1 (Nat.le_of_ble_eq_true rfl) ⟨Nat.zero_le _, Nat.zero_le _⟩ dX7_carryOut_26) h (fun H locs h => ?_)
  refine lv_istore (lv' := [(4, .int (nu (k1 * 3 + 2))), (3, .int (nu (k1 * 3 + 1))), (2, .int (nu (k1 * 3 + 0))), (0, .ref (gz g + 0)), (1, .int (nI k1))]) hx hb dX7_carryOut_29 hl (by decide) rfl (fun ls hl => ?_)
  refine lv_aload_n hx hb dX7_carryOut_31 rfl (lv_at hl 3 rfl) ?_
  refine r_get F h (C := RX7) (T := TX7) (N := 8) (hjc hi_X7) rfl hP 5 (by decide) (List.mem_cons_of_mem _ wd_295) rfl dX7_carryOut_32 ?_
  refine r_get F h (C := RX2) (T := TX2) (N := 6) (hjc hi_X2) rfl hO 2 (by decide) (List.mem_cons_of_mem _ wd_269) rfl dX7_carryOut_35 ?_
  refine lv_iload_n hx hb dX7_carryOut_38 rfl (lv_at hl 4 rfl) ?_
  refine r_ialdN F h (k := k1) hOw (rfl) (by omega) (by decide) dX7_carryOut_39 ?_
  by_cases q_40_0 : (wd k1) = 0
  · skip
    refine lv_tableIn (off := 36) (tgt := 76) hx hb dX7_carryOut_40 (by rw [q_40_0]; decide) (by rw [q_40_0]; decide) (by rw [q_40_0]; rfl) (by decide) ?_
    refine lv_aload_n hx hb dX7_carryOut_76 rfl (lv_at hl 3 rfl) ?_
    refine lv_iload_n hx hb dX7_carryOut_77 rfl (lv_at hl 2 rfl) ?_
    refine u_i (ru_V (As := [.int (nu (k1 * 3 + 0))]) (rest := []) F h hP rfl (k_X7_pass l g n c lh ru rs hP R hB hk5 hq hH hW (nu (k1 * 3 + 0)) ) (gV hjl wd_727 wd_444 wd_445 wd_51 wd_446) rfl 1 (by decide +kernel) rfl ⟨Nat.le_of_ble_eq_true rfl, Nat.le_of_ble_eq_true rfl⟩ rfl hl.1 (Nat.le_of_ble_eq_true rfl) ⟨Nat.zero_le _, Nat.zero_le _⟩ dX7_carryOut_78) h (fun r1 n1 cz1 H locs hp h => ?_)
    obtain ⟨hnz1, hrz1, hPz1, hBz1, hHz1, hFz1⟩ := hp
    rw [hrz1]
    exact ret_i F h (Nat.zero_le _) (Nat.zero_le _) dX7_carryOut_81 (paE (show sq_X7_carryOut lh ru rs R hq wd nu k1 sc cn = ((sq_X7_pass lh ru rs R hq (nu (k1 * 3 + 0))).1, (sq_X7_pass lh ru rs R hq (nu (k1 * 3 + 0))).2.1, (sq_X7_pass lh ru rs R hq (nu (k1 * 3 + 0))).2.2.1, ((sq_X7_pass lh ru rs R hq (nu (k1 * 3 + 0))).2.2.2.1), (sq_X7_pass lh ru rs R hq (nu (k1 * 3 + 0))).2.2.2.2) by rw [sq_X7_carryOut, if_pos (c := (wd k1) = 0) q_40_0]) (by omega) hPz1 hBz1 hHz1 (Fn.rfl'.trans hFz1 (Nat.le_refl _)))
  by_cases q_40_1 : (wd k1) = 1
  · skip
    refine lv_tableIn (off := 42) (tgt := 82) hx hb dX7_carryOut_40 (by rw [q_40_1]; decide) (by rw [q_40_1]; decide) (by rw [q_40_1]; rfl) (by decide) ?_
    refine lv_aload_n hx hb dX7_carryOut_82 rfl (lv_at hl 3 rfl) ?_
    refine lv_iload_n hx hb dX7_carryOut_83 rfl (lv_at hl 2 rfl) ?_
    refine lv_iload_n hx hb dX7_carryOut_84 rfl (lv_at hl 1 rfl) ?_
    refine lv_iload hx hb dX7_carryOut_85 (lv_at hl 0 rfl) ?_
    refine u_i (ru_V (As := [.int (nu (k1 * 3 + 0)), .int (nu (k1 * 3 + 1)), .int (nu (k1 * 3 + 2))]) (rest := []) F h hP rfl (k_X7_push l g n c lh ru rs hP R hB hk5 hq hH hW (nu (k1 * 3 + 0)) (nu (k1 * 3 + 1)) (nu (k1 * 3 + 2)) sc hsc h5) (gV hjl wd_728 wd_396 wd_397 wd_51 wd_398) rfl 3 (by decide +kernel) rfl ⟨Nat.le_of_ble_eq_true rfl, Nat.le_of_ble_eq_true rfl⟩ rfl hl.1 (Nat.le_of_ble_eq_true rfl) ⟨Nat.zero_le _, Nat.zero_le _⟩ dX7_carryOut_87) h (fun r1 n1 cz2 H locs hp h => ?_)
    obtain ⟨hnz2, hrz2, hPz2, hBz2, hHz2, hFz2⟩ := hp
    rw [hrz2]
    exact ret_i F h (Nat.zero_le _) (Nat.zero_le _) dX7_carryOut_90 (paE (show sq_X7_carryOut lh ru rs R hq wd nu k1 sc cn = ((sq_X7_push lh ru rs R hq (nu (k1 * 3 + 0)) (nu (k1 * 3 + 1)) (nu (k1 * 3 + 2)) sc).1, (sq_X7_push lh ru rs R hq (nu (k1 * 3 + 0)) (nu (k1 * 3 + 1)) (nu (k1 * 3 + 2)) sc).2.1, (sq_X7_push lh ru rs R hq (nu (k1 * 3 + 0)) (nu (k1 * 3 + 1)) (nu (k1 * 3 + 2)) sc).2.2.1, ((sq_X7_push lh ru rs R hq (nu (k1 * 3 + 0)) (nu (k1 * 3 + 1)) (nu (k1 * 3 + 2)) sc).2.2.2.1), (sq_X7_push lh ru rs R hq (nu (k1 * 3 + 0)) (nu (k1 * 3 + 1)) (nu (k1 * 3 + 2)) sc).2.2.2.2) by rw [sq_X7_carryOut, if_neg (c := (wd k1) = 0) q_40_0, if_pos (c := (wd k1) = 1) q_40_1]) (by omega) hPz2 hBz2 hHz2 (Fn.rfl'.trans hFz2 (Nat.le_refl _)))
  by_cases q_40_2 : (wd k1) = 2
  · skip
    refine lv_tableIn (off := 51) (tgt := 91) hx hb dX7_carryOut_40 (by rw [q_40_2]; decide) (by rw [q_40_2]; decide) (by rw [q_40_2]; rfl) (by decide) ?_
    refine lv_aload_n hx hb dX7_carryOut_91 rfl (lv_at hl 3 rfl) ?_
    refine lv_iload_n hx hb dX7_carryOut_92 rfl (lv_at hl 2 rfl) ?_
    refine lv_iload_n hx hb dX7_carryOut_93 rfl (lv_at hl 1 rfl) ?_
    refine lv_iload hx hb dX7_carryOut_94 (lv_at hl 0 rfl) ?_
    refine u_i (ru_V (As := [.int (nu (k1 * 3 + 0)), .int (nu (k1 * 3 + 1)), .int (nu (k1 * 3 + 2))]) (rest := []) F h hP rfl (k_X7_observe l g n c lh ru rs hP R hB hk5 hq hH hW (nu (k1 * 3 + 0)) (nu (k1 * 3 + 1)) (nu (k1 * 3 + 2)) sc cn hsc h5 hcn h5c hn260) (gV hjl wd_729 wd_461 wd_462 wd_51 wd_463) rfl 3 (by decide +kernel) rfl ⟨Nat.le_of_ble_eq_true rfl, Nat.le_of_ble_eq_true rfl⟩ rfl hl.1 (Nat.le_of_ble_eq_true rfl) ⟨by decide, by decide⟩ dX7_carryOut_96) h (fun r1 n1 cz3 H locs hp h => ?_)
    obtain ⟨hnz3, hrz3, hPz3, hBz3, hHz3, hFz3⟩ := hp
    rw [hrz3]
    exact ret_i F h (by decide) (by decide) dX7_carryOut_99 (paE (show sq_X7_carryOut lh ru rs R hq wd nu k1 sc cn = ((sq_X7_observe lh ru rs R hq (nu (k1 * 3 + 0)) (nu (k1 * 3 + 1)) (nu (k1 * 3 + 2)) sc cn).1, (sq_X7_observe lh ru rs R hq (nu (k1 * 3 + 0)) (nu (k1 * 3 + 1)) (nu (k1 * 3 + 2)) sc cn).2.1, (sq_X7_observe lh ru rs R hq (nu (k1 * 3 + 0)) (nu (k1 * 3 + 1)) (nu (k1 * 3 + 2)) sc cn).2.2.1, ((sq_X7_observe lh ru rs R hq (nu (k1 * 3 + 0)) (nu (k1 * 3 + 1)) (nu (k1 * 3 + 2)) sc cn).2.2.2.1), (sq_X7_observe lh ru rs R hq (nu (k1 * 3 + 0)) (nu (k1 * 3 + 1)) (nu (k1 * 3 + 2)) sc cn).2.2.2.2) by rw [sq_X7_carryOut, if_neg (c := (wd k1) = 0) q_40_0, if_neg (c := (wd k1) = 1) q_40_1, if_pos (c := (wd k1) = 2) q_40_2]) (by omega) hPz3 hBz3 hHz3 (Fn.rfl'.trans hFz3 (Nat.le_refl _)))
  by_cases q_40_3 : (wd k1) = 3
  · skip
    refine lv_tableIn (off := 60) (tgt := 100) hx hb dX7_carryOut_40 (by rw [q_40_3]; decide) (by rw [q_40_3]; decide) (by rw [q_40_3]; rfl) (by decide) ?_
    refine lv_aload_n hx hb dX7_carryOut_100 rfl (lv_at hl 3 rfl) ?_
    refine lv_iload_n hx hb dX7_carryOut_101 rfl (lv_at hl 2 rfl) ?_
    refine lv_iload_n hx hb dX7_carryOut_102 rfl (lv_at hl 1 rfl) ?_
    refine u_i (ru_V (As := [.int (nu (k1 * 3 + 0)), .int (nu (k1 * 3 + 1))]) (rest := []) F h hP rfl (k_X7_swap l g n c lh ru rs hP R hB hk5 hq hH hW (nu (k1 * 3 + 0)) (nu (k1 * 3 + 1)) sc sc hsc h5) (gV hjl wd_730 wd_405 wd_406 wd_51 wd_407) rfl 2 (by decide +kernel) rfl ⟨Nat.le_of_ble_eq_true rfl, Nat.le_of_ble_eq_true rfl⟩ rfl hl.1 (Nat.le_of_ble_eq_true rfl) ⟨Nat.zero_le _, Nat.zero_le _⟩ dX7_carryOut_103) h (fun r1 n1 cz4 H locs hp h => ?_)
    obtain ⟨hnz4, hrz4, hPz4, hBz4, hHz4, hFz4⟩ := hp
    rw [hrz4]
    exact ret_i F h (Nat.zero_le _) (Nat.zero_le _) dX7_carryOut_106 (paE (show sq_X7_carryOut lh ru rs R hq wd nu k1 sc cn = ((sq_X7_swap lh ru rs R hq (nu (k1 * 3 + 0)) (nu (k1 * 3 + 1)) sc).1, (sq_X7_swap lh ru rs R hq (nu (k1 * 3 + 0)) (nu (k1 * 3 + 1)) sc).2.1, (sq_X7_swap lh ru rs R hq (nu (k1 * 3 + 0)) (nu (k1 * 3 + 1)) sc).2.2.1, ((sq_X7_swap lh ru rs R hq (nu (k1 * 3 + 0)) (nu (k1 * 3 + 1)) sc).2.2.2.1), (sq_X7_swap lh ru rs R hq (nu (k1 * 3 + 0)) (nu (k1 * 3 + 1)) sc).2.2.2.2) by rw [sq_X7_carryOut, if_neg (c := (wd k1) = 0) q_40_0, if_neg (c := (wd k1) = 1) q_40_1, if_neg (c := (wd k1) = 2) q_40_2, if_pos (c := (wd k1) = 3) q_40_3]) (by omega) hPz4 hBz4 hHz4 (Fn.rfl'.trans hFz4 (Nat.le_refl _)))
  by_cases q_40_4 : (wd k1) = 4
  · skip
    refine lv_tableIn (off := 67) (tgt := 107) hx hb dX7_carryOut_40 (by rw [q_40_4]; decide) (by rw [q_40_4]; decide) (by rw [q_40_4]; rfl) (by decide) ?_
    refine lv_aload_n hx hb dX7_carryOut_107 rfl (lv_at hl 3 rfl) ?_
    refine lv_iload_n hx hb dX7_carryOut_108 rfl (lv_at hl 2 rfl) ?_
    refine u_i (ru_V (As := [.int (nu (k1 * 3 + 0))]) (rest := []) F h hP rfl (k_X7_orient l g n c lh ru rs hP R hB hk5 hq hH hW (nu (k1 * 3 + 0)) sc hsc h5) (gV hjl wd_731 wd_544 wd_545 wd_51 wd_546) rfl 1 (by decide +kernel) rfl ⟨Nat.le_of_ble_eq_true rfl, Nat.le_of_ble_eq_true rfl⟩ rfl hl.1 (Nat.le_of_ble_eq_true rfl) ⟨Nat.zero_le _, Nat.zero_le _⟩ dX7_carryOut_109) h (fun r1 n1 cz5 H locs hp h => ?_)
    obtain ⟨hnz5, hrz5, hPz5, hBz5, hHz5, hFz5⟩ := hp
    rw [hrz5]
    exact ret_i F h (Nat.zero_le _) (Nat.zero_le _) dX7_carryOut_112 (paE (show sq_X7_carryOut lh ru rs R hq wd nu k1 sc cn = ((sq_X7_orient lh ru rs R hq (nu (k1 * 3 + 0)) sc).1, (sq_X7_orient lh ru rs R hq (nu (k1 * 3 + 0)) sc).2.1, (sq_X7_orient lh ru rs R hq (nu (k1 * 3 + 0)) sc).2.2.1, ((sq_X7_orient lh ru rs R hq (nu (k1 * 3 + 0)) sc).2.2.2.1), (sq_X7_orient lh ru rs R hq (nu (k1 * 3 + 0)) sc).2.2.2.2) by rw [sq_X7_carryOut, if_neg (c := (wd k1) = 0) q_40_0, if_neg (c := (wd k1) = 1) q_40_1, if_neg (c := (wd k1) = 2) q_40_2, if_neg (c := (wd k1) = 3) q_40_3, if_pos (c := (wd k1) = 4) q_40_4]) (by omega) hPz5 hBz5 hHz5 (Fn.rfl'.trans hFz5 (Nat.le_refl _)))
  refine lv_tableOut (tgt := 107) hx hb dX7_carryOut_40 (by have z0 : ¬ ((wd k1)).toInt = 0 := fun z => q_40_0 ((i_eq _ _).mpr z); have z1 : ¬ ((wd k1)).toInt = 1 := fun z => q_40_1 ((i_eq _ _).mpr z); have z2 : ¬ ((wd k1)).toInt = 2 := fun z => q_40_2 ((i_eq _ _).mpr z); have z3 : ¬ ((wd k1)).toInt = 3 := fun z => q_40_3 ((i_eq _ _).mpr z); have z4 : ¬ ((wd k1)).toInt = 4 := fun z => q_40_4 ((i_eq _ _).mpr z); omega) (by decide) ?_
  refine lv_aload_n hx hb dX7_carryOut_107 rfl (lv_at hl 3 rfl) ?_
  refine lv_iload_n hx hb dX7_carryOut_108 rfl (lv_at hl 2 rfl) ?_
  refine u_i (ru_V (As := [.int (nu (k1 * 3 + 0))]) (rest := []) F h hP rfl (k_X7_orient l g n c lh ru rs hP R hB hk5 hq hH hW (nu (k1 * 3 + 0)) sc hsc h5) (gV hjl wd_731 wd_544 wd_545 wd_51 wd_546) rfl 1 (by decide +kernel) rfl ⟨Nat.le_of_ble_eq_true rfl, Nat.le_of_ble_eq_true rfl⟩ rfl hl.1 (Nat.le_of_ble_eq_true rfl) ⟨Nat.zero_le _, Nat.zero_le _⟩ dX7_carryOut_109) h (fun r1 n1 cz6 H locs hp h => ?_)
  obtain ⟨hnz6, hrz6, hPz6, hBz6, hHz6, hFz6⟩ := hp
  rw [hrz6]
  exact ret_i F h (Nat.zero_le _) (Nat.zero_le _) dX7_carryOut_112 (paE (show sq_X7_carryOut lh ru rs R hq wd nu k1 sc cn = ((sq_X7_orient lh ru rs R hq (nu (k1 * 3 + 0)) sc).1, (sq_X7_orient lh ru rs R hq (nu (k1 * 3 + 0)) sc).2.1, (sq_X7_orient lh ru rs R hq (nu (k1 * 3 + 0)) sc).2.2.1, ((sq_X7_orient lh ru rs R hq (nu (k1 * 3 + 0)) sc).2.2.2.1), (sq_X7_orient lh ru rs R hq (nu (k1 * 3 + 0)) sc).2.2.2.2) by rw [sq_X7_carryOut, if_neg (c := (wd k1) = 0) q_40_0, if_neg (c := (wd k1) = 1) q_40_1, if_neg (c := (wd k1) = 2) q_40_2, if_neg (c := (wd k1) = 3) q_40_3, if_neg (c := (wd k1) = 4) q_40_4]) (by omega) hPz6 hBz6 hHz6 (Fn.rfl'.trans hFz6 (Nat.le_refl _)))
theorem ru_X7_pass {lh : Nat} {ru rs : Int32} {R : Nat → Int32} {hq : Nat → Nat → Int32} {x : Int32} (h : ¬ ru = 0) : (sq_X7_pass lh ru rs R hq x).2.2.2.1 = lh ∧ (sq_X7_pass lh ru rs R hq x).2.2.2.2 = hq := by
  have e1 : rmL ru lh = lh := if_neg h
  have e2 : rmQ ru lh hq R = hq := if_neg h
  unfold sq_X7_pass
  rw [e1, e2]
  repeat' split
  all_goals exact ⟨rfl, rfl⟩
theorem ru_X7_push {lh : Nat} {ru rs : Int32} {R : Nat → Int32} {hq : Nat → Nat → Int32} {w x y : Int32} {sc : Nat} (h : ¬ ru = 0) : (sq_X7_push lh ru rs R hq w x y sc).2.2.2.1 = lh ∧ (sq_X7_push lh ru rs R hq w x y sc).2.2.2.2 = hq := by
  have e1 : rmL ru lh = lh := if_neg h
  have e2 : rmQ ru lh hq R = hq := if_neg h
  unfold sq_X7_push
  rw [e1, e2]
  repeat' split
  all_goals exact ⟨rfl, rfl⟩
theorem ru_X7_observe {lh : Nat} {ru rs : Int32} {R : Nat → Int32} {hq : Nat → Nat → Int32} {x y z : Int32} {sc cn : Nat} (h : ¬ ru = 0) : (sq_X7_observe lh ru rs R hq x y z sc cn).2.2.2.1 = lh ∧ (sq_X7_observe lh ru rs R hq x y z sc cn).2.2.2.2 = hq := by
  have e1 : rmL ru lh = lh := if_neg h
  have e2 : rmQ ru lh hq R = hq := if_neg h
  unfold sq_X7_observe
  rw [e1, e2]
  repeat' split
  all_goals exact ⟨rfl, rfl⟩
theorem ru_X7_swap {lh : Nat} {ru rs : Int32} {R : Nat → Int32} {hq : Nat → Nat → Int32} {x y : Int32} {sc : Nat} (h : ¬ ru = 0) : (sq_X7_swap lh ru rs R hq x y sc).2.2.2.1 = lh ∧ (sq_X7_swap lh ru rs R hq x y sc).2.2.2.2 = hq := by
  have e1 : rmL ru lh = lh := if_neg h
  have e2 : rmQ ru lh hq R = hq := if_neg h
  unfold sq_X7_swap
  rw [e1, e2]
  repeat' split
  all_goals exact ⟨rfl, rfl⟩
theorem ru_X7_orient {lh : Nat} {ru rs : Int32} {R : Nat → Int32} {hq : Nat → Nat → Int32} {x : Int32} {sc : Nat} (h : ¬ ru = 0) : (sq_X7_orient lh ru rs R hq x sc).2.2.2.1 = lh ∧ (sq_X7_orient lh ru rs R hq x sc).2.2.2.2 = hq := by
  have e1 : rmL ru lh = lh := if_neg h
  have e2 : rmQ ru lh hq R = hq := if_neg h
  unfold sq_X7_orient
  rw [e1, e2]
  repeat' split
  all_goals exact ⟨rfl, rfl⟩
theorem ru_X7_carryOut {lh : Nat} {ru rs : Int32} {R : Nat → Int32} {hq : Nat → Nat → Int32} {wd nu : Nat → Int32} {k1 sc cn : Nat} (h : ¬ ru = 0) : (sq_X7_carryOut lh ru rs R hq wd nu k1 sc cn).2.2.2.1 = lh ∧ (sq_X7_carryOut lh ru rs R hq wd nu k1 sc cn).2.2.2.2 = hq := by
  unfold sq_X7_carryOut
  repeat' split
  all_goals dsimp only
  · exact ru_X7_pass h
  · exact ru_X7_push h
  · exact ru_X7_observe h
  · exact ru_X7_swap h
  · exact ru_X7_orient h
  · exact ru_X7_orient h
/-- the orders, carried out one behind another -/
def ccL (lh : Nat) (hq : Nat → Nat → Int32) (wd nu : Nat → Int32) (O sc cn : Nat) : Nat → Nat → (Nat → Int32) → Int32 → Nat × (Nat → Int32) × Int32
  | 0, k, R, rs => (k, R, rs)
  | f + 1, k, R, rs => if k < O then (if 0 ≤ (sq_X7_carryOut lh 1 rs R hq wd nu k sc cn).1 then ccL lh hq wd nu O sc cn f (k + 1) (sq_X7_carryOut lh 1 rs R hq wd nu k sc cn).2.2.1 (sq_X7_carryOut lh 1 rs R hq wd nu k sc cn).2.1 else (k, (sq_X7_carryOut lh 1 rs R hq wd nu k sc cn).2.2.1, (sq_X7_carryOut lh 1 rs R hq wd nu k sc cn).2.1)) else (k, R, rs)
def ccA (lh : Nat) (hq : Nat → Nat → Int32) (wd nu : Nat → Int32) (O sc cn : Nat) (R : Nat → Int32) (rs : Int32) : Nat × (Nat → Int32) × Int32 := ccL lh hq wd nu O sc cn (O + 1) 0 R rs
