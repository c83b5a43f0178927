/-! The reference: questions, on. -/
theorem noS_w {r : Nat → Int32} {x : Int32} {sc : Nat} (hsc : r 4 = nI sc) (h5 : sc ≤ 5) (h : noS r x = 0) : wN x < sc ∧ nI (wN x) = x := by
  have h0 : ¬ inI x 0 (r 4 - 1) = 0 := fun z => by
    unfold noS at h
    rw [if_pos z] at h
    exact absurd h (by decide)
  obtain ⟨h1, h2⟩ := inI_1 h0
  have e : (r 4 - 1).toInt = (sc : Int) - 1 := by
    rw [hsc, fb_subI] <;> rw [nI_toInt (by omega)] <;> (try show _ - 1 = _ - (1 : Int)) <;> (try (show _ ≤ _ - (1 : Int))) <;> (try (show _ - (1 : Int) < _)) <;> omega
  rw [e] at h2
  have h1 : (0 : Int) ≤ x.toInt := h1
  have e2 : x = nI x.toInt.toNat := by rw [i_eq, nI_toInt (by omega)]; omega
  rw [e2, wN_nI (by omega)]
  exact ⟨by omega, rfl⟩
theorem mis_z {r : Nat → Int32} {s q : Nat} (h : ¬ 0 < sp_X8_missing r s q) : sp_X8_missing r s q = 0 := by
  unfold sp_X8_missing at h ⊢
  repeat' split at h
  all_goals first | exact absurd (by decide) h | skip
  all_goals simp_all
theorem mis_t {r : Nat → Int32} {s q : Nat} (h : sp_X8_missing r s q = 0) : ¬ (sp_X8_acrossTop r q 0 = 0 ∧ sp_X8_acrossTop r q 1 = 0) ∧ ¬ (sp_X8_acrossAt r s q 0 = 0 ∧ sp_X8_acrossAt r s q 1 = 0) := by
  unfold sp_X8_missing at h
  repeat' split at h
  all_goals first | exact absurd h (by decide) | skip
  all_goals simp_all
theorem szI_m {x y : Int32} (h : ¬ (x = 0 ∧ y = 0)) : ¬ (szI x).toInt64 + (szI y).toInt64 = 0 := by
  intro z
  have hx := szI_b x
  have hy := szI_b y
  rw [l_eq, Int64.toInt_add, Int32.toInt_toInt64, Int32.toInt_toInt64, fb_bmodL (by omega) (by omega)] at z
  have z : (szI x).toInt + (szI y).toInt = 0 := z
  have n1 : ∀ v : Int32, (szI v).toInt = 0 ∨ 0 < (szI v).toInt ∨ (szI v).toInt = -2147483648 := by
    intro v
    unfold szI
    have hv := fb_rng v
    by_cases h0 : (0 : Int32) ≤ v
    · rw [if_pos h0]
      rw [i_le] at h0
      have h0 : (0 : Int) ≤ v.toInt := h0
      omega
    · rw [if_neg h0]
      rw [i_le] at h0
      have h0 : ¬ (0 : Int) ≤ v.toInt := h0
      by_cases hm : v.toInt = -2147483648
      · refine Or.inr (Or.inr ?_)
        rw [Int32.toInt_neg, hm]; rfl
      · rw [fb_negI hm]; omega
  rcases n1 x with a | a | a <;> rcases n1 y with c | c | c <;> first | omega | skip
  exact h ⟨szI_0.mp ((i_eq _ _).mpr a), szI_0.mp ((i_eq _ _).mpr c)⟩
def sp_X8_surface (r : Nat → Int32) (x : Int32) : Int32 := if (inI x 0 1) = 0 then ((-100001)) else (if (sp_X8_hasPair r (wN x)) = 0 then ((-100005)) else (if (sp_X8_acrossTop r (wN x) 0) = 0 then (if (sp_X8_acrossTop r (wN x) 1) = 0 then ((-100005)) else ((sp_X8_bearingOf (sp_X8_acrossTop r (wN x) 0) (sp_X8_acrossTop r (wN x) 1)))) else ((sp_X8_bearingOf (sp_X8_acrossTop r (wN x) 0) (sp_X8_acrossTop r (wN x) 1)))))
set_option maxHeartbeats 4000000 in
set_option maxRecDepth 100000 in
theorem k_X8_surface (l : Launch) (g : Gf) (n : Nat) (c : Mp) (b : Nat) (kp rs ty pl fa od : Int32) (hm : c b = moC g b kp rs ty pl fa od) (r : Nat → Int32) (hr : c (b + 1) = iaA (g.2.1 0) 204 r) (x : Int32) : Ct l g yX8_surface wsX8_surface 3 64 0 0 [.ref (gz g + b), .int x] n c (Qi g (fun xr n' c' => xr = sp_X8_surface r x ∧ n' = n ∧ c' = c)) := by
  refine ent (by decide) rfl (Nat.le_of_ble_eq_true rfl) ?_
  intro p e s m args below meth c0 F h ls hl
  have hx := F.1
  have hb := F.2.1
  have hl : lv_has ls 3 [(0, .ref (gz g + b)), (1, .int x)] := hl
  refine lv_iload_n hx hb dX8_surface_0 rfl (lv_at hl 1 rfl) ?_
  refine lv_iconst (v := 0) hx hb dX8_surface_1 (by decide) ?_
  refine lv_iconst (v := 1) hx hb dX8_surface_2 (by decide) ?_
  refine u_iE (v := (inI x 0 1)) (ru_S (As := [.int x, .int 0, .int 1]) (rest := []) F h (k_X8_in l g n c x 0 1) (gS hjl wd_877 wd_878 wd_58 wd_879) rfl 3 (by decide +kernel) rfl ⟨Nat.le_of_ble_eq_true rfl, Nat.le_of_ble_eq_true rfl⟩ rfl hl.1 (Nat.le_of_ble_eq_true rfl) ⟨Nat.zero_le _, Nat.zero_le _⟩ dX8_surface_3) h (fun H locs h => ?_)
  refine lv_if_ne (tgt := 12) hx hb dX8_surface_6 (by decide) (fun b_6 => ?_) (fun b_6 => ?_)
  · skip
    have h_x := inI_w (N := 1) (by decide) b_6
    have h4_x : wN x < 2 := h_x.1
    have hl : lv_has ls 3 [(0, .ref (gz g + b)), (1, .int (nI (wN x)))] := by rw [show (nI (wN x) : Int32) = x from h_x.2]; exact hl
    refine lv_aload_n hx hb dX8_surface_12 rfl (lv_at hl 0 rfl) ?_
    refine lv_iload_n hx hb dX8_surface_13 rfl (lv_at hl 1 rfl) ?_
    refine u_iE (v := (sp_X8_hasPair r (wN x))) (ru_V (As := [.int (nI (wN x))]) (rest := []) F h hm rfl (k_X8_hasPair l g n c b kp rs ty pl fa od hm r hr (wN x) (by omega)) (gV hjl wd_1048 wd_1050 wd_35 wd_58 wd_1051) rfl 1 (by decide +kernel) rfl ⟨Nat.le_of_ble_eq_true rfl, Nat.le_of_ble_eq_true rfl⟩ rfl hl.1 (Nat.le_of_ble_eq_true rfl) ⟨Nat.zero_le _, Nat.zero_le _⟩ dX8_surface_14) h (fun H locs h => ?_)
    refine lv_if_eq (tgt := 38) hx hb dX8_surface_17 (by decide) (fun b_17 => ?_) (fun b_17 => ?_)
    · skip
      refine lv_iconst (v := 1) hx hb dX8_surface_38 (by decide) ?_
      refine lv_goto (tgt := 43) hx hb dX8_surface_39 (by decide) ?_
      refine lv_istore_n (lv' := [(2, .int 1), (0, .ref (gz g + b)), (1, .int (nI (wN x)))]) hx hb dX8_surface_43 rfl hl (by decide) rfl (fun ls hl => ?_)
      refine lv_iload_n hx hb dX8_surface_44 rfl (lv_at hl 0 rfl) ?_
      refine lv_if_eq (tgt := 53) hx hb dX8_surface_45 (by decide) (fun b_45 => by first | exact absurd b_45 (by decide) | exact absurd (by decide) b_45) (fun b_45 => ?_)
      refine lv_ldc (v := (-100005)) hx hb F.2.2.2.1 (F.2.2.2.2.1 (Cond.constant RX8 44 (-100005)) (List.mem_cons_of_mem _ wd_872)) dX8_surface_48 ?_
      refine lv_goto (tgt := 68) hx hb dX8_surface_50 (by decide) ?_
      exact ret_i F h (Nat.zero_le _) (Nat.zero_le _) dX8_surface_68 (⟨((show sp_X8_surface r x = (-100005) by rw [sp_X8_surface, if_neg (c := (inI x 0 1) = 0) b_6, if_pos (c := (sp_X8_hasPair r (wN x)) = 0) b_17])).symm, rfl, rfl⟩)
    refine lv_aload_n hx hb dX8_surface_20 rfl (lv_at hl 0 rfl) ?_
    refine lv_iload_n hx hb dX8_surface_21 rfl (lv_at hl 1 rfl) ?_
    refine lv_iconst (v := 0) hx hb dX8_surface_22 (by decide) ?_
    refine u_iE (v := (sp_X8_acrossTop r (wN x) 0)) (ru_V (As := [.int (nI (wN x)), .int 0]) (rest := []) F h hm rfl (k_X8_acrossTop l g n c b kp rs ty pl fa od hm r hr (wN x) 0 (by omega) (by decide)) (gV hjl wd_1052 wd_1054 wd_36 wd_58 wd_1055) rfl 2 (by decide +kernel) rfl ⟨Nat.le_of_ble_eq_true rfl, Nat.le_of_ble_eq_true rfl⟩ rfl hl.1 (Nat.le_of_ble_eq_true rfl) ⟨Nat.zero_le _, Nat.zero_le _⟩ dX8_surface_23) h (fun H locs h => ?_)
    refine lv_if_ne (tgt := 42) hx hb dX8_surface_26 (by decide) (fun b_26 => ?_) (fun b_26 => ?_)
    · skip
      refine lv_iconst (v := 0) hx hb dX8_surface_42 (by decide) ?_
      refine lv_istore_n (lv' := [(2, .int 0), (0, .ref (gz g + b)), (1, .int (nI (wN x)))]) hx hb dX8_surface_43 rfl hl (by decide) rfl (fun ls hl => ?_)
      refine lv_iload_n hx hb dX8_surface_44 rfl (lv_at hl 0 rfl) ?_
      refine lv_if_eq (tgt := 53) hx hb dX8_surface_45 (by decide) (fun b_45 => ?_) (fun b_45 => by first | exact absurd (by decide) b_45 | exact absurd b_45 (by decide))
      have hmz := szI_m (x := sp_X8_acrossTop r (wN x) 0) (y := sp_X8_acrossTop r (wN x) 1) (fun z => b_26 z.1)
      refine lv_aload_n hx hb dX8_surface_53 rfl (lv_at hl 1 rfl) ?_
      refine lv_iload_n hx hb dX8_surface_54 rfl (lv_at hl 2 rfl) ?_
      refine lv_iconst (v := 0) hx hb dX8_surface_55 (by decide) ?_
      refine u_iE (v := (sp_X8_acrossTop r (wN x) 0)) (ru_V (As := [.int (nI (wN x)), .int 0]) (rest := []) F h hm rfl (k_X8_acrossTop l g n c b kp rs ty pl fa od hm r hr (wN x) 0 (by omega) (by decide)) (gV hjl wd_1052 wd_1054 wd_36 wd_58 wd_1055) rfl 2 (by decide +kernel) rfl ⟨Nat.le_of_ble_eq_true rfl, Nat.le_of_ble_eq_true rfl⟩ rfl hl.1 (Nat.le_of_ble_eq_true rfl) ⟨Nat.zero_le _, Nat.zero_le _⟩ dX8_surface_56) h (fun H locs h => ?_)
      refine lv_aload_n hx hb dX8_surface_59 rfl (lv_at hl 1 rfl) ?_
      refine lv_iload_n hx hb dX8_surface_60 rfl (lv_at hl 2 rfl) ?_
      refine lv_iconst (v := 1) hx hb dX8_surface_61 (by decide) ?_
      refine u_iE (v := (sp_X8_acrossTop r (wN x) 1)) (ru_V (As := [.int (nI (wN x)), .int 1]) (rest := [.int (sp_X8_acrossTop r (wN x) 0)]) F h hm rfl (k_X8_acrossTop l g n c b kp rs ty pl fa od hm r hr (wN x) 1 (by omega) (by decide)) (gV hjl wd_1052 wd_1054 wd_36 wd_58 wd_1055) rfl 2 (by decide +kernel) rfl ⟨Nat.le_of_ble_eq_true rfl, Nat.le_of_ble_eq_true rfl⟩ rfl hl.1 (Nat.le_of_ble_eq_true rfl) ⟨Nat.zero_le _, Nat.zero_le _⟩ dX8_surface_62) h (fun H locs h => ?_)
      refine u_iE (v := (sp_X8_bearingOf (sp_X8_acrossTop r (wN x) 0) (sp_X8_acrossTop r (wN x) 1))) (ru_S (As := [.int (sp_X8_acrossTop r (wN x) 0), .int (sp_X8_acrossTop r (wN x) 1)]) (rest := []) F h (k_X8_bearingOf l g n c (sp_X8_acrossTop r (wN x) 0) (sp_X8_acrossTop r (wN x) 1) hmz) (gS hjl wd_1038 wd_1039 wd_58 wd_1040) rfl 2 (by decide +kernel) rfl ⟨Nat.le_of_ble_eq_true rfl, Nat.le_of_ble_eq_true rfl⟩ rfl hl.1 (Nat.le_of_ble_eq_true rfl) ⟨Nat.zero_le _, Nat.zero_le _⟩ dX8_surface_65) h (fun H locs h => ?_)
      exact ret_i F h (Nat.zero_le _) (Nat.zero_le _) dX8_surface_68 (⟨((show sp_X8_surface r x = (sp_X8_bearingOf (sp_X8_acrossTop r (wN x) 0) (sp_X8_acrossTop r (wN x) 1)) by rw [sp_X8_surface, if_neg (c := (inI x 0 1) = 0) b_6, if_neg (c := (sp_X8_hasPair r (wN x)) = 0) b_17, if_neg (c := (sp_X8_acrossTop r (wN x) 0) = 0) b_26])).symm, rfl, rfl⟩)
    refine lv_aload_n hx hb dX8_surface_29 rfl (lv_at hl 0 rfl) ?_
    refine lv_iload_n hx hb dX8_surface_30 rfl (lv_at hl 1 rfl) ?_
    refine lv_iconst (v := 1) hx hb dX8_surface_31 (by decide) ?_
    refine u_iE (v := (sp_X8_acrossTop r (wN x) 1)) (ru_V (As := [.int (nI (wN x)), .int 1]) (rest := []) F h hm rfl (k_X8_acrossTop l g n c b kp rs ty pl fa od hm r hr (wN x) 1 (by omega) (by decide)) (gV hjl wd_1052 wd_1054 wd_36 wd_58 wd_1055) rfl 2 (by decide +kernel) rfl ⟨Nat.le_of_ble_eq_true rfl, Nat.le_of_ble_eq_true rfl⟩ rfl hl.1 (Nat.le_of_ble_eq_true rfl) ⟨Nat.zero_le _, Nat.zero_le _⟩ dX8_surface_32) h (fun H locs h => ?_)
    refine lv_if_ne (tgt := 42) hx hb dX8_surface_35 (by decide) (fun b_35 => ?_) (fun b_35 => ?_)
    · skip
      refine lv_iconst (v := 0) hx hb dX8_surface_42 (by decide) ?_
      refine lv_istore_n (lv' := [(2, .int 0), (0, .ref (gz g + b)), (1, .int (nI (wN x)))]) hx hb dX8_surface_43 rfl hl (by decide) rfl (fun ls hl => ?_)
      refine lv_iload_n hx hb dX8_surface_44 rfl (lv_at hl 0 rfl) ?_
      refine lv_if_eq (tgt := 53) hx hb dX8_surface_45 (by decide) (fun b_45 => ?_) (fun b_45 => by first | exact absurd (by decide) b_45 | exact absurd b_45 (by decide))
      have hmz := szI_m (x := sp_X8_acrossTop r (wN x) 0) (y := sp_X8_acrossTop r (wN x) 1) (fun z => b_35 z.2)
      refine lv_aload_n hx hb dX8_surface_53 rfl (lv_at hl 1 rfl) ?_
      refine lv_iload_n hx hb dX8_surface_54 rfl (lv_at hl 2 rfl) ?_
      refine lv_iconst (v := 0) hx hb dX8_surface_55 (by decide) ?_
      refine u_iE (v := (sp_X8_acrossTop r (wN x) 0)) (ru_V (As := [.int (nI (wN x)), .int 0]) (rest := []) F h hm rfl (k_X8_acrossTop l g n c b kp rs ty pl fa od hm r hr (wN x) 0 (by omega) (by decide)) (gV hjl wd_1052 wd_1054 wd_36 wd_58 wd_1055) rfl 2 (by decide +kernel) rfl ⟨Nat.le_of_ble_eq_true rfl, Nat.le_of_ble_eq_true rfl⟩ rfl hl.1 (Nat.le_of_ble_eq_true rfl) ⟨Nat.zero_le _, Nat.zero_le _⟩ dX8_surface_56) h (fun H locs h => ?_)
      refine lv_aload_n hx hb dX8_surface_59 rfl (lv_at hl 1 rfl) ?_
      refine lv_iload_n hx hb dX8_surface_60 rfl (lv_at hl 2 rfl) ?_
      refine lv_iconst (v := 1) hx hb dX8_surface_61 (by decide) ?_
      refine u_iE (v := (sp_X8_acrossTop r (wN x) 1)) (ru_V (As := [.int (nI (wN x)), .int 1]) (rest := [.int (sp_X8_acrossTop r (wN x) 0)]) F h hm rfl (k_X8_acrossTop l g n c b kp rs ty pl fa od hm r hr (wN x) 1 (by omega) (by decide)) (gV hjl wd_1052 wd_1054 wd_36 wd_58 wd_1055) rfl 2 (by decide +kernel) rfl ⟨Nat.le_of_ble_eq_true rfl, Nat.le_of_ble_eq_true rfl⟩ rfl hl.1 (Nat.le_of_ble_eq_true rfl) ⟨Nat.zero_le _, Nat.zero_le _⟩ dX8_surface_62) h (fun H locs h => ?_)
      refine u_iE (v := (sp_X8_bearingOf (sp_X8_acrossTop r (wN x) 0) (sp_X8_acrossTop r (wN x) 1))) (ru_S (As := [.int (sp_X8_acrossTop r (wN x) 0), .int (sp_X8_acrossTop r (wN x) 1)]) (rest := []) F h (k_X8_bearingOf l g n c (sp_X8_acrossTop r (wN x) 0) (sp_X8_acrossTop r (wN x) 1) hmz) (gS hjl wd_1038 wd_1039 wd_58 wd_1040) rfl 2 (by decide +kernel) rfl ⟨Nat.le_of_ble_eq_true rfl, Nat.le_of_ble_eq_true rfl⟩ rfl hl.1 (Nat.le_of_ble_eq_true rfl) ⟨Nat.zero_le _, Nat.zero_le _⟩ dX8_surface_65) h (fun H locs h => ?_)
      exact ret_i F h (Nat.zero_le _) (Nat.zero_le _) dX8_surface_68 (⟨((show sp_X8_surface r x = (sp_X8_bearingOf (sp_X8_acrossTop r (wN x) 0) (sp_X8_acrossTop r (wN x) 1)) by rw [sp_X8_surface, if_neg (c := (inI x 0 1) = 0) b_6, if_neg (c := (sp_X8_hasPair r (wN x)) = 0) b_17, if_pos (c := (sp_X8_acrossTop r (wN x) 0) = 0) b_26, if_neg (c := (sp_X8_acrossTop r (wN x) 1) = 0) b_35])).symm, rfl, rfl⟩)
    refine lv_iconst (v := 1) hx hb dX8_surface_38 (by decide) ?_
    refine lv_goto (tgt := 43) hx hb dX8_surface_39 (by decide) ?_
    refine lv_istore_n (lv' := [(2, .int 1), (0, .ref (gz g + b)), (1, .int (nI (wN x)))]) hx hb dX8_surface_43 rfl hl (by decide) rfl (fun ls hl => ?_)
    refine lv_iload_n hx hb dX8_surface_44 rfl (lv_at hl 0 rfl) ?_
    refine lv_if_eq (tgt := 53) hx hb dX8_surface_45 (by decide) (fun b_45 => by first | exact absurd b_45 (by decide) | exact absurd (by decide) b_45) (fun b_45 => ?_)
    refine lv_ldc (v := (-100005)) hx hb F.2.2.2.1 (F.2.2.2.2.1 (Cond.constant RX8 44 (-100005)) (List.mem_cons_of_mem _ wd_872)) dX8_surface_48 ?_
    refine lv_goto (tgt := 68) hx hb dX8_surface_50 (by decide) ?_
    exact ret_i F h (Nat.zero_le _) (Nat.zero_le _) dX8_surface_68 (⟨((show sp_X8_surface r x = (-100005) by rw [sp_X8_surface, if_neg (c := (inI x 0 1) = 0) b_6, if_neg (c := (sp_X8_hasPair r (wN x)) = 0) b_17, if_pos (c := (sp_X8_acrossTop r (wN x) 0) = 0) b_26, if_pos (c := (sp_X8_acrossTop r (wN x) 1) = 0) b_35])).symm, rfl, rfl⟩)
  refine lv_ldc (v := (-100001)) hx hb F.2.2.2.1 (F.2.2.2.2.1 (Cond.constant RX8 40 (-100001)) (List.mem_cons_of_mem _ wd_880)) dX8_surface_9 ?_
  exact ret_i F h (Nat.zero_le _) (Nat.zero_le _) dX8_surface_11 (⟨((show sp_X8_surface r x = (-100001) by rw [sp_X8_surface, if_pos (c := (inI x 0 1) = 0) b_6])).symm, rfl, rfl⟩)
def sp_X8_given (r : Nat → Int32) (x y : Int32) (sc : Nat) : Int32 := if (noS r x) = 0 then (if (inI y 0 1) = 0 then ((-100001)) else (if (sp_X8_missing r (wN x) (wN y)) ≤ 0 then ((sp_X8_givenBy r (wN x) (wN y))) else ((-100005)))) else ((-100001))
set_option maxHeartbeats 4000000 in
set_option maxRecDepth 100000 in
theorem k_X8_given (l : Launch) (g : Gf) (n : Nat) (c : Mp) (b : Nat) (kp rs ty pl fa od : Int32) (hm : c b = moC g b kp rs ty pl fa od) (r : Nat → Int32) (hr : c (b + 1) = iaA (g.2.1 0) 204 r) (x y : Int32) (sc : Nat) (hsc : r 4 = nI sc) (h5 : sc ≤ 5) : Ct l g yX8_given wsX8_given 4 88 0 0 [.ref (gz g + b), .int x, .int y] n c (Qi g (fun xr n' c' => xr = sp_X8_given r x y sc ∧ n' = n ∧ c' = c)) := by
  refine ent (by decide) rfl (Nat.le_of_ble_eq_true rfl) ?_
  intro p e s m args below meth c0 F h ls hl
  have hx := F.1
  have hb := F.2.1
  have hl : lv_has ls 3 [(0, .ref (gz g + b)), (1, .int x), (2, .int y)] := hl
  refine lv_aload_n hx hb dX8_given_0 rfl (lv_at hl 0 rfl) ?_
  refine lv_iload_n hx hb dX8_given_1 rfl (lv_at hl 1 rfl) ?_
  refine u_iE (v := (noS r x)) (ru_V (As := [.int x]) (rest := []) F h hm rfl (k_X8_noStation l g n c b kp rs ty pl fa od hm r hr x) (gV hjl wd_1008 wd_1010 wd_31 wd_58 wd_1011) rfl 1 (by decide +kernel) rfl ⟨Nat.le_of_ble_eq_true rfl, Nat.le_of_ble_eq_true rfl⟩ rfl hl.1 (Nat.le_of_ble_eq_true rfl) ⟨Nat.zero_le _, Nat.zero_le _⟩ dX8_given_2) h (fun H locs h => ?_)
  refine lv_if_ne (tgt := 17) hx hb dX8_given_5 (by decide) (fun b_5 => ?_) (fun b_5 => ?_)
  · skip
    refine lv_ldc (v := (-100001)) hx hb F.2.2.2.1 (F.2.2.2.2.1 (Cond.constant RX8 40 (-100001)) (List.mem_cons_of_mem _ wd_880)) dX8_given_17 ?_
    exact ret_i F h (Nat.zero_le _) (Nat.zero_le _) dX8_given_19 (⟨((show sp_X8_given r x y sc = (-100001) by rw [sp_X8_given, if_neg (c := (noS r x) = 0) b_5])).symm, rfl, rfl⟩)
  refine lv_iload_n hx hb dX8_given_8 rfl (lv_at hl 2 rfl) ?_
  refine lv_iconst (v := 0) hx hb dX8_given_9 (by decide) ?_
  refine lv_iconst (v := 1) hx hb dX8_given_10 (by decide) ?_
  refine u_iE (v := (inI y 0 1)) (ru_S (As := [.int y, .int 0, .int 1]) (rest := []) F h (k_X8_in l g n c y 0 1) (gS hjl wd_877 wd_878 wd_58 wd_879) rfl 3 (by decide +kernel) rfl ⟨Nat.le_of_ble_eq_true rfl, Nat.le_of_ble_eq_true rfl⟩ rfl hl.1 (Nat.le_of_ble_eq_true rfl) ⟨Nat.zero_le _, Nat.zero_le _⟩ dX8_given_11) h (fun H locs h => ?_)
  refine lv_if_ne (tgt := 20) hx hb dX8_given_14 (by decide) (fun b_14 => ?_) (fun b_14 => ?_)
  · skip
    have h_x := noS_w hsc h5 b_5
    have h4_x : wN x < 5 := by omega
    have hl : lv_has ls 3 [(0, .ref (gz g + b)), (1, .int (nI (wN x))), (2, .int y)] := by rw [show (nI (wN x) : Int32) = x from h_x.2]; exact hl
    have h_y := inI_w (N := 1) (by decide) b_14
    have h4_y : wN y < 2 := h_y.1
    have hl : lv_has ls 3 [(0, .ref (gz g + b)), (1, .int (nI (wN x))), (2, .int (nI (wN y)))] := by rw [show (nI (wN y) : Int32) = y from h_y.2]; exact hl
    refine lv_aload_n hx hb dX8_given_20 rfl (lv_at hl 0 rfl) ?_
    refine lv_iload_n hx hb dX8_given_21 rfl (lv_at hl 1 rfl) ?_
    refine lv_iload_n hx hb dX8_given_22 rfl (lv_at hl 2 rfl) ?_
    refine u_iE (v := (sp_X8_missing r (wN x) (wN y))) (ru_V (As := [.int (nI (wN x)), .int (nI (wN y))]) (rest := []) F h hm rfl (k_X8_missing l g n c b kp rs ty pl fa od hm r hr (wN x) (wN y) (by omega) (by omega)) (gV hjl wd_1060 wd_1062 wd_37 wd_58 wd_1063) rfl 2 (by decide +kernel) rfl ⟨Nat.le_of_ble_eq_true rfl, Nat.le_of_ble_eq_true rfl⟩ rfl hl.1 (Nat.le_of_ble_eq_true rfl) ⟨Nat.zero_le _, Nat.zero_le _⟩ dX8_given_23) h (fun H locs h => ?_)
    refine lv_if_le (tgt := 34) hx hb dX8_given_26 (by decide) (fun b_26 => ?_) (fun b_26 => ?_)
    · skip
      have hgzy := mis_z (ge_nlt b_26)
      refine lv_aload_n hx hb dX8_given_34 rfl (lv_at hl 0 rfl) ?_
      refine lv_iload_n hx hb dX8_given_35 rfl (lv_at hl 1 rfl) ?_
      refine lv_iload_n hx hb dX8_given_36 rfl (lv_at hl 2 rfl) ?_
      refine u_iE (v := (sp_X8_givenBy r (wN x) (wN y))) (ru_V (As := [.int (nI (wN x)), .int (nI (wN y))]) (rest := []) F h hm rfl (k_X8_givenBy l g n c b kp rs ty pl fa od hm r hr (wN x) (wN y) (by omega) (by omega) (szI_m (mis_t hgzy).1) (szI_m (mis_t hgzy).2)) (gV hjl wd_1068 wd_1070 wd_39 wd_58 wd_1071) rfl 2 (by decide +kernel) rfl ⟨Nat.le_of_ble_eq_true rfl, Nat.le_of_ble_eq_true rfl⟩ rfl hl.1 (Nat.le_of_ble_eq_true rfl) ⟨Nat.zero_le _, Nat.zero_le _⟩ dX8_given_37) h (fun H locs h => ?_)
      exact ret_i F h (Nat.zero_le _) (Nat.zero_le _) dX8_given_40 (⟨((show sp_X8_given r x y sc = (sp_X8_givenBy r (wN x) (wN y)) by rw [sp_X8_given, if_pos (c := (noS r x) = 0) b_5, if_neg (c := (inI y 0 1) = 0) b_14, if_pos (c := (sp_X8_missing r (wN x) (wN y)) ≤ 0) b_26])).symm, rfl, rfl⟩)
    refine lv_ldc (v := (-100005)) hx hb F.2.2.2.1 (F.2.2.2.2.1 (Cond.constant RX8 44 (-100005)) (List.mem_cons_of_mem _ wd_872)) dX8_given_29 ?_
    refine lv_goto (tgt := 40) hx hb dX8_given_31 (by decide) ?_
    exact ret_i F h (Nat.zero_le _) (Nat.zero_le _) dX8_given_40 (⟨((show sp_X8_given r x y sc = (-100005) by rw [sp_X8_given, if_pos (c := (noS r x) = 0) b_5, if_neg (c := (inI y 0 1) = 0) b_14, if_neg (c := (sp_X8_missing r (wN x) (wN y)) ≤ 0) b_26])).symm, rfl, rfl⟩)
  refine lv_ldc (v := (-100001)) hx hb F.2.2.2.1 (F.2.2.2.2.1 (Cond.constant RX8 40 (-100001)) (List.mem_cons_of_mem _ wd_880)) dX8_given_17 ?_
  exact ret_i F h (Nat.zero_le _) (Nat.zero_le _) dX8_given_19 (⟨((show sp_X8_given r x y sc = (-100001) by rw [sp_X8_given, if_pos (c := (noS r x) = 0) b_5, if_pos (c := (inI y 0 1) = 0) b_14])).symm, rfl, rfl⟩)
def sp_X8_bearing (r : Nat → Int32) (x y : Int32) : Int32 := if (inI x (-20000) 20000) = 0 then ((-100002)) else (if (inI y (-20000) 20000) = 0 then ((-100002)) else (if x = 0 then (if y = 0 then ((-100002)) else ((sp_X8_bearingOf x y))) else ((sp_X8_bearingOf x y))))
set_option maxHeartbeats 4000000 in
set_option maxRecDepth 100000 in
theorem k_X8_bearing (l : Launch) (g : Gf) (n : Nat) (c : Mp) (b : Nat) (kp rs ty pl fa od : Int32) (hm : c b = moC g b kp rs ty pl fa od) (r : Nat → Int32) (hr : c (b + 1) = iaA (g.2.1 0) 204 r) (x y : Int32) : Ct l g yX8_bearing wsX8_bearing 2 43 0 0 [.ref (gz g + b), .int x, .int y] n c (Qi g (fun xr n' c' => xr = sp_X8_bearing r x y ∧ n' = n ∧ c' = c)) := by
  refine ent (by decide) rfl (Nat.le_of_ble_eq_true rfl) ?_
  intro p e s m args below meth c0 F h ls hl
  have hx := F.1
  have hb := F.2.1
  have hl : lv_has ls 3 [(0, .ref (gz g + b)), (1, .int x), (2, .int y)] := hl
  refine lv_iload_n hx hb dX8_bearing_0 rfl (lv_at hl 1 rfl) ?_
  refine lv_sipush (v := (-20000)) hx hb dX8_bearing_1 (by decide) ?_
  refine lv_sipush (v := 20000) hx hb dX8_bearing_4 (by decide) ?_
  refine u_iE (v := (inI x (-20000) 20000)) (ru_S (As := [.int x, .int (-20000), .int 20000]) (rest := []) F h (k_X8_in l g n c x (-20000) 20000) (gS hjl wd_877 wd_878 wd_58 wd_879) rfl 3 (by decide +kernel) rfl ⟨Nat.le_of_ble_eq_true rfl, Nat.le_of_ble_eq_true rfl⟩ rfl hl.1 (Nat.le_of_ble_eq_true rfl) ⟨Nat.zero_le _, Nat.zero_le _⟩ dX8_bearing_7) h (fun H locs h => ?_)
  refine lv_if_eq (tgt := 34) hx hb dX8_bearing_10 (by decide) (fun b_10 => ?_) (fun b_10 => ?_)
  · skip
    refine lv_ldc (v := (-100002)) hx hb F.2.2.2.1 (F.2.2.2.2.1 (Cond.constant RX8 70 (-100002)) (List.mem_cons_of_mem _ wd_900)) dX8_bearing_34 ?_
    exact ret_i F h (Nat.zero_le _) (Nat.zero_le _) dX8_bearing_36 (⟨((show sp_X8_bearing r x y = (-100002) by rw [sp_X8_bearing, if_pos (c := (inI x (-20000) 20000) = 0) b_10])).symm, rfl, rfl⟩)
  refine lv_iload_n hx hb dX8_bearing_13 rfl (lv_at hl 2 rfl) ?_
  refine lv_sipush (v := (-20000)) hx hb dX8_bearing_14 (by decide) ?_
  refine lv_sipush (v := 20000) hx hb dX8_bearing_17 (by decide) ?_
  refine u_iE (v := (inI y (-20000) 20000)) (ru_S (As := [.int y, .int (-20000), .int 20000]) (rest := []) F h (k_X8_in l g n c y (-20000) 20000) (gS hjl wd_877 wd_878 wd_58 wd_879) rfl 3 (by decide +kernel) rfl ⟨Nat.le_of_ble_eq_true rfl, Nat.le_of_ble_eq_true rfl⟩ rfl hl.1 (Nat.le_of_ble_eq_true rfl) ⟨Nat.zero_le _, Nat.zero_le _⟩ dX8_bearing_20) h (fun H locs h => ?_)
  refine lv_if_eq (tgt := 34) hx hb dX8_bearing_23 (by decide) (fun b_23 => ?_) (fun b_23 => ?_)
  · skip
    refine lv_ldc (v := (-100002)) hx hb F.2.2.2.1 (F.2.2.2.2.1 (Cond.constant RX8 70 (-100002)) (List.mem_cons_of_mem _ wd_900)) dX8_bearing_34 ?_
    exact ret_i F h (Nat.zero_le _) (Nat.zero_le _) dX8_bearing_36 (⟨((show sp_X8_bearing r x y = (-100002) by rw [sp_X8_bearing, if_neg (c := (inI x (-20000) 20000) = 0) b_10, if_pos (c := (inI y (-20000) 20000) = 0) b_23])).symm, rfl, rfl⟩)
  refine lv_iload_n hx hb dX8_bearing_26 rfl (lv_at hl 1 rfl) ?_
  refine lv_if_ne (tgt := 37) hx hb dX8_bearing_27 (by decide) (fun b_27 => ?_) (fun b_27 => ?_)
  · skip
    have hmz := szI_m (x := x) (y := y) (fun z => b_27 z.1)
    refine lv_iload_n hx hb dX8_bearing_37 rfl (lv_at hl 1 rfl) ?_
    refine lv_iload_n hx hb dX8_bearing_38 rfl (lv_at hl 2 rfl) ?_
    refine u_iE (v := (sp_X8_bearingOf x y)) (ru_S (As := [.int x, .int y]) (rest := []) F h (k_X8_bearingOf l g n c x y hmz) (gS hjl wd_1038 wd_1039 wd_58 wd_1040) rfl 2 (by decide +kernel) rfl ⟨Nat.le_of_ble_eq_true rfl, Nat.le_of_ble_eq_true rfl⟩ rfl hl.1 (Nat.le_of_ble_eq_true rfl) ⟨Nat.zero_le _, Nat.zero_le _⟩ dX8_bearing_39) h (fun H locs h => ?_)
    exact ret_i F h (Nat.zero_le _) (Nat.zero_le _) dX8_bearing_42 (⟨((show sp_X8_bearing r x y = (sp_X8_bearingOf x y) by rw [sp_X8_bearing, if_neg (c := (inI x (-20000) 20000) = 0) b_10, if_neg (c := (inI y (-20000) 20000) = 0) b_23, if_neg (c := x = 0) b_27])).symm, rfl, rfl⟩)
  refine lv_iload_n hx hb dX8_bearing_30 rfl (lv_at hl 2 rfl) ?_
  refine lv_if_ne (tgt := 37) hx hb dX8_bearing_31 (by decide) (fun b_31 => ?_) (fun b_31 => ?_)
  · skip
    have hmz := szI_m (x := x) (y := y) (fun z => b_31 z.2)
    refine lv_iload_n hx hb dX8_bearing_37 rfl (lv_at hl 1 rfl) ?_
    refine lv_iload_n hx hb dX8_bearing_38 rfl (lv_at hl 2 rfl) ?_
    refine u_iE (v := (sp_X8_bearingOf x y)) (ru_S (As := [.int x, .int y]) (rest := []) F h (k_X8_bearingOf l g n c x y hmz) (gS hjl wd_1038 wd_1039 wd_58 wd_1040) rfl 2 (by decide +kernel) rfl ⟨Nat.le_of_ble_eq_true rfl, Nat.le_of_ble_eq_true rfl⟩ rfl hl.1 (Nat.le_of_ble_eq_true rfl) ⟨Nat.zero_le _, Nat.zero_le _⟩ dX8_bearing_39) h (fun H locs h => ?_)
    exact ret_i F h (Nat.zero_le _) (Nat.zero_le _) dX8_bearing_42 (⟨((show sp_X8_bearing r x y = (sp_X8_bearingOf x y) by rw [sp_X8_bearing, if_neg (c := (inI x (-20000) 20000) = 0) b_10, if_neg (c := (inI y (-20000) 20000) = 0) b_23, if_pos (c := x = 0) b_27, if_neg (c := y = 0) b_31])).symm, rfl, rfl⟩)
  refine lv_ldc (v := (-100002)) hx hb F.2.2.2.1 (F.2.2.2.2.1 (Cond.constant RX8 70 (-100002)) (List.mem_cons_of_mem _ wd_900)) dX8_bearing_34 ?_
  exact ret_i F h (Nat.zero_le _) (Nat.zero_le _) dX8_bearing_36 (⟨((show sp_X8_bearing r x y = (-100002) by rw [sp_X8_bearing, if_neg (c := (inI x (-20000) 20000) = 0) b_10, if_neg (c := (inI y (-20000) 20000) = 0) b_23, if_pos (c := x = 0) b_27, if_pos (c := y = 0) b_31])).symm, rfl, rfl⟩)
theorem in10 {x : Int32} (h : ¬ inI x 0 10 = 0) (h2 : ¬ x = 10) : wN x < 10 ∧ nI (wN x) = x := by
  obtain ⟨a, e⟩ := inI_w (N := 10) (by decide) h
  refine ⟨?_, e⟩
  rcases Nat.lt_or_ge (wN x) 10 with q | q
  · exact q
  · refine absurd ?_ h2
    rw [← e, show wN x = 10 by omega]; rfl
def sp_X8_wire (r : Nat → Int32) (x y : Int32) : Int32 := if (noW x) = 0 then (if (inI y 0 10) = 0 then ((-100002)) else (if (hgI r (wN x)) = 0 then ((-100005)) else (if y = 10 then ((4 * (1 + r (5 + 11 * (wN x) + 4) / 100))) else ((r (5 + 11 * (wN x) + (wN y + 1))))))) else ((-100001))
set_option maxHeartbeats 4000000 in
set_option maxRecDepth 100000 in
theorem k_X8_wire (l : Launch) (g : Gf) (n : Nat) (c : Mp) (b : Nat) (kp rs ty pl fa od : Int32) (hm : c b = moC g b kp rs ty pl fa od) (r : Nat → Int32) (hr : c (b + 1) = iaA (g.2.1 0) 204 r) (x y : Int32) : Ct l g yX8_wire wsX8_wire 2 43 0 0 [.ref (gz g + b), .int x, .int y] n c (Qi g (fun xr n' c' => xr = sp_X8_wire r x y ∧ n' = n ∧ c' = c)) := by
  refine ent (by decide) rfl (Nat.le_of_ble_eq_true rfl) ?_
  intro p e s m args below meth c0 F h ls hl
  have hx := F.1
  have hb := F.2.1
  have hl : lv_has ls 3 [(0, .ref (gz g + b)), (1, .int x), (2, .int y)] := hl
  refine lv_iload_n hx hb dX8_wire_0 rfl (lv_at hl 1 rfl) ?_
  refine u_iE (v := (noW x)) (ru_S (As := [.int x]) (rest := []) F h (k_X8_noWire l g n c x) (gS hjl wd_897 wd_898 wd_58 wd_899) rfl 1 (by decide +kernel) rfl ⟨Nat.le_of_ble_eq_true rfl, Nat.le_of_ble_eq_true rfl⟩ rfl hl.1 (Nat.le_of_ble_eq_true rfl) ⟨Nat.zero_le _, Nat.zero_le _⟩ dX8_wire_1) h (fun H locs h => ?_)
  refine lv_if_eq (tgt := 10) hx hb dX8_wire_4 (by decide) (fun b_4 => ?_) (fun b_4 => ?_)
  · skip
    have h_x := noW_w b_4
    have h4_x : wN x < 4 := h_x.1
    have hl : lv_has ls 3 [(0, .ref (gz g + b)), (1, .int (nI (wN x))), (2, .int y)] := by rw [show (nI (wN x) : Int32) = x from h_x.2]; exact hl
    refine lv_iload_n hx hb dX8_wire_10 rfl (lv_at hl 2 rfl) ?_
    refine lv_iconst (v := 0) hx hb dX8_wire_11 (by decide) ?_
    refine lv_bipush (v := 10) hx hb dX8_wire_12 (by decide) ?_
    refine u_iE (v := (inI y 0 10)) (ru_S (As := [.int y, .int 0, .int 10]) (rest := []) F h (k_X8_in l g n c y 0 10) (gS hjl wd_877 wd_878 wd_58 wd_879) rfl 3 (by decide +kernel) rfl ⟨Nat.le_of_ble_eq_true rfl, Nat.le_of_ble_eq_true rfl⟩ rfl hl.1 (Nat.le_of_ble_eq_true rfl) ⟨Nat.zero_le _, Nat.zero_le _⟩ dX8_wire_14) h (fun H locs h => ?_)
    refine lv_if_ne (tgt := 23) hx hb dX8_wire_17 (by decide) (fun b_17 => ?_) (fun b_17 => ?_)
    · skip
      refine lv_aload_n hx hb dX8_wire_23 rfl (lv_at hl 0 rfl) ?_
      refine lv_iload_n hx hb dX8_wire_24 rfl (lv_at hl 1 rfl) ?_
      refine u_iE (v := (hgI r (wN x))) (ru_V (As := [.int (nI (wN x))]) (rest := []) F h hm rfl (k_X8_isHung l g n c b kp rs ty pl fa od hm r hr (wN x) (by omega)) (gV hjl wd_924 wd_926 wd_22 wd_58 wd_927) rfl 1 (by decide +kernel) rfl ⟨Nat.le_of_ble_eq_true rfl, Nat.le_of_ble_eq_true rfl⟩ rfl hl.1 (Nat.le_of_ble_eq_true rfl) ⟨Nat.zero_le _, Nat.zero_le _⟩ dX8_wire_25) h (fun H locs h => ?_)
      refine lv_if_ne (tgt := 34) hx hb dX8_wire_28 (by decide) (fun b_28 => ?_) (fun b_28 => ?_)
      · skip
        refine lv_iload_n hx hb dX8_wire_34 rfl (lv_at hl 2 rfl) ?_
        refine lv_bipush (v := 10) hx hb dX8_wire_35 (by decide) ?_
        refine lv_icmp_ne (tgt := 50) hx hb dX8_wire_37 (by decide) (fun b_37 => ?_) (fun b_37 => ?_)
        · skip
          have h_y := in10 b_17 b_37
          have h4_y := h_y.1
          have hl : lv_has ls 3 [(0, .ref (gz g + b)), (1, .int (nI (wN x))), (2, .int (nI (wN y)))] := by rw [show (nI (wN y) : Int32) = y from h_y.2]; exact hl
          refine lv_aload_n hx hb dX8_wire_50 rfl (lv_at hl 0 rfl) ?_
          refine lv_iload_n hx hb dX8_wire_51 rfl (lv_at hl 1 rfl) ?_
          refine lv_iload_n hx hb dX8_wire_52 rfl (lv_at hl 2 rfl) ?_
          refine lv_iconst (v := 1) hx hb dX8_wire_53 (by decide) ?_
          refine lv_iadd hx hb dX8_wire_54 ?_
          refine r_top (w := .int (nI (wN y + 1))) (congrArg Value.int (by simp only [fa_lit, pk_mul, nI_add]; first | done | (refine congrArg nI ?_; omega))) ?_
          refine u_iE (v := (r (5 + 11 * (wN x) + (wN y + 1)))) (ru_V (As := [.int (nI (wN x)), .int (nI (wN y + 1))]) (rest := []) F h hm rfl (k_X8_of l g n c b kp rs ty pl fa od hm r hr (wN x) (wN y + 1) (by omega) (by omega)) (gV hjl wd_916 wd_918 wd_21 wd_58 wd_919) rfl 2 (by decide +kernel) rfl ⟨Nat.le_of_ble_eq_true rfl, Nat.le_of_ble_eq_true rfl⟩ rfl hl.1 (Nat.le_of_ble_eq_true rfl) ⟨Nat.zero_le _, Nat.zero_le _⟩ dX8_wire_55) h (fun H locs h => ?_)
          exact ret_i F h (Nat.zero_le _) (Nat.zero_le _) dX8_wire_58 (⟨((show sp_X8_wire r x y = (r (5 + 11 * (wN x) + (wN y + 1))) by rw [sp_X8_wire, if_pos (c := (noW x) = 0) b_4, if_neg (c := (inI y 0 10) = 0) b_17, if_neg (c := (hgI r (wN x)) = 0) b_28, if_neg (c := y = 10) b_37])).symm, rfl, rfl⟩)
        refine lv_iconst (v := 4) hx hb dX8_wire_40 (by decide) ?_
        refine lv_aload_n hx hb dX8_wire_41 rfl (lv_at hl 0 rfl) ?_
        refine lv_iload_n hx hb dX8_wire_42 rfl (lv_at hl 1 rfl) ?_
        refine u_iE (v := (1 + r (5 + 11 * (wN x) + 4) / 100)) (ru_V (As := [.int (nI (wN x))]) (rest := [.int 4]) F h hm rfl (k_X8_quarter l g n c b kp rs ty pl fa od hm r hr (wN x) (by omega)) (gV hjl wd_952 wd_954 wd_25 wd_58 wd_955) rfl 1 (by decide +kernel) rfl ⟨Nat.le_of_ble_eq_true rfl, Nat.le_of_ble_eq_true rfl⟩ rfl hl.1 (Nat.le_of_ble_eq_true rfl) ⟨Nat.zero_le _, Nat.zero_le _⟩ dX8_wire_43) h (fun H locs h => ?_)
        refine lv_imul hx hb dX8_wire_46 ?_
        refine lv_goto (tgt := 58) hx hb dX8_wire_47 (by decide) ?_
        exact ret_i F h (Nat.zero_le _) (Nat.zero_le _) dX8_wire_58 (⟨((show sp_X8_wire r x y = (4 * (1 + r (5 + 11 * (wN x) + 4) / 100)) by rw [sp_X8_wire, if_pos (c := (noW x) = 0) b_4, if_neg (c := (inI y 0 10) = 0) b_17, if_neg (c := (hgI r (wN x)) = 0) b_28, if_pos (c := y = 10) b_37])).symm, rfl, rfl⟩)
      refine lv_ldc (v := (-100005)) hx hb F.2.2.2.1 (F.2.2.2.2.1 (Cond.constant RX8 44 (-100005)) (List.mem_cons_of_mem _ wd_872)) dX8_wire_31 ?_
      exact ret_i F h (Nat.zero_le _) (Nat.zero_le _) dX8_wire_33 (⟨((show sp_X8_wire r x y = (-100005) by rw [sp_X8_wire, if_pos (c := (noW x) = 0) b_4, if_neg (c := (inI y 0 10) = 0) b_17, if_pos (c := (hgI r (wN x)) = 0) b_28])).symm, rfl, rfl⟩)
    refine lv_ldc (v := (-100002)) hx hb F.2.2.2.1 (F.2.2.2.2.1 (Cond.constant RX8 70 (-100002)) (List.mem_cons_of_mem _ wd_900)) dX8_wire_20 ?_
    exact ret_i F h (Nat.zero_le _) (Nat.zero_le _) dX8_wire_22 (⟨((show sp_X8_wire r x y = (-100002) by rw [sp_X8_wire, if_pos (c := (noW x) = 0) b_4, if_pos (c := (inI y 0 10) = 0) b_17])).symm, rfl, rfl⟩)
  refine lv_ldc (v := (-100001)) hx hb F.2.2.2.1 (F.2.2.2.2.1 (Cond.constant RX8 40 (-100001)) (List.mem_cons_of_mem _ wd_880)) dX8_wire_7 ?_
  exact ret_i F h (Nat.zero_le _) (Nat.zero_le _) dX8_wire_9 (⟨((show sp_X8_wire r x y = (-100001) by rw [sp_X8_wire, if_neg (c := (noW x) = 0) b_4])).symm, rfl, rfl⟩)
def sp_X8_barred (r : Nat → Int32) (x y z : Int32) : Int32 := if (noW x) = 0 then (if (inI y 0 800) = 0 then ((-100002)) else (if (inI z 0 1) = 0 then ((-100002)) else (if (hgI r (wN x)) = 0 then ((-100005)) else (if y ≤ (r (5 + 11 * (wN x) + 4)) then (0) else ((-100005)))))) else ((-100001))
set_option maxHeartbeats 4000000 in
set_option maxRecDepth 100000 in
theorem k_X8_barred (l : Launch) (g : Gf) (n : Nat) (c : Mp) (b : Nat) (kp rs ty pl fa od : Int32) (hm : c b = moC g b kp rs ty pl fa od) (r : Nat → Int32) (hr : c (b + 1) = iaA (g.2.1 0) 204 r) (x y z : Int32) : Ct l g yX8_barred wsX8_barred 2 43 0 0 [.ref (gz g + b), .int x, .int y, .int z] n c (Qi g (fun xr n' c' => xr = sp_X8_barred r x y z ∧ n' = n ∧ c' = c)) := by
  refine ent (by decide) rfl (Nat.le_of_ble_eq_true rfl) ?_
  intro p e s m args below meth c0 F h ls hl
  have hx := F.1
  have hb := F.2.1
  have hl : lv_has ls 4 [(0, .ref (gz g + b)), (1, .int x), (2, .int y), (3, .int z)] := hl
  refine lv_iload_n hx hb dX8_barred_0 rfl (lv_at hl 1 rfl) ?_
  refine u_iE (v := (noW x)) (ru_S (As := [.int x]) (rest := []) F h (k_X8_noWire l g n c x) (gS hjl wd_897 wd_898 wd_58 wd_899) rfl 1 (by decide +kernel) rfl ⟨Nat.le_of_ble_eq_true rfl, Nat.le_of_ble_eq_true rfl⟩ rfl hl.1 (Nat.le_of_ble_eq_true rfl) ⟨Nat.zero_le _, Nat.zero_le _⟩ dX8_barred_1) h (fun H locs h => ?_)
  refine lv_if_eq (tgt := 10) hx hb dX8_barred_4 (by decide) (fun b_4 => ?_) (fun b_4 => ?_)
  · skip
    have h_x := noW_w b_4
    have h4_x : wN x < 4 := h_x.1
    have hl : lv_has ls 4 [(0, .ref (gz g + b)), (1, .int (nI (wN x))), (2, .int y), (3, .int z)] := by rw [show (nI (wN x) : Int32) = x from h_x.2]; exact hl
    refine lv_iload_n hx hb dX8_barred_10 rfl (lv_at hl 2 rfl) ?_
    refine lv_iconst (v := 0) hx hb dX8_barred_11 (by decide) ?_
    refine lv_sipush (v := 800) hx hb dX8_barred_12 (by decide) ?_
    refine u_iE (v := (inI y 0 800)) (ru_S (As := [.int y, .int 0, .int 800]) (rest := []) F h (k_X8_in l g n c y 0 800) (gS hjl wd_877 wd_878 wd_58 wd_879) rfl 3 (by decide +kernel) rfl ⟨Nat.le_of_ble_eq_true rfl, Nat.le_of_ble_eq_true rfl⟩ rfl hl.1 (Nat.le_of_ble_eq_true rfl) ⟨Nat.zero_le _, Nat.zero_le _⟩ dX8_barred_15) h (fun H locs h => ?_)
    refine lv_if_eq (tgt := 30) hx hb dX8_barred_18 (by decide) (fun b_18 => ?_) (fun b_18 => ?_)
    · skip
      refine lv_ldc (v := (-100002)) hx hb F.2.2.2.1 (F.2.2.2.2.1 (Cond.constant RX8 70 (-100002)) (List.mem_cons_of_mem _ wd_900)) dX8_barred_30 ?_
      exact ret_i F h (Nat.zero_le _) (Nat.zero_le _) dX8_barred_32 (⟨((show sp_X8_barred r x y z = (-100002) by rw [sp_X8_barred, if_pos (c := (noW x) = 0) b_4, if_pos (c := (inI y 0 800) = 0) b_18])).symm, rfl, rfl⟩)
    refine lv_iload_n hx hb dX8_barred_21 rfl (lv_at hl 3 rfl) ?_
    refine lv_iconst (v := 0) hx hb dX8_barred_22 (by decide) ?_
    refine lv_iconst (v := 1) hx hb dX8_barred_23 (by decide) ?_
    refine u_iE (v := (inI z 0 1)) (ru_S (As := [.int z, .int 0, .int 1]) (rest := []) F h (k_X8_in l g n c z 0 1) (gS hjl wd_877 wd_878 wd_58 wd_879) rfl 3 (by decide +kernel) rfl ⟨Nat.le_of_ble_eq_true rfl, Nat.le_of_ble_eq_true rfl⟩ rfl hl.1 (Nat.le_of_ble_eq_true rfl) ⟨Nat.zero_le _, Nat.zero_le _⟩ dX8_barred_24) h (fun H locs h => ?_)
    refine lv_if_ne (tgt := 33) hx hb dX8_barred_27 (by decide) (fun b_27 => ?_) (fun b_27 => ?_)
    · skip
      refine lv_aload_n hx hb dX8_barred_33 rfl (lv_at hl 0 rfl) ?_
      refine lv_iload_n hx hb dX8_barred_34 rfl (lv_at hl 1 rfl) ?_
      refine u_iE (v := (hgI r (wN x))) (ru_V (As := [.int (nI (wN x))]) (rest := []) F h hm rfl (k_X8_isHung l g n c b kp rs ty pl fa od hm r hr (wN x) (by omega)) (gV hjl wd_924 wd_926 wd_22 wd_58 wd_927) rfl 1 (by decide +kernel) rfl ⟨Nat.le_of_ble_eq_true rfl, Nat.le_of_ble_eq_true rfl⟩ rfl hl.1 (Nat.le_of_ble_eq_true rfl) ⟨Nat.zero_le _, Nat.zero_le _⟩ dX8_barred_35) h (fun H locs h => ?_)
      refine lv_if_eq (tgt := 51) hx hb dX8_barred_38 (by decide) (fun b_38 => ?_) (fun b_38 => ?_)
      · skip
        refine lv_ldc (v := (-100005)) hx hb F.2.2.2.1 (F.2.2.2.2.1 (Cond.constant RX8 44 (-100005)) (List.mem_cons_of_mem _ wd_872)) dX8_barred_51 ?_
        refine lv_goto (tgt := 57) hx hb dX8_barred_53 (by decide) ?_
        exact ret_i F h (Nat.zero_le _) (Nat.zero_le _) dX8_barred_57 (⟨((show sp_X8_barred r x y z = (-100005) by rw [sp_X8_barred, if_pos (c := (noW x) = 0) b_4, if_neg (c := (inI y 0 800) = 0) b_18, if_neg (c := (inI z 0 1) = 0) b_27, if_pos (c := (hgI r (wN x)) = 0) b_38])).symm, rfl, rfl⟩)
      refine lv_iload_n hx hb dX8_barred_41 rfl (lv_at hl 2 rfl) ?_
      refine lv_aload_n hx hb dX8_barred_42 rfl (lv_at hl 0 rfl) ?_
      refine lv_iload_n hx hb dX8_barred_43 rfl (lv_at hl 1 rfl) ?_
      refine lv_iconst (v := 4) hx hb dX8_barred_44 (by decide) ?_
      refine u_iE (v := (r (5 + 11 * (wN x) + 4))) (ru_V (As := [.int (nI (wN x)), .int 4]) (rest := [.int y]) F h hm rfl (k_X8_of l g n c b kp rs ty pl fa od hm r hr (wN x) 4 (by omega) (by decide)) (gV hjl wd_916 wd_918 wd_21 wd_58 wd_919) rfl 2 (by decide +kernel) rfl ⟨Nat.le_of_ble_eq_true rfl, Nat.le_of_ble_eq_true rfl⟩ rfl hl.1 (Nat.le_of_ble_eq_true rfl) ⟨Nat.zero_le _, Nat.zero_le _⟩ dX8_barred_45) h (fun H locs h => ?_)
      refine lv_icmp_le (tgt := 56) hx hb dX8_barred_48 (by decide) (fun b_48 => ?_) (fun b_48 => ?_)
      · skip
        refine lv_iconst (v := 0) hx hb dX8_barred_56 (by decide) ?_
        exact ret_i F h (Nat.zero_le _) (Nat.zero_le _) dX8_barred_57 (⟨((show sp_X8_barred r x y z = 0 by rw [sp_X8_barred, if_pos (c := (noW x) = 0) b_4, if_neg (c := (inI y 0 800) = 0) b_18, if_neg (c := (inI z 0 1) = 0) b_27, if_neg (c := (hgI r (wN x)) = 0) b_38, if_pos (c := y ≤ (r (5 + 11 * (wN x) + 4))) b_48])).symm, rfl, rfl⟩)
      refine lv_ldc (v := (-100005)) hx hb F.2.2.2.1 (F.2.2.2.2.1 (Cond.constant RX8 44 (-100005)) (List.mem_cons_of_mem _ wd_872)) dX8_barred_51 ?_
      refine lv_goto (tgt := 57) hx hb dX8_barred_53 (by decide) ?_
      exact ret_i F h (Nat.zero_le _) (Nat.zero_le _) dX8_barred_57 (⟨((show sp_X8_barred r x y z = (-100005) by rw [sp_X8_barred, if_pos (c := (noW x) = 0) b_4, if_neg (c := (inI y 0 800) = 0) b_18, if_neg (c := (inI z 0 1) = 0) b_27, if_neg (c := (hgI r (wN x)) = 0) b_38, if_neg (c := y ≤ (r (5 + 11 * (wN x) + 4))) b_48])).symm, rfl, rfl⟩)
    refine lv_ldc (v := (-100002)) hx hb F.2.2.2.1 (F.2.2.2.2.1 (Cond.constant RX8 70 (-100002)) (List.mem_cons_of_mem _ wd_900)) dX8_barred_30 ?_
    exact ret_i F h (Nat.zero_le _) (Nat.zero_le _) dX8_barred_32 (⟨((show sp_X8_barred r x y z = (-100002) by rw [sp_X8_barred, if_pos (c := (noW x) = 0) b_4, if_neg (c := (inI y 0 800) = 0) b_18, if_pos (c := (inI z 0 1) = 0) b_27])).symm, rfl, rfl⟩)
  refine lv_ldc (v := (-100001)) hx hb F.2.2.2.1 (F.2.2.2.2.1 (Cond.constant RX8 40 (-100001)) (List.mem_cons_of_mem _ wd_880)) dX8_barred_7 ?_
  exact ret_i F h (Nat.zero_le _) (Nat.zero_le _) dX8_barred_9 (⟨((show sp_X8_barred r x y z = (-100001) by rw [sp_X8_barred, if_neg (c := (noW x) = 0) b_4])).symm, rfl, rfl⟩)
theorem bar_0 {r : Nat → Int32} {x y z : Int32} (h : (0 : Int32) ≤ sp_X8_barred r x y z) : (wN x < 4 ∧ nI (wN x) = x) ∧ (wN z < 2 ∧ nI (wN z) = z) ∧ r (5 + 11 * wN x + 0) = 1 ∧ y ≤ r (5 + 11 * wN x + 4) ∧ ¬ inI y 0 800 = 0 := by
  unfold sp_X8_barred at h
  split at h
  · rename_i h1
    split at h
    · exact absurd h (by decide)
    · rename_i h2
      split at h
      · exact absurd h (by decide)
      · rename_i h3
        split at h
        · exact absurd h (by decide)
        · rename_i h4
          split at h
          · rename_i h5
            exact ⟨noW_w h1, inI_w (N := 1) (by decide) h3, hgI_1 h4, h5, h2⟩
          · exact absurd h (by decide)
  · exact absurd h (by decide)
def HQw (r : Nat → Int32) : Prop := ∀ w : Nat, w < 4 → r (5 + 11 * w + 0) = 1 → (¬ r (5 + 11 * w + 3) < 1) ∧ (¬ (1 + r (5 + 11 * w + 4) / 100) = 0) ∧ ¬ r (5 + 11 * w + 4) = 0
def sp_X8_rest (r : Nat → Int32) (x y z : Int32) (cn : Nat) : Int32 := if 0 ≤ (sp_X8_barred r x y z) then ((raS r (wN x) y (wN z) cn).toInt32) else ((sp_X8_barred r x y z))
set_option maxHeartbeats 4000000 in
set_option maxRecDepth 100000 in
theorem k_X8_rest (l : Launch) (g : Gf) (n : Nat) (c : Mp) (b : Nat) (kp rs ty pl fa od : Int32) (hm : c b = moC g b kp rs ty pl fa od) (r : Nat → Int32) (hr : c (b + 1) = iaA (g.2.1 0) 204 r) (x y z : Int32) (cn : Nat) (hcn : r 3 = nI cn) (h5 : cn ≤ 5) (hQ : HQw r) : Ct l g yX8_rest wsX8_rest 3 66 0 0 [.ref (gz g + b), .int x, .int y, .int z] n c (Qi g (fun xr n' c' => xr = sp_X8_rest r x y z cn ∧ n' = n ∧ c' = c)) := by
  refine ent (by decide) rfl (Nat.le_of_ble_eq_true rfl) ?_
  intro p e s m args below meth c0 F h ls hl
  have hx := F.1
  have hb := F.2.1
  have hl : lv_has ls 4 [(0, .ref (gz g + b)), (1, .int x), (2, .int y), (3, .int z)] := hl
  refine lv_aload_n hx hb dX8_rest_0 rfl (lv_at hl 0 rfl) ?_
  refine lv_iload_n hx hb dX8_rest_1 rfl (lv_at hl 1 rfl) ?_
  refine lv_iload_n hx hb dX8_rest_2 rfl (lv_at hl 2 rfl) ?_
  refine lv_iload_n hx hb dX8_rest_3 rfl (lv_at hl 3 rfl) ?_
  refine u_iE (v := (sp_X8_barred r x y z)) (ru_V (As := [.int x, .int y, .int z]) (rest := []) F h hm rfl (k_X8_barred l g n c b kp rs ty pl fa od hm r hr x y z ) (gV hjl wd_1133 wd_1135 wd_48 wd_58 wd_1136) rfl 3 (by decide +kernel) rfl ⟨Nat.le_of_ble_eq_true rfl, Nat.le_of_ble_eq_true rfl⟩ rfl hl.1 (Nat.le_of_ble_eq_true rfl) ⟨Nat.zero_le _, Nat.zero_le _⟩ dX8_rest_4) h (fun H locs h => ?_)
  refine lv_if_ge (tgt := 20) hx hb dX8_rest_7 (by decide) (fun b_7 => ?_) (fun b_7 => ?_)
  · skip
    have hbz := bar_0 b_7
    have h4x := hbz.1.1
    have h2z := hbz.2.1.1
    have hq := hQ _ hbz.1.1 hbz.2.2.1
    refine lv_aload_n hx hb dX8_rest_20 rfl (lv_at hl 0 rfl) ?_
    skip
    have hl : lv_has ls 4 [(0, .ref (gz g + b)), (1, .int (nI (wN x))), (2, .int y), (3, .int z)] := by rw [show (nI (wN x) : Int32) = x from hbz.1.2]; exact hl
    have hl : lv_has ls 4 [(0, .ref (gz g + b)), (1, .int (nI (wN x))), (2, .int y), (3, .int (nI (wN z)))] := by rw [show (nI (wN z) : Int32) = z from hbz.2.1.2]; exact hl
    refine lv_iload_n hx hb dX8_rest_21 rfl (lv_at hl 1 rfl) ?_
    refine lv_iload_n hx hb dX8_rest_22 rfl (lv_at hl 2 rfl) ?_
    refine lv_iload_n hx hb dX8_rest_23 rfl (lv_at hl 3 rfl) ?_
    refine u_iE (v := (raS r (wN x) y (wN z) cn).toInt32) (ru_V (As := [.int (nI (wN x)), .int y, .int (nI (wN z))]) (rest := []) F h hm rfl (k_X8_restAt l g n c b kp rs ty pl fa od hm r hr (wN x) y (wN z) cn (by omega) (by omega) hcn h5 hq.1) (gV hjl wd_1016 wd_1018 wd_33 wd_58 wd_1019) rfl 3 (by decide +kernel) rfl ⟨Nat.le_of_ble_eq_true rfl, Nat.le_of_ble_eq_true rfl⟩ rfl hl.1 (Nat.le_of_ble_eq_true rfl) ⟨Nat.zero_le _, Nat.zero_le _⟩ dX8_rest_24) h (fun H locs h => ?_)
    exact ret_i F h (Nat.zero_le _) (Nat.zero_le _) dX8_rest_27 (⟨((show sp_X8_rest r x y z cn = (raS r (wN x) y (wN z) cn).toInt32 by rw [sp_X8_rest, if_pos (c := 0 ≤ (sp_X8_barred r x y z)) b_7])).symm, rfl, rfl⟩)
  refine lv_aload_n hx hb dX8_rest_10 rfl (lv_at hl 0 rfl) ?_
  refine lv_iload_n hx hb dX8_rest_11 rfl (lv_at hl 1 rfl) ?_
  refine lv_iload_n hx hb dX8_rest_12 rfl (lv_at hl 2 rfl) ?_
  refine lv_iload_n hx hb dX8_rest_13 rfl (lv_at hl 3 rfl) ?_
  refine u_iE (v := (sp_X8_barred r x y z)) (ru_V (As := [.int x, .int y, .int z]) (rest := []) F h hm rfl (k_X8_barred l g n c b kp rs ty pl fa od hm r hr x y z ) (gV hjl wd_1133 wd_1135 wd_48 wd_58 wd_1136) rfl 3 (by decide +kernel) rfl ⟨Nat.le_of_ble_eq_true rfl, Nat.le_of_ble_eq_true rfl⟩ rfl hl.1 (Nat.le_of_ble_eq_true rfl) ⟨Nat.zero_le _, Nat.zero_le _⟩ dX8_rest_14) h (fun H locs h => ?_)
  refine lv_goto (tgt := 27) hx hb dX8_rest_17 (by decide) ?_
  exact ret_i F h (Nat.zero_le _) (Nat.zero_le _) dX8_rest_27 (⟨((show sp_X8_rest r x y z cn = (sp_X8_barred r x y z) by rw [sp_X8_rest, if_neg (c := 0 ≤ (sp_X8_barred r x y z)) b_7])).symm, rfl, rfl⟩)
def sp_X8_position (r : Nat → Int32) (x y z : Int32) (cn : Nat) : Int32 := if 0 ≤ (sp_X8_barred r x y z) then ((sp_X8_positionAt r (wN x) y (wN z) cn)) else ((sp_X8_barred r x y z))
set_option maxHeartbeats 4000000 in
set_option maxRecDepth 100000 in
theorem k_X8_position (l : Launch) (g : Gf) (n : Nat) (c : Mp) (b : Nat) (kp rs ty pl fa od : Int32) (hm : c b = moC g b kp rs ty pl fa od) (r : Nat → Int32) (hr : c (b + 1) = iaA (g.2.1 0) 204 r) (x y z : Int32) (cn : Nat) (hcn : r 3 = nI cn) (h5 : cn ≤ 5) (hQ : HQw r) : Ct l g yX8_position wsX8_position 4 90 0 0 [.ref (gz g + b), .int x, .int y, .int z] n c (Qi g (fun xr n' c' => xr = sp_X8_position r x y z cn ∧ n' = n ∧ c' = c)) := by
  refine ent (by decide) rfl (Nat.le_of_ble_eq_true rfl) ?_
  intro p e s m args below meth c0 F h ls hl
  have hx := F.1
  have hb := F.2.1
  have hl : lv_has ls 4 [(0, .ref (gz g + b)), (1, .int x), (2, .int y), (3, .int z)] := hl
  refine lv_aload_n hx hb dX8_position_0 rfl (lv_at hl 0 rfl) ?_
  refine lv_iload_n hx hb dX8_position_1 rfl (lv_at hl 1 rfl) ?_
  refine lv_iload_n hx hb dX8_position_2 rfl (lv_at hl 2 rfl) ?_
  refine lv_iload_n hx hb dX8_position_3 rfl (lv_at hl 3 rfl) ?_
  refine u_iE (v := (sp_X8_barred r x y z)) (ru_V (As := [.int x, .int y, .int z]) (rest := []) F h hm rfl (k_X8_barred l g n c b kp rs ty pl fa od hm r hr x y z ) (gV hjl wd_1133 wd_1135 wd_48 wd_58 wd_1136) rfl 3 (by decide +kernel) rfl ⟨Nat.le_of_ble_eq_true rfl, Nat.le_of_ble_eq_true rfl⟩ rfl hl.1 (Nat.le_of_ble_eq_true rfl) ⟨Nat.zero_le _, Nat.zero_le _⟩ dX8_position_4) h (fun H locs h => ?_)
  refine lv_if_ge (tgt := 20) hx hb dX8_position_7 (by decide) (fun b_7 => ?_) (fun b_7 => ?_)
  · skip
    have hbz := bar_0 b_7
    have h4x := hbz.1.1
    have h2z := hbz.2.1.1
    have hq := hQ _ hbz.1.1 hbz.2.2.1
    refine lv_aload_n hx hb dX8_position_20 rfl (lv_at hl 0 rfl) ?_
    skip
    have hl : lv_has ls 4 [(0, .ref (gz g + b)), (1, .int (nI (wN x))), (2, .int y), (3, .int z)] := by rw [show (nI (wN x) : Int32) = x from hbz.1.2]; exact hl
    have hl : lv_has ls 4 [(0, .ref (gz g + b)), (1, .int (nI (wN x))), (2, .int y), (3, .int (nI (wN z)))] := by rw [show (nI (wN z) : Int32) = z from hbz.2.1.2]; exact hl
    refine lv_iload_n hx hb dX8_position_21 rfl (lv_at hl 1 rfl) ?_
    refine lv_iload_n hx hb dX8_position_22 rfl (lv_at hl 2 rfl) ?_
    refine lv_iload_n hx hb dX8_position_23 rfl (lv_at hl 3 rfl) ?_
    refine u_iE (v := (sp_X8_positionAt r (wN x) y (wN z) cn)) (ru_V (As := [.int (nI (wN x)), .int y, .int (nI (wN z))]) (rest := []) F h hm rfl (k_X8_positionAt l g n c b kp rs ty pl fa od hm r hr (wN x) y (wN z) cn (by omega) (by omega) hcn h5 hq.1 hq.2.1 hq.2.2) (gV hjl wd_1012 wd_1014 wd_32 wd_58 wd_1015) rfl 3 (by decide +kernel) rfl ⟨Nat.le_of_ble_eq_true rfl, Nat.le_of_ble_eq_true rfl⟩ rfl hl.1 (Nat.le_of_ble_eq_true rfl) ⟨Nat.zero_le _, Nat.zero_le _⟩ dX8_position_24) h (fun H locs h => ?_)
    exact ret_i F h (Nat.zero_le _) (Nat.zero_le _) dX8_position_27 (⟨((show sp_X8_position r x y z cn = (sp_X8_positionAt r (wN x) y (wN z) cn) by rw [sp_X8_position, if_pos (c := 0 ≤ (sp_X8_barred r x y z)) b_7])).symm, rfl, rfl⟩)
  refine lv_aload_n hx hb dX8_position_10 rfl (lv_at hl 0 rfl) ?_
  refine lv_iload_n hx hb dX8_position_11 rfl (lv_at hl 1 rfl) ?_
  refine lv_iload_n hx hb dX8_position_12 rfl (lv_at hl 2 rfl) ?_
  refine lv_iload_n hx hb dX8_position_13 rfl (lv_at hl 3 rfl) ?_
  refine u_iE (v := (sp_X8_barred r x y z)) (ru_V (As := [.int x, .int y, .int z]) (rest := []) F h hm rfl (k_X8_barred l g n c b kp rs ty pl fa od hm r hr x y z ) (gV hjl wd_1133 wd_1135 wd_48 wd_58 wd_1136) rfl 3 (by decide +kernel) rfl ⟨Nat.le_of_ble_eq_true rfl, Nat.le_of_ble_eq_true rfl⟩ rfl hl.1 (Nat.le_of_ble_eq_true rfl) ⟨Nat.zero_le _, Nat.zero_le _⟩ dX8_position_14) h (fun H locs h => ?_)
  refine lv_goto (tgt := 27) hx hb dX8_position_17 (by decide) ?_
  exact ret_i F h (Nat.zero_le _) (Nat.zero_le _) dX8_position_27 (⟨((show sp_X8_position r x y z cn = (sp_X8_barred r x y z) by rw [sp_X8_position, if_neg (c := 0 ≤ (sp_X8_barred r x y z)) b_7])).symm, rfl, rfl⟩)
set_option maxHeartbeats 4000000 in
set_option maxRecDepth 100000 in
theorem k_X8_seenHere (l : Launch) (g : Gf) (n : Nat) (c : Mp) (b : Nat) (kp rs ty pl fa od : Int32) (hm : c b = moC g b kp rs ty pl fa od) (r : Nat → Int32) (hr : c (b + 1) = iaA (g.2.1 0) 204 r) (s1 : Nat) (hs5 : s1 < 5) : Ct l g yX8_seenHere wsX8_seenHere 1 21 0 0 [.ref (gz g + b), .int (nI s1)] n c (Qi g (fun xr n' c' => xr = smI (fun w => r (84 + 6 * (4 * s1 + w) + 0)) 4 ∧ n' = n ∧ c' = c)) := by
  refine ent (by decide) rfl (Nat.le_of_ble_eq_true rfl) ?_
  intro p e s m args below meth c0 F h ls hl
  have hx := F.1
  have hb := F.2.1
  have hl : lv_has ls 4 [(0, .ref (gz g + b)), (1, .int (nI s1))] := hl
  refine lv_iconst (v := 0) hx hb dX8_seenHere_0 (by decide) ?_
  refine lv_istore_n (lv' := [(2, .int 0), (0, .ref (gz g + b)), (1, .int (nI s1))]) hx hb dX8_seenHere_1 rfl hl (by decide) rfl (fun ls hl => ?_)
  refine lv_iconst (v := 0) hx hb dX8_seenHere_2 (by decide) ?_
  refine lv_istore_n (lv' := [(3, .int 0), (2, .int 0), (0, .ref (gz g + b)), (1, .int (nI s1))]) hx hb dX8_seenHere_3 rfl hl (by decide) rfl (fun ls hl => ?_)
  have lp : ∀ (k : Nat) (w : Nat) (hw : w ≤ 4) (H : Heap) (locs : List Loc) (ls : Array Slot), (5 - w) ≤ k → Hv g s H locs n c → lv_has ls 4 [(0, .ref (gz g + b)), (1, .int (nI s1)), (2, .int (smI (fun w => r (84 + 6 * (4 * s1 + w) + 0)) w)), (3, .int (nI w))] → W p l e (Rm 1 21 0 0) s m args below meth c0 H locs 0 0 (MQ below (Qi g (fun xr n' c' => xr = smI (fun w => r (84 + 6 * (4 * s1 + w) + 0)) 4 ∧ n' = n ∧ c' = c)) args s 0 0 (mAf g)) (F0 m 4 ls []) := by
    intro k
    induction k with
    | zero => intro w hw H locs ls hk h hl; exact absurd hk (by omega)
    | succ k ih =>
      intro w hw H locs ls hk h hl
      refine lv_iload_n hx hb dX8_seenHere_4 rfl (lv_at hl 3 rfl) ?_
      refine lv_iconst (v := 4) hx hb dX8_seenHere_5 (by decide) ?_
      refine lv_icmp_ge (tgt := 30) hx hb dX8_seenHere_6 (by decide) (fun b_6 => ?_) (fun b_6 => ?_)
      · skip
        refine lv_iload_n hx hb dX8_seenHere_30 rfl (lv_at hl 2 rfl) ?_
        exact ret_i F h (Nat.zero_le _) (Nat.zero_le _) dX8_seenHere_31 (⟨by rw [show w = 4 from by have := lp_ge (N := 4) rfl (by omega) (by decide) b_6; omega], rfl, rfl⟩)
      have hw4 : w < 4 := lp_lt (N := 4) rfl (by omega) (by decide) b_6
      refine lv_iload_n hx hb dX8_seenHere_9 rfl (lv_at hl 2 rfl) ?_
      refine lv_aload_n hx hb dX8_seenHere_10 rfl (lv_at hl 0 rfl) ?_
      refine r_get F h (C := RX8) (T := TX8) (N := 13) (hjc hi_X8) rfl hm 0 (by decide) (List.mem_cons_of_mem _ wd_828) rfl dX8_seenHere_11 ?_
      refine lv_iload_n hx hb dX8_seenHere_14 rfl (lv_at hl 1 rfl) ?_
      refine lv_iload_n hx hb dX8_seenHere_15 rfl (lv_at hl 3 rfl) ?_
      refine u_iE (v := (84 + 6 * (4 * (nI s1) + (nI w)))) (ru_S (As := [.int (nI s1), .int (nI w)]) (rest := [.ref (gz g + (b + 1)), .int (smI (fun w => r (84 + 6 * (4 * s1 + w) + 0)) w)]) F h (k_X8_seenAt l g n c (nI s1) (nI w)) (gS hjl wd_909 wd_910 wd_58 wd_911) rfl 2 (by decide +kernel) rfl ⟨Nat.le_of_ble_eq_true rfl, Nat.le_of_ble_eq_true rfl⟩ rfl hl.1 (Nat.le_of_ble_eq_true rfl) ⟨Nat.zero_le _, Nat.zero_le _⟩ dX8_seenHere_16) h (fun H locs h => ?_)
      refine lv_iconst (v := 0) hx hb dX8_seenHere_19 (by decide) ?_
      refine lv_iadd hx hb dX8_seenHere_20 ?_
      refine r_ialdN F h (k := 84 + 6 * (4 * s1 + w) + 0) hr (by simp only [fa_lit, pk_mul, nI_add]; first | done | (refine congrArg nI ?_; omega)) (by omega) (by decide) dX8_seenHere_21 ?_
      refine lv_iadd hx hb dX8_seenHere_22 ?_
      refine lv_istore_n (lv' := [(2, .int (smI (fun w => r (84 + 6 * (4 * s1 + w) + 0)) w + (r (84 + 6 * (4 * s1 + w) + 0)))), (0, .ref (gz g + b)), (1, .int (nI s1)), (3, .int (nI w))]) hx hb dX8_seenHere_23 rfl hl (by decide) rfl (fun ls hl => ?_)
      have hl : lv_has ls 4 [(2, .int (smI (fun w => r (84 + 6 * (4 * s1 + w) + 0)) (w + 1))), (0, .ref (gz g + b)), (1, .int (nI s1)), (3, .int (nI w))] := by rw [show (smI (fun w => r (84 + 6 * (4 * s1 + w) + 0)) (w + 1) : Int32) = (smI (fun w => r (84 + 6 * (4 * s1 + w) + 0)) w + (r (84 + 6 * (4 * s1 + w) + 0))) from rfl]; exact hl
      refine lv_iinc (v := nI (w + 1)) (lv' := [(3, .int (nI (w + 1))), (2, .int (smI (fun w => r (84 + 6 * (4 * s1 + w) + 0)) (w + 1))), (0, .ref (gz g + b)), (1, .int (nI s1))]) hx hb dX8_seenHere_24 hl (k := 3) rfl (by exact (nI_succ w).symm) (by decide) rfl (fun ls hl => ?_)
      refine lv_goto (tgt := 4) hx hb dX8_seenHere_27 (by decide) ?_
      exact ih (w + 1) (by omega) _ _ _ (by omega) h (lv_sub hl [2, 3, 1, 0] rfl)
  exact lp _ 0 (Nat.zero_le _) _ _ _ (Nat.le_refl _) h (lv_sub hl [2, 3, 1, 0] rfl)
def sp_X8_station (r : Nat → Int32) (x y : Int32) (sc : Nat) : Int32 := if (noS r x) = 0 then (if (inI y 0 2) = 0 then (if y = 3 then ((smI (fun w => r (84 + 6 * (4 * (wN x) + w) + 0)) 4)) else ((-100002))) else ((r (69 + 3 * wN x + wN y)))) else ((-100001))
set_option maxHeartbeats 4000000 in
set_option maxRecDepth 100000 in
theorem k_X8_station (l : Launch) (g : Gf) (n : Nat) (c : Mp) (b : Nat) (kp rs ty pl fa od : Int32) (hm : c b = moC g b kp rs ty pl fa od) (r : Nat → Int32) (hr : c (b + 1) = iaA (g.2.1 0) 204 r) (x y : Int32) (sc : Nat) (hsc : r 4 = nI sc) (h5 : sc ≤ 5) : Ct l g yX8_station wsX8_station 2 44 0 0 [.ref (gz g + b), .int x, .int y] n c (Qi g (fun xr n' c' => xr = sp_X8_station r x y sc ∧ n' = n ∧ c' = c)) := by
  refine ent (by decide) rfl (Nat.le_of_ble_eq_true rfl) ?_
  intro p e s m args below meth c0 F h ls hl
  have hx := F.1
  have hb := F.2.1
  have hl : lv_has ls 3 [(0, .ref (gz g + b)), (1, .int x), (2, .int y)] := hl
  refine lv_aload_n hx hb dX8_station_0 rfl (lv_at hl 0 rfl) ?_
  refine lv_iload_n hx hb dX8_station_1 rfl (lv_at hl 1 rfl) ?_
  refine u_iE (v := (noS r x)) (ru_V (As := [.int x]) (rest := []) F h hm rfl (k_X8_noStation l g n c b kp rs ty pl fa od hm r hr x) (gV hjl wd_1008 wd_1010 wd_31 wd_58 wd_1011) rfl 1 (by decide +kernel) rfl ⟨Nat.le_of_ble_eq_true rfl, Nat.le_of_ble_eq_true rfl⟩ rfl hl.1 (Nat.le_of_ble_eq_true rfl) ⟨Nat.zero_le _, Nat.zero_le _⟩ dX8_station_2) h (fun H locs h => ?_)
  refine lv_if_eq (tgt := 11) hx hb dX8_station_5 (by decide) (fun b_5 => ?_) (fun b_5 => ?_)
  · skip
    have h_x := noS_w hsc h5 b_5
    have h4_x : wN x < 5 := by omega
    have hl : lv_has ls 3 [(0, .ref (gz g + b)), (1, .int (nI (wN x))), (2, .int y)] := by rw [show (nI (wN x) : Int32) = x from h_x.2]; exact hl
    refine lv_iload_n hx hb dX8_station_11 rfl (lv_at hl 2 rfl) ?_
    refine lv_iconst (v := 0) hx hb dX8_station_12 (by decide) ?_
    refine lv_iconst (v := 2) hx hb dX8_station_13 (by decide) ?_
    refine u_iE (v := (inI y 0 2)) (ru_S (As := [.int y, .int 0, .int 2]) (rest := []) F h (k_X8_in l g n c y 0 2) (gS hjl wd_877 wd_878 wd_58 wd_879) rfl 3 (by decide +kernel) rfl ⟨Nat.le_of_ble_eq_true rfl, Nat.le_of_ble_eq_true rfl⟩ rfl hl.1 (Nat.le_of_ble_eq_true rfl) ⟨Nat.zero_le _, Nat.zero_le _⟩ dX8_station_14) h (fun H locs h => ?_)
    refine lv_if_eq (tgt := 36) hx hb dX8_station_17 (by decide) (fun b_17 => ?_) (fun b_17 => ?_)
    · skip
      refine lv_iload_n hx hb dX8_station_36 rfl (lv_at hl 2 rfl) ?_
      refine lv_iconst (v := 3) hx hb dX8_station_37 (by decide) ?_
      refine lv_icmp_ne (tgt := 49) hx hb dX8_station_38 (by decide) (fun b_38 => ?_) (fun b_38 => ?_)
      · skip
        refine lv_ldc (v := (-100002)) hx hb F.2.2.2.1 (F.2.2.2.2.1 (Cond.constant RX8 70 (-100002)) (List.mem_cons_of_mem _ wd_900)) dX8_station_49 ?_
        exact ret_i F h (Nat.zero_le _) (Nat.zero_le _) dX8_station_51 (⟨((show sp_X8_station r x y sc = (-100002) by rw [sp_X8_station, if_pos (c := (noS r x) = 0) b_5, if_pos (c := (inI y 0 2) = 0) b_17, if_neg (c := y = 3) b_38])).symm, rfl, rfl⟩)
      refine lv_aload_n hx hb dX8_station_41 rfl (lv_at hl 0 rfl) ?_
      refine lv_iload_n hx hb dX8_station_42 rfl (lv_at hl 1 rfl) ?_
      refine u_iE (v := (smI (fun w => r (84 + 6 * (4 * (wN x) + w) + 0)) 4)) (ru_V (As := [.int (nI (wN x))]) (rest := []) F h hm rfl (k_X8_seenHere l g n c b kp rs ty pl fa od hm r hr (wN x) (by omega)) (gV hjl wd_1149 wd_1151 wd_49 wd_58 wd_1152) rfl 1 (by decide +kernel) rfl ⟨Nat.le_of_ble_eq_true rfl, Nat.le_of_ble_eq_true rfl⟩ rfl hl.1 (Nat.le_of_ble_eq_true rfl) ⟨Nat.zero_le _, Nat.zero_le _⟩ dX8_station_43) h (fun H locs h => ?_)
      refine lv_goto (tgt := 51) hx hb dX8_station_46 (by decide) ?_
      exact ret_i F h (Nat.zero_le _) (Nat.zero_le _) dX8_station_51 (⟨((show sp_X8_station r x y sc = (smI (fun w => r (84 + 6 * (4 * (wN x) + w) + 0)) 4) by rw [sp_X8_station, if_pos (c := (noS r x) = 0) b_5, if_pos (c := (inI y 0 2) = 0) b_17, if_pos (c := y = 3) b_38])).symm, rfl, rfl⟩)
    have h_y := inI_w (N := 2) (by decide) b_17
    have h4_y := h_y.1
    have hl : lv_has ls 3 [(0, .ref (gz g + b)), (1, .int (nI (wN x))), (2, .int (nI (wN y)))] := by rw [show (nI (wN y) : Int32) = y from h_y.2]; exact hl
    refine lv_aload_n hx hb dX8_station_20 rfl (lv_at hl 0 rfl) ?_
    refine r_get F h (C := RX8) (T := TX8) (N := 13) (hjc hi_X8) rfl hm 0 (by decide) (List.mem_cons_of_mem _ wd_828) rfl dX8_station_21 ?_
    refine lv_bipush (v := 69) hx hb dX8_station_24 (by decide) ?_
    refine lv_iconst (v := 3) hx hb dX8_station_26 (by decide) ?_
    refine lv_iload_n hx hb dX8_station_27 rfl (lv_at hl 1 rfl) ?_
    refine lv_imul hx hb dX8_station_28 ?_
    refine lv_iadd hx hb dX8_station_29 ?_
    refine lv_iload_n hx hb dX8_station_30 rfl (lv_at hl 2 rfl) ?_
    refine lv_iadd hx hb dX8_station_31 ?_
    refine r_ialdN F h (k := 69 + 3 * wN x + wN y) hr (by simp only [fa_lit, pk_mul, nI_add]; first | done | (refine congrArg nI ?_; omega)) (by omega) (by decide) dX8_station_32 ?_
    refine lv_goto (tgt := 51) hx hb dX8_station_33 (by decide) ?_
    exact ret_i F h (Nat.zero_le _) (Nat.zero_le _) dX8_station_51 (⟨((show sp_X8_station r x y sc = (r (69 + 3 * wN x + wN y)) by rw [sp_X8_station, if_pos (c := (noS r x) = 0) b_5, if_neg (c := (inI y 0 2) = 0) b_17])).symm, rfl, rfl⟩)
  refine lv_ldc (v := (-100001)) hx hb F.2.2.2.1 (F.2.2.2.2.1 (Cond.constant RX8 40 (-100001)) (List.mem_cons_of_mem _ wd_880)) dX8_station_8 ?_
  exact ret_i F h (Nat.zero_le _) (Nat.zero_le _) dX8_station_10 (⟨((show sp_X8_station r x y sc = (-100001) by rw [sp_X8_station, if_neg (c := (noS r x) = 0) b_5])).symm, rfl, rfl⟩)
def sp_X8_observation (r : Nat → Int32) (x y z : Int32) (sc : Nat) : Int32 := if (noS r x) = 0 then (if (noW y) = 0 then (if (inI z 0 4) = 0 then ((-100002)) else (if (r (84 + 6 * (4 * wN x + wN y) + 0)) = 0 then ((-100005)) else ((r (84 + 6 * (4 * wN x + wN y) + 1 + wN z))))) else ((-100001))) else ((-100001))
set_option maxHeartbeats 4000000 in
set_option maxRecDepth 100000 in
theorem k_X8_observation (l : Launch) (g : Gf) (n : Nat) (c : Mp) (b : Nat) (kp rs ty pl fa od : Int32) (hm : c b = moC g b kp rs ty pl fa od) (r : Nat → Int32) (hr : c (b + 1) = iaA (g.2.1 0) 204 r) (x y z : Int32) (sc : Nat) (hsc : r 4 = nI sc) (h5 : sc ≤ 5) : Ct l g yX8_observation wsX8_observation 2 43 0 0 [.ref (gz g + b), .int x, .int y, .int z] n c (Qi g (fun xr n' c' => xr = sp_X8_observation r x y z sc ∧ n' = n ∧ c' = c)) := by
  refine ent (by decide) rfl (Nat.le_of_ble_eq_true rfl) ?_
  intro p e s m args below meth c0 F h ls hl
  have hx := F.1
  have hb := F.2.1
  have hl : lv_has ls 4 [(0, .ref (gz g + b)), (1, .int x), (2, .int y), (3, .int z)] := hl
  refine lv_aload_n hx hb dX8_observation_0 rfl (lv_at hl 0 rfl) ?_
  refine lv_iload_n hx hb dX8_observation_1 rfl (lv_at hl 1 rfl) ?_
  refine u_iE (v := (noS r x)) (ru_V (As := [.int x]) (rest := []) F h hm rfl (k_X8_noStation l g n c b kp rs ty pl fa od hm r hr x) (gV hjl wd_1008 wd_1010 wd_31 wd_58 wd_1011) rfl 1 (by decide +kernel) rfl ⟨Nat.le_of_ble_eq_true rfl, Nat.le_of_ble_eq_true rfl⟩ rfl hl.1 (Nat.le_of_ble_eq_true rfl) ⟨Nat.zero_le _, Nat.zero_le _⟩ dX8_observation_2) h (fun H locs h => ?_)
  refine lv_if_ne (tgt := 15) hx hb dX8_observation_5 (by decide) (fun b_5 => ?_) (fun b_5 => ?_)
  · skip
    refine lv_ldc (v := (-100001)) hx hb F.2.2.2.1 (F.2.2.2.2.1 (Cond.constant RX8 40 (-100001)) (List.mem_cons_of_mem _ wd_880)) dX8_observation_15 ?_
    exact ret_i F h (Nat.zero_le _) (Nat.zero_le _) dX8_observation_17 (⟨((show sp_X8_observation r x y z sc = (-100001) by rw [sp_X8_observation, if_neg (c := (noS r x) = 0) b_5])).symm, rfl, rfl⟩)
  refine lv_iload_n hx hb dX8_observation_8 rfl (lv_at hl 2 rfl) ?_
  refine u_iE (v := (noW y)) (ru_S (As := [.int y]) (rest := []) F h (k_X8_noWire l g n c y) (gS hjl wd_897 wd_898 wd_58 wd_899) rfl 1 (by decide +kernel) rfl ⟨Nat.le_of_ble_eq_true rfl, Nat.le_of_ble_eq_true rfl⟩ rfl hl.1 (Nat.le_of_ble_eq_true rfl) ⟨Nat.zero_le _, Nat.zero_le _⟩ dX8_observation_9) h (fun H locs h => ?_)
  refine lv_if_eq (tgt := 18) hx hb dX8_observation_12 (by decide) (fun b_12 => ?_) (fun b_12 => ?_)
  · skip
    have h_x := noS_w hsc h5 b_5
    have h4_x : wN x < 5 := by omega
    have hl : lv_has ls 4 [(0, .ref (gz g + b)), (1, .int (nI (wN x))), (2, .int y), (3, .int z)] := by rw [show (nI (wN x) : Int32) = x from h_x.2]; exact hl
    have h_y := noW_w b_12
    have h4_y : wN y < 4 := h_y.1
    have hl : lv_has ls 4 [(0, .ref (gz g + b)), (1, .int (nI (wN x))), (2, .int (nI (wN y))), (3, .int z)] := by rw [show (nI (wN y) : Int32) = y from h_y.2]; exact hl
    refine lv_iload_n hx hb dX8_observation_18 rfl (lv_at hl 3 rfl) ?_
    refine lv_iconst (v := 0) hx hb dX8_observation_19 (by decide) ?_
    refine lv_iconst (v := 4) hx hb dX8_observation_20 (by decide) ?_
    refine u_iE (v := (inI z 0 4)) (ru_S (As := [.int z, .int 0, .int 4]) (rest := []) F h (k_X8_in l g n c z 0 4) (gS hjl wd_877 wd_878 wd_58 wd_879) rfl 3 (by decide +kernel) rfl ⟨Nat.le_of_ble_eq_true rfl, Nat.le_of_ble_eq_true rfl⟩ rfl hl.1 (Nat.le_of_ble_eq_true rfl) ⟨Nat.zero_le _, Nat.zero_le _⟩ dX8_observation_21) h (fun H locs h => ?_)
    refine lv_if_ne (tgt := 30) hx hb dX8_observation_24 (by decide) (fun b_24 => ?_) (fun b_24 => ?_)
    · skip
      have h_z := inI_w (N := 4) (by decide) b_24
      have h4_z := h_z.1
      have hl : lv_has ls 4 [(0, .ref (gz g + b)), (1, .int (nI (wN x))), (2, .int (nI (wN y))), (3, .int (nI (wN z)))] := by rw [show (nI (wN z) : Int32) = z from h_z.2]; exact hl
      refine lv_aload_n hx hb dX8_observation_30 rfl (lv_at hl 0 rfl) ?_
      refine r_get F h (C := RX8) (T := TX8) (N := 13) (hjc hi_X8) rfl hm 0 (by decide) (List.mem_cons_of_mem _ wd_828) rfl dX8_observation_31 ?_
      refine lv_iload_n hx hb dX8_observation_34 rfl (lv_at hl 1 rfl) ?_
      refine lv_iload_n hx hb dX8_observation_35 rfl (lv_at hl 2 rfl) ?_
      refine u_iE (v := (84 + 6 * (4 * (nI (wN x)) + (nI (wN y))))) (ru_S (As := [.int (nI (wN x)), .int (nI (wN y))]) (rest := [.ref (gz g + (b + 1))]) F h (k_X8_seenAt l g n c (nI (wN x)) (nI (wN y))) (gS hjl wd_909 wd_910 wd_58 wd_911) rfl 2 (by decide +kernel) rfl ⟨Nat.le_of_ble_eq_true rfl, Nat.le_of_ble_eq_true rfl⟩ rfl hl.1 (Nat.le_of_ble_eq_true rfl) ⟨Nat.zero_le _, Nat.zero_le _⟩ dX8_observation_36) h (fun H locs h => ?_)
      refine lv_iconst (v := 0) hx hb dX8_observation_39 (by decide) ?_
      refine lv_iadd hx hb dX8_observation_40 ?_
      refine r_ialdN F h (k := 84 + 6 * (4 * wN x + wN y) + 0) hr (by simp only [fa_lit, pk_mul, nI_add]; first | done | (refine congrArg nI ?_; omega)) (by omega) (by decide) dX8_observation_41 ?_
      refine lv_if_ne (tgt := 50) hx hb dX8_observation_42 (by decide) (fun b_42 => ?_) (fun b_42 => ?_)
      · skip
        refine lv_aload_n hx hb dX8_observation_50 rfl (lv_at hl 0 rfl) ?_
        refine r_get F h (C := RX8) (T := TX8) (N := 13) (hjc hi_X8) rfl hm 0 (by decide) (List.mem_cons_of_mem _ wd_828) rfl dX8_observation_51 ?_
        refine lv_iload_n hx hb dX8_observation_54 rfl (lv_at hl 1 rfl) ?_
        refine lv_iload_n hx hb dX8_observation_55 rfl (lv_at hl 2 rfl) ?_
        refine u_iE (v := (84 + 6 * (4 * (nI (wN x)) + (nI (wN y))))) (ru_S (As := [.int (nI (wN x)), .int (nI (wN y))]) (rest := [.ref (gz g + (b + 1))]) F h (k_X8_seenAt l g n c (nI (wN x)) (nI (wN y))) (gS hjl wd_909 wd_910 wd_58 wd_911) rfl 2 (by decide +kernel) rfl ⟨Nat.le_of_ble_eq_true rfl, Nat.le_of_ble_eq_true rfl⟩ rfl hl.1 (Nat.le_of_ble_eq_true rfl) ⟨Nat.zero_le _, Nat.zero_le _⟩ dX8_observation_56) h (fun H locs h => ?_)
        refine lv_iconst (v := 1) hx hb dX8_observation_59 (by decide) ?_
        refine lv_iadd hx hb dX8_observation_60 ?_
        refine lv_iload_n hx hb dX8_observation_61 rfl (lv_at hl 3 rfl) ?_
        refine lv_iadd hx hb dX8_observation_62 ?_
        refine r_ialdN F h (k := 84 + 6 * (4 * wN x + wN y) + 1 + wN z) hr (by simp only [fa_lit, pk_mul, nI_add]; first | done | (refine congrArg nI ?_; omega)) (by omega) (by decide) dX8_observation_63 ?_
        exact ret_i F h (Nat.zero_le _) (Nat.zero_le _) dX8_observation_64 (⟨((show sp_X8_observation r x y z sc = (r (84 + 6 * (4 * wN x + wN y) + 1 + wN z)) by rw [sp_X8_observation, if_pos (c := (noS r x) = 0) b_5, if_pos (c := (noW y) = 0) b_12, if_neg (c := (inI z 0 4) = 0) b_24, if_neg (c := (r (84 + 6 * (4 * wN x + wN y) + 0)) = 0) b_42])).symm, rfl, rfl⟩)
      refine lv_ldc (v := (-100005)) hx hb F.2.2.2.1 (F.2.2.2.2.1 (Cond.constant RX8 44 (-100005)) (List.mem_cons_of_mem _ wd_872)) dX8_observation_45 ?_
      refine lv_goto (tgt := 64) hx hb dX8_observation_47 (by decide) ?_
      exact ret_i F h (Nat.zero_le _) (Nat.zero_le _) dX8_observation_64 (⟨((show sp_X8_observation r x y z sc = (-100005) by rw [sp_X8_observation, if_pos (c := (noS r x) = 0) b_5, if_pos (c := (noW y) = 0) b_12, if_neg (c := (inI z 0 4) = 0) b_24, if_pos (c := (r (84 + 6 * (4 * wN x + wN y) + 0)) = 0) b_42])).symm, rfl, rfl⟩)
    refine lv_ldc (v := (-100002)) hx hb F.2.2.2.1 (F.2.2.2.2.1 (Cond.constant RX8 70 (-100002)) (List.mem_cons_of_mem _ wd_900)) dX8_observation_27 ?_
    exact ret_i F h (Nat.zero_le _) (Nat.zero_le _) dX8_observation_29 (⟨((show sp_X8_observation r x y z sc = (-100002) by rw [sp_X8_observation, if_pos (c := (noS r x) = 0) b_5, if_pos (c := (noW y) = 0) b_12, if_pos (c := (inI z 0 4) = 0) b_24])).symm, rfl, rfl⟩)
  refine lv_ldc (v := (-100001)) hx hb F.2.2.2.1 (F.2.2.2.2.1 (Cond.constant RX8 40 (-100001)) (List.mem_cons_of_mem _ wd_880)) dX8_observation_15 ?_
  exact ret_i F h (Nat.zero_le _) (Nat.zero_le _) dX8_observation_17 (⟨((show sp_X8_observation r x y z sc = (-100001) by rw [sp_X8_observation, if_pos (c := (noS r x) = 0) b_5, if_neg (c := (noW y) = 0) b_12])).symm, rfl, rfl⟩)
