/-! The law: its small methods. -/
theorem cell_in {k : Int32} {N : Nat} (hk : 0 ≤ k.toInt) (h : ¬ Int32.ofNat N ≤ k) : vp_in k N := by
  refine vp_in_iff.mpr ⟨hk, ?_⟩
  by_cases hN : N < 2 ^ 31
  · have e : (Int32.ofNat N).toInt = (N : Int) := nI_toInt hN
    rw [i_le, e] at h
    omega
  · have := fb_rng k
    omega
def lwI (v n : Int32) : Int32 := ((v &&& 2147483647) - (v &&& 2147483647) / n * n)
theorem lw_b {v n : Int32} (hn : 0 < n.toInt) : 0 ≤ (lwI v n).toInt ∧ (lwI v n).toInt < n.toInt := by
  obtain ⟨j, hj, e⟩ := pk_andE v (m := 2147483647) 31 (by decide)
  unfold lwI
  rw [e, i_rem hn, nI_toInt (by omega)]
  exact ⟨Int.tmod_nonneg _ (by omega), Int.tmod_lt_of_pos _ hn⟩
theorem lw_n {v : Int32} {N : Nat} (h0 : 0 < N) (h : N < 2 ^ 31) : ∃ k : Nat, k < N ∧ lwI v (nI N) = nI k := by
  obtain ⟨h1, h2⟩ := lw_b (v := v) (n := nI N) (by rw [nI_toInt h]; omega)
  rw [nI_toInt h] at h2
  refine ⟨(lwI v (nI N)).toInt.toNat, by omega, ?_⟩
  rw [i_eq, nI_toInt (by omega)]
  omega
def rdI (v : Int32) : Int32 := ((v - v / 8000 * 8000) + 8000) - ((v - v / 8000 * 8000) + 8000) / 8000 * 8000
def swL (a q p : Int32) : Int32 := if q ≤ p then (if 3 * q ≤ p then a * (p - 4 * q) / q else a * (2 * q - p) / q) else a * p / q
def acD (d ax : Int32) : Int32 := if ax = 0 then d else (d + 6) - (d + 6) / 8 * 8
def acV (q : Int32) : Int32 := if q = 2 then 0 else if q = 6 then 0 else if q = 0 then 1 else if q = 1 then 1 else if q = 7 then 1 else -1
def acL (d ax : Int32) : Int32 := acV (acD d ax)
set_option maxHeartbeats 4000000 in
set_option maxRecDepth 100000 in
theorem k_L_low (l : Launch) (g : Gf) (n : Nat) (c : Mp) (v n2 : Int32) (hn2 : ¬ n2 = 0) : Ct l g yL_low wsL_low 0 0 0 0 [.int v, .int n2] n c (Qi g (fun xr n' c' => xr = lwI v n2 ∧ n' = n ∧ c' = c)) := by
  refine ent (by decide) rfl (Nat.le_of_ble_eq_true rfl) ?_
  intro p e s m args below meth c0 F h ls hl
  have hx := F.1
  have hb := F.2.1
  have hl : lv_has ls 2 [(0, .int v), (1, .int n2)] := hl
  refine lv_iload_n hx hb dL_low_0 rfl (lv_at hl 0 rfl) ?_
  refine lv_ldc (v := 2147483647) hx hb F.2.2.2.1 (F.2.2.2.2.1 (Cond.constant RL 8 2147483647) (List.mem_cons_of_mem _ wd_422)) dL_low_1 ?_
  refine lv_iand hx hb dL_low_3 ?_
  refine lv_iload_n hx hb dL_low_4 rfl (lv_at hl 1 rfl) ?_
  refine lv_irem hx hb dL_low_5 (hn2) ?_
  exact ret_i F h (Nat.zero_le _) (Nat.zero_le _) dL_low_6 (⟨rfl, rfl, rfl⟩)
set_option maxHeartbeats 4000000 in
set_option maxRecDepth 100000 in
theorem k_L_size (l : Launch) (g : Gf) (n : Nat) (c : Mp) (v : Int32) : Ct l g yL_size wsL_size 0 0 0 0 [.int v] n c (Qi g (fun xr n' c' => xr = szI v ∧ n' = n ∧ c' = c)) := by
  refine ent (by decide) rfl (Nat.le_of_ble_eq_true rfl) ?_
  intro p e s m args below meth c0 F h ls hl
  have hx := F.1
  have hb := F.2.1
  have hl : lv_has ls 1 [(0, .int v)] := hl
  refine lv_iload_n hx hb dL_size_0 rfl (lv_at hl 0 rfl) ?_
  refine lv_if_ge (tgt := 9) hx hb dL_size_1 (by decide) (fun b_1 => ?_) (fun b_1 => ?_)
  · skip
    refine lv_iload_n hx hb dL_size_9 rfl (lv_at hl 0 rfl) ?_
    exact ret_i F h (Nat.zero_le _) (Nat.zero_le _) dL_size_10 (⟨by simp [szI, *], rfl, rfl⟩)
  refine lv_iload_n hx hb dL_size_4 rfl (lv_at hl 0 rfl) ?_
  refine lv_ineg hx hb dL_size_5 ?_
  refine lv_goto (tgt := 10) hx hb dL_size_6 (by decide) ?_
  exact ret_i F h (Nat.zero_le _) (Nat.zero_le _) dL_size_10 (⟨by simp [szI, *], rfl, rfl⟩)
set_option maxHeartbeats 4000000 in
set_option maxRecDepth 100000 in
theorem k_L_round (l : Launch) (g : Gf) (n : Nat) (c : Mp) (v : Int32) : Ct l g yL_round wsL_round 0 0 0 0 [.int v] n c (Qi g (fun xr n' c' => xr = rdI v ∧ n' = n ∧ c' = c)) := by
  refine ent (by decide) rfl (Nat.le_of_ble_eq_true rfl) ?_
  intro p e s m args below meth c0 F h ls hl
  have hx := F.1
  have hb := F.2.1
  have hl : lv_has ls 1 [(0, .int v)] := hl
  refine lv_iload_n hx hb dL_round_0 rfl (lv_at hl 0 rfl) ?_
  refine lv_sipush (v := 8000) hx hb dL_round_1 (by decide) ?_
  refine lv_irem hx hb dL_round_4 (by decide) ?_
  refine lv_sipush (v := 8000) hx hb dL_round_5 (by decide) ?_
  refine lv_iadd hx hb dL_round_8 ?_
  refine lv_sipush (v := 8000) hx hb dL_round_9 (by decide) ?_
  refine lv_irem hx hb dL_round_12 (by decide) ?_
  exact ret_i F h (Nat.zero_le _) (Nat.zero_le _) dL_round_13 (⟨rfl, rfl, rfl⟩)
set_option maxHeartbeats 4000000 in
set_option maxRecDepth 100000 in
theorem k_L_swing (l : Launch) (g : Gf) (n : Nat) (c : Mp) (a q ph : Int32) (hq0 : ¬ q = 0) : Ct l g yL_swing wsL_swing 0 0 0 0 [.int a, .int q, .int ph] n c (Qi g (fun xr n' c' => xr = swL a q ph ∧ n' = n ∧ c' = c)) := by
  refine ent (by decide) rfl (Nat.le_of_ble_eq_true rfl) ?_
  intro p e s m args below meth c0 F h ls hl
  have hx := F.1
  have hb := F.2.1
  have hl : lv_has ls 4 [(0, .int a), (1, .int q), (2, .int ph)] := hl
  refine lv_iload_n hx hb dL_swing_0 rfl (lv_at hl 2 rfl) ?_
  refine lv_iload_n hx hb dL_swing_1 rfl (lv_at hl 1 rfl) ?_
  refine lv_icmp_ge (tgt := 9) hx hb dL_swing_2 (by decide) (fun b_2 => ?_) (fun b_2 => ?_)
  · skip
    refine lv_iload_n hx hb dL_swing_9 rfl (lv_at hl 2 rfl) ?_
    refine lv_iconst (v := 3) hx hb dL_swing_10 (by decide) ?_
    refine lv_iload_n hx hb dL_swing_11 rfl (lv_at hl 1 rfl) ?_
    refine lv_imul hx hb dL_swing_12 ?_
    refine lv_icmp_ge (tgt := 24) hx hb dL_swing_13 (by decide) (fun b_13 => ?_) (fun b_13 => ?_)
    · skip
      refine lv_iload_n hx hb dL_swing_24 rfl (lv_at hl 2 rfl) ?_
      refine lv_iconst (v := 4) hx hb dL_swing_25 (by decide) ?_
      refine lv_iload_n hx hb dL_swing_26 rfl (lv_at hl 1 rfl) ?_
      refine lv_imul hx hb dL_swing_27 ?_
      refine lv_isub hx hb dL_swing_28 ?_
      refine lv_istore_n (lv' := [(3, .int (ph - (4 * q))), (0, .int a), (1, .int q), (2, .int ph)]) hx hb dL_swing_29 rfl hl (by decide) rfl (fun ls hl => ?_)
      refine lv_iload_n hx hb dL_swing_30 rfl (lv_at hl 1 rfl) ?_
      refine lv_iload_n hx hb dL_swing_31 rfl (lv_at hl 0 rfl) ?_
      refine lv_imul hx hb dL_swing_32 ?_
      refine lv_iload_n hx hb dL_swing_33 rfl (lv_at hl 2 rfl) ?_
      refine lv_idiv hx hb dL_swing_34 (hq0) ?_
      exact ret_i F h (Nat.zero_le _) (Nat.zero_le _) dL_swing_35 (⟨by simp [swL, *], rfl, rfl⟩)
    refine lv_iconst (v := 2) hx hb dL_swing_16 (by decide) ?_
    refine lv_iload_n hx hb dL_swing_17 rfl (lv_at hl 1 rfl) ?_
    refine lv_imul hx hb dL_swing_18 ?_
    refine lv_iload_n hx hb dL_swing_19 rfl (lv_at hl 2 rfl) ?_
    refine lv_isub hx hb dL_swing_20 ?_
    refine lv_goto (tgt := 29) hx hb dL_swing_21 (by decide) ?_
    refine lv_istore_n (lv' := [(3, .int ((2 * q) - ph)), (0, .int a), (1, .int q), (2, .int ph)]) hx hb dL_swing_29 rfl hl (by decide) rfl (fun ls hl => ?_)
    refine lv_iload_n hx hb dL_swing_30 rfl (lv_at hl 1 rfl) ?_
    refine lv_iload_n hx hb dL_swing_31 rfl (lv_at hl 0 rfl) ?_
    refine lv_imul hx hb dL_swing_32 ?_
    refine lv_iload_n hx hb dL_swing_33 rfl (lv_at hl 2 rfl) ?_
    refine lv_idiv hx hb dL_swing_34 (hq0) ?_
    exact ret_i F h (Nat.zero_le _) (Nat.zero_le _) dL_swing_35 (⟨by simp [swL, *], rfl, rfl⟩)
  refine lv_iload_n hx hb dL_swing_5 rfl (lv_at hl 2 rfl) ?_
  refine lv_goto (tgt := 29) hx hb dL_swing_6 (by decide) ?_
  refine lv_istore_n (lv' := [(3, .int ph), (0, .int a), (1, .int q), (2, .int ph)]) hx hb dL_swing_29 rfl hl (by decide) rfl (fun ls hl => ?_)
  refine lv_iload_n hx hb dL_swing_30 rfl (lv_at hl 1 rfl) ?_
  refine lv_iload_n hx hb dL_swing_31 rfl (lv_at hl 0 rfl) ?_
  refine lv_imul hx hb dL_swing_32 ?_
  refine lv_iload_n hx hb dL_swing_33 rfl (lv_at hl 2 rfl) ?_
  refine lv_idiv hx hb dL_swing_34 (hq0) ?_
  exact ret_i F h (Nat.zero_le _) (Nat.zero_le _) dL_swing_35 (⟨by simp [swL, *], rfl, rfl⟩)
set_option maxHeartbeats 4000000 in
set_option maxRecDepth 100000 in
theorem k_L_calmer (l : Launch) (g : Gf) (n : Nat) (c : Mp) (a b : Int32) : Ct l g yL_calmer wsL_calmer 0 0 0 0 [.int a, .int b] n c (Qi g (fun xr n' c' => xr = a * cmI b / 100 ∧ n' = n ∧ c' = c)) := by
  refine ent (by decide) rfl (Nat.le_of_ble_eq_true rfl) ?_
  intro p e s m args below meth c0 F h ls hl
  have hx := F.1
  have hb := F.2.1
  have hl : lv_has ls 2 [(0, .int a), (1, .int b)] := hl
  refine lv_iload_n hx hb dL_calmer_0 rfl (lv_at hl 0 rfl) ?_
  refine lv_iload_n hx hb dL_calmer_1 rfl (lv_at hl 1 rfl) ?_
  refine lv_if_ne (tgt := 10) hx hb dL_calmer_2 (by decide) (fun b_2 => ?_) (fun b_2 => ?_)
  · skip
    refine lv_iload_n hx hb dL_calmer_10 rfl (lv_at hl 1 rfl) ?_
    refine lv_iconst (v := 1) hx hb dL_calmer_11 (by decide) ?_
    refine lv_icmp_ne (tgt := 20) hx hb dL_calmer_12 (by decide) (fun b_12 => ?_) (fun b_12 => ?_)
    · skip
      refine lv_bipush (v := 50) hx hb dL_calmer_20 (by decide) ?_
      refine lv_imul hx hb dL_calmer_22 ?_
      refine lv_bipush (v := 100) hx hb dL_calmer_23 (by decide) ?_
      refine lv_idiv hx hb dL_calmer_25 (by decide) ?_
      exact ret_i F h (Nat.zero_le _) (Nat.zero_le _) dL_calmer_26 (⟨by simp [cmI, *], rfl, rfl⟩)
    refine lv_bipush (v := 70) hx hb dL_calmer_15 (by decide) ?_
    refine lv_goto (tgt := 22) hx hb dL_calmer_17 (by decide) ?_
    refine lv_imul hx hb dL_calmer_22 ?_
    refine lv_bipush (v := 100) hx hb dL_calmer_23 (by decide) ?_
    refine lv_idiv hx hb dL_calmer_25 (by decide) ?_
    exact ret_i F h (Nat.zero_le _) (Nat.zero_le _) dL_calmer_26 (⟨by simp [cmI, *], rfl, rfl⟩)
  refine lv_bipush (v := 95) hx hb dL_calmer_5 (by decide) ?_
  refine lv_goto (tgt := 22) hx hb dL_calmer_7 (by decide) ?_
  refine lv_imul hx hb dL_calmer_22 ?_
  refine lv_bipush (v := 100) hx hb dL_calmer_23 (by decide) ?_
  refine lv_idiv hx hb dL_calmer_25 (by decide) ?_
  exact ret_i F h (Nat.zero_le _) (Nat.zero_le _) dL_calmer_26 (⟨by simp [cmI, *], rfl, rfl⟩)
set_option maxHeartbeats 4000000 in
set_option maxRecDepth 100000 in
theorem k_L_across (l : Launch) (g : Gf) (n : Nat) (c : Mp) (d ax : Int32) : Ct l g yL_across wsL_across 0 0 0 0 [.int d, .int ax] n c (Qi g (fun xr n' c' => xr = acL d ax ∧ n' = n ∧ c' = c)) := by
  refine ent (by decide) rfl (Nat.le_of_ble_eq_true rfl) ?_
  intro p e s m args below meth c0 F h ls hl
  have hx := F.1
  have hb := F.2.1
  have hl : lv_has ls 3 [(0, .int d), (1, .int ax)] := hl
  refine lv_iload_n hx hb dL_across_0 rfl (lv_at hl 1 rfl) ?_
  refine lv_if_ne (tgt := 8) hx hb dL_across_1 (by decide) (fun b_1 => ?_) (fun b_1 => ?_)
  · skip
    refine lv_iload_n hx hb dL_across_8 rfl (lv_at hl 0 rfl) ?_
    refine lv_bipush (v := 6) hx hb dL_across_9 (by decide) ?_
    refine lv_iadd hx hb dL_across_11 ?_
    refine lv_bipush (v := 8) hx hb dL_across_12 (by decide) ?_
    refine lv_irem hx hb dL_across_14 (by decide) ?_
    refine lv_istore_n (lv' := [(2, .int ((d + 6) - (d + 6) / 8 * 8)), (0, .int d), (1, .int ax)]) hx hb dL_across_15 rfl hl (by decide) rfl (fun ls hl => ?_)
    have hl : lv_has ls 3 [(2, .int (acD d ax)), (0, .int d), (1, .int ax)] := by rw [show (acD d ax : Int32) = ((d + 6) - (d + 6) / 8 * 8) from by simp [acD, b_1]]; exact hl
    refine lv_iload_n hx hb dL_across_16 rfl (lv_at hl 0 rfl) ?_
    refine lv_iconst (v := 2) hx hb dL_across_17 (by decide) ?_
    refine lv_icmp_eq (tgt := 27) hx hb dL_across_18 (by decide) (fun b_18 => ?_) (fun b_18 => ?_)
    · skip
      refine lv_iconst (v := 0) hx hb dL_across_27 (by decide) ?_
      refine lv_goto (tgt := 51) hx hb dL_across_28 (by decide) ?_
      exact ret_i F h (Nat.zero_le _) (Nat.zero_le _) dL_across_51 (⟨by clear b_1; unfold acL; generalize acD d ax = q9 at *; simp [acV, *], rfl, rfl⟩)
    refine lv_iload_n hx hb dL_across_21 rfl (lv_at hl 0 rfl) ?_
    refine lv_bipush (v := 6) hx hb dL_across_22 (by decide) ?_
    refine lv_icmp_ne (tgt := 31) hx hb dL_across_24 (by decide) (fun b_24 => ?_) (fun b_24 => ?_)
    · skip
      refine lv_iload_n hx hb dL_across_31 rfl (lv_at hl 0 rfl) ?_
      refine lv_if_eq (tgt := 46) hx hb dL_across_32 (by decide) (fun b_32 => ?_) (fun b_32 => ?_)
      · skip
        refine lv_iconst (v := 1) hx hb dL_across_46 (by decide) ?_
        refine lv_goto (tgt := 51) hx hb dL_across_47 (by decide) ?_
        exact ret_i F h (Nat.zero_le _) (Nat.zero_le _) dL_across_51 (⟨by clear b_1; unfold acL; generalize acD d ax = q9 at *; simp [acV, *], rfl, rfl⟩)
      refine lv_iload_n hx hb dL_across_35 rfl (lv_at hl 0 rfl) ?_
      refine lv_iconst (v := 1) hx hb dL_across_36 (by decide) ?_
      refine lv_icmp_eq (tgt := 46) hx hb dL_across_37 (by decide) (fun b_37 => ?_) (fun b_37 => ?_)
      · skip
        refine lv_iconst (v := 1) hx hb dL_across_46 (by decide) ?_
        refine lv_goto (tgt := 51) hx hb dL_across_47 (by decide) ?_
        exact ret_i F h (Nat.zero_le _) (Nat.zero_le _) dL_across_51 (⟨by clear b_1; unfold acL; generalize acD d ax = q9 at *; simp [acV, *], rfl, rfl⟩)
      refine lv_iload_n hx hb dL_across_40 rfl (lv_at hl 0 rfl) ?_
      refine lv_bipush (v := 7) hx hb dL_across_41 (by decide) ?_
      refine lv_icmp_ne (tgt := 50) hx hb dL_across_43 (by decide) (fun b_43 => ?_) (fun b_43 => ?_)
      · skip
        refine lv_iconst (v := (-1)) hx hb dL_across_50 (by decide) ?_
        exact ret_i F h (Nat.zero_le _) (Nat.zero_le _) dL_across_51 (⟨by clear b_1; unfold acL; generalize acD d ax = q9 at *; simp [acV, *], rfl, rfl⟩)
      refine lv_iconst (v := 1) hx hb dL_across_46 (by decide) ?_
      refine lv_goto (tgt := 51) hx hb dL_across_47 (by decide) ?_
      exact ret_i F h (Nat.zero_le _) (Nat.zero_le _) dL_across_51 (⟨by clear b_1; unfold acL; generalize acD d ax = q9 at *; simp [acV, *], rfl, rfl⟩)
    refine lv_iconst (v := 0) hx hb dL_across_27 (by decide) ?_
    refine lv_goto (tgt := 51) hx hb dL_across_28 (by decide) ?_
    exact ret_i F h (Nat.zero_le _) (Nat.zero_le _) dL_across_51 (⟨by clear b_1; unfold acL; generalize acD d ax = q9 at *; simp [acV, *], rfl, rfl⟩)
  refine lv_iload_n hx hb dL_across_4 rfl (lv_at hl 0 rfl) ?_
  refine lv_goto (tgt := 15) hx hb dL_across_5 (by decide) ?_
  refine lv_istore_n (lv' := [(2, .int d), (0, .int d), (1, .int ax)]) hx hb dL_across_15 rfl hl (by decide) rfl (fun ls hl => ?_)
  have hl : lv_has ls 3 [(2, .int (acD d ax)), (0, .int d), (1, .int ax)] := by rw [show (acD d ax : Int32) = d from by simp [acD, b_1]]; exact hl
  refine lv_iload_n hx hb dL_across_16 rfl (lv_at hl 0 rfl) ?_
  refine lv_iconst (v := 2) hx hb dL_across_17 (by decide) ?_
  refine lv_icmp_eq (tgt := 27) hx hb dL_across_18 (by decide) (fun b_18 => ?_) (fun b_18 => ?_)
  · skip
    refine lv_iconst (v := 0) hx hb dL_across_27 (by decide) ?_
    refine lv_goto (tgt := 51) hx hb dL_across_28 (by decide) ?_
    exact ret_i F h (Nat.zero_le _) (Nat.zero_le _) dL_across_51 (⟨by clear b_1; unfold acL; generalize acD d ax = q9 at *; simp [acV, *], rfl, rfl⟩)
  refine lv_iload_n hx hb dL_across_21 rfl (lv_at hl 0 rfl) ?_
  refine lv_bipush (v := 6) hx hb dL_across_22 (by decide) ?_
  refine lv_icmp_ne (tgt := 31) hx hb dL_across_24 (by decide) (fun b_24 => ?_) (fun b_24 => ?_)
  · skip
    refine lv_iload_n hx hb dL_across_31 rfl (lv_at hl 0 rfl) ?_
    refine lv_if_eq (tgt := 46) hx hb dL_across_32 (by decide) (fun b_32 => ?_) (fun b_32 => ?_)
    · skip
      refine lv_iconst (v := 1) hx hb dL_across_46 (by decide) ?_
      refine lv_goto (tgt := 51) hx hb dL_across_47 (by decide) ?_
      exact ret_i F h (Nat.zero_le _) (Nat.zero_le _) dL_across_51 (⟨by clear b_1; unfold acL; generalize acD d ax = q9 at *; simp [acV, *], rfl, rfl⟩)
    refine lv_iload_n hx hb dL_across_35 rfl (lv_at hl 0 rfl) ?_
    refine lv_iconst (v := 1) hx hb dL_across_36 (by decide) ?_
    refine lv_icmp_eq (tgt := 46) hx hb dL_across_37 (by decide) (fun b_37 => ?_) (fun b_37 => ?_)
    · skip
      refine lv_iconst (v := 1) hx hb dL_across_46 (by decide) ?_
      refine lv_goto (tgt := 51) hx hb dL_across_47 (by decide) ?_
      exact ret_i F h (Nat.zero_le _) (Nat.zero_le _) dL_across_51 (⟨by clear b_1; unfold acL; generalize acD d ax = q9 at *; simp [acV, *], rfl, rfl⟩)
    refine lv_iload_n hx hb dL_across_40 rfl (lv_at hl 0 rfl) ?_
    refine lv_bipush (v := 7) hx hb dL_across_41 (by decide) ?_
    refine lv_icmp_ne (tgt := 50) hx hb dL_across_43 (by decide) (fun b_43 => ?_) (fun b_43 => ?_)
    · skip
      refine lv_iconst (v := (-1)) hx hb dL_across_50 (by decide) ?_
      exact ret_i F h (Nat.zero_le _) (Nat.zero_le _) dL_across_51 (⟨by clear b_1; unfold acL; generalize acD d ax = q9 at *; simp [acV, *], rfl, rfl⟩)
    refine lv_iconst (v := 1) hx hb dL_across_46 (by decide) ?_
    refine lv_goto (tgt := 51) hx hb dL_across_47 (by decide) ?_
    exact ret_i F h (Nat.zero_le _) (Nat.zero_le _) dL_across_51 (⟨by clear b_1; unfold acL; generalize acD d ax = q9 at *; simp [acV, *], rfl, rfl⟩)
  refine lv_iconst (v := 0) hx hb dL_across_27 (by decide) ?_
  refine lv_goto (tgt := 51) hx hb dL_across_28 (by decide) ?_
  exact ret_i F h (Nat.zero_le _) (Nat.zero_le _) dL_across_51 (⟨by clear b_1; unfold acL; generalize acD d ax = q9 at *; simp [acV, *], rfl, rfl⟩)
set_option maxHeartbeats 4000000 in
set_option maxRecDepth 100000 in
theorem k_L_cell (l : Launch) (g : Gf) (n : Nat) (c : Mp) (k : Int32) (hk : 0 ≤ k.toInt) : Ct l g yL_cell wsL_cell 0 0 0 0 [.ref (g.2.2.2 2), .int k] n c (Qi g (fun xr n' c' => n' = n ∧ c' = c)) := by
  refine ent (by decide) rfl (Nat.le_of_ble_eq_true rfl) ?_
  intro p e s m args below meth c0 F h ls hl
  have hx := F.1
  have hb := F.2.1
  have hl : lv_has ls 2 [(0, .ref (g.2.2.2 2)), (1, .int k)] := hl
  refine lv_iload_n hx hb dL_cell_0 rfl (lv_at hl 1 rfl) ?_
  refine lv_aload_n hx hb dL_cell_1 rfl (lv_at hl 0 rfl) ?_
  obtain ⟨xs, hT⟩ := F.2.2.2.2.2.2.2.2.sc
  refine va_tlen hx hb hT h.2 (v := Int32.ofNat (g.2.2.2 3)) rfl dL_cell_2 ?_
  refine lv_icmp_ge (tgt := 12) hx hb dL_cell_3 (by decide) (fun b_3 => ?_) (fun b_3 => ?_)
  · skip
    refine lv_ldc (v := 8590007) hx hb F.2.2.2.1 (F.2.2.2.2.1 (Cond.constant RL 7 8590007) (List.mem_cons_of_mem _ wd_418)) dL_cell_12 ?_
    refine lv_iload_n hx hb dL_cell_14 rfl (lv_at hl 1 rfl) ?_
    refine lv_imul hx hb dL_cell_15 ?_
    refine lv_sipush (v := 7001) hx hb dL_cell_16 (by decide) ?_
    refine lv_iadd hx hb dL_cell_19 ?_
    exact ret_i F h (Nat.zero_le _) (Nat.zero_le _) dL_cell_20 (⟨rfl, rfl⟩)
  refine lv_aload_n hx hb dL_cell_6 rfl (lv_at hl 0 rfl) ?_
  refine lv_iload_n hx hb dL_cell_7 rfl (lv_at hl 1 rfl) ?_
  refine r_tti F h (hT) (cell_in hk b_3) dL_cell_8 ?_
  refine lv_goto (tgt := 20) hx hb dL_cell_9 (by decide) ?_
  exact ret_i F h (Nat.zero_le _) (Nat.zero_le _) dL_cell_20 (⟨rfl, rfl⟩)
