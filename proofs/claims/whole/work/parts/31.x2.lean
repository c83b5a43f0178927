/-! The class: the text of orders. -/
set_option maxHeartbeats 4000000 in
set_option maxRecDepth 100000 in
theorem k_X2_append (l : Launch) (g : Gf) (n : Nat) (c : Mp) (T : Nat) (hT : T < 70) (ct pl : Int32) (hO : c 348 = otC g (nI T) ct pl) (tx : Nat → Int32) (hOt : c 349 = some (.inl (g.2.1 2, 70, .inl tx))) (y : Int32) (hy : narrow .char (.int y) = .int y) : Ct l g yX2_append wsX2_append 0 0 0 0 [.ref (gz g + 348), .int y] n c (Qv g (fun n' c' => n' = n ∧ c' = va_up (va_up c 349 (some (.inl (g.2.1 2, 70, .inl (upd tx T y))))) 348 (otC g (nI (T + 1)) ct pl))) := by
  refine ent (by decide) rfl (Nat.le_of_ble_eq_true rfl) ?_
  intro p e s m args below meth c0 F h ls hl
  have hx := F.1
  have hb := F.2.1
  have hl : lv_has ls 2 [(0, .ref (gz g + 348)), (1, .int y)] := hl
  refine lv_aload_n hx hb dX2_append_0 rfl (lv_at hl 0 rfl) ?_
  refine r_get F h (C := RX2) (T := TX2) (N := 6) (hjc hi_X2) rfl hO 1 (by decide) (List.mem_cons_of_mem _ wd_266) rfl dX2_append_1 ?_
  refine lv_bipush (v := 70) hx hb dX2_append_4 (by decide) ?_
  refine lv_icmp_ge (tgt := 29) hx hb dX2_append_6 (by decide) (fun b_6 => by first | exact absurd b_6 (nI_ge hT (by decide)) | exact absurd (nI_ge hT (by decide)) b_6) (fun b_6 => ?_)
  refine lv_aload_n hx hb dX2_append_9 rfl (lv_at hl 0 rfl) ?_
  refine r_get F h (C := RX2) (T := TX2) (N := 6) (hjc hi_X2) rfl hO 0 (by decide) (List.mem_cons_of_mem _ wd_265) rfl dX2_append_10 ?_
  refine lv_aload_n hx hb dX2_append_13 rfl (lv_at hl 0 rfl) ?_
  refine r_get F h (C := RX2) (T := TX2) (N := 6) (hjc hi_X2) rfl hO 1 (by decide) (List.mem_cons_of_mem _ wd_266) rfl dX2_append_14 ?_
  refine lv_iload_n hx hb dX2_append_17 rfl (lv_at hl 1 rfl) ?_
  refine r_castN F h (k := T) (f' := upd tx T y) hOt (rfl) (by omega) (by decide) (hy) dX2_append_18 (rfl) (fun H locs h => ?_)
  refine lv_aload_n hx hb dX2_append_19 rfl (lv_at hl 0 rfl) ?_
  refine lv_dup hx hb dX2_append_20 rfl ?_
  refine r_get F h (C := RX2) (T := TX2) (N := 6) (hjc hi_X2) rfl ((mu_ne (by decide) _).trans hO) 1 (by decide) (List.mem_cons_of_mem _ wd_266) rfl dX2_append_21 ?_
  refine lv_iconst (v := 1) hx hb dX2_append_24 (by decide) ?_
  refine lv_iadd hx hb dX2_append_25 ?_
  refine r_top (w := .int (nI (T + 1))) (congrArg Value.int (nI_succ T).symm) ?_
  refine r_put F h (C := RX2) (T := TX2) (N := 6) (fs' := [.ref (gz g + 349), .int (nI (T + 1)), .ref (gz g + 350), .ref (gz g + 351), .int ct, .int pl]) (hjc hi_X2) tyX2 tyX2_ok nmX2 rfl ((mu_ne (by decide) _).trans hO) 1 (by decide) (List.mem_cons_of_mem _ wd_266) rfl (rfl) (rfl) (Nat.le_of_ble_eq_true rfl) rfl dX2_append_26 (fun H locs h => ?_)
  exact ret_v F h (Nat.zero_le _) (Nat.zero_le _) dX2_append_29 (⟨rfl, rfl⟩)
set_option maxHeartbeats 4000000 in
set_option maxRecDepth 100000 in
theorem k_X2_numberOf (l : Launch) (g : Gf) (n : Nat) (c : Mp) (T ct pl : Int32) (hO : c 348 = otC g T ct pl) (nu : Nat → Int32) (hOn : c 351 = iaA (g.2.1 0) 33 nu) (k1 j : Nat) (hk : k1 < 11) (hj : j < 3) : Ct l g yX2_numberOf wsX2_numberOf 0 0 0 0 [.ref (gz g + 348), .int (nI k1), .int (nI j)] n c (Qi g (fun xr n' c' => xr = nu (k1 * 3 + j) ∧ n' = n ∧ c' = c)) := by
  refine ent (by decide) rfl (Nat.le_of_ble_eq_true rfl) ?_
  intro p e s m args below meth c0 F h ls hl
  have hx := F.1
  have hb := F.2.1
  have hl : lv_has ls 3 [(0, .ref (gz g + 348)), (1, .int (nI k1)), (2, .int (nI j))] := hl
  refine lv_aload_n hx hb dX2_numberOf_0 rfl (lv_at hl 0 rfl) ?_
  refine r_get F h (C := RX2) (T := TX2) (N := 6) (hjc hi_X2) rfl hO 3 (by decide) (List.mem_cons_of_mem _ wd_270) rfl dX2_numberOf_1 ?_
  refine lv_iload_n hx hb dX2_numberOf_4 rfl (lv_at hl 1 rfl) ?_
  refine lv_iconst (v := 3) hx hb dX2_numberOf_5 (by decide) ?_
  refine lv_imul hx hb dX2_numberOf_6 ?_
  refine lv_iload_n hx hb dX2_numberOf_7 rfl (lv_at hl 2 rfl) ?_
  refine lv_iadd hx hb dX2_numberOf_8 ?_
  refine r_ialdN F h (k := k1 * 3 + j) hOn (by simp only [fa_lit, pk_mul, nI_add]; first | done | (refine congrArg nI ?_; omega)) (by omega) (by decide) dX2_numberOf_9 ?_
  exact ret_i F h (Nat.zero_le _) (Nat.zero_le _) dX2_numberOf_10 (⟨rfl, rfl, rfl⟩)
set_option maxHeartbeats 4000000 in
set_option maxRecDepth 100000 in
theorem k_X2_tokenEnd (l : Launch) (g : Gf) (n : Nat) (c : Mp) (T : Nat) (hT7 : T ≤ 70) (K P : Nat) (hPT : P ≤ T) (hO : c 348 = otC g (nI T) (nI K) (nI P)) (tx : Nat → Int32) (hOt : c 349 = some (.inl (g.2.1 2, 70, .inl tx))) : Ct l g yX2_tokenEnd wsX2_tokenEnd 0 0 0 0 [.ref (gz g + 348)] n c (Qi g (fun xr n' c' => xr = nI (enT tx T P) ∧ n' = n ∧ c' = c)) := by
  refine ent (by decide) rfl (Nat.le_of_ble_eq_true rfl) ?_
  intro p e s m args below meth c0 F h ls hl
  have hx := F.1
  have hb := F.2.1
  have hl : lv_has ls 2 [(0, .ref (gz g + 348))] := hl
  refine lv_aload_n hx hb dX2_tokenEnd_0 rfl (lv_at hl 0 rfl) ?_
  refine r_get F h (C := RX2) (T := TX2) (N := 6) (hjc hi_X2) rfl hO 5 (by decide) (List.mem_cons_of_mem _ wd_273) rfl dX2_tokenEnd_1 ?_
  refine lv_istore_n (lv' := [(1, .int (nI P)), (0, .ref (gz g + 348))]) hx hb dX2_tokenEnd_4 rfl hl (by decide) rfl (fun ls hl => ?_)
  have lp : ∀ (k : Nat) (k1 : Nat) (hk1 : k1 ≤ T) (hR : eoS tx (T - k1) k1 = enT tx T P) (H : Heap) (locs : List Loc) (ls : Array Slot), (T + 1 - k1) ≤ k → Hv g s H locs n c → lv_has ls 2 [(0, .ref (gz g + 348)), (1, .int (nI k1))] → W p l e (Rm 0 0 0 0) s m args below meth c0 H locs 0 0 (MQ below (Qi g (fun xr n' c' => xr = nI (enT tx T P) ∧ n' = n ∧ c' = c)) args s 0 0 (mAf g)) (F0 m 5 ls []) := by
    intro k
    induction k with
    | zero => intro k1 hk1 hR H locs ls hk h hl; exact absurd hk (by omega)
    | succ k ih =>
      intro k1 hk1 hR H locs ls hk h hl
      refine lv_iload_n hx hb dX2_tokenEnd_5 rfl (lv_at hl 1 rfl) ?_
      refine lv_aload_n hx hb dX2_tokenEnd_6 rfl (lv_at hl 0 rfl) ?_
      refine r_get F h (C := RX2) (T := TX2) (N := 6) (hjc hi_X2) rfl hO 1 (by decide) (List.mem_cons_of_mem _ wd_266) rfl dX2_tokenEnd_7 ?_
      refine lv_icmp_ge (tgt := 41) hx hb dX2_tokenEnd_10 (by decide) (fun b_10 => ?_) (fun b_10 => ?_)
      · skip
        refine lv_iload_n hx hb dX2_tokenEnd_41 rfl (lv_at hl 1 rfl) ?_
        exact ret_i F h (Nat.zero_le _) (Nat.zero_le _) dX2_tokenEnd_42 (⟨by rw [← hR, show T - k1 = 0 by have := lp_ge (N := T) rfl (by omega) (by omega) b_10; omega, eoS], rfl, rfl⟩)
      have hk4 : k1 < T := lp_lt (N := T) rfl (by omega) (by omega) b_10
      refine lv_aload_n hx hb dX2_tokenEnd_13 rfl (lv_at hl 0 rfl) ?_
      refine r_get F h (C := RX2) (T := TX2) (N := 6) (hjc hi_X2) rfl hO 0 (by decide) (List.mem_cons_of_mem _ wd_265) rfl dX2_tokenEnd_14 ?_
      refine lv_iload_n hx hb dX2_tokenEnd_17 rfl (lv_at hl 1 rfl) ?_
      refine r_caldN F h (k := k1) hOt (rfl) (by omega) (by decide) dX2_tokenEnd_18 ?_
      refine lv_bipush (v := 32) hx hb dX2_tokenEnd_19 (by decide) ?_
      refine lv_icmp_eq (tgt := 41) hx hb dX2_tokenEnd_21 (by decide) (fun b_21 => ?_) (fun b_21 => ?_)
      · skip
        refine lv_iload_n hx hb dX2_tokenEnd_41 rfl (lv_at hl 1 rfl) ?_
        exact ret_i F h (Nat.zero_le _) (Nat.zero_le _) dX2_tokenEnd_42 (⟨by rw [← hR, show T - k1 = (T - (k1 + 1)) + 1 by omega, eoS, if_pos (Or.inl b_21)], rfl, rfl⟩)
      refine lv_aload_n hx hb dX2_tokenEnd_24 rfl (lv_at hl 0 rfl) ?_
      refine r_get F h (C := RX2) (T := TX2) (N := 6) (hjc hi_X2) rfl hO 0 (by decide) (List.mem_cons_of_mem _ wd_265) rfl dX2_tokenEnd_25 ?_
      refine lv_iload_n hx hb dX2_tokenEnd_28 rfl (lv_at hl 1 rfl) ?_
      refine r_caldN F h (k := k1) hOt (rfl) (by omega) (by decide) dX2_tokenEnd_29 ?_
      refine lv_bipush (v := 59) hx hb dX2_tokenEnd_30 (by decide) ?_
      refine lv_icmp_eq (tgt := 41) hx hb dX2_tokenEnd_32 (by decide) (fun b_32 => ?_) (fun b_32 => ?_)
      · skip
        refine lv_iload_n hx hb dX2_tokenEnd_41 rfl (lv_at hl 1 rfl) ?_
        exact ret_i F h (Nat.zero_le _) (Nat.zero_le _) dX2_tokenEnd_42 (⟨by rw [← hR, show T - k1 = (T - (k1 + 1)) + 1 by omega, eoS, if_pos (Or.inr b_32)], rfl, rfl⟩)
      refine lv_iinc (v := nI (k1 + 1)) (lv' := [(1, .int (nI (k1 + 1))), (0, .ref (gz g + 348))]) hx hb dX2_tokenEnd_35 hl (k := 1) rfl (by exact (nI_succ k1).symm) (by decide) rfl (fun ls hl => ?_)
      refine lv_goto (tgt := 5) hx hb dX2_tokenEnd_38 (by decide) ?_
      exact ih (k1 + 1) (by omega) (by rw [← hR, show T - k1 = (T - (k1 + 1)) + 1 by omega, eoS, if_neg (fun z => z.elim b_21 b_32)]) _ _ _ (by omega) h (lv_sub hl [1, 0] rfl)
  exact lp _ P hPT rfl _ _ _ (Nat.le_refl _) h (lv_sub hl [1, 0] rfl)
def eqS (tx : Nat → Int32) (P : Nat) (bs : List Int32) : Nat → Nat → Int32
  | 0, _ => 1
  | f + 1, k => if tx (P + k) = bs.getD k 0 then eqS tx P bs f (k + 1) else 0
def isW (tx : Nat → Int32) (P e i : Nat) : Int32 := if nI (e - P) = nI (sLen.getD i 0) then eqS tx P (sByt.getD i []) (sLen.getD i 0) 0 else 0
set_option maxHeartbeats 4000000 in
set_option maxRecDepth 100000 in
theorem k_X2_isWordUpTo (l : Launch) (g : Gf) (n : Nat) (c : Mp) (T : Nat) (hT7 : T ≤ 70) (K P : Nat) (hPT : P ≤ T) (hO : c 348 = otC g (nI T) (nI K) (nI P)) (tx : Nat → Int32) (hOt : c 349 = some (.inl (g.2.1 2, 70, .inl tx))) (e1 i : Nat) (hi : i < 10) (hPe : P ≤ e1) (heT : e1 ≤ T) : Ct l g yX2_isWordUpTo wsX2_isWordUpTo 4 85 0 0 [.ref (gz g + 348), .int (nI e1), .ref (g.2.2.2 (10 + i))] n c (Qi g (fun xr n' c' => xr = isW tx P e1 i ∧ n' = n ∧ c' = c)) := by
  refine ent (by decide) rfl (Nat.le_of_ble_eq_true rfl) ?_
  intro p e s m args below meth c0 F h ls hl
  have hx := F.1
  have hb := F.2.1
  have hl : lv_has ls 4 [(0, .ref (gz g + 348)), (1, .int (nI e1)), (2, .ref (g.2.2.2 (10 + i)))] := hl
  have hl7 := (sv_len i hi).2
  refine lv_iload_n hx hb dX2_isWordUpTo_0 rfl (lv_at hl 1 rfl) ?_
  refine lv_aload_n hx hb dX2_isWordUpTo_1 rfl (lv_at hl 0 rfl) ?_
  refine r_get F h (C := RX2) (T := TX2) (N := 6) (hjc hi_X2) rfl hO 5 (by decide) (List.mem_cons_of_mem _ wd_273) rfl dX2_isWordUpTo_2 ?_
  refine lv_isub hx hb dX2_isWordUpTo_5 ?_
  refine r_top (w := .int (nI (e1 - P))) (congrArg Value.int (nI_subN hPe)) ?_
  refine lv_aload_n hx hb dX2_isWordUpTo_6 rfl (lv_at hl 2 rfl) ?_
  refine u_iE (v := nI (sLen.getD i 0)) (ru_VS (As := []) (rest := [.int (nI (e1 - P))]) F h hi (k_J0_length_8abf5 l g n c i hi) (gV hjl wd_648 wd_649 wd_650 wd_61 wd_651) rfl 0 (by decide +kernel) rfl ⟨Nat.le_of_ble_eq_true rfl, Nat.le_of_ble_eq_true rfl⟩ rfl hl.1 (Nat.le_of_ble_eq_true rfl) ⟨Nat.zero_le _, Nat.zero_le _⟩ dX2_isWordUpTo_7) h (fun H locs h => ?_)
  refine lv_icmp_eq (tgt := 15) hx hb dX2_isWordUpTo_10 (by decide) (fun b_10 => ?_) (fun b_10 => ?_)
  · skip
    have h15 : e1 - P = sLen.getD i 0 := (nI_eq (by omega) (by omega)).mp b_10
    refine lv_iconst (v := 0) hx hb dX2_isWordUpTo_15 (by decide) ?_
    refine lv_istore_n (lv' := [(3, .int 0), (0, .ref (gz g + 348)), (1, .int (nI e1)), (2, .ref (g.2.2.2 (10 + i)))]) hx hb dX2_isWordUpTo_16 rfl hl (by decide) rfl (fun ls hl => ?_)
    have lp : ∀ (k : Nat) (k1 : Nat) (hk1 : k1 ≤ sLen.getD i 0) (hR : eqS tx P (sByt.getD i []) (sLen.getD i 0 - k1) k1 = isW tx P e1 i) (H : Heap) (locs : List Loc) (ls : Array Slot), (sLen.getD i 0 + 1 - k1) ≤ k → Hv g s H locs n c → lv_has ls 4 [(0, .ref (gz g + 348)), (2, .ref (g.2.2.2 (10 + i))), (3, .int (nI k1))] → W p l e (Rm 4 85 0 0) s m args below meth c0 H locs 0 0 (MQ below (Qi g (fun xr n' c' => xr = isW tx P e1 i ∧ n' = n ∧ c' = c)) args s 0 0 (mAf g)) (F0 m 17 ls []) := by
      intro k
      induction k with
      | zero => intro k1 hk1 hR H locs ls hk h hl; exact absurd hk (by omega)
      | succ k ih =>
        intro k1 hk1 hR H locs ls hk h hl
        refine lv_iload_n hx hb dX2_isWordUpTo_17 rfl (lv_at hl 2 rfl) ?_
        refine lv_aload_n hx hb dX2_isWordUpTo_18 rfl (lv_at hl 1 rfl) ?_
        refine u_iE (v := nI (sLen.getD i 0)) (ru_VS (As := []) (rest := [.int (nI k1)]) F h hi (k_J0_length_8abf5 l g n c i hi) (gV hjl wd_648 wd_649 wd_650 wd_61 wd_651) rfl 0 (by decide +kernel) rfl ⟨Nat.le_of_ble_eq_true rfl, Nat.le_of_ble_eq_true rfl⟩ rfl hl.1 (Nat.le_of_ble_eq_true rfl) ⟨Nat.zero_le _, Nat.zero_le _⟩ dX2_isWordUpTo_19) h (fun H locs h => ?_)
        refine lv_icmp_ge (tgt := 52) hx hb dX2_isWordUpTo_22 (by decide) (fun b_22 => ?_) (fun b_22 => ?_)
        · skip
          refine lv_iconst (v := 1) hx hb dX2_isWordUpTo_52 (by decide) ?_
          exact ret_z F h (by decide) (Nat.zero_le _) (Nat.zero_le _) dX2_isWordUpTo_53 (⟨by rw [← hR, show sLen.getD i 0 - k1 = 0 by have := lp_ge (N := sLen.getD i 0) rfl (by omega) (by omega) b_22; omega, eqS], rfl, rfl⟩)
        have hk4 : k1 < sLen.getD i 0 := lp_lt (N := sLen.getD i 0) rfl (by omega) (by omega) b_22
        refine lv_aload_n hx hb dX2_isWordUpTo_25 rfl (lv_at hl 0 rfl) ?_
        refine r_get F h (C := RX2) (T := TX2) (N := 6) (hjc hi_X2) rfl hO 0 (by decide) (List.mem_cons_of_mem _ wd_265) rfl dX2_isWordUpTo_26 ?_
        refine lv_aload_n hx hb dX2_isWordUpTo_29 rfl (lv_at hl 0 rfl) ?_
        refine r_get F h (C := RX2) (T := TX2) (N := 6) (hjc hi_X2) rfl hO 5 (by decide) (List.mem_cons_of_mem _ wd_273) rfl dX2_isWordUpTo_30 ?_
        refine lv_iload_n hx hb dX2_isWordUpTo_33 rfl (lv_at hl 2 rfl) ?_
        refine lv_iadd hx hb dX2_isWordUpTo_34 ?_
        refine r_caldN F h (k := P + k1) hOt (by simp only [fa_lit, pk_mul, nI_add]; first | done | (refine congrArg nI ?_; omega)) (by omega) (by decide) dX2_isWordUpTo_35 ?_
        refine lv_aload_n hx hb dX2_isWordUpTo_36 rfl (lv_at hl 1 rfl) ?_
        refine lv_iload_n hx hb dX2_isWordUpTo_37 rfl (lv_at hl 2 rfl) ?_
        refine u_iE (v := ((sByt.getD i []).getD k1 0)) (ru_VS (As := [.int (nI k1)]) (rest := [.int (tx (P + k1))]) F h hi (k_J0_charAt_5068e l g n c i hi k1 hk4) (gV hjl wd_658 wd_659 wd_660 wd_61 wd_661) rfl 1 (by decide +kernel) rfl ⟨Nat.le_of_ble_eq_true rfl, Nat.le_of_ble_eq_true rfl⟩ rfl hl.1 (Nat.le_of_ble_eq_true rfl) ⟨Nat.zero_le _, Nat.zero_le _⟩ dX2_isWordUpTo_38) h (fun H locs h => ?_)
        refine lv_icmp_eq (tgt := 46) hx hb dX2_isWordUpTo_41 (by decide) (fun b_41 => ?_) (fun b_41 => ?_)
        · skip
          refine lv_iinc (v := nI (k1 + 1)) (lv' := [(3, .int (nI (k1 + 1))), (0, .ref (gz g + 348)), (2, .ref (g.2.2.2 (10 + i)))]) hx hb dX2_isWordUpTo_46 hl (k := 2) rfl (by exact (nI_succ k1).symm) (by decide) rfl (fun ls hl => ?_)
          refine lv_goto (tgt := 17) hx hb dX2_isWordUpTo_49 (by decide) ?_
          exact ih (k1 + 1) (by omega) (by rw [← hR, show sLen.getD i 0 - k1 = (sLen.getD i 0 - (k1 + 1)) + 1 by omega, eqS, if_pos b_41]) _ _ _ (by omega) h (lv_sub hl [1, 2, 0] rfl)
        refine lv_iconst (v := 0) hx hb dX2_isWordUpTo_44 (by decide) ?_
        exact ret_z F h (by decide) (Nat.zero_le _) (Nat.zero_le _) dX2_isWordUpTo_45 (⟨by rw [← hR, show sLen.getD i 0 - k1 = (sLen.getD i 0 - (k1 + 1)) + 1 by omega, eqS, if_neg b_41], rfl, rfl⟩)
    exact lp _ 0 (Nat.zero_le _) (by unfold isW; rw [if_pos b_10, Nat.sub_zero]) _ _ _ (Nat.le_refl _) h (lv_sub hl [1, 3, 0] rfl)
  refine lv_iconst (v := 0) hx hb dX2_isWordUpTo_13 (by decide) ?_
  exact ret_z F h (by decide) (Nat.zero_le _) (Nat.zero_le _) dX2_isWordUpTo_14 (⟨by unfold isW; rw [if_neg b_10], rfl, rfl⟩)
set_option maxHeartbeats 4000000 in
set_option maxRecDepth 100000 in
theorem k_X2_wordText_0 (l : Launch) (g : Gf) (n : Nat) (c : Mp)  : Ct l g yX2_wordText wsX2_wordText 0 0 0 0 [.int 0] n c (Qr g (fun a n' c' => a = g.2.2.2 (10 + 0) ∧ n' = n ∧ c' = c)) := by
  refine ent (by decide) rfl (Nat.le_of_ble_eq_true rfl) ?_
  intro p e s m args below meth c0 F h ls hl
  have hx := F.1
  have hb := F.2.1
  have hl : lv_has ls 1 [(0, .int 0)] := hl
  refine lv_iload_n hx hb dX2_wordText_0 rfl (lv_at hl 0 rfl) ?_
  refine lv_tableIn (off := 35) (tgt := 36) hx hb dX2_wordText_1 (by decide) (by decide) (by rfl) (by decide) ?_
  refine va_ldcS hx hb F.2.2.2.1 (F.2.2.2.2.2.2.2.2.sr (i := 0) (by decide)) dX2_wordText_36 ?_
  exact ret_r F (Or.inl ⟨_, rfl⟩) h (Nat.zero_le _) (Nat.zero_le _) dX2_wordText_38 (⟨rfl, rfl, rfl⟩)
set_option maxHeartbeats 4000000 in
set_option maxRecDepth 100000 in
theorem k_X2_kindsOfNumbers_0 (l : Launch) (g : Gf) (n : Nat) (c : Mp)  : Ct l g yX2_kindsOfNumbers wsX2_kindsOfNumbers 0 0 0 0 [.int 0] n c (Qr g (fun a n' c' => a = g.2.2.2 (10 + 5) ∧ n' = n ∧ c' = c)) := by
  refine ent (by decide) rfl (Nat.le_of_ble_eq_true rfl) ?_
  intro p e s m args below meth c0 F h ls hl
  have hx := F.1
  have hb := F.2.1
  have hl : lv_has ls 1 [(0, .int 0)] := hl
  refine lv_iload_n hx hb dX2_kindsOfNumbers_0 rfl (lv_at hl 0 rfl) ?_
  refine lv_tableIn (off := 35) (tgt := 36) hx hb dX2_kindsOfNumbers_1 (by decide) (by decide) (by rfl) (by decide) ?_
  refine va_ldcS hx hb F.2.2.2.1 (F.2.2.2.2.2.2.2.2.sr (i := 5) (by decide)) dX2_kindsOfNumbers_36 ?_
  exact ret_r F (Or.inl ⟨_, rfl⟩) h (Nat.zero_le _) (Nat.zero_le _) dX2_kindsOfNumbers_38 (⟨rfl, rfl, rfl⟩)
set_option maxHeartbeats 4000000 in
set_option maxRecDepth 100000 in
theorem k_X2_wordText_1 (l : Launch) (g : Gf) (n : Nat) (c : Mp)  : Ct l g yX2_wordText wsX2_wordText 0 0 0 0 [.int 1] n c (Qr g (fun a n' c' => a = g.2.2.2 (10 + 1) ∧ n' = n ∧ c' = c)) := by
  refine ent (by decide) rfl (Nat.le_of_ble_eq_true rfl) ?_
  intro p e s m args below meth c0 F h ls hl
  have hx := F.1
  have hb := F.2.1
  have hl : lv_has ls 1 [(0, .int 1)] := hl
  refine lv_iload_n hx hb dX2_wordText_0 rfl (lv_at hl 0 rfl) ?_
  refine lv_tableIn (off := 38) (tgt := 39) hx hb dX2_wordText_1 (by decide) (by decide) (by rfl) (by decide) ?_
  refine va_ldcS hx hb F.2.2.2.1 (F.2.2.2.2.2.2.2.2.sr (i := 1) (by decide)) dX2_wordText_39 ?_
  exact ret_r F (Or.inl ⟨_, rfl⟩) h (Nat.zero_le _) (Nat.zero_le _) dX2_wordText_41 (⟨rfl, rfl, rfl⟩)
set_option maxHeartbeats 4000000 in
set_option maxRecDepth 100000 in
theorem k_X2_kindsOfNumbers_1 (l : Launch) (g : Gf) (n : Nat) (c : Mp)  : Ct l g yX2_kindsOfNumbers wsX2_kindsOfNumbers 0 0 0 0 [.int 1] n c (Qr g (fun a n' c' => a = g.2.2.2 (10 + 6) ∧ n' = n ∧ c' = c)) := by
  refine ent (by decide) rfl (Nat.le_of_ble_eq_true rfl) ?_
  intro p e s m args below meth c0 F h ls hl
  have hx := F.1
  have hb := F.2.1
  have hl : lv_has ls 1 [(0, .int 1)] := hl
  refine lv_iload_n hx hb dX2_kindsOfNumbers_0 rfl (lv_at hl 0 rfl) ?_
  refine lv_tableIn (off := 38) (tgt := 39) hx hb dX2_kindsOfNumbers_1 (by decide) (by decide) (by rfl) (by decide) ?_
  refine va_ldcS hx hb F.2.2.2.1 (F.2.2.2.2.2.2.2.2.sr (i := 6) (by decide)) dX2_kindsOfNumbers_39 ?_
  exact ret_r F (Or.inl ⟨_, rfl⟩) h (Nat.zero_le _) (Nat.zero_le _) dX2_kindsOfNumbers_41 (⟨rfl, rfl, rfl⟩)
set_option maxHeartbeats 4000000 in
set_option maxRecDepth 100000 in
theorem k_X2_wordText_2 (l : Launch) (g : Gf) (n : Nat) (c : Mp)  : Ct l g yX2_wordText wsX2_wordText 0 0 0 0 [.int 2] n c (Qr g (fun a n' c' => a = g.2.2.2 (10 + 2) ∧ n' = n ∧ c' = c)) := by
  refine ent (by decide) rfl (Nat.le_of_ble_eq_true rfl) ?_
  intro p e s m args below meth c0 F h ls hl
  have hx := F.1
  have hb := F.2.1
  have hl : lv_has ls 1 [(0, .int 2)] := hl
  refine lv_iload_n hx hb dX2_wordText_0 rfl (lv_at hl 0 rfl) ?_
  refine lv_tableIn (off := 41) (tgt := 42) hx hb dX2_wordText_1 (by decide) (by decide) (by rfl) (by decide) ?_
  refine va_ldcS hx hb F.2.2.2.1 (F.2.2.2.2.2.2.2.2.sr (i := 2) (by decide)) dX2_wordText_42 ?_
  exact ret_r F (Or.inl ⟨_, rfl⟩) h (Nat.zero_le _) (Nat.zero_le _) dX2_wordText_44 (⟨rfl, rfl, rfl⟩)
set_option maxHeartbeats 4000000 in
set_option maxRecDepth 100000 in
theorem k_X2_kindsOfNumbers_2 (l : Launch) (g : Gf) (n : Nat) (c : Mp)  : Ct l g yX2_kindsOfNumbers wsX2_kindsOfNumbers 0 0 0 0 [.int 2] n c (Qr g (fun a n' c' => a = g.2.2.2 (10 + 7) ∧ n' = n ∧ c' = c)) := by
  refine ent (by decide) rfl (Nat.le_of_ble_eq_true rfl) ?_
  intro p e s m args below meth c0 F h ls hl
  have hx := F.1
  have hb := F.2.1
  have hl : lv_has ls 1 [(0, .int 2)] := hl
  refine lv_iload_n hx hb dX2_kindsOfNumbers_0 rfl (lv_at hl 0 rfl) ?_
  refine lv_tableIn (off := 41) (tgt := 42) hx hb dX2_kindsOfNumbers_1 (by decide) (by decide) (by rfl) (by decide) ?_
  refine va_ldcS hx hb F.2.2.2.1 (F.2.2.2.2.2.2.2.2.sr (i := 7) (by decide)) dX2_kindsOfNumbers_42 ?_
  exact ret_r F (Or.inl ⟨_, rfl⟩) h (Nat.zero_le _) (Nat.zero_le _) dX2_kindsOfNumbers_44 (⟨rfl, rfl, rfl⟩)
set_option maxHeartbeats 4000000 in
set_option maxRecDepth 100000 in
theorem k_X2_wordText_3 (l : Launch) (g : Gf) (n : Nat) (c : Mp)  : Ct l g yX2_wordText wsX2_wordText 0 0 0 0 [.int 3] n c (Qr g (fun a n' c' => a = g.2.2.2 (10 + 3) ∧ n' = n ∧ c' = c)) := by
  refine ent (by decide) rfl (Nat.le_of_ble_eq_true rfl) ?_
  intro p e s m args below meth c0 F h ls hl
  have hx := F.1
  have hb := F.2.1
  have hl : lv_has ls 1 [(0, .int 3)] := hl
  refine lv_iload_n hx hb dX2_wordText_0 rfl (lv_at hl 0 rfl) ?_
  refine lv_tableIn (off := 44) (tgt := 45) hx hb dX2_wordText_1 (by decide) (by decide) (by rfl) (by decide) ?_
  refine va_ldcS hx hb F.2.2.2.1 (F.2.2.2.2.2.2.2.2.sr (i := 3) (by decide)) dX2_wordText_45 ?_
  exact ret_r F (Or.inl ⟨_, rfl⟩) h (Nat.zero_le _) (Nat.zero_le _) dX2_wordText_47 (⟨rfl, rfl, rfl⟩)
set_option maxHeartbeats 4000000 in
set_option maxRecDepth 100000 in
theorem k_X2_kindsOfNumbers_3 (l : Launch) (g : Gf) (n : Nat) (c : Mp)  : Ct l g yX2_kindsOfNumbers wsX2_kindsOfNumbers 0 0 0 0 [.int 3] n c (Qr g (fun a n' c' => a = g.2.2.2 (10 + 8) ∧ n' = n ∧ c' = c)) := by
  refine ent (by decide) rfl (Nat.le_of_ble_eq_true rfl) ?_
  intro p e s m args below meth c0 F h ls hl
  have hx := F.1
  have hb := F.2.1
  have hl : lv_has ls 1 [(0, .int 3)] := hl
  refine lv_iload_n hx hb dX2_kindsOfNumbers_0 rfl (lv_at hl 0 rfl) ?_
  refine lv_tableIn (off := 44) (tgt := 45) hx hb dX2_kindsOfNumbers_1 (by decide) (by decide) (by rfl) (by decide) ?_
  refine va_ldcS hx hb F.2.2.2.1 (F.2.2.2.2.2.2.2.2.sr (i := 8) (by decide)) dX2_kindsOfNumbers_45 ?_
  exact ret_r F (Or.inl ⟨_, rfl⟩) h (Nat.zero_le _) (Nat.zero_le _) dX2_kindsOfNumbers_47 (⟨rfl, rfl, rfl⟩)
set_option maxHeartbeats 4000000 in
set_option maxRecDepth 100000 in
theorem k_X2_wordText_4 (l : Launch) (g : Gf) (n : Nat) (c : Mp)  : Ct l g yX2_wordText wsX2_wordText 0 0 0 0 [.int 4] n c (Qr g (fun a n' c' => a = g.2.2.2 (10 + 4) ∧ n' = n ∧ c' = c)) := by
  refine ent (by decide) rfl (Nat.le_of_ble_eq_true rfl) ?_
  intro p e s m args below meth c0 F h ls hl
  have hx := F.1
  have hb := F.2.1
  have hl : lv_has ls 1 [(0, .int 4)] := hl
  refine lv_iload_n hx hb dX2_wordText_0 rfl (lv_at hl 0 rfl) ?_
  refine lv_tableIn (off := 47) (tgt := 48) hx hb dX2_wordText_1 (by decide) (by decide) (by rfl) (by decide) ?_
  refine va_ldcS hx hb F.2.2.2.1 (F.2.2.2.2.2.2.2.2.sr (i := 4) (by decide)) dX2_wordText_48 ?_
  exact ret_r F (Or.inl ⟨_, rfl⟩) h (Nat.zero_le _) (Nat.zero_le _) dX2_wordText_50 (⟨rfl, rfl, rfl⟩)
set_option maxHeartbeats 4000000 in
set_option maxRecDepth 100000 in
theorem k_X2_kindsOfNumbers_4 (l : Launch) (g : Gf) (n : Nat) (c : Mp)  : Ct l g yX2_kindsOfNumbers wsX2_kindsOfNumbers 0 0 0 0 [.int 4] n c (Qr g (fun a n' c' => a = g.2.2.2 (10 + 9) ∧ n' = n ∧ c' = c)) := by
  refine ent (by decide) rfl (Nat.le_of_ble_eq_true rfl) ?_
  intro p e s m args below meth c0 F h ls hl
  have hx := F.1
  have hb := F.2.1
  have hl : lv_has ls 1 [(0, .int 4)] := hl
  refine lv_iload_n hx hb dX2_kindsOfNumbers_0 rfl (lv_at hl 0 rfl) ?_
  refine lv_tableIn (off := 47) (tgt := 48) hx hb dX2_kindsOfNumbers_1 (by decide) (by decide) (by rfl) (by decide) ?_
  refine va_ldcS hx hb F.2.2.2.1 (F.2.2.2.2.2.2.2.2.sr (i := 9) (by decide)) dX2_kindsOfNumbers_48 ?_
  exact ret_r F (Or.inl ⟨_, rfl⟩) h (Nat.zero_le _) (Nat.zero_le _) dX2_kindsOfNumbers_50 (⟨rfl, rfl, rfl⟩)
def sq_X2_wordUpTo (tx : Nat → Int32) (P e1 : Nat) : Int32 := if (isW tx P e1 0) = 0 then (if (isW tx P e1 1) = 0 then (if (isW tx P e1 2) = 0 then (if (isW tx P e1 3) = 0 then (if (isW tx P e1 4) = 0 then ((-1)) else (4)) else (3)) else (2)) else (1)) else (0)
set_option maxHeartbeats 4000000 in
set_option maxRecDepth 100000 in
theorem k_X2_wordUpTo (l : Launch) (g : Gf) (n : Nat) (c : Mp) (T : Nat) (hT7 : T ≤ 70) (K P : Nat) (hPT : P ≤ T) (hO : c 348 = otC g (nI T) (nI K) (nI P)) (tx : Nat → Int32) (hOt : c 349 = some (.inl (g.2.1 2, 70, .inl tx))) (e1 : Nat) (hPe : P ≤ e1) (heT : e1 ≤ T) : Ct l g yX2_wordUpTo wsX2_wordUpTo 5 108 0 0 [.ref (gz g + 348), .int (nI e1)] n c (Qi g (fun xr n' c' => xr = sq_X2_wordUpTo tx P e1 ∧ n' = n ∧ c' = c)) := by
  refine ent (by decide) rfl (Nat.le_of_ble_eq_true rfl) ?_
  intro p e s m args below meth c0 F h ls hl
  have hx := F.1
  have hb := F.2.1
  have hl : lv_has ls 3 [(0, .ref (gz g + 348)), (1, .int (nI e1))] := hl
  refine lv_iconst (v := 0) hx hb dX2_wordUpTo_0 (by decide) ?_
  refine lv_istore_n (lv' := [(2, .int 0), (0, .ref (gz g + 348)), (1, .int (nI e1))]) hx hb dX2_wordUpTo_1 rfl hl (by decide) rfl (fun ls hl => ?_)
  refine lv_iload_n hx hb dX2_wordUpTo_2 rfl (lv_at hl 0 rfl) ?_
  refine lv_iconst (v := 5) hx hb dX2_wordUpTo_3 (by decide) ?_
  refine lv_icmp_ge (tgt := 27) hx hb dX2_wordUpTo_4 (by decide) (fun b_4 => by first | exact absurd b_4 (by decide) | exact absurd (by decide) b_4) (fun b_4 => ?_)
  refine lv_aload_n hx hb dX2_wordUpTo_7 rfl (lv_at hl 1 rfl) ?_
  refine lv_iload_n hx hb dX2_wordUpTo_8 rfl (lv_at hl 2 rfl) ?_
  refine lv_iload_n hx hb dX2_wordUpTo_9 rfl (lv_at hl 0 rfl) ?_
  refine u_rE (v := g.2.2.2 (10 + 0)) (ru_S (As := [.int 0]) (rest := [.int (nI e1), .ref (gz g + 348)]) F h (k_X2_wordText_0 l g n c ) (gS hjl wd_636 wd_637 wd_57 wd_638) rfl 1 (by decide +kernel) rfl ⟨Nat.le_of_ble_eq_true rfl, Nat.le_of_ble_eq_true rfl⟩ rfl hl.1 (Nat.le_of_ble_eq_true rfl) ⟨Nat.zero_le _, Nat.zero_le _⟩ dX2_wordUpTo_10) h (fun H locs h => ?_)
  refine u_iE (v := (isW tx P e1 0)) (ru_V (As := [.int (nI e1), .ref (g.2.2.2 (10 + 0))]) (rest := []) F h hO rfl (k_X2_isWordUpTo l g n c T hT7 K P hPT hO tx hOt e1 0 (by decide) hPe heT) (gV hjl wd_644 wd_645 wd_646 wd_57 wd_647) rfl 2 (by decide +kernel) rfl ⟨Nat.le_of_ble_eq_true rfl, Nat.le_of_ble_eq_true rfl⟩ rfl hl.1 (Nat.le_of_ble_eq_true rfl) ⟨Nat.zero_le _, Nat.zero_le _⟩ dX2_wordUpTo_13) h (fun H locs h => ?_)
  refine lv_if_eq (tgt := 21) hx hb dX2_wordUpTo_16 (by decide) (fun b_16 => ?_) (fun b_16 => ?_)
  · skip
    refine lv_iinc (v := 1) (lv' := [(2, .int 1), (0, .ref (gz g + 348)), (1, .int (nI e1))]) hx hb dX2_wordUpTo_21 hl (k := 0) rfl (by decide) (by decide) rfl (fun ls hl => ?_)
    refine lv_goto (tgt := 2) hx hb dX2_wordUpTo_24 (by decide) ?_
    refine lv_iload_n hx hb dX2_wordUpTo_2 rfl (lv_at hl 0 rfl) ?_
    refine lv_iconst (v := 5) hx hb dX2_wordUpTo_3 (by decide) ?_
    refine lv_icmp_ge (tgt := 27) hx hb dX2_wordUpTo_4 (by decide) (fun b_4_1 => by first | exact absurd b_4_1 (by decide) | exact absurd (by decide) b_4_1) (fun b_4_1 => ?_)
    refine lv_aload_n hx hb dX2_wordUpTo_7 rfl (lv_at hl 1 rfl) ?_
    refine lv_iload_n hx hb dX2_wordUpTo_8 rfl (lv_at hl 2 rfl) ?_
    refine lv_iload_n hx hb dX2_wordUpTo_9 rfl (lv_at hl 0 rfl) ?_
    refine u_rE (v := g.2.2.2 (10 + 1)) (ru_S (As := [.int 1]) (rest := [.int (nI e1), .ref (gz g + 348)]) F h (k_X2_wordText_1 l g n c ) (gS hjl wd_636 wd_637 wd_57 wd_638) rfl 1 (by decide +kernel) rfl ⟨Nat.le_of_ble_eq_true rfl, Nat.le_of_ble_eq_true rfl⟩ rfl hl.1 (Nat.le_of_ble_eq_true rfl) ⟨Nat.zero_le _, Nat.zero_le _⟩ dX2_wordUpTo_10) h (fun H locs h => ?_)
    refine u_iE (v := (isW tx P e1 1)) (ru_V (As := [.int (nI e1), .ref (g.2.2.2 (10 + 1))]) (rest := []) F h hO rfl (k_X2_isWordUpTo l g n c T hT7 K P hPT hO tx hOt e1 1 (by decide) hPe heT) (gV hjl wd_644 wd_645 wd_646 wd_57 wd_647) rfl 2 (by decide +kernel) rfl ⟨Nat.le_of_ble_eq_true rfl, Nat.le_of_ble_eq_true rfl⟩ rfl hl.1 (Nat.le_of_ble_eq_true rfl) ⟨Nat.zero_le _, Nat.zero_le _⟩ dX2_wordUpTo_13) h (fun H locs h => ?_)
    refine lv_if_eq (tgt := 21) hx hb dX2_wordUpTo_16 (by decide) (fun b_16_1 => ?_) (fun b_16_1 => ?_)
    · skip
      refine lv_iinc (v := 2) (lv' := [(2, .int 2), (0, .ref (gz g + 348)), (1, .int (nI e1))]) hx hb dX2_wordUpTo_21 hl (k := 0) rfl (by decide) (by decide) rfl (fun ls hl => ?_)
      refine lv_goto (tgt := 2) hx hb dX2_wordUpTo_24 (by decide) ?_
      refine lv_iload_n hx hb dX2_wordUpTo_2 rfl (lv_at hl 0 rfl) ?_
      refine lv_iconst (v := 5) hx hb dX2_wordUpTo_3 (by decide) ?_
      refine lv_icmp_ge (tgt := 27) hx hb dX2_wordUpTo_4 (by decide) (fun b_4_2 => by first | exact absurd b_4_2 (by decide) | exact absurd (by decide) b_4_2) (fun b_4_2 => ?_)
      refine lv_aload_n hx hb dX2_wordUpTo_7 rfl (lv_at hl 1 rfl) ?_
      refine lv_iload_n hx hb dX2_wordUpTo_8 rfl (lv_at hl 2 rfl) ?_
      refine lv_iload_n hx hb dX2_wordUpTo_9 rfl (lv_at hl 0 rfl) ?_
      refine u_rE (v := g.2.2.2 (10 + 2)) (ru_S (As := [.int 2]) (rest := [.int (nI e1), .ref (gz g + 348)]) F h (k_X2_wordText_2 l g n c ) (gS hjl wd_636 wd_637 wd_57 wd_638) rfl 1 (by decide +kernel) rfl ⟨Nat.le_of_ble_eq_true rfl, Nat.le_of_ble_eq_true rfl⟩ rfl hl.1 (Nat.le_of_ble_eq_true rfl) ⟨Nat.zero_le _, Nat.zero_le _⟩ dX2_wordUpTo_10) h (fun H locs h => ?_)
      refine u_iE (v := (isW tx P e1 2)) (ru_V (As := [.int (nI e1), .ref (g.2.2.2 (10 + 2))]) (rest := []) F h hO rfl (k_X2_isWordUpTo l g n c T hT7 K P hPT hO tx hOt e1 2 (by decide) hPe heT) (gV hjl wd_644 wd_645 wd_646 wd_57 wd_647) rfl 2 (by decide +kernel) rfl ⟨Nat.le_of_ble_eq_true rfl, Nat.le_of_ble_eq_true rfl⟩ rfl hl.1 (Nat.le_of_ble_eq_true rfl) ⟨Nat.zero_le _, Nat.zero_le _⟩ dX2_wordUpTo_13) h (fun H locs h => ?_)
      refine lv_if_eq (tgt := 21) hx hb dX2_wordUpTo_16 (by decide) (fun b_16_2 => ?_) (fun b_16_2 => ?_)
      · skip
        refine lv_iinc (v := 3) (lv' := [(2, .int 3), (0, .ref (gz g + 348)), (1, .int (nI e1))]) hx hb dX2_wordUpTo_21 hl (k := 0) rfl (by decide) (by decide) rfl (fun ls hl => ?_)
        refine lv_goto (tgt := 2) hx hb dX2_wordUpTo_24 (by decide) ?_
        refine lv_iload_n hx hb dX2_wordUpTo_2 rfl (lv_at hl 0 rfl) ?_
        refine lv_iconst (v := 5) hx hb dX2_wordUpTo_3 (by decide) ?_
        refine lv_icmp_ge (tgt := 27) hx hb dX2_wordUpTo_4 (by decide) (fun b_4_3 => by first | exact absurd b_4_3 (by decide) | exact absurd (by decide) b_4_3) (fun b_4_3 => ?_)
        refine lv_aload_n hx hb dX2_wordUpTo_7 rfl (lv_at hl 1 rfl) ?_
        refine lv_iload_n hx hb dX2_wordUpTo_8 rfl (lv_at hl 2 rfl) ?_
        refine lv_iload_n hx hb dX2_wordUpTo_9 rfl (lv_at hl 0 rfl) ?_
        refine u_rE (v := g.2.2.2 (10 + 3)) (ru_S (As := [.int 3]) (rest := [.int (nI e1), .ref (gz g + 348)]) F h (k_X2_wordText_3 l g n c ) (gS hjl wd_636 wd_637 wd_57 wd_638) rfl 1 (by decide +kernel) rfl ⟨Nat.le_of_ble_eq_true rfl, Nat.le_of_ble_eq_true rfl⟩ rfl hl.1 (Nat.le_of_ble_eq_true rfl) ⟨Nat.zero_le _, Nat.zero_le _⟩ dX2_wordUpTo_10) h (fun H locs h => ?_)
        refine u_iE (v := (isW tx P e1 3)) (ru_V (As := [.int (nI e1), .ref (g.2.2.2 (10 + 3))]) (rest := []) F h hO rfl (k_X2_isWordUpTo l g n c T hT7 K P hPT hO tx hOt e1 3 (by decide) hPe heT) (gV hjl wd_644 wd_645 wd_646 wd_57 wd_647) rfl 2 (by decide +kernel) rfl ⟨Nat.le_of_ble_eq_true rfl, Nat.le_of_ble_eq_true rfl⟩ rfl hl.1 (Nat.le_of_ble_eq_true rfl) ⟨Nat.zero_le _, Nat.zero_le _⟩ dX2_wordUpTo_13) h (fun H locs h => ?_)
        refine lv_if_eq (tgt := 21) hx hb dX2_wordUpTo_16 (by decide) (fun b_16_3 => ?_) (fun b_16_3 => ?_)
        · skip
          refine lv_iinc (v := 4) (lv' := [(2, .int 4), (0, .ref (gz g + 348)), (1, .int (nI e1))]) hx hb dX2_wordUpTo_21 hl (k := 0) rfl (by decide) (by decide) rfl (fun ls hl => ?_)
          refine lv_goto (tgt := 2) hx hb dX2_wordUpTo_24 (by decide) ?_
          refine lv_iload_n hx hb dX2_wordUpTo_2 rfl (lv_at hl 0 rfl) ?_
          refine lv_iconst (v := 5) hx hb dX2_wordUpTo_3 (by decide) ?_
          refine lv_icmp_ge (tgt := 27) hx hb dX2_wordUpTo_4 (by decide) (fun b_4_4 => by first | exact absurd b_4_4 (by decide) | exact absurd (by decide) b_4_4) (fun b_4_4 => ?_)
          refine lv_aload_n hx hb dX2_wordUpTo_7 rfl (lv_at hl 1 rfl) ?_
          refine lv_iload_n hx hb dX2_wordUpTo_8 rfl (lv_at hl 2 rfl) ?_
          refine lv_iload_n hx hb dX2_wordUpTo_9 rfl (lv_at hl 0 rfl) ?_
          refine u_rE (v := g.2.2.2 (10 + 4)) (ru_S (As := [.int 4]) (rest := [.int (nI e1), .ref (gz g + 348)]) F h (k_X2_wordText_4 l g n c ) (gS hjl wd_636 wd_637 wd_57 wd_638) rfl 1 (by decide +kernel) rfl ⟨Nat.le_of_ble_eq_true rfl, Nat.le_of_ble_eq_true rfl⟩ rfl hl.1 (Nat.le_of_ble_eq_true rfl) ⟨Nat.zero_le _, Nat.zero_le _⟩ dX2_wordUpTo_10) h (fun H locs h => ?_)
          refine u_iE (v := (isW tx P e1 4)) (ru_V (As := [.int (nI e1), .ref (g.2.2.2 (10 + 4))]) (rest := []) F h hO rfl (k_X2_isWordUpTo l g n c T hT7 K P hPT hO tx hOt e1 4 (by decide) hPe heT) (gV hjl wd_644 wd_645 wd_646 wd_57 wd_647) rfl 2 (by decide +kernel) rfl ⟨Nat.le_of_ble_eq_true rfl, Nat.le_of_ble_eq_true rfl⟩ rfl hl.1 (Nat.le_of_ble_eq_true rfl) ⟨Nat.zero_le _, Nat.zero_le _⟩ dX2_wordUpTo_13) h (fun H locs h => ?_)
          refine lv_if_eq (tgt := 21) hx hb dX2_wordUpTo_16 (by decide) (fun b_16_4 => ?_) (fun b_16_4 => ?_)
          · skip
            refine lv_iinc (v := 5) (lv' := [(2, .int 5), (0, .ref (gz g + 348)), (1, .int (nI e1))]) hx hb dX2_wordUpTo_21 hl (k := 0) rfl (by decide) (by decide) rfl (fun ls hl => ?_)
            refine lv_goto (tgt := 2) hx hb dX2_wordUpTo_24 (by decide) ?_
            refine lv_iload_n hx hb dX2_wordUpTo_2 rfl (lv_at hl 0 rfl) ?_
            refine lv_iconst (v := 5) hx hb dX2_wordUpTo_3 (by decide) ?_
            refine lv_icmp_ge (tgt := 27) hx hb dX2_wordUpTo_4 (by decide) (fun b_4_5 => ?_) (fun b_4_5 => by first | exact absurd (by decide) b_4_5 | exact absurd b_4_5 (by decide))
            refine lv_iconst (v := (-1)) hx hb dX2_wordUpTo_27 (by decide) ?_
            exact ret_i F h (Nat.zero_le _) (Nat.zero_le _) dX2_wordUpTo_28 (⟨((show sq_X2_wordUpTo tx P e1 = (-1) by rw [sq_X2_wordUpTo, if_pos (c := (isW tx P e1 0) = 0) b_16, if_pos (c := (isW tx P e1 1) = 0) b_16_1, if_pos (c := (isW tx P e1 2) = 0) b_16_2, if_pos (c := (isW tx P e1 3) = 0) b_16_3, if_pos (c := (isW tx P e1 4) = 0) b_16_4])).symm, rfl, rfl⟩)
          refine lv_iload_n hx hb dX2_wordUpTo_19 rfl (lv_at hl 0 rfl) ?_
          exact ret_i F h (Nat.zero_le _) (Nat.zero_le _) dX2_wordUpTo_20 (⟨((show sq_X2_wordUpTo tx P e1 = 4 by rw [sq_X2_wordUpTo, if_pos (c := (isW tx P e1 0) = 0) b_16, if_pos (c := (isW tx P e1 1) = 0) b_16_1, if_pos (c := (isW tx P e1 2) = 0) b_16_2, if_pos (c := (isW tx P e1 3) = 0) b_16_3, if_neg (c := (isW tx P e1 4) = 0) b_16_4])).symm, rfl, rfl⟩)
        refine lv_iload_n hx hb dX2_wordUpTo_19 rfl (lv_at hl 0 rfl) ?_
        exact ret_i F h (Nat.zero_le _) (Nat.zero_le _) dX2_wordUpTo_20 (⟨((show sq_X2_wordUpTo tx P e1 = 3 by rw [sq_X2_wordUpTo, if_pos (c := (isW tx P e1 0) = 0) b_16, if_pos (c := (isW tx P e1 1) = 0) b_16_1, if_pos (c := (isW tx P e1 2) = 0) b_16_2, if_neg (c := (isW tx P e1 3) = 0) b_16_3])).symm, rfl, rfl⟩)
      refine lv_iload_n hx hb dX2_wordUpTo_19 rfl (lv_at hl 0 rfl) ?_
      exact ret_i F h (Nat.zero_le _) (Nat.zero_le _) dX2_wordUpTo_20 (⟨((show sq_X2_wordUpTo tx P e1 = 2 by rw [sq_X2_wordUpTo, if_pos (c := (isW tx P e1 0) = 0) b_16, if_pos (c := (isW tx P e1 1) = 0) b_16_1, if_neg (c := (isW tx P e1 2) = 0) b_16_2])).symm, rfl, rfl⟩)
    refine lv_iload_n hx hb dX2_wordUpTo_19 rfl (lv_at hl 0 rfl) ?_
    exact ret_i F h (Nat.zero_le _) (Nat.zero_le _) dX2_wordUpTo_20 (⟨((show sq_X2_wordUpTo tx P e1 = 1 by rw [sq_X2_wordUpTo, if_pos (c := (isW tx P e1 0) = 0) b_16, if_neg (c := (isW tx P e1 1) = 0) b_16_1])).symm, rfl, rfl⟩)
  refine lv_iload_n hx hb dX2_wordUpTo_19 rfl (lv_at hl 0 rfl) ?_
  exact ret_i F h (Nat.zero_le _) (Nat.zero_le _) dX2_wordUpTo_20 (⟨((show sq_X2_wordUpTo tx P e1 = 0 by rw [sq_X2_wordUpTo, if_neg (c := (isW tx P e1 0) = 0) b_16])).symm, rfl, rfl⟩)
def sq_X2_lowestNumber (x : Int32) : Int32 := if x = 78 then (1) else (if x = 65 then (1) else (0))
set_option maxHeartbeats 4000000 in
set_option maxRecDepth 100000 in
theorem k_X2_lowestNumber (l : Launch) (g : Gf) (n : Nat) (c : Mp) (x : Int32) : Ct l g yX2_lowestNumber wsX2_lowestNumber 0 0 0 0 [.int x] n c (Qi g (fun xr n' c' => xr = sq_X2_lowestNumber x ∧ n' = n ∧ c' = c)) := by
  refine ent (by decide) rfl (Nat.le_of_ble_eq_true rfl) ?_
  intro p e s m args below meth c0 F h ls hl
  have hx := F.1
  have hb := F.2.1
  have hl : lv_has ls 1 [(0, .int x)] := hl
  refine lv_iload_n hx hb dX2_lowestNumber_0 rfl (lv_at hl 0 rfl) ?_
  refine lv_bipush (v := 78) hx hb dX2_lowestNumber_1 (by decide) ?_
  refine lv_icmp_eq (tgt := 12) hx hb dX2_lowestNumber_3 (by decide) (fun b_3 => ?_) (fun b_3 => ?_)
  · skip
    refine lv_iconst (v := 1) hx hb dX2_lowestNumber_12 (by decide) ?_
    refine lv_goto (tgt := 17) hx hb dX2_lowestNumber_13 (by decide) ?_
    exact ret_i F h (Nat.zero_le _) (Nat.zero_le _) dX2_lowestNumber_17 (⟨((show sq_X2_lowestNumber x = 1 by rw [sq_X2_lowestNumber, if_pos (c := x = 78) b_3])).symm, rfl, rfl⟩)
  refine lv_iload_n hx hb dX2_lowestNumber_6 rfl (lv_at hl 0 rfl) ?_
  refine lv_bipush (v := 65) hx hb dX2_lowestNumber_7 (by decide) ?_
  refine lv_icmp_ne (tgt := 16) hx hb dX2_lowestNumber_9 (by decide) (fun b_9 => ?_) (fun b_9 => ?_)
  · skip
    refine lv_iconst (v := 0) hx hb dX2_lowestNumber_16 (by decide) ?_
    exact ret_i F h (Nat.zero_le _) (Nat.zero_le _) dX2_lowestNumber_17 (⟨((show sq_X2_lowestNumber x = 0 by rw [sq_X2_lowestNumber, if_neg (c := x = 78) b_3, if_neg (c := x = 65) b_9])).symm, rfl, rfl⟩)
  refine lv_iconst (v := 1) hx hb dX2_lowestNumber_12 (by decide) ?_
  refine lv_goto (tgt := 17) hx hb dX2_lowestNumber_13 (by decide) ?_
  exact ret_i F h (Nat.zero_le _) (Nat.zero_le _) dX2_lowestNumber_17 (⟨((show sq_X2_lowestNumber x = 1 by rw [sq_X2_lowestNumber, if_neg (c := x = 78) b_3, if_pos (c := x = 65) b_9])).symm, rfl, rfl⟩)
def sq_X2_highestNumber (x : Int32) : Int32 := if x = 65 then (500) else (if x = 68 then (7) else (if x = 78 then (60) else (if x = 87 then (3) else (4))))
set_option maxHeartbeats 4000000 in
set_option maxRecDepth 100000 in
theorem k_X2_highestNumber (l : Launch) (g : Gf) (n : Nat) (c : Mp) (x : Int32) : Ct l g yX2_highestNumber wsX2_highestNumber 0 0 0 0 [.int x] n c (Qi g (fun xr n' c' => xr = sq_X2_highestNumber x ∧ n' = n ∧ c' = c)) := by
  refine ent (by decide) rfl (Nat.le_of_ble_eq_true rfl) ?_
  intro p e s m args below meth c0 F h ls hl
  have hx := F.1
  have hb := F.2.1
  have hl : lv_has ls 1 [(0, .int x)] := hl
  refine lv_iload_n hx hb dX2_highestNumber_0 rfl (lv_at hl 0 rfl) ?_
  by_cases q_1_65 : x = 65
  · skip
    refine lv_lookup (off := 51) (tgt := 52) hx hb dX2_highestNumber_1 (by decide) (by rw [q_1_65]; rfl) (by decide) ?_
    refine lv_sipush (v := 500) hx hb dX2_highestNumber_52 (by decide) ?_
    exact ret_i F h (Nat.zero_le _) (Nat.zero_le _) dX2_highestNumber_55 (⟨((show sq_X2_highestNumber x = 500 by rw [sq_X2_highestNumber, if_pos (c := x = 65) q_1_65])).symm, rfl, rfl⟩)
  by_cases q_1_68 : x = 68
  · skip
    refine lv_lookup (off := 48) (tgt := 49) hx hb dX2_highestNumber_1 (by decide) (by rw [q_1_68]; rfl) (by decide) ?_
    refine lv_bipush (v := 7) hx hb dX2_highestNumber_49 (by decide) ?_
    exact ret_i F h (Nat.zero_le _) (Nat.zero_le _) dX2_highestNumber_51 (⟨((show sq_X2_highestNumber x = 7 by rw [sq_X2_highestNumber, if_neg (c := x = 65) q_1_65, if_pos (c := x = 68) q_1_68])).symm, rfl, rfl⟩)
  by_cases q_1_78 : x = 78
  · skip
    refine lv_lookup (off := 43) (tgt := 44) hx hb dX2_highestNumber_1 (by decide) (by rw [q_1_78]; rfl) (by decide) ?_
    refine lv_bipush (v := 60) hx hb dX2_highestNumber_44 (by decide) ?_
    exact ret_i F h (Nat.zero_le _) (Nat.zero_le _) dX2_highestNumber_46 (⟨((show sq_X2_highestNumber x = 60 by rw [sq_X2_highestNumber, if_neg (c := x = 65) q_1_65, if_neg (c := x = 68) q_1_68, if_pos (c := x = 78) q_1_78])).symm, rfl, rfl⟩)
  by_cases q_1_87 : x = 87
  · skip
    refine lv_lookup (off := 46) (tgt := 47) hx hb dX2_highestNumber_1 (by decide) (by rw [q_1_87]; rfl) (by decide) ?_
    refine lv_iconst (v := 3) hx hb dX2_highestNumber_47 (by decide) ?_
    exact ret_i F h (Nat.zero_le _) (Nat.zero_le _) dX2_highestNumber_48 (⟨((show sq_X2_highestNumber x = 3 by rw [sq_X2_highestNumber, if_neg (c := x = 65) q_1_65, if_neg (c := x = 68) q_1_68, if_neg (c := x = 78) q_1_78, if_pos (c := x = 87) q_1_87])).symm, rfl, rfl⟩)
  refine lv_lookup (off := 55) (tgt := 56) hx hb dX2_highestNumber_1 (by decide) (by show Op.lookupswitch.offset [(65, 51), (68, 48), (78, 43), (87, 46)] 55 (x).toInt = 55; rw [Op.lookupswitch.offset_cons, if_neg (fun z => q_1_65 ((i_eq _ _).mpr z.symm)), Op.lookupswitch.offset_cons, if_neg (fun z => q_1_68 ((i_eq _ _).mpr z.symm)), Op.lookupswitch.offset_cons, if_neg (fun z => q_1_78 ((i_eq _ _).mpr z.symm)), Op.lookupswitch.offset_cons, if_neg (fun z => q_1_87 ((i_eq _ _).mpr z.symm)), Op.lookupswitch.offset_nil]) (by decide) ?_
  refine lv_iconst (v := 4) hx hb dX2_highestNumber_56 (by decide) ?_
  exact ret_i F h (Nat.zero_le _) (Nat.zero_le _) dX2_highestNumber_57 (⟨((show sq_X2_highestNumber x = 4 by rw [sq_X2_highestNumber, if_neg (c := x = 65) q_1_65, if_neg (c := x = 68) q_1_68, if_neg (c := x = 78) q_1_78, if_neg (c := x = 87) q_1_87])).symm, rfl, rfl⟩)
def nmS (tx : Nat → Int32) : Nat → Nat → Int32 → Int32
  | 0, _, v => v
  | f + 1, a, v => if inI (tx a) 48 57 = 0 then -1 else nmS tx f (a + 1) (10 * v + (tx a - 48))
def nmU (tx : Nat → Int32) (P e : Nat) : Int32 := if inI (nI (e - P)) 1 3 = 0 then -1 else nmS tx (e - P) P 0
set_option maxHeartbeats 4000000 in
set_option maxRecDepth 100000 in
theorem k_X2_numberUpTo (l : Launch) (g : Gf) (n : Nat) (c : Mp) (T : Nat) (hT7 : T ≤ 70) (K P : Nat) (hPT : P ≤ T) (hO : c 348 = otC g (nI T) (nI K) (nI P)) (tx : Nat → Int32) (hOt : c 349 = some (.inl (g.2.1 2, 70, .inl tx))) (e1 : Nat) (hPe : P ≤ e1) (heT : e1 ≤ T) : Ct l g yX2_numberUpTo wsX2_numberUpTo 1 22 0 0 [.ref (gz g + 348), .int (nI e1)] n c (Qi g (fun xr n' c' => xr = nmU tx P e1 ∧ n' = n ∧ c' = c)) := by
  refine ent (by decide) rfl (Nat.le_of_ble_eq_true rfl) ?_
  intro p e s m args below meth c0 F h ls hl
  have hx := F.1
  have hb := F.2.1
  have hl : lv_has ls 4 [(0, .ref (gz g + 348)), (1, .int (nI e1))] := hl
  refine lv_iload_n hx hb dX2_numberUpTo_0 rfl (lv_at hl 1 rfl) ?_
  refine lv_aload_n hx hb dX2_numberUpTo_1 rfl (lv_at hl 0 rfl) ?_
  refine r_get F h (C := RX2) (T := TX2) (N := 6) (hjc hi_X2) rfl hO 5 (by decide) (List.mem_cons_of_mem _ wd_273) rfl dX2_numberUpTo_2 ?_
  refine lv_isub hx hb dX2_numberUpTo_5 ?_
  refine r_top (w := .int (nI (e1 - P))) (congrArg Value.int (nI_subN hPe)) ?_
  refine lv_iconst (v := 1) hx hb dX2_numberUpTo_6 (by decide) ?_
  refine lv_iconst (v := 3) hx hb dX2_numberUpTo_7 (by decide) ?_
  refine u_iE (v := (inI (nI (e1 - P)) 1 3)) (ru_SN (As := [.int (nI (e1 - P)), .int 1, .int 3]) (rest := []) F h (k_X7_isWithin l g n c (nI (e1 - P)) 1 3) (List.mem_of_getElem? (i := 0) rfl) (gG hjl wd_324) rfl (List.mem_cons_of_mem _ wd_51) (List.mem_cons_of_mem _ wd_323) 3 (by decide +kernel) rfl ⟨Nat.le_of_ble_eq_true rfl, Nat.le_of_ble_eq_true rfl⟩ rfl hl.1 (Nat.le_of_ble_eq_true rfl) ⟨Nat.zero_le _, Nat.zero_le _⟩ dX2_numberUpTo_8) h (fun H locs h => ?_)
  refine lv_if_ne (tgt := 16) hx hb dX2_numberUpTo_11 (by decide) (fun b_11 => ?_) (fun b_11 => ?_)
  · skip
    refine lv_iconst (v := 0) hx hb dX2_numberUpTo_16 (by decide) ?_
    refine lv_istore_n (lv' := [(2, .int 0), (0, .ref (gz g + 348)), (1, .int (nI e1))]) hx hb dX2_numberUpTo_17 rfl hl (by decide) rfl (fun ls hl => ?_)
    refine lv_aload_n hx hb dX2_numberUpTo_18 rfl (lv_at hl 1 rfl) ?_
    refine r_get F h (C := RX2) (T := TX2) (N := 6) (hjc hi_X2) rfl hO 5 (by decide) (List.mem_cons_of_mem _ wd_273) rfl dX2_numberUpTo_19 ?_
    refine lv_istore_n (lv' := [(3, .int (nI P)), (2, .int 0), (0, .ref (gz g + 348)), (1, .int (nI e1))]) hx hb dX2_numberUpTo_22 rfl hl (by decide) rfl (fun ls hl => ?_)
    have lp : ∀ (k : Nat) (k1 : Nat) (v1 : Int32) (hk1 : P ≤ k1) (hk2 : k1 ≤ e1) (hR : nmS tx (e1 - k1) k1 v1 = nmU tx P e1) (H : Heap) (locs : List Loc) (ls : Array Slot), (e1 + 1 - k1) ≤ k → Hv g s H locs n c → lv_has ls 4 [(0, .ref (gz g + 348)), (1, .int (nI e1)), (2, .int v1), (3, .int (nI k1))] → W p l e (Rm 1 22 0 0) s m args below meth c0 H locs 0 0 (MQ below (Qi g (fun xr n' c' => xr = nmU tx P e1 ∧ n' = n ∧ c' = c)) args s 0 0 (mAf g)) (F0 m 23 ls []) := by
      intro k
      induction k with
      | zero => intro k1 v1 hk1 hk2 hR H locs ls hk h hl; exact absurd hk (by omega)
      | succ k ih =>
        intro k1 v1 hk1 hk2 hR H locs ls hk h hl
        refine lv_iload_n hx hb dX2_numberUpTo_23 rfl (lv_at hl 3 rfl) ?_
        refine lv_iload_n hx hb dX2_numberUpTo_24 rfl (lv_at hl 1 rfl) ?_
        refine lv_icmp_ge (tgt := 67) hx hb dX2_numberUpTo_25 (by decide) (fun b_25 => ?_) (fun b_25 => ?_)
        · skip
          refine lv_iload_n hx hb dX2_numberUpTo_67 rfl (lv_at hl 2 rfl) ?_
          exact ret_i F h (Nat.zero_le _) (Nat.zero_le _) dX2_numberUpTo_68 (⟨by rw [← hR, show e1 - k1 = 0 by have := lp_ge (N := e1) rfl (by omega) (by omega) b_25; omega, nmS], rfl, rfl⟩)
        have hk4 : k1 < e1 := lp_lt (N := e1) rfl (by omega) (by omega) b_25
        refine lv_aload_n hx hb dX2_numberUpTo_28 rfl (lv_at hl 0 rfl) ?_
        refine r_get F h (C := RX2) (T := TX2) (N := 6) (hjc hi_X2) rfl hO 0 (by decide) (List.mem_cons_of_mem _ wd_265) rfl dX2_numberUpTo_29 ?_
        refine lv_iload_n hx hb dX2_numberUpTo_32 rfl (lv_at hl 3 rfl) ?_
        refine r_caldN F h (k := k1) hOt (rfl) (by omega) (by decide) dX2_numberUpTo_33 ?_
        refine lv_bipush (v := 48) hx hb dX2_numberUpTo_34 (by decide) ?_
        refine lv_bipush (v := 57) hx hb dX2_numberUpTo_36 (by decide) ?_
        refine u_iE (v := (inI (tx k1) 48 57)) (ru_SN (As := [.int (tx k1), .int 48, .int 57]) (rest := []) F h (k_X7_isWithin l g n c (tx k1) 48 57) (List.mem_of_getElem? (i := 0) rfl) (gG hjl wd_324) rfl (List.mem_cons_of_mem _ wd_51) (List.mem_cons_of_mem _ wd_323) 3 (by decide +kernel) rfl ⟨Nat.le_of_ble_eq_true rfl, Nat.le_of_ble_eq_true rfl⟩ rfl hl.1 (Nat.le_of_ble_eq_true rfl) ⟨Nat.zero_le _, Nat.zero_le _⟩ dX2_numberUpTo_38) h (fun H locs h => ?_)
        refine lv_if_ne (tgt := 46) hx hb dX2_numberUpTo_41 (by decide) (fun b_41 => ?_) (fun b_41 => ?_)
        · skip
          refine lv_bipush (v := 10) hx hb dX2_numberUpTo_46 (by decide) ?_
          refine lv_iload_n hx hb dX2_numberUpTo_48 rfl (lv_at hl 2 rfl) ?_
          refine lv_imul hx hb dX2_numberUpTo_49 ?_
          refine lv_aload_n hx hb dX2_numberUpTo_50 rfl (lv_at hl 0 rfl) ?_
          refine r_get F h (C := RX2) (T := TX2) (N := 6) (hjc hi_X2) rfl hO 0 (by decide) (List.mem_cons_of_mem _ wd_265) rfl dX2_numberUpTo_51 ?_
          refine lv_iload_n hx hb dX2_numberUpTo_54 rfl (lv_at hl 3 rfl) ?_
          refine r_caldN F h (k := k1) hOt (rfl) (by omega) (by decide) dX2_numberUpTo_55 ?_
          refine lv_bipush (v := 48) hx hb dX2_numberUpTo_56 (by decide) ?_
          refine lv_isub hx hb dX2_numberUpTo_58 ?_
          refine lv_iadd hx hb dX2_numberUpTo_59 ?_
          refine lv_istore_n (lv' := [(2, .int ((10 * v1) + ((tx k1) - 48))), (0, .ref (gz g + 348)), (1, .int (nI e1)), (3, .int (nI k1))]) hx hb dX2_numberUpTo_60 rfl hl (by decide) rfl (fun ls hl => ?_)
          refine lv_iinc (v := nI (k1 + 1)) (lv' := [(3, .int (nI (k1 + 1))), (2, .int ((10 * v1) + ((tx k1) - 48))), (0, .ref (gz g + 348)), (1, .int (nI e1))]) hx hb dX2_numberUpTo_61 hl (k := 3) rfl (by exact (nI_succ k1).symm) (by decide) rfl (fun ls hl => ?_)
          refine lv_goto (tgt := 23) hx hb dX2_numberUpTo_64 (by decide) ?_
          exact ih (k1 + 1) _ (by omega) (by omega) (by rw [← hR, show e1 - k1 = (e1 - (k1 + 1)) + 1 by omega, nmS, if_neg b_41]) _ _ _ (by omega) h (lv_sub hl [2, 3, 1, 0] rfl)
        refine lv_iconst (v := (-1)) hx hb dX2_numberUpTo_44 (by decide) ?_
        exact ret_i F h (Nat.zero_le _) (Nat.zero_le _) dX2_numberUpTo_45 (⟨by rw [← hR, show e1 - k1 = (e1 - (k1 + 1)) + 1 by omega, nmS, if_pos b_41], rfl, rfl⟩)
    exact lp _ P _ (Nat.le_refl _) hPe (by unfold nmU; rw [if_neg b_11]) _ _ _ (Nat.le_refl _) h (lv_sub hl [2, 3, 1, 0] rfl)
  refine lv_iconst (v := (-1)) hx hb dX2_numberUpTo_14 (by decide) ?_
  exact ret_i F h (Nat.zero_le _) (Nat.zero_le _) dX2_numberUpTo_15 (⟨by unfold nmU; rw [if_pos b_11], rfl, rfl⟩)
theorem rnE {g : Gf} {c : Mp} {n K T : Nat} {S : Int32 × (Nat → Int32) × Nat} {v : Int32} {nu1 : Nat → Int32} {P1 : Nat} (hS : S = (v, nu1, P1)) : n = n ∧ v = S.1 ∧ va_up (va_up c 351 (iaA (g.2.1 0) 33 nu1)) 348 (otC g (nI T) (nI K) (nI P1)) = va_up (va_up c 351 (iaA (g.2.1 0) 33 S.2.1)) 348 (otC g (nI T) (nI K) (nI S.2.2)) := by
  subst hS; exact ⟨rfl, rfl, rfl⟩
def sq_X2_readNumber (tx : Nat → Int32) (T P K : Nat) (nu : Nat → Int32) (x : Int32) (j : Nat) : Int32 × (Nat → Int32) × Nat := if (inI (nmU tx P (enT tx T P)) (sq_X2_lowestNumber x) (sq_X2_highestNumber x)) = 0 then ((0, nu, P)) else ((1, upd nu (K * 3 + j) (nmU tx P (enT tx T P)), (enT tx T P)))
set_option maxHeartbeats 4000000 in
set_option maxRecDepth 100000 in
theorem k_X2_readNumber (l : Launch) (g : Gf) (n : Nat) (c : Mp) (T : Nat) (hT7 : T ≤ 70) (K P : Nat) (hPT : P ≤ T) (hO : c 348 = otC g (nI T) (nI K) (nI P)) (tx : Nat → Int32) (hOt : c 349 = some (.inl (g.2.1 2, 70, .inl tx))) (nu : Nat → Int32) (hOn : c 351 = iaA (g.2.1 0) 33 nu) (hK : K < 11) (x : Int32) (j : Nat) (hj : j < 3) : Ct l g yX2_readNumber wsX2_readNumber 2 45 0 0 [.ref (gz g + 348), .int x, .int (nI j)] n c (Qi g (fun xr n' c' => n' = n ∧ xr = (sq_X2_readNumber tx T P K nu x j).1 ∧ c' = va_up (va_up c 351 (iaA (g.2.1 0) 33 (sq_X2_readNumber tx T P K nu x j).2.1)) 348 (otC g (nI T) (nI K) (nI (sq_X2_readNumber tx T P K nu x j).2.2)))) := by
  refine ent (by decide) rfl (Nat.le_of_ble_eq_true rfl) ?_
  intro p e s m args below meth c0 F h ls hl
  have hx := F.1
  have hb := F.2.1
  have hl : lv_has ls 5 [(0, .ref (gz g + 348)), (1, .int x), (2, .int (nI j))] := hl
  have heb := enT_b tx hPT
  refine lv_aload_n hx hb dX2_readNumber_0 rfl (lv_at hl 0 rfl) ?_
  refine u_iE (v := nI (enT tx T P)) (ru_V (As := []) (rest := []) F h hO rfl (k_X2_tokenEnd l g n c T hT7 K P hPT hO tx hOt) (gV hjl wd_628 wd_629 wd_630 wd_57 wd_631) rfl 0 (by decide +kernel) rfl ⟨Nat.le_of_ble_eq_true rfl, Nat.le_of_ble_eq_true rfl⟩ rfl hl.1 (Nat.le_of_ble_eq_true rfl) ⟨Nat.zero_le _, Nat.zero_le _⟩ dX2_readNumber_1) h (fun H locs h => ?_)
  refine lv_istore_n (lv' := [(3, .int (nI (enT tx T P))), (0, .ref (gz g + 348)), (1, .int x), (2, .int (nI j))]) hx hb dX2_readNumber_4 rfl hl (by decide) rfl (fun ls hl => ?_)
  refine lv_aload_n hx hb dX2_readNumber_5 rfl (lv_at hl 1 rfl) ?_
  refine lv_iload_n hx hb dX2_readNumber_6 rfl (lv_at hl 0 rfl) ?_
  refine u_iE (v := (nmU tx P (enT tx T P))) (ru_V (As := [.int (nI (enT tx T P))]) (rest := []) F h hO rfl (k_X2_numberUpTo l g n c T hT7 K P hPT hO tx hOt (enT tx T P) heb.1 heb.2) (gV hjl wd_708 wd_709 wd_710 wd_57 wd_711) rfl 1 (by decide +kernel) rfl ⟨Nat.le_of_ble_eq_true rfl, Nat.le_of_ble_eq_true rfl⟩ rfl hl.1 (Nat.le_of_ble_eq_true rfl) ⟨Nat.zero_le _, Nat.zero_le _⟩ dX2_readNumber_7) h (fun H locs h => ?_)
  refine lv_istore (lv' := [(4, .int (nmU tx P (enT tx T P))), (3, .int (nI (enT tx T P))), (0, .ref (gz g + 348)), (1, .int x), (2, .int (nI j))]) hx hb dX2_readNumber_10 hl (by decide) rfl (fun ls hl => ?_)
  refine lv_iload hx hb dX2_readNumber_12 (lv_at hl 0 rfl) ?_
  refine lv_iload_n hx hb dX2_readNumber_14 rfl (lv_at hl 3 rfl) ?_
  refine u_iE (v := (sq_X2_lowestNumber x)) (ru_S (As := [.int x]) (rest := [.int (nmU tx P (enT tx T P))]) F h (k_X2_lowestNumber l g n c x) (gS hjl wd_713 wd_714 wd_57 wd_715) rfl 1 (by decide +kernel) rfl ⟨Nat.le_of_ble_eq_true rfl, Nat.le_of_ble_eq_true rfl⟩ rfl hl.1 (Nat.le_of_ble_eq_true rfl) ⟨Nat.zero_le _, Nat.zero_le _⟩ dX2_readNumber_15) h (fun H locs h => ?_)
  refine lv_iload_n hx hb dX2_readNumber_18 rfl (lv_at hl 3 rfl) ?_
  refine u_iE (v := (sq_X2_highestNumber x)) (ru_S (As := [.int x]) (rest := [.int (sq_X2_lowestNumber x), .int (nmU tx P (enT tx T P))]) F h (k_X2_highestNumber l g n c x) (gS hjl wd_716 wd_717 wd_57 wd_718) rfl 1 (by decide +kernel) rfl ⟨Nat.le_of_ble_eq_true rfl, Nat.le_of_ble_eq_true rfl⟩ rfl hl.1 (Nat.le_of_ble_eq_true rfl) ⟨Nat.zero_le _, Nat.zero_le _⟩ dX2_readNumber_19) h (fun H locs h => ?_)
  refine u_iE (v := (inI (nmU tx P (enT tx T P)) (sq_X2_lowestNumber x) (sq_X2_highestNumber x))) (ru_SN (As := [.int (nmU tx P (enT tx T P)), .int (sq_X2_lowestNumber x), .int (sq_X2_highestNumber x)]) (rest := []) F h (k_X7_isWithin l g n c (nmU tx P (enT tx T P)) (sq_X2_lowestNumber x) (sq_X2_highestNumber x)) (List.mem_of_getElem? (i := 0) rfl) (gG hjl wd_324) rfl (List.mem_cons_of_mem _ wd_51) (List.mem_cons_of_mem _ wd_323) 3 (by decide +kernel) rfl ⟨Nat.le_of_ble_eq_true rfl, Nat.le_of_ble_eq_true rfl⟩ rfl hl.1 (Nat.le_of_ble_eq_true rfl) ⟨Nat.zero_le _, Nat.zero_le _⟩ dX2_readNumber_22) h (fun H locs h => ?_)
  refine lv_if_ne (tgt := 30) hx hb dX2_readNumber_25 (by decide) (fun b_25 => ?_) (fun b_25 => ?_)
  · skip
    refine lv_aload_n hx hb dX2_readNumber_30 rfl (lv_at hl 2 rfl) ?_
    refine r_get F h (C := RX2) (T := TX2) (N := 6) (hjc hi_X2) rfl hO 3 (by decide) (List.mem_cons_of_mem _ wd_270) rfl dX2_readNumber_31 ?_
    refine lv_aload_n hx hb dX2_readNumber_34 rfl (lv_at hl 2 rfl) ?_
    refine r_get F h (C := RX2) (T := TX2) (N := 6) (hjc hi_X2) rfl hO 4 (by decide) (List.mem_cons_of_mem _ wd_271) rfl dX2_readNumber_35 ?_
    refine lv_iconst (v := 3) hx hb dX2_readNumber_38 (by decide) ?_
    refine lv_imul hx hb dX2_readNumber_39 ?_
    refine lv_iload_n hx hb dX2_readNumber_40 rfl (lv_at hl 4 rfl) ?_
    refine lv_iadd hx hb dX2_readNumber_41 ?_
    refine lv_iload hx hb dX2_readNumber_42 (lv_at hl 0 rfl) ?_
    refine r_iastN F h (k := K * 3 + j) (f' := upd nu (K * 3 + j) (nmU tx P (enT tx T P))) hOn (by simp only [fa_lit, pk_mul, nI_add]; first | done | (refine congrArg nI ?_; omega)) (by omega) (by decide) dX2_readNumber_44 (rfl) (fun H locs h => ?_)
    refine lv_aload_n hx hb dX2_readNumber_45 rfl (lv_at hl 2 rfl) ?_
    refine lv_iload_n hx hb dX2_readNumber_46 rfl (lv_at hl 1 rfl) ?_
    refine r_put F h (C := RX2) (T := TX2) (N := 6) (fs' := [.ref (gz g + 349), .int (nI T), .ref (gz g + 350), .ref (gz g + 351), .int (nI K), .int (nI (enT tx T P))]) (hjc hi_X2) tyX2 tyX2_ok nmX2 rfl ((mu_ne (by decide) _).trans hO) 5 (by decide) (List.mem_cons_of_mem _ wd_273) rfl (rfl) (rfl) (Nat.le_of_ble_eq_true rfl) rfl dX2_readNumber_47 (fun H locs h => ?_)
    refine lv_iconst (v := 1) hx hb dX2_readNumber_50 (by decide) ?_
    exact ret_z F h (by decide) (Nat.zero_le _) (Nat.zero_le _) dX2_readNumber_51 (rnE (show sq_X2_readNumber tx T P K nu x j = (1, upd nu (K * 3 + j) (nmU tx P (enT tx T P)), (enT tx T P)) by rw [sq_X2_readNumber, if_neg (c := (inI (nmU tx P (enT tx T P)) (sq_X2_lowestNumber x) (sq_X2_highestNumber x)) = 0) b_25]))
  refine lv_iconst (v := 0) hx hb dX2_readNumber_28 (by decide) ?_
  refine r_mem (c1 := (va_up c 351 (some (.inl (g.2.1 0, 33, .inl nu))))) h ((mu_self hOn).symm) (fun h => ?_)
  refine r_mem (c1 := (va_up (va_up c 351 (some (.inl (g.2.1 0, 33, .inl nu)))) 348 (some (.inr (2, [.ref (gz g + 349), .int (nI T), .ref (gz g + 350), .ref (gz g + 351), .int (nI K), .int (nI P)]))))) h ((mu_self ((mu_ne (by decide) _).trans hO)).symm) (fun h => ?_)
  exact ret_z F h (by decide) (Nat.zero_le _) (Nat.zero_le _) dX2_readNumber_29 (rnE (show sq_X2_readNumber tx T P K nu x j = (0, nu, P) by rw [sq_X2_readNumber, if_pos (c := (inI (nmU tx P (enT tx T P)) (sq_X2_lowestNumber x) (sq_X2_highestNumber x)) = 0) b_25]))
theorem readNumber_b {tx : Nat → Int32} {T P K : Nat} {nu : Nat → Int32} {x : Int32} {j : Nat} (hPT : P ≤ T) : P ≤ (sq_X2_readNumber tx T P K nu x j).2.2 ∧ (sq_X2_readNumber tx T P K nu x j).2.2 ≤ T := by
  have := enT_b tx hPT
  unfold sq_X2_readNumber
  split <;> simp only [] <;> omega
