/-! The reference: reading orders. -/
theorem nI_subN {a e : Nat} (h : a ≤ e) : nI e - nI a = nI (e - a) := by
  have q : nI (e - a) + nI a = nI e := by rw [nI_add, Nat.sub_add_cancel h]
  rw [← q, Int32.add_sub_cancel]
/-- where a word or number ends -/
def eoS (tx : Nat → Int32) : Nat → Nat → Nat
  | 0, a => a
  | k + 1, a => if tx a = 32 ∨ tx a = 59 then a else eoS tx k (a + 1)
def enT (tx : Nat → Int32) (T a : Nat) : Nat := eoS tx (T - a) a
theorem eoS_ge (tx : Nat → Int32) : ∀ (k a : Nat), a ≤ eoS tx k a ∧ eoS tx k a ≤ a + k
  | 0, a => ⟨Nat.le_refl _, Nat.le_refl _⟩
  | k + 1, a => by
    unfold eoS
    have := eoS_ge tx k (a + 1)
    split <;> omega
theorem enT_b (tx : Nat → Int32) {T a : Nat} (h : a ≤ T) : a ≤ enT tx T a ∧ enT tx T a ≤ T := by
  have := eoS_ge tx (T - a) a
  unfold enT
  omega
set_option maxHeartbeats 4000000 in
set_option maxRecDepth 100000 in
theorem k_X8_endOf (l : Launch) (g : Gf) (n : Nat) (c : Mp) (b : Nat) (kp rs : Int32) (T : Nat) (hT7 : T ≤ 70) (pl fa od : Int32) (hm : c b = moC g b kp rs (nI T) pl fa od) (tx : Nat → Int32) (hc6 : c (b + 6) = some (.inl (g.2.1 2, 70, .inl tx))) (a : Nat) (ha : a ≤ T) : Ct l g yX8_endOf wsX8_endOf 0 0 0 0 [.ref (gz g + b), .int (nI a)] n c (Qi g (fun xr n' c' => xr = nI (enT tx T a) ∧ n' = n ∧ c' = c)) := by
  refine ent (by decide) rfl (Nat.le_of_ble_eq_true rfl) ?_
  intro p e s m args below meth c0 F h ls hl
  have hx := F.1
  have hb := F.2.1
  have hl : lv_has ls 3 [(0, .ref (gz g + b)), (1, .int (nI a))] := hl
  refine lv_iload_n hx hb dX8_endOf_0 rfl (lv_at hl 1 rfl) ?_
  refine lv_istore_n (lv' := [(2, .int (nI a)), (0, .ref (gz g + b)), (1, .int (nI a))]) hx hb dX8_endOf_1 rfl hl (by decide) rfl (fun ls hl => ?_)
  have lp : ∀ (k : Nat) (k1 : Nat) (hk1 : k1 ≤ T) (hR : eoS tx (T - k1) k1 = enT tx T a) (H : Heap) (locs : List Loc) (ls : Array Slot), (T + 1 - k1) ≤ k → Hv g s H locs n c → lv_has ls 3 [(0, .ref (gz g + b)), (1, .int (nI a)), (2, .int (nI k1))] → W p l e (Rm 0 0 0 0) s m args below meth c0 H locs 0 0 (MQ below (Qi g (fun xr n' c' => xr = nI (enT tx T a) ∧ n' = n ∧ c' = c)) args s 0 0 (mAf g)) (F0 m 2 ls []) := by
    intro k
    induction k with
    | zero => intro k1 hk1 hR H locs ls hk h hl; exact absurd hk (by omega)
    | succ k ih =>
      intro k1 hk1 hR H locs ls hk h hl
      refine lv_iload_n hx hb dX8_endOf_2 rfl (lv_at hl 2 rfl) ?_
      refine lv_aload_n hx hb dX8_endOf_3 rfl (lv_at hl 0 rfl) ?_
      refine r_get F h (C := RX8) (T := TX8) (N := 13) (hjc hi_X8) rfl hm 7 (by decide) (List.mem_cons_of_mem _ wd_835) rfl dX8_endOf_4 ?_
      refine lv_icmp_ge (tgt := 38) hx hb dX8_endOf_7 (by decide) (fun b_7 => ?_) (fun b_7 => ?_)
      · skip
        refine lv_iload_n hx hb dX8_endOf_38 rfl (lv_at hl 2 rfl) ?_
        exact ret_i F h (Nat.zero_le _) (Nat.zero_le _) dX8_endOf_39 (⟨by rw [← hR, show T - k1 = 0 by have := lp_ge (N := T) rfl (by omega) (by omega) b_7; omega, eoS], rfl, rfl⟩)
      have hk4 : k1 < T := lp_lt (N := T) rfl (by omega) (by omega) b_7
      refine lv_aload_n hx hb dX8_endOf_10 rfl (lv_at hl 0 rfl) ?_
      refine r_get F h (C := RX8) (T := TX8) (N := 13) (hjc hi_X8) rfl hm 8 (by decide) (List.mem_cons_of_mem _ wd_836) rfl dX8_endOf_11 ?_
      refine lv_iload_n hx hb dX8_endOf_14 rfl (lv_at hl 2 rfl) ?_
      refine r_caldN F h (k := k1) hc6 (rfl) (by omega) (by decide) dX8_endOf_15 ?_
      refine lv_bipush (v := 32) hx hb dX8_endOf_16 (by decide) ?_
      refine lv_icmp_eq (tgt := 38) hx hb dX8_endOf_18 (by decide) (fun b_18 => ?_) (fun b_18 => ?_)
      · skip
        refine lv_iload_n hx hb dX8_endOf_38 rfl (lv_at hl 2 rfl) ?_
        exact ret_i F h (Nat.zero_le _) (Nat.zero_le _) dX8_endOf_39 (⟨by rw [← hR, show T - k1 = (T - (k1 + 1)) + 1 by omega, eoS, if_pos (Or.inl b_18)], rfl, rfl⟩)
      refine lv_aload_n hx hb dX8_endOf_21 rfl (lv_at hl 0 rfl) ?_
      refine r_get F h (C := RX8) (T := TX8) (N := 13) (hjc hi_X8) rfl hm 8 (by decide) (List.mem_cons_of_mem _ wd_836) rfl dX8_endOf_22 ?_
      refine lv_iload_n hx hb dX8_endOf_25 rfl (lv_at hl 2 rfl) ?_
      refine r_caldN F h (k := k1) hc6 (rfl) (by omega) (by decide) dX8_endOf_26 ?_
      refine lv_bipush (v := 59) hx hb dX8_endOf_27 (by decide) ?_
      refine lv_icmp_eq (tgt := 38) hx hb dX8_endOf_29 (by decide) (fun b_29 => ?_) (fun b_29 => ?_)
      · skip
        refine lv_iload_n hx hb dX8_endOf_38 rfl (lv_at hl 2 rfl) ?_
        exact ret_i F h (Nat.zero_le _) (Nat.zero_le _) dX8_endOf_39 (⟨by rw [← hR, show T - k1 = (T - (k1 + 1)) + 1 by omega, eoS, if_pos (Or.inr b_29)], rfl, rfl⟩)
      refine lv_iinc (v := nI (k1 + 1)) (lv' := [(2, .int (nI (k1 + 1))), (0, .ref (gz g + b)), (1, .int (nI a))]) hx hb dX8_endOf_32 hl (k := 2) rfl (by exact (nI_succ k1).symm) (by decide) rfl (fun ls hl => ?_)
      refine lv_goto (tgt := 2) hx hb dX8_endOf_35 (by decide) ?_
      exact ih (k1 + 1) (by omega) (by rw [← hR, show T - k1 = (T - (k1 + 1)) + 1 by omega, eoS, if_neg (fun z => z.elim b_18 b_29)]) _ _ _ (by omega) h (lv_sub hl [1, 2, 0] rfl)
  exact lp _ a ha rfl _ _ _ (Nat.le_refl _) h (lv_sub hl [1, 2, 0] rfl)
def sp_X8_stands (tx : Nat → Int32) (a e1 : Nat) (q1 q2 q3 q4 : Int32) : Int32 := if nI (e1 - a) < 4 then (0) else (if (tx a) = q1 then (if (tx (a + 1)) = q2 then (if (tx (a + 2)) = q3 then (if (tx (a + 3)) = q4 then (1) else (0)) else (0)) else (0)) else (0))
set_option maxHeartbeats 4000000 in
set_option maxRecDepth 100000 in
theorem k_X8_stands (l : Launch) (g : Gf) (n : Nat) (c : Mp) (b : Nat) (kp rs : Int32) (T : Nat) (hT7 : T ≤ 70) (pl fa od : Int32) (hm : c b = moC g b kp rs (nI T) pl fa od) (tx : Nat → Int32) (hc6 : c (b + 6) = some (.inl (g.2.1 2, 70, .inl tx))) (a e1 : Nat) (hae : a ≤ e1) (heT : e1 ≤ T) (q1 q2 q3 q4 : Int32) : Ct l g yX8_stands wsX8_stands 0 0 0 0 [.ref (gz g + b), .int (nI a), .int (nI e1), .int q1, .int q2, .int q3, .int q4] n c (Qi g (fun xr n' c' => xr = sp_X8_stands tx a e1 q1 q2 q3 q4 ∧ n' = n ∧ c' = c)) := by
  refine ent (by decide) rfl (Nat.le_of_ble_eq_true rfl) ?_
  intro p e s m args below meth c0 F h ls hl
  have hx := F.1
  have hb := F.2.1
  have hl : lv_has ls 7 [(0, .ref (gz g + b)), (1, .int (nI a)), (2, .int (nI e1)), (3, .int q1), (4, .int q2), (5, .int q3), (6, .int q4)] := hl
  refine lv_iload_n hx hb dX8_stands_0 rfl (lv_at hl 2 rfl) ?_
  refine lv_iload_n hx hb dX8_stands_1 rfl (lv_at hl 1 rfl) ?_
  refine lv_isub hx hb dX8_stands_2 ?_
  refine r_top (w := .int (nI (e1 - a))) (congrArg Value.int (nI_subN hae)) ?_
  refine lv_iconst (v := 4) hx hb dX8_stands_3 (by decide) ?_
  refine lv_icmp_lt (tgt := 60) hx hb dX8_stands_4 (by decide) (fun b_4 => ?_) (fun b_4 => ?_)
  · skip
    refine lv_iconst (v := 0) hx hb dX8_stands_60 (by decide) ?_
    exact ret_z F h (by decide) (Nat.zero_le _) (Nat.zero_le _) dX8_stands_61 (⟨((show sp_X8_stands tx a e1 q1 q2 q3 q4 = 0 by rw [sp_X8_stands, if_pos (c := nI (e1 - a) < 4) b_4])).symm, rfl, rfl⟩)
  have h44 : 4 ≤ e1 - a := by rcases Nat.lt_or_ge (e1 - a) 4 with q | q; exact absurd (nI_lt q (by decide)) b_4; exact q
  refine lv_aload_n hx hb dX8_stands_7 rfl (lv_at hl 0 rfl) ?_
  refine r_get F h (C := RX8) (T := TX8) (N := 13) (hjc hi_X8) rfl hm 8 (by decide) (List.mem_cons_of_mem _ wd_836) rfl dX8_stands_8 ?_
  refine lv_iload_n hx hb dX8_stands_11 rfl (lv_at hl 1 rfl) ?_
  refine r_caldN F h (k := a) hc6 (rfl) (by omega) (by decide) dX8_stands_12 ?_
  refine lv_iload_n hx hb dX8_stands_13 rfl (lv_at hl 3 rfl) ?_
  refine lv_icmp_ne (tgt := 60) hx hb dX8_stands_14 (by decide) (fun b_14 => ?_) (fun b_14 => ?_)
  · skip
    refine lv_iconst (v := 0) hx hb dX8_stands_60 (by decide) ?_
    exact ret_z F h (by decide) (Nat.zero_le _) (Nat.zero_le _) dX8_stands_61 (⟨((show sp_X8_stands tx a e1 q1 q2 q3 q4 = 0 by rw [sp_X8_stands, if_neg (c := nI (e1 - a) < 4) b_4, if_neg (c := (tx a) = q1) b_14])).symm, rfl, rfl⟩)
  refine lv_aload_n hx hb dX8_stands_17 rfl (lv_at hl 0 rfl) ?_
  refine r_get F h (C := RX8) (T := TX8) (N := 13) (hjc hi_X8) rfl hm 8 (by decide) (List.mem_cons_of_mem _ wd_836) rfl dX8_stands_18 ?_
  refine lv_iload_n hx hb dX8_stands_21 rfl (lv_at hl 1 rfl) ?_
  refine lv_iconst (v := 1) hx hb dX8_stands_22 (by decide) ?_
  refine lv_iadd hx hb dX8_stands_23 ?_
  refine r_caldN F h (k := a + 1) hc6 (by simp only [fa_lit, pk_mul, nI_add]; first | done | (refine congrArg nI ?_; omega)) (by omega) (by decide) dX8_stands_24 ?_
  refine lv_iload hx hb dX8_stands_25 (lv_at hl 4 rfl) ?_
  refine lv_icmp_ne (tgt := 60) hx hb dX8_stands_27 (by decide) (fun b_27 => ?_) (fun b_27 => ?_)
  · skip
    refine lv_iconst (v := 0) hx hb dX8_stands_60 (by decide) ?_
    exact ret_z F h (by decide) (Nat.zero_le _) (Nat.zero_le _) dX8_stands_61 (⟨((show sp_X8_stands tx a e1 q1 q2 q3 q4 = 0 by rw [sp_X8_stands, if_neg (c := nI (e1 - a) < 4) b_4, if_pos (c := (tx a) = q1) b_14, if_neg (c := (tx (a + 1)) = q2) b_27])).symm, rfl, rfl⟩)
  refine lv_aload_n hx hb dX8_stands_30 rfl (lv_at hl 0 rfl) ?_
  refine r_get F h (C := RX8) (T := TX8) (N := 13) (hjc hi_X8) rfl hm 8 (by decide) (List.mem_cons_of_mem _ wd_836) rfl dX8_stands_31 ?_
  refine lv_iload_n hx hb dX8_stands_34 rfl (lv_at hl 1 rfl) ?_
  refine lv_iconst (v := 2) hx hb dX8_stands_35 (by decide) ?_
  refine lv_iadd hx hb dX8_stands_36 ?_
  refine r_caldN F h (k := a + 2) hc6 (by simp only [fa_lit, pk_mul, nI_add]; first | done | (refine congrArg nI ?_; omega)) (by omega) (by decide) dX8_stands_37 ?_
  refine lv_iload hx hb dX8_stands_38 (lv_at hl 5 rfl) ?_
  refine lv_icmp_ne (tgt := 60) hx hb dX8_stands_40 (by decide) (fun b_40 => ?_) (fun b_40 => ?_)
  · skip
    refine lv_iconst (v := 0) hx hb dX8_stands_60 (by decide) ?_
    exact ret_z F h (by decide) (Nat.zero_le _) (Nat.zero_le _) dX8_stands_61 (⟨((show sp_X8_stands tx a e1 q1 q2 q3 q4 = 0 by rw [sp_X8_stands, if_neg (c := nI (e1 - a) < 4) b_4, if_pos (c := (tx a) = q1) b_14, if_pos (c := (tx (a + 1)) = q2) b_27, if_neg (c := (tx (a + 2)) = q3) b_40])).symm, rfl, rfl⟩)
  refine lv_aload_n hx hb dX8_stands_43 rfl (lv_at hl 0 rfl) ?_
  refine r_get F h (C := RX8) (T := TX8) (N := 13) (hjc hi_X8) rfl hm 8 (by decide) (List.mem_cons_of_mem _ wd_836) rfl dX8_stands_44 ?_
  refine lv_iload_n hx hb dX8_stands_47 rfl (lv_at hl 1 rfl) ?_
  refine lv_iconst (v := 3) hx hb dX8_stands_48 (by decide) ?_
  refine lv_iadd hx hb dX8_stands_49 ?_
  refine r_caldN F h (k := a + 3) hc6 (by simp only [fa_lit, pk_mul, nI_add]; first | done | (refine congrArg nI ?_; omega)) (by omega) (by decide) dX8_stands_50 ?_
  refine lv_iload hx hb dX8_stands_51 (lv_at hl 6 rfl) ?_
  refine lv_icmp_ne (tgt := 60) hx hb dX8_stands_53 (by decide) (fun b_53 => ?_) (fun b_53 => ?_)
  · skip
    refine lv_iconst (v := 0) hx hb dX8_stands_60 (by decide) ?_
    exact ret_z F h (by decide) (Nat.zero_le _) (Nat.zero_le _) dX8_stands_61 (⟨((show sp_X8_stands tx a e1 q1 q2 q3 q4 = 0 by rw [sp_X8_stands, if_neg (c := nI (e1 - a) < 4) b_4, if_pos (c := (tx a) = q1) b_14, if_pos (c := (tx (a + 1)) = q2) b_27, if_pos (c := (tx (a + 2)) = q3) b_40, if_neg (c := (tx (a + 3)) = q4) b_53])).symm, rfl, rfl⟩)
  refine lv_iconst (v := 1) hx hb dX8_stands_56 (by decide) ?_
  refine lv_goto (tgt := 61) hx hb dX8_stands_57 (by decide) ?_
  exact ret_z F h (by decide) (Nat.zero_le _) (Nat.zero_le _) dX8_stands_61 (⟨((show sp_X8_stands tx a e1 q1 q2 q3 q4 = 1 by rw [sp_X8_stands, if_neg (c := nI (e1 - a) < 4) b_4, if_pos (c := (tx a) = q1) b_14, if_pos (c := (tx (a + 1)) = q2) b_27, if_pos (c := (tx (a + 2)) = q3) b_40, if_pos (c := (tx (a + 3)) = q4) b_53])).symm, rfl, rfl⟩)
def sp_X8_word (tx : Nat → Int32) (a e1 : Nat) : Int32 := if nI (e1 - a) = 4 then (if (sp_X8_stands tx a e1 119 97 105 116) = 0 then (if (sp_X8_stands tx a e1 112 117 115 104) = 0 then (if (sp_X8_stands tx a e1 108 111 111 107) = 0 then (if (sp_X8_stands tx a e1 115 119 97 112) = 0 then ((-100005)) else (3)) else (2)) else (1)) else (0)) else (if nI (e1 - a) = 6 then (if (sp_X8_stands tx a e1 111 114 105 101) = 0 then ((-100005)) else (if (tx (a + 4)) = 110 then (if (tx (a + 5)) = 116 then (4) else ((-100005))) else ((-100005)))) else ((-100005)))
set_option maxHeartbeats 4000000 in
set_option maxRecDepth 100000 in
theorem k_X8_word (l : Launch) (g : Gf) (n : Nat) (c : Mp) (b : Nat) (kp rs : Int32) (T : Nat) (hT7 : T ≤ 70) (pl fa od : Int32) (hm : c b = moC g b kp rs (nI T) pl fa od) (tx : Nat → Int32) (hc6 : c (b + 6) = some (.inl (g.2.1 2, 70, .inl tx))) (a e1 : Nat) (hae : a ≤ e1) (heT : e1 ≤ T) : Ct l g yX8_word wsX8_word 1 26 0 0 [.ref (gz g + b), .int (nI a), .int (nI e1)] n c (Qi g (fun xr n' c' => xr = sp_X8_word tx a e1 ∧ n' = n ∧ c' = c)) := by
  refine ent (by decide) rfl (Nat.le_of_ble_eq_true rfl) ?_
  intro p e s m args below meth c0 F h ls hl
  have hx := F.1
  have hb := F.2.1
  have hl : lv_has ls 3 [(0, .ref (gz g + b)), (1, .int (nI a)), (2, .int (nI e1))] := hl
  refine lv_iload_n hx hb dX8_word_0 rfl (lv_at hl 2 rfl) ?_
  refine lv_iload_n hx hb dX8_word_1 rfl (lv_at hl 1 rfl) ?_
  refine lv_isub hx hb dX8_word_2 ?_
  refine r_top (w := .int (nI (e1 - a))) (congrArg Value.int (nI_subN hae)) ?_
  refine lv_iconst (v := 4) hx hb dX8_word_3 (by decide) ?_
  refine lv_icmp_ne (tgt := 94) hx hb dX8_word_4 (by decide) (fun b_4 => ?_) (fun b_4 => ?_)
  · skip
    refine lv_iload_n hx hb dX8_word_94 rfl (lv_at hl 2 rfl) ?_
    refine lv_iload_n hx hb dX8_word_95 rfl (lv_at hl 1 rfl) ?_
    refine lv_isub hx hb dX8_word_96 ?_
    refine r_top (w := .int (nI (e1 - a))) (congrArg Value.int (nI_subN hae)) ?_
    refine lv_bipush (v := 6) hx hb dX8_word_97 (by decide) ?_
    refine lv_icmp_ne (tgt := 149) hx hb dX8_word_99 (by decide) (fun b_99 => ?_) (fun b_99 => ?_)
    · skip
      refine lv_ldc (v := (-100005)) hx hb F.2.2.2.1 (F.2.2.2.2.1 (Cond.constant RX8 44 (-100005)) (List.mem_cons_of_mem _ wd_872)) dX8_word_149 ?_
      exact ret_i F h (Nat.zero_le _) (Nat.zero_le _) dX8_word_151 (⟨((show sp_X8_word tx a e1 = (-100005) by rw [sp_X8_word, if_neg (c := nI (e1 - a) = 4) b_4, if_neg (c := nI (e1 - a) = 6) b_99])).symm, rfl, rfl⟩)
    have h66 : e1 - a = 6 := by have z : nI (e1 - a) = nI 6 := b_99; exact (nI_eq (by omega) (by decide)).mp z
    refine lv_aload_n hx hb dX8_word_102 rfl (lv_at hl 0 rfl) ?_
    refine lv_iload_n hx hb dX8_word_103 rfl (lv_at hl 1 rfl) ?_
    refine lv_iload_n hx hb dX8_word_104 rfl (lv_at hl 2 rfl) ?_
    refine lv_bipush (v := 111) hx hb dX8_word_105 (by decide) ?_
    refine lv_bipush (v := 114) hx hb dX8_word_107 (by decide) ?_
    refine lv_bipush (v := 105) hx hb dX8_word_109 (by decide) ?_
    refine lv_bipush (v := 101) hx hb dX8_word_111 (by decide) ?_
    refine u_iE (v := (sp_X8_stands tx a e1 111 114 105 101)) (ru_V (As := [.int (nI a), .int (nI e1), .int 111, .int 114, .int 105, .int 101]) (rest := []) F h hm rfl (k_X8_stands l g n c b kp rs T hT7 pl fa od hm tx hc6 a e1 hae heT 111 114 105 101) (gV hjl wd_1109 wd_1111 wd_44 wd_58 wd_1112) rfl 6 (by decide +kernel) rfl ⟨Nat.le_of_ble_eq_true rfl, Nat.le_of_ble_eq_true rfl⟩ rfl hl.1 (Nat.le_of_ble_eq_true rfl) ⟨Nat.zero_le _, Nat.zero_le _⟩ dX8_word_113) h (fun H locs h => ?_)
    refine lv_if_eq (tgt := 149) hx hb dX8_word_116 (by decide) (fun b_116 => ?_) (fun b_116 => ?_)
    · skip
      refine lv_ldc (v := (-100005)) hx hb F.2.2.2.1 (F.2.2.2.2.1 (Cond.constant RX8 44 (-100005)) (List.mem_cons_of_mem _ wd_872)) dX8_word_149 ?_
      exact ret_i F h (Nat.zero_le _) (Nat.zero_le _) dX8_word_151 (⟨((show sp_X8_word tx a e1 = (-100005) by rw [sp_X8_word, if_neg (c := nI (e1 - a) = 4) b_4, if_pos (c := nI (e1 - a) = 6) b_99, if_pos (c := (sp_X8_stands tx a e1 111 114 105 101) = 0) b_116])).symm, rfl, rfl⟩)
    refine lv_aload_n hx hb dX8_word_119 rfl (lv_at hl 0 rfl) ?_
    refine r_get F h (C := RX8) (T := TX8) (N := 13) (hjc hi_X8) rfl hm 8 (by decide) (List.mem_cons_of_mem _ wd_836) rfl dX8_word_120 ?_
    refine lv_iload_n hx hb dX8_word_123 rfl (lv_at hl 1 rfl) ?_
    refine lv_iconst (v := 4) hx hb dX8_word_124 (by decide) ?_
    refine lv_iadd hx hb dX8_word_125 ?_
    refine r_caldN F h (k := a + 4) hc6 (by simp only [fa_lit, pk_mul, nI_add]; first | done | (refine congrArg nI ?_; omega)) (by omega) (by decide) dX8_word_126 ?_
    refine lv_bipush (v := 110) hx hb dX8_word_127 (by decide) ?_
    refine lv_icmp_ne (tgt := 149) hx hb dX8_word_129 (by decide) (fun b_129 => ?_) (fun b_129 => ?_)
    · skip
      refine lv_ldc (v := (-100005)) hx hb F.2.2.2.1 (F.2.2.2.2.1 (Cond.constant RX8 44 (-100005)) (List.mem_cons_of_mem _ wd_872)) dX8_word_149 ?_
      exact ret_i F h (Nat.zero_le _) (Nat.zero_le _) dX8_word_151 (⟨((show sp_X8_word tx a e1 = (-100005) by rw [sp_X8_word, if_neg (c := nI (e1 - a) = 4) b_4, if_pos (c := nI (e1 - a) = 6) b_99, if_neg (c := (sp_X8_stands tx a e1 111 114 105 101) = 0) b_116, if_neg (c := (tx (a + 4)) = 110) b_129])).symm, rfl, rfl⟩)
    refine lv_aload_n hx hb dX8_word_132 rfl (lv_at hl 0 rfl) ?_
    refine r_get F h (C := RX8) (T := TX8) (N := 13) (hjc hi_X8) rfl hm 8 (by decide) (List.mem_cons_of_mem _ wd_836) rfl dX8_word_133 ?_
    refine lv_iload_n hx hb dX8_word_136 rfl (lv_at hl 1 rfl) ?_
    refine lv_iconst (v := 5) hx hb dX8_word_137 (by decide) ?_
    refine lv_iadd hx hb dX8_word_138 ?_
    refine r_caldN F h (k := a + 5) hc6 (by simp only [fa_lit, pk_mul, nI_add]; first | done | (refine congrArg nI ?_; omega)) (by omega) (by decide) dX8_word_139 ?_
    refine lv_bipush (v := 116) hx hb dX8_word_140 (by decide) ?_
    refine lv_icmp_ne (tgt := 149) hx hb dX8_word_142 (by decide) (fun b_142 => ?_) (fun b_142 => ?_)
    · skip
      refine lv_ldc (v := (-100005)) hx hb F.2.2.2.1 (F.2.2.2.2.1 (Cond.constant RX8 44 (-100005)) (List.mem_cons_of_mem _ wd_872)) dX8_word_149 ?_
      exact ret_i F h (Nat.zero_le _) (Nat.zero_le _) dX8_word_151 (⟨((show sp_X8_word tx a e1 = (-100005) by rw [sp_X8_word, if_neg (c := nI (e1 - a) = 4) b_4, if_pos (c := nI (e1 - a) = 6) b_99, if_neg (c := (sp_X8_stands tx a e1 111 114 105 101) = 0) b_116, if_pos (c := (tx (a + 4)) = 110) b_129, if_neg (c := (tx (a + 5)) = 116) b_142])).symm, rfl, rfl⟩)
    refine lv_iconst (v := 4) hx hb dX8_word_145 (by decide) ?_
    refine lv_goto (tgt := 151) hx hb dX8_word_146 (by decide) ?_
    exact ret_i F h (Nat.zero_le _) (Nat.zero_le _) dX8_word_151 (⟨((show sp_X8_word tx a e1 = 4 by rw [sp_X8_word, if_neg (c := nI (e1 - a) = 4) b_4, if_pos (c := nI (e1 - a) = 6) b_99, if_neg (c := (sp_X8_stands tx a e1 111 114 105 101) = 0) b_116, if_pos (c := (tx (a + 4)) = 110) b_129, if_pos (c := (tx (a + 5)) = 116) b_142])).symm, rfl, rfl⟩)
  refine lv_aload_n hx hb dX8_word_7 rfl (lv_at hl 0 rfl) ?_
  refine lv_iload_n hx hb dX8_word_8 rfl (lv_at hl 1 rfl) ?_
  refine lv_iload_n hx hb dX8_word_9 rfl (lv_at hl 2 rfl) ?_
  refine lv_bipush (v := 119) hx hb dX8_word_10 (by decide) ?_
  refine lv_bipush (v := 97) hx hb dX8_word_12 (by decide) ?_
  refine lv_bipush (v := 105) hx hb dX8_word_14 (by decide) ?_
  refine lv_bipush (v := 116) hx hb dX8_word_16 (by decide) ?_
  refine u_iE (v := (sp_X8_stands tx a e1 119 97 105 116)) (ru_V (As := [.int (nI a), .int (nI e1), .int 119, .int 97, .int 105, .int 116]) (rest := []) F h hm rfl (k_X8_stands l g n c b kp rs T hT7 pl fa od hm tx hc6 a e1 hae heT 119 97 105 116) (gV hjl wd_1109 wd_1111 wd_44 wd_58 wd_1112) rfl 6 (by decide +kernel) rfl ⟨Nat.le_of_ble_eq_true rfl, Nat.le_of_ble_eq_true rfl⟩ rfl hl.1 (Nat.le_of_ble_eq_true rfl) ⟨Nat.zero_le _, Nat.zero_le _⟩ dX8_word_18) h (fun H locs h => ?_)
  refine lv_if_eq (tgt := 28) hx hb dX8_word_21 (by decide) (fun b_21 => ?_) (fun b_21 => ?_)
  · skip
    refine lv_aload_n hx hb dX8_word_28 rfl (lv_at hl 0 rfl) ?_
    refine lv_iload_n hx hb dX8_word_29 rfl (lv_at hl 1 rfl) ?_
    refine lv_iload_n hx hb dX8_word_30 rfl (lv_at hl 2 rfl) ?_
    refine lv_bipush (v := 112) hx hb dX8_word_31 (by decide) ?_
    refine lv_bipush (v := 117) hx hb dX8_word_33 (by decide) ?_
    refine lv_bipush (v := 115) hx hb dX8_word_35 (by decide) ?_
    refine lv_bipush (v := 104) hx hb dX8_word_37 (by decide) ?_
    refine u_iE (v := (sp_X8_stands tx a e1 112 117 115 104)) (ru_V (As := [.int (nI a), .int (nI e1), .int 112, .int 117, .int 115, .int 104]) (rest := []) F h hm rfl (k_X8_stands l g n c b kp rs T hT7 pl fa od hm tx hc6 a e1 hae heT 112 117 115 104) (gV hjl wd_1109 wd_1111 wd_44 wd_58 wd_1112) rfl 6 (by decide +kernel) rfl ⟨Nat.le_of_ble_eq_true rfl, Nat.le_of_ble_eq_true rfl⟩ rfl hl.1 (Nat.le_of_ble_eq_true rfl) ⟨Nat.zero_le _, Nat.zero_le _⟩ dX8_word_39) h (fun H locs h => ?_)
    refine lv_if_eq (tgt := 49) hx hb dX8_word_42 (by decide) (fun b_42 => ?_) (fun b_42 => ?_)
    · skip
      refine lv_aload_n hx hb dX8_word_49 rfl (lv_at hl 0 rfl) ?_
      refine lv_iload_n hx hb dX8_word_50 rfl (lv_at hl 1 rfl) ?_
      refine lv_iload_n hx hb dX8_word_51 rfl (lv_at hl 2 rfl) ?_
      refine lv_bipush (v := 108) hx hb dX8_word_52 (by decide) ?_
      refine lv_bipush (v := 111) hx hb dX8_word_54 (by decide) ?_
      refine lv_bipush (v := 111) hx hb dX8_word_56 (by decide) ?_
      refine lv_bipush (v := 107) hx hb dX8_word_58 (by decide) ?_
      refine u_iE (v := (sp_X8_stands tx a e1 108 111 111 107)) (ru_V (As := [.int (nI a), .int (nI e1), .int 108, .int 111, .int 111, .int 107]) (rest := []) F h hm rfl (k_X8_stands l g n c b kp rs T hT7 pl fa od hm tx hc6 a e1 hae heT 108 111 111 107) (gV hjl wd_1109 wd_1111 wd_44 wd_58 wd_1112) rfl 6 (by decide +kernel) rfl ⟨Nat.le_of_ble_eq_true rfl, Nat.le_of_ble_eq_true rfl⟩ rfl hl.1 (Nat.le_of_ble_eq_true rfl) ⟨Nat.zero_le _, Nat.zero_le _⟩ dX8_word_60) h (fun H locs h => ?_)
      refine lv_if_eq (tgt := 70) hx hb dX8_word_63 (by decide) (fun b_63 => ?_) (fun b_63 => ?_)
      · skip
        refine lv_aload_n hx hb dX8_word_70 rfl (lv_at hl 0 rfl) ?_
        refine lv_iload_n hx hb dX8_word_71 rfl (lv_at hl 1 rfl) ?_
        refine lv_iload_n hx hb dX8_word_72 rfl (lv_at hl 2 rfl) ?_
        refine lv_bipush (v := 115) hx hb dX8_word_73 (by decide) ?_
        refine lv_bipush (v := 119) hx hb dX8_word_75 (by decide) ?_
        refine lv_bipush (v := 97) hx hb dX8_word_77 (by decide) ?_
        refine lv_bipush (v := 112) hx hb dX8_word_79 (by decide) ?_
        refine u_iE (v := (sp_X8_stands tx a e1 115 119 97 112)) (ru_V (As := [.int (nI a), .int (nI e1), .int 115, .int 119, .int 97, .int 112]) (rest := []) F h hm rfl (k_X8_stands l g n c b kp rs T hT7 pl fa od hm tx hc6 a e1 hae heT 115 119 97 112) (gV hjl wd_1109 wd_1111 wd_44 wd_58 wd_1112) rfl 6 (by decide +kernel) rfl ⟨Nat.le_of_ble_eq_true rfl, Nat.le_of_ble_eq_true rfl⟩ rfl hl.1 (Nat.le_of_ble_eq_true rfl) ⟨Nat.zero_le _, Nat.zero_le _⟩ dX8_word_81) h (fun H locs h => ?_)
        refine lv_if_eq (tgt := 91) hx hb dX8_word_84 (by decide) (fun b_84 => ?_) (fun b_84 => ?_)
        · skip
          refine lv_ldc (v := (-100005)) hx hb F.2.2.2.1 (F.2.2.2.2.1 (Cond.constant RX8 44 (-100005)) (List.mem_cons_of_mem _ wd_872)) dX8_word_91 ?_
          exact ret_i F h (Nat.zero_le _) (Nat.zero_le _) dX8_word_93 (⟨((show sp_X8_word tx a e1 = (-100005) by rw [sp_X8_word, if_pos (c := nI (e1 - a) = 4) b_4, if_pos (c := (sp_X8_stands tx a e1 119 97 105 116) = 0) b_21, if_pos (c := (sp_X8_stands tx a e1 112 117 115 104) = 0) b_42, if_pos (c := (sp_X8_stands tx a e1 108 111 111 107) = 0) b_63, if_pos (c := (sp_X8_stands tx a e1 115 119 97 112) = 0) b_84])).symm, rfl, rfl⟩)
        refine lv_iconst (v := 3) hx hb dX8_word_87 (by decide) ?_
        refine lv_goto (tgt := 93) hx hb dX8_word_88 (by decide) ?_
        exact ret_i F h (Nat.zero_le _) (Nat.zero_le _) dX8_word_93 (⟨((show sp_X8_word tx a e1 = 3 by rw [sp_X8_word, if_pos (c := nI (e1 - a) = 4) b_4, if_pos (c := (sp_X8_stands tx a e1 119 97 105 116) = 0) b_21, if_pos (c := (sp_X8_stands tx a e1 112 117 115 104) = 0) b_42, if_pos (c := (sp_X8_stands tx a e1 108 111 111 107) = 0) b_63, if_neg (c := (sp_X8_stands tx a e1 115 119 97 112) = 0) b_84])).symm, rfl, rfl⟩)
      refine lv_iconst (v := 2) hx hb dX8_word_66 (by decide) ?_
      refine lv_goto (tgt := 93) hx hb dX8_word_67 (by decide) ?_
      exact ret_i F h (Nat.zero_le _) (Nat.zero_le _) dX8_word_93 (⟨((show sp_X8_word tx a e1 = 2 by rw [sp_X8_word, if_pos (c := nI (e1 - a) = 4) b_4, if_pos (c := (sp_X8_stands tx a e1 119 97 105 116) = 0) b_21, if_pos (c := (sp_X8_stands tx a e1 112 117 115 104) = 0) b_42, if_neg (c := (sp_X8_stands tx a e1 108 111 111 107) = 0) b_63])).symm, rfl, rfl⟩)
    refine lv_iconst (v := 1) hx hb dX8_word_45 (by decide) ?_
    refine lv_goto (tgt := 93) hx hb dX8_word_46 (by decide) ?_
    exact ret_i F h (Nat.zero_le _) (Nat.zero_le _) dX8_word_93 (⟨((show sp_X8_word tx a e1 = 1 by rw [sp_X8_word, if_pos (c := nI (e1 - a) = 4) b_4, if_pos (c := (sp_X8_stands tx a e1 119 97 105 116) = 0) b_21, if_neg (c := (sp_X8_stands tx a e1 112 117 115 104) = 0) b_42])).symm, rfl, rfl⟩)
  refine lv_iconst (v := 0) hx hb dX8_word_24 (by decide) ?_
  refine lv_goto (tgt := 93) hx hb dX8_word_25 (by decide) ?_
  exact ret_i F h (Nat.zero_le _) (Nat.zero_le _) dX8_word_93 (⟨((show sp_X8_word tx a e1 = 0 by rw [sp_X8_word, if_pos (c := nI (e1 - a) = 4) b_4, if_neg (c := (sp_X8_stands tx a e1 119 97 105 116) = 0) b_21])).symm, rfl, rfl⟩)
set_option maxHeartbeats 4000000 in
set_option maxRecDepth 100000 in
theorem k_X8_fail (l : Launch) (g : Gf) (n : Nat) (c : Mp) (b : Nat) (kp rs ty pl fa od : Int32) (hm : c b = moC g b kp rs ty pl fa od) (y : Int32) : Ct l g yX8_fail wsX8_fail 0 0 0 0 [.ref (gz g + b), .int y] n c (Qv g (fun n' c' => n' = n ∧ c' = va_up c b (moC g b kp rs ty pl (if 0 ≤ fa then fa else y) od))) := by
  refine ent (by decide) rfl (Nat.le_of_ble_eq_true rfl) ?_
  intro p e s m args below meth c0 F h ls hl
  have hx := F.1
  have hb := F.2.1
  have hl : lv_has ls 2 [(0, .ref (gz g + b)), (1, .int y)] := hl
  refine lv_aload_n hx hb dX8_fail_0 rfl (lv_at hl 0 rfl) ?_
  refine lv_aload_n hx hb dX8_fail_1 rfl (lv_at hl 0 rfl) ?_
  refine r_get F h (C := RX8) (T := TX8) (N := 13) (hjc hi_X8) rfl hm 10 (by decide) (List.mem_cons_of_mem _ wd_838) rfl dX8_fail_2 ?_
  refine lv_if_ge (tgt := 12) hx hb dX8_fail_5 (by decide) (fun b_5 => ?_) (fun b_5 => ?_)
  · skip
    refine lv_aload_n hx hb dX8_fail_12 rfl (lv_at hl 0 rfl) ?_
    refine r_get F h (C := RX8) (T := TX8) (N := 13) (hjc hi_X8) rfl hm 10 (by decide) (List.mem_cons_of_mem _ wd_838) rfl dX8_fail_13 ?_
    refine r_put F h (C := RX8) (T := TX8) (N := 13) (fs' := [.ref (gz g + (b + 1)), .ref (gz g + (b + 2)), .ref (gz g + (b + 3)), .int kp, .ref (gz g + (b + 4)), .ref (gz g + (b + 5)), .int rs, .int ty, .ref (gz g + (b + 6)), .int pl, .int fa, .int od, .ref (gz g + (b + 7))]) (hjc hi_X8) tyX8 tyX8_ok nmX8 rfl hm 10 (by decide) (List.mem_cons_of_mem _ wd_838) rfl (rfl) (rfl) (Nat.le_of_ble_eq_true rfl) rfl dX8_fail_16 (fun H locs h => ?_)
    exact ret_v F h (Nat.zero_le _) (Nat.zero_le _) dX8_fail_19 (⟨rfl, by rw [if_pos b_5]⟩)
  refine lv_iload_n hx hb dX8_fail_8 rfl (lv_at hl 1 rfl) ?_
  refine lv_goto (tgt := 16) hx hb dX8_fail_9 (by decide) ?_
  refine r_put F h (C := RX8) (T := TX8) (N := 13) (fs' := [.ref (gz g + (b + 1)), .ref (gz g + (b + 2)), .ref (gz g + (b + 3)), .int kp, .ref (gz g + (b + 4)), .ref (gz g + (b + 5)), .int rs, .int ty, .ref (gz g + (b + 6)), .int pl, .int y, .int od, .ref (gz g + (b + 7))]) (hjc hi_X8) tyX8 tyX8_ok nmX8 rfl hm 10 (by decide) (List.mem_cons_of_mem _ wd_838) rfl (rfl) (rfl) (Nat.le_of_ble_eq_true rfl) rfl dX8_fail_16 (fun H locs h => ?_)
  exact ret_v F h (Nat.zero_le _) (Nat.zero_le _) dX8_fail_19 (⟨rfl, by rw [if_neg b_5]⟩)
/-- the digits of a number: whether they are digits, and the number -/
def nuS (tx : Nat → Int32) : Nat → Nat → Int32 → Int32 → Int32 × Int32
  | 0, _, z, v => (z, v)
  | k + 1, a, z, v => if z = 0 then (z, v) else nuS tx k (a + 1) (if 48 ≤ tx a ∧ tx a ≤ 57 then 1 else 0) (10 * v + tx a - 48)
def nuD (tx : Nat → Int32) (P e : Nat) : Int32 × Int32 := nuS tx (e - (P + 1)) (P + 1) (inI (nI (e - (P + 1))) 1 3) 0
theorem nuE {g : Gf} {c : Mp} {b n : Nat} {kp rs ty od : Int32} {S : Int32 × Nat × Int32} {v : Int32} {P1 : Nat} {fa1 : Int32} (hS : S = (v, P1, fa1)) : n = n ∧ v = S.1 ∧ va_up c b (moC g b kp rs ty (nI P1) fa1 od) = va_up c b (moC g b kp rs ty (nI S.2.1) S.2.2 od) := by
  subst hS; exact ⟨rfl, rfl, rfl⟩
def sp_X8_number (tx : Nat → Int32) (T P : Nat) (fa lo hi : Int32) : Int32 × Nat × Int32 := if fa < 0 then (if nI T ≤ nI P then ((0, P, (if 0 ≤ fa then fa else nI P))) else (if (tx P) = 32 then (if (nuD tx P (enT tx T (P + 1))).1 = 0 then (((nuD tx P (enT tx T (P + 1))).2, (enT tx T (P + 1)), (if 0 ≤ fa then fa else nI (P + 1)))) else (if (inI ((nuD tx P (enT tx T (P + 1))).2) lo hi) = 0 then (((nuD tx P (enT tx T (P + 1))).2, (enT tx T (P + 1)), (if 0 ≤ fa then fa else nI (P + 1)))) else (((nuD tx P (enT tx T (P + 1))).2, (enT tx T (P + 1)), fa)))) else ((0, P, (if 0 ≤ fa then fa else nI P))))) else ((0, P, fa))
set_option maxHeartbeats 4000000 in
set_option maxRecDepth 100000 in
theorem k_X8_number (l : Launch) (g : Gf) (n : Nat) (c : Mp) (b : Nat) (kp rs : Int32) (T : Nat) (hT7 : T ≤ 70) (P : Nat) (hPT : P ≤ T) (fa od : Int32) (hm : c b = moC g b kp rs (nI T) (nI P) fa od) (tx : Nat → Int32) (hc6 : c (b + 6) = some (.inl (g.2.1 2, 70, .inl tx))) (lo hi : Int32) : Ct l g yX8_number wsX8_number 1 22 0 0 [.ref (gz g + b), .int lo, .int hi] n c (Qi g (fun xr n' c' => n' = n ∧ xr = (sp_X8_number tx T P fa lo hi).1 ∧ c' = va_up c b (moC g b kp rs (nI T) (nI (sp_X8_number tx T P fa lo hi).2.1) (sp_X8_number tx T P fa lo hi).2.2 od))) := by
  refine ent (by decide) rfl (Nat.le_of_ble_eq_true rfl) ?_
  intro p e s m args below meth c0 F h ls hl
  have hx := F.1
  have hb := F.2.1
  have hl : lv_has ls 8 [(0, .ref (gz g + b)), (1, .int lo), (2, .int hi)] := hl
  refine lv_aload_n hx hb dX8_number_0 rfl (lv_at hl 0 rfl) ?_
  refine r_get F h (C := RX8) (T := TX8) (N := 13) (hjc hi_X8) rfl hm 10 (by decide) (List.mem_cons_of_mem _ wd_838) rfl dX8_number_1 ?_
  refine lv_if_lt (tgt := 9) hx hb dX8_number_4 (by decide) (fun b_4 => ?_) (fun b_4 => ?_)
  · skip
    refine lv_aload_n hx hb dX8_number_9 rfl (lv_at hl 0 rfl) ?_
    refine r_get F h (C := RX8) (T := TX8) (N := 13) (hjc hi_X8) rfl hm 9 (by decide) (List.mem_cons_of_mem _ wd_837) rfl dX8_number_10 ?_
    refine lv_aload_n hx hb dX8_number_13 rfl (lv_at hl 0 rfl) ?_
    refine r_get F h (C := RX8) (T := TX8) (N := 13) (hjc hi_X8) rfl hm 7 (by decide) (List.mem_cons_of_mem _ wd_835) rfl dX8_number_14 ?_
    refine lv_icmp_ge (tgt := 34) hx hb dX8_number_17 (by decide) (fun b_17 => ?_) (fun b_17 => ?_)
    · skip
      refine lv_aload_n hx hb dX8_number_34 rfl (lv_at hl 0 rfl) ?_
      refine lv_aload_n hx hb dX8_number_35 rfl (lv_at hl 0 rfl) ?_
      refine r_get F h (C := RX8) (T := TX8) (N := 13) (hjc hi_X8) rfl hm 9 (by decide) (List.mem_cons_of_mem _ wd_837) rfl dX8_number_36 ?_
      refine u_vE (ru_V (As := [.int (nI P)]) (rest := []) F h hm rfl (k_X8_fail l g n c b kp rs (nI T) (nI P) fa od hm (nI P)) (gV hjl wd_1113 wd_1115 wd_45 wd_58 wd_1116) rfl 1 (by decide +kernel) rfl ⟨Nat.le_of_ble_eq_true rfl, Nat.le_of_ble_eq_true rfl⟩ rfl hl.1 (Nat.le_of_ble_eq_true rfl) ⟨Nat.zero_le _, Nat.zero_le _⟩ dX8_number_39) h (fun H locs h => ?_)
      refine lv_iconst (v := 0) hx hb dX8_number_42 (by decide) ?_
      exact ret_i F h (Nat.zero_le _) (Nat.zero_le _) dX8_number_43 (nuE (show sp_X8_number tx T P fa lo hi = (0, P, (if 0 ≤ fa then fa else nI P)) by rw [sp_X8_number, if_pos (c := fa < 0) b_4, if_pos (c := nI T ≤ nI P) b_17]))
    have hPl : P < T := lp_lt (N := T) rfl (by omega) (by omega) b_17
    refine lv_aload_n hx hb dX8_number_20 rfl (lv_at hl 0 rfl) ?_
    refine r_get F h (C := RX8) (T := TX8) (N := 13) (hjc hi_X8) rfl hm 8 (by decide) (List.mem_cons_of_mem _ wd_836) rfl dX8_number_21 ?_
    refine lv_aload_n hx hb dX8_number_24 rfl (lv_at hl 0 rfl) ?_
    refine r_get F h (C := RX8) (T := TX8) (N := 13) (hjc hi_X8) rfl hm 9 (by decide) (List.mem_cons_of_mem _ wd_837) rfl dX8_number_25 ?_
    refine r_caldN F h (k := P) hc6 (rfl) (by omega) (by decide) dX8_number_28 ?_
    refine lv_bipush (v := 32) hx hb dX8_number_29 (by decide) ?_
    refine lv_icmp_eq (tgt := 44) hx hb dX8_number_31 (by decide) (fun b_31 => ?_) (fun b_31 => ?_)
    · skip
      refine lv_aload_n hx hb dX8_number_44 rfl (lv_at hl 0 rfl) ?_
      refine r_get F h (C := RX8) (T := TX8) (N := 13) (hjc hi_X8) rfl hm 9 (by decide) (List.mem_cons_of_mem _ wd_837) rfl dX8_number_45 ?_
      refine lv_iconst (v := 1) hx hb dX8_number_48 (by decide) ?_
      refine lv_iadd hx hb dX8_number_49 ?_
      refine r_top (w := .int (nI (P + 1))) (congrArg Value.int (nI_succ P).symm) ?_
      refine lv_istore_n (lv' := [(3, .int (nI (P + 1))), (0, .ref (gz g + b)), (1, .int lo), (2, .int hi)]) hx hb dX8_number_50 rfl hl (by decide) rfl (fun ls hl => ?_)
      refine lv_aload_n hx hb dX8_number_51 rfl (lv_at hl 1 rfl) ?_
      refine lv_iload_n hx hb dX8_number_52 rfl (lv_at hl 0 rfl) ?_
      refine u_iE (v := nI (enT tx T (P + 1))) (ru_V (As := [.int (nI (P + 1))]) (rest := []) F h hm rfl (k_X8_endOf l g n c b kp rs T hT7 (nI P) fa od hm tx hc6 (P + 1) (by omega)) (gV hjl wd_1101 wd_1103 wd_42 wd_58 wd_1104) rfl 1 (by decide +kernel) rfl ⟨Nat.le_of_ble_eq_true rfl, Nat.le_of_ble_eq_true rfl⟩ rfl hl.1 (Nat.le_of_ble_eq_true rfl) ⟨Nat.zero_le _, Nat.zero_le _⟩ dX8_number_53) h (fun H locs h => ?_)
      have heb := enT_b tx (show P + 1 ≤ T by omega)
      refine lv_istore (lv' := [(4, .int (nI (enT tx T (P + 1)))), (3, .int (nI (P + 1))), (0, .ref (gz g + b)), (1, .int lo), (2, .int hi)]) hx hb dX8_number_56 hl (by decide) rfl (fun ls hl => ?_)
      refine lv_iload hx hb dX8_number_58 (lv_at hl 0 rfl) ?_
      refine lv_iload_n hx hb dX8_number_60 rfl (lv_at hl 1 rfl) ?_
      refine lv_isub hx hb dX8_number_61 ?_
      refine r_top (w := .int (nI ((enT tx T (P + 1)) - (P + 1)))) (congrArg Value.int (nI_subN heb.1)) ?_
      refine lv_iconst (v := 1) hx hb dX8_number_62 (by decide) ?_
      refine lv_iconst (v := 3) hx hb dX8_number_63 (by decide) ?_
      refine u_iE (v := (inI (nI ((enT tx T (P + 1)) - (P + 1))) 1 3)) (ru_S (As := [.int (nI ((enT tx T (P + 1)) - (P + 1))), .int 1, .int 3]) (rest := []) F h (k_X8_in l g n c (nI ((enT tx T (P + 1)) - (P + 1))) 1 3) (gS hjl wd_877 wd_878 wd_58 wd_879) rfl 3 (by decide +kernel) rfl ⟨Nat.le_of_ble_eq_true rfl, Nat.le_of_ble_eq_true rfl⟩ rfl hl.1 (Nat.le_of_ble_eq_true rfl) ⟨Nat.zero_le _, Nat.zero_le _⟩ dX8_number_64) h (fun H locs h => ?_)
      refine lv_istore (lv' := [(5, .int (inI (nI ((enT tx T (P + 1)) - (P + 1))) 1 3)), (4, .int (nI (enT tx T (P + 1)))), (3, .int (nI (P + 1))), (0, .ref (gz g + b)), (1, .int lo), (2, .int hi)]) hx hb dX8_number_67 hl (by decide) rfl (fun ls hl => ?_)
      refine lv_iconst (v := 0) hx hb dX8_number_69 (by decide) ?_
      refine lv_istore (lv' := [(6, .int 0), (5, .int (inI (nI ((enT tx T (P + 1)) - (P + 1))) 1 3)), (4, .int (nI (enT tx T (P + 1)))), (3, .int (nI (P + 1))), (0, .ref (gz g + b)), (1, .int lo), (2, .int hi)]) hx hb dX8_number_70 hl (by decide) rfl (fun ls hl => ?_)
      refine lv_iload_n hx hb dX8_number_72 rfl (lv_at hl 3 rfl) ?_
      refine lv_istore (lv' := [(7, .int (nI (P + 1))), (6, .int 0), (5, .int (inI (nI ((enT tx T (P + 1)) - (P + 1))) 1 3)), (4, .int (nI (enT tx T (P + 1)))), (3, .int (nI (P + 1))), (0, .ref (gz g + b)), (1, .int lo), (2, .int hi)]) hx hb dX8_number_73 hl (by decide) rfl (fun ls hl => ?_)
      have lp : ∀ (k : Nat) (k1 : Nat) (zz v1 : Int32) (hk1 : P + 1 ≤ k1) (hk2 : k1 ≤ (enT tx T (P + 1))) (hR : nuS tx ((enT tx T (P + 1)) - k1) k1 zz v1 = (nuD tx P (enT tx T (P + 1)))) (H : Heap) (locs : List Loc) (ls : Array Slot), ((enT tx T (P + 1)) + 1 - k1) ≤ k → Hv g s H locs n c → lv_has ls 8 [(0, .ref (gz g + b)), (1, .int lo), (2, .int hi), (3, .int (nI (P + 1))), (4, .int (nI (enT tx T (P + 1)))), (5, .int zz), (6, .int v1), (7, .int (nI k1))] → W p l e (Rm 1 22 0 0) s m args below meth c0 H locs 0 0 (MQ below (Qi g (fun xr n' c' => n' = n ∧ xr = (sp_X8_number tx T P fa lo hi).1 ∧ c' = va_up c b (moC g b kp rs (nI T) (nI (sp_X8_number tx T P fa lo hi).2.1) (sp_X8_number tx T P fa lo hi).2.2 od))) args s 0 0 (mAf g)) (F0 m 75 ls []) := by
        intro k
        induction k with
        | zero => intro k1 zz v1 hk1 hk2 hR H locs ls hk h hl; exact absurd hk (by omega)
        | succ k ih =>
          intro k1 zz v1 hk1 hk2 hR H locs ls hk h hl
          refine lv_iload hx hb dX8_number_75 (lv_at hl 7 rfl) ?_
          refine lv_iload hx hb dX8_number_77 (lv_at hl 4 rfl) ?_
          refine lv_icmp_ge (tgt := 142) hx hb dX8_number_79 (by decide) (fun b_79 => ?_) (fun b_79 => ?_)
          · skip
            have hD : (nuD tx P (enT tx T (P + 1))) = (zz, v1) := hR.symm.trans (by rw [show (enT tx T (P + 1)) - k1 = 0 by have := lp_ge (N := (enT tx T (P + 1))) rfl (by omega) (by omega) b_79; omega]; rfl)
            have hl : lv_has ls 8 [(0, .ref (gz g + b)), (1, .int lo), (2, .int hi), (3, .int (nI (P + 1))), (4, .int (nI (enT tx T (P + 1)))), (5, .int ((nuD tx P (enT tx T (P + 1))).1)), (6, .int v1), (7, .int (nI k1))] := by rw [show ((nuD tx P (enT tx T (P + 1))).1 : Int32) = zz from congrArg Prod.fst hD]; exact hl
            have hl : lv_has ls 8 [(0, .ref (gz g + b)), (1, .int lo), (2, .int hi), (3, .int (nI (P + 1))), (4, .int (nI (enT tx T (P + 1)))), (5, .int ((nuD tx P (enT tx T (P + 1))).1)), (6, .int ((nuD tx P (enT tx T (P + 1))).2)), (7, .int (nI k1))] := by rw [show ((nuD tx P (enT tx T (P + 1))).2 : Int32) = v1 from congrArg Prod.snd hD]; exact hl
            refine lv_iload hx hb dX8_number_142 (lv_at hl 5 rfl) ?_
            refine lv_if_eq (tgt := 157) hx hb dX8_number_144 (by decide) (fun b_144 => ?_) (fun b_144 => ?_)
            · skip
              refine lv_aload_n hx hb dX8_number_157 rfl (lv_at hl 0 rfl) ?_
              refine lv_iload_n hx hb dX8_number_158 rfl (lv_at hl 3 rfl) ?_
              refine u_vE (ru_V (As := [.int (nI (P + 1))]) (rest := []) F h hm rfl (k_X8_fail l g n c b kp rs (nI T) (nI P) fa od hm (nI (P + 1))) (gV hjl wd_1113 wd_1115 wd_45 wd_58 wd_1116) rfl 1 (by decide +kernel) rfl ⟨Nat.le_of_ble_eq_true rfl, Nat.le_of_ble_eq_true rfl⟩ rfl hl.1 (Nat.le_of_ble_eq_true rfl) ⟨Nat.zero_le _, Nat.zero_le _⟩ dX8_number_159) h (fun H locs h => ?_)
              refine lv_aload_n hx hb dX8_number_162 rfl (lv_at hl 0 rfl) ?_
              refine lv_iload hx hb dX8_number_163 (lv_at hl 4 rfl) ?_
              refine r_put F h (C := RX8) (T := TX8) (N := 13) (fs' := [.ref (gz g + (b + 1)), .ref (gz g + (b + 2)), .ref (gz g + (b + 3)), .int kp, .ref (gz g + (b + 4)), .ref (gz g + (b + 5)), .int rs, .int (nI T), .ref (gz g + (b + 6)), .int (nI (enT tx T (P + 1))), .int (if 0 ≤ fa then fa else nI (P + 1)), .int od, .ref (gz g + (b + 7))]) (hjc hi_X8) tyX8 tyX8_ok nmX8 rfl (mu_eq _ _ _) 9 (by decide) (List.mem_cons_of_mem _ wd_837) rfl (rfl) (rfl) (Nat.le_of_ble_eq_true rfl) rfl dX8_number_165 (fun H locs h => ?_)
              refine r_mem (c1 := (va_up c b (some (.inr (8, [.ref (gz g + (b + 1)), .ref (gz g + (b + 2)), .ref (gz g + (b + 3)), .int kp, .ref (gz g + (b + 4)), .ref (gz g + (b + 5)), .int rs, .int (nI T), .ref (gz g + (b + 6)), .int (nI (enT tx T (P + 1))), .int (if 0 ≤ fa then fa else nI (P + 1)), .int od, .ref (gz g + (b + 7))]))))) h (mu_uu _ _ _ _) (fun h => ?_)
              refine lv_iload hx hb dX8_number_168 (lv_at hl 6 rfl) ?_
              exact ret_i F h (Nat.zero_le _) (Nat.zero_le _) dX8_number_170 (nuE (show sp_X8_number tx T P fa lo hi = ((nuD tx P (enT tx T (P + 1))).2, (enT tx T (P + 1)), (if 0 ≤ fa then fa else nI (P + 1))) by rw [sp_X8_number, if_pos (c := fa < 0) b_4, if_neg (c := nI T ≤ nI P) b_17, if_pos (c := (tx P) = 32) b_31, if_pos (c := (nuD tx P (enT tx T (P + 1))).1 = 0) b_144]))
            refine lv_iload hx hb dX8_number_147 (lv_at hl 6 rfl) ?_
            refine lv_iload_n hx hb dX8_number_149 rfl (lv_at hl 1 rfl) ?_
            refine lv_iload_n hx hb dX8_number_150 rfl (lv_at hl 2 rfl) ?_
            refine u_iE (v := (inI ((nuD tx P (enT tx T (P + 1))).2) lo hi)) (ru_S (As := [.int ((nuD tx P (enT tx T (P + 1))).2), .int lo, .int hi]) (rest := []) F h (k_X8_in l g n c ((nuD tx P (enT tx T (P + 1))).2) lo hi) (gS hjl wd_877 wd_878 wd_58 wd_879) rfl 3 (by decide +kernel) rfl ⟨Nat.le_of_ble_eq_true rfl, Nat.le_of_ble_eq_true rfl⟩ rfl hl.1 (Nat.le_of_ble_eq_true rfl) ⟨Nat.zero_le _, Nat.zero_le _⟩ dX8_number_151) h (fun H locs h => ?_)
            refine lv_if_ne (tgt := 162) hx hb dX8_number_154 (by decide) (fun b_154 => ?_) (fun b_154 => ?_)
            · skip
              refine lv_aload_n hx hb dX8_number_162 rfl (lv_at hl 0 rfl) ?_
              refine lv_iload hx hb dX8_number_163 (lv_at hl 4 rfl) ?_
              refine r_put F h (C := RX8) (T := TX8) (N := 13) (fs' := [.ref (gz g + (b + 1)), .ref (gz g + (b + 2)), .ref (gz g + (b + 3)), .int kp, .ref (gz g + (b + 4)), .ref (gz g + (b + 5)), .int rs, .int (nI T), .ref (gz g + (b + 6)), .int (nI (enT tx T (P + 1))), .int fa, .int od, .ref (gz g + (b + 7))]) (hjc hi_X8) tyX8 tyX8_ok nmX8 rfl hm 9 (by decide) (List.mem_cons_of_mem _ wd_837) rfl (rfl) (rfl) (Nat.le_of_ble_eq_true rfl) rfl dX8_number_165 (fun H locs h => ?_)
              refine lv_iload hx hb dX8_number_168 (lv_at hl 6 rfl) ?_
              exact ret_i F h (Nat.zero_le _) (Nat.zero_le _) dX8_number_170 (nuE (show sp_X8_number tx T P fa lo hi = ((nuD tx P (enT tx T (P + 1))).2, (enT tx T (P + 1)), fa) by rw [sp_X8_number, if_pos (c := fa < 0) b_4, if_neg (c := nI T ≤ nI P) b_17, if_pos (c := (tx P) = 32) b_31, if_neg (c := (nuD tx P (enT tx T (P + 1))).1 = 0) b_144, if_neg (c := (inI ((nuD tx P (enT tx T (P + 1))).2) lo hi) = 0) b_154]))
            refine lv_aload_n hx hb dX8_number_157 rfl (lv_at hl 0 rfl) ?_
            refine lv_iload_n hx hb dX8_number_158 rfl (lv_at hl 3 rfl) ?_
            refine u_vE (ru_V (As := [.int (nI (P + 1))]) (rest := []) F h hm rfl (k_X8_fail l g n c b kp rs (nI T) (nI P) fa od hm (nI (P + 1))) (gV hjl wd_1113 wd_1115 wd_45 wd_58 wd_1116) rfl 1 (by decide +kernel) rfl ⟨Nat.le_of_ble_eq_true rfl, Nat.le_of_ble_eq_true rfl⟩ rfl hl.1 (Nat.le_of_ble_eq_true rfl) ⟨Nat.zero_le _, Nat.zero_le _⟩ dX8_number_159) h (fun H locs h => ?_)
            refine lv_aload_n hx hb dX8_number_162 rfl (lv_at hl 0 rfl) ?_
            refine lv_iload hx hb dX8_number_163 (lv_at hl 4 rfl) ?_
            refine r_put F h (C := RX8) (T := TX8) (N := 13) (fs' := [.ref (gz g + (b + 1)), .ref (gz g + (b + 2)), .ref (gz g + (b + 3)), .int kp, .ref (gz g + (b + 4)), .ref (gz g + (b + 5)), .int rs, .int (nI T), .ref (gz g + (b + 6)), .int (nI (enT tx T (P + 1))), .int (if 0 ≤ fa then fa else nI (P + 1)), .int od, .ref (gz g + (b + 7))]) (hjc hi_X8) tyX8 tyX8_ok nmX8 rfl (mu_eq _ _ _) 9 (by decide) (List.mem_cons_of_mem _ wd_837) rfl (rfl) (rfl) (Nat.le_of_ble_eq_true rfl) rfl dX8_number_165 (fun H locs h => ?_)
            refine r_mem (c1 := (va_up c b (some (.inr (8, [.ref (gz g + (b + 1)), .ref (gz g + (b + 2)), .ref (gz g + (b + 3)), .int kp, .ref (gz g + (b + 4)), .ref (gz g + (b + 5)), .int rs, .int (nI T), .ref (gz g + (b + 6)), .int (nI (enT tx T (P + 1))), .int (if 0 ≤ fa then fa else nI (P + 1)), .int od, .ref (gz g + (b + 7))]))))) h (mu_uu _ _ _ _) (fun h => ?_)
            refine lv_iload hx hb dX8_number_168 (lv_at hl 6 rfl) ?_
            exact ret_i F h (Nat.zero_le _) (Nat.zero_le _) dX8_number_170 (nuE (show sp_X8_number tx T P fa lo hi = ((nuD tx P (enT tx T (P + 1))).2, (enT tx T (P + 1)), (if 0 ≤ fa then fa else nI (P + 1))) by rw [sp_X8_number, if_pos (c := fa < 0) b_4, if_neg (c := nI T ≤ nI P) b_17, if_pos (c := (tx P) = 32) b_31, if_neg (c := (nuD tx P (enT tx T (P + 1))).1 = 0) b_144, if_pos (c := (inI ((nuD tx P (enT tx T (P + 1))).2) lo hi) = 0) b_154]))
          have hk4 : k1 < (enT tx T (P + 1)) := lp_lt (N := (enT tx T (P + 1))) rfl (by omega) (by omega) b_79
          refine lv_iload hx hb dX8_number_82 (lv_at hl 5 rfl) ?_
          refine lv_if_eq (tgt := 142) hx hb dX8_number_84 (by decide) (fun b_84 => ?_) (fun b_84 => ?_)
          · skip
            have hD : (nuD tx P (enT tx T (P + 1))) = (zz, v1) := hR.symm.trans (by rw [show (enT tx T (P + 1)) - k1 = ((enT tx T (P + 1)) - (k1 + 1)) + 1 by omega, nuS, if_pos b_84])
            have hl : lv_has ls 8 [(0, .ref (gz g + b)), (1, .int lo), (2, .int hi), (3, .int (nI (P + 1))), (4, .int (nI (enT tx T (P + 1)))), (5, .int ((nuD tx P (enT tx T (P + 1))).1)), (6, .int v1), (7, .int (nI k1))] := by rw [show ((nuD tx P (enT tx T (P + 1))).1 : Int32) = zz from congrArg Prod.fst hD]; exact hl
            have hl : lv_has ls 8 [(0, .ref (gz g + b)), (1, .int lo), (2, .int hi), (3, .int (nI (P + 1))), (4, .int (nI (enT tx T (P + 1)))), (5, .int ((nuD tx P (enT tx T (P + 1))).1)), (6, .int ((nuD tx P (enT tx T (P + 1))).2)), (7, .int (nI k1))] := by rw [show ((nuD tx P (enT tx T (P + 1))).2 : Int32) = v1 from congrArg Prod.snd hD]; exact hl
            refine lv_iload hx hb dX8_number_142 (lv_at hl 5 rfl) ?_
            refine lv_if_eq (tgt := 157) hx hb dX8_number_144 (by decide) (fun b_144 => ?_) (fun b_144 => ?_)
            · skip
              refine lv_aload_n hx hb dX8_number_157 rfl (lv_at hl 0 rfl) ?_
              refine lv_iload_n hx hb dX8_number_158 rfl (lv_at hl 3 rfl) ?_
              refine u_vE (ru_V (As := [.int (nI (P + 1))]) (rest := []) F h hm rfl (k_X8_fail l g n c b kp rs (nI T) (nI P) fa od hm (nI (P + 1))) (gV hjl wd_1113 wd_1115 wd_45 wd_58 wd_1116) rfl 1 (by decide +kernel) rfl ⟨Nat.le_of_ble_eq_true rfl, Nat.le_of_ble_eq_true rfl⟩ rfl hl.1 (Nat.le_of_ble_eq_true rfl) ⟨Nat.zero_le _, Nat.zero_le _⟩ dX8_number_159) h (fun H locs h => ?_)
              refine lv_aload_n hx hb dX8_number_162 rfl (lv_at hl 0 rfl) ?_
              refine lv_iload hx hb dX8_number_163 (lv_at hl 4 rfl) ?_
              refine r_put F h (C := RX8) (T := TX8) (N := 13) (fs' := [.ref (gz g + (b + 1)), .ref (gz g + (b + 2)), .ref (gz g + (b + 3)), .int kp, .ref (gz g + (b + 4)), .ref (gz g + (b + 5)), .int rs, .int (nI T), .ref (gz g + (b + 6)), .int (nI (enT tx T (P + 1))), .int (if 0 ≤ fa then fa else nI (P + 1)), .int od, .ref (gz g + (b + 7))]) (hjc hi_X8) tyX8 tyX8_ok nmX8 rfl (mu_eq _ _ _) 9 (by decide) (List.mem_cons_of_mem _ wd_837) rfl (rfl) (rfl) (Nat.le_of_ble_eq_true rfl) rfl dX8_number_165 (fun H locs h => ?_)
              refine r_mem (c1 := (va_up c b (some (.inr (8, [.ref (gz g + (b + 1)), .ref (gz g + (b + 2)), .ref (gz g + (b + 3)), .int kp, .ref (gz g + (b + 4)), .ref (gz g + (b + 5)), .int rs, .int (nI T), .ref (gz g + (b + 6)), .int (nI (enT tx T (P + 1))), .int (if 0 ≤ fa then fa else nI (P + 1)), .int od, .ref (gz g + (b + 7))]))))) h (mu_uu _ _ _ _) (fun h => ?_)
              refine lv_iload hx hb dX8_number_168 (lv_at hl 6 rfl) ?_
              exact ret_i F h (Nat.zero_le _) (Nat.zero_le _) dX8_number_170 (nuE (show sp_X8_number tx T P fa lo hi = ((nuD tx P (enT tx T (P + 1))).2, (enT tx T (P + 1)), (if 0 ≤ fa then fa else nI (P + 1))) by rw [sp_X8_number, if_pos (c := fa < 0) b_4, if_neg (c := nI T ≤ nI P) b_17, if_pos (c := (tx P) = 32) b_31, if_pos (c := (nuD tx P (enT tx T (P + 1))).1 = 0) b_144]))
            refine lv_iload hx hb dX8_number_147 (lv_at hl 6 rfl) ?_
            refine lv_iload_n hx hb dX8_number_149 rfl (lv_at hl 1 rfl) ?_
            refine lv_iload_n hx hb dX8_number_150 rfl (lv_at hl 2 rfl) ?_
            refine u_iE (v := (inI ((nuD tx P (enT tx T (P + 1))).2) lo hi)) (ru_S (As := [.int ((nuD tx P (enT tx T (P + 1))).2), .int lo, .int hi]) (rest := []) F h (k_X8_in l g n c ((nuD tx P (enT tx T (P + 1))).2) lo hi) (gS hjl wd_877 wd_878 wd_58 wd_879) rfl 3 (by decide +kernel) rfl ⟨Nat.le_of_ble_eq_true rfl, Nat.le_of_ble_eq_true rfl⟩ rfl hl.1 (Nat.le_of_ble_eq_true rfl) ⟨Nat.zero_le _, Nat.zero_le _⟩ dX8_number_151) h (fun H locs h => ?_)
            refine lv_if_ne (tgt := 162) hx hb dX8_number_154 (by decide) (fun b_154 => ?_) (fun b_154 => ?_)
            · skip
              refine lv_aload_n hx hb dX8_number_162 rfl (lv_at hl 0 rfl) ?_
              refine lv_iload hx hb dX8_number_163 (lv_at hl 4 rfl) ?_
              refine r_put F h (C := RX8) (T := TX8) (N := 13) (fs' := [.ref (gz g + (b + 1)), .ref (gz g + (b + 2)), .ref (gz g + (b + 3)), .int kp, .ref (gz g + (b + 4)), .ref (gz g + (b + 5)), .int rs, .int (nI T), .ref (gz g + (b + 6)), .int (nI (enT tx T (P + 1))), .int fa, .int od, .ref (gz g + (b + 7))]) (hjc hi_X8) tyX8 tyX8_ok nmX8 rfl hm 9 (by decide) (List.mem_cons_of_mem _ wd_837) rfl (rfl) (rfl) (Nat.le_of_ble_eq_true rfl) rfl dX8_number_165 (fun H locs h => ?_)
              refine lv_iload hx hb dX8_number_168 (lv_at hl 6 rfl) ?_
              exact ret_i F h (Nat.zero_le _) (Nat.zero_le _) dX8_number_170 (nuE (show sp_X8_number tx T P fa lo hi = ((nuD tx P (enT tx T (P + 1))).2, (enT tx T (P + 1)), fa) by rw [sp_X8_number, if_pos (c := fa < 0) b_4, if_neg (c := nI T ≤ nI P) b_17, if_pos (c := (tx P) = 32) b_31, if_neg (c := (nuD tx P (enT tx T (P + 1))).1 = 0) b_144, if_neg (c := (inI ((nuD tx P (enT tx T (P + 1))).2) lo hi) = 0) b_154]))
            refine lv_aload_n hx hb dX8_number_157 rfl (lv_at hl 0 rfl) ?_
            refine lv_iload_n hx hb dX8_number_158 rfl (lv_at hl 3 rfl) ?_
            refine u_vE (ru_V (As := [.int (nI (P + 1))]) (rest := []) F h hm rfl (k_X8_fail l g n c b kp rs (nI T) (nI P) fa od hm (nI (P + 1))) (gV hjl wd_1113 wd_1115 wd_45 wd_58 wd_1116) rfl 1 (by decide +kernel) rfl ⟨Nat.le_of_ble_eq_true rfl, Nat.le_of_ble_eq_true rfl⟩ rfl hl.1 (Nat.le_of_ble_eq_true rfl) ⟨Nat.zero_le _, Nat.zero_le _⟩ dX8_number_159) h (fun H locs h => ?_)
            refine lv_aload_n hx hb dX8_number_162 rfl (lv_at hl 0 rfl) ?_
            refine lv_iload hx hb dX8_number_163 (lv_at hl 4 rfl) ?_
            refine r_put F h (C := RX8) (T := TX8) (N := 13) (fs' := [.ref (gz g + (b + 1)), .ref (gz g + (b + 2)), .ref (gz g + (b + 3)), .int kp, .ref (gz g + (b + 4)), .ref (gz g + (b + 5)), .int rs, .int (nI T), .ref (gz g + (b + 6)), .int (nI (enT tx T (P + 1))), .int (if 0 ≤ fa then fa else nI (P + 1)), .int od, .ref (gz g + (b + 7))]) (hjc hi_X8) tyX8 tyX8_ok nmX8 rfl (mu_eq _ _ _) 9 (by decide) (List.mem_cons_of_mem _ wd_837) rfl (rfl) (rfl) (Nat.le_of_ble_eq_true rfl) rfl dX8_number_165 (fun H locs h => ?_)
            refine r_mem (c1 := (va_up c b (some (.inr (8, [.ref (gz g + (b + 1)), .ref (gz g + (b + 2)), .ref (gz g + (b + 3)), .int kp, .ref (gz g + (b + 4)), .ref (gz g + (b + 5)), .int rs, .int (nI T), .ref (gz g + (b + 6)), .int (nI (enT tx T (P + 1))), .int (if 0 ≤ fa then fa else nI (P + 1)), .int od, .ref (gz g + (b + 7))]))))) h (mu_uu _ _ _ _) (fun h => ?_)
            refine lv_iload hx hb dX8_number_168 (lv_at hl 6 rfl) ?_
            exact ret_i F h (Nat.zero_le _) (Nat.zero_le _) dX8_number_170 (nuE (show sp_X8_number tx T P fa lo hi = ((nuD tx P (enT tx T (P + 1))).2, (enT tx T (P + 1)), (if 0 ≤ fa then fa else nI (P + 1))) by rw [sp_X8_number, if_pos (c := fa < 0) b_4, if_neg (c := nI T ≤ nI P) b_17, if_pos (c := (tx P) = 32) b_31, if_neg (c := (nuD tx P (enT tx T (P + 1))).1 = 0) b_144, if_pos (c := (inI ((nuD tx P (enT tx T (P + 1))).2) lo hi) = 0) b_154]))
          refine lv_aload_n hx hb dX8_number_87 rfl (lv_at hl 0 rfl) ?_
          refine r_get F h (C := RX8) (T := TX8) (N := 13) (hjc hi_X8) rfl hm 8 (by decide) (List.mem_cons_of_mem _ wd_836) rfl dX8_number_88 ?_
          refine lv_iload hx hb dX8_number_91 (lv_at hl 7 rfl) ?_
          refine r_caldN F h (k := k1) hc6 (rfl) (by omega) (by decide) dX8_number_93 ?_
          refine lv_bipush (v := 48) hx hb dX8_number_94 (by decide) ?_
          refine lv_icmp_lt (tgt := 115) hx hb dX8_number_96 (by decide) (fun b_96 => ?_) (fun b_96 => ?_)
          · skip
            refine lv_iconst (v := 0) hx hb dX8_number_115 (by decide) ?_
            refine r_top (w := .int (if 48 ≤ tx k1 ∧ tx k1 ≤ 57 then 1 else 0)) (congrArg Value.int (by rw [if_neg (fun z => absurd z.1 (Int32.not_le.mpr b_96))])) ?_
            refine lv_istore (lv' := [(5, .int (if 48 ≤ tx k1 ∧ tx k1 ≤ 57 then 1 else 0)), (0, .ref (gz g + b)), (1, .int lo), (2, .int hi), (3, .int (nI (P + 1))), (4, .int (nI (enT tx T (P + 1)))), (6, .int v1), (7, .int (nI k1))]) hx hb dX8_number_116 hl (by decide) rfl (fun ls hl => ?_)
            refine lv_bipush (v := 10) hx hb dX8_number_118 (by decide) ?_
            refine lv_iload hx hb dX8_number_120 (lv_at hl 6 rfl) ?_
            refine lv_imul hx hb dX8_number_122 ?_
            refine lv_aload_n hx hb dX8_number_123 rfl (lv_at hl 1 rfl) ?_
            refine r_get F h (C := RX8) (T := TX8) (N := 13) (hjc hi_X8) rfl hm 8 (by decide) (List.mem_cons_of_mem _ wd_836) rfl dX8_number_124 ?_
            refine lv_iload hx hb dX8_number_127 (lv_at hl 7 rfl) ?_
            refine r_caldN F h (k := k1) hc6 (rfl) (by omega) (by decide) dX8_number_129 ?_
            refine lv_iadd hx hb dX8_number_130 ?_
            refine lv_bipush (v := 48) hx hb dX8_number_131 (by decide) ?_
            refine lv_isub hx hb dX8_number_133 ?_
            refine lv_istore (lv' := [(6, .int (((10 * v1) + (tx k1)) - 48)), (5, .int (if 48 ≤ tx k1 ∧ tx k1 ≤ 57 then 1 else 0)), (0, .ref (gz g + b)), (1, .int lo), (2, .int hi), (3, .int (nI (P + 1))), (4, .int (nI (enT tx T (P + 1)))), (7, .int (nI k1))]) hx hb dX8_number_134 hl (by decide) rfl (fun ls hl => ?_)
            refine lv_iinc (v := nI (k1 + 1)) (lv' := [(7, .int (nI (k1 + 1))), (6, .int (((10 * v1) + (tx k1)) - 48)), (5, .int (if 48 ≤ tx k1 ∧ tx k1 ≤ 57 then 1 else 0)), (0, .ref (gz g + b)), (1, .int lo), (2, .int hi), (3, .int (nI (P + 1))), (4, .int (nI (enT tx T (P + 1))))]) hx hb dX8_number_136 hl (k := 7) rfl (by exact (nI_succ k1).symm) (by decide) rfl (fun ls hl => ?_)
            refine lv_goto (tgt := 75) hx hb dX8_number_139 (by decide) ?_
            exact ih (k1 + 1) _ _ (by omega) (by omega) (by rw [← hR, show (enT tx T (P + 1)) - k1 = ((enT tx T (P + 1)) - (k1 + 1)) + 1 by omega, nuS, if_neg b_84]) _ _ _ (by omega) h (lv_sub hl [3, 4, 5, 6, 7, 2, 1, 0] rfl)
          refine lv_aload_n hx hb dX8_number_99 rfl (lv_at hl 0 rfl) ?_
          refine r_get F h (C := RX8) (T := TX8) (N := 13) (hjc hi_X8) rfl hm 8 (by decide) (List.mem_cons_of_mem _ wd_836) rfl dX8_number_100 ?_
          refine lv_iload hx hb dX8_number_103 (lv_at hl 7 rfl) ?_
          refine r_caldN F h (k := k1) hc6 (rfl) (by omega) (by decide) dX8_number_105 ?_
          refine lv_bipush (v := 57) hx hb dX8_number_106 (by decide) ?_
          refine lv_icmp_gt (tgt := 115) hx hb dX8_number_108 (by decide) (fun b_108 => ?_) (fun b_108 => ?_)
          · skip
            refine lv_iconst (v := 0) hx hb dX8_number_115 (by decide) ?_
            refine r_top (w := .int (if 48 ≤ tx k1 ∧ tx k1 ≤ 57 then 1 else 0)) (congrArg Value.int (by rw [if_neg (fun z => absurd z.2 (Int32.not_le.mpr b_108))])) ?_
            refine lv_istore (lv' := [(5, .int (if 48 ≤ tx k1 ∧ tx k1 ≤ 57 then 1 else 0)), (0, .ref (gz g + b)), (1, .int lo), (2, .int hi), (3, .int (nI (P + 1))), (4, .int (nI (enT tx T (P + 1)))), (6, .int v1), (7, .int (nI k1))]) hx hb dX8_number_116 hl (by decide) rfl (fun ls hl => ?_)
            refine lv_bipush (v := 10) hx hb dX8_number_118 (by decide) ?_
            refine lv_iload hx hb dX8_number_120 (lv_at hl 6 rfl) ?_
            refine lv_imul hx hb dX8_number_122 ?_
            refine lv_aload_n hx hb dX8_number_123 rfl (lv_at hl 1 rfl) ?_
            refine r_get F h (C := RX8) (T := TX8) (N := 13) (hjc hi_X8) rfl hm 8 (by decide) (List.mem_cons_of_mem _ wd_836) rfl dX8_number_124 ?_
            refine lv_iload hx hb dX8_number_127 (lv_at hl 7 rfl) ?_
            refine r_caldN F h (k := k1) hc6 (rfl) (by omega) (by decide) dX8_number_129 ?_
            refine lv_iadd hx hb dX8_number_130 ?_
            refine lv_bipush (v := 48) hx hb dX8_number_131 (by decide) ?_
            refine lv_isub hx hb dX8_number_133 ?_
            refine lv_istore (lv' := [(6, .int (((10 * v1) + (tx k1)) - 48)), (5, .int (if 48 ≤ tx k1 ∧ tx k1 ≤ 57 then 1 else 0)), (0, .ref (gz g + b)), (1, .int lo), (2, .int hi), (3, .int (nI (P + 1))), (4, .int (nI (enT tx T (P + 1)))), (7, .int (nI k1))]) hx hb dX8_number_134 hl (by decide) rfl (fun ls hl => ?_)
            refine lv_iinc (v := nI (k1 + 1)) (lv' := [(7, .int (nI (k1 + 1))), (6, .int (((10 * v1) + (tx k1)) - 48)), (5, .int (if 48 ≤ tx k1 ∧ tx k1 ≤ 57 then 1 else 0)), (0, .ref (gz g + b)), (1, .int lo), (2, .int hi), (3, .int (nI (P + 1))), (4, .int (nI (enT tx T (P + 1))))]) hx hb dX8_number_136 hl (k := 7) rfl (by exact (nI_succ k1).symm) (by decide) rfl (fun ls hl => ?_)
            refine lv_goto (tgt := 75) hx hb dX8_number_139 (by decide) ?_
            exact ih (k1 + 1) _ _ (by omega) (by omega) (by rw [← hR, show (enT tx T (P + 1)) - k1 = ((enT tx T (P + 1)) - (k1 + 1)) + 1 by omega, nuS, if_neg b_84]) _ _ _ (by omega) h (lv_sub hl [3, 4, 5, 6, 7, 2, 1, 0] rfl)
          refine lv_iconst (v := 1) hx hb dX8_number_111 (by decide) ?_
          refine lv_goto (tgt := 116) hx hb dX8_number_112 (by decide) ?_
          refine r_top (w := .int (if 48 ≤ tx k1 ∧ tx k1 ≤ 57 then 1 else 0)) (congrArg Value.int (by rw [if_pos ⟨Int32.not_lt.mp b_96, Int32.not_lt.mp b_108⟩])) ?_
          refine lv_istore (lv' := [(5, .int (if 48 ≤ tx k1 ∧ tx k1 ≤ 57 then 1 else 0)), (0, .ref (gz g + b)), (1, .int lo), (2, .int hi), (3, .int (nI (P + 1))), (4, .int (nI (enT tx T (P + 1)))), (6, .int v1), (7, .int (nI k1))]) hx hb dX8_number_116 hl (by decide) rfl (fun ls hl => ?_)
          refine lv_bipush (v := 10) hx hb dX8_number_118 (by decide) ?_
          refine lv_iload hx hb dX8_number_120 (lv_at hl 6 rfl) ?_
          refine lv_imul hx hb dX8_number_122 ?_
          refine lv_aload_n hx hb dX8_number_123 rfl (lv_at hl 1 rfl) ?_
          refine r_get F h (C := RX8) (T := TX8) (N := 13) (hjc hi_X8) rfl hm 8 (by decide) (List.mem_cons_of_mem _ wd_836) rfl dX8_number_124 ?_
          refine lv_iload hx hb dX8_number_127 (lv_at hl 7 rfl) ?_
          refine r_caldN F h (k := k1) hc6 (rfl) (by omega) (by decide) dX8_number_129 ?_
          refine lv_iadd hx hb dX8_number_130 ?_
          refine lv_bipush (v := 48) hx hb dX8_number_131 (by decide) ?_
          refine lv_isub hx hb dX8_number_133 ?_
          refine lv_istore (lv' := [(6, .int (((10 * v1) + (tx k1)) - 48)), (5, .int (if 48 ≤ tx k1 ∧ tx k1 ≤ 57 then 1 else 0)), (0, .ref (gz g + b)), (1, .int lo), (2, .int hi), (3, .int (nI (P + 1))), (4, .int (nI (enT tx T (P + 1)))), (7, .int (nI k1))]) hx hb dX8_number_134 hl (by decide) rfl (fun ls hl => ?_)
          refine lv_iinc (v := nI (k1 + 1)) (lv' := [(7, .int (nI (k1 + 1))), (6, .int (((10 * v1) + (tx k1)) - 48)), (5, .int (if 48 ≤ tx k1 ∧ tx k1 ≤ 57 then 1 else 0)), (0, .ref (gz g + b)), (1, .int lo), (2, .int hi), (3, .int (nI (P + 1))), (4, .int (nI (enT tx T (P + 1))))]) hx hb dX8_number_136 hl (k := 7) rfl (by exact (nI_succ k1).symm) (by decide) rfl (fun ls hl => ?_)
          refine lv_goto (tgt := 75) hx hb dX8_number_139 (by decide) ?_
          exact ih (k1 + 1) _ _ (by omega) (by omega) (by rw [← hR, show (enT tx T (P + 1)) - k1 = ((enT tx T (P + 1)) - (k1 + 1)) + 1 by omega, nuS, if_neg b_84]) _ _ _ (by omega) h (lv_sub hl [3, 4, 5, 6, 7, 2, 1, 0] rfl)
      exact lp _ (P + 1) _ _ (Nat.le_refl _) heb.1 rfl _ _ _ (Nat.le_refl _) h (lv_sub hl [5, 6, 7, 4, 3, 2, 1, 0] rfl)
    refine lv_aload_n hx hb dX8_number_34 rfl (lv_at hl 0 rfl) ?_
    refine lv_aload_n hx hb dX8_number_35 rfl (lv_at hl 0 rfl) ?_
    refine r_get F h (C := RX8) (T := TX8) (N := 13) (hjc hi_X8) rfl hm 9 (by decide) (List.mem_cons_of_mem _ wd_837) rfl dX8_number_36 ?_
    refine u_vE (ru_V (As := [.int (nI P)]) (rest := []) F h hm rfl (k_X8_fail l g n c b kp rs (nI T) (nI P) fa od hm (nI P)) (gV hjl wd_1113 wd_1115 wd_45 wd_58 wd_1116) rfl 1 (by decide +kernel) rfl ⟨Nat.le_of_ble_eq_true rfl, Nat.le_of_ble_eq_true rfl⟩ rfl hl.1 (Nat.le_of_ble_eq_true rfl) ⟨Nat.zero_le _, Nat.zero_le _⟩ dX8_number_39) h (fun H locs h => ?_)
    refine lv_iconst (v := 0) hx hb dX8_number_42 (by decide) ?_
    exact ret_i F h (Nat.zero_le _) (Nat.zero_le _) dX8_number_43 (nuE (show sp_X8_number tx T P fa lo hi = (0, P, (if 0 ≤ fa then fa else nI P)) by rw [sp_X8_number, if_pos (c := fa < 0) b_4, if_neg (c := nI T ≤ nI P) b_17, if_neg (c := (tx P) = 32) b_31]))
  refine lv_iconst (v := 0) hx hb dX8_number_7 (by decide) ?_
  refine r_mem (c1 := (va_up c b (some (.inr (8, [.ref (gz g + (b + 1)), .ref (gz g + (b + 2)), .ref (gz g + (b + 3)), .int kp, .ref (gz g + (b + 4)), .ref (gz g + (b + 5)), .int rs, .int (nI T), .ref (gz g + (b + 6)), .int (nI P), .int fa, .int od, .ref (gz g + (b + 7))]))))) h ((mu_self hm).symm) (fun h => ?_)
  exact ret_i F h (Nat.zero_le _) (Nat.zero_le _) dX8_number_8 (nuE (show sp_X8_number tx T P fa lo hi = (0, P, fa) by rw [sp_X8_number, if_neg (c := fa < 0) b_4]))
theorem number_b {tx : Nat → Int32} {T P : Nat} {fa lo hi : Int32} (hT7 : T ≤ 70) (h : P ≤ T) : P ≤ (sp_X8_number tx T P fa lo hi).2.1 ∧ (sp_X8_number tx T P fa lo hi).2.1 ≤ T := by
  unfold sp_X8_number
  repeat' split
  all_goals first
    | exact ⟨Nat.le_refl _, h⟩
    | (rename_i h1 h2 _ _ _; exact absurd h1 h2)
    | (have hl : P < T := lp_lt (N := T) rfl (by omega) (by omega) (by assumption)
       have := enT_b tx (show P + 1 ≤ T by omega)
       constructor <;> simp only [] <;> omega)
