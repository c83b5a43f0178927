/-! The reference: carrying out an order. -/
theorem number_m {tx : Nat → Int32} {T P e : Nat} {fa lo hi : Int32} (hT7 : T ≤ 70) (h : e ≤ P ∧ P ≤ T) : e ≤ (sp_X8_number tx T P fa lo hi).2.1 ∧ (sp_X8_number tx T P fa lo hi).2.1 ≤ T := by
  have := number_b (tx := tx) (fa := fa) (lo := lo) (hi := hi) hT7 h.2
  omega
theorem number_f {tx : Nat → Int32} {T P : Nat} {fa lo hi : Int32} (h : ¬ fa < 0) : sp_X8_number tx T P fa lo hi = (0, P, fa) := by
  unfold sp_X8_number
  rw [if_neg h]
theorem ro_b0 {tx : Nat → Int32} {T P O : Nat} {fa : Int32} {oa : Nat → Int32} (hT7 : T ≤ 70) (hP : P ≤ T) : enT tx T P ≤ (sp_X8_readOrder_0 tx T P fa O oa).1 ∧ (sp_X8_readOrder_0 tx T P fa O oa).1 ≤ T := by
  have h0 : enT tx T P ≤ enT tx T P ∧ enT tx T P ≤ T := ⟨Nat.le_refl _, (enT_b tx hP).2⟩
  unfold sp_X8_readOrder_0
  repeat' split
  all_goals exact number_m hT7 h0
theorem ro_b1 {tx : Nat → Int32} {T P O : Nat} {fa : Int32} {oa : Nat → Int32} (hT7 : T ≤ 70) (hP : P ≤ T) : enT tx T P ≤ (sp_X8_readOrder_1 tx T P fa O oa).1 ∧ (sp_X8_readOrder_1 tx T P fa O oa).1 ≤ T := by
  have h0 : enT tx T P ≤ enT tx T P ∧ enT tx T P ≤ T := ⟨Nat.le_refl _, (enT_b tx hP).2⟩
  unfold sp_X8_readOrder_1
  repeat' split
  all_goals exact number_m hT7 (number_m hT7 (number_m hT7 h0))
theorem ro_b2 {tx : Nat → Int32} {T P O : Nat} {fa : Int32} {oa : Nat → Int32} (hT7 : T ≤ 70) (hP : P ≤ T) : enT tx T P ≤ (sp_X8_readOrder_2 tx T P fa O oa).1 ∧ (sp_X8_readOrder_2 tx T P fa O oa).1 ≤ T := by
  have h0 : enT tx T P ≤ enT tx T P ∧ enT tx T P ≤ T := ⟨Nat.le_refl _, (enT_b tx hP).2⟩
  unfold sp_X8_readOrder_2
  repeat' split
  all_goals exact number_m hT7 (number_m hT7 (number_m hT7 h0))
theorem ro_b3 {tx : Nat → Int32} {T P O : Nat} {fa : Int32} {oa : Nat → Int32} (hT7 : T ≤ 70) (hP : P ≤ T) : enT tx T P ≤ (sp_X8_readOrder_3 tx T P fa O oa).1 ∧ (sp_X8_readOrder_3 tx T P fa O oa).1 ≤ T := by
  have h0 : enT tx T P ≤ enT tx T P ∧ enT tx T P ≤ T := ⟨Nat.le_refl _, (enT_b tx hP).2⟩
  unfold sp_X8_readOrder_3
  repeat' split
  all_goals exact number_m hT7 (number_m hT7 h0)
theorem ro_b4 {tx : Nat → Int32} {T P O : Nat} {fa : Int32} {oa : Nat → Int32} (hT7 : T ≤ 70) (hP : P ≤ T) : enT tx T P ≤ (sp_X8_readOrder_4 tx T P fa O oa).1 ∧ (sp_X8_readOrder_4 tx T P fa O oa).1 ≤ T := by
  have h0 : enT tx T P ≤ enT tx T P ∧ enT tx T P ≤ T := ⟨Nat.le_refl _, (enT_b tx hP).2⟩
  unfold sp_X8_readOrder_4
  repeat' split
  all_goals exact number_m hT7 h0
theorem ro_bn {tx : Nat → Int32} {T P O : Nat} {fa : Int32} {oa : Nat → Int32} (hT7 : T ≤ 70) (hP : P ≤ T) : enT tx T P ≤ (sp_X8_readOrder_n tx T P fa O oa).1 ∧ (sp_X8_readOrder_n tx T P fa O oa).1 ≤ T := by
  have h0 : enT tx T P ≤ enT tx T P ∧ enT tx T P ≤ T := ⟨Nat.le_refl _, (enT_b tx hP).2⟩
  unfold sp_X8_readOrder_n
  repeat' split
  all_goals exact number_m hT7 h0
theorem word_len {tx : Nat → Int32} {a e : Nat} (hae : a ≤ e) (he : e ≤ 70) (h : ¬ sp_X8_word tx a e = -100005) : a + 4 ≤ e := by
  have e4 : nI (e - a) = 4 → a + 4 ≤ e := fun z => by
    have z : nI (e - a) = nI 4 := z
    have := (nI_eq (by omega) (by decide)).mp z
    omega
  have e6 : nI (e - a) = 6 → a + 4 ≤ e := fun z => by
    have z : nI (e - a) = nI 6 := z
    have := (nI_eq (by omega) (by decide)).mp z
    omega
  unfold sp_X8_word at h
  by_cases h4 : nI (e - a) = 4
  · exact e4 h4
  · by_cases h6 : nI (e - a) = 6
    · exact e6 h6
    · rw [if_neg h4, if_neg h6] at h
      exact absurd rfl h
theorem ge0_keep (fa : Int32) (P : Nat) (hP : P < 2 ^ 31) : ¬ (if 0 ≤ fa then fa else nI P) < 0 := by
  split
  · rename_i h; exact Int32.not_lt.mpr h
  · exact Int32.not_lt.mpr (nI_pos' hP)
theorem ro_nf {tx : Nat → Int32} {T P O : Nat} {fa : Int32} {oa : Nat → Int32} (hP : P < 2 ^ 31) : ¬ (sp_X8_readOrder_n tx T P fa O oa).2.1 < 0 := by
  unfold sp_X8_readOrder_n
  have h0 := ge0_keep fa P hP
  generalize (if 0 ≤ fa then fa else nI P) = F at h0 ⊢
  simp only [number_f h0]
  have h1 : ¬ (if 0 ≤ F then F else nI (enT tx T P)) < 0 := by rw [if_pos (Int32.not_lt.mp h0)]; exact h0
  by_cases a : nI T ≤ nI (enT tx T P)
  · simp only [if_pos a]; exact h0
  · simp only [if_neg a]
    by_cases b : tx (enT tx T P) = 59
    · simp only [if_pos b]; exact h0
    · simp only [if_neg b]; exact h1
theorem roM_b {tx : Nat → Int32} {T P O : Nat} {fa : Int32} {oa : Nat → Int32} (hT7 : T ≤ 70) (hP : P ≤ T) : P ≤ (roM tx T P fa O oa).1 ∧ (roM tx T P fa O oa).1 ≤ T ∧ ((roM tx T P fa O oa).2.1 < 0 → P + 4 ≤ (roM tx T P fa O oa).1) := by
  have hb := enT_b tx hP
  have hl : ¬ sp_X8_word tx P (enT tx T P) = -100005 → P + 4 ≤ enT tx T P := word_len hb.1 (by omega)
  have go : ∀ x : Nat, enT tx T P ≤ x ∧ x ≤ T → ¬ sp_X8_word tx P (enT tx T P) = -100005 → P ≤ x ∧ x ≤ T ∧ P + 4 ≤ x := fun x hx hw => by have := hl hw; omega
  rcases word_v tx P (enT tx T P) with q | q | q | q | q | q
  · rw [roM_0 q]
    have := go _ (ro_b0 (fa := fa) (O := O) (oa := oa) hT7 hP) (by rw [q]; decide)
    exact ⟨this.1, this.2.1, fun _ => this.2.2⟩
  · rw [roM_1 q]
    have := go _ (ro_b1 (fa := fa) (O := O) (oa := oa) hT7 hP) (by rw [q]; decide)
    exact ⟨this.1, this.2.1, fun _ => this.2.2⟩
  · rw [roM_2 q]
    have := go _ (ro_b2 (fa := fa) (O := O) (oa := oa) hT7 hP) (by rw [q]; decide)
    exact ⟨this.1, this.2.1, fun _ => this.2.2⟩
  · rw [roM_3 q]
    have := go _ (ro_b3 (fa := fa) (O := O) (oa := oa) hT7 hP) (by rw [q]; decide)
    exact ⟨this.1, this.2.1, fun _ => this.2.2⟩
  · rw [roM_4 q]
    have := go _ (ro_b4 (fa := fa) (O := O) (oa := oa) hT7 hP) (by rw [q]; decide)
    exact ⟨this.1, this.2.1, fun _ => this.2.2⟩
  · rw [roM_n q]
    have := ro_bn (tx := tx) (fa := fa) (O := O) (oa := oa) hT7 hP
    exact ⟨by omega, by omega, fun z => absurd z (ro_nf (by omega))⟩
def KeepR (r r' : Nat → Int32) : Prop := r' 3 = r 3 ∧ r' 4 = r 4 ∧ ∀ w : Nat, w < 4 → r' (5 + 11 * w + 0) = r (5 + 11 * w + 0) ∧ r' (5 + 11 * w + 3) = r (5 + 11 * w + 3) ∧ r' (5 + 11 * w + 4) = r (5 + 11 * w + 4)
theorem KeepR.refl (r : Nat → Int32) : KeepR r r := ⟨rfl, rfl, fun _ _ => ⟨rfl, rfl, rfl⟩⟩
theorem KeepR.up {r r' : Nat → Int32} (h : KeepR r r') {k : Nat} {v : Int32} (hk : k ≠ 3 ∧ k ≠ 4 ∧ ∀ w : Nat, w < 4 → k ≠ 5 + 11 * w + 0 ∧ k ≠ 5 + 11 * w + 3 ∧ k ≠ 5 + 11 * w + 4) : KeepR r (upd r' k v) := by
  have u : ∀ j : Nat, k ≠ j → upd r' k v j = r' j := fun j hj => if_neg (Ne.symm hj)
  exact ⟨(u 3 hk.1).trans h.1, (u 4 hk.2.1).trans h.2.1, fun w hw => ⟨(u _ (hk.2.2 w hw).1).trans (h.2.2 w hw).1, (u _ (hk.2.2 w hw).2.1).trans (h.2.2 w hw).2.1, (u _ (hk.2.2 w hw).2.2).trans (h.2.2 w hw).2.2⟩⟩
theorem KeepR.vd {r r' : Nat → Int32} (h : KeepR r r') (w n : Nat) : KeepR r (vdR r' w n) := by
  refine ⟨(vdR_lo r' w n (by omega)).trans h.1, (vdR_lo r' w n (by omega)).trans h.2.1, fun v hv => ⟨(vdR_lo r' w n (by omega)).trans (h.2.2 v hv).1, (vdR_lo r' w n (by omega)).trans (h.2.2 v hv).2.1, (vdR_lo r' w n (by omega)).trans (h.2.2 v hv).2.2⟩⟩
theorem KeepR.tm (r : Nat → Int32) (n : Nat) : KeepR r (tmN r n) :=
  ⟨tmN_far r (by decide) (by decide) n, tmN_far r (by decide) (by decide) n, fun w _ => ⟨tmN_keep r (q := 0) (by decide) n, tmN_keep r (q := 3) (by decide) n, tmN_keep r (q := 4) (by decide) n⟩⟩
/-- what an order's reading of the row wants -/
def RI (r : Nat → Int32) (sc cn : Nat) : Prop := HT r ∧ HQw r ∧ r 3 = nI cn ∧ r 4 = nI sc
theorem RI.keep {r r' : Nat → Int32} {sc cn : Nat} (h : RI r sc cn) (k : KeepR r r') : RI r' sc cn := by
  refine ⟨fun w hw h1 => ?_, fun w hw h1 => ?_, k.1.trans h.2.2.1, k.2.1.trans h.2.2.2⟩
  · rw [(k.2.2 w hw).2.2]; exact h.1 w hw ((k.2.2 w hw).1.symm.trans h1)
  · rw [(k.2.2 w hw).2.2, (k.2.2 w hw).2.1]; exact h.2.1 w hw ((k.2.2 w hw).1.symm.trans h1)
theorem kp_pass (r : Nat → Int32) (rs x : Int32) : KeepR r (sp_X8_doPass r rs x).2.1 := by
  unfold sp_X8_doPass
  repeat' split
  · exact KeepR.refl r
  · exact KeepR.tm r _
theorem kp_push (r : Nat → Int32) (rs w x y : Int32) : KeepR r (sp_X8_doPush r rs w x y).2.1 := by
  unfold sp_X8_doPush
  repeat' split
  all_goals first
    | exact KeepR.refl r
    | (refine KeepR.vd (KeepR.up (KeepR.up (KeepR.up (KeepR.refl r) ?_) ?_) ?_) _ _ <;> exact ⟨by omega, by omega, fun w hw => by omega⟩)
theorem kp_swap (r : Nat → Int32) (rs x y : Int32) : KeepR r (sp_X8_doSwap r rs x y).2.1 := by
  unfold sp_X8_doSwap
  repeat' split
  all_goals first
    | exact KeepR.refl r
    | (refine KeepR.vd (KeepR.vd (KeepR.up (KeepR.up (KeepR.up (KeepR.up (KeepR.up (KeepR.up (KeepR.up (KeepR.up (KeepR.refl r) ?_) ?_) ?_) ?_) ?_) ?_) ?_) ?_) _ _) _ _ <;> exact ⟨by omega, by omega, fun w hw => by omega⟩)
theorem kp_orient (r : Nat → Int32) (rs x : Int32) (sc : Nat) : KeepR r (sp_X8_doOrient r rs x sc).2.1 := by
  unfold sp_X8_doOrient
  repeat' split
  all_goals first
    | exact KeepR.refl r
    | (refine KeepR.up (KeepR.refl r) ?_; exact ⟨by omega, by omega, fun w hw => by omega⟩)
theorem kp_observe (r : Nat → Int32) (rs x y z : Int32) (sc cn : Nat) : KeepR r (sp_X8_doObserve r rs x y z sc cn).2.1 := by
  unfold sp_X8_doObserve
  repeat' split
  all_goals first
    | exact KeepR.refl r
    | (refine KeepR.up (KeepR.up (KeepR.up (KeepR.up (KeepR.up (KeepR.up (KeepR.up (KeepR.tm r _) ?_) ?_) ?_) ?_) ?_) ?_) ?_ <;> exact ⟨by omega, by omega, fun w hw => by omega⟩)
def sp_X8_carryOut (r : Nat → Int32) (rs : Int32) (oa : Nat → Int32) (k1 sc cn : Nat) : Int32 × (Nat → Int32) × Int32 := if (oa (4 * k1)) = 0 then (((sp_X8_doPass r rs (oa (4 * k1 + 1))).1, (sp_X8_doPass r rs (oa (4 * k1 + 1))).2.1, (sp_X8_doPass r rs (oa (4 * k1 + 1))).2.2)) else (if (oa (4 * k1)) = 1 then (((sp_X8_doPush r rs (oa (4 * k1 + 1)) (oa (4 * k1 + 2)) (oa (4 * k1 + 3))).1, (sp_X8_doPush r rs (oa (4 * k1 + 1)) (oa (4 * k1 + 2)) (oa (4 * k1 + 3))).2.1, (sp_X8_doPush r rs (oa (4 * k1 + 1)) (oa (4 * k1 + 2)) (oa (4 * k1 + 3))).2.2)) else (if (oa (4 * k1)) = 2 then (((sp_X8_doObserve r rs (oa (4 * k1 + 1)) (oa (4 * k1 + 2)) (oa (4 * k1 + 3)) sc cn).1, (sp_X8_doObserve r rs (oa (4 * k1 + 1)) (oa (4 * k1 + 2)) (oa (4 * k1 + 3)) sc cn).2.1, (sp_X8_doObserve r rs (oa (4 * k1 + 1)) (oa (4 * k1 + 2)) (oa (4 * k1 + 3)) sc cn).2.2)) else (if (oa (4 * k1)) = 3 then (((sp_X8_doSwap r rs (oa (4 * k1 + 1)) (oa (4 * k1 + 2))).1, (sp_X8_doSwap r rs (oa (4 * k1 + 1)) (oa (4 * k1 + 2))).2.1, (sp_X8_doSwap r rs (oa (4 * k1 + 1)) (oa (4 * k1 + 2))).2.2)) else (((sp_X8_doOrient r rs (oa (4 * k1 + 1)) sc).1, (sp_X8_doOrient r rs (oa (4 * k1 + 1)) sc).2.1, (sp_X8_doOrient r rs (oa (4 * k1 + 1)) sc).2.2)))))
set_option maxHeartbeats 4000000 in
set_option maxRecDepth 100000 in
theorem k_X8_carryOut (l : Launch) (g : Gf) (n : Nat) (c : Mp) (b : Nat) (kp rs ty pl fa od : Int32) (hm : c b = moC g b kp rs ty pl fa od) (r : Nat → Int32) (hr : c (b + 1) = iaA (g.2.1 0) 204 r) (oa : Nat → Int32) (hc7 : c (b + 7) = iaA (g.2.1 0) 140 oa) (k1 : Nat) (hk35 : k1 < 35) (sc cn : Nat) (h5 : sc ≤ 5) (h5c : cn ≤ 5) (hRI : RI r sc cn) : Ct l g yX8_carryOut wsX8_carryOut 5 126 0 0 [.ref (gz g + b), .int (nI (4 * k1))] n c (Qi g (fun xr n' c' => n' = n ∧ xr = (sp_X8_carryOut r rs oa k1 sc cn).1 ∧ c' = va_up (va_up c (b + 1) (iaA (g.2.1 0) 204 (sp_X8_carryOut r rs oa k1 sc cn).2.1)) b (moC g b kp (sp_X8_carryOut r rs oa k1 sc cn).2.2 ty pl fa od))) := by
  refine ent (by decide) rfl (Nat.le_of_ble_eq_true rfl) ?_
  intro p e s m args below meth c0 F h ls hl
  have hx := F.1
  have hb := F.2.1
  have hl : lv_has ls 5 [(0, .ref (gz g + b)), (1, .int (nI (4 * k1)))] := hl
  refine lv_aload_n hx hb dX8_carryOut_0 rfl (lv_at hl 0 rfl) ?_
  refine r_get F h (C := RX8) (T := TX8) (N := 13) (hjc hi_X8) rfl hm 12 (by decide) (List.mem_cons_of_mem _ wd_840) rfl dX8_carryOut_1 ?_
  refine lv_iload_n hx hb dX8_carryOut_4 rfl (lv_at hl 1 rfl) ?_
  refine lv_iconst (v := 1) hx hb dX8_carryOut_5 (by decide) ?_
  refine lv_iadd hx hb dX8_carryOut_6 ?_
  refine r_ialdN F h (k := 4 * k1 + 1) hc7 (by simp only [fa_lit, pk_mul, nI_add]; first | done | (refine congrArg nI ?_; omega)) (by omega) (by decide) dX8_carryOut_7 ?_
  refine lv_istore_n (lv' := [(2, .int (oa (4 * k1 + 1))), (0, .ref (gz g + b)), (1, .int (nI (4 * k1)))]) hx hb dX8_carryOut_8 rfl hl (by decide) rfl (fun ls hl => ?_)
  refine lv_aload_n hx hb dX8_carryOut_9 rfl (lv_at hl 1 rfl) ?_
  refine r_get F h (C := RX8) (T := TX8) (N := 13) (hjc hi_X8) rfl hm 12 (by decide) (List.mem_cons_of_mem _ wd_840) rfl dX8_carryOut_10 ?_
  refine lv_iload_n hx hb dX8_carryOut_13 rfl (lv_at hl 2 rfl) ?_
  refine lv_iconst (v := 2) hx hb dX8_carryOut_14 (by decide) ?_
  refine lv_iadd hx hb dX8_carryOut_15 ?_
  refine r_ialdN F h (k := 4 * k1 + 2) hc7 (by simp only [fa_lit, pk_mul, nI_add]; first | done | (refine congrArg nI ?_; omega)) (by omega) (by decide) dX8_carryOut_16 ?_
  refine lv_istore_n (lv' := [(3, .int (oa (4 * k1 + 2))), (2, .int (oa (4 * k1 + 1))), (0, .ref (gz g + b)), (1, .int (nI (4 * k1)))]) hx hb dX8_carryOut_17 rfl hl (by decide) rfl (fun ls hl => ?_)
  refine lv_aload_n hx hb dX8_carryOut_18 rfl (lv_at hl 2 rfl) ?_
  refine r_get F h (C := RX8) (T := TX8) (N := 13) (hjc hi_X8) rfl hm 12 (by decide) (List.mem_cons_of_mem _ wd_840) rfl dX8_carryOut_19 ?_
  refine lv_iload_n hx hb dX8_carryOut_22 rfl (lv_at hl 3 rfl) ?_
  refine lv_iconst (v := 3) hx hb dX8_carryOut_23 (by decide) ?_
  refine lv_iadd hx hb dX8_carryOut_24 ?_
  refine r_ialdN F h (k := 4 * k1 + 3) hc7 (by simp only [fa_lit, pk_mul, nI_add]; first | done | (refine congrArg nI ?_; omega)) (by omega) (by decide) dX8_carryOut_25 ?_
  refine lv_istore (lv' := [(4, .int (oa (4 * k1 + 3))), (3, .int (oa (4 * k1 + 2))), (2, .int (oa (4 * k1 + 1))), (0, .ref (gz g + b)), (1, .int (nI (4 * k1)))]) hx hb dX8_carryOut_26 hl (by decide) rfl (fun ls hl => ?_)
  refine lv_aload_n hx hb dX8_carryOut_28 rfl (lv_at hl 3 rfl) ?_
  refine r_get F h (C := RX8) (T := TX8) (N := 13) (hjc hi_X8) rfl hm 12 (by decide) (List.mem_cons_of_mem _ wd_840) rfl dX8_carryOut_29 ?_
  refine lv_iload_n hx hb dX8_carryOut_32 rfl (lv_at hl 4 rfl) ?_
  refine r_ialdN F h (k := 4 * k1) hc7 (rfl) (by omega) (by decide) dX8_carryOut_33 ?_
  by_cases q_34_0 : (oa (4 * k1)) = 0
  · skip
    refine lv_tableIn (off := 30) (tgt := 64) hx hb dX8_carryOut_34 (by rw [q_34_0]; decide) (by rw [q_34_0]; decide) (by rw [q_34_0]; rfl) (by decide) ?_
    refine lv_aload_n hx hb dX8_carryOut_64 rfl (lv_at hl 3 rfl) ?_
    refine lv_iload_n hx hb dX8_carryOut_65 rfl (lv_at hl 2 rfl) ?_
    refine u_i (ru_V (As := [.int (oa (4 * k1 + 1))]) (rest := []) F h hm rfl (k_X8_doPass l g n c b kp rs ty pl fa od hm r hr (oa (4 * k1 + 1))  hRI.1) (gV hjl wd_981 wd_983 wd_28 wd_58 wd_984) rfl 1 (by decide +kernel) rfl ⟨Nat.le_of_ble_eq_true rfl, Nat.le_of_ble_eq_true rfl⟩ rfl hl.1 (Nat.le_of_ble_eq_true rfl) ⟨Nat.zero_le _, Nat.zero_le _⟩ dX8_carryOut_66) h (fun r1 n1 c1 H locs hp h => ?_)
    obtain ⟨hn1, hr1, hc1⟩ := hp
    rw [hn1, hc1] at h
    rw [hr1]
    exact ret_i F h (Nat.zero_le _) (Nat.zero_le _) dX8_carryOut_69 (doE (show sp_X8_carryOut r rs oa k1 sc cn = ((sp_X8_doPass r rs (oa (4 * k1 + 1))).1, (sp_X8_doPass r rs (oa (4 * k1 + 1))).2.1, (sp_X8_doPass r rs (oa (4 * k1 + 1))).2.2) by rw [sp_X8_carryOut, if_pos (c := (oa (4 * k1)) = 0) q_34_0]))
  by_cases q_34_1 : (oa (4 * k1)) = 1
  · skip
    refine lv_tableIn (off := 36) (tgt := 70) hx hb dX8_carryOut_34 (by rw [q_34_1]; decide) (by rw [q_34_1]; decide) (by rw [q_34_1]; rfl) (by decide) ?_
    refine lv_aload_n hx hb dX8_carryOut_70 rfl (lv_at hl 3 rfl) ?_
    refine lv_iload_n hx hb dX8_carryOut_71 rfl (lv_at hl 2 rfl) ?_
    refine lv_iload_n hx hb dX8_carryOut_72 rfl (lv_at hl 1 rfl) ?_
    refine lv_iload hx hb dX8_carryOut_73 (lv_at hl 0 rfl) ?_
    refine u_i (ru_V (As := [.int (oa (4 * k1 + 1)), .int (oa (4 * k1 + 2)), .int (oa (4 * k1 + 3))]) (rest := []) F h hm rfl (k_X8_doPush l g n c b kp rs ty pl fa od hm r hr (oa (4 * k1 + 1)) (oa (4 * k1 + 2)) (oa (4 * k1 + 3))  ) (gV hjl wd_948 wd_950 wd_24 wd_58 wd_951) rfl 3 (by decide +kernel) rfl ⟨Nat.le_of_ble_eq_true rfl, Nat.le_of_ble_eq_true rfl⟩ rfl hl.1 (Nat.le_of_ble_eq_true rfl) ⟨Nat.zero_le _, Nat.zero_le _⟩ dX8_carryOut_75) h (fun r1 n1 c1 H locs hp h => ?_)
    obtain ⟨hn1, hr1, hc1⟩ := hp
    rw [hn1, hc1] at h
    rw [hr1]
    exact ret_i F h (Nat.zero_le _) (Nat.zero_le _) dX8_carryOut_78 (doE (show sp_X8_carryOut r rs oa k1 sc cn = ((sp_X8_doPush r rs (oa (4 * k1 + 1)) (oa (4 * k1 + 2)) (oa (4 * k1 + 3))).1, (sp_X8_doPush r rs (oa (4 * k1 + 1)) (oa (4 * k1 + 2)) (oa (4 * k1 + 3))).2.1, (sp_X8_doPush r rs (oa (4 * k1 + 1)) (oa (4 * k1 + 2)) (oa (4 * k1 + 3))).2.2) by rw [sp_X8_carryOut, if_neg (c := (oa (4 * k1)) = 0) q_34_0, if_pos (c := (oa (4 * k1)) = 1) q_34_1]))
  by_cases q_34_2 : (oa (4 * k1)) = 2
  · skip
    refine lv_tableIn (off := 45) (tgt := 79) hx hb dX8_carryOut_34 (by rw [q_34_2]; decide) (by rw [q_34_2]; decide) (by rw [q_34_2]; rfl) (by decide) ?_
    refine lv_aload_n hx hb dX8_carryOut_79 rfl (lv_at hl 3 rfl) ?_
    refine lv_iload_n hx hb dX8_carryOut_80 rfl (lv_at hl 2 rfl) ?_
    refine lv_iload_n hx hb dX8_carryOut_81 rfl (lv_at hl 1 rfl) ?_
    refine lv_iload hx hb dX8_carryOut_82 (lv_at hl 0 rfl) ?_
    refine u_i (ru_V (As := [.int (oa (4 * k1 + 1)), .int (oa (4 * k1 + 2)), .int (oa (4 * k1 + 3))]) (rest := []) F h hm rfl (k_X8_doObserve l g n c b kp rs ty pl fa od hm r hr (oa (4 * k1 + 1)) (oa (4 * k1 + 2)) (oa (4 * k1 + 3)) sc cn hRI.2.2.2 h5 hRI.2.2.1 h5c hRI.2.1 hRI.1) (gV hjl wd_1004 wd_1006 wd_30 wd_58 wd_1007) rfl 3 (by decide +kernel) rfl ⟨Nat.le_of_ble_eq_true rfl, Nat.le_of_ble_eq_true rfl⟩ rfl hl.1 (Nat.le_of_ble_eq_true rfl) ⟨Nat.zero_le _, Nat.zero_le _⟩ dX8_carryOut_84) h (fun r1 n1 c1 H locs hp h => ?_)
    obtain ⟨hn1, hr1, hc1⟩ := hp
    rw [hn1, hc1] at h
    rw [hr1]
    exact ret_i F h (Nat.zero_le _) (Nat.zero_le _) dX8_carryOut_87 (doE (show sp_X8_carryOut r rs oa k1 sc cn = ((sp_X8_doObserve r rs (oa (4 * k1 + 1)) (oa (4 * k1 + 2)) (oa (4 * k1 + 3)) sc cn).1, (sp_X8_doObserve r rs (oa (4 * k1 + 1)) (oa (4 * k1 + 2)) (oa (4 * k1 + 3)) sc cn).2.1, (sp_X8_doObserve r rs (oa (4 * k1 + 1)) (oa (4 * k1 + 2)) (oa (4 * k1 + 3)) sc cn).2.2) by rw [sp_X8_carryOut, if_neg (c := (oa (4 * k1)) = 0) q_34_0, if_neg (c := (oa (4 * k1)) = 1) q_34_1, if_pos (c := (oa (4 * k1)) = 2) q_34_2]))
  by_cases q_34_3 : (oa (4 * k1)) = 3
  · skip
    refine lv_tableIn (off := 54) (tgt := 88) hx hb dX8_carryOut_34 (by rw [q_34_3]; decide) (by rw [q_34_3]; decide) (by rw [q_34_3]; rfl) (by decide) ?_
    refine lv_aload_n hx hb dX8_carryOut_88 rfl (lv_at hl 3 rfl) ?_
    refine lv_iload_n hx hb dX8_carryOut_89 rfl (lv_at hl 2 rfl) ?_
    refine lv_iload_n hx hb dX8_carryOut_90 rfl (lv_at hl 1 rfl) ?_
    refine u_i (ru_V (As := [.int (oa (4 * k1 + 1)), .int (oa (4 * k1 + 2))]) (rest := []) F h hm rfl (k_X8_doSwap l g n c b kp rs ty pl fa od hm r hr (oa (4 * k1 + 1)) (oa (4 * k1 + 2))  ) (gV hjl wd_960 wd_962 wd_26 wd_58 wd_963) rfl 2 (by decide +kernel) rfl ⟨Nat.le_of_ble_eq_true rfl, Nat.le_of_ble_eq_true rfl⟩ rfl hl.1 (Nat.le_of_ble_eq_true rfl) ⟨Nat.zero_le _, Nat.zero_le _⟩ dX8_carryOut_91) h (fun r1 n1 c1 H locs hp h => ?_)
    obtain ⟨hn1, hr1, hc1⟩ := hp
    rw [hn1, hc1] at h
    rw [hr1]
    exact ret_i F h (Nat.zero_le _) (Nat.zero_le _) dX8_carryOut_94 (doE (show sp_X8_carryOut r rs oa k1 sc cn = ((sp_X8_doSwap r rs (oa (4 * k1 + 1)) (oa (4 * k1 + 2))).1, (sp_X8_doSwap r rs (oa (4 * k1 + 1)) (oa (4 * k1 + 2))).2.1, (sp_X8_doSwap r rs (oa (4 * k1 + 1)) (oa (4 * k1 + 2))).2.2) by rw [sp_X8_carryOut, if_neg (c := (oa (4 * k1)) = 0) q_34_0, if_neg (c := (oa (4 * k1)) = 1) q_34_1, if_neg (c := (oa (4 * k1)) = 2) q_34_2, if_pos (c := (oa (4 * k1)) = 3) q_34_3]))
  refine lv_tableOut (tgt := 95) hx hb dX8_carryOut_34 (by have z0 : ¬ ((oa (4 * k1))).toInt = 0 := fun z => q_34_0 ((i_eq _ _).mpr z); have z1 : ¬ ((oa (4 * k1))).toInt = 1 := fun z => q_34_1 ((i_eq _ _).mpr z); have z2 : ¬ ((oa (4 * k1))).toInt = 2 := fun z => q_34_2 ((i_eq _ _).mpr z); have z3 : ¬ ((oa (4 * k1))).toInt = 3 := fun z => q_34_3 ((i_eq _ _).mpr z); omega) (by decide) ?_
  refine lv_aload_n hx hb dX8_carryOut_95 rfl (lv_at hl 3 rfl) ?_
  refine lv_iload_n hx hb dX8_carryOut_96 rfl (lv_at hl 2 rfl) ?_
  refine u_i (ru_V (As := [.int (oa (4 * k1 + 1))]) (rest := []) F h hm rfl (k_X8_doOrient l g n c b kp rs ty pl fa od hm r hr (oa (4 * k1 + 1)) sc hRI.2.2.2 h5) (gV hjl wd_1080 wd_1082 wd_40 wd_58 wd_1083) rfl 1 (by decide +kernel) rfl ⟨Nat.le_of_ble_eq_true rfl, Nat.le_of_ble_eq_true rfl⟩ rfl hl.1 (Nat.le_of_ble_eq_true rfl) ⟨Nat.zero_le _, Nat.zero_le _⟩ dX8_carryOut_97) h (fun r1 n1 c1 H locs hp h => ?_)
  obtain ⟨hn1, hr1, hc1⟩ := hp
  rw [hn1, hc1] at h
  rw [hr1]
  exact ret_i F h (Nat.zero_le _) (Nat.zero_le _) dX8_carryOut_100 (doE (show sp_X8_carryOut r rs oa k1 sc cn = ((sp_X8_doOrient r rs (oa (4 * k1 + 1)) sc).1, (sp_X8_doOrient r rs (oa (4 * k1 + 1)) sc).2.1, (sp_X8_doOrient r rs (oa (4 * k1 + 1)) sc).2.2) by rw [sp_X8_carryOut, if_neg (c := (oa (4 * k1)) = 0) q_34_0, if_neg (c := (oa (4 * k1)) = 1) q_34_1, if_neg (c := (oa (4 * k1)) = 2) q_34_2, if_neg (c := (oa (4 * k1)) = 3) q_34_3]))
theorem kp_carry (r : Nat → Int32) (rs : Int32) (oa : Nat → Int32) (k1 sc cn : Nat) : KeepR r (sp_X8_carryOut r rs oa k1 sc cn).2.1 := by
  unfold sp_X8_carryOut
  repeat' split
  · exact kp_pass _ _ _
  · exact kp_push _ _ _ _ _
  · exact kp_observe _ _ _ _ _ sc cn
  · exact kp_swap _ _ _ _
  · exact kp_orient _ _ _ sc
/-- the orders of the text, read one behind another -/
def rdL (tx : Nat → Int32) (T : Nat) : Nat → Nat → Int32 → Nat → (Nat → Int32) → Nat × Int32 × Nat × (Nat → Int32)
  | 0, P, fa, O, oa => (P, fa, O, oa)
  | k + 1, P, fa, O, oa => if fa < 0 then (if P < T then rdL tx T k (roM tx T (P + 1) fa O oa).1 (roM tx T (P + 1) fa O oa).2.1 (O + 1) (roM tx T (P + 1) fa O oa).2.2 else (P, fa, O, oa)) else (P, fa, O, oa)
def rdA (tx : Nat → Int32) (T : Nat) (oa : Nat → Int32) : Nat × Int32 × Nat × (Nat → Int32) := rdL tx T 71 (roM tx T 0 (-100005) 0 oa).1 (roM tx T 0 (-100005) 0 oa).2.1 1 (roM tx T 0 (-100005) 0 oa).2.2
/-- the orders, carried out one behind another -/
def coL (oa : Nat → Int32) (O sc cn : Nat) : Nat → Nat → (Nat → Int32) → Int32 → Nat × (Nat → Int32) × Int32
  | 0, k, r, rs => (k, r, rs)
  | f + 1, k, r, rs => if k < O then (if -100001 < (sp_X8_carryOut r rs oa k sc cn).1 then coL oa O sc cn f (k + 1) (sp_X8_carryOut r rs oa k sc cn).2.1 (sp_X8_carryOut r rs oa k sc cn).2.2 else (k, (sp_X8_carryOut r rs oa k sc cn).2.1, (sp_X8_carryOut r rs oa k sc cn).2.2)) else (k, r, rs)
def coA (oa : Nat → Int32) (O sc cn : Nat) (r : Nat → Int32) (rs : Int32) : Nat × (Nat → Int32) × Int32 := coL oa O sc cn (O + 1) 0 r rs
