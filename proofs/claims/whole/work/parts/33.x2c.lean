/-! The class: reading the orders. -/
theorem word_c (tx : Nat → Int32) (a e : Nat) : sq_X2_wordUpTo tx a e = 0 ∨ sq_X2_wordUpTo tx a e = 1 ∨ sq_X2_wordUpTo tx a e = 2 ∨ sq_X2_wordUpTo tx a e = 3 ∨ sq_X2_wordUpTo tx a e = 4 ∨ sq_X2_wordUpTo tx a e = -1 := by
  unfold sq_X2_wordUpTo
  repeat' split
  all_goals simp
def roC (tx : Nat → Int32) (T P K : Nat) (wd nu : Nat → Int32) : Int32 × (Nat → Int32) × (Nat → Int32) × Nat :=
  if sq_X2_wordUpTo tx P (enT tx T P) = 0 then sq_X2_readOrder_0 tx T P K wd nu else if sq_X2_wordUpTo tx P (enT tx T P) = 1 then sq_X2_readOrder_1 tx T P K wd nu else if sq_X2_wordUpTo tx P (enT tx T P) = 2 then sq_X2_readOrder_2 tx T P K wd nu else if sq_X2_wordUpTo tx P (enT tx T P) = 3 then sq_X2_readOrder_3 tx T P K wd nu else if sq_X2_wordUpTo tx P (enT tx T P) = 4 then sq_X2_readOrder_4 tx T P K wd nu else sq_X2_readOrder_n tx T P K wd nu
theorem roC_0 {tx : Nat → Int32} {T P K : Nat} {wd nu : Nat → Int32} (h : sq_X2_wordUpTo tx P (enT tx T P) = 0) : roC tx T P K wd nu = sq_X2_readOrder_0 tx T P K wd nu := by
  unfold roC; rw [if_pos h]
theorem roC_1 {tx : Nat → Int32} {T P K : Nat} {wd nu : Nat → Int32} (h : sq_X2_wordUpTo tx P (enT tx T P) = 1) : roC tx T P K wd nu = sq_X2_readOrder_1 tx T P K wd nu := by
  unfold roC; rw [h]; rfl
theorem roC_2 {tx : Nat → Int32} {T P K : Nat} {wd nu : Nat → Int32} (h : sq_X2_wordUpTo tx P (enT tx T P) = 2) : roC tx T P K wd nu = sq_X2_readOrder_2 tx T P K wd nu := by
  unfold roC; rw [h]; rfl
theorem roC_3 {tx : Nat → Int32} {T P K : Nat} {wd nu : Nat → Int32} (h : sq_X2_wordUpTo tx P (enT tx T P) = 3) : roC tx T P K wd nu = sq_X2_readOrder_3 tx T P K wd nu := by
  unfold roC; rw [h]; rfl
theorem roC_4 {tx : Nat → Int32} {T P K : Nat} {wd nu : Nat → Int32} (h : sq_X2_wordUpTo tx P (enT tx T P) = 4) : roC tx T P K wd nu = sq_X2_readOrder_4 tx T P K wd nu := by
  unfold roC; rw [h]; rfl
theorem roC_n {tx : Nat → Int32} {T P K : Nat} {wd nu : Nat → Int32} (h : sq_X2_wordUpTo tx P (enT tx T P) = -1) : roC tx T P K wd nu = sq_X2_readOrder_n tx T P K wd nu := by
  unfold roC; rw [h]; rfl
theorem k_X2_readOrder (l : Launch) (g : Gf) (n : Nat) (c : Mp) (T : Nat) (hT7 : T ≤ 70) (K P : Nat) (hK : K < 11) (hPT : P ≤ T) (hO : c 348 = otC g (nI T) (nI K) (nI P)) (tx : Nat → Int32) (hOt : c 349 = some (.inl (g.2.1 2, 70, .inl tx))) (wd : Nat → Int32) (hOw : c 350 = iaA (g.2.1 0) 11 wd) (nu : Nat → Int32) (hOn : c 351 = iaA (g.2.1 0) 33 nu) : Ct l g yX2_readOrder wsX2_readOrder 6 130 0 0 [.ref (gz g + 348)] n c (Qi g (fun xr n' c' => n' = n ∧ xr = (roC tx T P K wd nu).1 ∧ c' = va_up (va_up (va_up c 350 (iaA (g.2.1 0) 11 (roC tx T P K wd nu).2.1)) 351 (iaA (g.2.1 0) 33 (roC tx T P K wd nu).2.2.1)) 348 (otC g (nI T) (nI K) (nI (roC tx T P K wd nu).2.2.2)))) := by
  rcases word_c tx P (enT tx T P) with q | q | q | q | q | q
  · rw [roC_0 q]; exact k_X2_readOrder_0 l g n c T hT7 K P hK hPT hO tx hOt wd hOw nu hOn q
  · rw [roC_1 q]; exact k_X2_readOrder_1 l g n c T hT7 K P hK hPT hO tx hOt wd hOw nu hOn q
  · rw [roC_2 q]; exact k_X2_readOrder_2 l g n c T hT7 K P hK hPT hO tx hOt wd hOw nu hOn q
  · rw [roC_3 q]; exact k_X2_readOrder_3 l g n c T hT7 K P hK hPT hO tx hOt wd hOw nu hOn q
  · rw [roC_4 q]; exact k_X2_readOrder_4 l g n c T hT7 K P hK hPT hO tx hOt wd hOw nu hOn q
  · rw [roC_n q]; exact k_X2_readOrder_n l g n c T hT7 K P hK hPT hO tx hOt wd hOw nu hOn q
theorem rn_m {tx : Nat → Int32} {T a y K : Nat} {nu : Nat → Int32} {x : Int32} {j : Nat} (hT7 : T ≤ 70) (h : a ≤ y ∧ y ≤ T) (hlt : ¬ nI T ≤ nI y) : a ≤ (sq_X2_readNumber tx T (y + 1) K nu x j).2.2 ∧ (sq_X2_readNumber tx T (y + 1) K nu x j).2.2 ≤ T := by
  have hl := lp_lt (w := y) (N := T) rfl (by omega) (by omega) hlt
  have := readNumber_b (tx := tx) (T := T) (P := y + 1) (K := K) (nu := nu) (x := x) (j := j) (by omega)
  omega
theorem rc_b0 {tx : Nat → Int32} {T P K : Nat} {wd nu : Nat → Int32} (hT7 : T ≤ 70) (hP : P ≤ T) : enT tx T P ≤ (sq_X2_readOrder_0 tx T P K wd nu).2.2.2 ∧ (sq_X2_readOrder_0 tx T P K wd nu).2.2.2 ≤ T := by
  have h0 : enT tx T P ≤ enT tx T P ∧ enT tx T P ≤ T := ⟨Nat.le_refl _, (enT_b tx hP).2⟩
  unfold sq_X2_readOrder_0
  repeat' split
  all_goals dsimp only
  all_goals first
    | with_reducible exact h0
    | with_reducible exact rn_m hT7 h0 (by assumption)
    | with_reducible exact rn_m hT7 (rn_m hT7 h0 (by assumption)) (by assumption)
    | with_reducible exact rn_m hT7 (rn_m hT7 (rn_m hT7 h0 (by assumption)) (by assumption)) (by assumption)
theorem rc_b1 {tx : Nat → Int32} {T P K : Nat} {wd nu : Nat → Int32} (hT7 : T ≤ 70) (hP : P ≤ T) : enT tx T P ≤ (sq_X2_readOrder_1 tx T P K wd nu).2.2.2 ∧ (sq_X2_readOrder_1 tx T P K wd nu).2.2.2 ≤ T := by
  have h0 : enT tx T P ≤ enT tx T P ∧ enT tx T P ≤ T := ⟨Nat.le_refl _, (enT_b tx hP).2⟩
  unfold sq_X2_readOrder_1
  repeat' split
  all_goals dsimp only
  all_goals first
    | with_reducible exact h0
    | with_reducible exact rn_m hT7 h0 (by assumption)
    | with_reducible exact rn_m hT7 (rn_m hT7 h0 (by assumption)) (by assumption)
    | with_reducible exact rn_m hT7 (rn_m hT7 (rn_m hT7 h0 (by assumption)) (by assumption)) (by assumption)
theorem rc_b2 {tx : Nat → Int32} {T P K : Nat} {wd nu : Nat → Int32} (hT7 : T ≤ 70) (hP : P ≤ T) : enT tx T P ≤ (sq_X2_readOrder_2 tx T P K wd nu).2.2.2 ∧ (sq_X2_readOrder_2 tx T P K wd nu).2.2.2 ≤ T := by
  have h0 : enT tx T P ≤ enT tx T P ∧ enT tx T P ≤ T := ⟨Nat.le_refl _, (enT_b tx hP).2⟩
  unfold sq_X2_readOrder_2
  repeat' split
  all_goals dsimp only
  all_goals first
    | with_reducible exact h0
    | with_reducible exact rn_m hT7 h0 (by assumption)
    | with_reducible exact rn_m hT7 (rn_m hT7 h0 (by assumption)) (by assumption)
    | with_reducible exact rn_m hT7 (rn_m hT7 (rn_m hT7 h0 (by assumption)) (by assumption)) (by assumption)
theorem rc_b3 {tx : Nat → Int32} {T P K : Nat} {wd nu : Nat → Int32} (hT7 : T ≤ 70) (hP : P ≤ T) : enT tx T P ≤ (sq_X2_readOrder_3 tx T P K wd nu).2.2.2 ∧ (sq_X2_readOrder_3 tx T P K wd nu).2.2.2 ≤ T := by
  have h0 : enT tx T P ≤ enT tx T P ∧ enT tx T P ≤ T := ⟨Nat.le_refl _, (enT_b tx hP).2⟩
  unfold sq_X2_readOrder_3
  repeat' split
  all_goals dsimp only
  all_goals first
    | with_reducible exact h0
    | with_reducible exact rn_m hT7 h0 (by assumption)
    | with_reducible exact rn_m hT7 (rn_m hT7 h0 (by assumption)) (by assumption)
    | with_reducible exact rn_m hT7 (rn_m hT7 (rn_m hT7 h0 (by assumption)) (by assumption)) (by assumption)
theorem rc_b4 {tx : Nat → Int32} {T P K : Nat} {wd nu : Nat → Int32} (hT7 : T ≤ 70) (hP : P ≤ T) : enT tx T P ≤ (sq_X2_readOrder_4 tx T P K wd nu).2.2.2 ∧ (sq_X2_readOrder_4 tx T P K wd nu).2.2.2 ≤ T := by
  have h0 : enT tx T P ≤ enT tx T P ∧ enT tx T P ≤ T := ⟨Nat.le_refl _, (enT_b tx hP).2⟩
  unfold sq_X2_readOrder_4
  repeat' split
  all_goals dsimp only
  all_goals first
    | with_reducible exact h0
    | with_reducible exact rn_m hT7 h0 (by assumption)
    | with_reducible exact rn_m hT7 (rn_m hT7 h0 (by assumption)) (by assumption)
    | with_reducible exact rn_m hT7 (rn_m hT7 (rn_m hT7 h0 (by assumption)) (by assumption)) (by assumption)
theorem roC_b {tx : Nat → Int32} {T P K : Nat} {wd nu : Nat → Int32} (hT7 : T ≤ 70) (hP : P ≤ T) : P ≤ (roC tx T P K wd nu).2.2.2 ∧ (roC tx T P K wd nu).2.2.2 ≤ T := by
  have hb := enT_b tx hP
  rcases word_c tx P (enT tx T P) with q | q | q | q | q | q
  · rw [roC_0 q]; have := rc_b0 (tx := tx) (K := K) (wd := wd) (nu := nu) hT7 hP; omega
  · rw [roC_1 q]; have := rc_b1 (tx := tx) (K := K) (wd := wd) (nu := nu) hT7 hP; omega
  · rw [roC_2 q]; have := rc_b2 (tx := tx) (K := K) (wd := wd) (nu := nu) hT7 hP; omega
  · rw [roC_3 q]; have := rc_b3 (tx := tx) (K := K) (wd := wd) (nu := nu) hT7 hP; omega
  · rw [roC_4 q]; have := rc_b4 (tx := tx) (K := K) (wd := wd) (nu := nu) hT7 hP; omega
  · rw [roC_n q]; unfold sq_X2_readOrder_n; exact ⟨Nat.le_refl _, hP⟩
/-- the orders of the text, read one behind another: what is told, words, numbers, how many, the place -/
def rcL (tx : Nat → Int32) (T : Nat) : Nat → Nat → Nat → (Nat → Int32) → (Nat → Int32) → Int32 × (Nat → Int32) × (Nat → Int32) × Nat × Nat
  | 0, P, K, wd, nu => (nI P, wd, nu, K, P)
  | f + 1, P, K, wd, nu => if (roC tx T P K wd nu).1 = 0 then (nI (roC tx T P K wd nu).2.2.2, (roC tx T P K wd nu).2.1, (roC tx T P K wd nu).2.2.1, K, (roC tx T P K wd nu).2.2.2) else if (roC tx T P K wd nu).2.2.2 < T then (if tx (roC tx T P K wd nu).2.2.2 = 59 then rcL tx T f ((roC tx T P K wd nu).2.2.2 + 1) (K + 1) (roC tx T P K wd nu).2.1 (roC tx T P K wd nu).2.2.1 else (nI (roC tx T P K wd nu).2.2.2, (roC tx T P K wd nu).2.1, (roC tx T P K wd nu).2.2.1, K + 1, (roC tx T P K wd nu).2.2.2)) else (-1, (roC tx T P K wd nu).2.1, (roC tx T P K wd nu).2.2.1, K + 1, (roC tx T P K wd nu).2.2.2)
def rcA (tx : Nat → Int32) (T : Nat) (wd nu : Nat → Int32) : Int32 × (Nat → Int32) × (Nat → Int32) × Nat × Nat := rcL tx T 11 0 0 wd nu
set_option maxHeartbeats 4000000 in
set_option maxRecDepth 100000 in
theorem k_X2_readOrders (l : Launch) (g : Gf) (n : Nat) (c : Mp) (T : Nat) (hT7 : T ≤ 70) (ct pl : Int32) (hO : c 348 = otC g (nI T) ct pl) (tx : Nat → Int32) (hOt : c 349 = some (.inl (g.2.1 2, 70, .inl tx))) (wd0 : Nat → Int32) (hOw : c 350 = iaA (g.2.1 0) 11 wd0) (nu0 : Nat → Int32) (hOn : c 351 = iaA (g.2.1 0) 33 nu0) : Ct l g yX2_readOrders wsX2_readOrders 7 154 0 0 [.ref (gz g + 348)] n c (Qi g (fun xr n' c' => n' = n ∧ xr = (rcA tx T wd0 nu0).1 ∧ c' = va_up (va_up (va_up c 348 (otC g (nI T) (nI (rcA tx T wd0 nu0).2.2.2.1) (nI (rcA tx T wd0 nu0).2.2.2.2))) 350 (iaA (g.2.1 0) 11 (rcA tx T wd0 nu0).2.1)) 351 (iaA (g.2.1 0) 33 (rcA tx T wd0 nu0).2.2.1))) := by
  refine ent (by decide) rfl (Nat.le_of_ble_eq_true rfl) ?_
  intro p e s m args below meth c0 F h ls hl
  have hx := F.1
  have hb := F.2.1
  have hl : lv_has ls 1 [(0, .ref (gz g + 348))] := hl
  refine lv_aload_n hx hb dX2_readOrders_0 rfl (lv_at hl 0 rfl) ?_
  refine lv_iconst (v := 0) hx hb dX2_readOrders_1 (by decide) ?_
  refine r_put F h (C := RX2) (T := TX2) (N := 6) (fs' := [.ref (gz g + 349), .int (nI T), .ref (gz g + 350), .ref (gz g + 351), .int ct, .int 0]) (hjc hi_X2) tyX2 tyX2_ok nmX2 rfl hO 5 (by decide) (List.mem_cons_of_mem _ wd_273) rfl (rfl) (rfl) (Nat.le_of_ble_eq_true rfl) rfl dX2_readOrders_2 (fun H locs h => ?_)
  refine lv_aload_n hx hb dX2_readOrders_5 rfl (lv_at hl 0 rfl) ?_
  refine lv_iconst (v := 0) hx hb dX2_readOrders_6 (by decide) ?_
  refine r_put F h (C := RX2) (T := TX2) (N := 6) (fs' := [.ref (gz g + 349), .int (nI T), .ref (gz g + 350), .ref (gz g + 351), .int 0, .int 0]) (hjc hi_X2) tyX2 tyX2_ok nmX2 rfl (mu_eq _ _ _) 4 (by decide) (List.mem_cons_of_mem _ wd_271) rfl (rfl) (rfl) (Nat.le_of_ble_eq_true rfl) rfl dX2_readOrders_7 (fun H locs h => ?_)
  refine r_mem (c1 := (va_up c 348 (some (.inr (2, [.ref (gz g + 349), .int (nI T), .ref (gz g + 350), .ref (gz g + 351), .int 0, .int 0]))))) h (mu_uu _ _ _ _) (fun h => ?_)
  refine r_mem (c1 := (va_up c 348 (some (.inr (2, [.ref (gz g + 349), .int (nI T), .ref (gz g + 350), .ref (gz g + 351), .int (nI 0), .int (nI 0)]))))) h (by rw [nI_0]) (fun h => ?_)
  refine r_mem (c1 := (va_up (va_up c 348 (some (.inr (2, [.ref (gz g + 349), .int (nI T), .ref (gz g + 350), .ref (gz g + 351), .int (nI 0), .int (nI 0)])))) 350 (some (.inl (g.2.1 0, 11, .inl wd0))))) h ((mu_self ((mu_ne (by decide) _).trans hOw)).symm) (fun h => ?_)
  refine r_mem (c1 := (va_up (va_up (va_up c 348 (some (.inr (2, [.ref (gz g + 349), .int (nI T), .ref (gz g + 350), .ref (gz g + 351), .int (nI 0), .int (nI 0)])))) 350 (some (.inl (g.2.1 0, 11, .inl wd0)))) 351 (some (.inl (g.2.1 0, 33, .inl nu0))))) h ((mu_self ((mu_ne (by decide) _).trans ((mu_ne (by decide) _).trans hOn))).symm) (fun h => ?_)
  have lp : ∀ (k : Nat) (K P : Nat) (wd nu : Nat → Int32) (hK : K ≤ 11) (hPT : P ≤ T) (hR : rcL tx T (11 - K) P K wd nu = (rcA tx T wd0 nu0)) (H : Heap) (locs : List Loc) (ls : Array Slot), (12 - K) ≤ k → Hv g s H locs n (va_up (va_up (va_up c 348 (some (.inr (2, [.ref (gz g + 349), .int (nI T), .ref (gz g + 350), .ref (gz g + 351), .int (nI K), .int (nI P)])))) 350 (some (.inl (g.2.1 0, 11, .inl wd)))) 351 (some (.inl (g.2.1 0, 33, .inl nu)))) → lv_has ls 1 [(0, .ref (gz g + 348))] → W p l e (Rm 7 154 0 0) s m args below meth c0 H locs 0 0 (MQ below (Qi g (fun xr n' c' => n' = n ∧ xr = (rcA tx T wd0 nu0).1 ∧ c' = va_up (va_up (va_up c 348 (otC g (nI T) (nI (rcA tx T wd0 nu0).2.2.2.1) (nI (rcA tx T wd0 nu0).2.2.2.2))) 350 (iaA (g.2.1 0) 11 (rcA tx T wd0 nu0).2.1)) 351 (iaA (g.2.1 0) 33 (rcA tx T wd0 nu0).2.2.1))) args s 0 0 (mAf g)) (F0 m 10 ls []) := by
    intro k
    induction k with
    | zero => intro K P wd nu hK hPT hR H locs ls hk h hl; exact absurd hk (by omega)
    | succ k ih =>
      intro K P wd nu hK hPT hR H locs ls hk h hl
      refine lv_aload_n hx hb dX2_readOrders_10 rfl (lv_at hl 0 rfl) ?_
      refine r_get F h (C := RX2) (T := TX2) (N := 6) (hjc hi_X2) rfl ((mu_ne (by decide) _).trans ((mu_ne (by decide) _).trans (mu_eq _ _ _))) 4 (by decide) (List.mem_cons_of_mem _ wd_271) rfl dX2_readOrders_11 ?_
      refine lv_bipush (v := 11) hx hb dX2_readOrders_14 (by decide) ?_
      refine lv_icmp_ge (tgt := 86) hx hb dX2_readOrders_16 (by decide) (fun b_16 => ?_) (fun b_16 => ?_)
      · skip
        refine lv_aload_n hx hb dX2_readOrders_86 rfl (lv_at hl 0 rfl) ?_
        refine r_get F h (C := RX2) (T := TX2) (N := 6) (hjc hi_X2) rfl ((mu_ne (by decide) _).trans ((mu_ne (by decide) _).trans (mu_eq _ _ _))) 5 (by decide) (List.mem_cons_of_mem _ wd_273) rfl dX2_readOrders_87 ?_
        exact ret_i F h (Nat.zero_le _) (Nat.zero_le _) dX2_readOrders_90 (⟨rfl, by rw [← hR, show 11 - K = 0 by have := lp_ge (N := 11) rfl (by omega) (by decide) b_16; omega, rcL], by rw [← hR, show 11 - K = 0 by have := lp_ge (N := 11) rfl (by omega) (by decide) b_16; omega, rcL]⟩)
      have hk4 : K < 11 := lp_lt (N := 11) rfl (by omega) (by decide) b_16
      refine lv_aload_n hx hb dX2_readOrders_19 rfl (lv_at hl 0 rfl) ?_
      have hsb := roC_b (tx := tx) (T := T) (P := P) (K := K) (wd := wd) (nu := nu) hT7 hPT
      refine u_i (ru_V (As := []) (rest := []) F h ((mu_ne (by decide) _).trans ((mu_ne (by decide) _).trans (mu_eq _ _ _))) rfl (k_X2_readOrder l g n (va_up (va_up (va_up c 348 (some (.inr (2, [.ref (gz g + 349), .int (nI T), .ref (gz g + 350), .ref (gz g + 351), .int (nI K), .int (nI P)])))) 350 (some (.inl (g.2.1 0, 11, .inl wd)))) 351 (some (.inl (g.2.1 0, 33, .inl nu)))) T hT7 K P (by omega) hPT ((mu_ne (by decide) _).trans ((mu_ne (by decide) _).trans (mu_eq _ _ _))) tx ((mu_ne (by decide) _).trans ((mu_ne (by decide) _).trans ((mu_ne (by decide) _).trans hOt))) wd ((mu_ne (by decide) _).trans (mu_eq _ _ _)) nu (mu_eq _ _ _)) (gV hjl wd_624 wd_625 wd_626 wd_57 wd_627) rfl 0 (by decide +kernel) rfl ⟨Nat.le_of_ble_eq_true rfl, Nat.le_of_ble_eq_true rfl⟩ rfl hl.1 (Nat.le_of_ble_eq_true rfl) ⟨Nat.zero_le _, Nat.zero_le _⟩ dX2_readOrders_20) h (fun r1 n1 c1 H locs hp h => ?_)
      obtain ⟨hn1, hr1, hc1⟩ := hp
      rw [hn1, hc1] at h
      rw [hr1]
      refine r_mem (c1 := (va_up (va_up (va_up c 348 (some (.inr (2, [.ref (gz g + 349), .int (nI T), .ref (gz g + 350), .ref (gz g + 351), .int (nI K), .int (nI ((roC tx T P K wd nu).2.2.2))])))) 350 (some (.inl (g.2.1 0, 11, .inl ((roC tx T P K wd nu).2.1))))) 351 (some (.inl (g.2.1 0, 33, .inl ((roC tx T P K wd nu).2.2.1)))))) h (by funext zz; simp only [va_up]; (repeat' split) <;> first | rfl | omega) (fun h => ?_)
      refine lv_if_ne (tgt := 31) hx hb dX2_readOrders_23 (by decide) (fun b_23 => ?_) (fun b_23 => ?_)
      · skip
        refine lv_aload_n hx hb dX2_readOrders_31 rfl (lv_at hl 0 rfl) ?_
        refine lv_dup hx hb dX2_readOrders_32 rfl ?_
        refine r_get F h (C := RX2) (T := TX2) (N := 6) (hjc hi_X2) rfl ((mu_ne (by decide) _).trans ((mu_ne (by decide) _).trans (mu_eq _ _ _))) 4 (by decide) (List.mem_cons_of_mem _ wd_271) rfl dX2_readOrders_33 ?_
        refine lv_iconst (v := 1) hx hb dX2_readOrders_36 (by decide) ?_
        refine lv_iadd hx hb dX2_readOrders_37 ?_
        refine r_top (w := .int (nI (K + 1))) (congrArg Value.int (nI_succ K).symm) ?_
        refine r_put F h (C := RX2) (T := TX2) (N := 6) (fs' := [.ref (gz g + 349), .int (nI T), .ref (gz g + 350), .ref (gz g + 351), .int (nI (K + 1)), .int (nI ((roC tx T P K wd nu).2.2.2))]) (hjc hi_X2) tyX2 tyX2_ok nmX2 rfl ((mu_ne (by decide) _).trans ((mu_ne (by decide) _).trans (mu_eq _ _ _))) 4 (by decide) (List.mem_cons_of_mem _ wd_271) rfl (rfl) (rfl) (Nat.le_of_ble_eq_true rfl) rfl dX2_readOrders_38 (fun H locs h => ?_)
        refine r_mem (c1 := (va_up (va_up (va_up c 348 (some (.inr (2, [.ref (gz g + 349), .int (nI T), .ref (gz g + 350), .ref (gz g + 351), .int (nI (K + 1)), .int (nI ((roC tx T P K wd nu).2.2.2))])))) 350 (some (.inl (g.2.1 0, 11, .inl ((roC tx T P K wd nu).2.1))))) 351 (some (.inl (g.2.1 0, 33, .inl ((roC tx T P K wd nu).2.2.1)))))) h ((mu_comm (by decide) _ _).trans (congrArg (fun z : Mp => va_up z 351 _) ((mu_comm (by decide) _ _).trans (congrArg (fun z : Mp => va_up z 350 _) (mu_uu _ _ _ _))))) (fun h => ?_)
        refine lv_aload_n hx hb dX2_readOrders_41 rfl (lv_at hl 0 rfl) ?_
        refine r_get F h (C := RX2) (T := TX2) (N := 6) (hjc hi_X2) rfl ((mu_ne (by decide) _).trans ((mu_ne (by decide) _).trans (mu_eq _ _ _))) 5 (by decide) (List.mem_cons_of_mem _ wd_273) rfl dX2_readOrders_42 ?_
        refine lv_aload_n hx hb dX2_readOrders_45 rfl (lv_at hl 0 rfl) ?_
        refine r_get F h (C := RX2) (T := TX2) (N := 6) (hjc hi_X2) rfl ((mu_ne (by decide) _).trans ((mu_ne (by decide) _).trans (mu_eq _ _ _))) 1 (by decide) (List.mem_cons_of_mem _ wd_266) rfl dX2_readOrders_46 ?_
        refine lv_icmp_lt (tgt := 54) hx hb dX2_readOrders_49 (by decide) (fun b_49 => ?_) (fun b_49 => ?_)
        · skip
          have hPl : (roC tx T P K wd nu).2.2.2 < T := by rcases Nat.lt_or_ge ((roC tx T P K wd nu).2.2.2) T with q | q; exact q; exact absurd b_49 (nI_nlt q (by omega))
          refine lv_aload_n hx hb dX2_readOrders_54 rfl (lv_at hl 0 rfl) ?_
          refine r_get F h (C := RX2) (T := TX2) (N := 6) (hjc hi_X2) rfl ((mu_ne (by decide) _).trans ((mu_ne (by decide) _).trans (mu_eq _ _ _))) 0 (by decide) (List.mem_cons_of_mem _ wd_265) rfl dX2_readOrders_55 ?_
          refine lv_aload_n hx hb dX2_readOrders_58 rfl (lv_at hl 0 rfl) ?_
          refine r_get F h (C := RX2) (T := TX2) (N := 6) (hjc hi_X2) rfl ((mu_ne (by decide) _).trans ((mu_ne (by decide) _).trans (mu_eq _ _ _))) 5 (by decide) (List.mem_cons_of_mem _ wd_273) rfl dX2_readOrders_59 ?_
          refine r_caldN F h (k := (roC tx T P K wd nu).2.2.2) ((mu_ne (by decide) _).trans ((mu_ne (by decide) _).trans ((mu_ne (by decide) _).trans hOt))) (rfl) (by omega) (by decide) dX2_readOrders_62 ?_
          refine lv_bipush (v := 59) hx hb dX2_readOrders_63 (by decide) ?_
          refine lv_icmp_eq (tgt := 73) hx hb dX2_readOrders_65 (by decide) (fun b_65 => ?_) (fun b_65 => ?_)
          · skip
            refine lv_aload_n hx hb dX2_readOrders_73 rfl (lv_at hl 0 rfl) ?_
            refine lv_dup hx hb dX2_readOrders_74 rfl ?_
            refine r_get F h (C := RX2) (T := TX2) (N := 6) (hjc hi_X2) rfl ((mu_ne (by decide) _).trans ((mu_ne (by decide) _).trans (mu_eq _ _ _))) 5 (by decide) (List.mem_cons_of_mem _ wd_273) rfl dX2_readOrders_75 ?_
            refine lv_iconst (v := 1) hx hb dX2_readOrders_78 (by decide) ?_
            refine lv_iadd hx hb dX2_readOrders_79 ?_
            refine r_top (w := .int (nI ((roC tx T P K wd nu).2.2.2 + 1))) (congrArg Value.int (nI_succ (roC tx T P K wd nu).2.2.2).symm) ?_
            refine r_put F h (C := RX2) (T := TX2) (N := 6) (fs' := [.ref (gz g + 349), .int (nI T), .ref (gz g + 350), .ref (gz g + 351), .int (nI (K + 1)), .int (nI ((roC tx T P K wd nu).2.2.2 + 1))]) (hjc hi_X2) tyX2 tyX2_ok nmX2 rfl ((mu_ne (by decide) _).trans ((mu_ne (by decide) _).trans (mu_eq _ _ _))) 5 (by decide) (List.mem_cons_of_mem _ wd_273) rfl (rfl) (rfl) (Nat.le_of_ble_eq_true rfl) rfl dX2_readOrders_80 (fun H locs h => ?_)
            refine r_mem (c1 := (va_up (va_up (va_up c 348 (some (.inr (2, [.ref (gz g + 349), .int (nI T), .ref (gz g + 350), .ref (gz g + 351), .int (nI (K + 1)), .int (nI ((roC tx T P K wd nu).2.2.2 + 1))])))) 350 (some (.inl (g.2.1 0, 11, .inl ((roC tx T P K wd nu).2.1))))) 351 (some (.inl (g.2.1 0, 33, .inl ((roC tx T P K wd nu).2.2.1)))))) h ((mu_comm (by decide) _ _).trans (congrArg (fun z : Mp => va_up z 351 _) ((mu_comm (by decide) _ _).trans (congrArg (fun z : Mp => va_up z 350 _) (mu_uu _ _ _ _))))) (fun h => ?_)
            refine lv_goto (tgt := 10) hx hb dX2_readOrders_83 (by decide) ?_
            exact ih (K + 1) _ _ _ (by omega) (by omega) (by rw [← hR, show 11 - K = (11 - (K + 1)) + 1 by omega, rcL, if_neg b_23, if_pos hPl, if_pos b_65]) _ _ _ (by omega) h (lv_sub hl [0] rfl)
          refine lv_aload_n hx hb dX2_readOrders_68 rfl (lv_at hl 0 rfl) ?_
          refine r_get F h (C := RX2) (T := TX2) (N := 6) (hjc hi_X2) rfl ((mu_ne (by decide) _).trans ((mu_ne (by decide) _).trans (mu_eq _ _ _))) 5 (by decide) (List.mem_cons_of_mem _ wd_273) rfl dX2_readOrders_69 ?_
          exact ret_i F h (Nat.zero_le _) (Nat.zero_le _) dX2_readOrders_72 (⟨rfl, by rw [← hR, show 11 - K = (11 - (K + 1)) + 1 by omega, rcL, if_neg b_23, if_pos hPl, if_neg b_65], by rw [← hR, show 11 - K = (11 - (K + 1)) + 1 by omega, rcL, if_neg b_23, if_pos hPl, if_neg b_65]⟩)
        refine lv_iconst (v := (-1)) hx hb dX2_readOrders_52 (by decide) ?_
        exact ret_i F h (Nat.zero_le _) (Nat.zero_le _) dX2_readOrders_53 (⟨rfl, by rw [← hR, show 11 - K = (11 - (K + 1)) + 1 by omega, rcL, if_neg b_23, if_neg (fun z => b_49 (nI_lt z (by omega)))], by rw [← hR, show 11 - K = (11 - (K + 1)) + 1 by omega, rcL, if_neg b_23, if_neg (fun z => b_49 (nI_lt z (by omega)))]⟩)
      refine lv_aload_n hx hb dX2_readOrders_26 rfl (lv_at hl 0 rfl) ?_
      refine r_get F h (C := RX2) (T := TX2) (N := 6) (hjc hi_X2) rfl ((mu_ne (by decide) _).trans ((mu_ne (by decide) _).trans (mu_eq _ _ _))) 5 (by decide) (List.mem_cons_of_mem _ wd_273) rfl dX2_readOrders_27 ?_
      exact ret_i F h (Nat.zero_le _) (Nat.zero_le _) dX2_readOrders_30 (⟨rfl, by rw [← hR, show 11 - K = (11 - (K + 1)) + 1 by omega, rcL, if_pos b_23], by rw [← hR, show 11 - K = (11 - (K + 1)) + 1 by omega, rcL, if_pos b_23]⟩)
  exact lp _ 0 0 wd0 nu0 (Nat.zero_le _) (Nat.zero_le _) rfl _ _ _ (Nat.le_refl _) h (lv_sub hl [0] rfl)
