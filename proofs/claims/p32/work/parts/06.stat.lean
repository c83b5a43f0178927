/-! Small functions without memory. -/
set_option maxHeartbeats 4000000 in
set_option maxRecDepth 100000 in
theorem k_X7_isWithin (l : Launch) (g : Gf) (n : Nat) (c : Mp) (v lo hi : Int32) : Ct l g yX7_isWithin wsX7_isWithin 0 0 0 0 [.int v, .int lo, .int hi] n c (Qi g (fun xr n' c' => xr = inI v lo hi ∧ n' = n ∧ c' = c)) := by
  refine ent (by decide) rfl (Nat.le_of_ble_eq_true rfl) ?_
  intro p e s m args below meth c0 F h ls hl
  have hx := F.1
  have hb := F.2.1
  have hl : lv_has ls 3 [(0, .int v), (1, .int lo), (2, .int hi)] := hl
  refine lv_iload_n hx hb dX7_isWithin_0 rfl (lv_at hl 0 rfl) ?_
  refine lv_iload_n hx hb dX7_isWithin_1 rfl (lv_at hl 1 rfl) ?_
  refine lv_icmp_lt (tgt := 14) hx hb dX7_isWithin_2 (by decide) (fun b_2 => ?_) (fun b_2 => ?_)
  · skip
    refine lv_iconst (v := 0) hx hb dX7_isWithin_14 (by decide) ?_
    exact ret_z F h (by decide) (Nat.zero_le _) (Nat.zero_le _) dX7_isWithin_15 (⟨by simp [inI, *], rfl, rfl⟩)
  refine lv_iload_n hx hb dX7_isWithin_5 rfl (lv_at hl 0 rfl) ?_
  refine lv_iload_n hx hb dX7_isWithin_6 rfl (lv_at hl 2 rfl) ?_
  refine lv_icmp_gt (tgt := 14) hx hb dX7_isWithin_7 (by decide) (fun b_7 => ?_) (fun b_7 => ?_)
  · skip
    refine lv_iconst (v := 0) hx hb dX7_isWithin_14 (by decide) ?_
    exact ret_z F h (by decide) (Nat.zero_le _) (Nat.zero_le _) dX7_isWithin_15 (⟨by simp [inI, *], rfl, rfl⟩)
  refine lv_iconst (v := 1) hx hb dX7_isWithin_10 (by decide) ?_
  refine lv_goto (tgt := 15) hx hb dX7_isWithin_11 (by decide) ?_
  exact ret_z F h (by decide) (Nat.zero_le _) (Nat.zero_le _) dX7_isWithin_15 (⟨by simp [inI, *], rfl, rfl⟩)
set_option maxHeartbeats 4000000 in
set_option maxRecDepth 100000 in
theorem k_X7_isWire (l : Launch) (g : Gf) (n : Nat) (c : Mp) (v : Int32) : Ct l g yX7_isWire wsX7_isWire 1 22 0 0 [.int v] n c (Qi g (fun xr n' c' => xr = inI v 0 3 ∧ n' = n ∧ c' = c)) := by
  refine ent (by decide) rfl (Nat.le_of_ble_eq_true rfl) ?_
  intro p e s m args below meth c0 F h ls hl
  have hx := F.1
  have hb := F.2.1
  have hl : lv_has ls 1 [(0, .int v)] := hl
  refine lv_iload_n hx hb dX7_isWire_0 rfl (lv_at hl 0 rfl) ?_
  refine lv_iconst (v := 0) hx hb dX7_isWire_1 (by decide) ?_
  refine lv_iconst (v := 3) hx hb dX7_isWire_2 (by decide) ?_
  refine u_iE (v := (inI v 0 3)) (ru_S (As := [.int v, .int 0, .int 3]) (rest := []) F h (k_X7_isWithin l g n c v 0 3) (gS hjl wd_277 wd_278 wd_16 wd_279) rfl 3 (by decide +kernel) rfl ⟨Nat.le_of_ble_eq_true rfl, Nat.le_of_ble_eq_true rfl⟩ rfl hl.1 (Nat.le_of_ble_eq_true rfl) ⟨Nat.zero_le _, Nat.zero_le _⟩ dX7_isWire_3) h (fun H locs h => ?_)
  exact ret_z F h (inI_nar _ _ _) (Nat.zero_le _) (Nat.zero_le _) dX7_isWire_6 (⟨rfl, rfl, rfl⟩)
set_option maxHeartbeats 4000000 in
set_option maxRecDepth 100000 in
theorem k_X7_isPair (l : Launch) (g : Gf) (n : Nat) (c : Mp) (v : Int32) : Ct l g yX7_isPair wsX7_isPair 1 22 0 0 [.int v] n c (Qi g (fun xr n' c' => xr = inI v 0 1 ∧ n' = n ∧ c' = c)) := by
  refine ent (by decide) rfl (Nat.le_of_ble_eq_true rfl) ?_
  intro p e s m args below meth c0 F h ls hl
  have hx := F.1
  have hb := F.2.1
  have hl : lv_has ls 1 [(0, .int v)] := hl
  refine lv_iload_n hx hb dX7_isPair_0 rfl (lv_at hl 0 rfl) ?_
  refine lv_iconst (v := 0) hx hb dX7_isPair_1 (by decide) ?_
  refine lv_iconst (v := 1) hx hb dX7_isPair_2 (by decide) ?_
  refine u_iE (v := (inI v 0 1)) (ru_S (As := [.int v, .int 0, .int 1]) (rest := []) F h (k_X7_isWithin l g n c v 0 1) (gS hjl wd_277 wd_278 wd_16 wd_279) rfl 3 (by decide +kernel) rfl ⟨Nat.le_of_ble_eq_true rfl, Nat.le_of_ble_eq_true rfl⟩ rfl hl.1 (Nat.le_of_ble_eq_true rfl) ⟨Nat.zero_le _, Nat.zero_le _⟩ dX7_isPair_3) h (fun H locs h => ?_)
  exact ret_z F h (inI_nar _ _ _) (Nat.zero_le _) (Nat.zero_le _) dX7_isPair_6 (⟨rfl, rfl, rfl⟩)
set_option maxHeartbeats 4000000 in
set_option maxRecDepth 100000 in
theorem k_X7_isSlot (l : Launch) (g : Gf) (n : Nat) (c : Mp) (v : Int32) : Ct l g yX7_isSlot wsX7_isSlot 1 22 0 0 [.int v] n c (Qi g (fun xr n' c' => xr = inI v 0 1 ∧ n' = n ∧ c' = c)) := by
  refine ent (by decide) rfl (Nat.le_of_ble_eq_true rfl) ?_
  intro p e s m args below meth c0 F h ls hl
  have hx := F.1
  have hb := F.2.1
  have hl : lv_has ls 1 [(0, .int v)] := hl
  refine lv_iload_n hx hb dX7_isSlot_0 rfl (lv_at hl 0 rfl) ?_
  refine lv_iconst (v := 0) hx hb dX7_isSlot_1 (by decide) ?_
  refine lv_iconst (v := 1) hx hb dX7_isSlot_2 (by decide) ?_
  refine u_iE (v := (inI v 0 1)) (ru_S (As := [.int v, .int 0, .int 1]) (rest := []) F h (k_X7_isWithin l g n c v 0 1) (gS hjl wd_277 wd_278 wd_16 wd_279) rfl 3 (by decide +kernel) rfl ⟨Nat.le_of_ble_eq_true rfl, Nat.le_of_ble_eq_true rfl⟩ rfl hl.1 (Nat.le_of_ble_eq_true rfl) ⟨Nat.zero_le _, Nat.zero_le _⟩ dX7_isSlot_3) h (fun H locs h => ?_)
  exact ret_z F h (inI_nar _ _ _) (Nat.zero_le _) (Nat.zero_le _) dX7_isSlot_6 (⟨rfl, rfl, rfl⟩)
/-- no wire: 1, else 0 -/
def noW (v : Int32) : Int32 := if inI v 0 3 = 0 then 1 else 0
def szI (v : Int32) : Int32 := if 0 ≤ v then v else -v
def rz (a b : Int32) : Int32 := if b = 0 then 0 else a / b
set_option maxHeartbeats 4000000 in
set_option maxRecDepth 100000 in
theorem k_X7_roundedToZero (l : Launch) (g : Gf) (n : Nat) (c : Mp) (a b : Int32) : Ct l g yX7_roundedToZero wsX7_roundedToZero 0 0 0 0 [.int a, .int b] n c (Qi g (fun xr n' c' => xr = rz a b ∧ n' = n ∧ c' = c)) := by
  refine ent (by decide) rfl (Nat.le_of_ble_eq_true rfl) ?_
  intro p e s m args below meth c0 F h ls hl
  have hx := F.1
  have hb := F.2.1
  have hl : lv_has ls 2 [(0, .int a), (1, .int b)] := hl
  refine lv_iload_n hx hb dX7_roundedToZero_0 rfl (lv_at hl 1 rfl) ?_
  refine lv_if_ne (tgt := 6) hx hb dX7_roundedToZero_1 (by decide) (fun b_1 => ?_) (fun b_1 => ?_)
  · skip
    refine lv_iload_n hx hb dX7_roundedToZero_6 rfl (lv_at hl 0 rfl) ?_
    refine lv_iload_n hx hb dX7_roundedToZero_7 rfl (lv_at hl 1 rfl) ?_
    refine lv_idiv hx hb dX7_roundedToZero_8 (b_1) ?_
    exact ret_i F h (Nat.zero_le _) (Nat.zero_le _) dX7_roundedToZero_9 (⟨by simp [rz, *], rfl, rfl⟩)
  refine lv_iconst (v := 0) hx hb dX7_roundedToZero_4 (by decide) ?_
  exact ret_i F h (Nat.zero_le _) (Nat.zero_le _) dX7_roundedToZero_5 (⟨by simp [rz, *], rfl, rfl⟩)
def lrI (a b : Int32) : Int32 := if a = 0 then b else if b = 0 then a else if b < a then b else a
set_option maxHeartbeats 4000000 in
set_option maxRecDepth 100000 in
theorem k_X7_lowerReason (l : Launch) (g : Gf) (n : Nat) (c : Mp) (a b : Int32) : Ct l g yX7_lowerReason wsX7_lowerReason 1 21 0 0 [.int a, .int b] n c (Qi g (fun xr n' c' => xr = lrI a b ∧ n' = n ∧ c' = c)) := by
  refine ent (by decide) rfl (Nat.le_of_ble_eq_true rfl) ?_
  intro p e s m args below meth c0 F h ls hl
  have hx := F.1
  have hb := F.2.1
  have hl : lv_has ls 2 [(0, .int a), (1, .int b)] := hl
  refine lv_iload_n hx hb dX7_lowerReason_0 rfl (lv_at hl 0 rfl) ?_
  refine lv_if_ne (tgt := 6) hx hb dX7_lowerReason_1 (by decide) (fun b_1 => ?_) (fun b_1 => ?_)
  · skip
    refine lv_iload_n hx hb dX7_lowerReason_6 rfl (lv_at hl 1 rfl) ?_
    refine lv_if_ne (tgt := 12) hx hb dX7_lowerReason_7 (by decide) (fun b_7 => ?_) (fun b_7 => ?_)
    · skip
      refine lv_iload_n hx hb dX7_lowerReason_12 rfl (lv_at hl 0 rfl) ?_
      refine lv_iload_n hx hb dX7_lowerReason_13 rfl (lv_at hl 1 rfl) ?_
      refine va_mmin hx hb (F.2.2.1.trans hl.1.symm) F.2.2.2.1 (F.2.2.2.2.1 _ (List.mem_cons_of_mem _ wd_671)) (F.2.2.2.2.1 _ (List.mem_cons_of_mem _ wd_464)) (F.2.2.2.2.1 _ (List.mem_cons_of_mem _ wd_23)) (F.2.2.2.2.1 _ (List.mem_cons_of_mem _ wd_465)) (Nat.le_of_ble_eq_true rfl) (Nat.le_of_ble_eq_true rfl) (Nat.zero_le _) (Nat.zero_le _) dX7_lowerReason_14 ?_
      exact ret_i F h (Nat.zero_le _) (Nat.zero_le _) dX7_lowerReason_17 (⟨by simp [lrI, *], rfl, rfl⟩)
    refine lv_iload_n hx hb dX7_lowerReason_10 rfl (lv_at hl 0 rfl) ?_
    exact ret_i F h (Nat.zero_le _) (Nat.zero_le _) dX7_lowerReason_11 (⟨by simp [lrI, *], rfl, rfl⟩)
  refine lv_iload_n hx hb dX7_lowerReason_4 rfl (lv_at hl 1 rfl) ?_
  exact ret_i F h (Nat.zero_le _) (Nat.zero_le _) dX7_lowerReason_5 (⟨by simp [lrI, *], rfl, rfl⟩)
def mnI (a b : Int32) : Int32 := if b ≤ a then b else a
def cmI (b : Int32) : Int32 := if b = 0 then 95 else if b = 1 then 70 else 50
theorem fdL_c {x y : Int64} (hy : 0 < y.toInt) (h : lg_cmp (x ^^^ y) 0 < 0) (h2 : ¬ lg_cmp (x / y * y) x = 0) : x / y - 1 = fdL x y := by
  refine fdL_a hy ?_
  rw [lg_cmp_lt, l_xor (Int.le_of_lt hy)] at h
  rw [lg_cmp_eq] at h2
  have hr := l_rem (x := x) hy
  have hx : x.toInt < 0 := by rw [l_lt] at h; exact h
  have h3 := t_nonpos (y := y.toInt) (Int.le_of_lt hx)
  rw [l_lt, hr]
  show _ < (0 : Int)
  have h4 : x.toInt.tmod y.toInt ≠ 0 := by
    intro z
    rw [z] at hr
    have h5 : x - x / y * y = 0 := by rw [l_eq, hr]; rfl
    have e : x - x / y * y + x / y * y = 0 + x / y * y := by rw [h5]
    rw [Int64.sub_add_cancel, Int64.zero_add] at e
    exact h2 e.symm
  omega
theorem fdL_d {x y : Int64} (hy : 0 < y.toInt) (h : ¬ (lg_cmp (x ^^^ y) 0 < 0 ∧ ¬ lg_cmp (x / y * y) x = 0)) : x / y = fdL x y := by
  refine fdL_b hy ?_
  intro z
  rw [l_lt, l_rem hy] at z
  have z : x.toInt.tmod y.toInt < 0 := z
  refine h ⟨?_, ?_⟩
  · rw [lg_cmp_lt, l_xor (Int.le_of_lt hy), l_lt]
    refine Int.not_le.mp (fun q => ?_)
    have := Int.tmod_nonneg y.toInt (show 0 ≤ x.toInt from q)
    omega
  · rw [lg_cmp_eq]
    intro q
    have hr := l_rem (x := x) hy
    rw [q] at hr
    rw [← hr] at z
    have : (x - x).toInt = 0 := by rw [Int64.sub_self]; rfl
    omega
set_option maxHeartbeats 4000000 in
set_option maxRecDepth 100000 in
theorem k_J9_floorDiv_f86c9 (l : Launch) (g : Gf) (n : Nat) (c : Mp) (x y : Int64) (hy : 0 < y.toInt) : Ct l g yJ9_floorDiv_f86c9 wsJ9_floorDiv_f86c9 0 0 0 0 [.long x, .long y] n c (Ql g (fun xr n' c' => xr = fdL x y ∧ n' = n ∧ c' = c)) := by
  refine entF (by decide +kernel) rfl (Nat.le_of_ble_eq_true rfl) ?_
  intro p e s m args below meth c0 F h ls hl
  have hx := F.1
  have hb := F.2.1
  have hl : lv_has ls 6 [(0, .long x), (2, .long y)] := hl
  refine lv_lload_n hx hb dJ9_floorDiv_f86c9_0 rfl (lv_at hl 0 rfl) ?_
  refine lv_lload_n hx hb dJ9_floorDiv_f86c9_1 rfl (lv_at hl 1 rfl) ?_
  refine lv_ldiv hx hb dJ9_floorDiv_f86c9_2 (fun z => by rw [z] at hy; exact absurd hy (by decide)) ?_
  refine lv_lstore (lv' := [(4, .long (x / y)), (0, .long x), (2, .long y)]) hx hb dJ9_floorDiv_f86c9_3 hl (by decide) rfl (fun ls hl => ?_)
  refine lv_lload_n hx hb dJ9_floorDiv_f86c9_5 rfl (lv_at hl 1 rfl) ?_
  refine lv_lload_n hx hb dJ9_floorDiv_f86c9_6 rfl (lv_at hl 2 rfl) ?_
  refine lv_lxor hx hb dJ9_floorDiv_f86c9_7 ?_
  refine lv_lconst (v := 0) hx hb dJ9_floorDiv_f86c9_8 (by decide) ?_
  refine W.lcmp hx hb dJ9_floorDiv_f86c9_9 ?_
  refine lv_if_ge (tgt := 27) hx hb dJ9_floorDiv_f86c9_10 (by decide) (fun b_10 => ?_) (fun b_10 => ?_)
  · skip
    refine lv_lload hx hb dJ9_floorDiv_f86c9_27 (lv_at hl 0 rfl) ?_
    exact ret_l F h (Nat.zero_le _) (Nat.zero_le _) dJ9_floorDiv_f86c9_29 (⟨fdL_d hy (fun z => absurd ((i_le _ _).mp b_10) (by rw [i_lt] at z; exact Int.not_le.mpr z.1)), rfl, rfl⟩)
  refine lv_lload hx hb dJ9_floorDiv_f86c9_13 (lv_at hl 0 rfl) ?_
  refine lv_lload_n hx hb dJ9_floorDiv_f86c9_15 rfl (lv_at hl 2 rfl) ?_
  refine lv_lmul hx hb dJ9_floorDiv_f86c9_16 ?_
  refine lv_lload_n hx hb dJ9_floorDiv_f86c9_17 rfl (lv_at hl 1 rfl) ?_
  refine W.lcmp hx hb dJ9_floorDiv_f86c9_18 ?_
  refine lv_if_eq (tgt := 27) hx hb dJ9_floorDiv_f86c9_19 (by decide) (fun b_19 => ?_) (fun b_19 => ?_)
  · skip
    refine lv_lload hx hb dJ9_floorDiv_f86c9_27 (lv_at hl 0 rfl) ?_
    exact ret_l F h (Nat.zero_le _) (Nat.zero_le _) dJ9_floorDiv_f86c9_29 (⟨fdL_d hy (fun z => z.2 b_19), rfl, rfl⟩)
  refine lv_lload hx hb dJ9_floorDiv_f86c9_22 (lv_at hl 0 rfl) ?_
  refine lv_lconst (v := 1) hx hb dJ9_floorDiv_f86c9_24 (by decide) ?_
  refine lv_lsub hx hb dJ9_floorDiv_f86c9_25 ?_
  exact ret_l F h (Nat.zero_le _) (Nat.zero_le _) dJ9_floorDiv_f86c9_26 (⟨fdL_c hy ((i_lt _ _).mpr (Int.not_le.mp (fun z => b_10 ((i_le _ _).mpr z)))) b_19, rfl, rfl⟩)
/-- the remainder of a long by one above 0, from 0 on -/
def fmL (x y : Int64) : Int64 := Int64.ofInt (x.toInt % y.toInt)
theorem fmL_I {x y : Int64} (hy : 0 < y.toInt) : (fmL x y).toInt = x.toInt % y.toInt := by
  have h1 := Int.emod_nonneg x.toInt (show y.toInt ≠ 0 by omega)
  have h2 := Int.emod_lt_of_pos x.toInt hy
  have hy2 := fb_rngL y
  unfold fmL
  rw [Int64.toInt_ofInt]
  exact fb_bmodL (by omega) (by omega)
theorem fmL_a {x y : Int64} (hy : 0 < y.toInt) (h : x - x / y * y < 0) : x - x / y * y + y = fmL x y := by
  have h1 := Int.lt_tmod_of_pos x.toInt hy
  have hy2 := fb_rngL y
  have hr := l_rem (x := x) hy
  rw [l_lt, hr] at h
  have h : x.toInt.tmod y.toInt < 0 := h
  rw [l_eq, fmL_I hy, Int64.toInt_add, hr, t_em hy, if_pos h]
  exact fb_bmodL (by omega) (by omega)
theorem fmL_b {x y : Int64} (hy : 0 < y.toInt) (h : ¬ x - x / y * y < 0) : x - x / y * y = fmL x y := by
  have hr := l_rem (x := x) hy
  rw [l_lt, hr] at h
  have h : ¬ x.toInt.tmod y.toInt < 0 := h
  rw [l_eq, fmL_I hy, hr, t_em hy, if_neg h]
theorem fmL_c {x y : Int64} (hy : 0 < y.toInt) (h : lg_cmp (x ^^^ y) 0 < 0) (h2 : ¬ lg_cmp (x - x / y * y) 0 = 0) : x - x / y * y + y = fmL x y := by
  refine fmL_a hy ?_
  rw [lg_cmp_lt, l_xor (Int.le_of_lt hy)] at h
  rw [lg_cmp_eq] at h2
  have hr := l_rem (x := x) hy
  have hx : x.toInt < 0 := by rw [l_lt] at h; exact h
  have h3 := t_nonpos (y := y.toInt) (Int.le_of_lt hx)
  rw [l_lt, hr]
  show _ < (0 : Int)
  have h4 : x.toInt.tmod y.toInt ≠ 0 := by
    intro z
    rw [z] at hr
    exact h2 (by rw [l_eq, hr]; rfl)
  omega
theorem fmL_d {x y : Int64} (hy : 0 < y.toInt) (h : ¬ (lg_cmp (x ^^^ y) 0 < 0 ∧ ¬ lg_cmp (x - x / y * y) 0 = 0)) : x - x / y * y = fmL x y := by
  refine fmL_b hy ?_
  intro z
  have z0 := z
  rw [l_lt, l_rem hy] at z
  have z : x.toInt.tmod y.toInt < 0 := z
  refine h ⟨?_, ?_⟩
  · rw [lg_cmp_lt, l_xor (Int.le_of_lt hy), l_lt]
    refine Int.not_le.mp (fun q => ?_)
    have := Int.tmod_nonneg y.toInt (show 0 ≤ x.toInt from q)
    omega
  · rw [lg_cmp_eq]
    intro q
    rw [q] at z0
    exact absurd z0 (by decide)
set_option maxHeartbeats 4000000 in
set_option maxRecDepth 100000 in
theorem k_J9_floorMod_f86c9 (l : Launch) (g : Gf) (n : Nat) (c : Mp) (x y : Int64) (hy : 0 < y.toInt) : Ct l g yJ9_floorMod_f86c9 wsJ9_floorMod_f86c9 0 0 0 0 [.long x, .long y] n c (Ql g (fun xr n' c' => xr = fmL x y ∧ n' = n ∧ c' = c)) := by
  refine entF (by decide +kernel) rfl (Nat.le_of_ble_eq_true rfl) ?_
  intro p e s m args below meth c0 F h ls hl
  have hx := F.1
  have hb := F.2.1
  have hl : lv_has ls 6 [(0, .long x), (2, .long y)] := hl
  refine lv_lload_n hx hb dJ9_floorMod_f86c9_0 rfl (lv_at hl 0 rfl) ?_
  refine lv_lload_n hx hb dJ9_floorMod_f86c9_1 rfl (lv_at hl 1 rfl) ?_
  refine lv_lrem hx hb dJ9_floorMod_f86c9_2 (fun z => by rw [z] at hy; exact absurd hy (by decide)) ?_
  refine lv_lstore (lv' := [(4, .long (x - x / y * y)), (0, .long x), (2, .long y)]) hx hb dJ9_floorMod_f86c9_3 hl (by decide) rfl (fun ls hl => ?_)
  refine lv_lload_n hx hb dJ9_floorMod_f86c9_5 rfl (lv_at hl 1 rfl) ?_
  refine lv_lload_n hx hb dJ9_floorMod_f86c9_6 rfl (lv_at hl 2 rfl) ?_
  refine lv_lxor hx hb dJ9_floorMod_f86c9_7 ?_
  refine lv_lconst (v := 0) hx hb dJ9_floorMod_f86c9_8 (by decide) ?_
  refine W.lcmp hx hb dJ9_floorMod_f86c9_9 ?_
  refine lv_if_ge (tgt := 25) hx hb dJ9_floorMod_f86c9_10 (by decide) (fun b_10 => ?_) (fun b_10 => ?_)
  · skip
    refine lv_lload hx hb dJ9_floorMod_f86c9_25 (lv_at hl 0 rfl) ?_
    exact ret_l F h (Nat.zero_le _) (Nat.zero_le _) dJ9_floorMod_f86c9_27 (⟨fmL_d hy (fun z => absurd ((i_le _ _).mp b_10) (by rw [i_lt] at z; exact Int.not_le.mpr z.1)), rfl, rfl⟩)
  refine lv_lload hx hb dJ9_floorMod_f86c9_13 (lv_at hl 0 rfl) ?_
  refine lv_lconst (v := 0) hx hb dJ9_floorMod_f86c9_15 (by decide) ?_
  refine W.lcmp hx hb dJ9_floorMod_f86c9_16 ?_
  refine lv_if_eq (tgt := 25) hx hb dJ9_floorMod_f86c9_17 (by decide) (fun b_17 => ?_) (fun b_17 => ?_)
  · skip
    refine lv_lload hx hb dJ9_floorMod_f86c9_25 (lv_at hl 0 rfl) ?_
    exact ret_l F h (Nat.zero_le _) (Nat.zero_le _) dJ9_floorMod_f86c9_27 (⟨fmL_d hy (fun z => z.2 b_17), rfl, rfl⟩)
  refine lv_lload hx hb dJ9_floorMod_f86c9_20 (lv_at hl 0 rfl) ?_
  refine lv_lload_n hx hb dJ9_floorMod_f86c9_22 rfl (lv_at hl 2 rfl) ?_
  refine lv_ladd hx hb dJ9_floorMod_f86c9_23 ?_
  exact ret_l F h (Nat.zero_le _) (Nat.zero_le _) dJ9_floorMod_f86c9_24 (⟨fmL_c hy ((i_lt _ _).mpr (Int.not_le.mp (fun z => b_10 ((i_le _ _).mpr z)))) b_17, rfl, rfl⟩)
/-- an angle on the circle -/
def ciI (x : Int64) : Int32 := (fmL x 8000).toInt32
set_option maxHeartbeats 4000000 in
set_option maxRecDepth 100000 in
theorem k_X7_onCircle (l : Launch) (g : Gf) (n : Nat) (c : Mp) (x : Int64) : Ct l g yX7_onCircle wsX7_onCircle 1 25 0 0 [.long x] n c (Qi g (fun xr n' c' => xr = ciI x ∧ n' = n ∧ c' = c)) := by
  refine ent (by decide) rfl (Nat.le_of_ble_eq_true rfl) ?_
  intro p e s m args below meth c0 F h ls hl
  have hx := F.1
  have hb := F.2.1
  have hl : lv_has ls 2 [(0, .long x)] := hl
  refine lv_lload_n hx hb dX7_onCircle_0 rfl (lv_at hl 0 rfl) ?_
  refine lv_ldc2 (v := 8000) hx hb F.2.2.2.1 (F.2.2.2.2.1 (Cond.constantLong RX7 331 8000) (List.mem_cons_of_mem _ wd_580)) dX7_onCircle_1 ?_
  refine u_lE (v := (fmL x 8000)) (ru_S (As := [.long x, .long 8000]) (rest := []) F h (k_J9_floorMod_f86c9 l g n c x 8000 (by decide)) (gS hjl wd_581 wd_582 wd_23b wd_583) rfl 2 (by decide +kernel) rfl ⟨Nat.le_of_ble_eq_true rfl, Nat.le_of_ble_eq_true rfl⟩ rfl hl.1 (Nat.le_of_ble_eq_true rfl) ⟨Nat.zero_le _, Nat.zero_le _⟩ dX7_onCircle_4) h (fun H locs h => ?_)
  refine lv_l2i hx hb dX7_onCircle_7 rfl ?_
  exact ret_i F h (Nat.zero_le _) (Nat.zero_le _) dX7_onCircle_8 (⟨rfl, rfl, rfl⟩)
/-- a direction's component: the table's, by a number below 8 -/
def ptI (d : Nat) (ax : Int32) : Int32 := if ax = 0 then dXs d else dYs d
def ptR (d ax : Int32) : Int32 := let q := if ax = 0 then d else (d + 6) - (d + 6) / 8 * 8
  if q = 7 then 1 else if q < 2 then 1 else if 2 < q then if q < 6 then -1 else 0 else 0
