/-! The class: its object, its history. -/
abbrev plC (g : Gf) (lh ru rs : Int32) : Option va_E := some (.inr (7, [.ref (gz g + 1), .ref (gz g + 44), .int lh, .ref (gz g + 260), .ref (gz g + 347), .ref (gz g + 348), .int ru, .int rs]))
def Pm (π : Nat → Nat) : Prop := (∀ i : Nat, i < 5 → π i < 5) ∧ ∀ i j : Nat, i < 5 → j < 5 → i ≠ j → π i ≠ π j
/-- the history: its array, which block is which, the rows -/
def Hq (g : Gf) (c : Mp) (π : Nat → Nat) (hq : Nat → Nat → Int32) : Prop := c 44 = qsA (g.2.1 3) 5 (fun k => some (gz g + (45 + 43 * π k))) ∧ Pm π ∧ ∀ i : Nat, i < 5 → Bk g c (45 + 43 * π i) (hq i)
def Hx (g : Gf) (c : Mp) (hq : Nat → Nat → Int32) : Prop := ∃ π : Nat → Nat, Hq g c π hq
theorem Hx.kept {g : Gf} {c c' : Mp} {hq : Nat → Nat → Int32} (h : Hx g c hq) (hc : ∀ j : Nat, 44 ≤ j → j < 260 → c' j = c j) : Hx g c' hq := by
  obtain ⟨π, h1, h2, h3⟩ := h
  refine ⟨π, (hc 44 (by decide) (by decide)).trans h1, h2, fun i hi => (h3 i hi).kept (fun j _ _ => ?_)⟩
  have := h2.1 i hi
  exact hc j (by omega) (by omega)
theorem Hx.up {g : Gf} {c : Mp} {hq : Nat → Nat → Int32} (h : Hx g c hq) {i : Nat} {e : Option va_E} (hi : i < 44 ∨ 260 ≤ i) : Hx g (va_up c i e) hq := h.kept (fun j _ _ => mu_ne (by omega) _)
theorem Hx.fr {g : Gf} {c c' : Mp} {hq : Nat → Nat → Int32} (h : Hx g c hq) {lo hi : Nat} (F : Fr c c' lo hi) (hh : hi ≤ 44) : Hx g c' hq := h.kept (fun j _ _ => F j (by omega))
/-- nothing from 260 to n is another -/
def Fn (c c' : Mp) (n : Nat) : Prop := ∀ i : Nat, 260 ≤ i → i < n → c' i = c i
theorem Fn.rfl' {c : Mp} {n : Nat} : Fn c c n := fun _ _ _ => rfl
theorem Fn.up {c c' : Mp} {n : Nat} (h : Fn c c' n) {i : Nat} {e : Option va_E} (hi : i < 260 ∨ n ≤ i) : Fn c (va_up c' i e) n := fun j h1 h2 => (mu_ne (by omega) _).trans (h j h1 h2)
theorem Fn.fr {c c1 c2 : Mp} {n lo hi : Nat} (h : Fn c c1 n) (F : Fr c1 c2 lo hi) (hh : hi ≤ 260) : Fn c c2 n := fun j h1 h2 => (F j (by omega)).trans (h j h1 h2)
theorem Fn.trans {c c1 c2 : Mp} {n n1 : Nat} (h : Fn c c1 n) (h2 : Fn c1 c2 n1) (hn : n ≤ n1) : Fn c c2 n := fun j a b => (h2 j a (by omega)).trans (h j a b)
def wPut (r : Nat → Int32) (w : Nat) (f : Nat → Int32) : Nat → Int32 := fun k => if 5 + 11 * w ≤ k ∧ k < 5 + 11 * w + 11 then f (k - (5 + 11 * w)) else r k
def cPut (r : Nat → Int32) (w : Nat) (f : Nat → Int32) : Nat → Int32 := fun k => if 49 + 4 * w ≤ k ∧ k < 49 + 4 * w + 4 then f (k - (49 + 4 * w)) else r k
def oPut (r : Nat → Int32) (s w : Nat) (f : Nat → Int32) : Nat → Int32 := fun k => if 84 + 6 * (4 * s + w) ≤ k ∧ k < 84 + 6 * (4 * s + w) + 6 then f (k - (84 + 6 * (4 * s + w))) else r k
def hPut (r : Nat → Int32) (s : Nat) (de fr ho oo : Int32) : Nat → Int32 := fun k => if k = 69 + 3 * s then de else if k = 69 + 3 * s + 1 then fr else if k = 69 + 3 * s + 2 then oo else if k = 204 + s then ho else r k
theorem Bk.out {g : Gf} {c : Mp} {b : Nat} {r : Nat → Int32} (h : Bk g c b r) {i : Nat} {e : Option va_E} (hi : i < b ∨ b + 43 ≤ i) : Bk g (va_up c i e) b r := h.kept (fun j _ _ => mu_ne (by omega) _)
theorem Bk.wireP {g : Gf} {c : Mp} {b : Nat} {r : Nat → Int32} (h : Bk g c b r) {w : Nat} (hw : w < 4) (f : Nat → Int32) : Bk g (va_up c (b + 2 + w) (wiC f)) b (wPut r w f) :=
  h.wire hw (fun q hq => by unfold wPut; rw [if_pos (by omega), show 5 + 11 * w + q - (5 + 11 * w) = q by omega]) (fun k _ hk => if_neg (by omega))
theorem Bk.curP {g : Gf} {c : Mp} {b : Nat} {r : Nat → Int32} (h : Bk g c b r) {w : Nat} (hw : w < 5) (f : Nat → Int32) : Bk g (va_up c (b + 7 + w) (cuC f)) b (cPut r w f) :=
  h.cur hw (fun q hq => by unfold cPut; rw [if_pos (by omega), show 49 + 4 * w + q - (49 + 4 * w) = q by omega]) (fun k _ hk => if_neg (by omega))
theorem Bk.obsP {g : Gf} {c : Mp} {b : Nat} {r : Nat → Int32} (h : Bk g c b r) {s w : Nat} (hs : s < 5) (hw : w < 4) (f : Nat → Int32) : Bk g (va_up c (b + 13 + 6 * s + 2 + w) (obC f)) b (oPut r s w f) :=
  h.obs hs hw (fun q hq => by unfold oPut; rw [if_pos (by omega), show 84 + 6 * (4 * s + w) + q - (84 + 6 * (4 * s + w)) = q by omega]) (fun k _ hk => if_neg (by omega))
theorem Bk.headP {g : Gf} {c : Mp} {b : Nat} {r : Nat → Int32} (h : Bk g c b r) {s : Nat} (hs : s < 5) (de fr ho oo : Int32) : Bk g (va_up c (b + 13 + 6 * s) (snC g (b + 13 + 6 * s) de fr ho oo)) b (hPut r s de fr ho oo) := by
  refine h.stat hs ?_ (Fr.up (by omega) (by omega)) (fun k _ h1 h2 h3 => ?_)
  · have e0 : hPut r s de fr ho oo (69 + 3 * s) = de := if_pos rfl
    have e1 : hPut r s de fr ho oo (69 + 3 * s + 1) = fr := by unfold hPut; rw [if_neg (by omega), if_pos rfl]
    have e2 : hPut r s de fr ho oo (69 + 3 * s + 2) = oo := by unfold hPut; rw [if_neg (by omega), if_neg (by omega), if_pos rfl]
    have e3 : hPut r s de fr ho oo (204 + s) = ho := by unfold hPut; rw [if_neg (by omega), if_neg (by omega), if_neg (by omega), if_pos rfl]
    rw [e0, e1, e2, e3]
    refine ((h.2.2.2.2 s hs).head rfl).cong (fun _ _ _ => rfl) (fun w q hw hq => ?_)
    unfold hPut
    rw [if_neg (by omega), if_neg (by omega), if_neg (by omega), if_neg (by omega)]
  · unfold hPut
    rw [if_neg (by omega), if_neg (by omega), if_neg (by omega), if_neg (by omega)]
theorem wPut_lo (r : Nat → Int32) (w : Nat) (f : Nat → Int32) {k : Nat} (h : k < 5) : wPut r w f k = r k := if_neg (by omega)
theorem cPut_lo (r : Nat → Int32) (w : Nat) (f : Nat → Int32) {k : Nat} (h : k < 5) : cPut r w f k = r k := if_neg (by omega)
theorem oPut_lo (r : Nat → Int32) (s w : Nat) (f : Nat → Int32) {k : Nat} (h : k < 5) : oPut r s w f k = r k := if_neg (by omega)
theorem hPut_lo (r : Nat → Int32) (s : Nat) (a b d e : Int32) {k : Nat} (h : k < 5) : hPut r s a b d e k = r k := by
  unfold hPut
  rw [if_neg (by omega), if_neg (by omega), if_neg (by omega), if_neg (by omega)]
abbrev ClT : Type := Int32 × Int32 × (Nat → Int32) × Nat × (Nat → Nat → Int32)
def PA (g : Gf) (c : Mp) (n : Nat) (ru : Int32) (S : ClT) (x : Int32) (n' : Nat) (c' : Mp) : Prop := n ≤ n' ∧ x = S.1 ∧ c' 0 = plC g (nI S.2.2.2.1) ru S.2.1 ∧ Bk g c' 1 S.2.2.1 ∧ Hx g c' S.2.2.2.2 ∧ Fn c c' n
theorem paE {g : Gf} {c c' : Mp} {n n' lh : Nat} {ru v rs : Int32} {R : Nat → Int32} {hq : Nat → Nat → Int32} {S : ClT} (hS : S = (v, rs, R, lh, hq)) (hn : n ≤ n') (hP : c' 0 = plC g (nI lh) ru rs) (hB : Bk g c' 1 R) (hH : Hx g c' hq) (hF : Fn c c' n) : PA g c n ru S v n' c' := by
  subst hS; exact ⟨hn, rfl, hP, hB, hH, hF⟩
/-- the rows are 0 or 1 where they must be -/
def WB (r : Nat → Int32) : Prop := (∀ w : Nat, w < 4 → B01 (r (5 + 11 * w + 0))) ∧ (∀ s : Nat, s < 5 → B01 (r (204 + s))) ∧ ∀ s w : Nat, s < 5 → w < 4 → B01 (r (84 + 6 * (4 * s + w) + 0))
def rot (π : Nat → Nat) : Nat → Nat := fun k => if k = 4 then π 0 else π (k + 1)
def rotq (hq : Nat → Nat → Int32) : Nat → Nat → Int32 := fun k => if k = 4 then hq 0 else hq (k + 1)
theorem five {P : Nat → Prop} (h0 : P 0) (h1 : P 1) (h2 : P 2) (h3 : P 3) (h4 : P 4) : ∀ k : Nat, k < 5 → P k
  | 0, _ => h0
  | 1, _ => h1
  | 2, _ => h2
  | 3, _ => h3
  | 4, _ => h4
  | k + 5, h => absurd h (by omega)
theorem Pm.rotP {π : Nat → Nat} (h : Pm π) : Pm (rot π) := by
  obtain ⟨h1, h2⟩ := h
  refine ⟨five (h1 1 (by decide)) (h1 2 (by decide)) (h1 3 (by decide)) (h1 4 (by decide)) (h1 0 (by decide)), fun i j hi hj hne => ?_⟩
  have q : ∀ k : Nat, k < 5 → ∃ k', k' < 5 ∧ rot π k = π k' ∧ (k' = if k = 4 then 0 else k + 1) := five ⟨1, by decide, rfl, rfl⟩ ⟨2, by decide, rfl, rfl⟩ ⟨3, by decide, rfl, rfl⟩ ⟨4, by decide, rfl, rfl⟩ ⟨0, by decide, rfl, rfl⟩
  obtain ⟨a, ha, ea, ea2⟩ := q i hi
  obtain ⟨b, hb, eb, eb2⟩ := q j hj
  rw [ea, eb]
  refine h2 a b ha hb ?_
  split at ea2 <;> split at eb2 <;> omega
set_option maxHeartbeats 4000000 in
set_option maxRecDepth 100000 in
theorem k_X7_dropOldestState (l : Launch) (g : Gf) (n : Nat) (c : Mp) (lh ru rs : Int32) (hP : c 0 = plC g lh ru rs) (π : Nat → Nat) (hq : Nat → Nat → Int32) (hH : Hq g c π hq) : Ct l g yX7_dropOldestState wsX7_dropOldestState 0 0 0 0 [.ref (gz g + 0)] n c (Qv g (fun n' c' => n' = n ∧ c' = va_up (va_up c 44 (qsA (g.2.1 3) 5 (fun k => some (gz g + (45 + 43 * rot π k))))) 0 (plC g 4 ru rs))) := by
  refine ent (by decide) rfl (Nat.le_of_ble_eq_true rfl) ?_
  intro p e s m args below meth c0 F h ls hl
  have hx := F.1
  have hb := F.2.1
  have hl : lv_has ls 3 [(0, .ref (gz g + 0))] := hl
  refine lv_aload_n hx hb dX7_dropOldestState_0 rfl (lv_at hl 0 rfl) ?_
  refine r_get F h (C := RX7) (T := TX7) (N := 8) (hjc hi_X7) rfl hP 1 (by decide) (List.mem_cons_of_mem _ wd_246) rfl dX7_dropOldestState_1 ?_
  refine lv_iconst (v := 0) hx hb dX7_dropOldestState_4 (by decide) ?_
  refine r_aald F h (C := RX4) hH.1 (t0 := 3) rfl (vp_in_nI (show 0 < 5 by decide) (by decide)) (a := gz g + (45 + 43 * π 0)) (rfl) dX7_dropOldestState_5 ?_
  refine lv_astore_n (lv' := [(1, .ref (gz g + (45 + 43 * π 0))), (0, .ref (gz g + 0))]) hx hb dX7_dropOldestState_6 rfl hl (by decide) rfl (fun ls hl => ?_)
  refine lv_iconst (v := 1) hx hb dX7_dropOldestState_7 (by decide) ?_
  refine lv_istore_n (lv' := [(2, .int 1), (1, .ref (gz g + (45 + 43 * π 0))), (0, .ref (gz g + 0))]) hx hb dX7_dropOldestState_8 rfl hl (by decide) rfl (fun ls hl => ?_)
  refine lv_iload_n hx hb dX7_dropOldestState_9 rfl (lv_at hl 0 rfl) ?_
  refine lv_iconst (v := 5) hx hb dX7_dropOldestState_10 (by decide) ?_
  refine lv_icmp_ge (tgt := 34) hx hb dX7_dropOldestState_11 (by decide) (fun b_11 => by first | exact absurd b_11 (by decide) | exact absurd (by decide) b_11) (fun b_11 => ?_)
  refine lv_aload_n hx hb dX7_dropOldestState_14 rfl (lv_at hl 2 rfl) ?_
  refine r_get F h (C := RX7) (T := TX7) (N := 8) (hjc hi_X7) rfl hP 1 (by decide) (List.mem_cons_of_mem _ wd_246) rfl dX7_dropOldestState_15 ?_
  refine lv_iload_n hx hb dX7_dropOldestState_18 rfl (lv_at hl 0 rfl) ?_
  refine lv_iconst (v := 1) hx hb dX7_dropOldestState_19 (by decide) ?_
  refine lv_isub hx hb dX7_dropOldestState_20 ?_
  refine r_top (w := .int 0) (by decide) ?_
  refine lv_aload_n hx hb dX7_dropOldestState_21 rfl (lv_at hl 2 rfl) ?_
  refine r_get F h (C := RX7) (T := TX7) (N := 8) (hjc hi_X7) rfl hP 1 (by decide) (List.mem_cons_of_mem _ wd_246) rfl dX7_dropOldestState_22 ?_
  refine lv_iload_n hx hb dX7_dropOldestState_25 rfl (lv_at hl 0 rfl) ?_
  refine r_aald F h (C := RX4) hH.1 (t0 := 3) rfl (vp_in_nI (show 1 < 5 by decide) (by decide)) (a := gz g + (45 + 43 * π 1)) (rfl) dX7_dropOldestState_26 ?_
  refine r_aast F h (r := (RX4, TX4, 8)) hH.1 (t0 := 3) rfl ((hH.2.2 1 (by decide)).1) rfl (vp_in_nI (show 0 < 5 by decide) (by decide)) dX7_dropOldestState_27 (fun H locs h => ?_)
  refine lv_iinc (v := 2) (lv' := [(2, .int 2), (1, .ref (gz g + (45 + 43 * π 0))), (0, .ref (gz g + 0))]) hx hb dX7_dropOldestState_28 hl (k := 0) rfl (by decide) (by decide) rfl (fun ls hl => ?_)
  refine lv_goto (tgt := 9) hx hb dX7_dropOldestState_31 (by decide) ?_
  refine lv_iload_n hx hb dX7_dropOldestState_9 rfl (lv_at hl 0 rfl) ?_
  refine lv_iconst (v := 5) hx hb dX7_dropOldestState_10 (by decide) ?_
  refine lv_icmp_ge (tgt := 34) hx hb dX7_dropOldestState_11 (by decide) (fun b_11_1 => by first | exact absurd b_11_1 (by decide) | exact absurd (by decide) b_11_1) (fun b_11_1 => ?_)
  refine lv_aload_n hx hb dX7_dropOldestState_14 rfl (lv_at hl 2 rfl) ?_
  refine r_get F h (C := RX7) (T := TX7) (N := 8) (hjc hi_X7) rfl ((mu_ne (by decide) _).trans hP) 1 (by decide) (List.mem_cons_of_mem _ wd_246) rfl dX7_dropOldestState_15 ?_
  refine lv_iload_n hx hb dX7_dropOldestState_18 rfl (lv_at hl 0 rfl) ?_
  refine lv_iconst (v := 1) hx hb dX7_dropOldestState_19 (by decide) ?_
  refine lv_isub hx hb dX7_dropOldestState_20 ?_
  refine r_top (w := .int 1) (by decide) ?_
  refine lv_aload_n hx hb dX7_dropOldestState_21 rfl (lv_at hl 2 rfl) ?_
  refine r_get F h (C := RX7) (T := TX7) (N := 8) (hjc hi_X7) rfl ((mu_ne (by decide) _).trans hP) 1 (by decide) (List.mem_cons_of_mem _ wd_246) rfl dX7_dropOldestState_22 ?_
  refine lv_iload_n hx hb dX7_dropOldestState_25 rfl (lv_at hl 0 rfl) ?_
  refine r_aald F h (C := RX4) (mu_eq _ _ _) (t0 := 3) rfl (vp_in_nI (show 2 < 5 by decide) (by decide)) (a := gz g + (45 + 43 * π 2)) (rfl) dX7_dropOldestState_26 ?_
  refine r_aast F h (r := (RX4, TX4, 8)) (mu_eq _ _ _) (t0 := 3) rfl ((mu_ne (by omega) _).trans ((hH.2.2 2 (by decide)).1)) rfl (vp_in_nI (show 1 < 5 by decide) (by decide)) dX7_dropOldestState_27 (fun H locs h => ?_)
  refine r_mem (c1 := (va_up c 44 (some (.inl (g.2.1 3, 5, .inr (.inr (.inr (.inr (va_up (va_up (fun k => some (gz g + (45 + 43 * π k))) (0 : Int32).toNatClampNeg (some (gz g + (45 + 43 * π 1)))) (1 : Int32).toNatClampNeg (some (gz g + (45 + 43 * π 2)))))))))))) h (mu_uu _ _ _ _) (fun h => ?_)
  refine lv_iinc (v := 3) (lv' := [(2, .int 3), (1, .ref (gz g + (45 + 43 * π 0))), (0, .ref (gz g + 0))]) hx hb dX7_dropOldestState_28 hl (k := 0) rfl (by decide) (by decide) rfl (fun ls hl => ?_)
  refine lv_goto (tgt := 9) hx hb dX7_dropOldestState_31 (by decide) ?_
  refine lv_iload_n hx hb dX7_dropOldestState_9 rfl (lv_at hl 0 rfl) ?_
  refine lv_iconst (v := 5) hx hb dX7_dropOldestState_10 (by decide) ?_
  refine lv_icmp_ge (tgt := 34) hx hb dX7_dropOldestState_11 (by decide) (fun b_11_2 => by first | exact absurd b_11_2 (by decide) | exact absurd (by decide) b_11_2) (fun b_11_2 => ?_)
  refine lv_aload_n hx hb dX7_dropOldestState_14 rfl (lv_at hl 2 rfl) ?_
  refine r_get F h (C := RX7) (T := TX7) (N := 8) (hjc hi_X7) rfl ((mu_ne (by decide) _).trans hP) 1 (by decide) (List.mem_cons_of_mem _ wd_246) rfl dX7_dropOldestState_15 ?_
  refine lv_iload_n hx hb dX7_dropOldestState_18 rfl (lv_at hl 0 rfl) ?_
  refine lv_iconst (v := 1) hx hb dX7_dropOldestState_19 (by decide) ?_
  refine lv_isub hx hb dX7_dropOldestState_20 ?_
  refine r_top (w := .int 2) (by decide) ?_
  refine lv_aload_n hx hb dX7_dropOldestState_21 rfl (lv_at hl 2 rfl) ?_
  refine r_get F h (C := RX7) (T := TX7) (N := 8) (hjc hi_X7) rfl ((mu_ne (by decide) _).trans hP) 1 (by decide) (List.mem_cons_of_mem _ wd_246) rfl dX7_dropOldestState_22 ?_
  refine lv_iload_n hx hb dX7_dropOldestState_25 rfl (lv_at hl 0 rfl) ?_
  refine r_aald F h (C := RX4) (mu_eq _ _ _) (t0 := 3) rfl (vp_in_nI (show 3 < 5 by decide) (by decide)) (a := gz g + (45 + 43 * π 3)) (rfl) dX7_dropOldestState_26 ?_
  refine r_aast F h (r := (RX4, TX4, 8)) (mu_eq _ _ _) (t0 := 3) rfl ((mu_ne (by omega) _).trans ((hH.2.2 3 (by decide)).1)) rfl (vp_in_nI (show 2 < 5 by decide) (by decide)) dX7_dropOldestState_27 (fun H locs h => ?_)
  refine r_mem (c1 := (va_up c 44 (some (.inl (g.2.1 3, 5, .inr (.inr (.inr (.inr (va_up (va_up (va_up (fun k => some (gz g + (45 + 43 * π k))) (0 : Int32).toNatClampNeg (some (gz g + (45 + 43 * π 1)))) (1 : Int32).toNatClampNeg (some (gz g + (45 + 43 * π 2)))) (2 : Int32).toNatClampNeg (some (gz g + (45 + 43 * π 3)))))))))))) h (mu_uu _ _ _ _) (fun h => ?_)
  refine lv_iinc (v := 4) (lv' := [(2, .int 4), (1, .ref (gz g + (45 + 43 * π 0))), (0, .ref (gz g + 0))]) hx hb dX7_dropOldestState_28 hl (k := 0) rfl (by decide) (by decide) rfl (fun ls hl => ?_)
  refine lv_goto (tgt := 9) hx hb dX7_dropOldestState_31 (by decide) ?_
  refine lv_iload_n hx hb dX7_dropOldestState_9 rfl (lv_at hl 0 rfl) ?_
  refine lv_iconst (v := 5) hx hb dX7_dropOldestState_10 (by decide) ?_
  refine lv_icmp_ge (tgt := 34) hx hb dX7_dropOldestState_11 (by decide) (fun b_11_3 => by first | exact absurd b_11_3 (by decide) | exact absurd (by decide) b_11_3) (fun b_11_3 => ?_)
  refine lv_aload_n hx hb dX7_dropOldestState_14 rfl (lv_at hl 2 rfl) ?_
  refine r_get F h (C := RX7) (T := TX7) (N := 8) (hjc hi_X7) rfl ((mu_ne (by decide) _).trans hP) 1 (by decide) (List.mem_cons_of_mem _ wd_246) rfl dX7_dropOldestState_15 ?_
  refine lv_iload_n hx hb dX7_dropOldestState_18 rfl (lv_at hl 0 rfl) ?_
  refine lv_iconst (v := 1) hx hb dX7_dropOldestState_19 (by decide) ?_
  refine lv_isub hx hb dX7_dropOldestState_20 ?_
  refine r_top (w := .int 3) (by decide) ?_
  refine lv_aload_n hx hb dX7_dropOldestState_21 rfl (lv_at hl 2 rfl) ?_
  refine r_get F h (C := RX7) (T := TX7) (N := 8) (hjc hi_X7) rfl ((mu_ne (by decide) _).trans hP) 1 (by decide) (List.mem_cons_of_mem _ wd_246) rfl dX7_dropOldestState_22 ?_
  refine lv_iload_n hx hb dX7_dropOldestState_25 rfl (lv_at hl 0 rfl) ?_
  refine r_aald F h (C := RX4) (mu_eq _ _ _) (t0 := 3) rfl (vp_in_nI (show 4 < 5 by decide) (by decide)) (a := gz g + (45 + 43 * π 4)) (rfl) dX7_dropOldestState_26 ?_
  refine r_aast F h (r := (RX4, TX4, 8)) (mu_eq _ _ _) (t0 := 3) rfl ((mu_ne (by omega) _).trans ((hH.2.2 4 (by decide)).1)) rfl (vp_in_nI (show 3 < 5 by decide) (by decide)) dX7_dropOldestState_27 (fun H locs h => ?_)
  refine r_mem (c1 := (va_up c 44 (some (.inl (g.2.1 3, 5, .inr (.inr (.inr (.inr (va_up (va_up (va_up (va_up (fun k => some (gz g + (45 + 43 * π k))) (0 : Int32).toNatClampNeg (some (gz g + (45 + 43 * π 1)))) (1 : Int32).toNatClampNeg (some (gz g + (45 + 43 * π 2)))) (2 : Int32).toNatClampNeg (some (gz g + (45 + 43 * π 3)))) (3 : Int32).toNatClampNeg (some (gz g + (45 + 43 * π 4)))))))))))) h (mu_uu _ _ _ _) (fun h => ?_)
  refine lv_iinc (v := 5) (lv' := [(2, .int 5), (1, .ref (gz g + (45 + 43 * π 0))), (0, .ref (gz g + 0))]) hx hb dX7_dropOldestState_28 hl (k := 0) rfl (by decide) (by decide) rfl (fun ls hl => ?_)
  refine lv_goto (tgt := 9) hx hb dX7_dropOldestState_31 (by decide) ?_
  refine lv_iload_n hx hb dX7_dropOldestState_9 rfl (lv_at hl 0 rfl) ?_
  refine lv_iconst (v := 5) hx hb dX7_dropOldestState_10 (by decide) ?_
  refine lv_icmp_ge (tgt := 34) hx hb dX7_dropOldestState_11 (by decide) (fun b_11_4 => ?_) (fun b_11_4 => by first | exact absurd (by decide) b_11_4 | exact absurd b_11_4 (by decide))
  refine lv_aload_n hx hb dX7_dropOldestState_34 rfl (lv_at hl 2 rfl) ?_
  refine r_get F h (C := RX7) (T := TX7) (N := 8) (hjc hi_X7) rfl ((mu_ne (by decide) _).trans hP) 1 (by decide) (List.mem_cons_of_mem _ wd_246) rfl dX7_dropOldestState_35 ?_
  refine lv_iconst (v := 4) hx hb dX7_dropOldestState_38 (by decide) ?_
  refine lv_aload_n hx hb dX7_dropOldestState_39 rfl (lv_at hl 1 rfl) ?_
  refine r_aast F h (r := (RX4, TX4, 8)) (mu_eq _ _ _) (t0 := 3) rfl ((mu_ne (by omega) _).trans ((hH.2.2 0 (by decide)).1)) rfl (vp_in_nI (show 4 < 5 by decide) (by decide)) dX7_dropOldestState_40 (fun H locs h => ?_)
  refine r_mem (c1 := (va_up c 44 (some (.inl (g.2.1 3, 5, .inr (.inr (.inr (.inr (va_up (va_up (va_up (va_up (va_up (fun k => some (gz g + (45 + 43 * π k))) (0 : Int32).toNatClampNeg (some (gz g + (45 + 43 * π 1)))) (1 : Int32).toNatClampNeg (some (gz g + (45 + 43 * π 2)))) (2 : Int32).toNatClampNeg (some (gz g + (45 + 43 * π 3)))) (3 : Int32).toNatClampNeg (some (gz g + (45 + 43 * π 4)))) (4 : Int32).toNatClampNeg (some (gz g + (45 + 43 * π 0)))))))))))) h (mu_uu _ _ _ _) (fun h => ?_)
  refine r_arq (fun k => some (gz g + (45 + 43 * rot π k))) h (mu_eq _ _ _) (five rfl rfl rfl rfl rfl) (fun h => ?_)
  refine r_mem (c1 := (va_up c 44 (some (.inl (g.2.1 3, 5, .inr (.inr (.inr (.inr (fun k => some (gz g + (45 + 43 * rot π k))))))))))) h (mu_uu _ _ _ _) (fun h => ?_)
  refine lv_aload_n hx hb dX7_dropOldestState_41 rfl (lv_at hl 2 rfl) ?_
  refine lv_iconst (v := 4) hx hb dX7_dropOldestState_42 (by decide) ?_
  refine r_put F h (C := RX7) (T := TX7) (N := 8) (fs' := [.ref (gz g + 1), .ref (gz g + 44), .int 4, .ref (gz g + 260), .ref (gz g + 347), .ref (gz g + 348), .int ru, .int rs]) (hjc hi_X7) tyX7 tyX7_ok nmX7 rfl ((mu_ne (by decide) _).trans hP) 2 (by decide) (List.mem_cons_of_mem _ wd_247) rfl (rfl) (rfl) (Nat.le_of_ble_eq_true rfl) rfl dX7_dropOldestState_43 (fun H locs h => ?_)
  exact ret_v F h (Nat.zero_le _) (Nat.zero_le _) dX7_dropOldestState_46 (⟨rfl, rfl⟩)
