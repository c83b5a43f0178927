/-! The law's loop, and the whole. -/
section LE
variable {p : Program} {l : Launch} {e : Env} {s : State} {m : MethodId} {below : List Frame} {meth : Method} {c0 : Code} {b : Nat} {g : Gf} {tb n : Nat} {c : Mp} {H : Heap} {locs : List Loc} {cl sl : Nat} {ls : Array Slot} {lh : Nat} {rs : Int32} {R : Nat → Int32} {hq : Nat → Nat → Int32} {sc cn : Nat}
set_option maxHeartbeats 4000000 in
set_option maxRecDepth 100000 in
theorem law_loop (F : Fx p s m #[Value.ref b] meth c0 code 12 ret RL lw_tbl g meth.name) (hgz : gz g = s.heap.size) (hgb : g.2.2.2 2 = b) : ∀ (k i1 tb n : Nat) (c : Mp) (H : Heap) (locs : List Loc) (cl sl : Nat) (ls : Array Slot), i1 + k = 40 → tb + 60 * k ≤ 800000000 → cl + 5 * k + 5 ≤ 744077 → sl + 14 * k + 16 ≤ 6870016 → Hv g s H locs n c → LIv g tb n c → lv_has ls 12 [(0, .ref b), (1, .ref (gz g + 0)), (2, .int (nI i1))] → W p l e room_1 s m #[Value.ref b] below meth c0 H locs cl sl (lw_Z below #[Value.ref b] s) (F0 m 43 ls []) := by
  intro k
  have hx := F.1
  have hb := F.2.1
  have hr := F.2.2.2.2.2.1
  have hlocks := F.2.2.2.2.2.2.1
  induction k with
  | zero =>
    intro i1 tb n c H locs cl sl ls h1 h2 h3 h4 h hLI hl
    obtain ⟨hn, lh, rs, R, hq, sc, cn, hWd, J, hs1⟩ := hLI
    obtain rfl : i1 = 40 := by omega
    refine lv_iload_n hx hb dL_law_43 rfl (lv_at hl 2 rfl) ?_
    refine lv_bipush (v := 40) hx hb dL_law_44 (by decide) ?_
    refine lv_icmp_ge (tgt := 928) hx hb dL_law_46 (by decide) (fun _ => ?_) (fun z => absurd (show (40 : Int32) ≤ nI 40 by decide) z)
    refine lv_aload_n hx hb dL_law_928 rfl (lv_at hl 1 rfl) ?_
    refine u_i (ru_S (As := [.ref (gz g + 0)]) (rest := []) F h (k_L_errors l g n c hWd J hn) (gS lwG_in wd_684 wd_685 wd_15 wd_686) rfl 1 (by decide +kernel) rfl ⟨Nat.le_of_ble_eq_true rfl, Nat.le_of_ble_eq_true rfl⟩ rfl hl.1 (Nat.le_of_ble_eq_true rfl) ⟨by show cl + 4 ≤ 744077; omega, by show sl + 16 ≤ 6870016; omega⟩ dL_law_929) h (fun r1 n1 c1 H locs hp h => ?_)
    have hp : r1 = 1 := hp
    subst hp
    refine va_forget (fun q hq => by have := h.2.2.2 q hq; rw [← hgz]; exact this) ?_
    exact W.widen (by omega) (by omega) (lw_ret hx hb hr hlocks dL_law_932)
  | succ k ih =>
    intro i1 tb n c H locs cl sl ls h1 h2 h3 h4 h hLI hl
    obtain ⟨hn, lh, rs, R, hq, sc, cn, hWd, J, hs1⟩ := hLI
    refine lv_iload_n hx hb dL_law_43 rfl (lv_at hl 2 rfl) ?_
    refine lv_bipush (v := 40) hx hb dL_law_44 (by decide) ?_
    refine lv_icmp_ge (tgt := 928) hx hb dL_law_46 (by decide) (fun z => absurd ((nI_leI (a := 40) (by omega) (by omega)).mp z) (by omega)) (fun _ => ?_)
    exact lc_round F hgb h hWd J hs1 hn (by omega) i1 (by omega) hl (by omega) (by omega) (fun n' c' H' locs' ls' h' hLI' hl' => ih (i1 + 1) (tb + 60) n' c' H' locs' (cl + 5) (sl + 14) ls' (by omega) (by omega) (by omega) (by omega) h' hLI' hl')
end LE
set_option maxHeartbeats 4000000 in
set_option maxRecDepth 100000 in
/-- from the entry, for every script of at most 260 ints, the law comes to its end with true -/
theorem whole_start {p : Program} {e : Env} {s : State} {m : MethodId} {below : List Frame} {meth : Method} {c : Code} (l : Launch) (hflags : l.flags = flags0) {b L : Nat} {xs : Nat → Int32} (hL : L ≤ 260) (C0 : lw_At p s m meth c b L xs) : W p l e room_1 s m #[Value.ref b] below meth c s.heap [] 0 0 (lw_Z below #[Value.ref b] s) (entryFrame m ([Value.ref b] : List Value).toArray 12) := by
  obtain ⟨hx, hb, hr, hml, hown, hts, hX, hbl, hlocks, hgv⟩ := id C0
  obtain ⟨g, hgz, hgb, hK⟩ := kn_start hts hgv hX hbl
  have F : Fx p s m #[Value.ref b] meth c code 12 ret RL lw_tbl g meth.name := ⟨hx, hb, hml, hown, hts, hr, hlocks, rfl, hK⟩
  have hl := lv_entry ([.ref b]) (n := 12) (Nat.le_of_ble_eq_true rfl)
  rw [lg_entry_eq]
  generalize (lg_sl ([.ref b]) ++ List.replicate (12 - (lg_sl ([.ref b])).length) Slot.unset).toArray = ls at hl ⊢
  have hl : lv_has ls 12 [(0, .ref b)] := hl
  have h : Hv g s s.heap [] 0 (fun _ => none) := ⟨⟨by rw [hgz]; rfl, fun i e he => absurd he (by simp)⟩, va_S.rf⟩
  refine r_new F h (ci := 7) (fs := [.null, .null, .int 0, .null, .null, .null, .int 0, .int 0]) (C := RX7) (T := TX7) (N := 8) (fun w hw => lwG_in w (hi_X7 w hw)) tyX7 tyX7_ok (lwG_in _ wd_25) (lwG_in _ wd_26) (lwG_in _ wd_16) rfl (fun j hj => by rcases (show j = 0 ∨ j = 1 ∨ j = 2 ∨ j = 3 ∨ j = 4 ∨ j = 5 ∨ j = 6 ∨ j = 7 by omega) with rfl | rfl | rfl | rfl | rfl | rfl | rfl | rfl <;> rfl) (Nat.le_of_ble_eq_true rfl) (Nat.le_of_ble_eq_true rfl) dL_law_0 (fun H h => ?_)
  refine lv_dup hx hb dL_law_3 rfl ?_
  refine u_v (ru_I (As := []) (rest := [.ref (gz g + 0)]) F h (k_X7_init l g 0 _ (mu_eq _ _ _)) (gG lwG_in wd_29) rfl (lwG_in _ wd_16) (lwG_in _ wd_27) (lwG_in _ wd_28) rfl 0 (by decide +kernel) rfl ⟨Nat.le_of_ble_eq_true rfl, Nat.le_of_ble_eq_true rfl⟩ rfl hl.1 (Nat.le_of_ble_eq_true rfl) ⟨Nat.le_of_ble_eq_true rfl, Nat.le_of_ble_eq_true rfl⟩ dL_law_4) h (fun n1 c1 H locs hp1 h => ?_)
  obtain ⟨hn1, C0', CB, CH, CS, CZ, CO, CT, CW, CN⟩ := hp1
  rw [hn1] at h
  refine lv_astore_n (lv' := [(1, .ref (gz g + 0)), (0, .ref b)]) hx hb dL_law_7 rfl hl (by decide) rfl (fun ls hl => ?_)
  have hWd : Wd g c1 0 0 rw0 (fun _ => rw0) := ⟨by rw [nI_0]; exact C0', CB, ⟨_, CH⟩, by rw [nI_0]; exact CO, by decide⟩
  exact W.widen (k := 352) (n := 2177) (Nat.le_of_ble_eq_true rfl) (Nat.le_of_ble_eq_true rfl) (law_first F h hWd (Nat.le_refl _) (lv_sub hl [1, 0] rfl) (by decide) (by decide) (fun n' c' H' locs' ls' h' hLI' hl' => law_loop F hgz hgb 40 0 0 n' c' H' locs' 352 2177 ls' (by decide) (by decide) (by decide) (by decide) h' hLI' hl'))
