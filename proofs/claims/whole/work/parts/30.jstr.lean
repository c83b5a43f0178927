/-! The text constants. -/
section RS
variable {p : Program} {l : Launch} {e : Env} {R : Room} {s : State} {m : MethodId} {args : Array Value} {below : List Frame} {meth : Method} {c0 : Code} {H : Heap} {locs : List Loc} {cells slots : Nat} {Q : State → Prop}
variable {cc : ByteArray} {maxL pc : Nat} {ret : Option FieldType} {own nm : String} {Ts : List Cond} {g : Gf} {n : Nat} {c : Mp} {ls : Array Slot} {rest : List Value} {mc ms : Nat}
variable {y : MethodName} {bytes : ByteArray} {mL fr lo index mc1 ms1 : Nat} {rt : Option FieldType} {ws ws' : List Cond} {Qc : Array Value → State → Outcome → State → Prop} {As st0 : List Value} {i : Nat}
theorem ru_VS (F : Fx p s m args meth c0 cc maxL ret own Ts g nm) (h : Hv g s H locs n c) (hi : i < 10) (hM : Ct l g y ws fr lo mc1 ms1 (.ref (g.2.2.2 (10 + i)) :: As) n c Qc) (hG : GoodIn Ts (wsV own index RJ0 y ws)) (hw : ws = Cond.code y bytes mL rt :: ws') (k : Nat) (hd : y.cls = RJ0 ∧ y.cls ≠ "java/lang/invoke/MethodHandle" ∧ y.cls ≠ "java/lang/invoke/VarHandle" ∧ (parseMethodDescriptor y.desc).map (fun d => d.parameters.length) = some k) (hk : As.length = k) (hR : fr + 1 ≤ R.frames ∧ 8 + (mL + 11) + lo ≤ R.locals) (hst : st0 = As.reverse ++ .ref (g.2.2.2 (10 + i)) :: rest) (hls : ls.size = maxL) (hwt : (rest.map fun v => v.category).sum ≤ 8) (hcs : cells + mc1 ≤ R.cells ∧ slots + ms1 ≤ R.slots) (hdg : decode cc pc = .ok (.invokevirtual index, 3)) :
    va_Run p l e R s m args below meth c0 H locs cells slots mc1 ms1 (F0 m pc ls st0) rest (Qc (Value.ref (g.2.2.2 (10 + i)) :: As).toArray) (mAf g) := by
  subst hst
  obtain ⟨hx, hb, hml, hown, hts, -, -, -, hK⟩ := id F
  exact va_runV ⟨hx, hb, hml, hown, hts⟩ hM (cwV k hts hG hw rfl rfl hd hR) ⟨Ct.blind (l := l), vk_recv (i := i) hK.ss hi h.2, fun U hU hW => h.pre hK U hU hW⟩ rfl hk hls rfl (lv_room hwt) hdg hcs
end RS
theorem sv_len : ∀ i : Nat, i < 10 → nI (sLen.getD i 0) >>> ((0 : Int32) &&& 31) = nI (sLen.getD i 0) ∧ sLen.getD i 0 < 7 := by decide +kernel
theorem sv_ch : ∀ i : Nat, i < 10 → ∀ k : Nat, k < 7 → ((((sByt.getD i []).getD k 0) &&& 255).toUInt32 % 65536).toInt32 = (sByt.getD i []).getD k 0 := by decide +kernel
theorem sv_nar : ∀ i : Nat, i < 10 → ∀ k : Nat, k < 7 → narrow .char (.int ((sByt.getD i []).getD k 0)) = .int ((sByt.getD i []).getD k 0) := by decide +kernel
set_option maxHeartbeats 4000000 in
set_option maxRecDepth 100000 in
theorem k_J0_coder_7d493 (l : Launch) (g : Gf) (n : Nat) (c : Mp) (i : Nat) (hi : i < 10) : Ct l g yJ0_coder_7d493 wsJ0_coder_7d493 0 0 0 0 [.ref (g.2.2.2 (10 + i))] n c (Qi g (fun xr n' c' => xr = 0 ∧ n' = n ∧ c' = c)) := by
  refine entF (by decide +kernel) rfl (Nat.le_of_ble_eq_true rfl) ?_
  intro p e s m args below meth c0 F h ls hl
  have hx := F.1
  have hb := F.2.1
  have hl : lv_has ls 1 [(0, .ref (g.2.2.2 (10 + i)))] := hl
  refine va_gets hx hb (F.2.2.2.2.2.2.2.2.cs) h.2 F.2.2.2.1 (F.2.2.2.2.1 _ (List.mem_cons_of_mem _ wd_656)) (fun _ h9 => h9) dJ0_coder_7d493_0 ?_
  refine lv_if_eq (tgt := 13) hx hb dJ0_coder_7d493_3 (by decide) (fun b_3 => by first | exact absurd b_3 (by decide) | exact absurd (by decide) b_3) (fun b_3 => ?_)
  refine lv_aload_n hx hb dJ0_coder_7d493_6 rfl (lv_at hl 0 rfl) ?_
  refine vk_getf hx hb (F.2.2.2.2.2.2.2.2.ss.1 i hi).2.1 h.2 F.2.2.2.1 (F.2.2.2.2.1 _ (List.mem_cons_of_mem _ wd_1162)) (fun _ z => z) dJ0_coder_7d493_7 ?_
  refine lv_goto (tgt := 14) hx hb dJ0_coder_7d493_10 (by decide) ?_
  exact ret_z F h (by decide) (Nat.zero_le _) (Nat.zero_le _) dJ0_coder_7d493_14 (⟨rfl, rfl, rfl⟩)
set_option maxHeartbeats 4000000 in
set_option maxRecDepth 100000 in
theorem k_J0_length_8abf5 (l : Launch) (g : Gf) (n : Nat) (c : Mp) (i : Nat) (hi : i < 10) : Ct l g yJ0_length_8abf5 wsJ0_length_8abf5 1 20 0 0 [.ref (g.2.2.2 (10 + i))] n c (Qi g (fun xr n' c' => xr = nI (sLen.getD i 0) ∧ n' = n ∧ c' = c)) := by
  refine entF (by decide +kernel) rfl (Nat.le_of_ble_eq_true rfl) ?_
  intro p e s m args below meth c0 F h ls hl
  have hx := F.1
  have hb := F.2.1
  have hl : lv_has ls 1 [(0, .ref (g.2.2.2 (10 + i)))] := hl
  refine lv_aload_n hx hb dJ0_length_8abf5_0 rfl (lv_at hl 0 rfl) ?_
  refine vk_getf hx hb (F.2.2.2.2.2.2.2.2.ss.1 i hi).2.2.1 h.2 F.2.2.2.1 (F.2.2.2.2.1 _ (List.mem_cons_of_mem _ wd_1161)) (fun _ z => z) dJ0_length_8abf5_1 ?_
  refine va_tlen hx hb (F.2.2.2.2.2.2.2.2.ss.1 i hi).2.2.2 h.2 (v := nI (sLen.getD i 0)) rfl dJ0_length_8abf5_4 ?_
  refine lv_aload_n hx hb dJ0_length_8abf5_5 rfl (lv_at hl 0 rfl) ?_
  refine u_iE (v := 0) (ru_VS (As := []) (rest := [.int (nI (sLen.getD i 0))]) F h hi (k_J0_coder_7d493 l g n c i hi) (gV hjl wd_652 wd_653 wd_654 wd_61 wd_655) rfl 0 (by decide +kernel) rfl ⟨Nat.le_of_ble_eq_true rfl, Nat.le_of_ble_eq_true rfl⟩ rfl hl.1 (Nat.le_of_ble_eq_true rfl) ⟨Nat.zero_le _, Nat.zero_le _⟩ dJ0_length_8abf5_6) h (fun H locs h => ?_)
  refine lv_ishr hx hb dJ0_length_8abf5_9 ?_
  refine r_top (w := .int (nI (sLen.getD i 0))) (congrArg Value.int (sv_len i hi).1) ?_
  exact ret_i F h (Nat.zero_le _) (Nat.zero_le _) dJ0_length_8abf5_10 (⟨rfl, rfl, rfl⟩)
set_option maxHeartbeats 4000000 in
set_option maxRecDepth 100000 in
theorem k_J0_isLatin1_aae02 (l : Launch) (g : Gf) (n : Nat) (c : Mp) (i : Nat) (hi : i < 10) : Ct l g yJ0_isLatin1_aae02 wsJ0_isLatin1_aae02 0 0 0 0 [.ref (g.2.2.2 (10 + i))] n c (Qi g (fun xr n' c' => xr = 1 ∧ n' = n ∧ c' = c)) := by
  refine entF (by decide +kernel) rfl (Nat.le_of_ble_eq_true rfl) ?_
  intro p e s m args below meth c0 F h ls hl
  have hx := F.1
  have hb := F.2.1
  have hl : lv_has ls 1 [(0, .ref (g.2.2.2 (10 + i)))] := hl
  refine va_gets hx hb (F.2.2.2.2.2.2.2.2.cs) h.2 F.2.2.2.1 (F.2.2.2.2.1 _ (List.mem_cons_of_mem _ wd_656)) (fun _ h9 => h9) dJ0_isLatin1_aae02_0 ?_
  refine lv_if_eq (tgt := 17) hx hb dJ0_isLatin1_aae02_3 (by decide) (fun b_3 => by first | exact absurd b_3 (by decide) | exact absurd (by decide) b_3) (fun b_3 => ?_)
  refine lv_aload_n hx hb dJ0_isLatin1_aae02_6 rfl (lv_at hl 0 rfl) ?_
  refine vk_getf hx hb (F.2.2.2.2.2.2.2.2.ss.1 i hi).2.1 h.2 F.2.2.2.1 (F.2.2.2.2.1 _ (List.mem_cons_of_mem _ wd_1162)) (fun _ z => z) dJ0_isLatin1_aae02_7 ?_
  refine lv_if_ne (tgt := 17) hx hb dJ0_isLatin1_aae02_10 (by decide) (fun b_10 => by first | exact absurd b_10 (by decide) | exact absurd (by decide) b_10) (fun b_10 => ?_)
  refine lv_iconst (v := 1) hx hb dJ0_isLatin1_aae02_13 (by decide) ?_
  refine lv_goto (tgt := 18) hx hb dJ0_isLatin1_aae02_14 (by decide) ?_
  exact ret_z F h (by decide) (Nat.zero_le _) (Nat.zero_le _) dJ0_isLatin1_aae02_18 (⟨rfl, rfl, rfl⟩)
set_option maxHeartbeats 4000000 in
set_option maxRecDepth 100000 in
theorem k_J3_checkIndex_8e157_n (l : Launch) (g : Gf) (n : Nat) (c : Mp) (k1 N : Nat) (hk : k1 < N) (hN : N < 2 ^ 31) : Ct l g yJ3_checkIndex_8e157 wsJ3_checkIndex_8e157 0 0 0 0 [.int (nI k1), .int (nI N), .null] n c (Qi g (fun xr n' c' => xr = nI k1 ∧ n' = n ∧ c' = c)) := by
  refine entF (by decide +kernel) rfl (Nat.le_of_ble_eq_true rfl) ?_
  intro p e s m args below meth c0 F h ls hl
  have hx := F.1
  have hb := F.2.1
  have hl : lv_has ls 3 [(0, .int (nI k1)), (1, .int (nI N)), (2, .null)] := hl
  refine lv_iload_n hx hb dJ3_checkIndex_8e157_0 rfl (lv_at hl 0 rfl) ?_
  refine lv_if_lt (tgt := 9) hx hb dJ3_checkIndex_8e157_1 (by decide) (fun b_1 => by first | exact absurd b_1 (nI_pos (show k1 < 2 ^ 31 by omega)) | exact absurd (nI_pos (show k1 < 2 ^ 31 by omega)) b_1) (fun b_1 => ?_)
  refine lv_iload_n hx hb dJ3_checkIndex_8e157_4 rfl (lv_at hl 0 rfl) ?_
  refine lv_iload_n hx hb dJ3_checkIndex_8e157_5 rfl (lv_at hl 1 rfl) ?_
  refine lv_icmp_lt (tgt := 16) hx hb dJ3_checkIndex_8e157_6 (by decide) (fun b_6 => ?_) (fun b_6 => by first | exact absurd (nI_lt hk hN) b_6 | exact absurd b_6 (nI_lt hk hN))
  refine lv_iload_n hx hb dJ3_checkIndex_8e157_16 rfl (lv_at hl 0 rfl) ?_
  exact ret_i F h (Nat.zero_le _) (Nat.zero_le _) dJ3_checkIndex_8e157_17 (⟨rfl, rfl, rfl⟩)
set_option maxHeartbeats 4000000 in
set_option maxRecDepth 100000 in
theorem k_J3_checkIndex_8e157_r (l : Launch) (g : Gf) (n : Nat) (c : Mp) (t : Nat) (k1 N : Nat) (hk : k1 < N) (hN : N < 2 ^ 31) : Ct l g yJ3_checkIndex_8e157 wsJ3_checkIndex_8e157 0 0 0 0 [.int (nI k1), .int (nI N), .ref t] n c (Qi g (fun xr n' c' => xr = nI k1 ∧ n' = n ∧ c' = c)) := by
  refine entF (by decide +kernel) rfl (Nat.le_of_ble_eq_true rfl) ?_
  intro p e s m args below meth c0 F h ls hl
  have hx := F.1
  have hb := F.2.1
  have hl : lv_has ls 3 [(0, .int (nI k1)), (1, .int (nI N)), (2, .ref t)] := hl
  refine lv_iload_n hx hb dJ3_checkIndex_8e157_0 rfl (lv_at hl 0 rfl) ?_
  refine lv_if_lt (tgt := 9) hx hb dJ3_checkIndex_8e157_1 (by decide) (fun b_1 => by first | exact absurd b_1 (nI_pos (show k1 < 2 ^ 31 by omega)) | exact absurd (nI_pos (show k1 < 2 ^ 31 by omega)) b_1) (fun b_1 => ?_)
  refine lv_iload_n hx hb dJ3_checkIndex_8e157_4 rfl (lv_at hl 0 rfl) ?_
  refine lv_iload_n hx hb dJ3_checkIndex_8e157_5 rfl (lv_at hl 1 rfl) ?_
  refine lv_icmp_lt (tgt := 16) hx hb dJ3_checkIndex_8e157_6 (by decide) (fun b_6 => ?_) (fun b_6 => by first | exact absurd (nI_lt hk hN) b_6 | exact absurd b_6 (nI_lt hk hN))
  refine lv_iload_n hx hb dJ3_checkIndex_8e157_16 rfl (lv_at hl 0 rfl) ?_
  exact ret_i F h (Nat.zero_le _) (Nat.zero_le _) dJ3_checkIndex_8e157_17 (⟨rfl, rfl, rfl⟩)
set_option maxHeartbeats 4000000 in
set_option maxRecDepth 100000 in
theorem k_J0_checkIndex_df160 (l : Launch) (g : Gf) (n : Nat) (c : Mp) (k1 N : Nat) (hk : k1 < N) (hN : N < 2 ^ 31) : Ct l g yJ0_checkIndex_df160 wsJ0_checkIndex_df160 1 22 0 0 [.int (nI k1), .int (nI N)] n c (Qv g (fun n' c' => n' = n ∧ c' = c)) := by
  refine entF (by decide +kernel) rfl (Nat.le_of_ble_eq_true rfl) ?_
  intro p e s m args below meth c0 F h ls hl
  have hx := F.1
  have hb := F.2.1
  have hl : lv_has ls 2 [(0, .int (nI k1)), (1, .int (nI N))] := hl
  refine lv_iload_n hx hb dJ0_checkIndex_df160_0 rfl (lv_at hl 0 rfl) ?_
  refine lv_iload_n hx hb dJ0_checkIndex_df160_1 rfl (lv_at hl 1 rfl) ?_
  rcases F.2.2.2.2.2.2.2.2.sf with h9 | ⟨t, h9⟩
  · skip
    refine va_gets hx hb h9 h.2 F.2.2.2.1 (F.2.2.2.2.1 _ (List.mem_cons_of_mem _ wd_672)) (fun _ z => z) dJ0_checkIndex_df160_2 ?_
    refine u_iE (v := nI k1) (ru_S (As := [.int (nI k1), .int (nI N), .null]) (rest := []) F h (k_J3_checkIndex_8e157_n l g n c k1 N hk hN) (gS hjl wd_674 wd_675 wd_63 wd_676) rfl 3 (by decide +kernel) rfl ⟨Nat.le_of_ble_eq_true rfl, Nat.le_of_ble_eq_true rfl⟩ rfl hl.1 (Nat.le_of_ble_eq_true rfl) ⟨Nat.zero_le _, Nat.zero_le _⟩ dJ0_checkIndex_df160_5) h (fun H locs h => ?_)
    refine lv_pop hx hb dJ0_checkIndex_df160_8 rfl ?_
    exact ret_v F h (Nat.zero_le _) (Nat.zero_le _) dJ0_checkIndex_df160_9 (⟨rfl, rfl⟩)
  · skip
    refine va_gets hx hb h9 h.2 F.2.2.2.1 (F.2.2.2.2.1 _ (List.mem_cons_of_mem _ wd_672)) (fun _ z => z) dJ0_checkIndex_df160_2 ?_
    refine u_iE (v := nI k1) (ru_S (As := [.int (nI k1), .int (nI N), .ref t]) (rest := []) F h (k_J3_checkIndex_8e157_r l g n c t k1 N hk hN) (gS hjl wd_674 wd_675 wd_63 wd_676) rfl 3 (by decide +kernel) rfl ⟨Nat.le_of_ble_eq_true rfl, Nat.le_of_ble_eq_true rfl⟩ rfl hl.1 (Nat.le_of_ble_eq_true rfl) ⟨Nat.zero_le _, Nat.zero_le _⟩ dJ0_checkIndex_df160_5) h (fun H locs h => ?_)
    refine lv_pop hx hb dJ0_checkIndex_df160_8 rfl ?_
    exact ret_v F h (Nat.zero_le _) (Nat.zero_le _) dJ0_checkIndex_df160_9 (⟨rfl, rfl⟩)
set_option maxHeartbeats 4000000 in
set_option maxRecDepth 100000 in
theorem k_J1_charAt_3b067 (l : Launch) (g : Gf) (n : Nat) (c : Mp) (i : Nat) (hi : i < 10) (k1 : Nat) (hk : k1 < sLen.getD i 0) : Ct l g yJ1_charAt_3b067 wsJ1_charAt_3b067 2 43 0 0 [.ref (g.2.2.2 (30 + i)), .int (nI k1)] n c (Qi g (fun xr n' c' => xr = (sByt.getD i []).getD k1 0 ∧ n' = n ∧ c' = c)) := by
  refine entF (by decide +kernel) rfl (Nat.le_of_ble_eq_true rfl) ?_
  intro p e s m args below meth c0 F h ls hl
  have hx := F.1
  have hb := F.2.1
  have hl : lv_has ls 2 [(0, .ref (g.2.2.2 (30 + i))), (1, .int (nI k1))] := hl
  have hl7 := (sv_len i hi).2
  refine lv_iload_n hx hb dJ1_charAt_3b067_0 rfl (lv_at hl 1 rfl) ?_
  refine lv_aload_n hx hb dJ1_charAt_3b067_1 rfl (lv_at hl 0 rfl) ?_
  refine va_tlen hx hb (F.2.2.2.2.2.2.2.2.ss.1 i hi).2.2.2 h.2 (v := nI (sLen.getD i 0)) rfl dJ1_charAt_3b067_2 ?_
  refine u_vE (ru_S (As := [.int (nI k1), .int (nI (sLen.getD i 0))]) (rest := []) F h (k_J0_checkIndex_df160 l g n c k1 (sLen.getD i 0) hk (by have := (sv_len i hi).2; omega)) (gS hjl wd_669 wd_670 wd_61 wd_671) rfl 2 (by decide +kernel) rfl ⟨Nat.le_of_ble_eq_true rfl, Nat.le_of_ble_eq_true rfl⟩ rfl hl.1 (Nat.le_of_ble_eq_true rfl) ⟨Nat.zero_le _, Nat.zero_le _⟩ dJ1_charAt_3b067_3) h (fun H locs h => ?_)
  refine lv_aload_n hx hb dJ1_charAt_3b067_6 rfl (lv_at hl 0 rfl) ?_
  refine lv_iload_n hx hb dJ1_charAt_3b067_7 rfl (lv_at hl 1 rfl) ?_
  refine va_tb hx hb (F.2.2.2.2.2.2.2.2.ss.1 i hi).2.2.2 h.2 (vp_in_nI hk (by omega)) (v := .int ((sByt.getD i []).getD k1 0)) (congrArg (fun q => Value.int ((sByt.getD i []).getD q 0)) (nI_clamp (by omega))) dJ1_charAt_3b067_8 ?_
  refine lv_sipush (v := 255) hx hb dJ1_charAt_3b067_9 (by decide) ?_
  refine lv_iand hx hb dJ1_charAt_3b067_12 ?_
  refine lv_i2c hx hb dJ1_charAt_3b067_13 rfl ?_
  refine r_top (w := .int ((sByt.getD i []).getD k1 0)) (congrArg Value.int (sv_ch i hi k1 (by omega))) ?_
  exact ret_z F h (sv_nar i hi k1 (by omega)) (Nat.zero_le _) (Nat.zero_le _) dJ1_charAt_3b067_14 (⟨rfl, rfl, rfl⟩)
set_option maxHeartbeats 4000000 in
set_option maxRecDepth 100000 in
theorem k_J0_charAt_5068e (l : Launch) (g : Gf) (n : Nat) (c : Mp) (i : Nat) (hi : i < 10) (k1 : Nat) (hk : k1 < sLen.getD i 0) : Ct l g yJ0_charAt_5068e wsJ0_charAt_5068e 3 64 0 0 [.ref (g.2.2.2 (10 + i)), .int (nI k1)] n c (Qi g (fun xr n' c' => xr = (sByt.getD i []).getD k1 0 ∧ n' = n ∧ c' = c)) := by
  refine entF (by decide +kernel) rfl (Nat.le_of_ble_eq_true rfl) ?_
  intro p e s m args below meth c0 F h ls hl
  have hx := F.1
  have hb := F.2.1
  have hl : lv_has ls 2 [(0, .ref (g.2.2.2 (10 + i))), (1, .int (nI k1))] := hl
  have hl7 := (sv_len i hi).2
  refine lv_aload_n hx hb dJ0_charAt_5068e_0 rfl (lv_at hl 0 rfl) ?_
  refine u_iE (v := 1) (ru_VS (As := []) (rest := []) F h hi (k_J0_isLatin1_aae02 l g n c i hi) (gV hjl wd_662 wd_663 wd_664 wd_61 wd_665) rfl 0 (by decide +kernel) rfl ⟨Nat.le_of_ble_eq_true rfl, Nat.le_of_ble_eq_true rfl⟩ rfl hl.1 (Nat.le_of_ble_eq_true rfl) ⟨Nat.zero_le _, Nat.zero_le _⟩ dJ0_charAt_5068e_1) h (fun H locs h => ?_)
  refine lv_if_eq (tgt := 16) hx hb dJ0_charAt_5068e_4 (by decide) (fun b_4 => by first | exact absurd b_4 (by decide) | exact absurd (by decide) b_4) (fun b_4 => ?_)
  refine lv_aload_n hx hb dJ0_charAt_5068e_7 rfl (lv_at hl 0 rfl) ?_
  refine vk_getf hx hb (F.2.2.2.2.2.2.2.2.ss.1 i hi).2.2.1 h.2 F.2.2.2.1 (F.2.2.2.2.1 _ (List.mem_cons_of_mem _ wd_1161)) (fun _ z => z) dJ0_charAt_5068e_8 ?_
  refine lv_iload_n hx hb dJ0_charAt_5068e_11 rfl (lv_at hl 1 rfl) ?_
  refine u_iE (v := ((sByt.getD i []).getD k1 0)) (ru_S (As := [.ref (g.2.2.2 (30 + i)), .int (nI k1)]) (rest := []) F h (k_J1_charAt_3b067 l g n c i hi k1 hk) (gS hjl wd_666 wd_667 wd_62 wd_668) rfl 2 (by decide +kernel) rfl ⟨Nat.le_of_ble_eq_true rfl, Nat.le_of_ble_eq_true rfl⟩ rfl hl.1 (Nat.le_of_ble_eq_true rfl) ⟨Nat.zero_le _, Nat.zero_le _⟩ dJ0_charAt_5068e_12) h (fun H locs h => ?_)
  exact ret_z F h (sv_nar i hi k1 (by omega)) (Nat.zero_le _) (Nat.zero_le _) dJ0_charAt_5068e_15 (⟨rfl, rfl, rfl⟩)
