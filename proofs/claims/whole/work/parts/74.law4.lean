/-! The law, call by call: wires, currents. -/
section LC
variable {p : Program} {l : Launch} {e : Env} {s : State} {m : MethodId} {below : List Frame} {meth : Method} {c0 : Code} {b L : Nat} {xs : Nat → Int32} {g : Gf} {I tb n : Nat} {c : Mp} {H : Heap} {locs : List Loc} {cells slots : Nat} {ls : Array Slot}
set_option maxHeartbeats 4000000 in
set_option maxRecDepth 100000 in
theorem lc_hang (hLX : LX p s m meth c0 b L xs g) (h : Hv g s H locs n c) (hLI : LI g tb n c) (hl : lv_has ls 4 [(3, .int (nI I)), (2, .ref (gz g + 352)), (1, .ref (gz g + 0)), (0, .ref b)]) (hI6 : I + 6 ≤ L) (htb : tb ≤ 800000000) (hcl : cells + 22 ≤ 600000) (hsl : slots + 88 ≤ 7302249) (K : LK p l e s m below meth c0 b g (cells + 22) (slots + 88) ls (tb + 720)) : W p l e room_1 s m #[Value.ref b] below meth c0 H locs cells slots (lw_Z below #[Value.ref b] s) (F0 m 164 ls []) := by
  obtain ⟨F, hX, hbl, hbA, hL⟩ := hLX
  have hx := F.1
  have hb := F.2.1
  obtain ⟨hn, lh, T, rs, R, r, hq, hh, S, sl, zk, tx, wd, nu, scr, oa, ct, pl, pl2, fa, od, hC, hM, hp⟩ := id hLI
  obtain ⟨C0, CB, CH, CS, CZ, CO, CT, CW, CN⟩ := id hC
  obtain ⟨M0, M1, M2, M3, M4, M5, M6, M7⟩ := id hM
  obtain ⟨l5, l7, ⟨sc, cn, hI, hR⟩, l2, l3⟩ := id hp
  have hW : WB R := hI.wb hR
  have c5 := hI.1.2.1
  have s5 := hI.1.2.2.2
  have hcn : R 3 = nI cn := (hR.lo (by decide)).trans hI.1.1
  have hsc : R 4 = nI sc := (hR.lo (by decide)).trans hI.1.2.2.1
  refine lv_aload_n hx hb dL_law_164 rfl (lv_at hl 2 rfl) ?_
  refine lv_aload_n hx hb dL_law_165 rfl (lv_at hl 3 rfl) ?_
  refine lv_iload_n hx hb dL_law_166 rfl (lv_at hl 0 rfl) ?_
  refine lv_iconst (v := 1) hx hb dL_law_167 (by decide) ?_
  refine lv_iadd hx hb dL_law_168 ?_
  refine r_sld hx hb hX hbl hbA h.2 (I := I) (j := 1) (nI_add I 1) (by omega) (by omega) dL_law_169 ?_
  refine lv_aload_n hx hb dL_law_170 rfl (lv_at hl 3 rfl) ?_
  refine lv_iload_n hx hb dL_law_171 rfl (lv_at hl 0 rfl) ?_
  refine lv_iconst (v := 2) hx hb dL_law_172 (by decide) ?_
  refine lv_iadd hx hb dL_law_173 ?_
  refine r_sld hx hb hX hbl hbA h.2 (I := I) (j := 2) (nI_add I 2) (by omega) (by omega) dL_law_174 ?_
  refine lv_aload_n hx hb dL_law_175 rfl (lv_at hl 3 rfl) ?_
  refine lv_iload_n hx hb dL_law_176 rfl (lv_at hl 0 rfl) ?_
  refine lv_iconst (v := 3) hx hb dL_law_177 (by decide) ?_
  refine lv_iadd hx hb dL_law_178 ?_
  refine r_sld hx hb hX hbl hbA h.2 (I := I) (j := 3) (nI_add I 3) (by omega) (by omega) dL_law_179 ?_
  refine lv_aload_n hx hb dL_law_180 rfl (lv_at hl 3 rfl) ?_
  refine lv_iload_n hx hb dL_law_181 rfl (lv_at hl 0 rfl) ?_
  refine lv_iconst (v := 4) hx hb dL_law_182 (by decide) ?_
  refine lv_iadd hx hb dL_law_183 ?_
  refine r_sld hx hb hX hbl hbA h.2 (I := I) (j := 4) (nI_add I 4) (by omega) (by omega) dL_law_184 ?_
  refine lv_aload_n hx hb dL_law_185 rfl (lv_at hl 3 rfl) ?_
  refine lv_iload_n hx hb dL_law_186 rfl (lv_at hl 0 rfl) ?_
  refine lv_iconst (v := 5) hx hb dL_law_187 (by decide) ?_
  refine lv_iadd hx hb dL_law_188 ?_
  refine r_sld hx hb hX hbl hbA h.2 (I := I) (j := 5) (nI_add I 5) (by omega) (by omega) dL_law_189 ?_
  refine u_i (ru_V (As := [.int (xs (I + 1)), .int (xs (I + 2)), .int (xs (I + 3)), .int (xs (I + 4)), .int (xs (I + 5))]) (rest := []) F h C0 rfl (k_X7_hang l g n c lh 0 rs C0 R CB l5 hq CH hW (xs (I + 1)) (xs (I + 2)) (xs (I + 3)) (xs (I + 4)) (xs (I + 5)) sc hsc s5) (gV lwG_in wd_315 wd_316 wd_317 wd_51 wd_318) rfl 5 (by decide +kernel) rfl ⟨Nat.le_of_ble_eq_true rfl, Nat.le_of_ble_eq_true rfl⟩ rfl hl.1 (Nat.le_of_ble_eq_true rfl) ⟨by show cells + 0 ≤ 600000; omega, by show slots + 0 ≤ 7302249; omega⟩ dL_law_190) h (fun r1 n1 c1 H locs hp1 h => ?_)
  have F1 : ∀ i : Nat, 260 ≤ i → i < n → c1 i = c i := hp1.2.2.2.2.2
  refine lv_aload_n hx hb dL_law_193 rfl (lv_at hl 1 rfl) ?_
  refine lv_aload_n hx hb dL_law_194 rfl (lv_at hl 3 rfl) ?_
  refine lv_iload_n hx hb dL_law_195 rfl (lv_at hl 0 rfl) ?_
  refine lv_iconst (v := 1) hx hb dL_law_196 (by decide) ?_
  refine lv_iadd hx hb dL_law_197 ?_
  refine r_sld hx hb hX hbl hbA h.2 (I := I) (j := 1) (nI_add I 1) (by omega) (by omega) dL_law_198 ?_
  refine lv_aload_n hx hb dL_law_199 rfl (lv_at hl 3 rfl) ?_
  refine lv_iload_n hx hb dL_law_200 rfl (lv_at hl 0 rfl) ?_
  refine lv_iconst (v := 2) hx hb dL_law_201 (by decide) ?_
  refine lv_iadd hx hb dL_law_202 ?_
  refine r_sld hx hb hX hbl hbA h.2 (I := I) (j := 2) (nI_add I 2) (by omega) (by omega) dL_law_203 ?_
  refine lv_aload_n hx hb dL_law_204 rfl (lv_at hl 3 rfl) ?_
  refine lv_iload_n hx hb dL_law_205 rfl (lv_at hl 0 rfl) ?_
  refine lv_iconst (v := 3) hx hb dL_law_206 (by decide) ?_
  refine lv_iadd hx hb dL_law_207 ?_
  refine r_sld hx hb hX hbl hbA h.2 (I := I) (j := 3) (nI_add I 3) (by omega) (by omega) dL_law_208 ?_
  refine lv_aload_n hx hb dL_law_209 rfl (lv_at hl 3 rfl) ?_
  refine lv_iload_n hx hb dL_law_210 rfl (lv_at hl 0 rfl) ?_
  refine lv_iconst (v := 4) hx hb dL_law_211 (by decide) ?_
  refine lv_iadd hx hb dL_law_212 ?_
  refine r_sld hx hb hX hbl hbA h.2 (I := I) (j := 4) (nI_add I 4) (by omega) (by omega) dL_law_213 ?_
  refine lv_aload_n hx hb dL_law_214 rfl (lv_at hl 3 rfl) ?_
  refine lv_iload_n hx hb dL_law_215 rfl (lv_at hl 0 rfl) ?_
  refine lv_iconst (v := 5) hx hb dL_law_216 (by decide) ?_
  refine lv_iadd hx hb dL_law_217 ?_
  refine r_sld hx hb hX hbl hbA h.2 (I := I) (j := 5) (nI_add I 5) (by omega) (by omega) dL_law_218 ?_
  refine u_i (ru_V (As := [.int (xs (I + 1)), .int (xs (I + 2)), .int (xs (I + 3)), .int (xs (I + 4)), .int (xs (I + 5))]) (rest := [.int r1]) F h ((F1 352 (by decide) (by omega)).trans M0) rfl (k_X8_hang l g n1 c1 352 lh l5 rs (nI T) pl2 fa od ((F1 352 (by decide) (by omega)).trans M0) r ((F1 _ (by decide) (by omega)).trans M1) scr ((F1 _ (by decide) (by omega)).trans M2) hh ((F1 _ (by decide) (by omega)).trans M3) (xs (I + 1)) (xs (I + 2)) (xs (I + 3)) (xs (I + 4)) (xs (I + 5)) ) (gV lwG_in wd_893 wd_894 wd_895 wd_58 wd_896) rfl 5 (by decide +kernel) rfl ⟨Nat.le_of_ble_eq_true rfl, Nat.le_of_ble_eq_true rfl⟩ rfl hl.1 (Nat.le_of_ble_eq_true rfl) ⟨by show cells + 0 + 0 ≤ 600000; omega, by show slots + 0 + 0 ≤ 7302249; omega⟩ dL_law_219) h (fun r2 n2 c2 H locs hp2 h => ?_)
  obtain ⟨e1, e2, e3⟩ := hp2
  have st := st_as hn hC hM hp (show tb ≤ tb + 720 by omega) (M0 := sp_X8_hang lh rs r scr hh (xs (I + 1)) (xs (I + 2)) (xs (I + 3)) (xs (I + 4)) (xs (I + 5))) hp1 ((as_hang hI hR).tb (by omega)) e3
  rw [e1] at h
  refine lv_icmp_eq (tgt := 1063) hx hb dL_law_222 (by decide) (fun _ => ?_) (fun z => absurd (st.1.trans e2.symm) z)
  exact W.widen (by omega) (by omega) (K _ _ _ _ h (st.2))
set_option maxHeartbeats 4000000 in
set_option maxRecDepth 100000 in
theorem lc_lift (hLX : LX p s m meth c0 b L xs g) (h : Hv g s H locs n c) (hLI : LI g tb n c) (hl : lv_has ls 4 [(3, .int (nI I)), (2, .ref (gz g + 352)), (1, .ref (gz g + 0)), (0, .ref b)]) (hI6 : I + 6 ≤ L) (htb : tb ≤ 800000000) (hcl : cells + 22 ≤ 600000) (hsl : slots + 88 ≤ 7302249) (K : LK p l e s m below meth c0 b g (cells + 22) (slots + 88) ls (tb + 720)) : W p l e room_1 s m #[Value.ref b] below meth c0 H locs cells slots (lw_Z below #[Value.ref b] s) (F0 m 227 ls []) := by
  obtain ⟨F, hX, hbl, hbA, hL⟩ := hLX
  have hx := F.1
  have hb := F.2.1
  obtain ⟨hn, lh, T, rs, R, r, hq, hh, S, sl, zk, tx, wd, nu, scr, oa, ct, pl, pl2, fa, od, hC, hM, hp⟩ := id hLI
  obtain ⟨C0, CB, CH, CS, CZ, CO, CT, CW, CN⟩ := id hC
  obtain ⟨M0, M1, M2, M3, M4, M5, M6, M7⟩ := id hM
  obtain ⟨l5, l7, ⟨sc, cn, hI, hR⟩, l2, l3⟩ := id hp
  have hW : WB R := hI.wb hR
  have c5 := hI.1.2.1
  have s5 := hI.1.2.2.2
  have hcn : R 3 = nI cn := (hR.lo (by decide)).trans hI.1.1
  have hsc : R 4 = nI sc := (hR.lo (by decide)).trans hI.1.2.2.1
  refine lv_aload_n hx hb dL_law_227 rfl (lv_at hl 2 rfl) ?_
  refine lv_aload_n hx hb dL_law_228 rfl (lv_at hl 3 rfl) ?_
  refine lv_iload_n hx hb dL_law_229 rfl (lv_at hl 0 rfl) ?_
  refine lv_iconst (v := 1) hx hb dL_law_230 (by decide) ?_
  refine lv_iadd hx hb dL_law_231 ?_
  refine r_sld hx hb hX hbl hbA h.2 (I := I) (j := 1) (nI_add I 1) (by omega) (by omega) dL_law_232 ?_
  refine u_i (ru_V (As := [.int (xs (I + 1))]) (rest := []) F h C0 rfl (k_X7_lift l g n c lh 0 rs C0 R CB l5 hq CH hW (xs (I + 1)) sc hsc s5) (gV lwG_in wd_371 wd_372 wd_373 wd_51 wd_374) rfl 1 (by decide +kernel) rfl ⟨Nat.le_of_ble_eq_true rfl, Nat.le_of_ble_eq_true rfl⟩ rfl hl.1 (Nat.le_of_ble_eq_true rfl) ⟨by show cells + 0 ≤ 600000; omega, by show slots + 0 ≤ 7302249; omega⟩ dL_law_233) h (fun r1 n1 c1 H locs hp1 h => ?_)
  have F1 : ∀ i : Nat, 260 ≤ i → i < n → c1 i = c i := hp1.2.2.2.2.2
  refine lv_aload_n hx hb dL_law_236 rfl (lv_at hl 1 rfl) ?_
  refine lv_aload_n hx hb dL_law_237 rfl (lv_at hl 3 rfl) ?_
  refine lv_iload_n hx hb dL_law_238 rfl (lv_at hl 0 rfl) ?_
  refine lv_iconst (v := 1) hx hb dL_law_239 (by decide) ?_
  refine lv_iadd hx hb dL_law_240 ?_
  refine r_sld hx hb hX hbl hbA h.2 (I := I) (j := 1) (nI_add I 1) (by omega) (by omega) dL_law_241 ?_
  refine u_i (ru_V (As := [.int (xs (I + 1))]) (rest := [.int r1]) F h ((F1 352 (by decide) (by omega)).trans M0) rfl (k_X8_lift l g n1 c1 352 lh l5 rs (nI T) pl2 fa od ((F1 352 (by decide) (by omega)).trans M0) r ((F1 _ (by decide) (by omega)).trans M1) scr ((F1 _ (by decide) (by omega)).trans M2) hh ((F1 _ (by decide) (by omega)).trans M3) (xs (I + 1)) ) (gV lwG_in wd_920 wd_921 wd_922 wd_58 wd_923) rfl 1 (by decide +kernel) rfl ⟨Nat.le_of_ble_eq_true rfl, Nat.le_of_ble_eq_true rfl⟩ rfl hl.1 (Nat.le_of_ble_eq_true rfl) ⟨by show cells + 0 + 0 ≤ 600000; omega, by show slots + 0 + 0 ≤ 7302249; omega⟩ dL_law_242) h (fun r2 n2 c2 H locs hp2 h => ?_)
  obtain ⟨e1, e2, e3⟩ := hp2
  have st := st_as hn hC hM hp (show tb ≤ tb + 720 by omega) (M0 := sp_X8_lift lh rs r scr hh (xs (I + 1))) hp1 ((as_lift hI hR).tb (by omega)) e3
  rw [e1] at h
  refine lv_icmp_eq (tgt := 1063) hx hb dL_law_245 (by decide) (fun _ => ?_) (fun z => absurd (st.1.trans e2.symm) z)
  exact W.widen (by omega) (by omega) (K _ _ _ _ h (st.2))
set_option maxHeartbeats 4000000 in
set_option maxRecDepth 100000 in
theorem lc_setClamp (hLX : LX p s m meth c0 b L xs g) (h : Hv g s H locs n c) (hLI : LI g tb n c) (hl : lv_has ls 4 [(3, .int (nI I)), (2, .ref (gz g + 352)), (1, .ref (gz g + 0)), (0, .ref b)]) (hI6 : I + 6 ≤ L) (htb : tb ≤ 800000000) (hcl : cells + 22 ≤ 600000) (hsl : slots + 88 ≤ 7302249) (K : LK p l e s m below meth c0 b g (cells + 22) (slots + 88) ls (tb + 720)) : W p l e room_1 s m #[Value.ref b] below meth c0 H locs cells slots (lw_Z below #[Value.ref b] s) (F0 m 250 ls []) := by
  obtain ⟨F, hX, hbl, hbA, hL⟩ := hLX
  have hx := F.1
  have hb := F.2.1
  obtain ⟨hn, lh, T, rs, R, r, hq, hh, S, sl, zk, tx, wd, nu, scr, oa, ct, pl, pl2, fa, od, hC, hM, hp⟩ := id hLI
  obtain ⟨C0, CB, CH, CS, CZ, CO, CT, CW, CN⟩ := id hC
  obtain ⟨M0, M1, M2, M3, M4, M5, M6, M7⟩ := id hM
  obtain ⟨l5, l7, ⟨sc, cn, hI, hR⟩, l2, l3⟩ := id hp
  have hW : WB R := hI.wb hR
  have c5 := hI.1.2.1
  have s5 := hI.1.2.2.2
  have hcn : R 3 = nI cn := (hR.lo (by decide)).trans hI.1.1
  have hsc : R 4 = nI sc := (hR.lo (by decide)).trans hI.1.2.2.1
  refine lv_aload_n hx hb dL_law_250 rfl (lv_at hl 2 rfl) ?_
  refine lv_aload_n hx hb dL_law_251 rfl (lv_at hl 3 rfl) ?_
  refine lv_iload_n hx hb dL_law_252 rfl (lv_at hl 0 rfl) ?_
  refine lv_iconst (v := 1) hx hb dL_law_253 (by decide) ?_
  refine lv_iadd hx hb dL_law_254 ?_
  refine r_sld hx hb hX hbl hbA h.2 (I := I) (j := 1) (nI_add I 1) (by omega) (by omega) dL_law_255 ?_
  refine lv_aload_n hx hb dL_law_256 rfl (lv_at hl 3 rfl) ?_
  refine lv_iload_n hx hb dL_law_257 rfl (lv_at hl 0 rfl) ?_
  refine lv_iconst (v := 2) hx hb dL_law_258 (by decide) ?_
  refine lv_iadd hx hb dL_law_259 ?_
  refine r_sld hx hb hX hbl hbA h.2 (I := I) (j := 2) (nI_add I 2) (by omega) (by omega) dL_law_260 ?_
  refine lv_aload_n hx hb dL_law_261 rfl (lv_at hl 3 rfl) ?_
  refine lv_iload_n hx hb dL_law_262 rfl (lv_at hl 0 rfl) ?_
  refine lv_iconst (v := 3) hx hb dL_law_263 (by decide) ?_
  refine lv_iadd hx hb dL_law_264 ?_
  refine r_sld hx hb hX hbl hbA h.2 (I := I) (j := 3) (nI_add I 3) (by omega) (by omega) dL_law_265 ?_
  refine u_i (ru_V (As := [.int (xs (I + 1)), .int (xs (I + 2)), .int (xs (I + 3))]) (rest := []) F h C0 rfl (k_X7_setClamp l g n c lh 0 rs C0 R CB l5 hq CH hW (xs (I + 1)) (xs (I + 2)) (xs (I + 3)) sc hsc s5) (gV lwG_in wd_384 wd_385 wd_386 wd_51 wd_387) rfl 3 (by decide +kernel) rfl ⟨Nat.le_of_ble_eq_true rfl, Nat.le_of_ble_eq_true rfl⟩ rfl hl.1 (Nat.le_of_ble_eq_true rfl) ⟨by show cells + 0 ≤ 600000; omega, by show slots + 0 ≤ 7302249; omega⟩ dL_law_266) h (fun r1 n1 c1 H locs hp1 h => ?_)
  have F1 : ∀ i : Nat, 260 ≤ i → i < n → c1 i = c i := hp1.2.2.2.2.2
  refine lv_aload_n hx hb dL_law_269 rfl (lv_at hl 1 rfl) ?_
  refine lv_aload_n hx hb dL_law_270 rfl (lv_at hl 3 rfl) ?_
  refine lv_iload_n hx hb dL_law_271 rfl (lv_at hl 0 rfl) ?_
  refine lv_iconst (v := 1) hx hb dL_law_272 (by decide) ?_
  refine lv_iadd hx hb dL_law_273 ?_
  refine r_sld hx hb hX hbl hbA h.2 (I := I) (j := 1) (nI_add I 1) (by omega) (by omega) dL_law_274 ?_
  refine lv_aload_n hx hb dL_law_275 rfl (lv_at hl 3 rfl) ?_
  refine lv_iload_n hx hb dL_law_276 rfl (lv_at hl 0 rfl) ?_
  refine lv_iconst (v := 2) hx hb dL_law_277 (by decide) ?_
  refine lv_iadd hx hb dL_law_278 ?_
  refine r_sld hx hb hX hbl hbA h.2 (I := I) (j := 2) (nI_add I 2) (by omega) (by omega) dL_law_279 ?_
  refine lv_aload_n hx hb dL_law_280 rfl (lv_at hl 3 rfl) ?_
  refine lv_iload_n hx hb dL_law_281 rfl (lv_at hl 0 rfl) ?_
  refine lv_iconst (v := 3) hx hb dL_law_282 (by decide) ?_
  refine lv_iadd hx hb dL_law_283 ?_
  refine r_sld hx hb hX hbl hbA h.2 (I := I) (j := 3) (nI_add I 3) (by omega) (by omega) dL_law_284 ?_
  refine u_i (ru_V (As := [.int (xs (I + 1)), .int (xs (I + 2)), .int (xs (I + 3))]) (rest := [.int r1]) F h ((F1 352 (by decide) (by omega)).trans M0) rfl (k_X8_setClamp l g n1 c1 352 lh l5 rs (nI T) pl2 fa od ((F1 352 (by decide) (by omega)).trans M0) r ((F1 _ (by decide) (by omega)).trans M1) scr ((F1 _ (by decide) (by omega)).trans M2) hh ((F1 _ (by decide) (by omega)).trans M3) (xs (I + 1)) (xs (I + 2)) (xs (I + 3)) ) (gV lwG_in wd_933 wd_934 wd_935 wd_58 wd_936) rfl 3 (by decide +kernel) rfl ⟨Nat.le_of_ble_eq_true rfl, Nat.le_of_ble_eq_true rfl⟩ rfl hl.1 (Nat.le_of_ble_eq_true rfl) ⟨by show cells + 0 + 0 ≤ 600000; omega, by show slots + 0 + 0 ≤ 7302249; omega⟩ dL_law_285) h (fun r2 n2 c2 H locs hp2 h => ?_)
  obtain ⟨e1, e2, e3⟩ := hp2
  have st := st_as hn hC hM hp (show tb ≤ tb + 720 by omega) (M0 := sp_X8_setClamp lh rs r scr hh (xs (I + 1)) (xs (I + 2)) (xs (I + 3))) hp1 ((as_setClamp hI hR).tb (by omega)) e3
  rw [e1] at h
  refine lv_icmp_eq (tgt := 1063) hx hb dL_law_288 (by decide) (fun _ => ?_) (fun z => absurd (st.1.trans e2.symm) z)
  exact W.widen (by omega) (by omega) (K _ _ _ _ h (st.2))
set_option maxHeartbeats 4000000 in
set_option maxRecDepth 100000 in
theorem lc_setBucket (hLX : LX p s m meth c0 b L xs g) (h : Hv g s H locs n c) (hLI : LI g tb n c) (hl : lv_has ls 4 [(3, .int (nI I)), (2, .ref (gz g + 352)), (1, .ref (gz g + 0)), (0, .ref b)]) (hI6 : I + 6 ≤ L) (htb : tb ≤ 800000000) (hcl : cells + 22 ≤ 600000) (hsl : slots + 88 ≤ 7302249) (K : LK p l e s m below meth c0 b g (cells + 22) (slots + 88) ls (tb + 720)) : W p l e room_1 s m #[Value.ref b] below meth c0 H locs cells slots (lw_Z below #[Value.ref b] s) (F0 m 293 ls []) := by
  obtain ⟨F, hX, hbl, hbA, hL⟩ := hLX
  have hx := F.1
  have hb := F.2.1
  obtain ⟨hn, lh, T, rs, R, r, hq, hh, S, sl, zk, tx, wd, nu, scr, oa, ct, pl, pl2, fa, od, hC, hM, hp⟩ := id hLI
  obtain ⟨C0, CB, CH, CS, CZ, CO, CT, CW, CN⟩ := id hC
  obtain ⟨M0, M1, M2, M3, M4, M5, M6, M7⟩ := id hM
  obtain ⟨l5, l7, ⟨sc, cn, hI, hR⟩, l2, l3⟩ := id hp
  have hW : WB R := hI.wb hR
  have c5 := hI.1.2.1
  have s5 := hI.1.2.2.2
  have hcn : R 3 = nI cn := (hR.lo (by decide)).trans hI.1.1
  have hsc : R 4 = nI sc := (hR.lo (by decide)).trans hI.1.2.2.1
  refine lv_aload_n hx hb dL_law_293 rfl (lv_at hl 2 rfl) ?_
  refine lv_aload_n hx hb dL_law_294 rfl (lv_at hl 3 rfl) ?_
  refine lv_iload_n hx hb dL_law_295 rfl (lv_at hl 0 rfl) ?_
  refine lv_iconst (v := 1) hx hb dL_law_296 (by decide) ?_
  refine lv_iadd hx hb dL_law_297 ?_
  refine r_sld hx hb hX hbl hbA h.2 (I := I) (j := 1) (nI_add I 1) (by omega) (by omega) dL_law_298 ?_
  refine lv_aload_n hx hb dL_law_299 rfl (lv_at hl 3 rfl) ?_
  refine lv_iload_n hx hb dL_law_300 rfl (lv_at hl 0 rfl) ?_
  refine lv_iconst (v := 2) hx hb dL_law_301 (by decide) ?_
  refine lv_iadd hx hb dL_law_302 ?_
  refine r_sld hx hb hX hbl hbA h.2 (I := I) (j := 2) (nI_add I 2) (by omega) (by omega) dL_law_303 ?_
  refine u_i (ru_V (As := [.int (xs (I + 1)), .int (xs (I + 2))]) (rest := []) F h C0 rfl (k_X7_setBucket l g n c lh 0 rs C0 R CB l5 hq CH hW (xs (I + 1)) (xs (I + 2)) sc hsc s5) (gV lwG_in wd_391 wd_392 wd_393 wd_51 wd_394) rfl 2 (by decide +kernel) rfl ⟨Nat.le_of_ble_eq_true rfl, Nat.le_of_ble_eq_true rfl⟩ rfl hl.1 (Nat.le_of_ble_eq_true rfl) ⟨by show cells + 0 ≤ 600000; omega, by show slots + 0 ≤ 7302249; omega⟩ dL_law_304) h (fun r1 n1 c1 H locs hp1 h => ?_)
  have F1 : ∀ i : Nat, 260 ≤ i → i < n → c1 i = c i := hp1.2.2.2.2.2
  refine lv_aload_n hx hb dL_law_307 rfl (lv_at hl 1 rfl) ?_
  refine lv_aload_n hx hb dL_law_308 rfl (lv_at hl 3 rfl) ?_
  refine lv_iload_n hx hb dL_law_309 rfl (lv_at hl 0 rfl) ?_
  refine lv_iconst (v := 1) hx hb dL_law_310 (by decide) ?_
  refine lv_iadd hx hb dL_law_311 ?_
  refine r_sld hx hb hX hbl hbA h.2 (I := I) (j := 1) (nI_add I 1) (by omega) (by omega) dL_law_312 ?_
  refine lv_aload_n hx hb dL_law_313 rfl (lv_at hl 3 rfl) ?_
  refine lv_iload_n hx hb dL_law_314 rfl (lv_at hl 0 rfl) ?_
  refine lv_iconst (v := 2) hx hb dL_law_315 (by decide) ?_
  refine lv_iadd hx hb dL_law_316 ?_
  refine r_sld hx hb hX hbl hbA h.2 (I := I) (j := 2) (nI_add I 2) (by omega) (by omega) dL_law_317 ?_
  refine u_i (ru_V (As := [.int (xs (I + 1)), .int (xs (I + 2))]) (rest := [.int r1]) F h ((F1 352 (by decide) (by omega)).trans M0) rfl (k_X8_setBucket l g n1 c1 352 lh l5 rs (nI T) pl2 fa od ((F1 352 (by decide) (by omega)).trans M0) r ((F1 _ (by decide) (by omega)).trans M1) scr ((F1 _ (by decide) (by omega)).trans M2) hh ((F1 _ (by decide) (by omega)).trans M3) (xs (I + 1)) (xs (I + 2)) ) (gV lwG_in wd_940 wd_941 wd_942 wd_58 wd_943) rfl 2 (by decide +kernel) rfl ⟨Nat.le_of_ble_eq_true rfl, Nat.le_of_ble_eq_true rfl⟩ rfl hl.1 (Nat.le_of_ble_eq_true rfl) ⟨by show cells + 0 + 0 ≤ 600000; omega, by show slots + 0 + 0 ≤ 7302249; omega⟩ dL_law_318) h (fun r2 n2 c2 H locs hp2 h => ?_)
  obtain ⟨e1, e2, e3⟩ := hp2
  have st := st_as hn hC hM hp (show tb ≤ tb + 720 by omega) (M0 := sp_X8_setBucket lh rs r scr hh (xs (I + 1)) (xs (I + 2))) hp1 ((as_setBucket hI hR).tb (by omega)) e3
  rw [e1] at h
  refine lv_icmp_eq (tgt := 1063) hx hb dL_law_321 (by decide) (fun _ => ?_) (fun z => absurd (st.1.trans e2.symm) z)
  exact W.widen (by omega) (by omega) (K _ _ _ _ h (st.2))
set_option maxHeartbeats 4000000 in
set_option maxRecDepth 100000 in
theorem lc_push (hLX : LX p s m meth c0 b L xs g) (h : Hv g s H locs n c) (hLI : LI g tb n c) (hl : lv_has ls 4 [(3, .int (nI I)), (2, .ref (gz g + 352)), (1, .ref (gz g + 0)), (0, .ref b)]) (hI6 : I + 6 ≤ L) (htb : tb ≤ 800000000) (hcl : cells + 22 ≤ 600000) (hsl : slots + 88 ≤ 7302249) (K : LK p l e s m below meth c0 b g (cells + 22) (slots + 88) ls (tb + 720)) : W p l e room_1 s m #[Value.ref b] below meth c0 H locs cells slots (lw_Z below #[Value.ref b] s) (F0 m 326 ls []) := by
  obtain ⟨F, hX, hbl, hbA, hL⟩ := hLX
  have hx := F.1
  have hb := F.2.1
  obtain ⟨hn, lh, T, rs, R, r, hq, hh, S, sl, zk, tx, wd, nu, scr, oa, ct, pl, pl2, fa, od, hC, hM, hp⟩ := id hLI
  obtain ⟨C0, CB, CH, CS, CZ, CO, CT, CW, CN⟩ := id hC
  obtain ⟨M0, M1, M2, M3, M4, M5, M6, M7⟩ := id hM
  obtain ⟨l5, l7, ⟨sc, cn, hI, hR⟩, l2, l3⟩ := id hp
  have hW : WB R := hI.wb hR
  have c5 := hI.1.2.1
  have s5 := hI.1.2.2.2
  have hcn : R 3 = nI cn := (hR.lo (by decide)).trans hI.1.1
  have hsc : R 4 = nI sc := (hR.lo (by decide)).trans hI.1.2.2.1
  refine lv_aload_n hx hb dL_law_326 rfl (lv_at hl 2 rfl) ?_
  refine lv_aload_n hx hb dL_law_327 rfl (lv_at hl 3 rfl) ?_
  refine lv_iload_n hx hb dL_law_328 rfl (lv_at hl 0 rfl) ?_
  refine lv_iconst (v := 1) hx hb dL_law_329 (by decide) ?_
  refine lv_iadd hx hb dL_law_330 ?_
  refine r_sld hx hb hX hbl hbA h.2 (I := I) (j := 1) (nI_add I 1) (by omega) (by omega) dL_law_331 ?_
  refine lv_aload_n hx hb dL_law_332 rfl (lv_at hl 3 rfl) ?_
  refine lv_iload_n hx hb dL_law_333 rfl (lv_at hl 0 rfl) ?_
  refine lv_iconst (v := 2) hx hb dL_law_334 (by decide) ?_
  refine lv_iadd hx hb dL_law_335 ?_
  refine r_sld hx hb hX hbl hbA h.2 (I := I) (j := 2) (nI_add I 2) (by omega) (by omega) dL_law_336 ?_
  refine lv_aload_n hx hb dL_law_337 rfl (lv_at hl 3 rfl) ?_
  refine lv_iload_n hx hb dL_law_338 rfl (lv_at hl 0 rfl) ?_
  refine lv_iconst (v := 3) hx hb dL_law_339 (by decide) ?_
  refine lv_iadd hx hb dL_law_340 ?_
  refine r_sld hx hb hX hbl hbA h.2 (I := I) (j := 3) (nI_add I 3) (by omega) (by omega) dL_law_341 ?_
  refine u_i (ru_V (As := [.int (xs (I + 1)), .int (xs (I + 2)), .int (xs (I + 3))]) (rest := []) F h C0 rfl (k_X7_push l g n c lh 0 rs C0 R CB l5 hq CH hW (xs (I + 1)) (xs (I + 2)) (xs (I + 3)) sc hsc s5) (gV lwG_in wd_395 wd_396 wd_397 wd_51 wd_398) rfl 3 (by decide +kernel) rfl ⟨Nat.le_of_ble_eq_true rfl, Nat.le_of_ble_eq_true rfl⟩ rfl hl.1 (Nat.le_of_ble_eq_true rfl) ⟨by show cells + 0 ≤ 600000; omega, by show slots + 0 ≤ 7302249; omega⟩ dL_law_342) h (fun r1 n1 c1 H locs hp1 h => ?_)
  have F1 : ∀ i : Nat, 260 ≤ i → i < n → c1 i = c i := hp1.2.2.2.2.2
  refine lv_aload_n hx hb dL_law_345 rfl (lv_at hl 1 rfl) ?_
  refine lv_aload_n hx hb dL_law_346 rfl (lv_at hl 3 rfl) ?_
  refine lv_iload_n hx hb dL_law_347 rfl (lv_at hl 0 rfl) ?_
  refine lv_iconst (v := 1) hx hb dL_law_348 (by decide) ?_
  refine lv_iadd hx hb dL_law_349 ?_
  refine r_sld hx hb hX hbl hbA h.2 (I := I) (j := 1) (nI_add I 1) (by omega) (by omega) dL_law_350 ?_
  refine lv_aload_n hx hb dL_law_351 rfl (lv_at hl 3 rfl) ?_
  refine lv_iload_n hx hb dL_law_352 rfl (lv_at hl 0 rfl) ?_
  refine lv_iconst (v := 2) hx hb dL_law_353 (by decide) ?_
  refine lv_iadd hx hb dL_law_354 ?_
  refine r_sld hx hb hX hbl hbA h.2 (I := I) (j := 2) (nI_add I 2) (by omega) (by omega) dL_law_355 ?_
  refine lv_aload_n hx hb dL_law_356 rfl (lv_at hl 3 rfl) ?_
  refine lv_iload_n hx hb dL_law_357 rfl (lv_at hl 0 rfl) ?_
  refine lv_iconst (v := 3) hx hb dL_law_358 (by decide) ?_
  refine lv_iadd hx hb dL_law_359 ?_
  refine r_sld hx hb hX hbl hbA h.2 (I := I) (j := 3) (nI_add I 3) (by omega) (by omega) dL_law_360 ?_
  refine u_i (ru_V (As := [.int (xs (I + 1)), .int (xs (I + 2)), .int (xs (I + 3))]) (rest := [.int r1]) F h ((F1 352 (by decide) (by omega)).trans M0) rfl (k_X8_push l g n1 c1 352 lh l5 rs (nI T) pl2 fa od ((F1 352 (by decide) (by omega)).trans M0) r ((F1 _ (by decide) (by omega)).trans M1) scr ((F1 _ (by decide) (by omega)).trans M2) hh ((F1 _ (by decide) (by omega)).trans M3) (xs (I + 1)) (xs (I + 2)) (xs (I + 3)) ) (gV lwG_in wd_944 wd_945 wd_946 wd_58 wd_947) rfl 3 (by decide +kernel) rfl ⟨Nat.le_of_ble_eq_true rfl, Nat.le_of_ble_eq_true rfl⟩ rfl hl.1 (Nat.le_of_ble_eq_true rfl) ⟨by show cells + 0 + 0 ≤ 600000; omega, by show slots + 0 + 0 ≤ 7302249; omega⟩ dL_law_361) h (fun r2 n2 c2 H locs hp2 h => ?_)
  obtain ⟨e1, e2, e3⟩ := hp2
  have st := st_as hn hC hM hp (show tb ≤ tb + 720 by omega) (M0 := sp_X8_push lh rs r scr hh (xs (I + 1)) (xs (I + 2)) (xs (I + 3))) hp1 (((ds_push hI hR).as).tb (by omega)) e3
  rw [e1] at h
  refine lv_icmp_eq (tgt := 1063) hx hb dL_law_364 (by decide) (fun _ => ?_) (fun z => absurd (st.1.trans e2.symm) z)
  exact W.widen (by omega) (by omega) (K _ _ _ _ h (st.2))
set_option maxHeartbeats 4000000 in
set_option maxRecDepth 100000 in
theorem lc_swap (hLX : LX p s m meth c0 b L xs g) (h : Hv g s H locs n c) (hLI : LI g tb n c) (hl : lv_has ls 4 [(3, .int (nI I)), (2, .ref (gz g + 352)), (1, .ref (gz g + 0)), (0, .ref b)]) (hI6 : I + 6 ≤ L) (htb : tb ≤ 800000000) (hcl : cells + 22 ≤ 600000) (hsl : slots + 88 ≤ 7302249) (K : LK p l e s m below meth c0 b g (cells + 22) (slots + 88) ls (tb + 720)) : W p l e room_1 s m #[Value.ref b] below meth c0 H locs cells slots (lw_Z below #[Value.ref b] s) (F0 m 369 ls []) := by
  obtain ⟨F, hX, hbl, hbA, hL⟩ := hLX
  have hx := F.1
  have hb := F.2.1
  obtain ⟨hn, lh, T, rs, R, r, hq, hh, S, sl, zk, tx, wd, nu, scr, oa, ct, pl, pl2, fa, od, hC, hM, hp⟩ := id hLI
  obtain ⟨C0, CB, CH, CS, CZ, CO, CT, CW, CN⟩ := id hC
  obtain ⟨M0, M1, M2, M3, M4, M5, M6, M7⟩ := id hM
  obtain ⟨l5, l7, ⟨sc, cn, hI, hR⟩, l2, l3⟩ := id hp
  have hW : WB R := hI.wb hR
  have c5 := hI.1.2.1
  have s5 := hI.1.2.2.2
  have hcn : R 3 = nI cn := (hR.lo (by decide)).trans hI.1.1
  have hsc : R 4 = nI sc := (hR.lo (by decide)).trans hI.1.2.2.1
  refine lv_aload_n hx hb dL_law_369 rfl (lv_at hl 2 rfl) ?_
  refine lv_aload_n hx hb dL_law_370 rfl (lv_at hl 3 rfl) ?_
  refine lv_iload_n hx hb dL_law_371 rfl (lv_at hl 0 rfl) ?_
  refine lv_iconst (v := 1) hx hb dL_law_372 (by decide) ?_
  refine lv_iadd hx hb dL_law_373 ?_
  refine r_sld hx hb hX hbl hbA h.2 (I := I) (j := 1) (nI_add I 1) (by omega) (by omega) dL_law_374 ?_
  refine lv_aload_n hx hb dL_law_375 rfl (lv_at hl 3 rfl) ?_
  refine lv_iload_n hx hb dL_law_376 rfl (lv_at hl 0 rfl) ?_
  refine lv_iconst (v := 2) hx hb dL_law_377 (by decide) ?_
  refine lv_iadd hx hb dL_law_378 ?_
  refine r_sld hx hb hX hbl hbA h.2 (I := I) (j := 2) (nI_add I 2) (by omega) (by omega) dL_law_379 ?_
  refine u_i (ru_V (As := [.int (xs (I + 1)), .int (xs (I + 2))]) (rest := []) F h C0 rfl (k_X7_swap l g n c lh 0 rs C0 R CB l5 hq CH hW (xs (I + 1)) (xs (I + 2)) sc sc hsc s5) (gV lwG_in wd_404 wd_405 wd_406 wd_51 wd_407) rfl 2 (by decide +kernel) rfl ⟨Nat.le_of_ble_eq_true rfl, Nat.le_of_ble_eq_true rfl⟩ rfl hl.1 (Nat.le_of_ble_eq_true rfl) ⟨by show cells + 0 ≤ 600000; omega, by show slots + 0 ≤ 7302249; omega⟩ dL_law_380) h (fun r1 n1 c1 H locs hp1 h => ?_)
  have F1 : ∀ i : Nat, 260 ≤ i → i < n → c1 i = c i := hp1.2.2.2.2.2
  refine lv_aload_n hx hb dL_law_383 rfl (lv_at hl 1 rfl) ?_
  refine lv_aload_n hx hb dL_law_384 rfl (lv_at hl 3 rfl) ?_
  refine lv_iload_n hx hb dL_law_385 rfl (lv_at hl 0 rfl) ?_
  refine lv_iconst (v := 1) hx hb dL_law_386 (by decide) ?_
  refine lv_iadd hx hb dL_law_387 ?_
  refine r_sld hx hb hX hbl hbA h.2 (I := I) (j := 1) (nI_add I 1) (by omega) (by omega) dL_law_388 ?_
  refine lv_aload_n hx hb dL_law_389 rfl (lv_at hl 3 rfl) ?_
  refine lv_iload_n hx hb dL_law_390 rfl (lv_at hl 0 rfl) ?_
  refine lv_iconst (v := 2) hx hb dL_law_391 (by decide) ?_
  refine lv_iadd hx hb dL_law_392 ?_
  refine r_sld hx hb hX hbl hbA h.2 (I := I) (j := 2) (nI_add I 2) (by omega) (by omega) dL_law_393 ?_
  refine u_i (ru_V (As := [.int (xs (I + 1)), .int (xs (I + 2))]) (rest := [.int r1]) F h ((F1 352 (by decide) (by omega)).trans M0) rfl (k_X8_swap l g n1 c1 352 lh l5 rs (nI T) pl2 fa od ((F1 352 (by decide) (by omega)).trans M0) r ((F1 _ (by decide) (by omega)).trans M1) scr ((F1 _ (by decide) (by omega)).trans M2) hh ((F1 _ (by decide) (by omega)).trans M3) (xs (I + 1)) (xs (I + 2)) ) (gV lwG_in wd_956 wd_957 wd_958 wd_58 wd_959) rfl 2 (by decide +kernel) rfl ⟨Nat.le_of_ble_eq_true rfl, Nat.le_of_ble_eq_true rfl⟩ rfl hl.1 (Nat.le_of_ble_eq_true rfl) ⟨by show cells + 0 + 0 ≤ 600000; omega, by show slots + 0 + 0 ≤ 7302249; omega⟩ dL_law_394) h (fun r2 n2 c2 H locs hp2 h => ?_)
  obtain ⟨e1, e2, e3⟩ := hp2
  have st := st_as hn hC hM hp (show tb ≤ tb + 720 by omega) (M0 := sp_X8_swap lh rs r scr hh (xs (I + 1)) (xs (I + 2))) hp1 (((ds_swap hI hR).as).tb (by omega)) e3
  rw [e1] at h
  refine lv_icmp_eq (tgt := 1063) hx hb dL_law_397 (by decide) (fun _ => ?_) (fun z => absurd (st.1.trans e2.symm) z)
  exact W.widen (by omega) (by omega) (K _ _ _ _ h (st.2))
set_option maxHeartbeats 4000000 in
set_option maxRecDepth 100000 in
theorem lc_addCurrent (hLX : LX p s m meth c0 b L xs g) (h : Hv g s H locs n c) (hLI : LI g tb n c) (hl : lv_has ls 4 [(3, .int (nI I)), (2, .ref (gz g + 352)), (1, .ref (gz g + 0)), (0, .ref b)]) (hI6 : I + 6 ≤ L) (htb : tb ≤ 800000000) (hcl : cells + 22 ≤ 600000) (hsl : slots + 88 ≤ 7302249) (K : LK p l e s m below meth c0 b g (cells + 22) (slots + 88) ls (tb + 720)) : W p l e room_1 s m #[Value.ref b] below meth c0 H locs cells slots (lw_Z below #[Value.ref b] s) (F0 m 402 ls []) := by
  obtain ⟨F, hX, hbl, hbA, hL⟩ := hLX
  have hx := F.1
  have hb := F.2.1
  obtain ⟨hn, lh, T, rs, R, r, hq, hh, S, sl, zk, tx, wd, nu, scr, oa, ct, pl, pl2, fa, od, hC, hM, hp⟩ := id hLI
  obtain ⟨C0, CB, CH, CS, CZ, CO, CT, CW, CN⟩ := id hC
  obtain ⟨M0, M1, M2, M3, M4, M5, M6, M7⟩ := id hM
  obtain ⟨l5, l7, ⟨sc, cn, hI, hR⟩, l2, l3⟩ := id hp
  have hW : WB R := hI.wb hR
  have c5 := hI.1.2.1
  have s5 := hI.1.2.2.2
  have hcn : R 3 = nI cn := (hR.lo (by decide)).trans hI.1.1
  have hsc : R 4 = nI sc := (hR.lo (by decide)).trans hI.1.2.2.1
  refine lv_aload_n hx hb dL_law_402 rfl (lv_at hl 2 rfl) ?_
  refine lv_aload_n hx hb dL_law_403 rfl (lv_at hl 3 rfl) ?_
  refine lv_iload_n hx hb dL_law_404 rfl (lv_at hl 0 rfl) ?_
  refine lv_iconst (v := 1) hx hb dL_law_405 (by decide) ?_
  refine lv_iadd hx hb dL_law_406 ?_
  refine r_sld hx hb hX hbl hbA h.2 (I := I) (j := 1) (nI_add I 1) (by omega) (by omega) dL_law_407 ?_
  refine lv_aload_n hx hb dL_law_408 rfl (lv_at hl 3 rfl) ?_
  refine lv_iload_n hx hb dL_law_409 rfl (lv_at hl 0 rfl) ?_
  refine lv_iconst (v := 2) hx hb dL_law_410 (by decide) ?_
  refine lv_iadd hx hb dL_law_411 ?_
  refine r_sld hx hb hX hbl hbA h.2 (I := I) (j := 2) (nI_add I 2) (by omega) (by omega) dL_law_412 ?_
  refine lv_aload_n hx hb dL_law_413 rfl (lv_at hl 3 rfl) ?_
  refine lv_iload_n hx hb dL_law_414 rfl (lv_at hl 0 rfl) ?_
  refine lv_iconst (v := 3) hx hb dL_law_415 (by decide) ?_
  refine lv_iadd hx hb dL_law_416 ?_
  refine r_sld hx hb hX hbl hbA h.2 (I := I) (j := 3) (nI_add I 3) (by omega) (by omega) dL_law_417 ?_
  refine lv_aload_n hx hb dL_law_418 rfl (lv_at hl 3 rfl) ?_
  refine lv_iload_n hx hb dL_law_419 rfl (lv_at hl 0 rfl) ?_
  refine lv_iconst (v := 4) hx hb dL_law_420 (by decide) ?_
  refine lv_iadd hx hb dL_law_421 ?_
  refine r_sld hx hb hX hbl hbA h.2 (I := I) (j := 4) (nI_add I 4) (by omega) (by omega) dL_law_422 ?_
  refine u_i (ru_V (As := [.int (xs (I + 1)), .int (xs (I + 2)), .int (xs (I + 3)), .int (xs (I + 4))]) (rest := []) F h C0 rfl (k_X7_addCurrent l g n c lh 0 rs C0 R CB l5 hq CH hW (xs (I + 1)) (xs (I + 2)) (xs (I + 3)) (xs (I + 4)) sc cn hsc s5 hcn c5) (gV lwG_in wd_412 wd_413 wd_414 wd_51 wd_415) rfl 4 (by decide +kernel) rfl ⟨Nat.le_of_ble_eq_true rfl, Nat.le_of_ble_eq_true rfl⟩ rfl hl.1 (Nat.le_of_ble_eq_true rfl) ⟨by show cells + 0 ≤ 600000; omega, by show slots + 0 ≤ 7302249; omega⟩ dL_law_423) h (fun r1 n1 c1 H locs hp1 h => ?_)
  have F1 : ∀ i : Nat, 260 ≤ i → i < n → c1 i = c i := hp1.2.2.2.2.2
  refine lv_aload_n hx hb dL_law_426 rfl (lv_at hl 1 rfl) ?_
  refine lv_aload_n hx hb dL_law_427 rfl (lv_at hl 3 rfl) ?_
  refine lv_iload_n hx hb dL_law_428 rfl (lv_at hl 0 rfl) ?_
  refine lv_iconst (v := 1) hx hb dL_law_429 (by decide) ?_
  refine lv_iadd hx hb dL_law_430 ?_
  refine r_sld hx hb hX hbl hbA h.2 (I := I) (j := 1) (nI_add I 1) (by omega) (by omega) dL_law_431 ?_
  refine lv_aload_n hx hb dL_law_432 rfl (lv_at hl 3 rfl) ?_
  refine lv_iload_n hx hb dL_law_433 rfl (lv_at hl 0 rfl) ?_
  refine lv_iconst (v := 2) hx hb dL_law_434 (by decide) ?_
  refine lv_iadd hx hb dL_law_435 ?_
  refine r_sld hx hb hX hbl hbA h.2 (I := I) (j := 2) (nI_add I 2) (by omega) (by omega) dL_law_436 ?_
  refine lv_aload_n hx hb dL_law_437 rfl (lv_at hl 3 rfl) ?_
  refine lv_iload_n hx hb dL_law_438 rfl (lv_at hl 0 rfl) ?_
  refine lv_iconst (v := 3) hx hb dL_law_439 (by decide) ?_
  refine lv_iadd hx hb dL_law_440 ?_
  refine r_sld hx hb hX hbl hbA h.2 (I := I) (j := 3) (nI_add I 3) (by omega) (by omega) dL_law_441 ?_
  refine lv_aload_n hx hb dL_law_442 rfl (lv_at hl 3 rfl) ?_
  refine lv_iload_n hx hb dL_law_443 rfl (lv_at hl 0 rfl) ?_
  refine lv_iconst (v := 4) hx hb dL_law_444 (by decide) ?_
  refine lv_iadd hx hb dL_law_445 ?_
  refine r_sld hx hb hX hbl hbA h.2 (I := I) (j := 4) (nI_add I 4) (by omega) (by omega) dL_law_446 ?_
  refine u_i (ru_V (As := [.int (xs (I + 1)), .int (xs (I + 2)), .int (xs (I + 3)), .int (xs (I + 4))]) (rest := [.int r1]) F h ((F1 352 (by decide) (by omega)).trans M0) rfl (k_X8_addCurrent l g n1 c1 352 lh l5 rs (nI T) pl2 fa od ((F1 352 (by decide) (by omega)).trans M0) r ((F1 _ (by decide) (by omega)).trans M1) scr ((F1 _ (by decide) (by omega)).trans M2) hh ((F1 _ (by decide) (by omega)).trans M3) (xs (I + 1)) (xs (I + 2)) (xs (I + 3)) (xs (I + 4)) cn hI.1.1 c5) (gV lwG_in wd_964 wd_965 wd_966 wd_58 wd_967) rfl 4 (by decide +kernel) rfl ⟨Nat.le_of_ble_eq_true rfl, Nat.le_of_ble_eq_true rfl⟩ rfl hl.1 (Nat.le_of_ble_eq_true rfl) ⟨by show cells + 0 + 0 ≤ 600000; omega, by show slots + 0 + 0 ≤ 7302249; omega⟩ dL_law_447) h (fun r2 n2 c2 H locs hp2 h => ?_)
  obtain ⟨e1, e2, e3⟩ := hp2
  have st := st_as hn hC hM hp (show tb ≤ tb + 720 by omega) (M0 := sp_X8_addCurrent lh rs r scr hh (xs (I + 1)) (xs (I + 2)) (xs (I + 3)) (xs (I + 4)) cn) hp1 ((as_addCurrent hI hR).tb (by omega)) e3
  rw [e1] at h
  refine lv_icmp_eq (tgt := 1063) hx hb dL_law_450 (by decide) (fun _ => ?_) (fun z => absurd (st.1.trans e2.symm) z)
  exact W.widen (by omega) (by omega) (K _ _ _ _ h (st.2))
set_option maxHeartbeats 4000000 in
set_option maxRecDepth 100000 in
theorem lc_clearCurrents (hLX : LX p s m meth c0 b L xs g) (h : Hv g s H locs n c) (hLI : LI g tb n c) (hl : lv_has ls 4 [(3, .int (nI I)), (2, .ref (gz g + 352)), (1, .ref (gz g + 0)), (0, .ref b)]) (hI6 : I + 6 ≤ L) (htb : tb ≤ 800000000) (hcl : cells + 22 ≤ 600000) (hsl : slots + 88 ≤ 7302249) (K : LK p l e s m below meth c0 b g (cells + 22) (slots + 88) ls (tb + 720)) : W p l e room_1 s m #[Value.ref b] below meth c0 H locs cells slots (lw_Z below #[Value.ref b] s) (F0 m 455 ls []) := by
  obtain ⟨F, hX, hbl, hbA, hL⟩ := hLX
  have hx := F.1
  have hb := F.2.1
  obtain ⟨hn, lh, T, rs, R, r, hq, hh, S, sl, zk, tx, wd, nu, scr, oa, ct, pl, pl2, fa, od, hC, hM, hp⟩ := id hLI
  obtain ⟨C0, CB, CH, CS, CZ, CO, CT, CW, CN⟩ := id hC
  obtain ⟨M0, M1, M2, M3, M4, M5, M6, M7⟩ := id hM
  obtain ⟨l5, l7, ⟨sc, cn, hI, hR⟩, l2, l3⟩ := id hp
  have hW : WB R := hI.wb hR
  have c5 := hI.1.2.1
  have s5 := hI.1.2.2.2
  have hcn : R 3 = nI cn := (hR.lo (by decide)).trans hI.1.1
  have hsc : R 4 = nI sc := (hR.lo (by decide)).trans hI.1.2.2.1
  refine lv_aload_n hx hb dL_law_455 rfl (lv_at hl 2 rfl) ?_
  refine u_i (ru_V (As := []) (rest := []) F h C0 rfl (k_X7_clearCurrents l g n c lh 0 rs C0 R CB l5 hq CH hW  sc hsc s5) (gV lwG_in wd_426 wd_427 wd_428 wd_51 wd_429) rfl 0 (by decide +kernel) rfl ⟨Nat.le_of_ble_eq_true rfl, Nat.le_of_ble_eq_true rfl⟩ rfl hl.1 (Nat.le_of_ble_eq_true rfl) ⟨by show cells + 0 ≤ 600000; omega, by show slots + 0 ≤ 7302249; omega⟩ dL_law_456) h (fun r1 n1 c1 H locs hp1 h => ?_)
  have F1 : ∀ i : Nat, 260 ≤ i → i < n → c1 i = c i := hp1.2.2.2.2.2
  refine lv_aload_n hx hb dL_law_459 rfl (lv_at hl 1 rfl) ?_
  refine u_i (ru_V (As := []) (rest := [.int r1]) F h ((F1 352 (by decide) (by omega)).trans M0) rfl (k_X8_clearCurrents l g n1 c1 352 lh l5 rs (nI T) pl2 fa od ((F1 352 (by decide) (by omega)).trans M0) r ((F1 _ (by decide) (by omega)).trans M1) scr ((F1 _ (by decide) (by omega)).trans M2) hh ((F1 _ (by decide) (by omega)).trans M3)  ) (gV lwG_in wd_973 wd_974 wd_975 wd_58 wd_976) rfl 0 (by decide +kernel) rfl ⟨Nat.le_of_ble_eq_true rfl, Nat.le_of_ble_eq_true rfl⟩ rfl hl.1 (Nat.le_of_ble_eq_true rfl) ⟨by show cells + 0 + 0 ≤ 600000; omega, by show slots + 0 + 0 ≤ 7302249; omega⟩ dL_law_460) h (fun r2 n2 c2 H locs hp2 h => ?_)
  obtain ⟨e1, e2, e3⟩ := hp2
  have st := st_as hn hC hM hp (show tb ≤ tb + 720 by omega) (M0 := sp_X8_clearCurrents lh rs r scr hh ) hp1 ((as_clearCurrents hI hR).tb (by omega)) e3
  rw [e1] at h
  refine lv_icmp_eq (tgt := 1063) hx hb dL_law_463 (by decide) (fun _ => ?_) (fun z => absurd (st.1.trans e2.symm) z)
  exact W.widen (by omega) (by omega) (K _ _ _ _ h (st.2))
end LC
