/-! The law: stations. -/
set_option maxHeartbeats 4000000 in
set_option maxRecDepth 100000 in
theorem k_L_stations (l : Launch) (g : Gf) (n : Nat) (c : Mp) {lh : Nat} {rs : Int32} {R : Nat → Int32} {hq : Nat → Nat → Int32} (hWd : Wd g c lh rs R hq) {sc cn tb : Nat} (J : Jv R sc cn tb) : Ct l g yL_stations wsL_stations 5 117 0 0 [.ref (gz g + 0)] n c (Qi g (fun xr n' c' => xr = 1 ∧ n' = n ∧ c' = c)) := by
  have s5 := J.s5
  refine ent (by decide) rfl (Nat.le_of_ble_eq_true rfl) ?_
  intro p e s m args below meth c0 F h ls hl
  have hx := F.1
  have hb := F.2.1
  have hl : lv_has ls 11 [(0, .ref (gz g + 0))] := hl
  refine lv_iconst (v := 0) hx hb dL_stations_0 (by decide) ?_
  refine lv_istore_n (lv' := [(1, .int 0), (0, .ref (gz g + 0))]) hx hb dL_stations_1 rfl hl (by decide) rfl (fun ls hl => ?_)
  refine lv_iconst (v := 0) hx hb dL_stations_2 (by decide) ?_
  refine lv_istore_n (lv' := [(2, .int 0), (1, .int 0), (0, .ref (gz g + 0))]) hx hb dL_stations_3 rfl hl (by decide) rfl (fun ls hl => ?_)
  refine lv_iconst (v := 0) hx hb dL_stations_4 (by decide) ?_
  refine lv_istore_n (lv' := [(3, .int 0), (2, .int 0), (1, .int 0), (0, .ref (gz g + 0))]) hx hb dL_stations_5 rfl hl (by decide) rfl (fun ls hl => ?_)
  have lst : ∀ (k : Nat) (s1 : Nat) (hs : s1 ≤ sc) (H : Heap) (locs : List Loc) (ls : Array Slot), (6 - s1) ≤ k → Hv g s H locs n c → lv_has ls 11 [(0, .ref (gz g + 0)), (1, .int (vsI R s1)), (2, .int (ctI (fun v => R (204 + v)) s1)), (3, .int (nI s1))] → W p l e (Rm 5 117 0 0) s m args below meth c0 H locs 0 0 (MQ below (Qi g (fun xr n' c' => xr = 1 ∧ n' = n ∧ c' = c)) args s 0 0 (mAf g)) (F0 m 6 ls []) := by
    intro k_lst
    induction k_lst with
    | zero => intro s1 hs H locs ls hk h hl; exact absurd hk (by omega)
    | succ k_lst ih_lst =>
      intro s1 hs H locs ls hk_lst h hl
      refine lv_iload_n hx hb dL_stations_6 rfl (lv_at hl 3 rfl) ?_
      refine lv_aload_n hx hb dL_stations_7 rfl (lv_at hl 0 rfl) ?_
      refine lv_iconst (v := 3) hx hb dL_stations_8 (by decide) ?_
      refine u_iE (v := nI sc) (ru_V (As := [.int 3]) (rest := [.int (nI s1)]) F h hWd.1 rfl (kw_count l g n c hWd J 3 (v := nI sc) (J.s4)) (gV hjl wd_399 wd_400 wd_401 wd_16 wd_402) rfl 1 (by decide +kernel) rfl ⟨Nat.le_of_ble_eq_true rfl, Nat.le_of_ble_eq_true rfl⟩ rfl hl.1 (Nat.le_of_ble_eq_true rfl) ⟨Nat.zero_le _, Nat.zero_le _⟩ dL_stations_9) h (fun H locs h => ?_)
      refine lv_icmp_ge (tgt := 482) hx hb dL_stations_12 (by decide) (fun b_12 => ?_) (fun b_12 => ?_)
      · skip
        have e5 : s1 = sc := by have := lp_ge (N := sc) rfl (by omega) (by omega) b_12; omega
        have hl : lv_has ls 11 [(0, .ref (gz g + 0)), (1, .int (vsI R sc)), (2, .int (ctI (fun v => R (204 + v)) s1)), (3, .int (nI s1))] := by rw [show (vsI R sc : Int32) = vsI R s1 from by rw [e5]]; exact hl
        have hl : lv_has ls 11 [(0, .ref (gz g + 0)), (1, .int (vsI R sc)), (2, .int (ctI (fun v => R (204 + v)) sc)), (3, .int (nI s1))] := by rw [show (ctI (fun v => R (204 + v)) sc : Int32) = ctI (fun v => R (204 + v)) s1 from by rw [e5]]; exact hl
        refine lv_iconst (v := 0) hx hb dL_stations_482 (by decide) ?_
        refine lv_istore_n (lv' := [(3, .int 0), (0, .ref (gz g + 0)), (1, .int (vsI R sc)), (2, .int (ctI (fun v => R (204 + v)) sc))]) hx hb dL_stations_483 rfl hl (by decide) rfl (fun ls hl => ?_)
        have loq : ∀ (k : Nat) (pr : Nat) (hpr : pr ≤ 2) (H : Heap) (locs : List Loc) (ls : Array Slot), (3 - pr) ≤ k → Hv g s H locs n c → lv_has ls 11 [(0, .ref (gz g + 0)), (1, .int (vsI R sc)), (2, .int (ctI (fun v => R (204 + v)) sc)), (3, .int (nI pr))] → W p l e (Rm 5 117 0 0) s m args below meth c0 H locs 0 0 (MQ below (Qi g (fun xr n' c' => xr = 1 ∧ n' = n ∧ c' = c)) args s 0 0 (mAf g)) (F0 m 484 ls []) := by
          intro k_loq
          induction k_loq with
          | zero => intro pr hpr H locs ls hk h hl; exact absurd hk (by omega)
          | succ k_loq ih_loq =>
            intro pr hpr H locs ls hk_loq h hl
            refine lv_iload_n hx hb dL_stations_484 rfl (lv_at hl 3 rfl) ?_
            refine lv_iconst (v := 2) hx hb dL_stations_485 (by decide) ?_
            refine lv_icmp_ge (tgt := 618) hx hb dL_stations_486 (by decide) (fun b_486 => ?_) (fun b_486 => ?_)
            · skip
              refine lv_aload_n hx hb dL_stations_618 rfl (lv_at hl 0 rfl) ?_
              refine lv_iconst (v := 4) hx hb dL_stations_619 (by decide) ?_
              refine u_iE (v := ctI (fun v => R (204 + v)) sc) (ru_V (As := [.int 4]) (rest := []) F h hWd.1 rfl (kw_count l g n c hWd J 4 (v := ctI (fun v => R (204 + v)) sc) (rfl)) (gV hjl wd_399 wd_400 wd_401 wd_16 wd_402) rfl 1 (by decide +kernel) rfl ⟨Nat.le_of_ble_eq_true rfl, Nat.le_of_ble_eq_true rfl⟩ rfl hl.1 (Nat.le_of_ble_eq_true rfl) ⟨Nat.zero_le _, Nat.zero_le _⟩ dL_stations_620) h (fun H locs h => ?_)
              refine lv_iload_n hx hb dL_stations_623 rfl (lv_at hl 2 rfl) ?_
              refine lv_icmp_ne (tgt := 661) hx hb dL_stations_624 (by decide) (fun b_624 => by first | exact absurd b_624 (rfl) | exact absurd (rfl) b_624) (fun b_624 => ?_)
              refine lv_aload_n hx hb dL_stations_627 rfl (lv_at hl 0 rfl) ?_
              refine lv_iconst (v := 5) hx hb dL_stations_628 (by decide) ?_
              refine u_iE (v := vsI R sc) (ru_V (As := [.int 5]) (rest := []) F h hWd.1 rfl (kw_count l g n c hWd J 5 (v := vsI R sc) (rfl)) (gV hjl wd_399 wd_400 wd_401 wd_16 wd_402) rfl 1 (by decide +kernel) rfl ⟨Nat.le_of_ble_eq_true rfl, Nat.le_of_ble_eq_true rfl⟩ rfl hl.1 (Nat.le_of_ble_eq_true rfl) ⟨Nat.zero_le _, Nat.zero_le _⟩ dL_stations_629) h (fun H locs h => ?_)
              refine lv_iload_n hx hb dL_stations_632 rfl (lv_at hl 1 rfl) ?_
              refine lv_icmp_ne (tgt := 661) hx hb dL_stations_633 (by decide) (fun b_633 => by first | exact absurd b_633 (rfl) | exact absurd (rfl) b_633) (fun b_633 => ?_)
              refine lv_aload_n hx hb dL_stations_636 rfl (lv_at hl 0 rfl) ?_
              refine lv_iconst (v := 2) hx hb dL_stations_637 (by decide) ?_
              refine u_iE (v := (-100001)) (ru_V (As := [.int 2]) (rest := []) F h hWd.1 rfl (kw_surface l g n c hWd J 2 (v := (-100001)) (su_u)) (gV hjl wd_530 wd_531 wd_532 wd_16 wd_533) rfl 1 (by decide +kernel) rfl ⟨Nat.le_of_ble_eq_true rfl, Nat.le_of_ble_eq_true rfl⟩ rfl hl.1 (Nat.le_of_ble_eq_true rfl) ⟨Nat.zero_le _, Nat.zero_le _⟩ dL_stations_638) h (fun H locs h => ?_)
              refine lv_ldc (v := (-100001)) hx hb F.2.2.2.1 (F.2.2.2.2.1 (Cond.constant RL 52 (-100001)) (List.mem_cons_of_mem _ wd_514)) dL_stations_641 ?_
              refine lv_icmp_ne (tgt := 661) hx hb dL_stations_643 (by decide) (fun b_643 => by first | exact absurd b_643 (by decide) | exact absurd (by decide) b_643) (fun b_643 => ?_)
              refine lv_aload_n hx hb dL_stations_646 rfl (lv_at hl 0 rfl) ?_
              refine lv_bipush (v := 11) hx hb dL_stations_647 (by decide) ?_
              refine u_iE (v := (-100002)) (ru_V (As := [.int 11]) (rest := []) F h hWd.1 rfl (kw_count l g n c hWd J 11 (v := (-100002)) (rfl)) (gV hjl wd_399 wd_400 wd_401 wd_16 wd_402) rfl 1 (by decide +kernel) rfl ⟨Nat.le_of_ble_eq_true rfl, Nat.le_of_ble_eq_true rfl⟩ rfl hl.1 (Nat.le_of_ble_eq_true rfl) ⟨Nat.zero_le _, Nat.zero_le _⟩ dL_stations_649) h (fun H locs h => ?_)
              refine lv_ldc (v := (-100002)) hx hb F.2.2.2.1 (F.2.2.2.2.1 (Cond.constant RL 15 (-100002)) (List.mem_cons_of_mem _ wd_442)) dL_stations_652 ?_
              refine lv_icmp_ne (tgt := 661) hx hb dL_stations_654 (by decide) (fun b_654 => by first | exact absurd b_654 (by decide) | exact absurd (by decide) b_654) (fun b_654 => ?_)
              refine lv_iconst (v := 1) hx hb dL_stations_657 (by decide) ?_
              refine lv_goto (tgt := 662) hx hb dL_stations_658 (by decide) ?_
              exact ret_z F h (by decide) (Nat.zero_le _) (Nat.zero_le _) dL_stations_662 (⟨rfl, rfl, rfl⟩)
            have hp2 : pr < 2 := lp_lt (N := 2) rfl (by omega) (by decide) b_486
            refine lv_iconst (v := 2) hx hb dL_stations_489 (by decide) ?_
            refine lv_iload_n hx hb dL_stations_490 rfl (lv_at hl 3 rfl) ?_
            refine lv_imul hx hb dL_stations_491 ?_
            refine r_top (w := .int (nI (2 * pr))) (congrArg Value.int (pk_mul 2 pr)) ?_
            refine lv_istore (lv' := [(4, .int (nI (2 * pr))), (0, .ref (gz g + 0)), (1, .int (vsI R sc)), (2, .int (ctI (fun v => R (204 + v)) sc)), (3, .int (nI pr))]) hx hb dL_stations_492 hl (by decide) rfl (fun ls hl => ?_)
            by_cases ka : R (5 + 11 * (2 * pr) + 0) = 0
            · skip
              refine lv_aload_n hx hb dL_stations_494 rfl (lv_at hl 1 rfl) ?_
              refine lv_iload hx hb dL_stations_495 (lv_at hl 0 rfl) ?_
              refine lv_iconst (v := 2) hx hb dL_stations_497 (by decide) ?_
              refine u_iE (v := (-100005)) (ru_V (As := [.int (nI (2 * pr)), .int 2]) (rest := []) F h hWd.1 rfl (kw_wire l g n c hWd J (nI (2 * pr)) 2 (v := (-100005)) (wi_n (by omega) ka (by decide))) (gV hjl wd_390 wd_391 wd_392 wd_16 wd_393) rfl 2 (by decide +kernel) rfl ⟨Nat.le_of_ble_eq_true rfl, Nat.le_of_ble_eq_true rfl⟩ rfl hl.1 (Nat.le_of_ble_eq_true rfl) ⟨Nat.zero_le _, Nat.zero_le _⟩ dL_stations_498) h (fun H locs h => ?_)
              refine lv_if_le (tgt := 520) hx hb dL_stations_501 (by decide) (fun b_501 => ?_) (fun b_501 => by first | exact absurd (by decide) b_501 | exact absurd b_501 (by decide))
              refine lv_iconst (v := 0) hx hb dL_stations_520 (by decide) ?_
              refine lv_istore (lv' := [(5, .int 0), (4, .int (nI (2 * pr))), (0, .ref (gz g + 0)), (1, .int (vsI R sc)), (2, .int (ctI (fun v => R (204 + v)) sc)), (3, .int (nI pr))]) hx hb dL_stations_521 hl (by decide) rfl (fun ls hl => ?_)
              refine lv_iload hx hb dL_stations_523 (lv_at hl 0 rfl) ?_
              refine lv_if_eq (tgt := 548) hx hb dL_stations_525 (by decide) (fun b_525 => ?_) (fun b_525 => by first | exact absurd (by decide) b_525 | exact absurd b_525 (by decide))
              refine lv_iconst (v := 0) hx hb dL_stations_548 (by decide) ?_
              refine lv_istore (lv' := [(6, .int 0), (5, .int 0), (4, .int (nI (2 * pr))), (0, .ref (gz g + 0)), (1, .int (vsI R sc)), (2, .int (ctI (fun v => R (204 + v)) sc)), (3, .int (nI pr))]) hx hb dL_stations_549 hl (by decide) rfl (fun ls hl => ?_)
              refine lv_iload hx hb dL_stations_551 (lv_at hl 1 rfl) ?_
              refine lv_if_eq (tgt := 576) hx hb dL_stations_553 (by decide) (fun b_553 => ?_) (fun b_553 => by first | exact absurd (by decide) b_553 | exact absurd b_553 (by decide))
              refine lv_iconst (v := 0) hx hb dL_stations_576 (by decide) ?_
              refine lv_istore (lv' := [(7, .int 0), (6, .int 0), (5, .int 0), (4, .int (nI (2 * pr))), (0, .ref (gz g + 0)), (1, .int (vsI R sc)), (2, .int (ctI (fun v => R (204 + v)) sc)), (3, .int (nI pr))]) hx hb dL_stations_577 hl (by decide) rfl (fun ls hl => ?_)
              refine lv_aload_n hx hb dL_stations_579 rfl (lv_at hl 4 rfl) ?_
              refine lv_iload_n hx hb dL_stations_580 rfl (lv_at hl 7 rfl) ?_
              refine u_iE (v := (-100005)) (ru_V (As := [.int (nI pr)]) (rest := []) F h hWd.1 rfl (kw_surface l g n c hWd J (nI pr) (v := (-100005)) (su_n hp2 (Or.inl ka))) (gV hjl wd_530 wd_531 wd_532 wd_16 wd_533) rfl 1 (by decide +kernel) rfl ⟨Nat.le_of_ble_eq_true rfl, Nat.le_of_ble_eq_true rfl⟩ rfl hl.1 (Nat.le_of_ble_eq_true rfl) ⟨Nat.zero_le _, Nat.zero_le _⟩ dL_stations_581) h (fun H locs h => ?_)
              refine lv_iload hx hb dL_stations_584 (lv_at hl 1 rfl) ?_
              refine lv_if_ne (tgt := 599) hx hb dL_stations_586 (by decide) (fun b_586 => by first | exact absurd b_586 (by decide) | exact absurd (by decide) b_586) (fun b_586 => ?_)
              refine lv_iload hx hb dL_stations_589 (lv_at hl 0 rfl) ?_
              refine lv_if_ne (tgt := 599) hx hb dL_stations_591 (by decide) (fun b_591 => by first | exact absurd b_591 (by decide) | exact absurd (by decide) b_591) (fun b_591 => ?_)
              refine lv_ldc (v := (-100005)) hx hb F.2.2.2.1 (F.2.2.2.2.1 (Cond.constant RL 35 (-100005)) (List.mem_cons_of_mem _ wd_446)) dL_stations_594 ?_
              refine lv_goto (tgt := 607) hx hb dL_stations_596 (by decide) ?_
              refine lv_icmp_eq (tgt := 612) hx hb dL_stations_607 (by decide) (fun b_607 => ?_) (fun b_607 => by first | exact absurd (by decide) b_607 | exact absurd b_607 (by decide))
              refine lv_iinc (v := nI (pr + 1)) (lv' := [(3, .int (nI (pr + 1))), (7, .int 0), (6, .int 0), (5, .int 0), (4, .int (nI (2 * pr))), (0, .ref (gz g + 0)), (1, .int (vsI R sc)), (2, .int (ctI (fun v => R (204 + v)) sc))]) hx hb dL_stations_612 hl (k := 7) rfl (by exact (nI_succ pr).symm) (by decide) rfl (fun ls hl => ?_)
              refine lv_goto (tgt := 484) hx hb dL_stations_615 (by decide) ?_
              exact ih_loq (pr + 1) (by omega) _ _ _ (by omega) h (lv_sub hl [5, 6, 7, 0] rfl)
            by_cases kb : R (5 + 11 * (2 * pr + 1) + 0) = 0
            · skip
              refine lv_aload_n hx hb dL_stations_494 rfl (lv_at hl 1 rfl) ?_
              refine lv_iload hx hb dL_stations_495 (lv_at hl 0 rfl) ?_
              refine lv_iconst (v := 2) hx hb dL_stations_497 (by decide) ?_
              refine u_iE (v := R (5 + 11 * (2 * pr) + 3)) (ru_V (As := [.int (nI (2 * pr)), .int 2]) (rest := []) F h hWd.1 rfl (kw_wire l g n c hWd J (nI (2 * pr)) 2 (v := R (5 + 11 * (2 * pr) + 3)) (wi_2 (by omega) (b01_of (J.b (by omega)) ka))) (gV hjl wd_390 wd_391 wd_392 wd_16 wd_393) rfl 2 (by decide +kernel) rfl ⟨Nat.le_of_ble_eq_true rfl, Nat.le_of_ble_eq_true rfl⟩ rfl hl.1 (Nat.le_of_ble_eq_true rfl) ⟨Nat.zero_le _, Nat.zero_le _⟩ dL_stations_498) h (fun H locs h => ?_)
              refine lv_if_le (tgt := 520) hx hb dL_stations_501 (by decide) (fun b_501 => by first | exact absurd b_501 (i_nle (bt_gt (J.wg (w := 2 * pr) (by omega) (b01_of (J.b (by omega)) ka)).2.2.1 0 (by decide))) | exact absurd (i_nle (bt_gt (J.wg (w := 2 * pr) (by omega) (b01_of (J.b (by omega)) ka)).2.2.1 0 (by decide))) b_501) (fun b_501 => ?_)
              refine lv_aload_n hx hb dL_stations_504 rfl (lv_at hl 1 rfl) ?_
              refine lv_iload hx hb dL_stations_505 (lv_at hl 0 rfl) ?_
              refine lv_iconst (v := 1) hx hb dL_stations_507 (by decide) ?_
              refine lv_iadd hx hb dL_stations_508 ?_
              refine r_top (w := .int (nI (2 * pr + 1))) (congrArg Value.int (nI_1 (2 * pr))) ?_
              refine lv_iconst (v := 2) hx hb dL_stations_509 (by decide) ?_
              refine u_iE (v := (-100005)) (ru_V (As := [.int (nI (2 * pr + 1)), .int 2]) (rest := []) F h hWd.1 rfl (kw_wire l g n c hWd J (nI (2 * pr + 1)) 2 (v := (-100005)) (wi_n (by omega) kb (by decide))) (gV hjl wd_390 wd_391 wd_392 wd_16 wd_393) rfl 2 (by decide +kernel) rfl ⟨Nat.le_of_ble_eq_true rfl, Nat.le_of_ble_eq_true rfl⟩ rfl hl.1 (Nat.le_of_ble_eq_true rfl) ⟨Nat.zero_le _, Nat.zero_le _⟩ dL_stations_510) h (fun H locs h => ?_)
              refine lv_if_le (tgt := 520) hx hb dL_stations_513 (by decide) (fun b_513 => ?_) (fun b_513 => by first | exact absurd (by decide) b_513 | exact absurd b_513 (by decide))
              refine lv_iconst (v := 0) hx hb dL_stations_520 (by decide) ?_
              refine lv_istore (lv' := [(5, .int 0), (4, .int (nI (2 * pr))), (0, .ref (gz g + 0)), (1, .int (vsI R sc)), (2, .int (ctI (fun v => R (204 + v)) sc)), (3, .int (nI pr))]) hx hb dL_stations_521 hl (by decide) rfl (fun ls hl => ?_)
              refine lv_iload hx hb dL_stations_523 (lv_at hl 0 rfl) ?_
              refine lv_if_eq (tgt := 548) hx hb dL_stations_525 (by decide) (fun b_525 => ?_) (fun b_525 => by first | exact absurd (by decide) b_525 | exact absurd b_525 (by decide))
              refine lv_iconst (v := 0) hx hb dL_stations_548 (by decide) ?_
              refine lv_istore (lv' := [(6, .int 0), (5, .int 0), (4, .int (nI (2 * pr))), (0, .ref (gz g + 0)), (1, .int (vsI R sc)), (2, .int (ctI (fun v => R (204 + v)) sc)), (3, .int (nI pr))]) hx hb dL_stations_549 hl (by decide) rfl (fun ls hl => ?_)
              refine lv_iload hx hb dL_stations_551 (lv_at hl 1 rfl) ?_
              refine lv_if_eq (tgt := 576) hx hb dL_stations_553 (by decide) (fun b_553 => ?_) (fun b_553 => by first | exact absurd (by decide) b_553 | exact absurd b_553 (by decide))
              refine lv_iconst (v := 0) hx hb dL_stations_576 (by decide) ?_
              refine lv_istore (lv' := [(7, .int 0), (6, .int 0), (5, .int 0), (4, .int (nI (2 * pr))), (0, .ref (gz g + 0)), (1, .int (vsI R sc)), (2, .int (ctI (fun v => R (204 + v)) sc)), (3, .int (nI pr))]) hx hb dL_stations_577 hl (by decide) rfl (fun ls hl => ?_)
              refine lv_aload_n hx hb dL_stations_579 rfl (lv_at hl 4 rfl) ?_
              refine lv_iload_n hx hb dL_stations_580 rfl (lv_at hl 7 rfl) ?_
              refine u_iE (v := (-100005)) (ru_V (As := [.int (nI pr)]) (rest := []) F h hWd.1 rfl (kw_surface l g n c hWd J (nI pr) (v := (-100005)) (su_n hp2 (Or.inr kb))) (gV hjl wd_530 wd_531 wd_532 wd_16 wd_533) rfl 1 (by decide +kernel) rfl ⟨Nat.le_of_ble_eq_true rfl, Nat.le_of_ble_eq_true rfl⟩ rfl hl.1 (Nat.le_of_ble_eq_true rfl) ⟨Nat.zero_le _, Nat.zero_le _⟩ dL_stations_581) h (fun H locs h => ?_)
              refine lv_iload hx hb dL_stations_584 (lv_at hl 1 rfl) ?_
              refine lv_if_ne (tgt := 599) hx hb dL_stations_586 (by decide) (fun b_586 => by first | exact absurd b_586 (by decide) | exact absurd (by decide) b_586) (fun b_586 => ?_)
              refine lv_iload hx hb dL_stations_589 (lv_at hl 0 rfl) ?_
              refine lv_if_ne (tgt := 599) hx hb dL_stations_591 (by decide) (fun b_591 => by first | exact absurd b_591 (by decide) | exact absurd (by decide) b_591) (fun b_591 => ?_)
              refine lv_ldc (v := (-100005)) hx hb F.2.2.2.1 (F.2.2.2.2.1 (Cond.constant RL 35 (-100005)) (List.mem_cons_of_mem _ wd_446)) dL_stations_594 ?_
              refine lv_goto (tgt := 607) hx hb dL_stations_596 (by decide) ?_
              refine lv_icmp_eq (tgt := 612) hx hb dL_stations_607 (by decide) (fun b_607 => ?_) (fun b_607 => by first | exact absurd (by decide) b_607 | exact absurd b_607 (by decide))
              refine lv_iinc (v := nI (pr + 1)) (lv' := [(3, .int (nI (pr + 1))), (7, .int 0), (6, .int 0), (5, .int 0), (4, .int (nI (2 * pr))), (0, .ref (gz g + 0)), (1, .int (vsI R sc)), (2, .int (ctI (fun v => R (204 + v)) sc))]) hx hb dL_stations_612 hl (k := 7) rfl (by exact (nI_succ pr).symm) (by decide) rfl (fun ls hl => ?_)
              refine lv_goto (tgt := 484) hx hb dL_stations_615 (by decide) ?_
              exact ih_loq (pr + 1) (by omega) _ _ _ (by omega) h (lv_sub hl [5, 6, 7, 0] rfl)
            by_cases kp : Plc R pr
            · skip
              have ga := J.wg (w := 2 * pr) (by omega) (b01_of (J.b (by omega)) ka)
              have gb := J.wg (w := 2 * pr + 1) (by omega) (b01_of (J.b (by omega)) kb)
              refine lv_aload_n hx hb dL_stations_494 rfl (lv_at hl 1 rfl) ?_
              refine lv_iload hx hb dL_stations_495 (lv_at hl 0 rfl) ?_
              refine lv_iconst (v := 2) hx hb dL_stations_497 (by decide) ?_
              refine u_iE (v := R (5 + 11 * (2 * pr) + 3)) (ru_V (As := [.int (nI (2 * pr)), .int 2]) (rest := []) F h hWd.1 rfl (kw_wire l g n c hWd J (nI (2 * pr)) 2 (v := R (5 + 11 * (2 * pr) + 3)) (wi_2 (by omega) (b01_of (J.b (by omega)) ka))) (gV hjl wd_390 wd_391 wd_392 wd_16 wd_393) rfl 2 (by decide +kernel) rfl ⟨Nat.le_of_ble_eq_true rfl, Nat.le_of_ble_eq_true rfl⟩ rfl hl.1 (Nat.le_of_ble_eq_true rfl) ⟨Nat.zero_le _, Nat.zero_le _⟩ dL_stations_498) h (fun H locs h => ?_)
              refine lv_if_le (tgt := 520) hx hb dL_stations_501 (by decide) (fun b_501 => by first | exact absurd b_501 (i_nle (bt_gt (J.wg (w := 2 * pr) (by omega) (b01_of (J.b (by omega)) ka)).2.2.1 0 (by decide))) | exact absurd (i_nle (bt_gt (J.wg (w := 2 * pr) (by omega) (b01_of (J.b (by omega)) ka)).2.2.1 0 (by decide))) b_501) (fun b_501 => ?_)
              refine lv_aload_n hx hb dL_stations_504 rfl (lv_at hl 1 rfl) ?_
              refine lv_iload hx hb dL_stations_505 (lv_at hl 0 rfl) ?_
              refine lv_iconst (v := 1) hx hb dL_stations_507 (by decide) ?_
              refine lv_iadd hx hb dL_stations_508 ?_
              refine r_top (w := .int (nI (2 * pr + 1))) (congrArg Value.int (nI_1 (2 * pr))) ?_
              refine lv_iconst (v := 2) hx hb dL_stations_509 (by decide) ?_
              refine u_iE (v := R (5 + 11 * (2 * pr + 1) + 3)) (ru_V (As := [.int (nI (2 * pr + 1)), .int 2]) (rest := []) F h hWd.1 rfl (kw_wire l g n c hWd J (nI (2 * pr + 1)) 2 (v := R (5 + 11 * (2 * pr + 1) + 3)) (wi_2 (by omega) (b01_of (J.b (by omega)) kb))) (gV hjl wd_390 wd_391 wd_392 wd_16 wd_393) rfl 2 (by decide +kernel) rfl ⟨Nat.le_of_ble_eq_true rfl, Nat.le_of_ble_eq_true rfl⟩ rfl hl.1 (Nat.le_of_ble_eq_true rfl) ⟨Nat.zero_le _, Nat.zero_le _⟩ dL_stations_510) h (fun H locs h => ?_)
              refine lv_if_le (tgt := 520) hx hb dL_stations_513 (by decide) (fun b_513 => by first | exact absurd b_513 (i_nle (bt_gt gb.2.2.1 0 (by decide))) | exact absurd (i_nle (bt_gt gb.2.2.1 0 (by decide))) b_513) (fun b_513 => ?_)
              refine lv_iconst (v := 1) hx hb dL_stations_516 (by decide) ?_
              refine lv_goto (tgt := 521) hx hb dL_stations_517 (by decide) ?_
              refine lv_istore (lv' := [(5, .int 1), (4, .int (nI (2 * pr))), (0, .ref (gz g + 0)), (1, .int (vsI R sc)), (2, .int (ctI (fun v => R (204 + v)) sc)), (3, .int (nI pr))]) hx hb dL_stations_521 hl (by decide) rfl (fun ls hl => ?_)
              refine lv_iload hx hb dL_stations_523 (lv_at hl 0 rfl) ?_
              refine lv_if_eq (tgt := 548) hx hb dL_stations_525 (by decide) (fun b_525 => by first | exact absurd b_525 (by decide) | exact absurd (by decide) b_525) (fun b_525 => ?_)
              refine lv_aload_n hx hb dL_stations_528 rfl (lv_at hl 2 rfl) ?_
              refine lv_iload hx hb dL_stations_529 (lv_at hl 1 rfl) ?_
              refine lv_iconst (v := 1) hx hb dL_stations_531 (by decide) ?_
              refine lv_iadd hx hb dL_stations_532 ?_
              refine r_top (w := .int (nI (2 * pr + 1))) (congrArg Value.int (nI_1 (2 * pr))) ?_
              refine lv_iconst (v := 0) hx hb dL_stations_533 (by decide) ?_
              refine u_iE (v := R (5 + 11 * (2 * pr + 1) + 1)) (ru_V (As := [.int (nI (2 * pr + 1)), .int 0]) (rest := []) F h hWd.1 rfl (kw_wire l g n c hWd J (nI (2 * pr + 1)) 0 (v := R (5 + 11 * (2 * pr + 1) + 1)) (wi_0 (by omega) (b01_of (J.b (by omega)) kb))) (gV hjl wd_390 wd_391 wd_392 wd_16 wd_393) rfl 2 (by decide +kernel) rfl ⟨Nat.le_of_ble_eq_true rfl, Nat.le_of_ble_eq_true rfl⟩ rfl hl.1 (Nat.le_of_ble_eq_true rfl) ⟨Nat.zero_le _, Nat.zero_le _⟩ dL_stations_534) h (fun H locs h => ?_)
              refine lv_aload_n hx hb dL_stations_537 rfl (lv_at hl 2 rfl) ?_
              refine lv_iload hx hb dL_stations_538 (lv_at hl 1 rfl) ?_
              refine lv_iconst (v := 0) hx hb dL_stations_540 (by decide) ?_
              refine u_iE (v := R (5 + 11 * (2 * pr) + 1)) (ru_V (As := [.int (nI (2 * pr)), .int 0]) (rest := [.int (R (5 + 11 * (2 * pr + 1) + 1))]) F h hWd.1 rfl (kw_wire l g n c hWd J (nI (2 * pr)) 0 (v := R (5 + 11 * (2 * pr) + 1)) (wi_0 (by omega) (b01_of (J.b (by omega)) ka))) (gV hjl wd_390 wd_391 wd_392 wd_16 wd_393) rfl 2 (by decide +kernel) rfl ⟨Nat.le_of_ble_eq_true rfl, Nat.le_of_ble_eq_true rfl⟩ rfl hl.1 (Nat.le_of_ble_eq_true rfl) ⟨Nat.zero_le _, Nat.zero_le _⟩ dL_stations_541) h (fun H locs h => ?_)
              refine lv_isub hx hb dL_stations_544 ?_
              refine lv_goto (tgt := 549) hx hb dL_stations_545 (by decide) ?_
              refine lv_istore (lv' := [(6, .int (R (5 + 11 * (2 * pr + 1) + 1) - R (5 + 11 * (2 * pr) + 1))), (5, .int 1), (4, .int (nI (2 * pr))), (0, .ref (gz g + 0)), (1, .int (vsI R sc)), (2, .int (ctI (fun v => R (204 + v)) sc)), (3, .int (nI pr))]) hx hb dL_stations_549 hl (by decide) rfl (fun ls hl => ?_)
              obtain ⟨dx, e_dx⟩ : ∃ x : Int32, x = (R (5 + 11 * (2 * pr + 1) + 1) - R (5 + 11 * (2 * pr) + 1)) := ⟨_, rfl⟩
              have hl : lv_has ls 11 [(6, .int dx), (5, .int 1), (4, .int (nI (2 * pr))), (0, .ref (gz g + 0)), (1, .int (vsI R sc)), (2, .int (ctI (fun v => R (204 + v)) sc)), (3, .int (nI pr))] := by rw [show (dx : Int32) = (R (5 + 11 * (2 * pr + 1) + 1) - R (5 + 11 * (2 * pr) + 1)) from e_dx]; exact hl
              refine lv_iload hx hb dL_stations_551 (lv_at hl 1 rfl) ?_
              refine lv_if_eq (tgt := 576) hx hb dL_stations_553 (by decide) (fun b_553 => by first | exact absurd b_553 (by decide) | exact absurd (by decide) b_553) (fun b_553 => ?_)
              refine lv_aload_n hx hb dL_stations_556 rfl (lv_at hl 3 rfl) ?_
              refine lv_iload hx hb dL_stations_557 (lv_at hl 2 rfl) ?_
              refine lv_iconst (v := 1) hx hb dL_stations_559 (by decide) ?_
              refine lv_iadd hx hb dL_stations_560 ?_
              refine r_top (w := .int (nI (2 * pr + 1))) (congrArg Value.int (nI_1 (2 * pr))) ?_
              refine lv_iconst (v := 1) hx hb dL_stations_561 (by decide) ?_
              refine u_iE (v := R (5 + 11 * (2 * pr + 1) + 2)) (ru_V (As := [.int (nI (2 * pr + 1)), .int 1]) (rest := []) F h hWd.1 rfl (kw_wire l g n c hWd J (nI (2 * pr + 1)) 1 (v := R (5 + 11 * (2 * pr + 1) + 2)) (wi_1 (by omega) (b01_of (J.b (by omega)) kb))) (gV hjl wd_390 wd_391 wd_392 wd_16 wd_393) rfl 2 (by decide +kernel) rfl ⟨Nat.le_of_ble_eq_true rfl, Nat.le_of_ble_eq_true rfl⟩ rfl hl.1 (Nat.le_of_ble_eq_true rfl) ⟨Nat.zero_le _, Nat.zero_le _⟩ dL_stations_562) h (fun H locs h => ?_)
              refine lv_aload_n hx hb dL_stations_565 rfl (lv_at hl 3 rfl) ?_
              refine lv_iload hx hb dL_stations_566 (lv_at hl 2 rfl) ?_
              refine lv_iconst (v := 1) hx hb dL_stations_568 (by decide) ?_
              refine u_iE (v := R (5 + 11 * (2 * pr) + 2)) (ru_V (As := [.int (nI (2 * pr)), .int 1]) (rest := [.int (R (5 + 11 * (2 * pr + 1) + 2))]) F h hWd.1 rfl (kw_wire l g n c hWd J (nI (2 * pr)) 1 (v := R (5 + 11 * (2 * pr) + 2)) (wi_1 (by omega) (b01_of (J.b (by omega)) ka))) (gV hjl wd_390 wd_391 wd_392 wd_16 wd_393) rfl 2 (by decide +kernel) rfl ⟨Nat.le_of_ble_eq_true rfl, Nat.le_of_ble_eq_true rfl⟩ rfl hl.1 (Nat.le_of_ble_eq_true rfl) ⟨Nat.zero_le _, Nat.zero_le _⟩ dL_stations_569) h (fun H locs h => ?_)
              refine lv_isub hx hb dL_stations_572 ?_
              refine lv_goto (tgt := 577) hx hb dL_stations_573 (by decide) ?_
              refine lv_istore (lv' := [(7, .int (R (5 + 11 * (2 * pr + 1) + 2) - R (5 + 11 * (2 * pr) + 2))), (6, .int dx), (5, .int 1), (4, .int (nI (2 * pr))), (0, .ref (gz g + 0)), (1, .int (vsI R sc)), (2, .int (ctI (fun v => R (204 + v)) sc)), (3, .int (nI pr))]) hx hb dL_stations_577 hl (by decide) rfl (fun ls hl => ?_)
              obtain ⟨dy, e_dy⟩ : ∃ x : Int32, x = (R (5 + 11 * (2 * pr + 1) + 2) - R (5 + 11 * (2 * pr) + 2)) := ⟨_, rfl⟩
              have hl : lv_has ls 11 [(7, .int dy), (6, .int dx), (5, .int 1), (4, .int (nI (2 * pr))), (0, .ref (gz g + 0)), (1, .int (vsI R sc)), (2, .int (ctI (fun v => R (204 + v)) sc)), (3, .int (nI pr))] := by rw [show (dy : Int32) = (R (5 + 11 * (2 * pr + 1) + 2) - R (5 + 11 * (2 * pr) + 2)) from e_dy]; exact hl
              refine lv_aload_n hx hb dL_stations_579 rfl (lv_at hl 4 rfl) ?_
              refine lv_iload_n hx hb dL_stations_580 rfl (lv_at hl 7 rfl) ?_
              refine u_iE (v := (-100005)) (ru_V (As := [.int (nI pr)]) (rest := []) F h hWd.1 rfl (kw_surface l g n c hWd J (nI pr) (v := (-100005)) (su_p hp2 kp)) (gV hjl wd_530 wd_531 wd_532 wd_16 wd_533) rfl 1 (by decide +kernel) rfl ⟨Nat.le_of_ble_eq_true rfl, Nat.le_of_ble_eq_true rfl⟩ rfl hl.1 (Nat.le_of_ble_eq_true rfl) ⟨Nat.zero_le _, Nat.zero_le _⟩ dL_stations_581) h (fun H locs h => ?_)
              refine lv_iload hx hb dL_stations_584 (lv_at hl 1 rfl) ?_
              refine lv_if_ne (tgt := 599) hx hb dL_stations_586 (by decide) (fun b_586 => by first | exact absurd b_586 (e_dx.trans (sb_0.mpr kp.1.symm)) | exact absurd (e_dx.trans (sb_0.mpr kp.1.symm)) b_586) (fun b_586 => ?_)
              refine lv_iload hx hb dL_stations_589 (lv_at hl 0 rfl) ?_
              refine lv_if_ne (tgt := 599) hx hb dL_stations_591 (by decide) (fun b_591 => by first | exact absurd b_591 (e_dy.trans (sb_0.mpr kp.2.symm)) | exact absurd (e_dy.trans (sb_0.mpr kp.2.symm)) b_591) (fun b_591 => ?_)
              refine lv_ldc (v := (-100005)) hx hb F.2.2.2.1 (F.2.2.2.2.1 (Cond.constant RL 35 (-100005)) (List.mem_cons_of_mem _ wd_446)) dL_stations_594 ?_
              refine lv_goto (tgt := 607) hx hb dL_stations_596 (by decide) ?_
              refine lv_icmp_eq (tgt := 612) hx hb dL_stations_607 (by decide) (fun b_607 => ?_) (fun b_607 => by first | exact absurd (by decide) b_607 | exact absurd b_607 (by decide))
              refine lv_iinc (v := nI (pr + 1)) (lv' := [(3, .int (nI (pr + 1))), (7, .int dy), (6, .int dx), (5, .int 1), (4, .int (nI (2 * pr))), (0, .ref (gz g + 0)), (1, .int (vsI R sc)), (2, .int (ctI (fun v => R (204 + v)) sc))]) hx hb dL_stations_612 hl (k := 7) rfl (by exact (nI_succ pr).symm) (by decide) rfl (fun ls hl => ?_)
              refine lv_goto (tgt := 484) hx hb dL_stations_615 (by decide) ?_
              exact ih_loq (pr + 1) (by omega) _ _ _ (by omega) h (lv_sub hl [5, 6, 7, 0] rfl)
            have ga := J.wg (w := 2 * pr) (by omega) (b01_of (J.b (by omega)) ka)
            have gb := J.wg (w := 2 * pr + 1) (by omega) (b01_of (J.b (by omega)) kb)
            refine lv_aload_n hx hb dL_stations_494 rfl (lv_at hl 1 rfl) ?_
            refine lv_iload hx hb dL_stations_495 (lv_at hl 0 rfl) ?_
            refine lv_iconst (v := 2) hx hb dL_stations_497 (by decide) ?_
            refine u_iE (v := R (5 + 11 * (2 * pr) + 3)) (ru_V (As := [.int (nI (2 * pr)), .int 2]) (rest := []) F h hWd.1 rfl (kw_wire l g n c hWd J (nI (2 * pr)) 2 (v := R (5 + 11 * (2 * pr) + 3)) (wi_2 (by omega) (b01_of (J.b (by omega)) ka))) (gV hjl wd_390 wd_391 wd_392 wd_16 wd_393) rfl 2 (by decide +kernel) rfl ⟨Nat.le_of_ble_eq_true rfl, Nat.le_of_ble_eq_true rfl⟩ rfl hl.1 (Nat.le_of_ble_eq_true rfl) ⟨Nat.zero_le _, Nat.zero_le _⟩ dL_stations_498) h (fun H locs h => ?_)
            refine lv_if_le (tgt := 520) hx hb dL_stations_501 (by decide) (fun b_501 => by first | exact absurd b_501 (i_nle (bt_gt (J.wg (w := 2 * pr) (by omega) (b01_of (J.b (by omega)) ka)).2.2.1 0 (by decide))) | exact absurd (i_nle (bt_gt (J.wg (w := 2 * pr) (by omega) (b01_of (J.b (by omega)) ka)).2.2.1 0 (by decide))) b_501) (fun b_501 => ?_)
            refine lv_aload_n hx hb dL_stations_504 rfl (lv_at hl 1 rfl) ?_
            refine lv_iload hx hb dL_stations_505 (lv_at hl 0 rfl) ?_
            refine lv_iconst (v := 1) hx hb dL_stations_507 (by decide) ?_
            refine lv_iadd hx hb dL_stations_508 ?_
            refine r_top (w := .int (nI (2 * pr + 1))) (congrArg Value.int (nI_1 (2 * pr))) ?_
            refine lv_iconst (v := 2) hx hb dL_stations_509 (by decide) ?_
            refine u_iE (v := R (5 + 11 * (2 * pr + 1) + 3)) (ru_V (As := [.int (nI (2 * pr + 1)), .int 2]) (rest := []) F h hWd.1 rfl (kw_wire l g n c hWd J (nI (2 * pr + 1)) 2 (v := R (5 + 11 * (2 * pr + 1) + 3)) (wi_2 (by omega) (b01_of (J.b (by omega)) kb))) (gV hjl wd_390 wd_391 wd_392 wd_16 wd_393) rfl 2 (by decide +kernel) rfl ⟨Nat.le_of_ble_eq_true rfl, Nat.le_of_ble_eq_true rfl⟩ rfl hl.1 (Nat.le_of_ble_eq_true rfl) ⟨Nat.zero_le _, Nat.zero_le _⟩ dL_stations_510) h (fun H locs h => ?_)
            refine lv_if_le (tgt := 520) hx hb dL_stations_513 (by decide) (fun b_513 => by first | exact absurd b_513 (i_nle (bt_gt gb.2.2.1 0 (by decide))) | exact absurd (i_nle (bt_gt gb.2.2.1 0 (by decide))) b_513) (fun b_513 => ?_)
            refine lv_iconst (v := 1) hx hb dL_stations_516 (by decide) ?_
            refine lv_goto (tgt := 521) hx hb dL_stations_517 (by decide) ?_
            refine lv_istore (lv' := [(5, .int 1), (4, .int (nI (2 * pr))), (0, .ref (gz g + 0)), (1, .int (vsI R sc)), (2, .int (ctI (fun v => R (204 + v)) sc)), (3, .int (nI pr))]) hx hb dL_stations_521 hl (by decide) rfl (fun ls hl => ?_)
            refine lv_iload hx hb dL_stations_523 (lv_at hl 0 rfl) ?_
            refine lv_if_eq (tgt := 548) hx hb dL_stations_525 (by decide) (fun b_525 => by first | exact absurd b_525 (by decide) | exact absurd (by decide) b_525) (fun b_525 => ?_)
            refine lv_aload_n hx hb dL_stations_528 rfl (lv_at hl 2 rfl) ?_
            refine lv_iload hx hb dL_stations_529 (lv_at hl 1 rfl) ?_
            refine lv_iconst (v := 1) hx hb dL_stations_531 (by decide) ?_
            refine lv_iadd hx hb dL_stations_532 ?_
            refine r_top (w := .int (nI (2 * pr + 1))) (congrArg Value.int (nI_1 (2 * pr))) ?_
            refine lv_iconst (v := 0) hx hb dL_stations_533 (by decide) ?_
            refine u_iE (v := R (5 + 11 * (2 * pr + 1) + 1)) (ru_V (As := [.int (nI (2 * pr + 1)), .int 0]) (rest := []) F h hWd.1 rfl (kw_wire l g n c hWd J (nI (2 * pr + 1)) 0 (v := R (5 + 11 * (2 * pr + 1) + 1)) (wi_0 (by omega) (b01_of (J.b (by omega)) kb))) (gV hjl wd_390 wd_391 wd_392 wd_16 wd_393) rfl 2 (by decide +kernel) rfl ⟨Nat.le_of_ble_eq_true rfl, Nat.le_of_ble_eq_true rfl⟩ rfl hl.1 (Nat.le_of_ble_eq_true rfl) ⟨Nat.zero_le _, Nat.zero_le _⟩ dL_stations_534) h (fun H locs h => ?_)
            refine lv_aload_n hx hb dL_stations_537 rfl (lv_at hl 2 rfl) ?_
            refine lv_iload hx hb dL_stations_538 (lv_at hl 1 rfl) ?_
            refine lv_iconst (v := 0) hx hb dL_stations_540 (by decide) ?_
            refine u_iE (v := R (5 + 11 * (2 * pr) + 1)) (ru_V (As := [.int (nI (2 * pr)), .int 0]) (rest := [.int (R (5 + 11 * (2 * pr + 1) + 1))]) F h hWd.1 rfl (kw_wire l g n c hWd J (nI (2 * pr)) 0 (v := R (5 + 11 * (2 * pr) + 1)) (wi_0 (by omega) (b01_of (J.b (by omega)) ka))) (gV hjl wd_390 wd_391 wd_392 wd_16 wd_393) rfl 2 (by decide +kernel) rfl ⟨Nat.le_of_ble_eq_true rfl, Nat.le_of_ble_eq_true rfl⟩ rfl hl.1 (Nat.le_of_ble_eq_true rfl) ⟨Nat.zero_le _, Nat.zero_le _⟩ dL_stations_541) h (fun H locs h => ?_)
            refine lv_isub hx hb dL_stations_544 ?_
            refine lv_goto (tgt := 549) hx hb dL_stations_545 (by decide) ?_
            refine lv_istore (lv' := [(6, .int (R (5 + 11 * (2 * pr + 1) + 1) - R (5 + 11 * (2 * pr) + 1))), (5, .int 1), (4, .int (nI (2 * pr))), (0, .ref (gz g + 0)), (1, .int (vsI R sc)), (2, .int (ctI (fun v => R (204 + v)) sc)), (3, .int (nI pr))]) hx hb dL_stations_549 hl (by decide) rfl (fun ls hl => ?_)
            obtain ⟨dx, e_dx⟩ : ∃ x : Int32, x = (R (5 + 11 * (2 * pr + 1) + 1) - R (5 + 11 * (2 * pr) + 1)) := ⟨_, rfl⟩
            have hl : lv_has ls 11 [(6, .int dx), (5, .int 1), (4, .int (nI (2 * pr))), (0, .ref (gz g + 0)), (1, .int (vsI R sc)), (2, .int (ctI (fun v => R (204 + v)) sc)), (3, .int (nI pr))] := by rw [show (dx : Int32) = (R (5 + 11 * (2 * pr + 1) + 1) - R (5 + 11 * (2 * pr) + 1)) from e_dx]; exact hl
            refine lv_iload hx hb dL_stations_551 (lv_at hl 1 rfl) ?_
            refine lv_if_eq (tgt := 576) hx hb dL_stations_553 (by decide) (fun b_553 => by first | exact absurd b_553 (by decide) | exact absurd (by decide) b_553) (fun b_553 => ?_)
            refine lv_aload_n hx hb dL_stations_556 rfl (lv_at hl 3 rfl) ?_
            refine lv_iload hx hb dL_stations_557 (lv_at hl 2 rfl) ?_
            refine lv_iconst (v := 1) hx hb dL_stations_559 (by decide) ?_
            refine lv_iadd hx hb dL_stations_560 ?_
            refine r_top (w := .int (nI (2 * pr + 1))) (congrArg Value.int (nI_1 (2 * pr))) ?_
            refine lv_iconst (v := 1) hx hb dL_stations_561 (by decide) ?_
            refine u_iE (v := R (5 + 11 * (2 * pr + 1) + 2)) (ru_V (As := [.int (nI (2 * pr + 1)), .int 1]) (rest := []) F h hWd.1 rfl (kw_wire l g n c hWd J (nI (2 * pr + 1)) 1 (v := R (5 + 11 * (2 * pr + 1) + 2)) (wi_1 (by omega) (b01_of (J.b (by omega)) kb))) (gV hjl wd_390 wd_391 wd_392 wd_16 wd_393) rfl 2 (by decide +kernel) rfl ⟨Nat.le_of_ble_eq_true rfl, Nat.le_of_ble_eq_true rfl⟩ rfl hl.1 (Nat.le_of_ble_eq_true rfl) ⟨Nat.zero_le _, Nat.zero_le _⟩ dL_stations_562) h (fun H locs h => ?_)
            refine lv_aload_n hx hb dL_stations_565 rfl (lv_at hl 3 rfl) ?_
            refine lv_iload hx hb dL_stations_566 (lv_at hl 2 rfl) ?_
            refine lv_iconst (v := 1) hx hb dL_stations_568 (by decide) ?_
            refine u_iE (v := R (5 + 11 * (2 * pr) + 2)) (ru_V (As := [.int (nI (2 * pr)), .int 1]) (rest := [.int (R (5 + 11 * (2 * pr + 1) + 2))]) F h hWd.1 rfl (kw_wire l g n c hWd J (nI (2 * pr)) 1 (v := R (5 + 11 * (2 * pr) + 2)) (wi_1 (by omega) (b01_of (J.b (by omega)) ka))) (gV hjl wd_390 wd_391 wd_392 wd_16 wd_393) rfl 2 (by decide +kernel) rfl ⟨Nat.le_of_ble_eq_true rfl, Nat.le_of_ble_eq_true rfl⟩ rfl hl.1 (Nat.le_of_ble_eq_true rfl) ⟨Nat.zero_le _, Nat.zero_le _⟩ dL_stations_569) h (fun H locs h => ?_)
            refine lv_isub hx hb dL_stations_572 ?_
            refine lv_goto (tgt := 577) hx hb dL_stations_573 (by decide) ?_
            refine lv_istore (lv' := [(7, .int (R (5 + 11 * (2 * pr + 1) + 2) - R (5 + 11 * (2 * pr) + 2))), (6, .int dx), (5, .int 1), (4, .int (nI (2 * pr))), (0, .ref (gz g + 0)), (1, .int (vsI R sc)), (2, .int (ctI (fun v => R (204 + v)) sc)), (3, .int (nI pr))]) hx hb dL_stations_577 hl (by decide) rfl (fun ls hl => ?_)
            obtain ⟨dy, e_dy⟩ : ∃ x : Int32, x = (R (5 + 11 * (2 * pr + 1) + 2) - R (5 + 11 * (2 * pr) + 2)) := ⟨_, rfl⟩
            have hl : lv_has ls 11 [(7, .int dy), (6, .int dx), (5, .int 1), (4, .int (nI (2 * pr))), (0, .ref (gz g + 0)), (1, .int (vsI R sc)), (2, .int (ctI (fun v => R (204 + v)) sc)), (3, .int (nI pr))] := by rw [show (dy : Int32) = (R (5 + 11 * (2 * pr + 1) + 2) - R (5 + 11 * (2 * pr) + 2)) from e_dy]; exact hl
            refine lv_aload_n hx hb dL_stations_579 rfl (lv_at hl 4 rfl) ?_
            refine lv_iload_n hx hb dL_stations_580 rfl (lv_at hl 7 rfl) ?_
            refine u_iE (v := sq_X7_surfaceBearing R pr) (ru_V (As := [.int (nI pr)]) (rest := []) F h hWd.1 rfl (kw_surface l g n c hWd J (nI pr) (v := sq_X7_surfaceBearing R pr) (su_v hp2 (b01_of (J.b (by omega)) ka) (b01_of (J.b (by omega)) kb) kp)) (gV hjl wd_530 wd_531 wd_532 wd_16 wd_533) rfl 1 (by decide +kernel) rfl ⟨Nat.le_of_ble_eq_true rfl, Nat.le_of_ble_eq_true rfl⟩ rfl hl.1 (Nat.le_of_ble_eq_true rfl) ⟨Nat.zero_le _, Nat.zero_le _⟩ dL_stations_581) h (fun H locs h => ?_)
            refine lv_iload hx hb dL_stations_584 (lv_at hl 1 rfl) ?_
            refine lv_if_ne (tgt := 599) hx hb dL_stations_586 (by decide) (fun b_586 => ?_) (fun b_586 => ?_)
            · skip
              refine lv_aload_n hx hb dL_stations_599 rfl (lv_at hl 4 rfl) ?_
              refine lv_iload hx hb dL_stations_600 (lv_at hl 1 rfl) ?_
              refine lv_iload hx hb dL_stations_602 (lv_at hl 0 rfl) ?_
              refine u_iE (v := sq_X7_bearing R dx dy) (ru_V (As := [.int dx, .int dy]) (rest := [.int (sq_X7_surfaceBearing R pr)]) F h hWd.1 rfl (kw_bearing l g n c hWd J dx dy (v := sq_X7_bearing R dx dy) (rfl)) (gV hjl wd_429 wd_430 wd_431 wd_16 wd_432) rfl 2 (by decide +kernel) rfl ⟨Nat.le_of_ble_eq_true rfl, Nat.le_of_ble_eq_true rfl⟩ rfl hl.1 (Nat.le_of_ble_eq_true rfl) ⟨Nat.zero_le _, Nat.zero_le _⟩ dL_stations_604) h (fun H locs h => ?_)
              refine lv_icmp_eq (tgt := 612) hx hb dL_stations_607 (by decide) (fun b_607 => ?_) (fun b_607 => by first | exact absurd (by rw [e_dx, e_dy]; exact sb_e J hp2 (b01_of (J.b (by omega)) ka) (b01_of (J.b (by omega)) kb) kp) b_607 | exact absurd b_607 (by rw [e_dx, e_dy]; exact sb_e J hp2 (b01_of (J.b (by omega)) ka) (b01_of (J.b (by omega)) kb) kp))
              refine lv_iinc (v := nI (pr + 1)) (lv' := [(3, .int (nI (pr + 1))), (7, .int dy), (6, .int dx), (5, .int 1), (4, .int (nI (2 * pr))), (0, .ref (gz g + 0)), (1, .int (vsI R sc)), (2, .int (ctI (fun v => R (204 + v)) sc))]) hx hb dL_stations_612 hl (k := 7) rfl (by exact (nI_succ pr).symm) (by decide) rfl (fun ls hl => ?_)
              refine lv_goto (tgt := 484) hx hb dL_stations_615 (by decide) ?_
              exact ih_loq (pr + 1) (by omega) _ _ _ (by omega) h (lv_sub hl [5, 6, 7, 0] rfl)
            refine lv_iload hx hb dL_stations_589 (lv_at hl 0 rfl) ?_
            refine lv_if_ne (tgt := 599) hx hb dL_stations_591 (by decide) (fun b_591 => ?_) (fun b_591 => by first | exact absurd (fun q => sb_z kp ⟨e_dx.symm.trans b_586, e_dy.symm.trans q⟩) b_591 | exact absurd b_591 (fun q => sb_z kp ⟨e_dx.symm.trans b_586, e_dy.symm.trans q⟩))
            refine lv_aload_n hx hb dL_stations_599 rfl (lv_at hl 4 rfl) ?_
            refine lv_iload hx hb dL_stations_600 (lv_at hl 1 rfl) ?_
            refine lv_iload hx hb dL_stations_602 (lv_at hl 0 rfl) ?_
            refine u_iE (v := sq_X7_bearing R dx dy) (ru_V (As := [.int dx, .int dy]) (rest := [.int (sq_X7_surfaceBearing R pr)]) F h hWd.1 rfl (kw_bearing l g n c hWd J dx dy (v := sq_X7_bearing R dx dy) (rfl)) (gV hjl wd_429 wd_430 wd_431 wd_16 wd_432) rfl 2 (by decide +kernel) rfl ⟨Nat.le_of_ble_eq_true rfl, Nat.le_of_ble_eq_true rfl⟩ rfl hl.1 (Nat.le_of_ble_eq_true rfl) ⟨Nat.zero_le _, Nat.zero_le _⟩ dL_stations_604) h (fun H locs h => ?_)
            refine lv_icmp_eq (tgt := 612) hx hb dL_stations_607 (by decide) (fun b_607 => ?_) (fun b_607 => by first | exact absurd (by rw [e_dx, e_dy]; exact sb_e J hp2 (b01_of (J.b (by omega)) ka) (b01_of (J.b (by omega)) kb) kp) b_607 | exact absurd b_607 (by rw [e_dx, e_dy]; exact sb_e J hp2 (b01_of (J.b (by omega)) ka) (b01_of (J.b (by omega)) kb) kp))
            refine lv_iinc (v := nI (pr + 1)) (lv' := [(3, .int (nI (pr + 1))), (7, .int dy), (6, .int dx), (5, .int 1), (4, .int (nI (2 * pr))), (0, .ref (gz g + 0)), (1, .int (vsI R sc)), (2, .int (ctI (fun v => R (204 + v)) sc))]) hx hb dL_stations_612 hl (k := 7) rfl (by exact (nI_succ pr).symm) (by decide) rfl (fun ls hl => ?_)
            refine lv_goto (tgt := 484) hx hb dL_stations_615 (by decide) ?_
            exact ih_loq (pr + 1) (by omega) _ _ _ (by omega) h (lv_sub hl [5, 6, 7, 0] rfl)
        exact loq _ 0 (Nat.zero_le _) _ _ _ (Nat.le_refl _) h (lv_sub hl [1, 2, 3, 0] rfl)
      have hs5 : s1 < sc := lp_lt (N := sc) rfl (by omega) (by omega) b_12
      refine lv_iconst (v := 0) hx hb dL_stations_15 (by decide) ?_
      refine lv_istore (lv' := [(4, .int 0), (0, .ref (gz g + 0)), (1, .int (vsI R s1)), (2, .int (ctI (fun v => R (204 + v)) s1)), (3, .int (nI s1))]) hx hb dL_stations_16 hl (by decide) rfl (fun ls hl => ?_)
      refine lv_iconst (v := 0) hx hb dL_stations_18 (by decide) ?_
      refine lv_istore (lv' := [(5, .int 0), (4, .int 0), (0, .ref (gz g + 0)), (1, .int (vsI R s1)), (2, .int (ctI (fun v => R (204 + v)) s1)), (3, .int (nI s1))]) hx hb dL_stations_19 hl (by decide) rfl (fun ls hl => ?_)
      have low : ∀ (k : Nat) (w : Nat) (hw : w ≤ 4) (H : Heap) (locs : List Loc) (ls : Array Slot), (5 - w) ≤ k → Hv g s H locs n c → lv_has ls 11 [(0, .ref (gz g + 0)), (1, .int (vsI R s1)), (2, .int (ctI (fun v => R (204 + v)) s1)), (3, .int (nI s1)), (4, .int (ctI (fun v => R (84 + 6 * (4 * s1 + v) + 0)) w)), (5, .int (nI w))] → W p l e (Rm 5 117 0 0) s m args below meth c0 H locs 0 0 (MQ below (Qi g (fun xr n' c' => xr = 1 ∧ n' = n ∧ c' = c)) args s 0 0 (mAf g)) (F0 m 21 ls []) := by
        intro k_low
        induction k_low with
        | zero => intro w hw H locs ls hk h hl; exact absurd hk (by omega)
        | succ k_low ih_low =>
          intro w hw H locs ls hk_low h hl
          refine lv_iload hx hb dL_stations_21 (lv_at hl 5 rfl) ?_
          refine lv_iconst (v := 4) hx hb dL_stations_23 (by decide) ?_
          refine lv_icmp_ge (tgt := 183) hx hb dL_stations_24 (by decide) (fun b_24 => ?_) (fun b_24 => ?_)
          · skip
            have hl : lv_has ls 11 [(0, .ref (gz g + 0)), (1, .int (vsI R s1)), (2, .int (ctI (fun v => R (204 + v)) s1)), (3, .int (nI s1)), (4, .int (ctI (fun v => R (84 + 6 * (4 * s1 + v) + 0)) 4)), (5, .int (nI w))] := by rw [show (ctI (fun v => R (84 + 6 * (4 * s1 + v) + 0)) 4 : Int32) = ctI (fun v => R (84 + 6 * (4 * s1 + v) + 0)) w from by rw [show w = 4 from by have := lp_ge (N := 4) rfl (by omega) (by decide) b_24; omega]]; exact hl
            refine lv_iconst (v := 0) hx hb dL_stations_183 (by decide) ?_
            refine lv_istore (lv' := [(5, .int 0), (0, .ref (gz g + 0)), (1, .int (vsI R s1)), (2, .int (ctI (fun v => R (204 + v)) s1)), (3, .int (nI s1)), (4, .int (ctI (fun v => R (84 + 6 * (4 * s1 + v) + 0)) 4))]) hx hb dL_stations_184 hl (by decide) rfl (fun ls hl => ?_)
            have lop : ∀ (k : Nat) (pr : Nat) (hpr : pr ≤ 2) (H : Heap) (locs : List Loc) (ls : Array Slot), (3 - pr) ≤ k → Hv g s H locs n c → lv_has ls 11 [(0, .ref (gz g + 0)), (1, .int (vsI R s1)), (2, .int (ctI (fun v => R (204 + v)) s1)), (3, .int (nI s1)), (4, .int (ctI (fun v => R (84 + 6 * (4 * s1 + v) + 0)) 4)), (5, .int (nI pr))] → W p l e (Rm 5 117 0 0) s m args below meth c0 H locs 0 0 (MQ below (Qi g (fun xr n' c' => xr = 1 ∧ n' = n ∧ c' = c)) args s 0 0 (mAf g)) (F0 m 186 ls []) := by
              intro k_lop
              induction k_lop with
              | zero => intro pr hpr H locs ls hk h hl; exact absurd hk (by omega)
              | succ k_lop ih_lop =>
                intro pr hpr H locs ls hk_lop h hl
                refine lv_iload hx hb dL_stations_186 (lv_at hl 5 rfl) ?_
                refine lv_iconst (v := 2) hx hb dL_stations_188 (by decide) ?_
                refine lv_icmp_ge (tgt := 407) hx hb dL_stations_189 (by decide) (fun b_189 => ?_) (fun b_189 => ?_)
                · skip
                  refine lv_iload_n hx hb dL_stations_407 rfl (lv_at hl 1 rfl) ?_
                  refine lv_iload hx hb dL_stations_408 (lv_at hl 4 rfl) ?_
                  refine lv_iadd hx hb dL_stations_410 ?_
                  refine lv_istore_n (lv' := [(1, .int (vsI R s1 + ctI (fun v => R (84 + 6 * (4 * s1 + v) + 0)) 4)), (0, .ref (gz g + 0)), (2, .int (ctI (fun v => R (204 + v)) s1)), (3, .int (nI s1)), (4, .int (ctI (fun v => R (84 + 6 * (4 * s1 + v) + 0)) 4)), (5, .int (nI pr))]) hx hb dL_stations_411 rfl hl (by decide) rfl (fun ls hl => ?_)
                  have hl : lv_has ls 11 [(1, .int (vsI R (s1 + 1))), (0, .ref (gz g + 0)), (2, .int (ctI (fun v => R (204 + v)) s1)), (3, .int (nI s1)), (4, .int (ctI (fun v => R (84 + 6 * (4 * s1 + v) + 0)) 4)), (5, .int (nI pr))] := by rw [show (vsI R (s1 + 1) : Int32) = (vsI R s1 + ctI (fun v => R (84 + 6 * (4 * s1 + v) + 0)) 4) from rfl]; exact hl
                  by_cases uo : R (204 + s1) = 0
                  · skip
                    have hl : lv_has ls 11 [(1, .int (vsI R (s1 + 1))), (0, .ref (gz g + 0)), (2, .int (ctI (fun v => R (204 + v)) s1)), (3, .int (nI s1)), (4, .int (ctI (fun v => R (84 + 6 * (4 * s1 + v) + 0)) 4)), (5, .int (nI pr))] := by rw [show (vsI R (s1 + 1) : Int32) = vsI R (s1 + 1) from rfl]; exact hl
                    refine lv_iload_n hx hb dL_stations_412 rfl (lv_at hl 2 rfl) ?_
                    refine lv_aload_n hx hb dL_stations_413 rfl (lv_at hl 1 rfl) ?_
                    refine lv_iload_n hx hb dL_stations_414 rfl (lv_at hl 3 rfl) ?_
                    refine lv_iconst (v := 2) hx hb dL_stations_415 (by decide) ?_
                    refine u_iE (v := (-100005)) (ru_V (As := [.int (nI s1), .int 2]) (rest := [.int (ctI (fun v => R (204 + v)) s1)]) F h hWd.1 rfl (kw_station l g n c hWd J (nI s1) 2 (v := (-100005)) (st_2n J.s4 J.s5 hs5 uo)) (gV hjl wd_584 wd_585 wd_586 wd_16 wd_587) rfl 2 (by decide +kernel) rfl ⟨Nat.le_of_ble_eq_true rfl, Nat.le_of_ble_eq_true rfl⟩ rfl hl.1 (Nat.le_of_ble_eq_true rfl) ⟨Nat.zero_le _, Nat.zero_le _⟩ dL_stations_416) h (fun H locs h => ?_)
                    refine lv_if_lt (tgt := 426) hx hb dL_stations_419 (by decide) (fun b_419 => ?_) (fun b_419 => by first | exact absurd (by decide) b_419 | exact absurd b_419 (by decide))
                    refine lv_iconst (v := 0) hx hb dL_stations_426 (by decide) ?_
                    refine lv_iadd hx hb dL_stations_427 ?_
                    refine lv_istore_n (lv' := [(2, .int (ctI (fun v => R (204 + v)) s1 + 0)), (1, .int (vsI R (s1 + 1))), (0, .ref (gz g + 0)), (3, .int (nI s1)), (4, .int (ctI (fun v => R (84 + 6 * (4 * s1 + v) + 0)) 4)), (5, .int (nI pr))]) hx hb dL_stations_428 rfl hl (by decide) rfl (fun ls hl => ?_)
                    have hl : lv_has ls 11 [(2, .int (ctI (fun v => R (204 + v)) (s1 + 1))), (1, .int (vsI R (s1 + 1))), (0, .ref (gz g + 0)), (3, .int (nI s1)), (4, .int (ctI (fun v => R (84 + 6 * (4 * s1 + v) + 0)) 4)), (5, .int (nI pr))] := by rw [show (ctI (fun v => R (204 + v)) (s1 + 1) : Int32) = (ctI (fun v => R (204 + v)) s1 + 0) from (ctI_pos (f := fun v => R (204 + v)) (k := s1) uo).trans (Int32.add_zero _).symm]; exact hl
                    refine lv_aload_n hx hb dL_stations_429 rfl (lv_at hl 2 rfl) ?_
                    refine lv_iload_n hx hb dL_stations_430 rfl (lv_at hl 3 rfl) ?_
                    refine lv_iconst (v := 3) hx hb dL_stations_431 (by decide) ?_
                    refine u_iE (v := ctI (fun v => R (84 + 6 * (4 * s1 + v) + 0)) 4) (ru_V (As := [.int (nI s1), .int 3]) (rest := []) F h hWd.1 rfl (kw_station l g n c hWd J (nI s1) 3 (v := ctI (fun v => R (84 + 6 * (4 * s1 + v) + 0)) 4) (st_3 J.s4 J.s5 hs5)) (gV hjl wd_584 wd_585 wd_586 wd_16 wd_587) rfl 2 (by decide +kernel) rfl ⟨Nat.le_of_ble_eq_true rfl, Nat.le_of_ble_eq_true rfl⟩ rfl hl.1 (Nat.le_of_ble_eq_true rfl) ⟨Nat.zero_le _, Nat.zero_le _⟩ dL_stations_432) h (fun H locs h => ?_)
                    refine lv_iload hx hb dL_stations_435 (lv_at hl 4 rfl) ?_
                    refine lv_icmp_ne (tgt := 474) hx hb dL_stations_437 (by decide) (fun b_437 => by first | exact absurd b_437 (rfl) | exact absurd (rfl) b_437) (fun b_437 => ?_)
                    refine lv_aload_n hx hb dL_stations_440 rfl (lv_at hl 2 rfl) ?_
                    refine lv_iload_n hx hb dL_stations_441 rfl (lv_at hl 3 rfl) ?_
                    refine lv_iconst (v := 4) hx hb dL_stations_442 (by decide) ?_
                    refine u_iE (v := (-100002)) (ru_V (As := [.int (nI s1), .int 4]) (rest := []) F h hWd.1 rfl (kw_station l g n c hWd J (nI s1) 4 (v := (-100002)) (st_4 J.s4 J.s5 hs5)) (gV hjl wd_584 wd_585 wd_586 wd_16 wd_587) rfl 2 (by decide +kernel) rfl ⟨Nat.le_of_ble_eq_true rfl, Nat.le_of_ble_eq_true rfl⟩ rfl hl.1 (Nat.le_of_ble_eq_true rfl) ⟨Nat.zero_le _, Nat.zero_le _⟩ dL_stations_443) h (fun H locs h => ?_)
                    refine lv_ldc (v := (-100002)) hx hb F.2.2.2.1 (F.2.2.2.2.1 (Cond.constant RL 15 (-100002)) (List.mem_cons_of_mem _ wd_442)) dL_stations_446 ?_
                    refine lv_icmp_ne (tgt := 474) hx hb dL_stations_448 (by decide) (fun b_448 => by first | exact absurd b_448 (by decide) | exact absurd (by decide) b_448) (fun b_448 => ?_)
                    refine lv_aload_n hx hb dL_stations_451 rfl (lv_at hl 2 rfl) ?_
                    refine lv_iload_n hx hb dL_stations_452 rfl (lv_at hl 3 rfl) ?_
                    refine lv_iconst (v := 2) hx hb dL_stations_453 (by decide) ?_
                    refine u_iE (v := (-100005)) (ru_V (As := [.int (nI s1), .int 2]) (rest := []) F h hWd.1 rfl (kw_station l g n c hWd J (nI s1) 2 (v := (-100005)) (st_2n J.s4 J.s5 hs5 uo)) (gV hjl wd_584 wd_585 wd_586 wd_16 wd_587) rfl 2 (by decide +kernel) rfl ⟨Nat.le_of_ble_eq_true rfl, Nat.le_of_ble_eq_true rfl⟩ rfl hl.1 (Nat.le_of_ble_eq_true rfl) ⟨Nat.zero_le _, Nat.zero_le _⟩ dL_stations_454) h (fun H locs h => ?_)
                    refine lv_sipush (v := 7999) hx hb dL_stations_457 (by decide) ?_
                    refine lv_icmp_gt (tgt := 474) hx hb dL_stations_460 (by decide) (fun b_460 => by first | exact absurd b_460 (by decide) | exact absurd (by decide) b_460) (fun b_460 => ?_)
                    refine lv_aload_n hx hb dL_stations_463 rfl (lv_at hl 2 rfl) ?_
                    refine lv_iload_n hx hb dL_stations_464 rfl (lv_at hl 3 rfl) ?_
                    refine lv_iconst (v := 2) hx hb dL_stations_465 (by decide) ?_
                    refine u_iE (v := (-100001)) (ru_V (As := [.int (nI s1), .int 2]) (rest := []) F h hWd.1 rfl (kw_given l g n c hWd J (nI s1) 2 (v := (-100001)) (gv_u J.s4 J.s5 hs5)) (gV hjl wd_557 wd_558 wd_559 wd_16 wd_560) rfl 2 (by decide +kernel) rfl ⟨Nat.le_of_ble_eq_true rfl, Nat.le_of_ble_eq_true rfl⟩ rfl hl.1 (Nat.le_of_ble_eq_true rfl) ⟨Nat.zero_le _, Nat.zero_le _⟩ dL_stations_466) h (fun H locs h => ?_)
                    refine lv_ldc (v := (-100001)) hx hb F.2.2.2.1 (F.2.2.2.2.1 (Cond.constant RL 52 (-100001)) (List.mem_cons_of_mem _ wd_514)) dL_stations_469 ?_
                    refine lv_icmp_eq (tgt := 476) hx hb dL_stations_471 (by decide) (fun b_471 => ?_) (fun b_471 => by first | exact absurd (by decide) b_471 | exact absurd b_471 (by decide))
                    refine lv_iinc (v := nI (s1 + 1)) (lv' := [(3, .int (nI (s1 + 1))), (2, .int (ctI (fun v => R (204 + v)) (s1 + 1))), (1, .int (vsI R (s1 + 1))), (0, .ref (gz g + 0)), (4, .int (ctI (fun v => R (84 + 6 * (4 * s1 + v) + 0)) 4)), (5, .int (nI pr))]) hx hb dL_stations_476 hl (k := 3) rfl (by exact (nI_succ s1).symm) (by decide) rfl (fun ls hl => ?_)
                    refine lv_goto (tgt := 6) hx hb dL_stations_479 (by decide) ?_
                    exact ih_lst (s1 + 1) (by omega) _ _ _ (by omega) h (lv_sub hl [3, 2, 1, 0] rfl)
                  have ho := J.o hs5 (b01_of (J.wb.2.1 s1 (by omega)) uo)
                  refine lv_iload_n hx hb dL_stations_412 rfl (lv_at hl 2 rfl) ?_
                  refine lv_aload_n hx hb dL_stations_413 rfl (lv_at hl 1 rfl) ?_
                  refine lv_iload_n hx hb dL_stations_414 rfl (lv_at hl 3 rfl) ?_
                  refine lv_iconst (v := 2) hx hb dL_stations_415 (by decide) ?_
                  refine u_iE (v := R (69 + 3 * s1 + 2)) (ru_V (As := [.int (nI s1), .int 2]) (rest := [.int (ctI (fun v => R (204 + v)) s1)]) F h hWd.1 rfl (kw_station l g n c hWd J (nI s1) 2 (v := R (69 + 3 * s1 + 2)) (st_2 J.s4 J.s5 hs5 uo)) (gV hjl wd_584 wd_585 wd_586 wd_16 wd_587) rfl 2 (by decide +kernel) rfl ⟨Nat.le_of_ble_eq_true rfl, Nat.le_of_ble_eq_true rfl⟩ rfl hl.1 (Nat.le_of_ble_eq_true rfl) ⟨Nat.zero_le _, Nat.zero_le _⟩ dL_stations_416) h (fun H locs h => ?_)
                  refine lv_if_lt (tgt := 426) hx hb dL_stations_419 (by decide) (fun b_419 => by first | exact absurd b_419 (i_nlt (bt_ge ho 0 (by decide))) | exact absurd (i_nlt (bt_ge ho 0 (by decide))) b_419) (fun b_419 => ?_)
                  refine lv_iconst (v := 1) hx hb dL_stations_422 (by decide) ?_
                  refine lv_goto (tgt := 427) hx hb dL_stations_423 (by decide) ?_
                  refine lv_iadd hx hb dL_stations_427 ?_
                  refine lv_istore_n (lv' := [(2, .int (ctI (fun v => R (204 + v)) s1 + 1)), (1, .int (vsI R (s1 + 1))), (0, .ref (gz g + 0)), (3, .int (nI s1)), (4, .int (ctI (fun v => R (84 + 6 * (4 * s1 + v) + 0)) 4)), (5, .int (nI pr))]) hx hb dL_stations_428 rfl hl (by decide) rfl (fun ls hl => ?_)
                  have hl : lv_has ls 11 [(2, .int (ctI (fun v => R (204 + v)) (s1 + 1))), (1, .int (vsI R (s1 + 1))), (0, .ref (gz g + 0)), (3, .int (nI s1)), (4, .int (ctI (fun v => R (84 + 6 * (4 * s1 + v) + 0)) 4)), (5, .int (nI pr))] := by rw [show (ctI (fun v => R (204 + v)) (s1 + 1) : Int32) = (ctI (fun v => R (204 + v)) s1 + 1) from ctI_neg (f := fun v => R (204 + v)) (k := s1) uo]; exact hl
                  refine lv_aload_n hx hb dL_stations_429 rfl (lv_at hl 2 rfl) ?_
                  refine lv_iload_n hx hb dL_stations_430 rfl (lv_at hl 3 rfl) ?_
                  refine lv_iconst (v := 3) hx hb dL_stations_431 (by decide) ?_
                  refine u_iE (v := ctI (fun v => R (84 + 6 * (4 * s1 + v) + 0)) 4) (ru_V (As := [.int (nI s1), .int 3]) (rest := []) F h hWd.1 rfl (kw_station l g n c hWd J (nI s1) 3 (v := ctI (fun v => R (84 + 6 * (4 * s1 + v) + 0)) 4) (st_3 J.s4 J.s5 hs5)) (gV hjl wd_584 wd_585 wd_586 wd_16 wd_587) rfl 2 (by decide +kernel) rfl ⟨Nat.le_of_ble_eq_true rfl, Nat.le_of_ble_eq_true rfl⟩ rfl hl.1 (Nat.le_of_ble_eq_true rfl) ⟨Nat.zero_le _, Nat.zero_le _⟩ dL_stations_432) h (fun H locs h => ?_)
                  refine lv_iload hx hb dL_stations_435 (lv_at hl 4 rfl) ?_
                  refine lv_icmp_ne (tgt := 474) hx hb dL_stations_437 (by decide) (fun b_437 => by first | exact absurd b_437 (rfl) | exact absurd (rfl) b_437) (fun b_437 => ?_)
                  refine lv_aload_n hx hb dL_stations_440 rfl (lv_at hl 2 rfl) ?_
                  refine lv_iload_n hx hb dL_stations_441 rfl (lv_at hl 3 rfl) ?_
                  refine lv_iconst (v := 4) hx hb dL_stations_442 (by decide) ?_
                  refine u_iE (v := (-100002)) (ru_V (As := [.int (nI s1), .int 4]) (rest := []) F h hWd.1 rfl (kw_station l g n c hWd J (nI s1) 4 (v := (-100002)) (st_4 J.s4 J.s5 hs5)) (gV hjl wd_584 wd_585 wd_586 wd_16 wd_587) rfl 2 (by decide +kernel) rfl ⟨Nat.le_of_ble_eq_true rfl, Nat.le_of_ble_eq_true rfl⟩ rfl hl.1 (Nat.le_of_ble_eq_true rfl) ⟨Nat.zero_le _, Nat.zero_le _⟩ dL_stations_443) h (fun H locs h => ?_)
                  refine lv_ldc (v := (-100002)) hx hb F.2.2.2.1 (F.2.2.2.2.1 (Cond.constant RL 15 (-100002)) (List.mem_cons_of_mem _ wd_442)) dL_stations_446 ?_
                  refine lv_icmp_ne (tgt := 474) hx hb dL_stations_448 (by decide) (fun b_448 => by first | exact absurd b_448 (by decide) | exact absurd (by decide) b_448) (fun b_448 => ?_)
                  refine lv_aload_n hx hb dL_stations_451 rfl (lv_at hl 2 rfl) ?_
                  refine lv_iload_n hx hb dL_stations_452 rfl (lv_at hl 3 rfl) ?_
                  refine lv_iconst (v := 2) hx hb dL_stations_453 (by decide) ?_
                  refine u_iE (v := R (69 + 3 * s1 + 2)) (ru_V (As := [.int (nI s1), .int 2]) (rest := []) F h hWd.1 rfl (kw_station l g n c hWd J (nI s1) 2 (v := R (69 + 3 * s1 + 2)) (st_2 J.s4 J.s5 hs5 uo)) (gV hjl wd_584 wd_585 wd_586 wd_16 wd_587) rfl 2 (by decide +kernel) rfl ⟨Nat.le_of_ble_eq_true rfl, Nat.le_of_ble_eq_true rfl⟩ rfl hl.1 (Nat.le_of_ble_eq_true rfl) ⟨Nat.zero_le _, Nat.zero_le _⟩ dL_stations_454) h (fun H locs h => ?_)
                  refine lv_sipush (v := 7999) hx hb dL_stations_457 (by decide) ?_
                  refine lv_icmp_gt (tgt := 474) hx hb dL_stations_460 (by decide) (fun b_460 => by first | exact absurd b_460 (i_nlt (bt_le ho 7999 (by decide))) | exact absurd (i_nlt (bt_le ho 7999 (by decide))) b_460) (fun b_460 => ?_)
                  refine lv_aload_n hx hb dL_stations_463 rfl (lv_at hl 2 rfl) ?_
                  refine lv_iload_n hx hb dL_stations_464 rfl (lv_at hl 3 rfl) ?_
                  refine lv_iconst (v := 2) hx hb dL_stations_465 (by decide) ?_
                  refine u_iE (v := (-100001)) (ru_V (As := [.int (nI s1), .int 2]) (rest := []) F h hWd.1 rfl (kw_given l g n c hWd J (nI s1) 2 (v := (-100001)) (gv_u J.s4 J.s5 hs5)) (gV hjl wd_557 wd_558 wd_559 wd_16 wd_560) rfl 2 (by decide +kernel) rfl ⟨Nat.le_of_ble_eq_true rfl, Nat.le_of_ble_eq_true rfl⟩ rfl hl.1 (Nat.le_of_ble_eq_true rfl) ⟨Nat.zero_le _, Nat.zero_le _⟩ dL_stations_466) h (fun H locs h => ?_)
                  refine lv_ldc (v := (-100001)) hx hb F.2.2.2.1 (F.2.2.2.2.1 (Cond.constant RL 52 (-100001)) (List.mem_cons_of_mem _ wd_514)) dL_stations_469 ?_
                  refine lv_icmp_eq (tgt := 476) hx hb dL_stations_471 (by decide) (fun b_471 => ?_) (fun b_471 => by first | exact absurd (by decide) b_471 | exact absurd b_471 (by decide))
                  refine lv_iinc (v := nI (s1 + 1)) (lv' := [(3, .int (nI (s1 + 1))), (2, .int (ctI (fun v => R (204 + v)) (s1 + 1))), (1, .int (vsI R (s1 + 1))), (0, .ref (gz g + 0)), (4, .int (ctI (fun v => R (84 + 6 * (4 * s1 + v) + 0)) 4)), (5, .int (nI pr))]) hx hb dL_stations_476 hl (k := 3) rfl (by exact (nI_succ s1).symm) (by decide) rfl (fun ls hl => ?_)
                  refine lv_goto (tgt := 6) hx hb dL_stations_479 (by decide) ?_
                  exact ih_lst (s1 + 1) (by omega) _ _ _ (by omega) h (lv_sub hl [3, 2, 1, 0] rfl)
                have hp2 : pr < 2 := lp_lt (N := 2) rfl (by omega) (by decide) b_189
                refine lv_iconst (v := 2) hx hb dL_stations_192 (by decide) ?_
                refine lv_iload hx hb dL_stations_193 (lv_at hl 5 rfl) ?_
                refine lv_imul hx hb dL_stations_195 ?_
                refine r_top (w := .int (nI (2 * pr))) (congrArg Value.int (pk_mul 2 pr)) ?_
                refine lv_istore (lv' := [(6, .int (nI (2 * pr))), (0, .ref (gz g + 0)), (1, .int (vsI R s1)), (2, .int (ctI (fun v => R (204 + v)) s1)), (3, .int (nI s1)), (4, .int (ctI (fun v => R (84 + 6 * (4 * s1 + v) + 0)) 4)), (5, .int (nI pr))]) hx hb dL_stations_196 hl (by decide) rfl (fun ls hl => ?_)
                by_cases ua : R (84 + 6 * (4 * s1 + 2 * pr) + 0) = 0
                · skip
                  refine lv_aload_n hx hb dL_stations_198 rfl (lv_at hl 1 rfl) ?_
                  refine lv_iload_n hx hb dL_stations_199 rfl (lv_at hl 4 rfl) ?_
                  refine lv_iload hx hb dL_stations_200 (lv_at hl 0 rfl) ?_
                  refine lv_iconst (v := 3) hx hb dL_stations_202 (by decide) ?_
                  refine u_iE (v := (-100005)) (ru_V (As := [.int (nI s1), .int (nI (2 * pr)), .int 3]) (rest := []) F h hWd.1 rfl (kw_observation l g n c hWd J (nI s1) (nI (2 * pr)) 3 (v := (-100005)) (ob_n J.s4 J.s5 hs5 (by omega) ua (by decide))) (gV hjl wd_518 wd_519 wd_520 wd_16 wd_521) rfl 3 (by decide +kernel) rfl ⟨Nat.le_of_ble_eq_true rfl, Nat.le_of_ble_eq_true rfl⟩ rfl hl.1 (Nat.le_of_ble_eq_true rfl) ⟨Nat.zero_le _, Nat.zero_le _⟩ dL_stations_203) h (fun H locs h => ?_)
                  refine lv_if_lt (tgt := 235) hx hb dL_stations_206 (by decide) (fun b_206 => ?_) (fun b_206 => by first | exact absurd (by decide) b_206 | exact absurd b_206 (by decide))
                  refine lv_iconst (v := 0) hx hb dL_stations_235 (by decide) ?_
                  refine lv_istore (lv' := [(7, .int 0), (6, .int (nI (2 * pr))), (0, .ref (gz g + 0)), (1, .int (vsI R s1)), (2, .int (ctI (fun v => R (204 + v)) s1)), (3, .int (nI s1)), (4, .int (ctI (fun v => R (84 + 6 * (4 * s1 + v) + 0)) 4)), (5, .int (nI pr))]) hx hb dL_stations_236 hl (by decide) rfl (fun ls hl => ?_)
                  refine lv_iload hx hb dL_stations_238 (lv_at hl 0 rfl) ?_
                  refine lv_if_eq (tgt := 265) hx hb dL_stations_240 (by decide) (fun b_240 => ?_) (fun b_240 => by first | exact absurd (by decide) b_240 | exact absurd b_240 (by decide))
                  refine lv_iconst (v := 0) hx hb dL_stations_265 (by decide) ?_
                  refine lv_istore (lv' := [(8, .int 0), (7, .int 0), (6, .int (nI (2 * pr))), (0, .ref (gz g + 0)), (1, .int (vsI R s1)), (2, .int (ctI (fun v => R (204 + v)) s1)), (3, .int (nI s1)), (4, .int (ctI (fun v => R (84 + 6 * (4 * s1 + v) + 0)) 4)), (5, .int (nI pr))]) hx hb dL_stations_266 hl (by decide) rfl (fun ls hl => ?_)
                  refine lv_iload hx hb dL_stations_268 (lv_at hl 1 rfl) ?_
                  refine lv_if_eq (tgt := 295) hx hb dL_stations_270 (by decide) (fun b_270 => ?_) (fun b_270 => by first | exact absurd (by decide) b_270 | exact absurd b_270 (by decide))
                  refine lv_iconst (v := 0) hx hb dL_stations_295 (by decide) ?_
                  refine lv_istore (lv' := [(9, .int 0), (8, .int 0), (7, .int 0), (6, .int (nI (2 * pr))), (0, .ref (gz g + 0)), (1, .int (vsI R s1)), (2, .int (ctI (fun v => R (204 + v)) s1)), (3, .int (nI s1)), (4, .int (ctI (fun v => R (84 + 6 * (4 * s1 + v) + 0)) 4)), (5, .int (nI pr))]) hx hb dL_stations_296 hl (by decide) rfl (fun ls hl => ?_)
                  refine lv_iload hx hb dL_stations_298 (lv_at hl 1 rfl) ?_
                  refine u_iE (v := (szI 0)) (ru_S (As := [.int 0]) (rest := []) F h (k_L_size l g n c 0) (gS hjl wd_423 wd_424 wd_15 wd_425) rfl 1 (by decide +kernel) rfl ⟨Nat.le_of_ble_eq_true rfl, Nat.le_of_ble_eq_true rfl⟩ rfl hl.1 (Nat.le_of_ble_eq_true rfl) ⟨Nat.zero_le _, Nat.zero_le _⟩ dL_stations_300) h (fun H locs h => ?_)
                  refine lv_sipush (v := 20000) hx hb dL_stations_303 (by decide) ?_
                  refine lv_icmp_gt (tgt := 324) hx hb dL_stations_306 (by decide) (fun b_306 => by first | exact absurd b_306 (by decide) | exact absurd (by decide) b_306) (fun b_306 => ?_)
                  refine lv_iload hx hb dL_stations_309 (lv_at hl 0 rfl) ?_
                  refine u_iE (v := (szI 0)) (ru_S (As := [.int 0]) (rest := []) F h (k_L_size l g n c 0) (gS hjl wd_423 wd_424 wd_15 wd_425) rfl 1 (by decide +kernel) rfl ⟨Nat.le_of_ble_eq_true rfl, Nat.le_of_ble_eq_true rfl⟩ rfl hl.1 (Nat.le_of_ble_eq_true rfl) ⟨Nat.zero_le _, Nat.zero_le _⟩ dL_stations_311) h (fun H locs h => ?_)
                  refine lv_sipush (v := 20000) hx hb dL_stations_314 (by decide) ?_
                  refine lv_icmp_gt (tgt := 324) hx hb dL_stations_317 (by decide) (fun b_317 => by first | exact absurd b_317 (by decide) | exact absurd (by decide) b_317) (fun b_317 => ?_)
                  refine lv_iconst (v := 1) hx hb dL_stations_320 (by decide) ?_
                  refine lv_goto (tgt := 325) hx hb dL_stations_321 (by decide) ?_
                  refine lv_istore (lv' := [(10, .int 1), (9, .int 0), (8, .int 0), (7, .int 0), (6, .int (nI (2 * pr))), (0, .ref (gz g + 0)), (1, .int (vsI R s1)), (2, .int (ctI (fun v => R (204 + v)) s1)), (3, .int (nI s1)), (4, .int (ctI (fun v => R (84 + 6 * (4 * s1 + v) + 0)) 4)), (5, .int (nI pr))]) hx hb dL_stations_325 hl (by decide) rfl (fun ls hl => ?_)
                  refine lv_iload hx hb dL_stations_327 (lv_at hl 3 rfl) ?_
                  refine lv_if_eq (tgt := 342) hx hb dL_stations_329 (by decide) (fun b_329 => ?_) (fun b_329 => by first | exact absurd (by decide) b_329 | exact absurd b_329 (by decide))
                  refine lv_aload_n hx hb dL_stations_342 rfl (lv_at hl 5 rfl) ?_
                  refine lv_iload_n hx hb dL_stations_343 rfl (lv_at hl 8 rfl) ?_
                  refine lv_iload hx hb dL_stations_344 (lv_at hl 10 rfl) ?_
                  refine u_iE (v := (-100005)) (ru_V (As := [.int (nI s1), .int (nI pr)]) (rest := []) F h hWd.1 rfl (kw_given l g n c hWd J (nI s1) (nI pr) (v := (-100005)) (gv_n J.s4 J.s5 hs5 hp2 (ra_v (Or.inl ua)))) (gV hjl wd_557 wd_558 wd_559 wd_16 wd_560) rfl 2 (by decide +kernel) rfl ⟨Nat.le_of_ble_eq_true rfl, Nat.le_of_ble_eq_true rfl⟩ rfl hl.1 (Nat.le_of_ble_eq_true rfl) ⟨Nat.zero_le _, Nat.zero_le _⟩ dL_stations_346) h (fun H locs h => ?_)
                  refine lv_ldc (v := (-100005)) hx hb F.2.2.2.1 (F.2.2.2.2.1 (Cond.constant RL 35 (-100005)) (List.mem_cons_of_mem _ wd_446)) dL_stations_349 ?_
                  refine lv_icmp_eq (tgt := 401) hx hb dL_stations_351 (by decide) (fun b_351 => ?_) (fun b_351 => by first | exact absurd (by decide) b_351 | exact absurd b_351 (by decide))
                  refine lv_iinc (v := nI (pr + 1)) (lv' := [(5, .int (nI (pr + 1))), (10, .int 1), (9, .int 0), (8, .int 0), (7, .int 0), (6, .int (nI (2 * pr))), (0, .ref (gz g + 0)), (1, .int (vsI R s1)), (2, .int (ctI (fun v => R (204 + v)) s1)), (3, .int (nI s1)), (4, .int (ctI (fun v => R (84 + 6 * (4 * s1 + v) + 0)) 4))]) hx hb dL_stations_401 hl (k := 10) rfl (by exact (nI_succ pr).symm) (by decide) rfl (fun ls hl => ?_)
                  refine lv_goto (tgt := 186) hx hb dL_stations_404 (by decide) ?_
                  exact ih_lop (pr + 1) (by omega) _ _ _ (by omega) h (lv_sub hl [6, 7, 8, 9, 10, 0] rfl)
                by_cases ub : R (84 + 6 * (4 * s1 + (2 * pr + 1)) + 0) = 0
                · skip
                  refine lv_aload_n hx hb dL_stations_198 rfl (lv_at hl 1 rfl) ?_
                  refine lv_iload_n hx hb dL_stations_199 rfl (lv_at hl 4 rfl) ?_
                  refine lv_iload hx hb dL_stations_200 (lv_at hl 0 rfl) ?_
                  refine lv_iconst (v := 3) hx hb dL_stations_202 (by decide) ?_
                  refine u_iE (v := R (84 + 6 * (4 * s1 + 2 * pr) + 4)) (ru_V (As := [.int (nI s1), .int (nI (2 * pr)), .int 3]) (rest := []) F h hWd.1 rfl (kw_observation l g n c hWd J (nI s1) (nI (2 * pr)) 3 (v := R (84 + 6 * (4 * s1 + 2 * pr) + 4)) (ob_3 J.s4 J.s5 hs5 (by omega) ua)) (gV hjl wd_518 wd_519 wd_520 wd_16 wd_521) rfl 3 (by decide +kernel) rfl ⟨Nat.le_of_ble_eq_true rfl, Nat.le_of_ble_eq_true rfl⟩ rfl hl.1 (Nat.le_of_ble_eq_true rfl) ⟨Nat.zero_le _, Nat.zero_le _⟩ dL_stations_203) h (fun H locs h => ?_)
                  refine lv_if_lt (tgt := 235) hx hb dL_stations_206 (by decide) (fun b_206 => by first | exact absurd b_206 (i_nlt (bt_ge (J.v (w := 2 * pr) hs5 (by omega) (b01_of (J.ob (by omega) (by omega)) ua)).2.2.1 0 (by decide))) | exact absurd (i_nlt (bt_ge (J.v (w := 2 * pr) hs5 (by omega) (b01_of (J.ob (by omega) (by omega)) ua)).2.2.1 0 (by decide))) b_206) (fun b_206 => ?_)
                  refine lv_aload_n hx hb dL_stations_209 rfl (lv_at hl 1 rfl) ?_
                  refine lv_iload_n hx hb dL_stations_210 rfl (lv_at hl 4 rfl) ?_
                  refine lv_iload hx hb dL_stations_211 (lv_at hl 0 rfl) ?_
                  refine lv_iconst (v := 1) hx hb dL_stations_213 (by decide) ?_
                  refine lv_iadd hx hb dL_stations_214 ?_
                  refine r_top (w := .int (nI (2 * pr + 1))) (congrArg Value.int (nI_1 (2 * pr))) ?_
                  refine lv_iconst (v := 3) hx hb dL_stations_215 (by decide) ?_
                  refine u_iE (v := (-100005)) (ru_V (As := [.int (nI s1), .int (nI (2 * pr + 1)), .int 3]) (rest := []) F h hWd.1 rfl (kw_observation l g n c hWd J (nI s1) (nI (2 * pr + 1)) 3 (v := (-100005)) (ob_n J.s4 J.s5 hs5 (by omega) ub (by decide))) (gV hjl wd_518 wd_519 wd_520 wd_16 wd_521) rfl 3 (by decide +kernel) rfl ⟨Nat.le_of_ble_eq_true rfl, Nat.le_of_ble_eq_true rfl⟩ rfl hl.1 (Nat.le_of_ble_eq_true rfl) ⟨Nat.zero_le _, Nat.zero_le _⟩ dL_stations_216) h (fun H locs h => ?_)
                  refine lv_if_lt (tgt := 235) hx hb dL_stations_219 (by decide) (fun b_219 => ?_) (fun b_219 => by first | exact absurd (by decide) b_219 | exact absurd b_219 (by decide))
                  refine lv_iconst (v := 0) hx hb dL_stations_235 (by decide) ?_
                  refine lv_istore (lv' := [(7, .int 0), (6, .int (nI (2 * pr))), (0, .ref (gz g + 0)), (1, .int (vsI R s1)), (2, .int (ctI (fun v => R (204 + v)) s1)), (3, .int (nI s1)), (4, .int (ctI (fun v => R (84 + 6 * (4 * s1 + v) + 0)) 4)), (5, .int (nI pr))]) hx hb dL_stations_236 hl (by decide) rfl (fun ls hl => ?_)
                  refine lv_iload hx hb dL_stations_238 (lv_at hl 0 rfl) ?_
                  refine lv_if_eq (tgt := 265) hx hb dL_stations_240 (by decide) (fun b_240 => ?_) (fun b_240 => by first | exact absurd (by decide) b_240 | exact absurd b_240 (by decide))
                  refine lv_iconst (v := 0) hx hb dL_stations_265 (by decide) ?_
                  refine lv_istore (lv' := [(8, .int 0), (7, .int 0), (6, .int (nI (2 * pr))), (0, .ref (gz g + 0)), (1, .int (vsI R s1)), (2, .int (ctI (fun v => R (204 + v)) s1)), (3, .int (nI s1)), (4, .int (ctI (fun v => R (84 + 6 * (4 * s1 + v) + 0)) 4)), (5, .int (nI pr))]) hx hb dL_stations_266 hl (by decide) rfl (fun ls hl => ?_)
                  refine lv_iload hx hb dL_stations_268 (lv_at hl 1 rfl) ?_
                  refine lv_if_eq (tgt := 295) hx hb dL_stations_270 (by decide) (fun b_270 => ?_) (fun b_270 => by first | exact absurd (by decide) b_270 | exact absurd b_270 (by decide))
                  refine lv_iconst (v := 0) hx hb dL_stations_295 (by decide) ?_
                  refine lv_istore (lv' := [(9, .int 0), (8, .int 0), (7, .int 0), (6, .int (nI (2 * pr))), (0, .ref (gz g + 0)), (1, .int (vsI R s1)), (2, .int (ctI (fun v => R (204 + v)) s1)), (3, .int (nI s1)), (4, .int (ctI (fun v => R (84 + 6 * (4 * s1 + v) + 0)) 4)), (5, .int (nI pr))]) hx hb dL_stations_296 hl (by decide) rfl (fun ls hl => ?_)
                  refine lv_iload hx hb dL_stations_298 (lv_at hl 1 rfl) ?_
                  refine u_iE (v := (szI 0)) (ru_S (As := [.int 0]) (rest := []) F h (k_L_size l g n c 0) (gS hjl wd_423 wd_424 wd_15 wd_425) rfl 1 (by decide +kernel) rfl ⟨Nat.le_of_ble_eq_true rfl, Nat.le_of_ble_eq_true rfl⟩ rfl hl.1 (Nat.le_of_ble_eq_true rfl) ⟨Nat.zero_le _, Nat.zero_le _⟩ dL_stations_300) h (fun H locs h => ?_)
                  refine lv_sipush (v := 20000) hx hb dL_stations_303 (by decide) ?_
                  refine lv_icmp_gt (tgt := 324) hx hb dL_stations_306 (by decide) (fun b_306 => by first | exact absurd b_306 (by decide) | exact absurd (by decide) b_306) (fun b_306 => ?_)
                  refine lv_iload hx hb dL_stations_309 (lv_at hl 0 rfl) ?_
                  refine u_iE (v := (szI 0)) (ru_S (As := [.int 0]) (rest := []) F h (k_L_size l g n c 0) (gS hjl wd_423 wd_424 wd_15 wd_425) rfl 1 (by decide +kernel) rfl ⟨Nat.le_of_ble_eq_true rfl, Nat.le_of_ble_eq_true rfl⟩ rfl hl.1 (Nat.le_of_ble_eq_true rfl) ⟨Nat.zero_le _, Nat.zero_le _⟩ dL_stations_311) h (fun H locs h => ?_)
                  refine lv_sipush (v := 20000) hx hb dL_stations_314 (by decide) ?_
                  refine lv_icmp_gt (tgt := 324) hx hb dL_stations_317 (by decide) (fun b_317 => by first | exact absurd b_317 (by decide) | exact absurd (by decide) b_317) (fun b_317 => ?_)
                  refine lv_iconst (v := 1) hx hb dL_stations_320 (by decide) ?_
                  refine lv_goto (tgt := 325) hx hb dL_stations_321 (by decide) ?_
                  refine lv_istore (lv' := [(10, .int 1), (9, .int 0), (8, .int 0), (7, .int 0), (6, .int (nI (2 * pr))), (0, .ref (gz g + 0)), (1, .int (vsI R s1)), (2, .int (ctI (fun v => R (204 + v)) s1)), (3, .int (nI s1)), (4, .int (ctI (fun v => R (84 + 6 * (4 * s1 + v) + 0)) 4)), (5, .int (nI pr))]) hx hb dL_stations_325 hl (by decide) rfl (fun ls hl => ?_)
                  refine lv_iload hx hb dL_stations_327 (lv_at hl 3 rfl) ?_
                  refine lv_if_eq (tgt := 342) hx hb dL_stations_329 (by decide) (fun b_329 => ?_) (fun b_329 => by first | exact absurd (by decide) b_329 | exact absurd b_329 (by decide))
                  refine lv_aload_n hx hb dL_stations_342 rfl (lv_at hl 5 rfl) ?_
                  refine lv_iload_n hx hb dL_stations_343 rfl (lv_at hl 8 rfl) ?_
                  refine lv_iload hx hb dL_stations_344 (lv_at hl 10 rfl) ?_
                  refine u_iE (v := (-100005)) (ru_V (As := [.int (nI s1), .int (nI pr)]) (rest := []) F h hWd.1 rfl (kw_given l g n c hWd J (nI s1) (nI pr) (v := (-100005)) (gv_n J.s4 J.s5 hs5 hp2 (ra_v (Or.inr ub)))) (gV hjl wd_557 wd_558 wd_559 wd_16 wd_560) rfl 2 (by decide +kernel) rfl ⟨Nat.le_of_ble_eq_true rfl, Nat.le_of_ble_eq_true rfl⟩ rfl hl.1 (Nat.le_of_ble_eq_true rfl) ⟨Nat.zero_le _, Nat.zero_le _⟩ dL_stations_346) h (fun H locs h => ?_)
                  refine lv_ldc (v := (-100005)) hx hb F.2.2.2.1 (F.2.2.2.2.1 (Cond.constant RL 35 (-100005)) (List.mem_cons_of_mem _ wd_446)) dL_stations_349 ?_
                  refine lv_icmp_eq (tgt := 401) hx hb dL_stations_351 (by decide) (fun b_351 => ?_) (fun b_351 => by first | exact absurd (by decide) b_351 | exact absurd b_351 (by decide))
                  refine lv_iinc (v := nI (pr + 1)) (lv' := [(5, .int (nI (pr + 1))), (10, .int 1), (9, .int 0), (8, .int 0), (7, .int 0), (6, .int (nI (2 * pr))), (0, .ref (gz g + 0)), (1, .int (vsI R s1)), (2, .int (ctI (fun v => R (204 + v)) s1)), (3, .int (nI s1)), (4, .int (ctI (fun v => R (84 + 6 * (4 * s1 + v) + 0)) 4))]) hx hb dL_stations_401 hl (k := 10) rfl (by exact (nI_succ pr).symm) (by decide) rfl (fun ls hl => ?_)
                  refine lv_goto (tgt := 186) hx hb dL_stations_404 (by decide) ?_
                  exact ih_lop (pr + 1) (by omega) _ _ _ (by omega) h (lv_sub hl [6, 7, 8, 9, 10, 0] rfl)
                have va := J.v (w := 2 * pr) hs5 (by omega) (b01_of (J.ob (by omega) (by omega)) ua)
                have vb := J.v (w := 2 * pr + 1) hs5 (by omega) (b01_of (J.ob (by omega) (by omega)) ub)
                have ka1 := va.1
                have kb1 := vb.1
                by_cases up : Plc R pr
                · skip
                  have va := J.v (w := 2 * pr) hs5 (by omega) (b01_of (J.ob (by omega) (by omega)) ua)
                  have vb := J.v (w := 2 * pr + 1) hs5 (by omega) (b01_of (J.ob (by omega) (by omega)) ub)
                  have ka1 := va.1
                  have kb1 := vb.1
                  refine lv_aload_n hx hb dL_stations_198 rfl (lv_at hl 1 rfl) ?_
                  refine lv_iload_n hx hb dL_stations_199 rfl (lv_at hl 4 rfl) ?_
                  refine lv_iload hx hb dL_stations_200 (lv_at hl 0 rfl) ?_
                  refine lv_iconst (v := 3) hx hb dL_stations_202 (by decide) ?_
                  refine u_iE (v := R (84 + 6 * (4 * s1 + 2 * pr) + 4)) (ru_V (As := [.int (nI s1), .int (nI (2 * pr)), .int 3]) (rest := []) F h hWd.1 rfl (kw_observation l g n c hWd J (nI s1) (nI (2 * pr)) 3 (v := R (84 + 6 * (4 * s1 + 2 * pr) + 4)) (ob_3 J.s4 J.s5 hs5 (by omega) ua)) (gV hjl wd_518 wd_519 wd_520 wd_16 wd_521) rfl 3 (by decide +kernel) rfl ⟨Nat.le_of_ble_eq_true rfl, Nat.le_of_ble_eq_true rfl⟩ rfl hl.1 (Nat.le_of_ble_eq_true rfl) ⟨Nat.zero_le _, Nat.zero_le _⟩ dL_stations_203) h (fun H locs h => ?_)
                  refine lv_if_lt (tgt := 235) hx hb dL_stations_206 (by decide) (fun b_206 => by first | exact absurd b_206 (i_nlt (bt_ge (J.v (w := 2 * pr) hs5 (by omega) (b01_of (J.ob (by omega) (by omega)) ua)).2.2.1 0 (by decide))) | exact absurd (i_nlt (bt_ge (J.v (w := 2 * pr) hs5 (by omega) (b01_of (J.ob (by omega) (by omega)) ua)).2.2.1 0 (by decide))) b_206) (fun b_206 => ?_)
                  refine lv_aload_n hx hb dL_stations_209 rfl (lv_at hl 1 rfl) ?_
                  refine lv_iload_n hx hb dL_stations_210 rfl (lv_at hl 4 rfl) ?_
                  refine lv_iload hx hb dL_stations_211 (lv_at hl 0 rfl) ?_
                  refine lv_iconst (v := 1) hx hb dL_stations_213 (by decide) ?_
                  refine lv_iadd hx hb dL_stations_214 ?_
                  refine r_top (w := .int (nI (2 * pr + 1))) (congrArg Value.int (nI_1 (2 * pr))) ?_
                  refine lv_iconst (v := 3) hx hb dL_stations_215 (by decide) ?_
                  refine u_iE (v := R (84 + 6 * (4 * s1 + (2 * pr + 1)) + 4)) (ru_V (As := [.int (nI s1), .int (nI (2 * pr + 1)), .int 3]) (rest := []) F h hWd.1 rfl (kw_observation l g n c hWd J (nI s1) (nI (2 * pr + 1)) 3 (v := R (84 + 6 * (4 * s1 + (2 * pr + 1)) + 4)) (ob_3 J.s4 J.s5 hs5 (by omega) ub)) (gV hjl wd_518 wd_519 wd_520 wd_16 wd_521) rfl 3 (by decide +kernel) rfl ⟨Nat.le_of_ble_eq_true rfl, Nat.le_of_ble_eq_true rfl⟩ rfl hl.1 (Nat.le_of_ble_eq_true rfl) ⟨Nat.zero_le _, Nat.zero_le _⟩ dL_stations_216) h (fun H locs h => ?_)
                  refine lv_if_lt (tgt := 235) hx hb dL_stations_219 (by decide) (fun b_219 => by first | exact absurd b_219 (i_nlt (bt_ge vb.2.2.1 0 (by decide))) | exact absurd (i_nlt (bt_ge vb.2.2.1 0 (by decide))) b_219) (fun b_219 => ?_)
                  refine lv_aload_n hx hb dL_stations_222 rfl (lv_at hl 1 rfl) ?_
                  refine lv_iload hx hb dL_stations_223 (lv_at hl 6 rfl) ?_
                  refine u_iE (v := (-100005)) (ru_V (As := [.int (nI pr)]) (rest := []) F h hWd.1 rfl (kw_surface l g n c hWd J (nI pr) (v := (-100005)) (su_p hp2 up)) (gV hjl wd_530 wd_531 wd_532 wd_16 wd_533) rfl 1 (by decide +kernel) rfl ⟨Nat.le_of_ble_eq_true rfl, Nat.le_of_ble_eq_true rfl⟩ rfl hl.1 (Nat.le_of_ble_eq_true rfl) ⟨Nat.zero_le _, Nat.zero_le _⟩ dL_stations_225) h (fun H locs h => ?_)
                  refine lv_if_lt (tgt := 235) hx hb dL_stations_228 (by decide) (fun b_228 => ?_) (fun b_228 => by first | exact absurd (by decide) b_228 | exact absurd b_228 (by decide))
                  refine lv_iconst (v := 0) hx hb dL_stations_235 (by decide) ?_
                  refine lv_istore (lv' := [(7, .int 0), (6, .int (nI (2 * pr))), (0, .ref (gz g + 0)), (1, .int (vsI R s1)), (2, .int (ctI (fun v => R (204 + v)) s1)), (3, .int (nI s1)), (4, .int (ctI (fun v => R (84 + 6 * (4 * s1 + v) + 0)) 4)), (5, .int (nI pr))]) hx hb dL_stations_236 hl (by decide) rfl (fun ls hl => ?_)
                  refine lv_iload hx hb dL_stations_238 (lv_at hl 0 rfl) ?_
                  refine lv_if_eq (tgt := 265) hx hb dL_stations_240 (by decide) (fun b_240 => ?_) (fun b_240 => by first | exact absurd (by decide) b_240 | exact absurd b_240 (by decide))
                  refine lv_iconst (v := 0) hx hb dL_stations_265 (by decide) ?_
                  refine lv_istore (lv' := [(8, .int 0), (7, .int 0), (6, .int (nI (2 * pr))), (0, .ref (gz g + 0)), (1, .int (vsI R s1)), (2, .int (ctI (fun v => R (204 + v)) s1)), (3, .int (nI s1)), (4, .int (ctI (fun v => R (84 + 6 * (4 * s1 + v) + 0)) 4)), (5, .int (nI pr))]) hx hb dL_stations_266 hl (by decide) rfl (fun ls hl => ?_)
                  refine lv_iload hx hb dL_stations_268 (lv_at hl 1 rfl) ?_
                  refine lv_if_eq (tgt := 295) hx hb dL_stations_270 (by decide) (fun b_270 => ?_) (fun b_270 => by first | exact absurd (by decide) b_270 | exact absurd b_270 (by decide))
                  refine lv_iconst (v := 0) hx hb dL_stations_295 (by decide) ?_
                  refine lv_istore (lv' := [(9, .int 0), (8, .int 0), (7, .int 0), (6, .int (nI (2 * pr))), (0, .ref (gz g + 0)), (1, .int (vsI R s1)), (2, .int (ctI (fun v => R (204 + v)) s1)), (3, .int (nI s1)), (4, .int (ctI (fun v => R (84 + 6 * (4 * s1 + v) + 0)) 4)), (5, .int (nI pr))]) hx hb dL_stations_296 hl (by decide) rfl (fun ls hl => ?_)
                  refine lv_iload hx hb dL_stations_298 (lv_at hl 1 rfl) ?_
                  refine u_iE (v := (szI 0)) (ru_S (As := [.int 0]) (rest := []) F h (k_L_size l g n c 0) (gS hjl wd_423 wd_424 wd_15 wd_425) rfl 1 (by decide +kernel) rfl ⟨Nat.le_of_ble_eq_true rfl, Nat.le_of_ble_eq_true rfl⟩ rfl hl.1 (Nat.le_of_ble_eq_true rfl) ⟨Nat.zero_le _, Nat.zero_le _⟩ dL_stations_300) h (fun H locs h => ?_)
                  refine lv_sipush (v := 20000) hx hb dL_stations_303 (by decide) ?_
                  refine lv_icmp_gt (tgt := 324) hx hb dL_stations_306 (by decide) (fun b_306 => by first | exact absurd b_306 (by decide) | exact absurd (by decide) b_306) (fun b_306 => ?_)
                  refine lv_iload hx hb dL_stations_309 (lv_at hl 0 rfl) ?_
                  refine u_iE (v := (szI 0)) (ru_S (As := [.int 0]) (rest := []) F h (k_L_size l g n c 0) (gS hjl wd_423 wd_424 wd_15 wd_425) rfl 1 (by decide +kernel) rfl ⟨Nat.le_of_ble_eq_true rfl, Nat.le_of_ble_eq_true rfl⟩ rfl hl.1 (Nat.le_of_ble_eq_true rfl) ⟨Nat.zero_le _, Nat.zero_le _⟩ dL_stations_311) h (fun H locs h => ?_)
                  refine lv_sipush (v := 20000) hx hb dL_stations_314 (by decide) ?_
                  refine lv_icmp_gt (tgt := 324) hx hb dL_stations_317 (by decide) (fun b_317 => by first | exact absurd b_317 (by decide) | exact absurd (by decide) b_317) (fun b_317 => ?_)
                  refine lv_iconst (v := 1) hx hb dL_stations_320 (by decide) ?_
                  refine lv_goto (tgt := 325) hx hb dL_stations_321 (by decide) ?_
                  refine lv_istore (lv' := [(10, .int 1), (9, .int 0), (8, .int 0), (7, .int 0), (6, .int (nI (2 * pr))), (0, .ref (gz g + 0)), (1, .int (vsI R s1)), (2, .int (ctI (fun v => R (204 + v)) s1)), (3, .int (nI s1)), (4, .int (ctI (fun v => R (84 + 6 * (4 * s1 + v) + 0)) 4)), (5, .int (nI pr))]) hx hb dL_stations_325 hl (by decide) rfl (fun ls hl => ?_)
                  refine lv_iload hx hb dL_stations_327 (lv_at hl 3 rfl) ?_
                  refine lv_if_eq (tgt := 342) hx hb dL_stations_329 (by decide) (fun b_329 => ?_) (fun b_329 => by first | exact absurd (by decide) b_329 | exact absurd b_329 (by decide))
                  refine lv_aload_n hx hb dL_stations_342 rfl (lv_at hl 5 rfl) ?_
                  refine lv_iload_n hx hb dL_stations_343 rfl (lv_at hl 8 rfl) ?_
                  refine lv_iload hx hb dL_stations_344 (lv_at hl 10 rfl) ?_
                  refine u_iE (v := (-100005)) (ru_V (As := [.int (nI s1), .int (nI pr)]) (rest := []) F h hWd.1 rfl (kw_given l g n c hWd J (nI s1) (nI pr) (v := (-100005)) (gv_n J.s4 J.s5 hs5 hp2 (by rw [ra_4 ka1 kb1 ua ub (Or.inl up)]; decide))) (gV hjl wd_557 wd_558 wd_559 wd_16 wd_560) rfl 2 (by decide +kernel) rfl ⟨Nat.le_of_ble_eq_true rfl, Nat.le_of_ble_eq_true rfl⟩ rfl hl.1 (Nat.le_of_ble_eq_true rfl) ⟨Nat.zero_le _, Nat.zero_le _⟩ dL_stations_346) h (fun H locs h => ?_)
                  refine lv_ldc (v := (-100005)) hx hb F.2.2.2.1 (F.2.2.2.2.1 (Cond.constant RL 35 (-100005)) (List.mem_cons_of_mem _ wd_446)) dL_stations_349 ?_
                  refine lv_icmp_eq (tgt := 401) hx hb dL_stations_351 (by decide) (fun b_351 => ?_) (fun b_351 => by first | exact absurd (by decide) b_351 | exact absurd b_351 (by decide))
                  refine lv_iinc (v := nI (pr + 1)) (lv' := [(5, .int (nI (pr + 1))), (10, .int 1), (9, .int 0), (8, .int 0), (7, .int 0), (6, .int (nI (2 * pr))), (0, .ref (gz g + 0)), (1, .int (vsI R s1)), (2, .int (ctI (fun v => R (204 + v)) s1)), (3, .int (nI s1)), (4, .int (ctI (fun v => R (84 + 6 * (4 * s1 + v) + 0)) 4))]) hx hb dL_stations_401 hl (k := 10) rfl (by exact (nI_succ pr).symm) (by decide) rfl (fun ls hl => ?_)
                  refine lv_goto (tgt := 186) hx hb dL_stations_404 (by decide) ?_
                  exact ih_lop (pr + 1) (by omega) _ _ _ (by omega) h (lv_sub hl [6, 7, 8, 9, 10, 0] rfl)
                have sr := sb_r J hp2 ka1 kb1 up
                obtain ⟨mb1, mb2⟩ := mea_b J hs5 hp2 ua ub
                refine lv_aload_n hx hb dL_stations_198 rfl (lv_at hl 1 rfl) ?_
                refine lv_iload_n hx hb dL_stations_199 rfl (lv_at hl 4 rfl) ?_
                refine lv_iload hx hb dL_stations_200 (lv_at hl 0 rfl) ?_
                refine lv_iconst (v := 3) hx hb dL_stations_202 (by decide) ?_
                refine u_iE (v := R (84 + 6 * (4 * s1 + 2 * pr) + 4)) (ru_V (As := [.int (nI s1), .int (nI (2 * pr)), .int 3]) (rest := []) F h hWd.1 rfl (kw_observation l g n c hWd J (nI s1) (nI (2 * pr)) 3 (v := R (84 + 6 * (4 * s1 + 2 * pr) + 4)) (ob_3 J.s4 J.s5 hs5 (by omega) ua)) (gV hjl wd_518 wd_519 wd_520 wd_16 wd_521) rfl 3 (by decide +kernel) rfl ⟨Nat.le_of_ble_eq_true rfl, Nat.le_of_ble_eq_true rfl⟩ rfl hl.1 (Nat.le_of_ble_eq_true rfl) ⟨Nat.zero_le _, Nat.zero_le _⟩ dL_stations_203) h (fun H locs h => ?_)
                refine lv_if_lt (tgt := 235) hx hb dL_stations_206 (by decide) (fun b_206 => by first | exact absurd b_206 (i_nlt (bt_ge (J.v (w := 2 * pr) hs5 (by omega) (b01_of (J.ob (by omega) (by omega)) ua)).2.2.1 0 (by decide))) | exact absurd (i_nlt (bt_ge (J.v (w := 2 * pr) hs5 (by omega) (b01_of (J.ob (by omega) (by omega)) ua)).2.2.1 0 (by decide))) b_206) (fun b_206 => ?_)
                refine lv_aload_n hx hb dL_stations_209 rfl (lv_at hl 1 rfl) ?_
                refine lv_iload_n hx hb dL_stations_210 rfl (lv_at hl 4 rfl) ?_
                refine lv_iload hx hb dL_stations_211 (lv_at hl 0 rfl) ?_
                refine lv_iconst (v := 1) hx hb dL_stations_213 (by decide) ?_
                refine lv_iadd hx hb dL_stations_214 ?_
                refine r_top (w := .int (nI (2 * pr + 1))) (congrArg Value.int (nI_1 (2 * pr))) ?_
                refine lv_iconst (v := 3) hx hb dL_stations_215 (by decide) ?_
                refine u_iE (v := R (84 + 6 * (4 * s1 + (2 * pr + 1)) + 4)) (ru_V (As := [.int (nI s1), .int (nI (2 * pr + 1)), .int 3]) (rest := []) F h hWd.1 rfl (kw_observation l g n c hWd J (nI s1) (nI (2 * pr + 1)) 3 (v := R (84 + 6 * (4 * s1 + (2 * pr + 1)) + 4)) (ob_3 J.s4 J.s5 hs5 (by omega) ub)) (gV hjl wd_518 wd_519 wd_520 wd_16 wd_521) rfl 3 (by decide +kernel) rfl ⟨Nat.le_of_ble_eq_true rfl, Nat.le_of_ble_eq_true rfl⟩ rfl hl.1 (Nat.le_of_ble_eq_true rfl) ⟨Nat.zero_le _, Nat.zero_le _⟩ dL_stations_216) h (fun H locs h => ?_)
                refine lv_if_lt (tgt := 235) hx hb dL_stations_219 (by decide) (fun b_219 => by first | exact absurd b_219 (i_nlt (bt_ge vb.2.2.1 0 (by decide))) | exact absurd (i_nlt (bt_ge vb.2.2.1 0 (by decide))) b_219) (fun b_219 => ?_)
                refine lv_aload_n hx hb dL_stations_222 rfl (lv_at hl 1 rfl) ?_
                refine lv_iload hx hb dL_stations_223 (lv_at hl 6 rfl) ?_
                refine u_iE (v := sq_X7_surfaceBearing R pr) (ru_V (As := [.int (nI pr)]) (rest := []) F h hWd.1 rfl (kw_surface l g n c hWd J (nI pr) (v := sq_X7_surfaceBearing R pr) (su_v hp2 ka1 kb1 up)) (gV hjl wd_530 wd_531 wd_532 wd_16 wd_533) rfl 1 (by decide +kernel) rfl ⟨Nat.le_of_ble_eq_true rfl, Nat.le_of_ble_eq_true rfl⟩ rfl hl.1 (Nat.le_of_ble_eq_true rfl) ⟨Nat.zero_le _, Nat.zero_le _⟩ dL_stations_225) h (fun H locs h => ?_)
                refine lv_if_lt (tgt := 235) hx hb dL_stations_228 (by decide) (fun b_228 => by first | exact absurd b_228 (i_nlt (bt_ge sr 0 (by decide))) | exact absurd (i_nlt (bt_ge sr 0 (by decide))) b_228) (fun b_228 => ?_)
                refine lv_iconst (v := 1) hx hb dL_stations_231 (by decide) ?_
                refine lv_goto (tgt := 236) hx hb dL_stations_232 (by decide) ?_
                refine lv_istore (lv' := [(7, .int 1), (6, .int (nI (2 * pr))), (0, .ref (gz g + 0)), (1, .int (vsI R s1)), (2, .int (ctI (fun v => R (204 + v)) s1)), (3, .int (nI s1)), (4, .int (ctI (fun v => R (84 + 6 * (4 * s1 + v) + 0)) 4)), (5, .int (nI pr))]) hx hb dL_stations_236 hl (by decide) rfl (fun ls hl => ?_)
                refine lv_iload hx hb dL_stations_238 (lv_at hl 0 rfl) ?_
                refine lv_if_eq (tgt := 265) hx hb dL_stations_240 (by decide) (fun b_240 => by first | exact absurd b_240 (by decide) | exact absurd (by decide) b_240) (fun b_240 => ?_)
                refine lv_aload_n hx hb dL_stations_243 rfl (lv_at hl 2 rfl) ?_
                refine lv_iload_n hx hb dL_stations_244 rfl (lv_at hl 5 rfl) ?_
                refine lv_iload hx hb dL_stations_245 (lv_at hl 1 rfl) ?_
                refine lv_iconst (v := 1) hx hb dL_stations_247 (by decide) ?_
                refine lv_iadd hx hb dL_stations_248 ?_
                refine r_top (w := .int (nI (2 * pr + 1))) (congrArg Value.int (nI_1 (2 * pr))) ?_
                refine lv_iconst (v := 0) hx hb dL_stations_249 (by decide) ?_
                refine u_iE (v := R (84 + 6 * (4 * s1 + (2 * pr + 1)) + 1)) (ru_V (As := [.int (nI s1), .int (nI (2 * pr + 1)), .int 0]) (rest := []) F h hWd.1 rfl (kw_observation l g n c hWd J (nI s1) (nI (2 * pr + 1)) 0 (v := R (84 + 6 * (4 * s1 + (2 * pr + 1)) + 1)) (ob_0 J.s4 J.s5 hs5 (by omega) ub)) (gV hjl wd_518 wd_519 wd_520 wd_16 wd_521) rfl 3 (by decide +kernel) rfl ⟨Nat.le_of_ble_eq_true rfl, Nat.le_of_ble_eq_true rfl⟩ rfl hl.1 (Nat.le_of_ble_eq_true rfl) ⟨Nat.zero_le _, Nat.zero_le _⟩ dL_stations_250) h (fun H locs h => ?_)
                refine lv_aload_n hx hb dL_stations_253 rfl (lv_at hl 2 rfl) ?_
                refine lv_iload_n hx hb dL_stations_254 rfl (lv_at hl 5 rfl) ?_
                refine lv_iload hx hb dL_stations_255 (lv_at hl 1 rfl) ?_
                refine lv_iconst (v := 0) hx hb dL_stations_257 (by decide) ?_
                refine u_iE (v := R (84 + 6 * (4 * s1 + 2 * pr) + 1)) (ru_V (As := [.int (nI s1), .int (nI (2 * pr)), .int 0]) (rest := [.int (R (84 + 6 * (4 * s1 + (2 * pr + 1)) + 1))]) F h hWd.1 rfl (kw_observation l g n c hWd J (nI s1) (nI (2 * pr)) 0 (v := R (84 + 6 * (4 * s1 + 2 * pr) + 1)) (ob_0 J.s4 J.s5 hs5 (by omega) ua)) (gV hjl wd_518 wd_519 wd_520 wd_16 wd_521) rfl 3 (by decide +kernel) rfl ⟨Nat.le_of_ble_eq_true rfl, Nat.le_of_ble_eq_true rfl⟩ rfl hl.1 (Nat.le_of_ble_eq_true rfl) ⟨Nat.zero_le _, Nat.zero_le _⟩ dL_stations_258) h (fun H locs h => ?_)
                refine lv_isub hx hb dL_stations_261 ?_
                refine lv_goto (tgt := 266) hx hb dL_stations_262 (by decide) ?_
                refine lv_istore (lv' := [(8, .int (R (84 + 6 * (4 * s1 + (2 * pr + 1)) + 1) - R (84 + 6 * (4 * s1 + 2 * pr) + 1))), (7, .int 1), (6, .int (nI (2 * pr))), (0, .ref (gz g + 0)), (1, .int (vsI R s1)), (2, .int (ctI (fun v => R (204 + v)) s1)), (3, .int (nI s1)), (4, .int (ctI (fun v => R (84 + 6 * (4 * s1 + v) + 0)) 4)), (5, .int (nI pr))]) hx hb dL_stations_266 hl (by decide) rfl (fun ls hl => ?_)
                obtain ⟨dx, e_dx⟩ : ∃ x : Int32, x = (R (84 + 6 * (4 * s1 + (2 * pr + 1)) + 1) - R (84 + 6 * (4 * s1 + 2 * pr) + 1)) := ⟨_, rfl⟩
                have hl : lv_has ls 11 [(8, .int dx), (7, .int 1), (6, .int (nI (2 * pr))), (0, .ref (gz g + 0)), (1, .int (vsI R s1)), (2, .int (ctI (fun v => R (204 + v)) s1)), (3, .int (nI s1)), (4, .int (ctI (fun v => R (84 + 6 * (4 * s1 + v) + 0)) 4)), (5, .int (nI pr))] := by rw [show (dx : Int32) = (R (84 + 6 * (4 * s1 + (2 * pr + 1)) + 1) - R (84 + 6 * (4 * s1 + 2 * pr) + 1)) from e_dx]; exact hl
                refine lv_iload hx hb dL_stations_268 (lv_at hl 1 rfl) ?_
                refine lv_if_eq (tgt := 295) hx hb dL_stations_270 (by decide) (fun b_270 => by first | exact absurd b_270 (by decide) | exact absurd (by decide) b_270) (fun b_270 => ?_)
                refine lv_aload_n hx hb dL_stations_273 rfl (lv_at hl 3 rfl) ?_
                refine lv_iload_n hx hb dL_stations_274 rfl (lv_at hl 6 rfl) ?_
                refine lv_iload hx hb dL_stations_275 (lv_at hl 2 rfl) ?_
                refine lv_iconst (v := 1) hx hb dL_stations_277 (by decide) ?_
                refine lv_iadd hx hb dL_stations_278 ?_
                refine r_top (w := .int (nI (2 * pr + 1))) (congrArg Value.int (nI_1 (2 * pr))) ?_
                refine lv_iconst (v := 1) hx hb dL_stations_279 (by decide) ?_
                refine u_iE (v := R (84 + 6 * (4 * s1 + (2 * pr + 1)) + 2)) (ru_V (As := [.int (nI s1), .int (nI (2 * pr + 1)), .int 1]) (rest := []) F h hWd.1 rfl (kw_observation l g n c hWd J (nI s1) (nI (2 * pr + 1)) 1 (v := R (84 + 6 * (4 * s1 + (2 * pr + 1)) + 2)) (ob_1 J.s4 J.s5 hs5 (by omega) ub)) (gV hjl wd_518 wd_519 wd_520 wd_16 wd_521) rfl 3 (by decide +kernel) rfl ⟨Nat.le_of_ble_eq_true rfl, Nat.le_of_ble_eq_true rfl⟩ rfl hl.1 (Nat.le_of_ble_eq_true rfl) ⟨Nat.zero_le _, Nat.zero_le _⟩ dL_stations_280) h (fun H locs h => ?_)
                refine lv_aload_n hx hb dL_stations_283 rfl (lv_at hl 3 rfl) ?_
                refine lv_iload_n hx hb dL_stations_284 rfl (lv_at hl 6 rfl) ?_
                refine lv_iload hx hb dL_stations_285 (lv_at hl 2 rfl) ?_
                refine lv_iconst (v := 1) hx hb dL_stations_287 (by decide) ?_
                refine u_iE (v := R (84 + 6 * (4 * s1 + 2 * pr) + 2)) (ru_V (As := [.int (nI s1), .int (nI (2 * pr)), .int 1]) (rest := [.int (R (84 + 6 * (4 * s1 + (2 * pr + 1)) + 2))]) F h hWd.1 rfl (kw_observation l g n c hWd J (nI s1) (nI (2 * pr)) 1 (v := R (84 + 6 * (4 * s1 + 2 * pr) + 2)) (ob_1 J.s4 J.s5 hs5 (by omega) ua)) (gV hjl wd_518 wd_519 wd_520 wd_16 wd_521) rfl 3 (by decide +kernel) rfl ⟨Nat.le_of_ble_eq_true rfl, Nat.le_of_ble_eq_true rfl⟩ rfl hl.1 (Nat.le_of_ble_eq_true rfl) ⟨Nat.zero_le _, Nat.zero_le _⟩ dL_stations_288) h (fun H locs h => ?_)
                refine lv_isub hx hb dL_stations_291 ?_
                refine lv_goto (tgt := 296) hx hb dL_stations_292 (by decide) ?_
                refine lv_istore (lv' := [(9, .int (R (84 + 6 * (4 * s1 + (2 * pr + 1)) + 2) - R (84 + 6 * (4 * s1 + 2 * pr) + 2))), (8, .int dx), (7, .int 1), (6, .int (nI (2 * pr))), (0, .ref (gz g + 0)), (1, .int (vsI R s1)), (2, .int (ctI (fun v => R (204 + v)) s1)), (3, .int (nI s1)), (4, .int (ctI (fun v => R (84 + 6 * (4 * s1 + v) + 0)) 4)), (5, .int (nI pr))]) hx hb dL_stations_296 hl (by decide) rfl (fun ls hl => ?_)
                obtain ⟨dy, e_dy⟩ : ∃ x : Int32, x = (R (84 + 6 * (4 * s1 + (2 * pr + 1)) + 2) - R (84 + 6 * (4 * s1 + 2 * pr) + 2)) := ⟨_, rfl⟩
                have hl : lv_has ls 11 [(9, .int dy), (8, .int dx), (7, .int 1), (6, .int (nI (2 * pr))), (0, .ref (gz g + 0)), (1, .int (vsI R s1)), (2, .int (ctI (fun v => R (204 + v)) s1)), (3, .int (nI s1)), (4, .int (ctI (fun v => R (84 + 6 * (4 * s1 + v) + 0)) 4)), (5, .int (nI pr))] := by rw [show (dy : Int32) = (R (84 + 6 * (4 * s1 + (2 * pr + 1)) + 2) - R (84 + 6 * (4 * s1 + 2 * pr) + 2)) from e_dy]; exact hl
                refine lv_iload hx hb dL_stations_298 (lv_at hl 1 rfl) ?_
                refine u_iE (v := (szI dx)) (ru_S (As := [.int dx]) (rest := []) F h (k_L_size l g n c dx) (gS hjl wd_423 wd_424 wd_15 wd_425) rfl 1 (by decide +kernel) rfl ⟨Nat.le_of_ble_eq_true rfl, Nat.le_of_ble_eq_true rfl⟩ rfl hl.1 (Nat.le_of_ble_eq_true rfl) ⟨Nat.zero_le _, Nat.zero_le _⟩ dL_stations_300) h (fun H locs h => ?_)
                refine lv_sipush (v := 20000) hx hb dL_stations_303 (by decide) ?_
                refine lv_icmp_gt (tgt := 324) hx hb dL_stations_306 (by decide) (fun b_306 => ?_) (fun b_306 => ?_)
                · skip
                  refine lv_iconst (v := 0) hx hb dL_stations_324 (by decide) ?_
                  refine lv_istore (lv' := [(10, .int 0), (9, .int dy), (8, .int dx), (7, .int 1), (6, .int (nI (2 * pr))), (0, .ref (gz g + 0)), (1, .int (vsI R s1)), (2, .int (ctI (fun v => R (204 + v)) s1)), (3, .int (nI s1)), (4, .int (ctI (fun v => R (84 + 6 * (4 * s1 + v) + 0)) 4)), (5, .int (nI pr))]) hx hb dL_stations_325 hl (by decide) rfl (fun ls hl => ?_)
                  refine lv_iload hx hb dL_stations_327 (lv_at hl 3 rfl) ?_
                  refine lv_if_eq (tgt := 342) hx hb dL_stations_329 (by decide) (fun b_329 => by first | exact absurd b_329 (by decide) | exact absurd (by decide) b_329) (fun b_329 => ?_)
                  refine lv_iload hx hb dL_stations_332 (lv_at hl 2 rfl) ?_
                  refine lv_if_ne (tgt := 356) hx hb dL_stations_334 (by decide) (fun b_334 => ?_) (fun b_334 => ?_)
                  · skip
                    refine lv_iload hx hb dL_stations_356 (lv_at hl 0 rfl) ?_
                    refine lv_if_eq (tgt := 401) hx hb dL_stations_358 (by decide) (fun b_358 => ?_) (fun b_358 => by first | exact absurd (by decide) b_358 | exact absurd b_358 (by decide))
                    refine lv_iinc (v := nI (pr + 1)) (lv' := [(5, .int (nI (pr + 1))), (10, .int 0), (9, .int dy), (8, .int dx), (7, .int 1), (6, .int (nI (2 * pr))), (0, .ref (gz g + 0)), (1, .int (vsI R s1)), (2, .int (ctI (fun v => R (204 + v)) s1)), (3, .int (nI s1)), (4, .int (ctI (fun v => R (84 + 6 * (4 * s1 + v) + 0)) 4))]) hx hb dL_stations_401 hl (k := 10) rfl (by exact (nI_succ pr).symm) (by decide) rfl (fun ls hl => ?_)
                    refine lv_goto (tgt := 186) hx hb dL_stations_404 (by decide) ?_
                    exact ih_lop (pr + 1) (by omega) _ _ _ (by omega) h (lv_sub hl [6, 7, 8, 9, 10, 0] rfl)
                  refine lv_iload hx hb dL_stations_337 (lv_at hl 1 rfl) ?_
                  refine lv_if_ne (tgt := 356) hx hb dL_stations_339 (by decide) (fun b_339 => ?_) (fun b_339 => ?_)
                  · skip
                    refine lv_iload hx hb dL_stations_356 (lv_at hl 0 rfl) ?_
                    refine lv_if_eq (tgt := 401) hx hb dL_stations_358 (by decide) (fun b_358 => ?_) (fun b_358 => by first | exact absurd (by decide) b_358 | exact absurd b_358 (by decide))
                    refine lv_iinc (v := nI (pr + 1)) (lv' := [(5, .int (nI (pr + 1))), (10, .int 0), (9, .int dy), (8, .int dx), (7, .int 1), (6, .int (nI (2 * pr))), (0, .ref (gz g + 0)), (1, .int (vsI R s1)), (2, .int (ctI (fun v => R (204 + v)) s1)), (3, .int (nI s1)), (4, .int (ctI (fun v => R (84 + 6 * (4 * s1 + v) + 0)) 4))]) hx hb dL_stations_401 hl (k := 10) rfl (by exact (nI_succ pr).symm) (by decide) rfl (fun ls hl => ?_)
                    refine lv_goto (tgt := 186) hx hb dL_stations_404 (by decide) ?_
                    exact ih_lop (pr + 1) (by omega) _ _ _ (by omega) h (lv_sub hl [6, 7, 8, 9, 10, 0] rfl)
                  refine lv_aload_n hx hb dL_stations_342 rfl (lv_at hl 5 rfl) ?_
                  refine lv_iload_n hx hb dL_stations_343 rfl (lv_at hl 8 rfl) ?_
                  refine lv_iload hx hb dL_stations_344 (lv_at hl 10 rfl) ?_
                  refine u_iE (v := (-100005)) (ru_V (As := [.int (nI s1), .int (nI pr)]) (rest := []) F h hWd.1 rfl (kw_given l g n c hWd J (nI s1) (nI pr) (v := (-100005)) (gv_n J.s4 J.s5 hs5 hp2 (by rw [ra_4 ka1 kb1 ua ub (Or.inr ⟨e_dx.symm.trans b_334, e_dy.symm.trans b_339⟩)]; decide))) (gV hjl wd_557 wd_558 wd_559 wd_16 wd_560) rfl 2 (by decide +kernel) rfl ⟨Nat.le_of_ble_eq_true rfl, Nat.le_of_ble_eq_true rfl⟩ rfl hl.1 (Nat.le_of_ble_eq_true rfl) ⟨Nat.zero_le _, Nat.zero_le _⟩ dL_stations_346) h (fun H locs h => ?_)
                  refine lv_ldc (v := (-100005)) hx hb F.2.2.2.1 (F.2.2.2.2.1 (Cond.constant RL 35 (-100005)) (List.mem_cons_of_mem _ wd_446)) dL_stations_349 ?_
                  refine lv_icmp_eq (tgt := 401) hx hb dL_stations_351 (by decide) (fun b_351 => ?_) (fun b_351 => by first | exact absurd (by decide) b_351 | exact absurd b_351 (by decide))
                  refine lv_iinc (v := nI (pr + 1)) (lv' := [(5, .int (nI (pr + 1))), (10, .int 0), (9, .int dy), (8, .int dx), (7, .int 1), (6, .int (nI (2 * pr))), (0, .ref (gz g + 0)), (1, .int (vsI R s1)), (2, .int (ctI (fun v => R (204 + v)) s1)), (3, .int (nI s1)), (4, .int (ctI (fun v => R (84 + 6 * (4 * s1 + v) + 0)) 4))]) hx hb dL_stations_401 hl (k := 10) rfl (by exact (nI_succ pr).symm) (by decide) rfl (fun ls hl => ?_)
                  refine lv_goto (tgt := 186) hx hb dL_stations_404 (by decide) ?_
                  exact ih_lop (pr + 1) (by omega) _ _ _ (by omega) h (lv_sub hl [6, 7, 8, 9, 10, 0] rfl)
                refine lv_iload hx hb dL_stations_309 (lv_at hl 0 rfl) ?_
                refine u_iE (v := (szI dy)) (ru_S (As := [.int dy]) (rest := []) F h (k_L_size l g n c dy) (gS hjl wd_423 wd_424 wd_15 wd_425) rfl 1 (by decide +kernel) rfl ⟨Nat.le_of_ble_eq_true rfl, Nat.le_of_ble_eq_true rfl⟩ rfl hl.1 (Nat.le_of_ble_eq_true rfl) ⟨Nat.zero_le _, Nat.zero_le _⟩ dL_stations_311) h (fun H locs h => ?_)
                refine lv_sipush (v := 20000) hx hb dL_stations_314 (by decide) ?_
                refine lv_icmp_gt (tgt := 324) hx hb dL_stations_317 (by decide) (fun b_317 => ?_) (fun b_317 => ?_)
                · skip
                  refine lv_iconst (v := 0) hx hb dL_stations_324 (by decide) ?_
                  refine lv_istore (lv' := [(10, .int 0), (9, .int dy), (8, .int dx), (7, .int 1), (6, .int (nI (2 * pr))), (0, .ref (gz g + 0)), (1, .int (vsI R s1)), (2, .int (ctI (fun v => R (204 + v)) s1)), (3, .int (nI s1)), (4, .int (ctI (fun v => R (84 + 6 * (4 * s1 + v) + 0)) 4)), (5, .int (nI pr))]) hx hb dL_stations_325 hl (by decide) rfl (fun ls hl => ?_)
                  refine lv_iload hx hb dL_stations_327 (lv_at hl 3 rfl) ?_
                  refine lv_if_eq (tgt := 342) hx hb dL_stations_329 (by decide) (fun b_329 => by first | exact absurd b_329 (by decide) | exact absurd (by decide) b_329) (fun b_329 => ?_)
                  refine lv_iload hx hb dL_stations_332 (lv_at hl 2 rfl) ?_
                  refine lv_if_ne (tgt := 356) hx hb dL_stations_334 (by decide) (fun b_334 => ?_) (fun b_334 => ?_)
                  · skip
                    refine lv_iload hx hb dL_stations_356 (lv_at hl 0 rfl) ?_
                    refine lv_if_eq (tgt := 401) hx hb dL_stations_358 (by decide) (fun b_358 => ?_) (fun b_358 => by first | exact absurd (by decide) b_358 | exact absurd b_358 (by decide))
                    refine lv_iinc (v := nI (pr + 1)) (lv' := [(5, .int (nI (pr + 1))), (10, .int 0), (9, .int dy), (8, .int dx), (7, .int 1), (6, .int (nI (2 * pr))), (0, .ref (gz g + 0)), (1, .int (vsI R s1)), (2, .int (ctI (fun v => R (204 + v)) s1)), (3, .int (nI s1)), (4, .int (ctI (fun v => R (84 + 6 * (4 * s1 + v) + 0)) 4))]) hx hb dL_stations_401 hl (k := 10) rfl (by exact (nI_succ pr).symm) (by decide) rfl (fun ls hl => ?_)
                    refine lv_goto (tgt := 186) hx hb dL_stations_404 (by decide) ?_
                    exact ih_lop (pr + 1) (by omega) _ _ _ (by omega) h (lv_sub hl [6, 7, 8, 9, 10, 0] rfl)
                  refine lv_iload hx hb dL_stations_337 (lv_at hl 1 rfl) ?_
                  refine lv_if_ne (tgt := 356) hx hb dL_stations_339 (by decide) (fun b_339 => ?_) (fun b_339 => ?_)
                  · skip
                    refine lv_iload hx hb dL_stations_356 (lv_at hl 0 rfl) ?_
                    refine lv_if_eq (tgt := 401) hx hb dL_stations_358 (by decide) (fun b_358 => ?_) (fun b_358 => by first | exact absurd (by decide) b_358 | exact absurd b_358 (by decide))
                    refine lv_iinc (v := nI (pr + 1)) (lv' := [(5, .int (nI (pr + 1))), (10, .int 0), (9, .int dy), (8, .int dx), (7, .int 1), (6, .int (nI (2 * pr))), (0, .ref (gz g + 0)), (1, .int (vsI R s1)), (2, .int (ctI (fun v => R (204 + v)) s1)), (3, .int (nI s1)), (4, .int (ctI (fun v => R (84 + 6 * (4 * s1 + v) + 0)) 4))]) hx hb dL_stations_401 hl (k := 10) rfl (by exact (nI_succ pr).symm) (by decide) rfl (fun ls hl => ?_)
                    refine lv_goto (tgt := 186) hx hb dL_stations_404 (by decide) ?_
                    exact ih_lop (pr + 1) (by omega) _ _ _ (by omega) h (lv_sub hl [6, 7, 8, 9, 10, 0] rfl)
                  refine lv_aload_n hx hb dL_stations_342 rfl (lv_at hl 5 rfl) ?_
                  refine lv_iload_n hx hb dL_stations_343 rfl (lv_at hl 8 rfl) ?_
                  refine lv_iload hx hb dL_stations_344 (lv_at hl 10 rfl) ?_
                  refine u_iE (v := (-100005)) (ru_V (As := [.int (nI s1), .int (nI pr)]) (rest := []) F h hWd.1 rfl (kw_given l g n c hWd J (nI s1) (nI pr) (v := (-100005)) (gv_n J.s4 J.s5 hs5 hp2 (by rw [ra_4 ka1 kb1 ua ub (Or.inr ⟨e_dx.symm.trans b_334, e_dy.symm.trans b_339⟩)]; decide))) (gV hjl wd_557 wd_558 wd_559 wd_16 wd_560) rfl 2 (by decide +kernel) rfl ⟨Nat.le_of_ble_eq_true rfl, Nat.le_of_ble_eq_true rfl⟩ rfl hl.1 (Nat.le_of_ble_eq_true rfl) ⟨Nat.zero_le _, Nat.zero_le _⟩ dL_stations_346) h (fun H locs h => ?_)
                  refine lv_ldc (v := (-100005)) hx hb F.2.2.2.1 (F.2.2.2.2.1 (Cond.constant RL 35 (-100005)) (List.mem_cons_of_mem _ wd_446)) dL_stations_349 ?_
                  refine lv_icmp_eq (tgt := 401) hx hb dL_stations_351 (by decide) (fun b_351 => ?_) (fun b_351 => by first | exact absurd (by decide) b_351 | exact absurd b_351 (by decide))
                  refine lv_iinc (v := nI (pr + 1)) (lv' := [(5, .int (nI (pr + 1))), (10, .int 0), (9, .int dy), (8, .int dx), (7, .int 1), (6, .int (nI (2 * pr))), (0, .ref (gz g + 0)), (1, .int (vsI R s1)), (2, .int (ctI (fun v => R (204 + v)) s1)), (3, .int (nI s1)), (4, .int (ctI (fun v => R (84 + 6 * (4 * s1 + v) + 0)) 4))]) hx hb dL_stations_401 hl (k := 10) rfl (by exact (nI_succ pr).symm) (by decide) rfl (fun ls hl => ?_)
                  refine lv_goto (tgt := 186) hx hb dL_stations_404 (by decide) ?_
                  exact ih_lop (pr + 1) (by omega) _ _ _ (by omega) h (lv_sub hl [6, 7, 8, 9, 10, 0] rfl)
                refine lv_iconst (v := 1) hx hb dL_stations_320 (by decide) ?_
                refine lv_goto (tgt := 325) hx hb dL_stations_321 (by decide) ?_
                refine lv_istore (lv' := [(10, .int 1), (9, .int dy), (8, .int dx), (7, .int 1), (6, .int (nI (2 * pr))), (0, .ref (gz g + 0)), (1, .int (vsI R s1)), (2, .int (ctI (fun v => R (204 + v)) s1)), (3, .int (nI s1)), (4, .int (ctI (fun v => R (84 + 6 * (4 * s1 + v) + 0)) 4)), (5, .int (nI pr))]) hx hb dL_stations_325 hl (by decide) rfl (fun ls hl => ?_)
                refine lv_iload hx hb dL_stations_327 (lv_at hl 3 rfl) ?_
                refine lv_if_eq (tgt := 342) hx hb dL_stations_329 (by decide) (fun b_329 => by first | exact absurd b_329 (by decide) | exact absurd (by decide) b_329) (fun b_329 => ?_)
                refine lv_iload hx hb dL_stations_332 (lv_at hl 2 rfl) ?_
                refine lv_if_ne (tgt := 356) hx hb dL_stations_334 (by decide) (fun b_334 => ?_) (fun b_334 => ?_)
                · skip
                  refine lv_iload hx hb dL_stations_356 (lv_at hl 0 rfl) ?_
                  refine lv_if_eq (tgt := 401) hx hb dL_stations_358 (by decide) (fun b_358 => by first | exact absurd b_358 (by decide) | exact absurd (by decide) b_358) (fun b_358 => ?_)
                  refine lv_aload_n hx hb dL_stations_361 rfl (lv_at hl 5 rfl) ?_
                  refine lv_iload_n hx hb dL_stations_362 rfl (lv_at hl 8 rfl) ?_
                  refine lv_iload hx hb dL_stations_363 (lv_at hl 10 rfl) ?_
                  refine u_iE (v := sq_X7_orientationFrom R s1 pr) (ru_V (As := [.int (nI s1), .int (nI pr)]) (rest := []) F h hWd.1 rfl (kw_given l g n c hWd J (nI s1) (nI pr) (v := sq_X7_orientationFrom R s1 pr) (gv_v J.s4 J.s5 hs5 hp2 (ra_0 ka1 kb1 ua ub up (fun q => (show ¬ (dx = 0 ∧ dy = 0) from fun q => b_334 q.1) ⟨e_dx.trans q.1, e_dy.trans q.2⟩)))) (gV hjl wd_557 wd_558 wd_559 wd_16 wd_560) rfl 2 (by decide +kernel) rfl ⟨Nat.le_of_ble_eq_true rfl, Nat.le_of_ble_eq_true rfl⟩ rfl hl.1 (Nat.le_of_ble_eq_true rfl) ⟨Nat.zero_le _, Nat.zero_le _⟩ dL_stations_365) h (fun H locs h => ?_)
                  refine lv_aload_n hx hb dL_stations_368 rfl (lv_at hl 5 rfl) ?_
                  refine lv_iload hx hb dL_stations_369 (lv_at hl 10 rfl) ?_
                  refine u_iE (v := sq_X7_surfaceBearing R pr) (ru_V (As := [.int (nI pr)]) (rest := [.int (sq_X7_orientationFrom R s1 pr)]) F h hWd.1 rfl (kw_surface l g n c hWd J (nI pr) (v := sq_X7_surfaceBearing R pr) (su_v hp2 ka1 kb1 up)) (gV hjl wd_530 wd_531 wd_532 wd_16 wd_533) rfl 1 (by decide +kernel) rfl ⟨Nat.le_of_ble_eq_true rfl, Nat.le_of_ble_eq_true rfl⟩ rfl hl.1 (Nat.le_of_ble_eq_true rfl) ⟨Nat.zero_le _, Nat.zero_le _⟩ dL_stations_371) h (fun H locs h => ?_)
                  refine lv_aload_n hx hb dL_stations_374 rfl (lv_at hl 5 rfl) ?_
                  refine lv_iload hx hb dL_stations_375 (lv_at hl 2 rfl) ?_
                  refine lv_iload hx hb dL_stations_377 (lv_at hl 1 rfl) ?_
                  refine u_iE (v := sq_X7_bearing R dx dy) (ru_V (As := [.int dx, .int dy]) (rest := [.int (sq_X7_surfaceBearing R pr), .int (sq_X7_orientationFrom R s1 pr)]) F h hWd.1 rfl (kw_bearing l g n c hWd J dx dy (v := sq_X7_bearing R dx dy) (rfl)) (gV hjl wd_429 wd_430 wd_431 wd_16 wd_432) rfl 2 (by decide +kernel) rfl ⟨Nat.le_of_ble_eq_true rfl, Nat.le_of_ble_eq_true rfl⟩ rfl hl.1 (Nat.le_of_ble_eq_true rfl) ⟨Nat.zero_le _, Nat.zero_le _⟩ dL_stations_379) h (fun H locs h => ?_)
                  refine lv_aload_n hx hb dL_stations_382 rfl (lv_at hl 5 rfl) ?_
                  refine lv_iload_n hx hb dL_stations_383 rfl (lv_at hl 8 rfl) ?_
                  refine lv_iconst (v := 1) hx hb dL_stations_384 (by decide) ?_
                  refine u_iE (v := R (69 + 3 * s1 + 1)) (ru_V (As := [.int (nI s1), .int 1]) (rest := [.int (sq_X7_bearing R dx dy), .int (sq_X7_surfaceBearing R pr), .int (sq_X7_orientationFrom R s1 pr)]) F h hWd.1 rfl (kw_station l g n c hWd J (nI s1) 1 (v := R (69 + 3 * s1 + 1)) (st_1 J.s4 J.s5 hs5)) (gV hjl wd_584 wd_585 wd_586 wd_16 wd_587) rfl 2 (by decide +kernel) rfl ⟨Nat.le_of_ble_eq_true rfl, Nat.le_of_ble_eq_true rfl⟩ rfl hl.1 (Nat.le_of_ble_eq_true rfl) ⟨Nat.zero_le _, Nat.zero_le _⟩ dL_stations_385) h (fun H locs h => ?_)
                  refine lv_iadd hx hb dL_stations_388 ?_
                  refine u_iE (v := (rdI (sq_X7_bearing R dx dy + R (69 + 3 * s1 + 1)))) (ru_S (As := [.int (sq_X7_bearing R dx dy + R (69 + 3 * s1 + 1))]) (rest := [.int (sq_X7_surfaceBearing R pr), .int (sq_X7_orientationFrom R s1 pr)]) F h (k_L_round l g n c (sq_X7_bearing R dx dy + R (69 + 3 * s1 + 1))) (gS hjl wd_589 wd_590 wd_15 wd_591) rfl 1 (by decide +kernel) rfl ⟨Nat.le_of_ble_eq_true rfl, Nat.le_of_ble_eq_true rfl⟩ rfl hl.1 (Nat.le_of_ble_eq_true rfl) ⟨Nat.zero_le _, Nat.zero_le _⟩ dL_stations_389) h (fun H locs h => ?_)
                  refine lv_isub hx hb dL_stations_392 ?_
                  refine u_iE (v := (rdI (sq_X7_surfaceBearing R pr - (rdI (sq_X7_bearing R dx dy + R (69 + 3 * s1 + 1)))))) (ru_S (As := [.int (sq_X7_surfaceBearing R pr - (rdI (sq_X7_bearing R dx dy + R (69 + 3 * s1 + 1))))]) (rest := [.int (sq_X7_orientationFrom R s1 pr)]) F h (k_L_round l g n c (sq_X7_surfaceBearing R pr - (rdI (sq_X7_bearing R dx dy + R (69 + 3 * s1 + 1))))) (gS hjl wd_589 wd_590 wd_15 wd_591) rfl 1 (by decide +kernel) rfl ⟨Nat.le_of_ble_eq_true rfl, Nat.le_of_ble_eq_true rfl⟩ rfl hl.1 (Nat.le_of_ble_eq_true rfl) ⟨Nat.zero_le _, Nat.zero_le _⟩ dL_stations_393) h (fun H locs h => ?_)
                  refine lv_icmp_eq (tgt := 401) hx hb dL_stations_396 (by decide) (fun b_396 => ?_) (fun b_396 => by first | exact absurd (or_e J hs5 hp2 ka1 kb1 up e_dx e_dy (sz_bt (by rw [e_dx]; exact mb1) b_306) (sz_bt (by rw [e_dy]; exact mb2) b_317) (fun q => b_334 q.1)) b_396 | exact absurd b_396 (or_e J hs5 hp2 ka1 kb1 up e_dx e_dy (sz_bt (by rw [e_dx]; exact mb1) b_306) (sz_bt (by rw [e_dy]; exact mb2) b_317) (fun q => b_334 q.1)))
                  refine lv_iinc (v := nI (pr + 1)) (lv' := [(5, .int (nI (pr + 1))), (10, .int 1), (9, .int dy), (8, .int dx), (7, .int 1), (6, .int (nI (2 * pr))), (0, .ref (gz g + 0)), (1, .int (vsI R s1)), (2, .int (ctI (fun v => R (204 + v)) s1)), (3, .int (nI s1)), (4, .int (ctI (fun v => R (84 + 6 * (4 * s1 + v) + 0)) 4))]) hx hb dL_stations_401 hl (k := 10) rfl (by exact (nI_succ pr).symm) (by decide) rfl (fun ls hl => ?_)
                  refine lv_goto (tgt := 186) hx hb dL_stations_404 (by decide) ?_
                  exact ih_lop (pr + 1) (by omega) _ _ _ (by omega) h (lv_sub hl [6, 7, 8, 9, 10, 0] rfl)
                refine lv_iload hx hb dL_stations_337 (lv_at hl 1 rfl) ?_
                refine lv_if_ne (tgt := 356) hx hb dL_stations_339 (by decide) (fun b_339 => ?_) (fun b_339 => ?_)
                · skip
                  refine lv_iload hx hb dL_stations_356 (lv_at hl 0 rfl) ?_
                  refine lv_if_eq (tgt := 401) hx hb dL_stations_358 (by decide) (fun b_358 => by first | exact absurd b_358 (by decide) | exact absurd (by decide) b_358) (fun b_358 => ?_)
                  refine lv_aload_n hx hb dL_stations_361 rfl (lv_at hl 5 rfl) ?_
                  refine lv_iload_n hx hb dL_stations_362 rfl (lv_at hl 8 rfl) ?_
                  refine lv_iload hx hb dL_stations_363 (lv_at hl 10 rfl) ?_
                  refine u_iE (v := sq_X7_orientationFrom R s1 pr) (ru_V (As := [.int (nI s1), .int (nI pr)]) (rest := []) F h hWd.1 rfl (kw_given l g n c hWd J (nI s1) (nI pr) (v := sq_X7_orientationFrom R s1 pr) (gv_v J.s4 J.s5 hs5 hp2 (ra_0 ka1 kb1 ua ub up (fun q => (show ¬ (dx = 0 ∧ dy = 0) from fun q => b_339 q.2) ⟨e_dx.trans q.1, e_dy.trans q.2⟩)))) (gV hjl wd_557 wd_558 wd_559 wd_16 wd_560) rfl 2 (by decide +kernel) rfl ⟨Nat.le_of_ble_eq_true rfl, Nat.le_of_ble_eq_true rfl⟩ rfl hl.1 (Nat.le_of_ble_eq_true rfl) ⟨Nat.zero_le _, Nat.zero_le _⟩ dL_stations_365) h (fun H locs h => ?_)
                  refine lv_aload_n hx hb dL_stations_368 rfl (lv_at hl 5 rfl) ?_
                  refine lv_iload hx hb dL_stations_369 (lv_at hl 10 rfl) ?_
                  refine u_iE (v := sq_X7_surfaceBearing R pr) (ru_V (As := [.int (nI pr)]) (rest := [.int (sq_X7_orientationFrom R s1 pr)]) F h hWd.1 rfl (kw_surface l g n c hWd J (nI pr) (v := sq_X7_surfaceBearing R pr) (su_v hp2 ka1 kb1 up)) (gV hjl wd_530 wd_531 wd_532 wd_16 wd_533) rfl 1 (by decide +kernel) rfl ⟨Nat.le_of_ble_eq_true rfl, Nat.le_of_ble_eq_true rfl⟩ rfl hl.1 (Nat.le_of_ble_eq_true rfl) ⟨Nat.zero_le _, Nat.zero_le _⟩ dL_stations_371) h (fun H locs h => ?_)
                  refine lv_aload_n hx hb dL_stations_374 rfl (lv_at hl 5 rfl) ?_
                  refine lv_iload hx hb dL_stations_375 (lv_at hl 2 rfl) ?_
                  refine lv_iload hx hb dL_stations_377 (lv_at hl 1 rfl) ?_
                  refine u_iE (v := sq_X7_bearing R dx dy) (ru_V (As := [.int dx, .int dy]) (rest := [.int (sq_X7_surfaceBearing R pr), .int (sq_X7_orientationFrom R s1 pr)]) F h hWd.1 rfl (kw_bearing l g n c hWd J dx dy (v := sq_X7_bearing R dx dy) (rfl)) (gV hjl wd_429 wd_430 wd_431 wd_16 wd_432) rfl 2 (by decide +kernel) rfl ⟨Nat.le_of_ble_eq_true rfl, Nat.le_of_ble_eq_true rfl⟩ rfl hl.1 (Nat.le_of_ble_eq_true rfl) ⟨Nat.zero_le _, Nat.zero_le _⟩ dL_stations_379) h (fun H locs h => ?_)
                  refine lv_aload_n hx hb dL_stations_382 rfl (lv_at hl 5 rfl) ?_
                  refine lv_iload_n hx hb dL_stations_383 rfl (lv_at hl 8 rfl) ?_
                  refine lv_iconst (v := 1) hx hb dL_stations_384 (by decide) ?_
                  refine u_iE (v := R (69 + 3 * s1 + 1)) (ru_V (As := [.int (nI s1), .int 1]) (rest := [.int (sq_X7_bearing R dx dy), .int (sq_X7_surfaceBearing R pr), .int (sq_X7_orientationFrom R s1 pr)]) F h hWd.1 rfl (kw_station l g n c hWd J (nI s1) 1 (v := R (69 + 3 * s1 + 1)) (st_1 J.s4 J.s5 hs5)) (gV hjl wd_584 wd_585 wd_586 wd_16 wd_587) rfl 2 (by decide +kernel) rfl ⟨Nat.le_of_ble_eq_true rfl, Nat.le_of_ble_eq_true rfl⟩ rfl hl.1 (Nat.le_of_ble_eq_true rfl) ⟨Nat.zero_le _, Nat.zero_le _⟩ dL_stations_385) h (fun H locs h => ?_)
                  refine lv_iadd hx hb dL_stations_388 ?_
                  refine u_iE (v := (rdI (sq_X7_bearing R dx dy + R (69 + 3 * s1 + 1)))) (ru_S (As := [.int (sq_X7_bearing R dx dy + R (69 + 3 * s1 + 1))]) (rest := [.int (sq_X7_surfaceBearing R pr), .int (sq_X7_orientationFrom R s1 pr)]) F h (k_L_round l g n c (sq_X7_bearing R dx dy + R (69 + 3 * s1 + 1))) (gS hjl wd_589 wd_590 wd_15 wd_591) rfl 1 (by decide +kernel) rfl ⟨Nat.le_of_ble_eq_true rfl, Nat.le_of_ble_eq_true rfl⟩ rfl hl.1 (Nat.le_of_ble_eq_true rfl) ⟨Nat.zero_le _, Nat.zero_le _⟩ dL_stations_389) h (fun H locs h => ?_)
                  refine lv_isub hx hb dL_stations_392 ?_
                  refine u_iE (v := (rdI (sq_X7_surfaceBearing R pr - (rdI (sq_X7_bearing R dx dy + R (69 + 3 * s1 + 1)))))) (ru_S (As := [.int (sq_X7_surfaceBearing R pr - (rdI (sq_X7_bearing R dx dy + R (69 + 3 * s1 + 1))))]) (rest := [.int (sq_X7_orientationFrom R s1 pr)]) F h (k_L_round l g n c (sq_X7_surfaceBearing R pr - (rdI (sq_X7_bearing R dx dy + R (69 + 3 * s1 + 1))))) (gS hjl wd_589 wd_590 wd_15 wd_591) rfl 1 (by decide +kernel) rfl ⟨Nat.le_of_ble_eq_true rfl, Nat.le_of_ble_eq_true rfl⟩ rfl hl.1 (Nat.le_of_ble_eq_true rfl) ⟨Nat.zero_le _, Nat.zero_le _⟩ dL_stations_393) h (fun H locs h => ?_)
                  refine lv_icmp_eq (tgt := 401) hx hb dL_stations_396 (by decide) (fun b_396 => ?_) (fun b_396 => by first | exact absurd (or_e J hs5 hp2 ka1 kb1 up e_dx e_dy (sz_bt (by rw [e_dx]; exact mb1) b_306) (sz_bt (by rw [e_dy]; exact mb2) b_317) (fun q => b_339 q.2)) b_396 | exact absurd b_396 (or_e J hs5 hp2 ka1 kb1 up e_dx e_dy (sz_bt (by rw [e_dx]; exact mb1) b_306) (sz_bt (by rw [e_dy]; exact mb2) b_317) (fun q => b_339 q.2)))
                  refine lv_iinc (v := nI (pr + 1)) (lv' := [(5, .int (nI (pr + 1))), (10, .int 1), (9, .int dy), (8, .int dx), (7, .int 1), (6, .int (nI (2 * pr))), (0, .ref (gz g + 0)), (1, .int (vsI R s1)), (2, .int (ctI (fun v => R (204 + v)) s1)), (3, .int (nI s1)), (4, .int (ctI (fun v => R (84 + 6 * (4 * s1 + v) + 0)) 4))]) hx hb dL_stations_401 hl (k := 10) rfl (by exact (nI_succ pr).symm) (by decide) rfl (fun ls hl => ?_)
                  refine lv_goto (tgt := 186) hx hb dL_stations_404 (by decide) ?_
                  exact ih_lop (pr + 1) (by omega) _ _ _ (by omega) h (lv_sub hl [6, 7, 8, 9, 10, 0] rfl)
                refine lv_aload_n hx hb dL_stations_342 rfl (lv_at hl 5 rfl) ?_
                refine lv_iload_n hx hb dL_stations_343 rfl (lv_at hl 8 rfl) ?_
                refine lv_iload hx hb dL_stations_344 (lv_at hl 10 rfl) ?_
                refine u_iE (v := (-100005)) (ru_V (As := [.int (nI s1), .int (nI pr)]) (rest := []) F h hWd.1 rfl (kw_given l g n c hWd J (nI s1) (nI pr) (v := (-100005)) (gv_n J.s4 J.s5 hs5 hp2 (by rw [ra_4 ka1 kb1 ua ub (Or.inr ⟨e_dx.symm.trans b_334, e_dy.symm.trans b_339⟩)]; decide))) (gV hjl wd_557 wd_558 wd_559 wd_16 wd_560) rfl 2 (by decide +kernel) rfl ⟨Nat.le_of_ble_eq_true rfl, Nat.le_of_ble_eq_true rfl⟩ rfl hl.1 (Nat.le_of_ble_eq_true rfl) ⟨Nat.zero_le _, Nat.zero_le _⟩ dL_stations_346) h (fun H locs h => ?_)
                refine lv_ldc (v := (-100005)) hx hb F.2.2.2.1 (F.2.2.2.2.1 (Cond.constant RL 35 (-100005)) (List.mem_cons_of_mem _ wd_446)) dL_stations_349 ?_
                refine lv_icmp_eq (tgt := 401) hx hb dL_stations_351 (by decide) (fun b_351 => ?_) (fun b_351 => by first | exact absurd (by decide) b_351 | exact absurd b_351 (by decide))
                refine lv_iinc (v := nI (pr + 1)) (lv' := [(5, .int (nI (pr + 1))), (10, .int 1), (9, .int dy), (8, .int dx), (7, .int 1), (6, .int (nI (2 * pr))), (0, .ref (gz g + 0)), (1, .int (vsI R s1)), (2, .int (ctI (fun v => R (204 + v)) s1)), (3, .int (nI s1)), (4, .int (ctI (fun v => R (84 + 6 * (4 * s1 + v) + 0)) 4))]) hx hb dL_stations_401 hl (k := 10) rfl (by exact (nI_succ pr).symm) (by decide) rfl (fun ls hl => ?_)
                refine lv_goto (tgt := 186) hx hb dL_stations_404 (by decide) ?_
                exact ih_lop (pr + 1) (by omega) _ _ _ (by omega) h (lv_sub hl [6, 7, 8, 9, 10, 0] rfl)
            exact lop _ 0 (Nat.zero_le _) _ _ _ (Nat.le_refl _) h (lv_sub hl [1, 2, 3, 4, 5, 0] rfl)
          have hw4 : w < 4 := lp_lt (N := 4) rfl (by omega) (by decide) b_24
          by_cases hv0 : R (84 + 6 * (4 * s1 + w) + 0) = 0
          · skip
            have hw4 : w < 4 := lp_lt (N := 4) rfl (by omega) (by decide) b_24
            refine lv_aload_n hx hb dL_stations_27 rfl (lv_at hl 0 rfl) ?_
            refine lv_iload_n hx hb dL_stations_28 rfl (lv_at hl 3 rfl) ?_
            refine lv_iload hx hb dL_stations_29 (lv_at hl 5 rfl) ?_
            refine lv_iconst (v := 3) hx hb dL_stations_31 (by decide) ?_
            refine u_iE (v := (-100005)) (ru_V (As := [.int (nI s1), .int (nI w), .int 3]) (rest := []) F h hWd.1 rfl (kw_observation l g n c hWd J (nI s1) (nI w) 3 (v := (-100005)) (ob_n J.s4 J.s5 hs5 hw4 hv0 (by decide))) (gV hjl wd_518 wd_519 wd_520 wd_16 wd_521) rfl 3 (by decide +kernel) rfl ⟨Nat.le_of_ble_eq_true rfl, Nat.le_of_ble_eq_true rfl⟩ rfl hl.1 (Nat.le_of_ble_eq_true rfl) ⟨Nat.zero_le _, Nat.zero_le _⟩ dL_stations_32) h (fun H locs h => ?_)
            refine lv_if_lt (tgt := 42) hx hb dL_stations_35 (by decide) (fun b_35 => ?_) (fun b_35 => by first | exact absurd (by decide) b_35 | exact absurd b_35 (by decide))
            refine lv_iconst (v := 0) hx hb dL_stations_42 (by decide) ?_
            refine lv_istore (lv' := [(6, .int 0), (0, .ref (gz g + 0)), (1, .int (vsI R s1)), (2, .int (ctI (fun v => R (204 + v)) s1)), (3, .int (nI s1)), (4, .int (ctI (fun v => R (84 + 6 * (4 * s1 + v) + 0)) w)), (5, .int (nI w))]) hx hb dL_stations_43 hl (by decide) rfl (fun ls hl => ?_)
            refine lv_iload hx hb dL_stations_45 (lv_at hl 5 rfl) ?_
            refine lv_iload hx hb dL_stations_47 (lv_at hl 0 rfl) ?_
            refine lv_if_eq (tgt := 56) hx hb dL_stations_49 (by decide) (fun b_49 => ?_) (fun b_49 => by first | exact absurd (by decide) b_49 | exact absurd b_49 (by decide))
            refine lv_iconst (v := 0) hx hb dL_stations_56 (by decide) ?_
            refine lv_iadd hx hb dL_stations_57 ?_
            refine lv_istore (lv' := [(4, .int (ctI (fun v => R (84 + 6 * (4 * s1 + v) + 0)) w + 0)), (6, .int 0), (0, .ref (gz g + 0)), (1, .int (vsI R s1)), (2, .int (ctI (fun v => R (204 + v)) s1)), (3, .int (nI s1)), (5, .int (nI w))]) hx hb dL_stations_58 hl (by decide) rfl (fun ls hl => ?_)
            have hl : lv_has ls 11 [(4, .int (ctI (fun v => R (84 + 6 * (4 * s1 + v) + 0)) (w + 1))), (6, .int 0), (0, .ref (gz g + 0)), (1, .int (vsI R s1)), (2, .int (ctI (fun v => R (204 + v)) s1)), (3, .int (nI s1)), (5, .int (nI w))] := by rw [show (ctI (fun v => R (84 + 6 * (4 * s1 + v) + 0)) (w + 1) : Int32) = (ctI (fun v => R (84 + 6 * (4 * s1 + v) + 0)) w + 0) from (ctI_pos (f := fun v => R (84 + 6 * (4 * s1 + v) + 0)) (k := w) hv0).trans (Int32.add_zero _).symm]; exact hl
            refine lv_iload hx hb dL_stations_60 (lv_at hl 1 rfl) ?_
            refine lv_if_eq (tgt := 131) hx hb dL_stations_62 (by decide) (fun b_62 => ?_) (fun b_62 => by first | exact absurd (by decide) b_62 | exact absurd b_62 (by decide))
            refine lv_iload hx hb dL_stations_131 (lv_at hl 1 rfl) ?_
            refine lv_if_ne (tgt := 162) hx hb dL_stations_133 (by decide) (fun b_133 => by first | exact absurd b_133 (by decide) | exact absurd (by decide) b_133) (fun b_133 => ?_)
            refine lv_aload_n hx hb dL_stations_136 rfl (lv_at hl 2 rfl) ?_
            refine lv_iload_n hx hb dL_stations_137 rfl (lv_at hl 5 rfl) ?_
            refine lv_iload hx hb dL_stations_138 (lv_at hl 6 rfl) ?_
            refine lv_iconst (v := 0) hx hb dL_stations_140 (by decide) ?_
            refine u_iE (v := (-100005)) (ru_V (As := [.int (nI s1), .int (nI w), .int 0]) (rest := []) F h hWd.1 rfl (kw_observation l g n c hWd J (nI s1) (nI w) 0 (v := (-100005)) (ob_n J.s4 J.s5 hs5 hw4 hv0 (by decide))) (gV hjl wd_518 wd_519 wd_520 wd_16 wd_521) rfl 3 (by decide +kernel) rfl ⟨Nat.le_of_ble_eq_true rfl, Nat.le_of_ble_eq_true rfl⟩ rfl hl.1 (Nat.le_of_ble_eq_true rfl) ⟨Nat.zero_le _, Nat.zero_le _⟩ dL_stations_141) h (fun H locs h => ?_)
            refine lv_ldc (v := (-100005)) hx hb F.2.2.2.1 (F.2.2.2.2.1 (Cond.constant RL 35 (-100005)) (List.mem_cons_of_mem _ wd_446)) dL_stations_144 ?_
            refine lv_icmp_ne (tgt := 175) hx hb dL_stations_146 (by decide) (fun b_146 => by first | exact absurd b_146 (by decide) | exact absurd (by decide) b_146) (fun b_146 => ?_)
            refine lv_aload_n hx hb dL_stations_149 rfl (lv_at hl 2 rfl) ?_
            refine lv_iload_n hx hb dL_stations_150 rfl (lv_at hl 5 rfl) ?_
            refine lv_iload hx hb dL_stations_151 (lv_at hl 6 rfl) ?_
            refine lv_iconst (v := 4) hx hb dL_stations_153 (by decide) ?_
            refine u_iE (v := (-100005)) (ru_V (As := [.int (nI s1), .int (nI w), .int 4]) (rest := []) F h hWd.1 rfl (kw_observation l g n c hWd J (nI s1) (nI w) 4 (v := (-100005)) (ob_n J.s4 J.s5 hs5 hw4 hv0 (by decide))) (gV hjl wd_518 wd_519 wd_520 wd_16 wd_521) rfl 3 (by decide +kernel) rfl ⟨Nat.le_of_ble_eq_true rfl, Nat.le_of_ble_eq_true rfl⟩ rfl hl.1 (Nat.le_of_ble_eq_true rfl) ⟨Nat.zero_le _, Nat.zero_le _⟩ dL_stations_154) h (fun H locs h => ?_)
            refine lv_ldc (v := (-100005)) hx hb F.2.2.2.1 (F.2.2.2.2.1 (Cond.constant RL 35 (-100005)) (List.mem_cons_of_mem _ wd_446)) dL_stations_157 ?_
            refine lv_icmp_ne (tgt := 175) hx hb dL_stations_159 (by decide) (fun b_159 => by first | exact absurd b_159 (by decide) | exact absurd (by decide) b_159) (fun b_159 => ?_)
            refine lv_aload_n hx hb dL_stations_162 rfl (lv_at hl 2 rfl) ?_
            refine lv_iload_n hx hb dL_stations_163 rfl (lv_at hl 5 rfl) ?_
            refine lv_iload hx hb dL_stations_164 (lv_at hl 6 rfl) ?_
            refine lv_iconst (v := 5) hx hb dL_stations_166 (by decide) ?_
            refine u_iE (v := (-100002)) (ru_V (As := [.int (nI s1), .int (nI w), .int 5]) (rest := []) F h hWd.1 rfl (kw_observation l g n c hWd J (nI s1) (nI w) 5 (v := (-100002)) (ob_b J.s4 J.s5 hs5 hw4 (by decide))) (gV hjl wd_518 wd_519 wd_520 wd_16 wd_521) rfl 3 (by decide +kernel) rfl ⟨Nat.le_of_ble_eq_true rfl, Nat.le_of_ble_eq_true rfl⟩ rfl hl.1 (Nat.le_of_ble_eq_true rfl) ⟨Nat.zero_le _, Nat.zero_le _⟩ dL_stations_167) h (fun H locs h => ?_)
            refine lv_ldc (v := (-100002)) hx hb F.2.2.2.1 (F.2.2.2.2.1 (Cond.constant RL 15 (-100002)) (List.mem_cons_of_mem _ wd_442)) dL_stations_170 ?_
            refine lv_icmp_eq (tgt := 177) hx hb dL_stations_172 (by decide) (fun b_172 => ?_) (fun b_172 => by first | exact absurd (by decide) b_172 | exact absurd b_172 (by decide))
            refine lv_iinc (v := nI (w + 1)) (lv' := [(5, .int (nI (w + 1))), (4, .int (ctI (fun v => R (84 + 6 * (4 * s1 + v) + 0)) (w + 1))), (6, .int 0), (0, .ref (gz g + 0)), (1, .int (vsI R s1)), (2, .int (ctI (fun v => R (204 + v)) s1)), (3, .int (nI s1))]) hx hb dL_stations_177 hl (k := 6) rfl (by exact (nI_succ w).symm) (by decide) rfl (fun ls hl => ?_)
            refine lv_goto (tgt := 21) hx hb dL_stations_180 (by decide) ?_
            exact ih_low (w + 1) (by omega) _ _ _ (by omega) h (lv_sub hl [3, 4, 5, 6, 1, 0] rfl)
          have hv := J.v hs5 hw4 (b01_of (J.ob (by omega) hw4) hv0)
          have gw := J.wg hw4 hv.1
          refine lv_aload_n hx hb dL_stations_27 rfl (lv_at hl 0 rfl) ?_
          refine lv_iload_n hx hb dL_stations_28 rfl (lv_at hl 3 rfl) ?_
          refine lv_iload hx hb dL_stations_29 (lv_at hl 5 rfl) ?_
          refine lv_iconst (v := 3) hx hb dL_stations_31 (by decide) ?_
          refine u_iE (v := R (84 + 6 * (4 * s1 + w) + 4)) (ru_V (As := [.int (nI s1), .int (nI w), .int 3]) (rest := []) F h hWd.1 rfl (kw_observation l g n c hWd J (nI s1) (nI w) 3 (v := R (84 + 6 * (4 * s1 + w) + 4)) (ob_3 J.s4 J.s5 hs5 hw4 hv0)) (gV hjl wd_518 wd_519 wd_520 wd_16 wd_521) rfl 3 (by decide +kernel) rfl ⟨Nat.le_of_ble_eq_true rfl, Nat.le_of_ble_eq_true rfl⟩ rfl hl.1 (Nat.le_of_ble_eq_true rfl) ⟨Nat.zero_le _, Nat.zero_le _⟩ dL_stations_32) h (fun H locs h => ?_)
          refine lv_if_lt (tgt := 42) hx hb dL_stations_35 (by decide) (fun b_35 => by first | exact absurd b_35 (i_nlt (bt_ge hv.2.2.1 0 (by decide))) | exact absurd (i_nlt (bt_ge hv.2.2.1 0 (by decide))) b_35) (fun b_35 => ?_)
          refine lv_iconst (v := 1) hx hb dL_stations_38 (by decide) ?_
          refine lv_goto (tgt := 43) hx hb dL_stations_39 (by decide) ?_
          refine lv_istore (lv' := [(6, .int 1), (0, .ref (gz g + 0)), (1, .int (vsI R s1)), (2, .int (ctI (fun v => R (204 + v)) s1)), (3, .int (nI s1)), (4, .int (ctI (fun v => R (84 + 6 * (4 * s1 + v) + 0)) w)), (5, .int (nI w))]) hx hb dL_stations_43 hl (by decide) rfl (fun ls hl => ?_)
          refine lv_iload hx hb dL_stations_45 (lv_at hl 5 rfl) ?_
          refine lv_iload hx hb dL_stations_47 (lv_at hl 0 rfl) ?_
          refine lv_if_eq (tgt := 56) hx hb dL_stations_49 (by decide) (fun b_49 => by first | exact absurd b_49 (by decide) | exact absurd (by decide) b_49) (fun b_49 => ?_)
          refine lv_iconst (v := 1) hx hb dL_stations_52 (by decide) ?_
          refine lv_goto (tgt := 57) hx hb dL_stations_53 (by decide) ?_
          refine lv_iadd hx hb dL_stations_57 ?_
          refine lv_istore (lv' := [(4, .int (ctI (fun v => R (84 + 6 * (4 * s1 + v) + 0)) w + 1)), (6, .int 1), (0, .ref (gz g + 0)), (1, .int (vsI R s1)), (2, .int (ctI (fun v => R (204 + v)) s1)), (3, .int (nI s1)), (5, .int (nI w))]) hx hb dL_stations_58 hl (by decide) rfl (fun ls hl => ?_)
          have hl : lv_has ls 11 [(4, .int (ctI (fun v => R (84 + 6 * (4 * s1 + v) + 0)) (w + 1))), (6, .int 1), (0, .ref (gz g + 0)), (1, .int (vsI R s1)), (2, .int (ctI (fun v => R (204 + v)) s1)), (3, .int (nI s1)), (5, .int (nI w))] := by rw [show (ctI (fun v => R (84 + 6 * (4 * s1 + v) + 0)) (w + 1) : Int32) = (ctI (fun v => R (84 + 6 * (4 * s1 + v) + 0)) w + 1) from ctI_neg (f := fun v => R (84 + 6 * (4 * s1 + v) + 0)) (k := w) hv0]; exact hl
          refine lv_iload hx hb dL_stations_60 (lv_at hl 1 rfl) ?_
          refine lv_if_eq (tgt := 131) hx hb dL_stations_62 (by decide) (fun b_62 => by first | exact absurd b_62 (by decide) | exact absurd (by decide) b_62) (fun b_62 => ?_)
          refine lv_aload_n hx hb dL_stations_65 rfl (lv_at hl 2 rfl) ?_
          refine lv_iload hx hb dL_stations_66 (lv_at hl 6 rfl) ?_
          refine lv_iconst (v := 0) hx hb dL_stations_68 (by decide) ?_
          refine u_iE (v := R (5 + 11 * w + 1)) (ru_V (As := [.int (nI w), .int 0]) (rest := []) F h hWd.1 rfl (kw_wire l g n c hWd J (nI w) 0 (v := R (5 + 11 * w + 1)) (wi_0 hw4 hv.1)) (gV hjl wd_390 wd_391 wd_392 wd_16 wd_393) rfl 2 (by decide +kernel) rfl ⟨Nat.le_of_ble_eq_true rfl, Nat.le_of_ble_eq_true rfl⟩ rfl hl.1 (Nat.le_of_ble_eq_true rfl) ⟨Nat.zero_le _, Nat.zero_le _⟩ dL_stations_69) h (fun H locs h => ?_)
          refine lv_ldc (v := (-100005)) hx hb F.2.2.2.1 (F.2.2.2.2.1 (Cond.constant RL 35 (-100005)) (List.mem_cons_of_mem _ wd_446)) dL_stations_72 ?_
          refine lv_icmp_eq (tgt := 129) hx hb dL_stations_74 (by decide) (fun b_74 => by first | exact absurd b_74 (bt_nn gw.1 (-100005) (by decide)) | exact absurd (bt_nn gw.1 (-100005) (by decide)) b_74) (fun b_74 => ?_)
          refine lv_aload_n hx hb dL_stations_77 rfl (lv_at hl 2 rfl) ?_
          refine lv_iload_n hx hb dL_stations_78 rfl (lv_at hl 5 rfl) ?_
          refine lv_iload hx hb dL_stations_79 (lv_at hl 6 rfl) ?_
          refine lv_iconst (v := 2) hx hb dL_stations_81 (by decide) ?_
          refine u_iE (v := R (84 + 6 * (4 * s1 + w) + 3)) (ru_V (As := [.int (nI s1), .int (nI w), .int 2]) (rest := []) F h hWd.1 rfl (kw_observation l g n c hWd J (nI s1) (nI w) 2 (v := R (84 + 6 * (4 * s1 + w) + 3)) (ob_2 J.s4 J.s5 hs5 hw4 hv0)) (gV hjl wd_518 wd_519 wd_520 wd_16 wd_521) rfl 3 (by decide +kernel) rfl ⟨Nat.le_of_ble_eq_true rfl, Nat.le_of_ble_eq_true rfl⟩ rfl hl.1 (Nat.le_of_ble_eq_true rfl) ⟨Nat.zero_le _, Nat.zero_le _⟩ dL_stations_82) h (fun H locs h => ?_)
          refine lv_if_lt (tgt := 129) hx hb dL_stations_85 (by decide) (fun b_85 => by first | exact absurd b_85 (i_nlt ((i_le _ _).mpr hv.2.1)) | exact absurd (i_nlt ((i_le _ _).mpr hv.2.1)) b_85) (fun b_85 => ?_)
          refine lv_aload_n hx hb dL_stations_88 rfl (lv_at hl 2 rfl) ?_
          refine lv_iload_n hx hb dL_stations_89 rfl (lv_at hl 5 rfl) ?_
          refine lv_iload hx hb dL_stations_90 (lv_at hl 6 rfl) ?_
          refine lv_iconst (v := 4) hx hb dL_stations_92 (by decide) ?_
          refine u_iE (v := R (84 + 6 * (4 * s1 + w) + 5)) (ru_V (As := [.int (nI s1), .int (nI w), .int 4]) (rest := []) F h hWd.1 rfl (kw_observation l g n c hWd J (nI s1) (nI w) 4 (v := R (84 + 6 * (4 * s1 + w) + 5)) (ob_4 J.s4 J.s5 hs5 hw4 hv0)) (gV hjl wd_518 wd_519 wd_520 wd_16 wd_521) rfl 3 (by decide +kernel) rfl ⟨Nat.le_of_ble_eq_true rfl, Nat.le_of_ble_eq_true rfl⟩ rfl hl.1 (Nat.le_of_ble_eq_true rfl) ⟨Nat.zero_le _, Nat.zero_le _⟩ dL_stations_93) h (fun H locs h => ?_)
          refine lv_aload_n hx hb dL_stations_96 rfl (lv_at hl 2 rfl) ?_
          refine lv_iconst (v := 0) hx hb dL_stations_97 (by decide) ?_
          refine u_iE (v := R 0) (ru_V (As := [.int 0]) (rest := [.int (R (84 + 6 * (4 * s1 + w) + 5))]) F h hWd.1 rfl (kw_count l g n c hWd J 0 (v := R 0) (rfl)) (gV hjl wd_399 wd_400 wd_401 wd_16 wd_402) rfl 1 (by decide +kernel) rfl ⟨Nat.le_of_ble_eq_true rfl, Nat.le_of_ble_eq_true rfl⟩ rfl hl.1 (Nat.le_of_ble_eq_true rfl) ⟨Nat.zero_le _, Nat.zero_le _⟩ dL_stations_98) h (fun H locs h => ?_)
          refine lv_icmp_gt (tgt := 129) hx hb dL_stations_101 (by decide) (fun b_101 => by first | exact absurd b_101 (i_nlt ((i_le _ _).mpr hv.2.2.2)) | exact absurd (i_nlt ((i_le _ _).mpr hv.2.2.2)) b_101) (fun b_101 => ?_)
          refine lv_aload_n hx hb dL_stations_104 rfl (lv_at hl 2 rfl) ?_
          refine lv_iload_n hx hb dL_stations_105 rfl (lv_at hl 5 rfl) ?_
          refine lv_iload hx hb dL_stations_106 (lv_at hl 6 rfl) ?_
          refine lv_iconst (v := 3) hx hb dL_stations_108 (by decide) ?_
          refine u_iE (v := R (84 + 6 * (4 * s1 + w) + 4)) (ru_V (As := [.int (nI s1), .int (nI w), .int 3]) (rest := []) F h hWd.1 rfl (kw_observation l g n c hWd J (nI s1) (nI w) 3 (v := R (84 + 6 * (4 * s1 + w) + 4)) (ob_3 J.s4 J.s5 hs5 hw4 hv0)) (gV hjl wd_518 wd_519 wd_520 wd_16 wd_521) rfl 3 (by decide +kernel) rfl ⟨Nat.le_of_ble_eq_true rfl, Nat.le_of_ble_eq_true rfl⟩ rfl hl.1 (Nat.le_of_ble_eq_true rfl) ⟨Nat.zero_le _, Nat.zero_le _⟩ dL_stations_109) h (fun H locs h => ?_)
          refine lv_iconst (v := 1) hx hb dL_stations_112 (by decide) ?_
          refine lv_icmp_lt (tgt := 129) hx hb dL_stations_113 (by decide) (fun b_113 => by first | exact absurd b_113 (i_nlt (bt_ge hv.2.2.1 1 (by decide))) | exact absurd (i_nlt (bt_ge hv.2.2.1 1 (by decide))) b_113) (fun b_113 => ?_)
          refine lv_aload_n hx hb dL_stations_116 rfl (lv_at hl 2 rfl) ?_
          refine lv_iload_n hx hb dL_stations_117 rfl (lv_at hl 5 rfl) ?_
          refine lv_iload hx hb dL_stations_118 (lv_at hl 6 rfl) ?_
          refine lv_iconst (v := 3) hx hb dL_stations_120 (by decide) ?_
          refine u_iE (v := R (84 + 6 * (4 * s1 + w) + 4)) (ru_V (As := [.int (nI s1), .int (nI w), .int 3]) (rest := []) F h hWd.1 rfl (kw_observation l g n c hWd J (nI s1) (nI w) 3 (v := R (84 + 6 * (4 * s1 + w) + 4)) (ob_3 J.s4 J.s5 hs5 hw4 hv0)) (gV hjl wd_518 wd_519 wd_520 wd_16 wd_521) rfl 3 (by decide +kernel) rfl ⟨Nat.le_of_ble_eq_true rfl, Nat.le_of_ble_eq_true rfl⟩ rfl hl.1 (Nat.le_of_ble_eq_true rfl) ⟨Nat.zero_le _, Nat.zero_le _⟩ dL_stations_121) h (fun H locs h => ?_)
          refine lv_bipush (v := 60) hx hb dL_stations_124 (by decide) ?_
          refine lv_icmp_le (tgt := 131) hx hb dL_stations_126 (by decide) (fun b_126 => ?_) (fun b_126 => by first | exact absurd (bt_le hv.2.2.1 60 (by decide)) b_126 | exact absurd b_126 (bt_le hv.2.2.1 60 (by decide)))
          refine lv_iload hx hb dL_stations_131 (lv_at hl 1 rfl) ?_
          refine lv_if_ne (tgt := 162) hx hb dL_stations_133 (by decide) (fun b_133 => ?_) (fun b_133 => by first | exact absurd (by decide) b_133 | exact absurd b_133 (by decide))
          refine lv_aload_n hx hb dL_stations_162 rfl (lv_at hl 2 rfl) ?_
          refine lv_iload_n hx hb dL_stations_163 rfl (lv_at hl 5 rfl) ?_
          refine lv_iload hx hb dL_stations_164 (lv_at hl 6 rfl) ?_
          refine lv_iconst (v := 5) hx hb dL_stations_166 (by decide) ?_
          refine u_iE (v := (-100002)) (ru_V (As := [.int (nI s1), .int (nI w), .int 5]) (rest := []) F h hWd.1 rfl (kw_observation l g n c hWd J (nI s1) (nI w) 5 (v := (-100002)) (ob_b J.s4 J.s5 hs5 hw4 (by decide))) (gV hjl wd_518 wd_519 wd_520 wd_16 wd_521) rfl 3 (by decide +kernel) rfl ⟨Nat.le_of_ble_eq_true rfl, Nat.le_of_ble_eq_true rfl⟩ rfl hl.1 (Nat.le_of_ble_eq_true rfl) ⟨Nat.zero_le _, Nat.zero_le _⟩ dL_stations_167) h (fun H locs h => ?_)
          refine lv_ldc (v := (-100002)) hx hb F.2.2.2.1 (F.2.2.2.2.1 (Cond.constant RL 15 (-100002)) (List.mem_cons_of_mem _ wd_442)) dL_stations_170 ?_
          refine lv_icmp_eq (tgt := 177) hx hb dL_stations_172 (by decide) (fun b_172 => ?_) (fun b_172 => by first | exact absurd (by decide) b_172 | exact absurd b_172 (by decide))
          refine lv_iinc (v := nI (w + 1)) (lv' := [(5, .int (nI (w + 1))), (4, .int (ctI (fun v => R (84 + 6 * (4 * s1 + v) + 0)) (w + 1))), (6, .int 1), (0, .ref (gz g + 0)), (1, .int (vsI R s1)), (2, .int (ctI (fun v => R (204 + v)) s1)), (3, .int (nI s1))]) hx hb dL_stations_177 hl (k := 6) rfl (by exact (nI_succ w).symm) (by decide) rfl (fun ls hl => ?_)
          refine lv_goto (tgt := 21) hx hb dL_stations_180 (by decide) ?_
          exact ih_low (w + 1) (by omega) _ _ _ (by omega) h (lv_sub hl [3, 4, 5, 6, 1, 0] rfl)
      exact low _ 0 (Nat.zero_le _) _ _ _ (Nat.le_refl _) h (lv_sub hl [2, 3, 4, 5, 1, 0] rfl)
  exact lst _ 0 (Nat.zero_le _) _ _ _ (Nat.le_refl _) h (lv_sub hl [3, 2, 1, 0] rfl)
