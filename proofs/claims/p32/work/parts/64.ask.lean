/-! What the questions answer, by what holds of the row. -/
theorem in3 {w : Nat} (hw : w < 4) : ¬ inI (nI w) 0 3 = 0 := by
  rw [show (3 : Int32) = nI 3 from rfl, inI_nyes (by omega) (by decide)]; decide
theorem in1 {w : Nat} (hw : w < 2) : ¬ inI (nI w) 0 1 = 0 := by
  rw [show (1 : Int32) = nI 1 from rfl, inI_nyes (by omega) (by decide)]; decide
theorem inB {x : Int32} {lo hi : Int32} (h1 : lo.toInt ≤ x.toInt) (h2 : x.toInt ≤ hi.toInt) : ¬ inI x lo hi = 0 := by
  rw [inI_yes h1 h2]; decide
theorem in8 {z : Int32} (hz : Bt z 0 800) : ¬ inI z 0 800 = 0 := inB (lo := 0) (hi := 800) hz.1 hz.2
theorem in5 {z : Int32} (hz : Bt z 0 500) : ¬ inI z 0 500 = 0 := inB (lo := 0) (hi := 500) hz.1 hz.2
theorem inS {s sc : Nat} {v : Int32} (hv : v = nI sc) (hs : s < sc) (h5 : sc ≤ 5) : ¬ inI (nI s) 0 (v - 1) = 0 := by
  obtain ⟨k, rfl⟩ : ∃ k, sc = k + 1 := ⟨sc - 1, by omega⟩
  rw [hv, nI_pred, inI_nyes (by omega) (by omega)]; decide
theorem outS {sc : Nat} {v : Int32} (hv : v = nI sc) (h5 : sc ≤ 5) : inI (nI sc) 0 (v - 1) = 0 := by
  rw [hv]
  unfold inI
  rw [if_neg (nI_pos (by omega)), if_pos ?_]
  rw [i_lt, nI_toInt (by omega)]
  have h1 : (1 : Int32).toInt = 1 := rfl
  rw [fb_subI (by rw [nI_toInt (by omega), h1]; omega) (by rw [nI_toInt (by omega), h1]; omega), nI_toInt (by omega), h1]
  omega
section AW
variable {R : Nat → Int32} {w : Nat}
theorem wi_v (hw : w < 4) (h1 : R (5 + 11 * w + 0) = 1) {y : Int32} (hy : ¬ inI y 0 10 = 0) : sq_X7_wire R (nI w) y = prW (fun q => R (5 + 11 * w + q)) y := by
  unfold sq_X7_wire
  rw [wN_nI (by omega), if_neg (in3 hw), if_neg hy, if_neg (by rw [h1]; decide)]
theorem wi_0 (hw : w < 4) (h1 : R (5 + 11 * w + 0) = 1) : sq_X7_wire R (nI w) 0 = R (5 + 11 * w + 1) := (wi_v hw h1 (by decide)).trans rfl
theorem wi_1 (hw : w < 4) (h1 : R (5 + 11 * w + 0) = 1) : sq_X7_wire R (nI w) 1 = R (5 + 11 * w + 2) := (wi_v hw h1 (by decide)).trans rfl
theorem wi_2 (hw : w < 4) (h1 : R (5 + 11 * w + 0) = 1) : sq_X7_wire R (nI w) 2 = R (5 + 11 * w + 3) := (wi_v hw h1 (by decide)).trans rfl
theorem wi_3 (hw : w < 4) (h1 : R (5 + 11 * w + 0) = 1) : sq_X7_wire R (nI w) 3 = R (5 + 11 * w + 4) := (wi_v hw h1 (by decide)).trans rfl
theorem wi_4 (hw : w < 4) (h1 : R (5 + 11 * w + 0) = 1) : sq_X7_wire R (nI w) 4 = R (5 + 11 * w + 5) := (wi_v hw h1 (by decide)).trans rfl
theorem wi_5 (hw : w < 4) (h1 : R (5 + 11 * w + 0) = 1) : sq_X7_wire R (nI w) 5 = R (5 + 11 * w + 6) := (wi_v hw h1 (by decide)).trans rfl
theorem wi_6 (hw : w < 4) (h1 : R (5 + 11 * w + 0) = 1) : sq_X7_wire R (nI w) 6 = R (5 + 11 * w + 7) := (wi_v hw h1 (by decide)).trans rfl
theorem wi_7 (hw : w < 4) (h1 : R (5 + 11 * w + 0) = 1) : sq_X7_wire R (nI w) 7 = R (5 + 11 * w + 8) := (wi_v hw h1 (by decide)).trans rfl
theorem wi_8 (hw : w < 4) (h1 : R (5 + 11 * w + 0) = 1) : sq_X7_wire R (nI w) 8 = R (5 + 11 * w + 9) := (wi_v hw h1 (by decide)).trans rfl
theorem wi_9 (hw : w < 4) (h1 : R (5 + 11 * w + 0) = 1) : sq_X7_wire R (nI w) 9 = R (5 + 11 * w + 10) := (wi_v hw h1 (by decide)).trans rfl
theorem wi_10 (hw : w < 4) (h1 : R (5 + 11 * w + 0) = 1) : sq_X7_wire R (nI w) 10 = 4 * qdI (R (5 + 11 * w + 4)) := (wi_v hw h1 (by decide)).trans rfl
theorem wi_n (hw : w < 4) (h0 : R (5 + 11 * w + 0) = 0) {y : Int32} (hy : ¬ inI y 0 10 = 0) : sq_X7_wire R (nI w) y = -100005 := by
  unfold sq_X7_wire
  rw [wN_nI (by omega), if_neg (in3 hw), if_neg hy, if_pos h0]
theorem wi_b (hw : w < 4) {y : Int32} (hy : inI y 0 10 = 0) : sq_X7_wire R (nI w) y = -100002 := by
  unfold sq_X7_wire
  rw [if_neg (in3 hw), if_pos hy]
theorem wi_u {y : Int32} : sq_X7_wire R 4 y = -100001 := by
  unfold sq_X7_wire
  rw [if_pos (by decide)]
theorem er_v (hw : w < 4) (h1 : R (5 + 11 * w + 0) = 1) {z : Int32} (hz : Bt z 0 800) {a : Nat} (ha : a < 2) (hd : z.toInt ≤ (R (5 + 11 * w + 4)).toInt) : sq_X7_errorOfReading R (nI w) z (nI a) = 0 := by
  unfold sq_X7_errorOfReading
  rw [wN_nI (by omega), if_neg (in3 hw), if_neg (in8 hz), if_neg (in1 ha), if_neg (by rw [h1]; decide), if_pos ((i_le _ _).mpr hd)]
theorem er_n (hw : w < 4) (h0 : R (5 + 11 * w + 0) = 0) {z : Int32} (hz : Bt z 0 800) {a : Nat} (ha : a < 2) : sq_X7_errorOfReading R (nI w) z (nI a) = -100005 := by
  unfold sq_X7_errorOfReading
  rw [wN_nI (by omega), if_neg (in3 hw), if_neg (in8 hz), if_neg (in1 ha), if_pos h0]
theorem er_d (hw : w < 4) {z : Int32} (hz : Bt z 0 800) {a : Nat} (ha : a < 2) (hd : (R (5 + 11 * w + 4)).toInt < z.toInt) : sq_X7_errorOfReading R (nI w) z (nI a) = -100005 := by
  unfold sq_X7_errorOfReading
  rw [wN_nI (by omega), if_neg (in3 hw), if_neg (in8 hz), if_neg (in1 ha)]
  split
  · rfl
  · rw [if_neg (fun z => by rw [i_le] at z; omega)]
theorem er_8 (hw : w < 4) {a : Int32} : sq_X7_errorOfReading R (nI w) 801 a = -100002 := by
  unfold sq_X7_errorOfReading
  rw [if_neg (in3 hw), if_pos (by decide)]
theorem er_a (hw : w < 4) : sq_X7_errorOfReading R (nI w) 0 2 = -100002 := by
  unfold sq_X7_errorOfReading
  rw [if_neg (in3 hw), if_neg (by decide), if_pos (by decide)]
theorem re_v {cn : Nat} (hw : w < 4) (h1 : R (5 + 11 * w + 0) = 1) {z : Int32} (hz : Bt z 0 800) {a : Nat} (ha : a < 2) (hd : z.toInt ≤ (R (5 + 11 * w + 4)).toInt) : sq_X7_rest R (nI w) z (nI a) cn = reS R w z (nI a) cn := by
  unfold sq_X7_rest
  rw [er_v hw h1 hz ha hd, if_pos rfl, wN_nI (by omega)]
theorem po_v {cn : Nat} (hw : w < 4) (h1 : R (5 + 11 * w + 0) = 1) {z : Int32} (hz : Bt z 0 800) {a : Nat} (ha : a < 2) (hd : z.toInt ≤ (R (5 + 11 * w + 4)).toInt) : sq_X7_position R (nI w) z (nI a) cn = reS R w z (nI a) cn + syF (fun q => R (5 + 11 * w + q)) z (nI a) := by
  unfold sq_X7_position
  rw [er_v hw h1 hz ha hd, if_pos rfl, wN_nI (by omega)]
theorem re_e5 {cn : Nat} {x z a : Int32} {v : Int32} (h : sq_X7_errorOfReading R x z a = v) (hv : ¬ v = 0) : sq_X7_rest R x z a cn = v := by
  unfold sq_X7_rest
  rw [h, if_neg hv]
theorem po_e5 {cn : Nat} {x z a : Int32} {v : Int32} (h : sq_X7_errorOfReading R x z a = v) (hv : ¬ v = 0) : sq_X7_position R x z a cn = v := by
  unfold sq_X7_position
  rw [h, if_neg hv]
theorem bt_z : Bt 0 0 800 := by unfold Bt; decide
theorem re_n {cn : Nat} (hw : w < 4) (h0 : R (5 + 11 * w + 0) = 0) : sq_X7_rest R (nI w) 0 0 cn = -100005 := re_e5 (er_n hw h0 bt_z (show 0 < 2 by decide)) (by decide)
theorem po_n {cn : Nat} (hw : w < 4) (h0 : R (5 + 11 * w + 0) = 0) : sq_X7_position R (nI w) 0 1 cn = -100005 := po_e5 (er_n hw h0 bt_z (show 1 < 2 by decide)) (by decide)
theorem ca_n (hw : w < 4) (h0 : R (5 + 11 * w + 0) = 0) : sq_X7_calmIn R (nI w) 0 = -100005 := by
  unfold sq_X7_calmIn
  rw [wN_nI (by omega), if_neg (in3 hw), if_neg (by decide), if_pos h0]
theorem ca_v (hw : w < 4) (h1 : R (5 + 11 * w + 0) = 1) {y : Int32} (hy : Bt y 0 500) : sq_X7_calmIn R (nI w) y = sq_X6_ticksUntilCalm (fun q => R (5 + 11 * w + q)) y := by
  unfold sq_X7_calmIn
  rw [wN_nI (by omega), if_neg (in3 hw), if_neg (in5 hy), if_neg (by rw [h1]; decide)]
/-- nothing bends a wire at the top -/
theorem be_0 (f : Nat → Int32) (ma ax : Int32) : beF f ma 0 ax = 0 := by
  unfold beF
  split
  · rfl
  · rw [show (0 : Int32).toInt64 = 0 from rfl, Int64.mul_zero]
    unfold fdL
    rw [show (0 : Int64).toInt = 0 from rfl, Int.zero_ediv]
    rfl
theorem re_0 (ax : Int32) : ∀ k : Nat, reS R w 0 ax k = reS R w 0 ax 0
  | 0 => rfl
  | k + 1 => by
    have e : reS R w 0 ax (k + 1) = reS R w 0 ax k + beF (fun q => R (49 + 4 * k + q)) (R (5 + 11 * w + 3)) 0 ax := rfl
    rw [e, be_0, Int32.add_zero, re_0 ax k]
theorem sy_0 (f : Nat → Int32) (ax : Int32) : syF f 0 ax = 0 := by
  unfold syF
  split
  · rfl
  · rw [Int32.mul_zero]
    unfold rz
    split
    · exact Int32.mul_zero
    · rw [Int32.zero_div, Int32.mul_zero]
/-- the place and the clamp error, along an axis -/
theorem wa_v {cn : Nat} (hw : w < 4) (h1 : R (5 + 11 * w + 0) = 1) {a : Nat} (ha : a < 2) : reS R w 0 (nI a) cn = sq_X7_wire R (nI w) (nI a) + sq_X7_wire R (nI w) (4 + nI a) := by
  rw [re_0]
  rcases (show a = 0 ∨ a = 1 by omega) with rfl | rfl
  · rw [show (4 : Int32) + nI 0 = 4 by decide, show nI 0 = 0 from rfl, wi_0 hw h1, wi_4 hw h1]; rfl
  · rw [show (4 : Int32) + nI 1 = 5 by decide, show nI 1 = 1 from rfl, wi_1 hw h1, wi_5 hw h1]; rfl
end AW
section AO
variable {R : Nat → Int32} {s sc : Nat}
theorem st_0 (h4 : R 4 = nI sc) (h5 : sc ≤ 5) (hs : s < sc) : sq_X7_station R (nI s) 0 sc = R (69 + 3 * s) := by
  unfold sq_X7_station
  rw [wN_nI (by omega), if_neg (inS h4 hs h5), if_pos rfl]
theorem st_1 (h4 : R 4 = nI sc) (h5 : sc ≤ 5) (hs : s < sc) : sq_X7_station R (nI s) 1 sc = R (69 + 3 * s + 1) := by
  unfold sq_X7_station
  rw [wN_nI (by omega), if_neg (inS h4 hs h5), if_neg (by decide), if_pos rfl]
theorem st_2n (h4 : R 4 = nI sc) (h5 : sc ≤ 5) (hs : s < sc) (h : R (204 + s) = 0) : sq_X7_station R (nI s) 2 sc = -100005 := by
  unfold sq_X7_station
  rw [wN_nI (by omega), if_neg (inS h4 hs h5), if_neg (by decide), if_neg (by decide), if_pos rfl, if_pos h]
theorem st_2 (h4 : R 4 = nI sc) (h5 : sc ≤ 5) (hs : s < sc) (h : ¬ R (204 + s) = 0) : sq_X7_station R (nI s) 2 sc = R (69 + 3 * s + 2) := by
  unfold sq_X7_station
  rw [wN_nI (by omega), if_neg (inS h4 hs h5), if_neg (by decide), if_neg (by decide), if_pos rfl, if_neg h]
theorem st_3 (h4 : R 4 = nI sc) (h5 : sc ≤ 5) (hs : s < sc) : sq_X7_station R (nI s) 3 sc = ctI (fun v => R (84 + 6 * (4 * s + v) + 0)) 4 := by
  unfold sq_X7_station
  rw [wN_nI (by omega), if_neg (inS h4 hs h5), if_neg (by decide), if_neg (by decide), if_neg (by decide), if_pos rfl]
theorem st_4 (h4 : R 4 = nI sc) (h5 : sc ≤ 5) (hs : s < sc) : sq_X7_station R (nI s) 4 sc = -100002 := by
  unfold sq_X7_station
  rw [if_neg (inS h4 hs h5), if_neg (by decide), if_neg (by decide), if_neg (by decide), if_neg (by decide)]
theorem st_u (h4 : R 4 = nI sc) (h5 : sc ≤ 5) {y : Int32} : sq_X7_station R (nI sc) y sc = -100001 := by
  unfold sq_X7_station
  rw [if_pos (outS h4 h5)]
variable {w : Nat}
theorem ob_v (h4 : R 4 = nI sc) (h5 : sc ≤ 5) (hs : s < sc) (hw : w < 4) (hv : ¬ R (84 + 6 * (4 * s + w) + 0) = 0) {z : Int32} (hz : ¬ inI z 0 4 = 0) : sq_X7_observation R (nI s) (nI w) z sc = prO (fun q => R (84 + 6 * (4 * s + w) + q)) z := by
  unfold sq_X7_observation
  rw [wN_nI (by omega), wN_nI (by omega), if_neg (inS h4 hs h5), if_neg (in3 hw), if_neg hz, if_neg hv]
theorem ob_0 (h4 : R 4 = nI sc) (h5 : sc ≤ 5) (hs : s < sc) (hw : w < 4) (hv : ¬ R (84 + 6 * (4 * s + w) + 0) = 0) : sq_X7_observation R (nI s) (nI w) 0 sc = R (84 + 6 * (4 * s + w) + 1) := (ob_v h4 h5 hs hw hv (by decide)).trans rfl
theorem ob_1 (h4 : R 4 = nI sc) (h5 : sc ≤ 5) (hs : s < sc) (hw : w < 4) (hv : ¬ R (84 + 6 * (4 * s + w) + 0) = 0) : sq_X7_observation R (nI s) (nI w) 1 sc = R (84 + 6 * (4 * s + w) + 2) := (ob_v h4 h5 hs hw hv (by decide)).trans rfl
theorem ob_2 (h4 : R 4 = nI sc) (h5 : sc ≤ 5) (hs : s < sc) (hw : w < 4) (hv : ¬ R (84 + 6 * (4 * s + w) + 0) = 0) : sq_X7_observation R (nI s) (nI w) 2 sc = R (84 + 6 * (4 * s + w) + 3) := (ob_v h4 h5 hs hw hv (by decide)).trans rfl
theorem ob_3 (h4 : R 4 = nI sc) (h5 : sc ≤ 5) (hs : s < sc) (hw : w < 4) (hv : ¬ R (84 + 6 * (4 * s + w) + 0) = 0) : sq_X7_observation R (nI s) (nI w) 3 sc = R (84 + 6 * (4 * s + w) + 4) := (ob_v h4 h5 hs hw hv (by decide)).trans rfl
theorem ob_4 (h4 : R 4 = nI sc) (h5 : sc ≤ 5) (hs : s < sc) (hw : w < 4) (hv : ¬ R (84 + 6 * (4 * s + w) + 0) = 0) : sq_X7_observation R (nI s) (nI w) 4 sc = R (84 + 6 * (4 * s + w) + 5) := (ob_v h4 h5 hs hw hv (by decide)).trans rfl
theorem ob_n (h4 : R 4 = nI sc) (h5 : sc ≤ 5) (hs : s < sc) (hw : w < 4) (hv : R (84 + 6 * (4 * s + w) + 0) = 0) {z : Int32} (hz : ¬ inI z 0 4 = 0) : sq_X7_observation R (nI s) (nI w) z sc = -100005 := by
  unfold sq_X7_observation
  rw [wN_nI (by omega), wN_nI (by omega), if_neg (inS h4 hs h5), if_neg (in3 hw), if_neg hz, if_pos hv]
theorem ob_b (h4 : R 4 = nI sc) (h5 : sc ≤ 5) (hs : s < sc) (hw : w < 4) {z : Int32} (hz : inI z 0 4 = 0) : sq_X7_observation R (nI s) (nI w) z sc = -100002 := by
  unfold sq_X7_observation
  rw [if_neg (inS h4 hs h5), if_neg (in3 hw), if_pos hz]
theorem ob_u (h4 : R 4 = nI sc) (h5 : sc ≤ 5) {y z : Int32} : sq_X7_observation R (nI sc) y z sc = -100001 := by
  unfold sq_X7_observation
  rw [if_pos (outS h4 h5)]
end AO
