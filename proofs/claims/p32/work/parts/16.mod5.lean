/-! The reference: questions, on. -/
theorem noS_w {r : Nat → Int32} {x : Int32} {sc : Nat} (hsc : r 4 = nI sc) (h5 : sc ≤ 5) (h : noS r x = 0) : wN x < sc ∧ nI (wN x) = x := by
  have h0 : ¬ inI x 0 (r 4 - 1) = 0 := fun z => by
    unfold noS at h
    rw [if_pos z] at h
    exact absurd h (by decide)
  obtain ⟨h1, h2⟩ := inI_1 h0
  have e : (r 4 - 1).toInt = (sc : Int) - 1 := by
    rw [hsc, fb_subI] <;> rw [nI_toInt (by omega)] <;> (try show _ - 1 = _ - (1 : Int)) <;> (try (show _ ≤ _ - (1 : Int))) <;> (try (show _ - (1 : Int) < _)) <;> omega
  rw [e] at h2
  have h1 : (0 : Int) ≤ x.toInt := h1
  have e2 : x = nI x.toInt.toNat := by rw [i_eq, nI_toInt (by omega)]; omega
  rw [e2, wN_nI (by omega)]
  exact ⟨by omega, rfl⟩
theorem mis_z {r : Nat → Int32} {s q : Nat} (h : ¬ 0 < sp_X8_missing r s q) : sp_X8_missing r s q = 0 := by
  unfold sp_X8_missing at h ⊢
  repeat' split at h
  all_goals first | exact absurd (by decide) h | skip
  all_goals simp_all
theorem mis_t {r : Nat → Int32} {s q : Nat} (h : sp_X8_missing r s q = 0) : ¬ (sp_X8_acrossTop r q 0 = 0 ∧ sp_X8_acrossTop r q 1 = 0) ∧ ¬ (sp_X8_acrossAt r s q 0 = 0 ∧ sp_X8_acrossAt r s q 1 = 0) := by
  unfold sp_X8_missing at h
  repeat' split at h
  all_goals first | exact absurd h (by decide) | skip
  all_goals simp_all
theorem szI_m {x y : Int32} (h : ¬ (x = 0 ∧ y = 0)) : ¬ (szI x).toInt64 + (szI y).toInt64 = 0 := by
  intro z
  have hx := szI_b x
  have hy := szI_b y
  rw [l_eq, Int64.toInt_add, Int32.toInt_toInt64, Int32.toInt_toInt64, fb_bmodL (by omega) (by omega)] at z
  have z : (szI x).toInt + (szI y).toInt = 0 := z
  have n1 : ∀ v : Int32, (szI v).toInt = 0 ∨ 0 < (szI v).toInt ∨ (szI v).toInt = -2147483648 := by
    intro v
    unfold szI
    have hv := fb_rng v
    by_cases h0 : (0 : Int32) ≤ v
    · rw [if_pos h0]
      rw [i_le] at h0
      have h0 : (0 : Int) ≤ v.toInt := h0
      omega
    · rw [if_neg h0]
      rw [i_le] at h0
      have h0 : ¬ (0 : Int) ≤ v.toInt := h0
      by_cases hm : v.toInt = -2147483648
      · refine Or.inr (Or.inr ?_)
        rw [Int32.toInt_neg, hm]; rfl
      · rw [fb_negI hm]; omega
  rcases n1 x with a | a | a <;> rcases n1 y with c | c | c <;> first | omega | skip
  exact h ⟨szI_0.mp ((i_eq _ _).mpr a), szI_0.mp ((i_eq _ _).mpr c)⟩
def sp_X8_surface (r : Nat → Int32) (x : Int32) : Int32 := if (inI x 0 1) = 0 then ((-100001)) else (if (sp_X8_hasPair r (wN x)) = 0 then ((-100005)) else (if (sp_X8_acrossTop r (wN x) 0) = 0 then (if (sp_X8_acrossTop r (wN x) 1) = 0 then ((-100005)) else ((sp_X8_bearingOf (sp_X8_acrossTop r (wN x) 0) (sp_X8_acrossTop r (wN x) 1)))) else ((sp_X8_bearingOf (sp_X8_acrossTop r (wN x) 0) (sp_X8_acrossTop r (wN x) 1)))))
def sp_X8_given (r : Nat → Int32) (x y : Int32) (sc : Nat) : Int32 := if (noS r x) = 0 then (if (inI y 0 1) = 0 then ((-100001)) else (if (sp_X8_missing r (wN x) (wN y)) ≤ 0 then ((sp_X8_givenBy r (wN x) (wN y))) else ((-100005)))) else ((-100001))
def sp_X8_bearing (r : Nat → Int32) (x y : Int32) : Int32 := if (inI x (-20000) 20000) = 0 then ((-100002)) else (if (inI y (-20000) 20000) = 0 then ((-100002)) else (if x = 0 then (if y = 0 then ((-100002)) else ((sp_X8_bearingOf x y))) else ((sp_X8_bearingOf x y))))
theorem in10 {x : Int32} (h : ¬ inI x 0 10 = 0) (h2 : ¬ x = 10) : wN x < 10 ∧ nI (wN x) = x := by
  obtain ⟨a, e⟩ := inI_w (N := 10) (by decide) h
  refine ⟨?_, e⟩
  rcases Nat.lt_or_ge (wN x) 10 with q | q
  · exact q
  · refine absurd ?_ h2
    rw [← e, show wN x = 10 by omega]; rfl
def sp_X8_wire (r : Nat → Int32) (x y : Int32) : Int32 := if (noW x) = 0 then (if (inI y 0 10) = 0 then ((-100002)) else (if (hgI r (wN x)) = 0 then ((-100005)) else (if y = 10 then ((4 * (1 + r (5 + 11 * (wN x) + 4) / 100))) else ((r (5 + 11 * (wN x) + (wN y + 1))))))) else ((-100001))
def sp_X8_barred (r : Nat → Int32) (x y z : Int32) : Int32 := if (noW x) = 0 then (if (inI y 0 800) = 0 then ((-100002)) else (if (inI z 0 1) = 0 then ((-100002)) else (if (hgI r (wN x)) = 0 then ((-100005)) else (if y ≤ (r (5 + 11 * (wN x) + 4)) then (0) else ((-100005)))))) else ((-100001))
theorem bar_0 {r : Nat → Int32} {x y z : Int32} (h : (0 : Int32) ≤ sp_X8_barred r x y z) : (wN x < 4 ∧ nI (wN x) = x) ∧ (wN z < 2 ∧ nI (wN z) = z) ∧ r (5 + 11 * wN x + 0) = 1 ∧ y ≤ r (5 + 11 * wN x + 4) ∧ ¬ inI y 0 800 = 0 := by
  unfold sp_X8_barred at h
  split at h
  · rename_i h1
    split at h
    · exact absurd h (by decide)
    · rename_i h2
      split at h
      · exact absurd h (by decide)
      · rename_i h3
        split at h
        · exact absurd h (by decide)
        · rename_i h4
          split at h
          · rename_i h5
            exact ⟨noW_w h1, inI_w (N := 1) (by decide) h3, hgI_1 h4, h5, h2⟩
          · exact absurd h (by decide)
  · exact absurd h (by decide)
def HQw (r : Nat → Int32) : Prop := ∀ w : Nat, w < 4 → r (5 + 11 * w + 0) = 1 → (¬ r (5 + 11 * w + 3) < 1) ∧ (¬ (1 + r (5 + 11 * w + 4) / 100) = 0) ∧ ¬ r (5 + 11 * w + 4) = 0
def sp_X8_rest (r : Nat → Int32) (x y z : Int32) (cn : Nat) : Int32 := if 0 ≤ (sp_X8_barred r x y z) then ((raS r (wN x) y (wN z) cn).toInt32) else ((sp_X8_barred r x y z))
def sp_X8_position (r : Nat → Int32) (x y z : Int32) (cn : Nat) : Int32 := if 0 ≤ (sp_X8_barred r x y z) then ((sp_X8_positionAt r (wN x) y (wN z) cn)) else ((sp_X8_barred r x y z))
def sp_X8_station (r : Nat → Int32) (x y : Int32) (sc : Nat) : Int32 := if (noS r x) = 0 then (if (inI y 0 2) = 0 then (if y = 3 then ((smI (fun w => r (84 + 6 * (4 * (wN x) + w) + 0)) 4)) else ((-100002))) else ((r (69 + 3 * wN x + wN y)))) else ((-100001))
def sp_X8_observation (r : Nat → Int32) (x y z : Int32) (sc : Nat) : Int32 := if (noS r x) = 0 then (if (noW y) = 0 then (if (inI z 0 4) = 0 then ((-100002)) else (if (r (84 + 6 * (4 * wN x + wN y) + 0)) = 0 then ((-100005)) else ((r (84 + 6 * (4 * wN x + wN y) + 1 + wN z))))) else ((-100001))) else ((-100001))