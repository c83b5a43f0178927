/-! The reference: undo, snapshots, calm, counts, typing. -/
def HAw (r : Nat → Int32) : Prop := ∀ w : Nat, w < 4 → r (5 + 11 * w + 0) = 1 → 0 ≤ (r (5 + 11 * w + 9)).toInt ∧ (r (5 + 11 * w + 9)).toInt ≤ 500
/-- ticks till an amplitude is calm: period, phase, calming -/
def caS (lim P ph bk : Int32) : Nat → Int32 → Int32 → Int32
  | 0, _, t => t
  | k + 1, a, t => if lim < a then caS lim P ph bk k (a * bk / 100) (if t = 0 then t + (P - ph) else t + P) else t
theorem cm_dn {a x : Int32} (h0 : 0 < a.toInt) (h1 : a.toInt ≤ 500) : 0 ≤ (a * cmI x / 100).toInt ∧ (a * cmI x / 100).toInt < a.toInt := by
  have hc : (cmI x).toInt = 95 ∨ (cmI x).toInt = 70 ∨ (cmI x).toInt = 50 := by
    unfold cmI
    repeat' split
    all_goals simp
  have hm : (a * cmI x).toInt = a.toInt * (cmI x).toInt := by
    rw [Int32.toInt_mul, fb_bmod (by rcases hc with q | q | q <;> rw [q] <;> omega) (by rcases hc with q | q | q <;> rw [q] <;> omega)]
  have hd : (a * cmI x / 100).toInt = (a * cmI x).toInt / 100 := by
    rw [i_div (by decide)]
    exact Int.tdiv_eq_ediv_of_nonneg (by rw [hm]; rcases hc with q | q | q <;> rw [q] <;> omega)
  rw [hd, hm]
  rcases hc with q | q | q <;> rw [q] <;> omega
def sp_X8_calmIn (r : Nat → Int32) (x y : Int32) : Int32 := if (noW x) = 0 then (if (inI y 0 500) = 0 then ((-100002)) else (if (hgI r (wN x)) = 0 then ((-100005)) else (caS y (4 * (1 + r (5 + 11 * wN x + 4) / 100)) (r (5 + 11 * wN x + 10)) (cmI (r (5 + 11 * wN x + 7))) 501 (r (5 + 11 * wN x + 9)) 0))) else ((-100001))
def orS (r : Nat → Int32) : Nat → Int32
  | 0 => 0
  | k + 1 => orS r k + (if 0 ≤ r (69 + 3 * k + 2) then 1 else 0)
def snS (r : Nat → Int32) : Nat → Int32
  | 0 => 0
  | k + 1 => snS r k + smI (fun w => r (84 + 6 * (4 * k + w) + 0)) 4
def sp_X8_count (r : Nat → Int32) (kp rs ty x : Int32) (sc : Nat) : Int32 := if x = 0 then ((r 0)) else (if x = 1 then ((smI (fun v => r (5 + 11 * v + 0)) 4)) else (if x = 2 then ((r 3)) else (if x = 3 then ((r 4)) else (if x = 4 then (orS r sc) else (if x = 5 then (snS r sc) else (if x = 6 then ((r 1)) else (if x = 7 then ((r 2)) else (if x = 8 then (rs) else (if x = 9 then (kp) else (if x = 10 then (ty) else ((-100002))))))))))))