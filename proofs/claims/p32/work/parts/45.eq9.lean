/-! Orders: the text read, the orders carried out, both ways. -/
theorem Gd.tb {tb tb' : Nat} {R r : Nat → Int32} (h : Gd tb R r) (ht : tb ≤ tb') : Gd tb' R r := by
  obtain ⟨sc, cn, a, b⟩ := h
  exact ⟨sc, cn, a.tb ht, b⟩
theorem Gd.fix {tb sc cn : Nat} {R r : Nat → Int32} (h : Gd tb R r) (h3 : r 3 = nI cn) (h4 : r 4 = nI sc) (hc : cn ≤ 5) (hs : sc ≤ 5) : Iv r sc cn tb ∧ RelR sc R r := by
  obtain ⟨sc', cn', a, b⟩ := h
  have e1 : cn' = cn := (nI_eq (by have := a.1.2.1; omega) (by omega)).mp (a.1.1.symm.trans h3)
  have e2 : sc' = sc := (nI_eq (by have := a.1.2.2.2; omega) (by omega)).mp (a.1.2.2.1.symm.trans h4)
  subst e1; subst e2
  exact ⟨a, b⟩