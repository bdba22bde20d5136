/-! WHOLE ROWS -/
def sRow (M : Mem) (b : Nat) (f : Nat → Int32) : Mem := (M.1, (fun x j => if x = b then f j else M.2.1 x j), M.2.2.1, M.2.2.2)
section ROWS
variable {M : Mem} {a b j k : Nat} {e : Lk} {f g : Nat → Int32}
theorem hasK_sRow : hasK (sRow M a f) b e = hasK M b e := rfl
theorem mI_sRow : mI (sRow M a f) b k = if b = a then f k else mI M b k := rfl
theorem mL_sRow : mL (sRow M a f) = mL M := rfl
theorem mR_sRow : mR (sRow M a f) = mR M := rfl
theorem sRow_id : sRow M a (mI M a) = M := by
  obtain ⟨m1, m2, m3, m4⟩ := M
  unfold sRow mI
  simp only [Prod.mk.injEq, true_and, and_true]
  funext x y
  by_cases h : x = a
  · rw [if_pos h, h]
  · rw [if_neg h]
theorem uI_sRow {v : Int32} : uI (sRow M b f) b j v = sRow M b (fun k => if k = j then v else f k) := by
  obtain ⟨m1, m2, m3, m4⟩ := M
  unfold sRow uI up2
  simp only [Prod.mk.injEq, true_and, and_true]
  funext x y
  by_cases h : x = b <;> by_cases h2 : y = j <;> simp [h, h2]
theorem uI_sRow_ne {v : Int32} (h : a ≠ b) : uI (sRow M b f) a j v = sRow (uI M a j v) b f := by
  obtain ⟨m1, m2, m3, m4⟩ := M
  unfold sRow uI up2
  simp only [Prod.mk.injEq, true_and, and_true]
  funext x y
  by_cases h1 : x = b <;> by_cases h2 : x = a <;> by_cases h3 : y = j <;> simp_all
theorem sRow_sRow : sRow (sRow M b f) b g = sRow M b g := by
  obtain ⟨m1, m2, m3, m4⟩ := M
  unfold sRow
  simp only [Prod.mk.injEq, true_and, and_true]
  funext x y
  by_cases h : x = b <;> simp [h]
theorem uI_uI {v w : Int32} : uI (uI M a j v) a j w = uI M a j w := by
  obtain ⟨m1, m2, m3, m4⟩ := M
  unfold uI up2
  simp only [Prod.mk.injEq, true_and, and_true]
  funext x y
  by_cases h : x = a ∧ y = j <;> simp [h]
theorem uI_id : uI M a j (mI M a j) = M := by
  obtain ⟨m1, m2, m3, m4⟩ := M
  unfold uI up2 mI
  simp only [Prod.mk.injEq, true_and, and_true]
  funext x y
  by_cases h : x = a ∧ y = j
  · rw [if_pos h, h.1, h.2]
  · rw [if_neg h]
theorem sRow_congr (h : ∀ k, f k = g k) : sRow M b f = sRow M b g := by rw [funext h]
/-- one place is a row with one new place -/
theorem uI_row {v : Int32} : uI M b j v = sRow M b (fun k => if k = j then v else mI M b k) := by
  rw [← uI_sRow, sRow_id]
end ROWS
theorem hasK_ne {M : Mem} {a b : Nat} {e e' : Lk} (h : hasK M a e) (h' : hasK M b e') (hne : e ≠ e') : a ≠ b := fun q => by
  subst q
  exact hne (Option.some.inj (h.2.symm.trans h'.2))
