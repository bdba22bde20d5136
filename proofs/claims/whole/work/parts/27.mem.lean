/-! READS BEHIND WRITES; NUMBERS -/
section MEM
variable {M : Mem} {a b j k : Nat} {e : Lk}
theorem hasK_uI {v : Int32} : hasK (uI M a j v) b e = hasK M b e := rfl
theorem hasK_uL {v : Int64} : hasK (uL M a j v) b e = hasK M b e := rfl
theorem hasK_uR {v : Option Nat} : hasK (uR M a j v) b e = hasK M b e := rfl
theorem hasK_uZ : hasK (uZ M) b e = hasK M b e := rfl
theorem mI_uI {v : Int32} : mI (uI M a j v) b k = if b = a ∧ k = j then v else mI M b k := rfl
theorem mI_uL {v : Int64} : mI (uL M a j v) = mI M := rfl
theorem mI_uR {v : Option Nat} : mI (uR M a j v) = mI M := rfl
theorem mI_uZ : mI (uZ M) = mI M := rfl
theorem mL_uI {v : Int32} : mL (uI M a j v) = mL M := rfl
theorem mL_uL {v : Int64} : mL (uL M a j v) b k = if b = a ∧ k = j then v else mL M b k := rfl
theorem mL_uR {v : Option Nat} : mL (uR M a j v) = mL M := rfl
theorem mL_uZ : mL (uZ M) = mL M := rfl
theorem mR_uI {v : Int32} : mR (uI M a j v) = mR M := rfl
theorem mR_uL {v : Int64} : mR (uL M a j v) = mR M := rfl
theorem mR_uR {v : Option Nat} : mR (uR M a j v) b k = if b = a ∧ k = j then v else mR M b k := rfl
theorem mR_uZ : mR (uZ M) = mR M := rfl
end MEM
/-- a truth as an int -/
def b2i (p : Prop) [Decidable p] : Int32 := if p then 1 else 0
theorem b2i_t {p : Prop} [Decidable p] (h : p) : b2i p = 1 := if_pos h
theorem b2i_f {p : Prop} [Decidable p] (h : ¬ p) : b2i p = 0 := if_neg h
theorem b2i_01 {p : Prop} [Decidable p] : b2i p = 0 ∨ b2i p = 1 := by unfold b2i; split <;> simp
theorem b2i_0 {p : Prop} [Decidable p] : b2i p = 0 ↔ ¬ p := by unfold b2i; split <;> simp_all
theorem b2i_1 {p : Prop} [Decidable p] : b2i p = 1 ↔ p := by unfold b2i; split <;> simp_all
/-- ints and longs by their values -/
theorem i_lt {x y : Int32} : x < y ↔ x.toInt < y.toInt := Int32.lt_iff_toInt_lt
theorem i_le {x y : Int32} : x ≤ y ↔ x.toInt ≤ y.toInt := Int32.le_iff_toInt_le
theorem i_eq {x y : Int32} : x = y ↔ x.toInt = y.toInt := Int32.toInt_inj.symm
theorem l_lt {x y : Int64} : x < y ↔ x.toInt < y.toInt := Int64.lt_iff_toInt_lt
theorem l_le {x y : Int64} : x ≤ y ↔ x.toInt ≤ y.toInt := Int64.le_iff_toInt_le
theorem l_eq {x y : Int64} : x = y ↔ x.toInt = y.toInt := Int64.toInt_inj.symm
theorem i_bnd (x : Int32) : -2147483648 ≤ x.toInt ∧ x.toInt < 2147483648 := by
  have h1 := Int32.le_toInt x
  have h2 := Int32.toInt_lt x
  omega
theorem l_bnd (x : Int64) : -9223372036854775808 ≤ x.toInt ∧ x.toInt < 9223372036854775808 := by
  have h1 := Int64.le_toInt x
  have h2 := Int64.toInt_lt x
  omega
theorem bm32 {x : Int} (h : -2147483648 ≤ x ∧ x < 2147483648) : x.bmod (2 ^ 32) = x := by
  rw [Int.bmod_eq_of_le] <;> omega
theorem bm64 {x : Int} (h : -9223372036854775808 ≤ x ∧ x < 9223372036854775808) : x.bmod (2 ^ 64) = x := by
  rw [Int.bmod_eq_of_le] <;> omega
theorem i_add {x y : Int32} (h : -2147483648 ≤ x.toInt + y.toInt ∧ x.toInt + y.toInt < 2147483648) : (x + y).toInt = x.toInt + y.toInt := by rw [Int32.toInt_add, bm32 h]
theorem i_sub {x y : Int32} (h : -2147483648 ≤ x.toInt - y.toInt ∧ x.toInt - y.toInt < 2147483648) : (x - y).toInt = x.toInt - y.toInt := by rw [Int32.toInt_sub, bm32 h]
theorem i_mul {x y : Int32} (h : -2147483648 ≤ x.toInt * y.toInt ∧ x.toInt * y.toInt < 2147483648) : (x * y).toInt = x.toInt * y.toInt := by rw [Int32.toInt_mul, bm32 h]
theorem l_add {x y : Int64} (h : -9223372036854775808 ≤ x.toInt + y.toInt ∧ x.toInt + y.toInt < 9223372036854775808) : (x + y).toInt = x.toInt + y.toInt := by rw [Int64.toInt_add, bm64 h]
theorem l_sub {x y : Int64} (h : -9223372036854775808 ≤ x.toInt - y.toInt ∧ x.toInt - y.toInt < 9223372036854775808) : (x - y).toInt = x.toInt - y.toInt := by rw [Int64.toInt_sub, bm64 h]
theorem l_mul {x y : Int64} (h : -9223372036854775808 ≤ x.toInt * y.toInt ∧ x.toInt * y.toInt < 9223372036854775808) : (x * y).toInt = x.toInt * y.toInt := by rw [Int64.toInt_mul, bm64 h]
theorem i_div {x y : Int32} (hx : 0 ≤ x.toInt) (hy : 0 < y.toInt) : (x / y).toInt = x.toInt / y.toInt := by
  rw [Int32.toInt_div, Int.tdiv_eq_ediv_of_nonneg hx, bm32]
  have := i_bnd x
  have h1 : x.toInt / y.toInt ≤ x.toInt := Int.ediv_le_self _ hx
  have h2 : 0 ≤ x.toInt / y.toInt := Int.ediv_nonneg hx (Int.le_of_lt hy)
  omega
theorem l_div {x y : Int64} (hx : 0 ≤ x.toInt) (hy : 0 < y.toInt) : (x / y).toInt = x.toInt / y.toInt := by
  rw [Int64.toInt_div, Int.tdiv_eq_ediv_of_nonneg hx, bm64]
  have := l_bnd x
  have h1 : x.toInt / y.toInt ≤ x.toInt := Int.ediv_le_self _ hx
  have h2 : 0 ≤ x.toInt / y.toInt := Int.ediv_nonneg hx (Int.le_of_lt hy)
  omega
theorem i_rem {x y : Int32} (hx : 0 ≤ x.toInt) (hy : 0 < y.toInt) : (x - x / y * y).toInt = x.toInt % y.toInt := by
  have hd := i_div hx hy
  have hb := i_bnd x
  have h0 : 0 ≤ x.toInt % y.toInt := Int.emod_nonneg _ (by omega)
  have h1 := Int.mul_ediv_add_emod x.toInt y.toInt
  have h2 : x.toInt / y.toInt * y.toInt = x.toInt - x.toInt % y.toInt := by rw [Int.mul_comm]; omega
  have h3 : 0 ≤ x.toInt / y.toInt * y.toInt := Int.mul_nonneg (Int.ediv_nonneg hx (Int.le_of_lt hy)) (Int.le_of_lt hy)
  have hm : (x / y * y).toInt = x.toInt / y.toInt * y.toInt := by rw [i_mul] <;> rw [hd]; omega
  rw [i_sub] <;> rw [hm] <;> omega
theorem l_rem {x y : Int64} (hx : 0 ≤ x.toInt) (hy : 0 < y.toInt) : (x - x / y * y).toInt = x.toInt % y.toInt := by
  have hd := l_div hx hy
  have hb := l_bnd x
  have h0 : 0 ≤ x.toInt % y.toInt := Int.emod_nonneg _ (by omega)
  have h1 := Int.mul_ediv_add_emod x.toInt y.toInt
  have h2 : x.toInt / y.toInt * y.toInt = x.toInt - x.toInt % y.toInt := by rw [Int.mul_comm]; omega
  have h3 : 0 ≤ x.toInt / y.toInt * y.toInt := Int.mul_nonneg (Int.ediv_nonneg hx (Int.le_of_lt hy)) (Int.le_of_lt hy)
  have hm : (x / y * y).toInt = x.toInt / y.toInt * y.toInt := by rw [l_mul] <;> rw [hd]; omega
  rw [l_sub] <;> rw [hm] <;> omega
theorem vp_in_i {x : Int32} {n : Nat} (h : 0 ≤ x.toInt ∧ x.toInt < n) : vp_in x n := vp_in_iff.mpr h
theorem tnc {x : Int32} (h : 0 ≤ x.toInt) : (x.toNatClampNeg : Int) = x.toInt := by
  rw [Int32.toNatClampNeg]; omega
theorem cmp_lt {x y : Int64} : lg_cmp x y < 0 ↔ x < y := by
  unfold lg_cmp
  simp only [gt_iff_lt, l_lt, l_eq]
  split
  · simp; omega
  · split
    · simp; omega
    · simp; omega
theorem cmp_gt {x y : Int64} : 0 < lg_cmp x y ↔ y < x := by
  unfold lg_cmp
  simp only [gt_iff_lt, l_lt, l_eq]
  split
  · simp; omega
  · split
    · simp; omega
    · simp; omega
theorem cmp_eq {x y : Int64} : lg_cmp x y = 0 ↔ x = y := by
  unfold lg_cmp
  simp only [gt_iff_lt, l_lt, l_eq]
  split
  · simp; omega
  · split
    · simp; omega
    · simp; omega
theorem cmp_ge {x y : Int64} : 0 ≤ lg_cmp x y ↔ y ≤ x := by
  unfold lg_cmp
  simp only [gt_iff_lt, l_lt, l_eq, l_le]
  split
  · simp; omega
  · split
    · simp; omega
    · simp; omega
theorem cmp_le {x y : Int64} : lg_cmp x y ≤ 0 ↔ x ≤ y := by
  unfold lg_cmp
  simp only [gt_iff_lt, l_lt, l_eq, l_le]
  split
  · simp; omega
  · split
    · simp; omega
    · simp; omega
