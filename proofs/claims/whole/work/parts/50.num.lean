/-! NUMBERS AS WORDS -/
def lI (x : Int) : Int64 := Int64.ofInt x
def fL (x : Int) : Prop := -9223372036854775808 ≤ x ∧ x < 9223372036854775808
theorem lI_toInt {x : Int} (h : fL x) : (lI x).toInt = x := by
  unfold lI; rw [Int64.toInt_ofInt]; exact bm64 h
theorem lI_add (x y : Int) : lI x + lI y = lI (x + y) := (Int64.ofInt_add x y).symm
theorem lI_sub (x y : Int) : lI x - lI y = lI (x - y) := (Int64.ofInt_sub x y).symm
theorem lI_mul (x y : Int) : lI x * lI y = lI (x * y) := (Int64.ofInt_mul x y).symm
theorem lI_neg (x : Int) : - lI x = lI (- x) := (Int64.ofInt_neg x).symm
theorem lI_le {x y : Int} (hx : fL x) (hy : fL y) : lI x ≤ lI y ↔ x ≤ y := by rw [l_le, lI_toInt hx, lI_toInt hy]
theorem lI_lt {x y : Int} (hx : fL x) (hy : fL y) : lI x < lI y ↔ x < y := by rw [l_lt, lI_toInt hx, lI_toInt hy]
theorem lI_eq {x y : Int} (hx : fL x) (hy : fL y) : lI x = lI y ↔ x = y := by rw [l_eq, lI_toInt hx, lI_toInt hy]
theorem lI_0 : lI 0 = 0 := rfl
theorem lI_1 : lI 1 = 1 := rfl
theorem nI_lI {n : Nat} (h : n < 2147483648) : (nI n).toInt64 = lI n := by
  rw [l_eq, Int32.toInt_toInt64, nI_toInt (by omega), lI_toInt (by unfold fL; omega)]
theorem lI_of (x : Int64) : x = lI x.toInt := by unfold lI; rw [Int64.ofInt_toInt]
theorem lI_div {x y : Int} (hx : 0 ≤ x) (hx2 : fL x) (hy : 0 < y) (hy2 : fL y) : lI x / lI y = lI (x / y) := by
  have h1 : x / y ≤ x := Int.ediv_le_self y hx
  have h2 : 0 ≤ x / y := Int.ediv_nonneg hx (by omega)
  rw [l_eq, l_div (by rw [lI_toInt hx2]; exact hx) (by rw [lI_toInt hy2]; exact hy), lI_toInt hx2, lI_toInt hy2, lI_toInt]
  unfold fL at *
  omega
theorem lI_rem {x y : Int} (hx : 0 ≤ x) (hx2 : fL x) (hy : 0 < y) (hy2 : fL y) : lI x - lI x / lI y * lI y = lI (x % y) := by
  rw [lI_div hx hx2 hy hy2, lI_mul, lI_sub]
  congr 1
  have := Int.emod_add_mul_ediv x y
  rw [Int.mul_comm] at this
  omega
theorem lI_i32 {n : Nat} (h : n < 2147483648) : (lI n).toInt32 = nI n := by
  unfold lI nI
  apply Int32.toInt_inj.mp
  rw [Int64.toInt_toInt32, Int64.toInt_ofInt]
  rw [show ((n : Int)).bmod (Int64.size) = n from by rw [show Int64.size = 2 ^ 64 from rfl]; exact bm64 (by omega)]
  rw [Int32.toInt_ofNat_of_lt (by omega)]
  rw [Int.bmod_eq_of_le] <;> omega
/-! BITS OF SMALL NUMBERS -/
theorem nI_bv (n : Nat) : (nI n).toBitVec = BitVec.ofNat 32 n := rfl
theorem sh_s : ∀ s : Fin 32, ((nI s.val) &&& 31).toBitVec.smod 32 = BitVec.ofNat 32 s.val := by decide
theorem nI_shr {a s : Nat} (ha : a < 2147483648) (hs : s < 32) : nI a >>> (nI s &&& 31) = nI (a / 2 ^ s) := by
  apply Int32.toBitVec_inj.mp
  rw [Int32.toBitVec_shiftRight, sh_s ⟨s, hs⟩, nI_bv, nI_bv]
  have hm : (BitVec.ofNat 32 a).msb = false := by
    rw [BitVec.msb_eq_decide]
    simp
    omega
  rw [BitVec.sshiftRight_eq', BitVec.sshiftRight_eq_of_msb_false hm]
  apply BitVec.eq_of_toNat_eq
  simp only [BitVec.toNat_ushiftRight, BitVec.toNat_ofNat]
  have h1 : s % 2 ^ 32 = s := Nat.mod_eq_of_lt (by omega)
  have h2 : a % 2 ^ 32 = a := Nat.mod_eq_of_lt (by omega)
  have h3 : a / 2 ^ s ≤ a := Nat.div_le_self _ _
  rw [h1, h2, Nat.shiftRight_eq_div_pow, Nat.mod_eq_of_lt (show a / 2 ^ s < 2 ^ 32 by omega)]
theorem nI_shl {a s : Nat} (hs : s < 32) : nI a <<< (nI s &&& 31) = nI (a * 2 ^ s) := by
  apply Int32.toBitVec_inj.mp
  rw [Int32.toBitVec_shiftLeft, sh_s ⟨s, hs⟩, nI_bv, nI_bv]
  apply BitVec.eq_of_toNat_eq
  rw [BitVec.shiftLeft_eq', BitVec.toNat_shiftLeft, BitVec.toNat_ofNat, BitVec.toNat_ofNat, BitVec.toNat_ofNat, Nat.mod_eq_of_lt (show s < 2 ^ 32 by omega), Nat.shiftLeft_eq]
  rw [Nat.mod_mul_mod]
theorem nI_and (a b : Nat) : nI a &&& nI b = nI (a &&& b) := by
  apply Int32.toBitVec_inj.mp
  rw [Int32.toBitVec_and, nI_bv, nI_bv, nI_bv, ← BitVec.ofNat_and]
theorem nI_or (a b : Nat) : nI a ||| nI b = nI (a ||| b) := by
  apply Int32.toBitVec_inj.mp
  rw [Int32.toBitVec_or, nI_bv, nI_bv, nI_bv, ← BitVec.ofNat_or]
theorem nI_xor (a b : Nat) : nI a ^^^ nI b = nI (a ^^^ b) := by
  apply Int32.toBitVec_inj.mp
  rw [Int32.toBitVec_xor, nI_bv, nI_bv, nI_bv, ← BitVec.ofNat_xor]
def pb (th s : Nat) : Nat := th / 2 ^ s % 2
theorem pb_tb (th s : Nat) : pb th s = (th.testBit s).toNat := by
  unfold pb
  rw [Nat.testBit_eq_decide_div_mod_eq]
  by_cases h : th / 2 ^ s % 2 = 1
  · simp [h]
  · simp [h]; omega
theorem and1 (x : Nat) : x &&& 1 = x % 2 := Nat.and_one_is_mod x
theorem nI_has {th s : Nat} (h : th < 65536) (hs : s < 16) : (nI th >>> (nI s &&& 31)) &&& 1 = nI (pb th s) := by
  rw [nI_shr (by omega) (by omega), show (1 : Int32) = nI 1 from rfl, nI_and, and1]
  rfl
/-- a field is there -/
def setB (th s : Nat) : Nat := th ||| 2 ^ s
def clrB (th s : Nat) : Nat := th &&& (65535 - 2 ^ s)
theorem setB_lt {th s : Nat} (h : th < 65536) (hs : s < 16) : setB th s < 65536 := by
  unfold setB
  have := Nat.pow_lt_pow_right (a := 2) (by omega) hs
  exact Nat.or_lt_two_pow (n := 16) h this
theorem setB_pb {th s k : Nat} : pb (setB th s) k = if k = s then 1 else pb th k := by
  rw [pb_tb, pb_tb, setB, Nat.testBit_or, Nat.testBit_two_pow]
  by_cases h : k = s
  · subst h; simp
  · rw [if_neg h]; simp [Ne.symm h]
theorem clrB_lt {th s : Nat} (h : th < 65536) : clrB th s < 65536 := by
  unfold clrB
  exact Nat.lt_of_le_of_lt Nat.and_le_left h
theorem clr_s : ∀ s : Fin 16, ∀ k : Fin 16, (65535 - 2 ^ s.val).testBit k.val = decide (k ≠ s) := by decide
theorem clrB_pb {th s k : Nat} (hs : s < 16) (hk : k < 16) : pb (clrB th s) k = if k = s then 0 else pb th k := by
  rw [pb_tb, pb_tb, clrB, Nat.testBit_and, clr_s ⟨s, hs⟩ ⟨k, hk⟩]
  by_cases h : k = s
  · subst h; simp
  · rw [if_neg h]; simp [h]
theorem nI_set {th s : Nat} (hs : s < 16) : nI th ||| (1 <<< (nI s &&& 31)) = nI (setB th s) := by
  rw [show (1 : Int32) = nI 1 from rfl, nI_shl (by omega), nI_or, Nat.one_mul]
  rfl
theorem msk_s : ∀ s : Fin 16, ~~~ ((1 : Int32) <<< (nI s.val &&& 31)) = nI (4294967295 - 2 ^ s.val) := by decide
theorem clr_2 : ∀ s : Fin 16, (4294967295 - 2 ^ s.val) % 65536 = 65535 - 2 ^ s.val := by decide
theorem nI_clr {th s : Nat} (h : th < 65536) (hs : s < 16) : nI th &&& (~~~ (1 <<< (nI s &&& 31))) = nI (clrB th s) := by
  rw [msk_s ⟨s, hs⟩, nI_and]
  unfold clrB
  congr 1
  apply Nat.eq_of_testBit_eq
  intro i
  rw [Nat.testBit_and, Nat.testBit_and]
  by_cases hi : i < 16
  · have e := clr_2 ⟨s, hs⟩
    simp only at e
    rw [← e, show (65536 : Nat) = 2 ^ 16 from rfl, Nat.testBit_mod_two_pow]
    simp [hi]
  · rw [Nat.testBit_lt_two_pow (Nat.lt_of_lt_of_le h (Nat.pow_le_pow_right (n := 2) (i := 16) (j := i) (by omega) (by omega)))]
    simp
theorem pb_ext {a b : Nat} (ha : a < 65536) (hb : b < 65536) (h : ∀ s, s < 16 → pb a s = pb b s) : a = b := by
  apply Nat.eq_of_testBit_eq
  intro i
  by_cases hi : i < 16
  · have := h i hi
    rw [pb_tb, pb_tb] at this
    cases h1 : a.testBit i <;> cases h2 : b.testBit i <;> simp_all
  · have h2 := Nat.pow_le_pow_right (n := 2) (i := 16) (j := i) (by omega) (by omega)
    rw [Nat.testBit_lt_two_pow (by omega), Nat.testBit_lt_two_pow (by omega)]
