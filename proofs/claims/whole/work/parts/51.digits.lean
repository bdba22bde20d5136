/-! PURE: digits -/
def dgt (b w n i : Nat) : Nat := n / b ^ (w - 1 - i) % b
theorem dgt_lt {b w n i : Nat} (h : 0 < b) : dgt b w n i < b := Nat.mod_lt _ h
/-- the number that the first n signs spell -/
def vl (f : Nat → Nat) : Nat → Nat
  | 0 => 0
  | n + 1 => vl f n * 10 + f n
theorem vl_congr {f g : Nat → Nat} : ∀ {n : Nat}, (∀ i, i < n → f i = g i) → vl f n = vl g n
  | 0, _ => rfl
  | n + 1, h => by rw [vl, vl, vl_congr (fun i hi => h i (by omega)), h n (by omega)]
theorem vl_lt {f : Nat → Nat} : ∀ {n : Nat}, (∀ i, i < n → f i < 10) → vl f n < 10 ^ n
  | 0, _ => by simp [vl]
  | n + 1, h => by
    have h1 := vl_lt (n := n) (fun i hi => h i (by omega))
    have h2 := h n (by omega)
    rw [vl, Nat.pow_succ]
    omega
theorem vl_div {f : Nat → Nat} : ∀ (k d : Nat), (∀ i, i < d + k → f i < 10) → vl f (d + k) / 10 ^ k = vl f d
  | 0, d, _ => by simp
  | k + 1, d, h => by
    have h2 := h (d + k) (by omega)
    rw [show d + (k + 1) = (d + k) + 1 by omega, vl, Nat.pow_succ, Nat.mul_comm (10 ^ k) 10, ← Nat.div_div_eq_div_mul, show (vl f (d + k) * 10 + f (d + k)) / 10 = vl f (d + k) by omega]
    exact vl_div k d (fun i hi => h i (by omega))
theorem vl_dv {f : Nat → Nat} {n d : Nat} (hd : d ≤ n) (h : ∀ i, i < n → f i < 10) : vl f n / 10 ^ (n - d) = vl f d := by
  have := vl_div (f := f) (n - d) d (by rw [show d + (n - d) = n by omega]; exact h)
  rwa [show d + (n - d) = n by omega] at this
/-- the digits of the number that f spells are f's -/
theorem dgt_vl {f : Nat → Nat} {n i : Nat} (hi : i < n) (h : ∀ i, i < n → f i < 10) : dgt 10 n (vl f n) i = f i := by
  unfold dgt
  have h1 := vl_dv (f := f) (n := n) (d := i + 1) (by omega) h
  rw [show n - 1 - i = n - (i + 1) by omega, h1, vl]
  have := h i hi
  omega
theorem vl_dgt_k {w n : Nat} : ∀ (k : Nat), k ≤ w → vl (dgt 10 w n) k = n / 10 ^ (w - k) % 10 ^ k
  | 0, _ => by simp [vl, Nat.mod_one]
  | k + 1, h => by
    rw [vl, vl_dgt_k k (by omega), dgt]
    have e1 : w - 1 - k = w - (k + 1) := by omega
    have e2 : 10 ^ (w - k) = 10 ^ (w - (k + 1)) * 10 := by rw [← Nat.pow_succ]; congr 1; omega
    rw [e1, e2, ← Nat.div_div_eq_div_mul]
    generalize n / 10 ^ (w - (k + 1)) = x
    rw [Nat.pow_succ, Nat.mul_comm (10 ^ k) 10, Nat.mod_mul]
    omega
theorem vl_dgt {w n k : Nat} (hk : k ≤ w) (h : n < 10 ^ w) : vl (dgt 10 w n) k = n / 10 ^ (w - k) := by
  rw [vl_dgt_k k hk]
  apply Nat.mod_eq_of_lt
  rw [Nat.div_lt_iff_lt_mul (Nat.pow_pos (by omega)), ← Nat.pow_add]
  rwa [show k + (w - k) = w by omega]
theorem vl_dgt_all {w n : Nat} (h : n < 10 ^ w) : vl (dgt 10 w n) w = n := by
  rw [vl_dgt (Nat.le_refl w) h]
  simp
theorem lt_nd (n : Nat) : n < 10 ^ nd n := by
  induction n using Nat.strongRecOn with
  | ind n ih =>
    by_cases h : n < 10
    · rw [nd_lt h]; omega
    · rw [nd_ge h, Nat.pow_succ]
      have := ih (n / 10) (by omega)
      omega
theorem nd_vl {f : Nat → Nat} : ∀ (n : Nat), (∀ i, i < n + 1 → f i < 10) → f 0 ≠ 0 → nd (vl f (n + 1)) = n + 1 ∧ vl f (n + 1) ≠ 0
  | 0, h, h0 => by
    have := h 0 (by omega)
    rw [vl, vl, nd_lt (by omega)]
    exact ⟨rfl, by omega⟩
  | n + 1, h, h0 => by
    have h1 := nd_vl n (fun i hi => h i (by omega)) h0
    have h2 := h (n + 1) (by omega)
    rw [vl]
    refine ⟨?_, by omega⟩
    rw [nd_ge (by omega), show (vl f (n + 1) * 10 + f (n + 1)) / 10 = vl f (n + 1) by omega, h1.1]
/-- a card's number against the digits of a message -/
theorem card_eq {f : Nat → Nat} {n N : Nat} (hn : 0 < n) (h : ∀ i, i < n → f i < 10) (h0 : f 0 ≠ 0) : vl f n = N ↔ (nd N = n ∧ ∀ i, i < n → dgt 10 (nd N) N i = f i) := by
  obtain ⟨k, rfl⟩ : ∃ k, n = k + 1 := ⟨n - 1, by omega⟩
  constructor
  · intro q
    subst q
    rw [(nd_vl k h h0).1]
    exact ⟨rfl, fun i hi => dgt_vl hi h⟩
  · rintro ⟨q1, q2⟩
    rw [q1] at q2
    rw [← vl_congr q2]
    exact vl_dgt_all (by rw [← q1]; exact lt_nd N)
theorem dgt0_ne {N : Nat} (h : N ≠ 0) : dgt 10 (nd N) N 0 ≠ 0 := by
  induction N using Nat.strongRecOn with
  | ind N ih =>
    by_cases h1 : N < 10
    · rw [nd_lt h1]; simp [dgt]; omega
    · rw [nd_ge h1]
      have := ih (N / 10) (by omega) (by omega)
      have hp := nd_pos (N / 10)
      unfold dgt at *
      rw [show nd (N / 10) + 1 - 1 - 0 = (nd (N / 10) - 1 - 0) + 1 by omega, Nat.pow_succ, Nat.mul_comm, ← Nat.div_div_eq_div_mul]
      exact this
