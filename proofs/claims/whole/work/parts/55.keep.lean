/-! WHAT A WRITE LEAVES -/
section KEE
variable {M : Mem} {a j : Nat} {v : Int32} {u : Int64} {r : Option Nat} {n : Nat → Nat} {f : Nat → Nat → Nat} {g : Nat → Nat → Int} {h0 : Nat → Int} {np : Nat} {pay : Nat → Py} {c : Nat → Nat} {app : Nat → List Nat} {nc : Nat} {crd : Nat → Nat} {w : Nat → Nat} {ov na : Nat} {arc : Nat → Ar} {m : Msg} {xs : List Nat}
theorem mI_ne {b k : Nat} (h : ¬ (b = a ∧ k = j)) : mI (uI M a j v) b k = mI M b k := by rw [mI_uI, if_neg h]
theorem mL_ne {b k : Nat} (h : ¬ (b = a ∧ k = j)) : mL (uL M a j u) b k = mL M b k := by rw [mL_uL, if_neg h]
theorem mR_ne {b k : Nat} (h : ¬ (b = a ∧ k = j)) : mR (uR M a j r) b k = mR M b k := by rw [mR_uR, if_neg h]
theorem cN_uI (h : cN n M) (hc : a ≠ 0 ∧ a ≠ 1 ∧ a ≠ 139 ∧ (a ≠ 328 ∨ j ≠ 6) ∧ a ≠ 431) : cN n (uI M a j v) := by
  have e0 : ∀ k, mI (uI M a j v) 0 k = mI M 0 k := fun k => mI_ne (by omega)
  have e1 : ∀ k, mI (uI M a j v) 1 k = mI M 1 k := fun k => mI_ne (by omega)
  have e2 : ∀ k, mI (uI M a j v) 139 k = mI M 139 k := fun k => mI_ne (by omega)
  have e3 : mI (uI M a j v) 328 6 = mI M 328 6 := mI_ne (by omega)
  have e4 : ∀ k, mI (uI M a j v) 431 k = mI M 431 k := fun k => mI_ne (by omega)
  unfold cN at *
  simp only [e0, e1, e2, e3, e4]
  exact h
theorem cI_uI (h : cI f M) (hc : a ≠ 2 ∧ a ≠ 3 ∧ a ≠ 4 ∧ a ≠ 5 ∧ a ≠ 6 ∧ a ≠ 9 ∧ a ≠ 10 ∧ a ≠ 145 ∧ (a < 11 ∨ 138 < a ∨ a % 2 = 0 ∨ j ≠ 1)) : cI f (uI M a j v) := by
  refine ⟨fun i hi => ?_, fun i hi => ?_, fun i hi => ?_, fun i hi => ?_⟩
  · rw [mI_ne (by omega), mI_ne (by omega), mI_ne (by omega)]; exact h.1 i hi
  · rw [mI_ne (by omega), mI_ne (by omega), mI_ne (by omega)]; exact h.2.1 i hi
  · rw [mI_ne (by omega)]; exact h.2.2.1 i hi
  · rw [mI_ne (by omega), mI_ne (by omega)]; exact h.2.2.2 i hi
theorem cL_uL (h : cL g M) (hc : a ≠ 141 ∧ a ≠ 142 ∧ a ≠ 143 ∧ a ≠ 144 ∧ a ≠ 146 ∧ (a < 11 ∨ 138 < a ∨ a % 2 = 0 ∨ (j ≠ 2 ∧ j ≠ 4))) : cL g (uL M a j u) := by
  refine ⟨fun i hi => ?_, fun i hi => ?_, fun i hi => ?_⟩
  · rw [mL_ne (by omega), mL_ne (by omega), mL_ne (by omega)]; exact h.1 i hi
  · rw [mL_ne (by omega), mL_ne (by omega)]; exact h.2.1 i hi
  · rw [mL_ne (by omega), mL_ne (by omega)]; exact h.2.2 i hi
theorem cF_uI (h : cF h0 M) (hc : (a < 11 ∨ 138 < a ∨ a % 2 = 0 ∨ j ≠ 0)) : cF h0 (uI M a j v) := fun i hi => by
  rw [mI_ne (by omega)]; exact h i hi
theorem cF_uL (h : cF h0 M) (hc : (a < 11 ∨ 138 < a ∨ a % 2 = 0 ∨ j ≠ 3)) : cF h0 (uL M a j u) := fun i hi => by
  rw [mL_ne (by omega)]; exact h i hi
theorem cS_uL (h : cS np pay M) (hc : (a < 11 ∨ 138 < a ∨ a % 2 = 0 ∨ (j ≠ 5 ∧ j ≠ 6))) : cS np pay (uL M a j u) := fun i hi => by
  rw [mL_ne (by omega), mL_ne (by omega)]; exact h i hi
theorem cA_uI (h : cA c app M) (hc : (a < 11 ∨ 138 < a ∨ (a % 2 = 1 ∧ j ≠ 8)) ∧ (a ≠ 139 ∨ j ≠ 4)) : cA c app (uI M a j v) := fun i hi => by
  rw [mI_ne (b := 139) (by omega), mI_ne (b := 11 + 2 * i) (by omega)]; exact ⟨(h i hi).1, (h i hi).2.1, fun k hk => by rw [mI_ne (by omega)]; exact (h i hi).2.2 k hk⟩
theorem cC_uL (h : cC nc crd M) (hc : a ≠ 8) : cC nc crd (uL M a j u) := fun i hi => by
  rw [mL_ne (by omega)]; exact h i hi
theorem payC_uI {b : Nat} {p : Py} (h : payC M b p) (hc : a ≠ b ∧ a ≠ b + 1 ∧ a ≠ b + 2) : payC (uI M a j v) b p := by
  have e : ∀ d k, (d = b ∨ d = b + 1 ∨ d = b + 2) → mI (uI M a j v) d k = mI M d k := fun d k hb => mI_ne (by omega)
  unfold payC at *
  simp only [fun k => e b k (by omega), fun k => e (b + 1) k (by omega), fun k => e (b + 2) k (by omega)]
  exact h
theorem payC_uL {b : Nat} {p : Py} (h : payC M b p) (hc : a ≠ b) : payC (uL M a j u) b p := by
  have e : ∀ k, mL (uL M a j u) b k = mL M b k := fun k => mL_ne (by omega)
  unfold payC at *
  simp only [e]
  exact h
theorem payC_uR {b : Nat} {p : Py} (h : payC M b p) (hc : a ≠ b) : payC (uR M a j r) b p := by
  have e : ∀ k, mR (uR M a j r) b k = mR M b k := fun k => mR_ne (by omega)
  unfold payC at *
  simp only [e]
  exact h
theorem cP_uI (h : cP w np pay M) (hnp : np ≤ 60) (hc : a < 148 ∨ 327 < a) : cP w np pay (uI M a j v) := ⟨h.1, h.2.1, fun i hi => payC_uI (h.2.2 i hi) (by have := (h.1 i (by omega)).2; omega)⟩
theorem cP_uL (h : cP w np pay M) (hnp : np ≤ 60) (hc : a < 148 ∨ 327 < a) : cP w np pay (uL M a j u) := ⟨h.1, h.2.1, fun i hi => payC_uL (h.2.2 i hi) (by have := (h.1 i (by omega)).2; omega)⟩
theorem BYL_uI {b d : Nat} (h : BYL M b d xs) (hc : a ≠ b ∧ a ≠ d) : BYL (uI M a j v) b d xs := by
  refine ⟨?_, fun i hi => ?_⟩
  · rw [mI_ne (by omega)]; exact h.1
  · rw [mI_ne (by omega)]; exact h.2 i hi
theorem cR_uI (h : cR ov na arc M) (hc : (a ≠ 328 ∨ j ≠ 7) ∧ (a < 329 ∨ 430 < a)) : cR ov na arc (uI M a j v) := by
  obtain ⟨h1, h2, h3, h4⟩ := h
  refine ⟨by rw [mI_ne (by omega)]; exact h1, h2, h3, fun k hk => ?_⟩
  obtain ⟨q1, q2, q3, q4, q5, q6⟩ := h4 k hk
  have hb : (ov + k) % 24 < 24 := Nat.mod_lt _ (by omega)
  refine ⟨by rw [mI_ne (by omega)]; exact q1, by rw [mI_ne (by omega)]; exact q2, by rw [mI_ne (by omega)]; exact q3, by rw [mI_ne (by omega)]; exact q4, BYL_uI q5 (by omega), BYL_uI q6 (by omega)⟩
theorem msgC_uI {b d e : Nat} (h : msgC M b d e m) (hc : a ≠ b ∧ a ≠ d ∧ (a < e ∨ e + 15 < a)) : msgC (uI M a j v) b d e m := by
  obtain ⟨h1, h2, h3⟩ := h
  refine ⟨by rw [mI_ne (by omega)]; exact h1, by rw [mI_ne (by omega)]; exact h2, fun s hs hp => ?_⟩
  refine ⟨by rw [mI_ne (by omega)]; exact (h3 s hs hp).1, fun i hi => ?_⟩
  rw [mI_ne (by omega)]; exact (h3 s hs hp).2 i hi
theorem cN_4 {x : Nat} (h : cN n M) : cN (up1 n 4 x) (uI M 0 8 (nI x)) := by
  unfold cN at *
  simp [mI_uI, up1, h]
theorem cN_17 {x : Nat} (h : cN n M) : cN (up1 n 17 x) (uI M 1 1 (nI x)) := by
  unfold cN at *
  simp [mI_uI, up1, h]
theorem cN_18 {x : Nat} (h : cN n M) : cN (up1 n 18 x) (uI M 1 3 (nI x)) := by
  unfold cN at *
  simp [mI_uI, up1, h]
theorem cN_24 {x : Nat} (h : cN n M) : cN (up1 n 24 x) (uI M 1 7 (nI x)) := by
  unfold cN at *
  simp [mI_uI, up1, h]
theorem cN_28 {x : Nat} (h : cN n M) : cN (up1 n 28 x) (uI M 1 9 (nI x)) := by
  unfold cN at *
  simp [mI_uI, up1, h]
theorem cN_34 {x : Nat} (h : cN n M) : cN (up1 n 34 x) (uI M 1 13 (nI x)) := by
  unfold cN at *
  simp [mI_uI, up1, h]
theorem cN_13 {x : Nat} (h : cN n M) : cN (up1 n 13 x) (uI M 1 14 (nI x)) := by
  unfold cN at *
  simp [mI_uI, up1, h]
theorem cN_14 {x : Nat} (h : cN n M) : cN (up1 n 14 x) (uI M 1 15 (nI x)) := by
  unfold cN at *
  simp [mI_uI, up1, h]
theorem cN_15 {x : Nat} (h : cN n M) : cN (up1 n 15 x) (uI M 1 16 (nI x)) := by
  unfold cN at *
  simp [mI_uI, up1, h]
theorem cN_16 {x : Nat} (h : cN n M) : cN (up1 n 16 x) (uI M 1 17 (nI x)) := by
  unfold cN at *
  simp [mI_uI, up1, h]
theorem cN_39 {x : Nat} (h : cN n M) : cN (up1 n 39 x) (uI M 139 3 (nI x)) := by
  unfold cN at *
  simp [mI_uI, up1, h]
theorem cN_12 {x : Nat} (h : cN n M) : cN (up1 n 12 x) (uI M 139 4 (nI x)) := by
  unfold cN at *
  simp [mI_uI, up1, h]
theorem cN_11 {x : Nat} (h : cN n M) : cN (up1 n 11 x) (uI M 139 5 (nI x)) := by
  unfold cN at *
  simp [mI_uI, up1, h]
theorem cN_55 {x : Nat} (h : cN n M) : cN (up1 n 55 x) (uI M 328 6 (nI x)) := by
  unfold cN at *
  simp [mI_uI, up1, h]
theorem cN_9 {x : Nat} (h : cN n M) : cN (up1 n 9 x) (uI M 431 1 (nI x)) := by
  unfold cN at *
  simp [mI_uI, up1, h]
theorem cN_10 {x : Nat} (h : cN n M) : cN (up1 n 10 x) (uI M 431 2 (nI x)) := by
  unfold cN at *
  simp [mI_uI, up1, h]
theorem cN_6 {x : Nat} (h : cN n M) : cN (up1 n 6 x) (uI M 431 4 (nI x)) := by
  unfold cN at *
  simp [mI_uI, up1, h]
theorem cN_5 {x : Nat} (h : cN n M) : cN (up1 n 5 x) (uI M 431 5 (nI x)) := by
  unfold cN at *
  simp [mI_uI, up1, h]
end KEE
