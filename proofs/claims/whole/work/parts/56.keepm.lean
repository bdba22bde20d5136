/-! WHAT A WRITE LEAVES, IN THE REFERENCE -/
section KEM
variable {M : Mem} {a j : Nat} {v : Int32} {u : Int64} {n : Nat → Nat} {f : Nat → Nat → Nat} {g : Nat → Nat → Int} {np : Nat} {pay : Nat → Py} {app : Nat → List Nat} {nc : Nat} {crd : Nat → Nat} {na : Nat} {arc : Nat → Ar} {m : Msg} {xs : List Nat}
theorem mNn_uI (h : mNn n M) (hc : a ≠ 495 ∨ j = 3 ∨ 64 ≤ j) : mNn n (uI M a j v) := by
  have e : ∀ k, k ≠ 3 → k < 64 → mI (uI M a j v) 495 k = mI M 495 k := fun k h1 h2 => mI_ne (by omega)
  unfold mNn at *
  simp only [e 4 (by omega) (by omega), e 17 (by omega) (by omega), e 18 (by omega) (by omega), e 24 (by omega) (by omega), e 28 (by omega) (by omega), e 34 (by omega) (by omega), e 13 (by omega) (by omega), e 14 (by omega) (by omega), e 15 (by omega) (by omega), e 16 (by omega) (by omega), e 39 (by omega) (by omega), e 12 (by omega) (by omega), e 11 (by omega) (by omega), e 55 (by omega) (by omega), e 8 (by omega) (by omega), e 9 (by omega) (by omega), e 10 (by omega) (by omega), e 7 (by omega) (by omega), e 6 (by omega) (by omega), e 5 (by omega) (by omega)]
  exact h
theorem mIi_uI (h : mIi f M) (hc : a ≠ 499 ∧ a ≠ 502 ∧ a ≠ 504 ∧ a ≠ 505 ∧ a ≠ 506 ∧ a ≠ 507 ∧ a ≠ 514 ∧ a ≠ 515) : mIi f (uI M a j v) := by
  refine ⟨fun i hi => ?_, fun i hi => ?_, fun i hi => ?_, fun i hi => ?_, fun i hi => ?_⟩
  · rw [mI_ne (by omega)]; exact h.1 i hi
  · rw [mI_ne (by omega)]; exact h.2.1 i hi
  · rw [mI_ne (by omega), mI_ne (by omega), mI_ne (by omega)]; exact h.2.2.1 i hi
  · rw [mI_ne (by omega)]; exact h.2.2.2.1 i hi
  · rw [mI_ne (by omega), mI_ne (by omega)]; exact h.2.2.2.2 i hi
theorem mLl_uL (h : mLl g M) (hc : a ≠ 500 ∧ a ≠ 501 ∧ a ≠ 503 ∧ a ≠ 508 ∧ a ≠ 509) : mLl g (uL M a j u) := by
  refine ⟨fun i hi => ?_, fun i hi => ?_, fun i hi => ?_⟩
  · rw [mL_ne (by omega), mL_ne (by omega)]; exact h.1 i hi
  · rw [mL_ne (by omega)]; exact h.2.1 i hi
  · rw [mL_ne (by omega), mL_ne (by omega)]; exact h.2.2 i hi
theorem mA_uI (h : mA app M) (hc : a ≠ 510 ∧ a ≠ 511) : mA app (uI M a j v) := fun i hi => by
  rw [mI_ne (by omega)]; exact ⟨(h i hi).1, fun k hk => by rw [mI_ne (by omega)]; exact (h i hi).2 k hk⟩
theorem mC_uI (h : mC nc crd M) (hc : a ≠ 512 ∧ a ≠ 513) : mC nc crd (uI M a j v) := fun i hi => by
  rw [mI_ne (by omega)]; exact ⟨(h i hi).1, fun k hk => by rw [mI_ne (by omega)]; exact (h i hi).2 k hk⟩
theorem mP_uI (h : mP np pay M) (hc : a < 516 ∨ 530 < a) : mP np pay (uI M a j v) := fun i hi => by
  have e : ∀ b k, 516 ≤ b → b ≤ 530 → mI (uI M a j v) b k = mI M b k := fun b k h1 h2 => mI_ne (by omega)
  have := h i hi
  unfold payM at *
  simp only [fun k => e 516 k (by omega) (by omega), fun k => e 517 k (by omega) (by omega), fun k => e 518 k (by omega) (by omega), fun k => e 519 k (by omega) (by omega), fun k => e 520 k (by omega) (by omega), fun k => e 521 k (by omega) (by omega), fun k => e 522 k (by omega) (by omega), fun k => e 523 k (by omega) (by omega), fun k => e 526 k (by omega) (by omega), fun k => e 527 k (by omega) (by omega), fun k => e 528 k (by omega) (by omega), fun k => e 530 k (by omega) (by omega)]
  exact this
theorem mP_uL (h : mP np pay M) (hc : a < 516 ∨ 530 < a) : mP np pay (uL M a j u) := fun i hi => by
  have e : ∀ b k, 516 ≤ b → b ≤ 530 → mL (uL M a j u) b k = mL M b k := fun b k h1 h2 => mL_ne (by omega)
  have := h i hi
  unfold payM at *
  simp only [fun k => e 524 k (by omega) (by omega), fun k => e 525 k (by omega) (by omega), fun k => e 529 k (by omega) (by omega)]
  exact this
theorem mRr_uI (h : mRr na arc M) (hc : a < 531 ∨ 538 < a) : mRr na arc (uI M a j v) := fun i hi => by
  have e : ∀ b k, 531 ≤ b → b ≤ 538 → mI (uI M a j v) b k = mI M b k := fun b k h1 h2 => mI_ne (by omega)
  have := h i hi
  unfold arcM at *
  simp only [fun k => e 531 k (by omega) (by omega), fun k => e 532 k (by omega) (by omega), fun k => e 533 k (by omega) (by omega), fun k => e 534 k (by omega) (by omega), fun k => e 535 k (by omega) (by omega), fun k => e 536 k (by omega) (by omega), fun k => e 537 k (by omega) (by omega), fun k => e 538 k (by omega) (by omega)]
  exact this
theorem msgM_uI {k b c : Nat} (h : msgM M k b c m) (hc : (a ≠ 495 ∨ j ≠ k) ∧ a ≠ b ∧ a ≠ c) : msgM (uI M a j v) k b c m := by
  refine ⟨by rw [mI_ne (by omega)]; exact h.1, fun s hs => ⟨fun hp => ⟨by rw [mI_ne (by omega)]; exact ((h.2 s hs).1 hp).1, fun i hi => ?_⟩, fun hp => by rw [mI_ne (by omega)]; exact (h.2 s hs).2 hp⟩⟩
  rw [mI_ne (by omega)]; exact ((h.2 s hs).1 hp).2 i hi
/-- bytes of the reference: their number in the slot k, their row at b -/
def BYM (M : Mem) (k b : Nat) (xs : List Nat) : Prop := mI M 495 k = nI xs.length ∧ ∀ i, i < xs.length → mI M b i = nI (xs.getD i 0)
theorem BYM_uI {k b : Nat} (h : BYM M k b xs) (hc : (a ≠ 495 ∨ j ≠ k) ∧ a ≠ b) : BYM (uI M a j v) k b xs := ⟨by rw [mI_ne (by omega)]; exact h.1, fun i hi => by rw [mI_ne (by omega)]; exact h.2 i hi⟩
theorem mK_uI (h : mK M) (hc : a < 496 ∨ 498 < a) : mK (uI M a j v) := fun s hs => by
  rw [mI_ne (by omega), mI_ne (by omega), mI_ne (by omega)]; exact h s hs
theorem mNn_4 {x : Nat} (h : mNn n M) : mNn (up1 n 4 x) (uI M 495 4 (nI x)) := by
  unfold mNn at *
  simp [mI_uI, up1, h]
theorem mNn_17 {x : Nat} (h : mNn n M) : mNn (up1 n 17 x) (uI M 495 17 (nI x)) := by
  unfold mNn at *
  simp [mI_uI, up1, h]
theorem mNn_18 {x : Nat} (h : mNn n M) : mNn (up1 n 18 x) (uI M 495 18 (nI x)) := by
  unfold mNn at *
  simp [mI_uI, up1, h]
theorem mNn_24 {x : Nat} (h : mNn n M) : mNn (up1 n 24 x) (uI M 495 24 (nI x)) := by
  unfold mNn at *
  simp [mI_uI, up1, h]
theorem mNn_28 {x : Nat} (h : mNn n M) : mNn (up1 n 28 x) (uI M 495 28 (nI x)) := by
  unfold mNn at *
  simp [mI_uI, up1, h]
theorem mNn_34 {x : Nat} (h : mNn n M) : mNn (up1 n 34 x) (uI M 495 34 (nI x)) := by
  unfold mNn at *
  simp [mI_uI, up1, h]
theorem mNn_13 {x : Nat} (h : mNn n M) : mNn (up1 n 13 x) (uI M 495 13 (nI x)) := by
  unfold mNn at *
  simp [mI_uI, up1, h]
theorem mNn_14 {x : Nat} (h : mNn n M) : mNn (up1 n 14 x) (uI M 495 14 (nI x)) := by
  unfold mNn at *
  simp [mI_uI, up1, h]
theorem mNn_15 {x : Nat} (h : mNn n M) : mNn (up1 n 15 x) (uI M 495 15 (nI x)) := by
  unfold mNn at *
  simp [mI_uI, up1, h]
theorem mNn_16 {x : Nat} (h : mNn n M) : mNn (up1 n 16 x) (uI M 495 16 (nI x)) := by
  unfold mNn at *
  simp [mI_uI, up1, h]
theorem mNn_39 {x : Nat} (h : mNn n M) : mNn (up1 n 39 x) (uI M 495 39 (nI x)) := by
  unfold mNn at *
  simp [mI_uI, up1, h]
theorem mNn_12 {x : Nat} (h : mNn n M) : mNn (up1 n 12 x) (uI M 495 12 (nI x)) := by
  unfold mNn at *
  simp [mI_uI, up1, h]
theorem mNn_11 {x : Nat} (h : mNn n M) : mNn (up1 n 11 x) (uI M 495 11 (nI x)) := by
  unfold mNn at *
  simp [mI_uI, up1, h]
theorem mNn_55 {x : Nat} (h : mNn n M) : mNn (up1 n 55 x) (uI M 495 55 (nI x)) := by
  unfold mNn at *
  simp [mI_uI, up1, h]
theorem mNn_9 {x : Nat} (h : mNn n M) : mNn (up1 n 9 x) (uI M 495 9 (nI x)) := by
  unfold mNn at *
  simp [mI_uI, up1, h]
theorem mNn_10 {x : Nat} (h : mNn n M) : mNn (up1 n 10 x) (uI M 495 10 (nI x)) := by
  unfold mNn at *
  simp [mI_uI, up1, h]
theorem mNn_6 {x : Nat} (h : mNn n M) : mNn (up1 n 6 x) (uI M 495 6 (nI x)) := by
  unfold mNn at *
  simp [mI_uI, up1, h]
theorem mNn_5 {x : Nat} (h : mNn n M) : mNn (up1 n 5 x) (uI M 495 5 (nI x)) := by
  unfold mNn at *
  simp [mI_uI, up1, h]
end KEM
