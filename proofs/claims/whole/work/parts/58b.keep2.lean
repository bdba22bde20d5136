/-! WHAT A WRITE LEAVES: WHOLE ROWS, AND WRITES OF OTHER KINDS -/
section KE2
variable {M : Mem} {a j : Nat} {v : Int32} {u : Int64} {r : Option Nat} {fr : Nat → Int32} {n : Nat → Nat} {f : Nat → Nat → Nat} {g : Nat → Nat → Int} {h0 : Nat → Int} {np : Nat} {pay : Nat → Py} {c : Nat → Nat} {app : Nat → List Nat} {nc : Nat} {crd : Nat → Nat} {w : Nat → Nat} {ov na : Nat} {arc : Nat → Ar} {m : Msg} {xs : List Nat}
theorem mI_nr {b k : Nat} (h : ¬ b = a) : mI (sRow M a fr) b k = mI M b k := by rw [mI_sRow, if_neg h]
theorem cN_sRow (h : cN n M) (hc : a ≠ 0 ∧ a ≠ 1 ∧ a ≠ 139 ∧ a ≠ 328 ∧ a ≠ 431) : cN n (sRow M a fr) := by
  have e0 : ∀ k, mI (sRow M a fr) 0 k = mI M 0 k := fun k => mI_nr (by omega)
  have e1 : ∀ k, mI (sRow M a fr) 1 k = mI M 1 k := fun k => mI_nr (by omega)
  have e2 : ∀ k, mI (sRow M a fr) 139 k = mI M 139 k := fun k => mI_nr (by omega)
  have e3 : mI (sRow M a fr) 328 6 = mI M 328 6 := mI_nr (by omega)
  have e4 : ∀ k, mI (sRow M a fr) 431 k = mI M 431 k := fun k => mI_nr (by omega)
  unfold cN at *
  simp only [e0, e1, e2, e3, e4]
  exact h
theorem cI_sRow (h : cI f M) (hc : a ≠ 2 ∧ a ≠ 3 ∧ a ≠ 4 ∧ a ≠ 5 ∧ a ≠ 6 ∧ a ≠ 9 ∧ a ≠ 10 ∧ a ≠ 145 ∧ (a < 11 ∨ 138 < a ∨ a % 2 = 0)) : cI f (sRow M a fr) := by
  refine ⟨fun i hi => ?_, fun i hi => ?_, fun i hi => ?_, fun i hi => ?_⟩
  · rw [mI_nr (by omega), mI_nr (by omega), mI_nr (by omega)]; exact h.1 i hi
  · rw [mI_nr (by omega), mI_nr (by omega), mI_nr (by omega)]; exact h.2.1 i hi
  · rw [mI_nr (by omega)]; exact h.2.2.1 i hi
  · rw [mI_nr (by omega), mI_nr (by omega)]; exact h.2.2.2 i hi
theorem cF_sRow (h : cF h0 M) (hc : a < 11 ∨ 138 < a ∨ a % 2 = 0) : cF h0 (sRow M a fr) := fun i hi => by
  rw [mI_nr (by omega)]; exact h i hi
theorem cA_sRow (h : cA c app M) (hc : (a < 11 ∨ 138 < a) ∧ a ≠ 139) : cA c app (sRow M a fr) := fun i hi => by
  rw [mI_nr (b := 139) (by omega), mI_nr (b := 11 + 2 * i) (by omega)]; exact ⟨(h i hi).1, (h i hi).2.1, fun k hk => by rw [mI_nr (by omega)]; exact (h i hi).2.2 k hk⟩
theorem payC_sRow {b : Nat} {p : Py} (h : payC M b p) (hc : a ≠ b ∧ a ≠ b + 1 ∧ a ≠ b + 2) : payC (sRow M a fr) b p := by
  have e : ∀ d k, (d = b ∨ d = b + 1 ∨ d = b + 2) → mI (sRow M a fr) d k = mI M d k := fun d k hb => mI_nr (by omega)
  unfold payC at *
  simp only [fun k => e b k (by omega), fun k => e (b + 1) k (by omega), fun k => e (b + 2) k (by omega)]
  exact h
theorem cP_sRow (h : cP w np pay M) (hnp : np ≤ 60) (hc : a < 148 ∨ 327 < a) : cP w np pay (sRow M a fr) := ⟨h.1, h.2.1, fun i hi => payC_sRow (h.2.2 i hi) (by have := (h.1 i (by omega)).2; omega)⟩
theorem BYL_sRow {b d : Nat} (h : BYL M b d xs) (hc : a ≠ b ∧ a ≠ d) : BYL (sRow M a fr) b d xs := by
  refine ⟨?_, fun i hi => ?_⟩
  · rw [mI_nr (by omega)]; exact h.1
  · rw [mI_nr (by omega)]; exact h.2 i hi
theorem cR_sRow (h : cR ov na arc M) (hc : a < 328 ∨ 430 < a) : cR ov na arc (sRow M a fr) := by
  obtain ⟨h1, h2, h3, h4⟩ := h
  refine ⟨by rw [mI_nr (by omega)]; exact h1, h2, h3, fun k hk => ?_⟩
  obtain ⟨q1, q2, q3, q4, q5, q6⟩ := h4 k hk
  have hb : (ov + k) % 24 < 24 := Nat.mod_lt _ (by omega)
  refine ⟨by rw [mI_nr (by omega)]; exact q1, by rw [mI_nr (by omega)]; exact q2, by rw [mI_nr (by omega)]; exact q3, by rw [mI_nr (by omega)]; exact q4, BYL_sRow q5 (by omega), BYL_sRow q6 (by omega)⟩
theorem msgC_sRow {b d e : Nat} (h : msgC M b d e m) (hc : a ≠ b ∧ a ≠ d ∧ (a < e ∨ e + 15 < a)) : msgC (sRow M a fr) b d e m := by
  obtain ⟨h1, h2, h3⟩ := h
  refine ⟨by rw [mI_nr (by omega)]; exact h1, by rw [mI_nr (by omega)]; exact h2, fun s hs hp => ?_⟩
  refine ⟨by rw [mI_nr (by omega)]; exact (h3 s hs hp).1, fun i hi => ?_⟩
  rw [mI_nr (by omega)]; exact (h3 s hs hp).2 i hi
theorem mNn_sRow (h : mNn n M) (hc : a ≠ 495) : mNn n (sRow M a fr) := by
  have e : ∀ k, k ≠ 3 → k < 64 → mI (sRow M a fr) 495 k = mI M 495 k := fun k h1 h2 => mI_nr (by omega)
  unfold mNn at *
  simp only [e 4 (by omega) (by omega), e 17 (by omega) (by omega), e 18 (by omega) (by omega), e 24 (by omega) (by omega), e 28 (by omega) (by omega), e 34 (by omega) (by omega), e 13 (by omega) (by omega), e 14 (by omega) (by omega), e 15 (by omega) (by omega), e 16 (by omega) (by omega), e 39 (by omega) (by omega), e 12 (by omega) (by omega), e 11 (by omega) (by omega), e 55 (by omega) (by omega), e 8 (by omega) (by omega), e 9 (by omega) (by omega), e 10 (by omega) (by omega), e 7 (by omega) (by omega), e 6 (by omega) (by omega), e 5 (by omega) (by omega)]
  exact h
theorem mIi_sRow (h : mIi f M) (hc : a ≠ 499 ∧ a ≠ 502 ∧ a ≠ 504 ∧ a ≠ 505 ∧ a ≠ 506 ∧ a ≠ 507 ∧ a ≠ 514 ∧ a ≠ 515) : mIi f (sRow M a fr) := by
  refine ⟨fun i hi => ?_, fun i hi => ?_, fun i hi => ?_, fun i hi => ?_, fun i hi => ?_⟩
  · rw [mI_nr (by omega)]; exact h.1 i hi
  · rw [mI_nr (by omega)]; exact h.2.1 i hi
  · rw [mI_nr (by omega), mI_nr (by omega), mI_nr (by omega)]; exact h.2.2.1 i hi
  · rw [mI_nr (by omega)]; exact h.2.2.2.1 i hi
  · rw [mI_nr (by omega), mI_nr (by omega)]; exact h.2.2.2.2 i hi
theorem mA_sRow (h : mA app M) (hc : a ≠ 510 ∧ a ≠ 511) : mA app (sRow M a fr) := fun i hi => by
  rw [mI_nr (by omega)]; exact ⟨(h i hi).1, fun k hk => by rw [mI_nr (by omega)]; exact (h i hi).2 k hk⟩
theorem mC_sRow (h : mC nc crd M) (hc : a ≠ 512 ∧ a ≠ 513) : mC nc crd (sRow M a fr) := fun i hi => by
  rw [mI_nr (by omega)]; exact ⟨(h i hi).1, fun k hk => by rw [mI_nr (by omega)]; exact (h i hi).2 k hk⟩
theorem mP_sRow (h : mP np pay M) (hc : a < 516 ∨ 530 < a) : mP np pay (sRow M a fr) := fun i hi => by
  have e : ∀ b k, 516 ≤ b → b ≤ 530 → mI (sRow M a fr) b k = mI M b k := fun b k h1 h2 => mI_nr (by omega)
  have := h i hi
  unfold payM at *
  simp only [fun k => e 516 k (by omega) (by omega), fun k => e 517 k (by omega) (by omega), fun k => e 518 k (by omega) (by omega), fun k => e 519 k (by omega) (by omega), fun k => e 520 k (by omega) (by omega), fun k => e 521 k (by omega) (by omega), fun k => e 522 k (by omega) (by omega), fun k => e 523 k (by omega) (by omega), fun k => e 526 k (by omega) (by omega), fun k => e 527 k (by omega) (by omega), fun k => e 528 k (by omega) (by omega), fun k => e 530 k (by omega) (by omega)]
  exact this
theorem mRr_sRow (h : mRr na arc M) (hc : a < 531 ∨ 538 < a) : mRr na arc (sRow M a fr) := fun i hi => by
  have e : ∀ b k, 531 ≤ b → b ≤ 538 → mI (sRow M a fr) b k = mI M b k := fun b k h1 h2 => mI_nr (by omega)
  have := h i hi
  unfold arcM at *
  simp only [fun k => e 531 k (by omega) (by omega), fun k => e 532 k (by omega) (by omega), fun k => e 533 k (by omega) (by omega), fun k => e 534 k (by omega) (by omega), fun k => e 535 k (by omega) (by omega), fun k => e 536 k (by omega) (by omega), fun k => e 537 k (by omega) (by omega), fun k => e 538 k (by omega) (by omega)]
  exact this
theorem msgM_sRow {k b c : Nat} (h : msgM M k b c m) (hc : a ≠ 495 ∧ a ≠ b ∧ a ≠ c) : msgM (sRow M a fr) k b c m := by
  refine ⟨by rw [mI_nr (by omega)]; exact h.1, fun s hs => ⟨fun hp => ⟨by rw [mI_nr (by omega)]; exact ((h.2 s hs).1 hp).1, fun i hi => ?_⟩, fun hp => by rw [mI_nr (by omega)]; exact (h.2 s hs).2 hp⟩⟩
  rw [mI_nr (by omega)]; exact ((h.2 s hs).1 hp).2 i hi
theorem BYM_sRow {k b : Nat} (h : BYM M k b xs) (hc : a ≠ 495 ∧ a ≠ b) : BYM (sRow M a fr) k b xs := ⟨by rw [mI_nr (by omega)]; exact h.1, fun i hi => by rw [mI_nr (by omega)]; exact h.2 i hi⟩
theorem mK_sRow (h : mK M) (hc : a < 496 ∨ 498 < a) : mK (sRow M a fr) := fun s hs => by
  rw [mI_nr (by omega), mI_nr (by omega), mI_nr (by omega)]; exact h s hs
theorem cN_uL (h : cN n M) : cN n (uL M a j u) := h
theorem cN_uR (h : cN n M) : cN n (uR M a j r) := h
theorem cN_uZ (h : cN n M) : cN n (uZ M) := h
theorem cI_uL (h : cI f M) : cI f (uL M a j u) := h
theorem cI_uR (h : cI f M) : cI f (uR M a j r) := h
theorem cI_uZ (h : cI f M) : cI f (uZ M) := h
theorem cL_uI (h : cL g M) : cL g (uI M a j v) := h
theorem cL_uR (h : cL g M) : cL g (uR M a j r) := h
theorem cL_uZ (h : cL g M) : cL g (uZ M) := h
theorem cF_uR (h : cF h0 M) : cF h0 (uR M a j r) := h
theorem cF_uZ (h : cF h0 M) : cF h0 (uZ M) := h
theorem cS_uI (h : cS np pay M) : cS np pay (uI M a j v) := h
theorem cS_uR (h : cS np pay M) : cS np pay (uR M a j r) := h
theorem cS_uZ (h : cS np pay M) : cS np pay (uZ M) := h
theorem cA_uL (h : cA c app M) : cA c app (uL M a j u) := h
theorem cA_uR (h : cA c app M) : cA c app (uR M a j r) := h
theorem cA_uZ (h : cA c app M) : cA c app (uZ M) := h
theorem cC_uI (h : cC nc crd M) : cC nc crd (uI M a j v) := h
theorem cC_uR (h : cC nc crd M) : cC nc crd (uR M a j r) := h
theorem cC_uZ (h : cC nc crd M) : cC nc crd (uZ M) := h
theorem cP_uZ (h : cP w np pay M) : cP w np pay (uZ M) := h
theorem cR_uL (h : cR ov na arc M) : cR ov na arc (uL M a j u) := h
theorem cR_uR (h : cR ov na arc M) : cR ov na arc (uR M a j r) := h
theorem cR_uZ (h : cR ov na arc M) : cR ov na arc (uZ M) := h
theorem mNn_uL (h : mNn n M) : mNn n (uL M a j u) := h
theorem mNn_uR (h : mNn n M) : mNn n (uR M a j r) := h
theorem mNn_uZ (h : mNn n M) : mNn n (uZ M) := h
theorem mIi_uL (h : mIi f M) : mIi f (uL M a j u) := h
theorem mIi_uR (h : mIi f M) : mIi f (uR M a j r) := h
theorem mIi_uZ (h : mIi f M) : mIi f (uZ M) := h
theorem mLl_uI (h : mLl g M) : mLl g (uI M a j v) := h
theorem mLl_uR (h : mLl g M) : mLl g (uR M a j r) := h
theorem mLl_uZ (h : mLl g M) : mLl g (uZ M) := h
theorem mA_uL (h : mA app M) : mA app (uL M a j u) := h
theorem mA_uR (h : mA app M) : mA app (uR M a j r) := h
theorem mA_uZ (h : mA app M) : mA app (uZ M) := h
theorem mC_uL (h : mC nc crd M) : mC nc crd (uL M a j u) := h
theorem mC_uR (h : mC nc crd M) : mC nc crd (uR M a j r) := h
theorem mC_uZ (h : mC nc crd M) : mC nc crd (uZ M) := h
theorem mP_uR (h : mP np pay M) : mP np pay (uR M a j r) := h
theorem mP_uZ (h : mP np pay M) : mP np pay (uZ M) := h
theorem mRr_uL (h : mRr na arc M) : mRr na arc (uL M a j u) := h
theorem mRr_uR (h : mRr na arc M) : mRr na arc (uR M a j r) := h
theorem mRr_uZ (h : mRr na arc M) : mRr na arc (uZ M) := h
theorem mK_uL (h : mK M) : mK (uL M a j u) := h
theorem mK_uR (h : mK M) : mK (uR M a j r) := h
theorem mK_uZ (h : mK M) : mK (uZ M) := h
theorem cL_sRow (h : cL g M) : cL g (sRow M a fr) := h
theorem cS_sRow (h : cS np pay M) : cS np pay (sRow M a fr) := h
theorem cC_sRow (h : cC nc crd M) : cC nc crd (sRow M a fr) := h
theorem mLl_sRow (h : mLl g M) : mLl g (sRow M a fr) := h
theorem BYL_uL {b d : Nat} (h : BYL M b d xs) : BYL (uL M a j u) b d xs := h
theorem BYM_uL {k b : Nat} (h : BYM M k b xs) : BYM (uL M a j u) k b xs := h
theorem msgC_uL {b d e : Nat} (h : msgC M b d e m) : msgC (uL M a j u) b d e m := h
theorem msgM_uL {k b c : Nat} (h : msgM M k b c m) : msgM (uL M a j u) k b c m := h
theorem BYL_uR {b d : Nat} (h : BYL M b d xs) : BYL (uR M a j r) b d xs := h
theorem BYM_uR {k b : Nat} (h : BYM M k b xs) : BYM (uR M a j r) k b xs := h
theorem msgC_uR {b d e : Nat} (h : msgC M b d e m) : msgC (uR M a j r) b d e m := h
theorem msgM_uR {k b c : Nat} (h : msgM M k b c m) : msgM (uR M a j r) k b c m := h
theorem BYL_uZ {b d : Nat} (h : BYL M b d xs) : BYL (uZ M) b d xs := h
theorem BYM_uZ {k b : Nat} (h : BYM M k b xs) : BYM (uZ M) k b xs := h
theorem msgC_uZ {b d e : Nat} (h : msgC M b d e m) : msgC (uZ M) b d e m := h
theorem msgM_uZ {k b c : Nat} (h : msgM M k b c m) : msgM (uZ M) k b c m := h
theorem cP_uR (h : cP w np pay M) (hnp : np ≤ 60) (hc : a < 147 ∨ 327 < a) : cP w np pay (uR M a j r) := ⟨fun i hi => by rw [mR_ne (by omega)]; exact h.1 i hi, h.2.1, fun i hi => payC_uR (h.2.2 i hi) (by have := (h.1 i (by omega)).2; omega)⟩
end KE2
