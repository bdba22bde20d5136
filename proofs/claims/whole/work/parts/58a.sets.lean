/-! WRITES INTO THE TABLES -/
section SETS
variable {M : Mem} {i v : Nat} {y : Int32} {z : Int64} {n : Nat → Nat} {x : Int} {f : Nat → Nat → Nat} {g : Nat → Nat → Int}
theorem st_i {a b k c j d l : Nat} (h : mI M b k = nI (f d l)) (e : (b = a ∧ k = i) ↔ (d = c ∧ l = j)) (hv : y = nI v) : mI (uI M a i y) b k = nI (up2 f c j v d l) := by
  subst hv
  rw [mI_uI]; unfold up2
  by_cases q : b = a ∧ k = i
  · rw [if_pos q, if_pos (e.mp q)]
  · rw [if_neg q, if_neg (fun q2 => q (e.mpr q2))]; exact h
theorem st_l {a b k c j d l : Nat} (h : mL M b k = lI (g d l)) (e : (b = a ∧ k = i) ↔ (d = c ∧ l = j)) (hv : z = lI x) : mL (uL M a i z) b k = lI (up2 g c j x d l) := by
  subst hv
  rw [mL_uL]; unfold up2
  by_cases q : b = a ∧ k = i
  · rw [if_pos q, if_pos (e.mp q)]
  · rw [if_neg q, if_neg (fun q2 => q (e.mpr q2))]; exact h
theorem cI_2 (h : cI f M) (hi : i < 6) (hv : y = nI v) : cI (up2 f 499 i v) (uI M 2 i y) :=
  ⟨fun k hk => ⟨st_i (h.1 k hk).1 (by omega) hv, st_i (h.1 k hk).2.1 (by omega) hv, st_i (h.1 k hk).2.2 (by omega) hv⟩, fun k hk => ⟨st_i (h.2.1 k hk).1 (by omega) hv, st_i (h.2.1 k hk).2.1 (by omega) hv, st_i (h.2.1 k hk).2.2 (by omega) hv⟩, fun k hk => st_i (h.2.2.1 k hk) (by omega) hv, fun k hk => ⟨st_i (h.2.2.2 k hk).1 (by omega) hv, st_i (h.2.2.2 k hk).2 (by omega) hv⟩⟩
theorem cI_3 (h : cI f M) (hi : i < 6) (hv : y = nI v) : cI (up2 f 499 (6 + i) v) (uI M 3 i y) :=
  ⟨fun k hk => ⟨st_i (h.1 k hk).1 (by omega) hv, st_i (h.1 k hk).2.1 (by omega) hv, st_i (h.1 k hk).2.2 (by omega) hv⟩, fun k hk => ⟨st_i (h.2.1 k hk).1 (by omega) hv, st_i (h.2.1 k hk).2.1 (by omega) hv, st_i (h.2.1 k hk).2.2 (by omega) hv⟩, fun k hk => st_i (h.2.2.1 k hk) (by omega) hv, fun k hk => ⟨st_i (h.2.2.2 k hk).1 (by omega) hv, st_i (h.2.2.2 k hk).2 (by omega) hv⟩⟩
theorem cI_145 (h : cI f M) (hi : i < 6) (hv : y = nI v) : cI (up2 f 502 i v) (uI M 145 i y) :=
  ⟨fun k hk => ⟨st_i (h.1 k hk).1 (by omega) hv, st_i (h.1 k hk).2.1 (by omega) hv, st_i (h.1 k hk).2.2 (by omega) hv⟩, fun k hk => ⟨st_i (h.2.1 k hk).1 (by omega) hv, st_i (h.2.1 k hk).2.1 (by omega) hv, st_i (h.2.1 k hk).2.2 (by omega) hv⟩, fun k hk => st_i (h.2.2.1 k hk) (by omega) hv, fun k hk => ⟨st_i (h.2.2.2 k hk).1 (by omega) hv, st_i (h.2.2.2 k hk).2 (by omega) hv⟩⟩
theorem cI_4 (h : cI f M) (hi : i < 40) (hv : y = nI v) : cI (up2 f 504 i v) (uI M 4 i y) :=
  ⟨fun k hk => ⟨st_i (h.1 k hk).1 (by omega) hv, st_i (h.1 k hk).2.1 (by omega) hv, st_i (h.1 k hk).2.2 (by omega) hv⟩, fun k hk => ⟨st_i (h.2.1 k hk).1 (by omega) hv, st_i (h.2.1 k hk).2.1 (by omega) hv, st_i (h.2.1 k hk).2.2 (by omega) hv⟩, fun k hk => st_i (h.2.2.1 k hk) (by omega) hv, fun k hk => ⟨st_i (h.2.2.2 k hk).1 (by omega) hv, st_i (h.2.2.2 k hk).2 (by omega) hv⟩⟩
theorem cI_5 (h : cI f M) (hi : i < 40) (hv : y = nI v) : cI (up2 f 505 i v) (uI M 5 i y) :=
  ⟨fun k hk => ⟨st_i (h.1 k hk).1 (by omega) hv, st_i (h.1 k hk).2.1 (by omega) hv, st_i (h.1 k hk).2.2 (by omega) hv⟩, fun k hk => ⟨st_i (h.2.1 k hk).1 (by omega) hv, st_i (h.2.1 k hk).2.1 (by omega) hv, st_i (h.2.1 k hk).2.2 (by omega) hv⟩, fun k hk => st_i (h.2.2.1 k hk) (by omega) hv, fun k hk => ⟨st_i (h.2.2.2 k hk).1 (by omega) hv, st_i (h.2.2.2 k hk).2 (by omega) hv⟩⟩
theorem cI_6 (h : cI f M) (hi : i < 40) (hv : y = nI v) : cI (up2 f 506 i v) (uI M 6 i y) :=
  ⟨fun k hk => ⟨st_i (h.1 k hk).1 (by omega) hv, st_i (h.1 k hk).2.1 (by omega) hv, st_i (h.1 k hk).2.2 (by omega) hv⟩, fun k hk => ⟨st_i (h.2.1 k hk).1 (by omega) hv, st_i (h.2.1 k hk).2.1 (by omega) hv, st_i (h.2.1 k hk).2.2 (by omega) hv⟩, fun k hk => st_i (h.2.2.1 k hk) (by omega) hv, fun k hk => ⟨st_i (h.2.2.2 k hk).1 (by omega) hv, st_i (h.2.2.2 k hk).2 (by omega) hv⟩⟩
theorem cI_9 (h : cI f M) (hi : i < 100) (hv : y = nI v) : cI (up2 f 514 i v) (uI M 9 i y) :=
  ⟨fun k hk => ⟨st_i (h.1 k hk).1 (by omega) hv, st_i (h.1 k hk).2.1 (by omega) hv, st_i (h.1 k hk).2.2 (by omega) hv⟩, fun k hk => ⟨st_i (h.2.1 k hk).1 (by omega) hv, st_i (h.2.1 k hk).2.1 (by omega) hv, st_i (h.2.1 k hk).2.2 (by omega) hv⟩, fun k hk => st_i (h.2.2.1 k hk) (by omega) hv, fun k hk => ⟨st_i (h.2.2.2 k hk).1 (by omega) hv, st_i (h.2.2.2 k hk).2 (by omega) hv⟩⟩
theorem cI_10 (h : cI f M) (hi : i < 100) (hv : y = nI v) : cI (up2 f 515 i v) (uI M 10 i y) :=
  ⟨fun k hk => ⟨st_i (h.1 k hk).1 (by omega) hv, st_i (h.1 k hk).2.1 (by omega) hv, st_i (h.1 k hk).2.2 (by omega) hv⟩, fun k hk => ⟨st_i (h.2.1 k hk).1 (by omega) hv, st_i (h.2.1 k hk).2.1 (by omega) hv, st_i (h.2.1 k hk).2.2 (by omega) hv⟩, fun k hk => st_i (h.2.2.1 k hk) (by omega) hv, fun k hk => ⟨st_i (h.2.2.2 k hk).1 (by omega) hv, st_i (h.2.2.2 k hk).2 (by omega) hv⟩⟩
theorem cI_acc (h : cI f M) (hi : i < 64) (hv : y = nI v) : cI (up2 f 507 i v) (uI M (11 + 2 * i) 1 y) :=
  ⟨fun k hk => ⟨st_i (h.1 k hk).1 (by omega) hv, st_i (h.1 k hk).2.1 (by omega) hv, st_i (h.1 k hk).2.2 (by omega) hv⟩, fun k hk => ⟨st_i (h.2.1 k hk).1 (by omega) hv, st_i (h.2.1 k hk).2.1 (by omega) hv, st_i (h.2.1 k hk).2.2 (by omega) hv⟩, fun k hk => st_i (h.2.2.1 k hk) (by omega) hv, fun k hk => ⟨st_i (h.2.2.2 k hk).1 (by omega) hv, st_i (h.2.2.2 k hk).2 (by omega) hv⟩⟩
theorem mIi_set {a : Nat} (h : mIi f M) (hv : y = nI v) : mIi (up2 f a i v) (uI M a i y) := ⟨fun k hk => st_i (h.1 k hk) Iff.rfl hv, fun k hk => st_i (h.2.1 k hk) Iff.rfl hv, fun k hk => ⟨st_i (h.2.2.1 k hk).1 Iff.rfl hv, st_i (h.2.2.1 k hk).2.1 Iff.rfl hv, st_i (h.2.2.1 k hk).2.2 Iff.rfl hv⟩, fun k hk => st_i (h.2.2.2.1 k hk) Iff.rfl hv, fun k hk => ⟨st_i (h.2.2.2.2 k hk).1 Iff.rfl hv, st_i (h.2.2.2.2 k hk).2 Iff.rfl hv⟩⟩
theorem cL_141 (h : cL g M) (hi : i < 6) (hv : z = lI x) : cL (up2 g 500 i x) (uL M 141 i z) :=
  ⟨fun k hk => ⟨st_l (h.1 k hk).1 (by omega) hv, st_l (h.1 k hk).2.1 (by omega) hv, st_l (h.1 k hk).2.2 (by omega) hv⟩, fun k hk => ⟨st_l (h.2.1 k hk).1 (by omega) hv, st_l (h.2.1 k hk).2 (by omega) hv⟩, fun k hk => ⟨st_l (h.2.2 k hk).1 (by omega) hv, st_l (h.2.2 k hk).2 (by omega) hv⟩⟩
theorem cL_142 (h : cL g M) (hi : i < 6) (hv : z = lI x) : cL (up2 g 501 i x) (uL M 142 i z) :=
  ⟨fun k hk => ⟨st_l (h.1 k hk).1 (by omega) hv, st_l (h.1 k hk).2.1 (by omega) hv, st_l (h.1 k hk).2.2 (by omega) hv⟩, fun k hk => ⟨st_l (h.2.1 k hk).1 (by omega) hv, st_l (h.2.1 k hk).2 (by omega) hv⟩, fun k hk => ⟨st_l (h.2.2 k hk).1 (by omega) hv, st_l (h.2.2 k hk).2 (by omega) hv⟩⟩
theorem cL_146 (h : cL g M) (hi : i < 6) (hv : z = lI x) : cL (up2 g 503 i x) (uL M 146 i z) :=
  ⟨fun k hk => ⟨st_l (h.1 k hk).1 (by omega) hv, st_l (h.1 k hk).2.1 (by omega) hv, st_l (h.1 k hk).2.2 (by omega) hv⟩, fun k hk => ⟨st_l (h.2.1 k hk).1 (by omega) hv, st_l (h.2.1 k hk).2 (by omega) hv⟩, fun k hk => ⟨st_l (h.2.2 k hk).1 (by omega) hv, st_l (h.2.2 k hk).2 (by omega) hv⟩⟩
theorem cL_143 (h : cL g M) (hi : i < 7) (hv : z = lI x) : cL (up2 g 500 (6 + i) x) (uL M 143 i z) :=
  ⟨fun k hk => ⟨st_l (h.1 k hk).1 (by omega) hv, st_l (h.1 k hk).2.1 (by omega) hv, st_l (h.1 k hk).2.2 (by omega) hv⟩, fun k hk => ⟨st_l (h.2.1 k hk).1 (by omega) hv, st_l (h.2.1 k hk).2 (by omega) hv⟩, fun k hk => ⟨st_l (h.2.2 k hk).1 (by omega) hv, st_l (h.2.2 k hk).2 (by omega) hv⟩⟩
theorem cL_144 (h : cL g M) (hi : i < 7) (hv : z = lI x) : cL (up2 g 501 (6 + i) x) (uL M 144 i z) :=
  ⟨fun k hk => ⟨st_l (h.1 k hk).1 (by omega) hv, st_l (h.1 k hk).2.1 (by omega) hv, st_l (h.1 k hk).2.2 (by omega) hv⟩, fun k hk => ⟨st_l (h.2.1 k hk).1 (by omega) hv, st_l (h.2.1 k hk).2 (by omega) hv⟩, fun k hk => ⟨st_l (h.2.2 k hk).1 (by omega) hv, st_l (h.2.2 k hk).2 (by omega) hv⟩⟩
theorem cL_min (h : cL g M) (hi : i < 64) (hv : z = lI x) : cL (up2 g 508 i x) (uL M (11 + 2 * i) 2 z) :=
  ⟨fun k hk => ⟨st_l (h.1 k hk).1 (by omega) hv, st_l (h.1 k hk).2.1 (by omega) hv, st_l (h.1 k hk).2.2 (by omega) hv⟩, fun k hk => ⟨st_l (h.2.1 k hk).1 (by omega) hv, st_l (h.2.1 k hk).2 (by omega) hv⟩, fun k hk => ⟨st_l (h.2.2 k hk).1 (by omega) hv, st_l (h.2.2 k hk).2 (by omega) hv⟩⟩
theorem cL_bal (h : cL g M) (hi : i < 64) (hv : z = lI x) : cL (up2 g 509 i x) (uL M (11 + 2 * i) 4 z) :=
  ⟨fun k hk => ⟨st_l (h.1 k hk).1 (by omega) hv, st_l (h.1 k hk).2.1 (by omega) hv, st_l (h.1 k hk).2.2 (by omega) hv⟩, fun k hk => ⟨st_l (h.2.1 k hk).1 (by omega) hv, st_l (h.2.1 k hk).2 (by omega) hv⟩, fun k hk => ⟨st_l (h.2.2 k hk).1 (by omega) hv, st_l (h.2.2 k hk).2 (by omega) hv⟩⟩
theorem mLl_set {a : Nat} (h : mLl g M) (hv : z = lI x) : mLl (up2 g a i x) (uL M a i z) := ⟨fun k hk => ⟨st_l (h.1 k hk).1 Iff.rfl hv, st_l (h.1 k hk).2 Iff.rfl hv⟩, fun k hk => st_l (h.2.1 k hk) Iff.rfl hv, fun k hk => ⟨st_l (h.2.2 k hk).1 Iff.rfl hv, st_l (h.2.2 k hk).2 Iff.rfl hv⟩⟩
theorem cN_4y (h : cN n M) (hv : y = nI v) : cN (up1 n 4 v) (uI M 0 8 y) := hv ▸ cN_4 h
theorem mNn_4y (h : mNn n M) (hv : y = nI v) : mNn (up1 n 4 v) (uI M 495 4 y) := hv ▸ mNn_4 h
theorem cN_17y (h : cN n M) (hv : y = nI v) : cN (up1 n 17 v) (uI M 1 1 y) := hv ▸ cN_17 h
theorem mNn_17y (h : mNn n M) (hv : y = nI v) : mNn (up1 n 17 v) (uI M 495 17 y) := hv ▸ mNn_17 h
theorem cN_18y (h : cN n M) (hv : y = nI v) : cN (up1 n 18 v) (uI M 1 3 y) := hv ▸ cN_18 h
theorem mNn_18y (h : mNn n M) (hv : y = nI v) : mNn (up1 n 18 v) (uI M 495 18 y) := hv ▸ mNn_18 h
theorem cN_24y (h : cN n M) (hv : y = nI v) : cN (up1 n 24 v) (uI M 1 7 y) := hv ▸ cN_24 h
theorem mNn_24y (h : mNn n M) (hv : y = nI v) : mNn (up1 n 24 v) (uI M 495 24 y) := hv ▸ mNn_24 h
theorem cN_28y (h : cN n M) (hv : y = nI v) : cN (up1 n 28 v) (uI M 1 9 y) := hv ▸ cN_28 h
theorem mNn_28y (h : mNn n M) (hv : y = nI v) : mNn (up1 n 28 v) (uI M 495 28 y) := hv ▸ mNn_28 h
theorem cN_34y (h : cN n M) (hv : y = nI v) : cN (up1 n 34 v) (uI M 1 13 y) := hv ▸ cN_34 h
theorem mNn_34y (h : mNn n M) (hv : y = nI v) : mNn (up1 n 34 v) (uI M 495 34 y) := hv ▸ mNn_34 h
theorem cN_13y (h : cN n M) (hv : y = nI v) : cN (up1 n 13 v) (uI M 1 14 y) := hv ▸ cN_13 h
theorem mNn_13y (h : mNn n M) (hv : y = nI v) : mNn (up1 n 13 v) (uI M 495 13 y) := hv ▸ mNn_13 h
theorem cN_14y (h : cN n M) (hv : y = nI v) : cN (up1 n 14 v) (uI M 1 15 y) := hv ▸ cN_14 h
theorem mNn_14y (h : mNn n M) (hv : y = nI v) : mNn (up1 n 14 v) (uI M 495 14 y) := hv ▸ mNn_14 h
theorem cN_15y (h : cN n M) (hv : y = nI v) : cN (up1 n 15 v) (uI M 1 16 y) := hv ▸ cN_15 h
theorem mNn_15y (h : mNn n M) (hv : y = nI v) : mNn (up1 n 15 v) (uI M 495 15 y) := hv ▸ mNn_15 h
theorem cN_16y (h : cN n M) (hv : y = nI v) : cN (up1 n 16 v) (uI M 1 17 y) := hv ▸ cN_16 h
theorem mNn_16y (h : mNn n M) (hv : y = nI v) : mNn (up1 n 16 v) (uI M 495 16 y) := hv ▸ mNn_16 h
theorem cN_39y (h : cN n M) (hv : y = nI v) : cN (up1 n 39 v) (uI M 139 3 y) := hv ▸ cN_39 h
theorem mNn_39y (h : mNn n M) (hv : y = nI v) : mNn (up1 n 39 v) (uI M 495 39 y) := hv ▸ mNn_39 h
theorem cN_12y (h : cN n M) (hv : y = nI v) : cN (up1 n 12 v) (uI M 139 4 y) := hv ▸ cN_12 h
theorem mNn_12y (h : mNn n M) (hv : y = nI v) : mNn (up1 n 12 v) (uI M 495 12 y) := hv ▸ mNn_12 h
theorem cN_11y (h : cN n M) (hv : y = nI v) : cN (up1 n 11 v) (uI M 139 5 y) := hv ▸ cN_11 h
theorem mNn_11y (h : mNn n M) (hv : y = nI v) : mNn (up1 n 11 v) (uI M 495 11 y) := hv ▸ mNn_11 h
theorem cN_55y (h : cN n M) (hv : y = nI v) : cN (up1 n 55 v) (uI M 328 6 y) := hv ▸ cN_55 h
theorem mNn_55y (h : mNn n M) (hv : y = nI v) : mNn (up1 n 55 v) (uI M 495 55 y) := hv ▸ mNn_55 h
theorem cN_9y (h : cN n M) (hv : y = nI v) : cN (up1 n 9 v) (uI M 431 1 y) := hv ▸ cN_9 h
theorem mNn_9y (h : mNn n M) (hv : y = nI v) : mNn (up1 n 9 v) (uI M 495 9 y) := hv ▸ mNn_9 h
theorem cN_10y (h : cN n M) (hv : y = nI v) : cN (up1 n 10 v) (uI M 431 2 y) := hv ▸ cN_10 h
theorem mNn_10y (h : mNn n M) (hv : y = nI v) : mNn (up1 n 10 v) (uI M 495 10 y) := hv ▸ mNn_10 h
theorem cN_6y (h : cN n M) (hv : y = nI v) : cN (up1 n 6 v) (uI M 431 4 y) := hv ▸ cN_6 h
theorem mNn_6y (h : mNn n M) (hv : y = nI v) : mNn (up1 n 6 v) (uI M 495 6 y) := hv ▸ mNn_6 h
theorem cN_5y (h : cN n M) (hv : y = nI v) : cN (up1 n 5 v) (uI M 431 5 y) := hv ▸ cN_5 h
theorem mNn_5y (h : mNn n M) (hv : y = nI v) : mNn (up1 n 5 v) (uI M 495 5 y) := hv ▸ mNn_5 h
theorem cN_7y (h : cN n M) (hv : y = nI v - 1) : cN (up1 n 7 v) (uI M 431 3 y) := by
  subst hv
  unfold cN at *
  simp [mI_uI, up1, h]
theorem mNn_7y (h : mNn n M) (hv : y = nI v - 1) : mNn (up1 n 7 v) (uI M 495 7 y) := by
  subst hv
  unfold mNn at *
  simp [mI_uI, up1, h]
end SETS
