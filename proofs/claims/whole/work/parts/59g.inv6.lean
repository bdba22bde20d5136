/-! send -/
section WHO
variable {m : Msg} {s k : Nat}
theorem pb_and {a b : Nat} : pb (a &&& b) s = if pb b s = 1 then pb a s else 0 := by
  rw [pb_tb, pb_tb, pb_tb, Nat.testBit_and]
  cases a.testBit s <;> cases b.testBit s <;> rfl
theorem val_lt (h : okM m) (hs : s < 16) (hp : pb (gH m) s = 1) (hl : ltF s = false) : val m s < 10 ^ szF s := by
  obtain ⟨h1, h2, h3, h4⟩ := h.2.2 s hs hp
  refine Nat.lt_of_lt_of_le (vl_lt (fun i hi => ?_)) (Nat.pow_le_pow_right (by omega) h1)
  have := h4 i hi
  rw [hl] at this
  simpa using this
theorem ty_cases (h : gT m ∈ tys) : gT m = 100 ∨ gT m = 101 ∨ gT m = 110 ∨ gT m = 220 ∨ gT m = 221 ∨ gT m = 230 ∨ gT m = 400 ∨ gT m = 401 ∨ gT m = 410 ∨ gT m = 420 ∨ gT m = 421 ∨ gT m = 430 ∨ gT m = 500 ∨ gT m = 501 ∨ gT m = 510 ∨ gT m = 800 ∨ gT m = 810 := by
  simpa [tys] using h
theorem wh_1 (h : isWh m = true) (hy : gT m ∈ tys) (ht : gT m / 100 = 1) : clrB (gH m) 10 = 831 := by
  have h := of_decide_eq_true h
  rcases ty_cases hy with e | e | e | e | e | e | e | e | e | e | e | e | e | e | e | e | e <;> rw [e] at h ht <;> simp at h ht
  all_goals exact h
theorem wh_2 (h : isWh m = true) (hy : gT m ∈ tys) (ht : gT m / 100 = 2) : gH m = 639 := by
  have h := of_decide_eq_true h
  rcases ty_cases hy with e | e | e | e | e | e | e | e | e | e | e | e | e | e | e | e | e <;> rw [e] at h ht <;> simp at h ht
  all_goals exact h
theorem wh_4 (h : isWh m = true) (hy : gT m ∈ tys) (ht : gT m / 100 = 4) : clrB (gH m) 15 = 16441 := by
  have h := of_decide_eq_true h
  rcases ty_cases hy with e | e | e | e | e | e | e | e | e | e | e | e | e | e | e | e | e <;> rw [e] at h ht <;> simp at h ht
  all_goals exact h
theorem wh_5 (h : isWh m = true) (hy : gT m ∈ tys) (ht : gT m / 100 = 5) : gH m = 12312 := by
  have h := of_decide_eq_true h
  rcases ty_cases hy with e | e | e | e | e | e | e | e | e | e | e | e | e | e | e | e | e <;> rw [e] at h ht <;> simp at h ht
  all_goals exact h
theorem wh_8 (h : isWh m = true) (hy : gT m ∈ tys) (ht : gT m / 100 = 8) : gH m = 2056 ∧ gT m = 800 := by
  have h := of_decide_eq_true h
  rcases ty_cases hy with e | e | e | e | e | e | e | e | e | e | e | e | e | e | e | e | e <;> rw [e] at h ht <;> simp at h ht
  all_goals exact ⟨h, e⟩
theorem ty_kind (hy : gT m ∈ tys) : gT m / 100 = 1 ∨ gT m / 100 = 2 ∨ gT m / 100 = 4 ∨ gT m / 100 = 5 ∨ gT m / 100 = 8 := by
  rcases ty_cases hy with e | e | e | e | e | e | e | e | e | e | e | e | e | e | e | e | e <;> rw [e] <;> simp
/-- the fields that are surely there, and those that may be -/
theorem wh_pb (h : isWh m = true) (hy : gT m ∈ tys) (hk : k < 16) : (gT m / 100 = 1 → pb 831 k = 1 → pb (gH m) k = 1) ∧ (gT m / 100 = 2 → pb 639 k = 1 → pb (gH m) k = 1) ∧ (gT m / 100 = 4 → pb 16441 k = 1 → pb (gH m) k = 1) ∧ (gT m / 100 = 5 → pb 12312 k = 1 → pb (gH m) k = 1) := by
  refine ⟨fun q q2 => ?_, fun q q2 => ?_, fun q q2 => ?_, fun q q2 => ?_⟩
  · rw [← wh_1 h hy q, clrB_pb (by omega) hk] at q2
    split at q2
    · omega
    · exact q2
  · rw [wh_2 h hy q]; exact q2
  · rw [← wh_4 h hy q, clrB_pb (by omega) hk] at q2
    split at q2
    · omega
    · exact q2
  · rw [wh_5 h hy q]; exact q2
theorem wh_tr (h : isWh m = true) (hy : gT m ∈ tys) (h8 : gT m ≠ 800) : pb (gH m) 3 = 1 ∧ pb (gH m) 4 = 1 := by
  have h3 := wh_pb (k := 3) h hy (by omega)
  have h4 := wh_pb (k := 4) h hy (by omega)
  rcases ty_kind hy with q | q | q | q | q
  · exact ⟨h3.1 q rfl, h4.1 q rfl⟩
  · exact ⟨h3.2.1 q rfl, h4.2.1 q rfl⟩
  · exact ⟨h3.2.2.1 q rfl, h4.2.2.1 q rfl⟩
  · exact ⟨h3.2.2.2 q rfl, h4.2.2.2 q rfl⟩
  · exact absurd (wh_8 h hy q).2 h8
theorem wh_mx (h : isWh m = true) (hy : gT m ∈ tys) : mxL (gH m) 16 ≤ 100 := by
  rcases ty_kind hy with q | q | q | q | q
  · refine Nat.le_trans (mxL_mono (b := 1855) 16 (fun s hs hp => ?_)) (by decide)
    by_cases e : s = 10
    · subst e; rfl
    · have := clrB_pb (th := gH m) (s := 10) (k := s) (by omega) hs
      rw [if_neg e, wh_1 h hy q, hp] at this
      have e2 : ∀ s : Fin 16, pb 831 s.val = 1 → pb 1855 s.val = 1 := by decide
      exact e2 ⟨s, hs⟩ this
  · rw [wh_2 h hy q]; decide
  · refine Nat.le_trans (mxL_mono (b := 49209) 16 (fun s hs hp => ?_)) (by decide)
    by_cases e : s = 15
    · subst e; rfl
    · have := clrB_pb (th := gH m) (s := 15) (k := s) (by omega) hs
      rw [if_neg e, wh_4 h hy q, hp] at this
      have e2 : ∀ s : Fin 16, pb 16441 s.val = 1 → pb 49209 s.val = 1 := by decide
      exact e2 ⟨s, hs⟩ this
  · rw [wh_5 h hy q]; decide
  · rw [(wh_8 h hy q).1]; decide
/-- an answer's fields are among these -/
def okE (x : Msg) : Prop := okM x ∧ ∀ s, s < 16 → pb (gH x) s = 1 → pb 15357 s = 1
theorem okE_echo (h : okM m) (hy : gT m ∈ tys) : okE (echo m) := by
  refine ⟨⟨?_, ?_, fun s hs hp => ?_⟩, fun s hs hp => ?_⟩
  · show rpT m ≤ 9999
    unfold rpT
    rcases ty_cases hy with e | e | e | e | e | e | e | e | e | e | e | e | e | e | e | e | e <;> rw [e] <;> decide
  · show gH m &&& 2877 < 65536
    exact Nat.lt_of_le_of_lt Nat.and_le_left h.2.1
  · have hp : pb (gH m &&& 2877) s = 1 := hp
    rw [pb_and] at hp
    split at hp
    · exact h.2.2 s hs hp
    · omega
  · have hp : pb (gH m &&& 2877) s = 1 := hp
    rw [pb_and] at hp
    split at hp
    · have e2 : ∀ s : Fin 16, pb 2877 s.val = 1 → pb 15357 s.val = 1 := by decide
      exact e2 ⟨s, hs⟩ (by assumption)
    · omega
theorem okE_pt {x : Msg} {n : Nat} {f : Nat → Nat} (h : okE x) (hs : s < 16) (hf : okF s n f) (ha : pb 15357 s = 1) : okE (pt x s n f) := by
  refine ⟨okM_pt h.1 hs hf, fun k hk hp => ?_⟩
  have hp : pb (setB (gH x) s) k = 1 := hp
  rw [setB_pb] at hp
  split at hp
  · subst k; exact ha
  · exact h.2 k hk hp
theorem okE_ser {x : Msg} (h : okE x) : jB 160 (ser x) := by
  refine jB_of ?_ (ser_256 h.1)
  have h1 := ser_len h.1
  have h2 := mxL_mono (a := gH x) (b := 15357) 16 h.2
  have h3 : mxL 15357 16 = 72 := by decide
  omega
theorem okE_rsp {x : Msg} {r : Nat} (h : okE x) : okE (rsp x r) := okE_pt h (by omega) ⟨Nat.le_refl _, fun _ => rfl, szF_pos, fun i _ => Nat.lt_of_lt_of_le (dgt_lt (by omega)) (by simp [ltF])⟩ rfl
end WHO
section ISE
variable {t : Nat} {S : Sw} {m : Msg}
theorem i_told {r : Nat} (h : Jv t S) (ht : t < 64) (hm : okM m) (hy : gT m ∈ tys) : Jv (t + 1) (told S m r).2 := h.zl ht (okE_ser (okE_rsp (okE_echo hm hy)))
/-- what a happening leaves: the state keeps what is kept but for the journal, and the answer is well made -/
def hpOk (S : Sw) (x : Hp) : Prop := x.1 ≤ 99 ∧ (∀ y, okE y → okE (x.2.1 y)) ∧ (∀ j, j ≠ 39 ∧ j ≠ 12 → sN x.2.2 j = sN S j) ∧ sR x.2.2 = sR S
theorem hp_nay {r : Nat} (h : r ≤ 99) : hpOk S (nay r S) := ⟨h, fun _ h => h, fun _ _ => rfl, rfl⟩
theorem jS_wr2 {n : Nat → Nat} (h : jS (t + 1) n) (h10 : n 10 + 1 ≤ 100 * (t + 1)) (h4 : n 4 = 1) (h6 : n 6 = 0) (h9 : n 9 ≠ n 8) : jS (t + 1) (wr1 n) := by
  unfold wr1 spd
  unfold jS at *
  simp only [up1, Nat.reduceEqDiff, ↓reduceIte]
  split
  · simp [up1]; omega
  · simp [up1]
    split <;> omega
theorem keep_n {x : Ar} {j : Nat} : sN (keep S x) j = if j = 55 ∧ sN S 55 < 24 then sN S 55 + 1 else sN S j := by
  unfold keep
  split
  · rename_i q
    show up1 (sN S) 55 (sN S 55 + 1) j = _
    unfold up1
    by_cases e : j = 55
    · rw [if_pos e, if_pos ⟨e, q⟩]
    · rw [if_neg e, if_neg (fun q => e q.1)]
  · rename_i q
    show sN S j = _
    rw [if_neg (fun q2 => q q2.2)]
theorem jR_keep {x : Ar} {S1 : Sw} (h : jR (sN S1) (sR S1)) (h55 : sN S1 55 ≤ 24) (hx : okA (sN S1) x) (hu : ∀ k, k < sN S1 55 → ¬ (rA (sR S1 k) = rA x ∧ rT (sR S1 k) = rT x ∧ rK (sR S1 k) = rK x)) : jR (sN (keep S1 x)) (sR (keep S1 x)) := by
  by_cases q : sN S1 55 < 24
  · have e1 : sN (keep S1 x) = up1 (sN S1) 55 (sN S1 55 + 1) := by unfold keep; rw [if_pos q]; rfl
    have e2 : sR (keep S1 x) = up1 (sR S1) (sN S1 55) x := by unfold keep; rw [if_pos q]; rfl
    rw [e1, e2]
    refine ⟨fun k hk => ?_, fun i j hi hj => ?_⟩
    · have hk : k < sN S1 55 + 1 := hk
      show okA (up1 (sN S1) 55 _) (up1 (sR S1) (sN S1 55) x k)
      unfold up1
      split
      · exact hx
      · exact h.1 k (by omega)
    · have hi : i < sN S1 55 + 1 := hi
      have hj : j < sN S1 55 + 1 := hj
      unfold up1
      split <;> split
      · intro _ _ _; omega
      · intro q1 q2 q3
        exact absurd ⟨q1.symm, q2.symm, q3.symm⟩ (hu j (by omega))
      · intro q1 q2 q3
        exact absurd ⟨q1, q2, q3⟩ (hu i (by omega))
      · exact h.2 i j (by omega) (by omega)
  · have e0 : sN S1 55 = 24 := by omega
    have e1 : sN (keep S1 x) = sN S1 := by unfold keep; rw [if_neg q]; rfl
    have e2 : sR (keep S1 x) = fun k => if k < 23 then sR S1 (k + 1) else x := by unfold keep; rw [if_neg q]; rfl
    rw [e1, e2]
    refine ⟨fun k hk => ?_, fun i j hi hj => ?_⟩
    · simp only
      split
      · exact h.1 (k + 1) (by omega)
      · exact hx
    · simp only
      split <;> split
      · intro q1 q2 q3
        have := h.2 (i + 1) (j + 1) (by omega) (by omega) q1 q2 q3
        omega
      · intro q1 q2 q3
        exact absurd ⟨q1, q2, q3⟩ (hu (i + 1) (by omega))
      · intro q1 q2 q3
        exact absurd ⟨q1.symm, q2.symm, q3.symm⟩ (hu (j + 1) (by omega))
      · intro _ _ _; omega
theorem Jv_keep {x : Ar} {z : List Nat} {S1 : Sw} (h : Jv (t + 1) S1) (hx : okA (sN S1) x) (hu : ∀ k, k < sN S1 55 → ¬ (rA (sR S1 k) = rA x ∧ rT (sR S1 k) = rT x ∧ rK (sR S1 k) = rK x)) (h4 : sN S1 4 = 1) (h6 : sN S1 6 = 0) (h9 : sN S1 9 ≠ sN S1 8) (h10 : sN S1 10 ≤ 100 * t) (hz : jB 160 z) : Jv (t + 1) (wZ (wN (keep S1 x) (wr1 (sN (keep S1 x)))) z) := by
  have e := fun j => keep_n (S := S1) (x := x) (j := j)
  have hr := jR_keep h.2.2.2.2.2.1 h.1.2.1.2.2.2.2.2.2 hx hu
  obtain ⟨a1, a2, a3, a4, a5, a6, a7, a8, a9, a10, a11, a12⟩ := h
  have hs : jS (t + 1) (wr1 (sN (keep S1 x))) := by
    refine jS_wr2 ?_ ?_ ?_ ?_ ?_
    · unfold jS at *
      simp only [e, Nat.reduceEqDiff, false_and, true_and, if_false]
      split <;> omega
    · rw [e]; simp; omega
    · rw [e]; simp; omega
    · rw [e]; simp; omega
    · rw [e, e]; simpa using h9
  have w : ∀ j, j ≠ 10 ∧ j ≠ 7 ∧ j ≠ 6 ∧ j ≠ 9 ∧ j ≠ 55 → wr1 (sN (keep S1 x)) j = sN S1 j := fun j hj => by rw [wr1_ne (by omega), e, if_neg (by omega)]
  have w55 : wr1 (sN (keep S1 x)) 55 = sN (keep S1 x) 55 := wr1_ne (by omega)
  have kI : sI (keep S1 x) = sI S1 := by unfold keep; split <;> rfl
  have kL : sL (keep S1 x) = sL S1 := by unfold keep; split <;> rfl
  have kP : sP (keep S1 x) = sP S1 := by unfold keep; split <;> rfl
  have kQ : sQ (keep S1 x) = sQ S1 := by unfold keep; split <;> rfl
  have kC : sC (keep S1 x) = sC S1 := by unfold keep; split <;> rfl
  have kF : sF (keep S1 x) = sF S1 := by unfold keep; split <;> rfl
  have kD : sD (keep S1 x) = sD S1 := by unfold keep; split <;> rfl
  have kT : sT (keep S1 x) = sT S1 := by unfold keep; split <;> rfl
  refine ⟨hs, ?_, ?_, ?_, ?_, ?_, ?_, ?_, ?_, ?_, ?_, hz⟩
  · show jI (t + 1) (wr1 (sN (keep S1 x))) (sI (keep S1 x))
    rw [kI]
    unfold jI at *
    rw [w 24 (by omega), w 18 (by omega), w 28 (by omega), w 34 (by omega)]
    exact a2
  · show jL (t + 1) (sL (keep S1 x))
    rw [kL]; exact a3
  · show jP (wr1 (sN (keep S1 x))) (sP (keep S1 x))
    rw [kP]
    exact a4.mono (w 39 (by omega)) (Nat.le_of_eq (w 12 (by omega)).symm) (Nat.le_of_eq (w 17 (by omega)).symm) (Nat.le_of_eq (w 28 (by omega)).symm) (w 11 (by omega))
  · show jU (wr1 (sN (keep S1 x)) 39) (sP (keep S1 x))
    rw [kP, w 39 (by omega)]; exact a5
  · show jR (wr1 (sN (keep S1 x))) (sR (keep S1 x))
    exact hr.mono w55 (Nat.le_of_eq (by rw [w 17 (by omega), e]; simp))
  · show jQ (wr1 (sN (keep S1 x))) (sQ (keep S1 x))
    rw [kQ]; exact a7.mono (Nat.le_of_eq (w 11 (by omega)).symm)
  · show jC (wr1 (sN (keep S1 x))) (sC (keep S1 x))
    rw [kC]; exact a8.mono (w 34 (by omega))
  · intro a ha
    have ha : a < wr1 (sN (keep S1 x)) 28 := ha
    rw [w 28 (by omega)] at ha
    have e3 : fre (wZ (wN (keep S1 x) (wr1 (sN (keep S1 x)))) z) a = fre S1 a := by
      show sL (keep S1 x) 509 a - sL (keep S1 x) 508 a - sumF (hOf (sP (keep S1 x)) a) (wr1 (sN (keep S1 x)) 39) - sumF (kOf (sP (keep S1 x)) a) (wr1 (sN (keep S1 x)) 39) = _
      rw [kL, kP, w 39 (by omega)]
      rfl
    rw [e3]
    show (0 ≤ fre S1 a ∨ sF (keep S1 x) a ≤ fre S1 a) ∧ fre S1 a ≤ _ ∧ -1000000000000 ≤ sF (keep S1 x) a ∧ sF (keep S1 x) a ≤ 2000000000000
    rw [kF]
    exact a9 a ha
  · show okM (sD (keep S1 x))
    rw [kD]; exact a10
  · show jB 400 (sT (keep S1 x))
    rw [kT]; exact a11
/-- a payment comes -/
theorem Jv_come {p : Py} {q : Nat → List Nat} (h : Jv t S) (ht : t < 64) (h60 : sN S 39 < 60) (h4 : sN S 4 = 1) (hp : okPy (up1 (sN S) 12 (sN S 12 + 1)) p) (h40 : qI p 40 = sN S 12) (hk : ∀ i, i < sN S 39 → ¬ (qI (sP S i) 41 = qI p 41 ∧ ∀ j, j < 12 → qR (sP S i) j = qR p j)) (hQq : jQ (sN S) q)
    (hf : ∀ a, a < sN S 28 → (hq a p = 0 ∨ (0 ≤ hq a p ∧ hq a p ≤ fre S a)) ∧ kq a p = 0) : Jv (t + 1) (wQ (come S p) q) := by
  obtain ⟨a1, a2, a3, a4, a5, a6, a7, a8, a9, a10⟩ := h
  refine ⟨?_, a2.up, a3.up, ?_, ?_, a6.mono rfl (Nat.le_refl _), hQq, a8.mono rfl, ?_, a10⟩
  · show jS (t + 1) (up1 (up1 (sN S) 39 (sN S 39 + 1)) 12 (sN S 12 + 1))
    unfold jS at *
    simp [up1]
    omega
  · intro i hi
    have hi : i < sN S 39 + 1 := hi
    show okPy (up1 (up1 (sN S) 39 (sN S 39 + 1)) 12 (sN S 12 + 1)) (up1 (sP S) (sN S 39) p i)
    unfold up1
    split
    · exact hp.mono (by simp [up1]) (by simp [up1]) (by simp [up1]) (by simp [up1])
    · exact (a4 i (by omega)).mono (by simp) (by simp) (by simp) (by simp)
  · show jU (sN S 39 + 1) (up1 (sP S) (sN S 39) p)
    refine ⟨fun i j hi hj => ?_, fun i j hi hj => ?_⟩
    · unfold up1
      split <;> split
      · intro; omega
      · intro q
        have := (a4 j (by omega)).1
        omega
      · intro q
        have := (a4 i (by omega)).1
        omega
      · exact a5.1 i j (by omega) (by omega)
    · unfold up1
      split <;> split
      · intro _ _; omega
      · intro q1 q2
        exact absurd ⟨q1.symm, fun k hk => (q2 k hk).symm⟩ (hk j (by omega))
      · intro q1 q2
        exact absurd ⟨q1, q2⟩ (hk i (by omega))
      · exact a5.2 i j (by omega) (by omega)
  · intro a ha
    have ha : a < sN S 28 := ha
    have h5 := a9 a ha
    have e3 : fre (wQ (come S p) q) a = fre S a - hq a p - kq a p := by
      show sL S 509 a - sL S 508 a - sumF (hOf (up1 (sP S) (sN S 39) p) a) (sN S 39 + 1) - sumF (kOf (up1 (sP S) (sN S 39) p) a) (sN S 39 + 1) = _
      rw [sumF, sumF, sumF_congr (f := hOf (up1 (sP S) (sN S 39) p) a) (g := hOf (sP S) a) (fun i hi => ?_), sumF_congr (f := kOf (up1 (sP S) (sN S 39) p) a) (g := kOf (sP S) a) (fun i hi => ?_)]
      · have e1 : hOf (up1 (sP S) (sN S 39) p) a (sN S 39) = hq a p := by rw [hOf_q]; simp [up1]
        have e2 : kOf (up1 (sP S) (sN S 39) p) a (sN S 39) = kq a p := by rw [kOf_q]; simp [up1]
        rw [e1, e2]
        unfold fre hld lkd
        omega
      · rw [kOf_q, kOf_q]; simp [up1, show i ≠ sN S 39 by omega]
      · rw [hOf_q, hOf_q]; simp [up1, show i ≠ sN S 39 by omega]
    rw [e3]
    have hf := hf a ha
    show (0 ≤ _ ∨ sF S a ≤ _) ∧ _ ≤ _ ∧ -1000000000000 ≤ sF S a ∧ sF S a ≤ 2000000000000
    omega
end ISE
