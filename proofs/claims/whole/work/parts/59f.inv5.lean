/-! ticks -/
section ITI
variable {t : Nat} {S : Sw} {pay : Nat → Py} {u a k : Nat} {L : Nat → Nat → Int}
def lq (a u : Nat) (p : Py) : Int := if (lapB p u = true ∧ qI p 52 = 2) ∧ qI p 45 - 1 = a then qL p 53 else 0
theorem lapL_509 : ∀ (k a : Nat), lapL pay u L k 509 a = L 509 a - sumF (fun i => lq a u (pay i)) k
  | 0, a => by simp [lapL, sumF]
  | k + 1, a => by
    rw [lapL, sumF]
    have h := lapL_509 k a
    have h' := lapL_509 k (qI (pay k) 45 - 1)
    unfold lq
    split
    · rename_i q
      by_cases e : a = qI (pay k) 45 - 1
      · subst e
        rw [if_pos ⟨q, rfl⟩]
        simp only [up2, and_self, if_true]
        rw [h']
        unfold lq
        omega
      · rw [if_neg (fun q2 => e q2.2.symm)]
        simp only [up2, e, and_false, if_false]
        rw [h]
        unfold lq
        omega
    · rename_i q
      rw [if_neg (fun q2 => q q2.1), h]
      unfold lq
      omega
theorem lapL_ne {j : Nat} (hj : j ≠ 509) : ∀ k, lapL pay u L k j a = L j a
  | 0 => rfl
  | k + 1 => by
    rw [lapL]
    split
    · rw [← lapL_ne hj k]
      simp [up2, hj]
    · exact lapL_ne hj k
theorem qI_ends {p : Py} {j : Nat} : qI (ends p u) j = if j = 51 then (if 0 < qL p 49 then u + 1 else 0) else if j = 47 then (if 0 < qL p 49 then 3 else 2) else if j = 50 then 0 else qI p j := rfl
theorem qL_ends {p : Py} {j : Nat} : qL (ends p u) j = if j = 48 then 0 else qL p j := rfl
theorem qI_lapA {p : Py} {j : Nat} (h : j ≠ 51 ∧ j ≠ 47 ∧ j ≠ 50) : qI (lapA p u) j = qI p j := by
  unfold lapA
  split
  · rw [qI_ends, if_neg h.1, if_neg h.2.1, if_neg h.2.2]
  · rfl
theorem qL_lapA {p : Py} {j : Nat} (h : j ≠ 48) : qL (lapA p u) j = qL p j := by
  unfold lapA
  split
  · rw [qL_ends, if_neg h]
  · rfl
theorem qI_lapP {p : Py} {j : Nat} (h : j ≠ 51 ∧ j ≠ 47 ∧ j ≠ 50 ∧ j ≠ 52 ∧ j ≠ 54) : qI (lapP p u) j = qI p j := by
  unfold lapP
  split
  · unfold clsP
    rw [qI_pIu, if_neg (by omega), qI_pIu, if_neg (by omega), qI_lapA (by omega)]
  · exact qI_lapA (by omega)
theorem qL_lapP {p : Py} {j : Nat} : qL (lapP p u) j = qL (lapA p u) j := by
  unfold lapP
  split <;> rfl
theorem qR_lapP {p : Py} : qR (lapP p u) = qR p ∧ qC (lapP p u) = qC p := by
  unfold lapP lapA clsP
  split <;> split <;> exact ⟨rfl, rfl⟩
theorem okP_lapA {n n' : Nat → Nat} {p : Py} (h : okPy n p) (h1 : n' 12 = n 12) (h2 : n' 17 = n 17) (h3 : n' 28 = n 28) (h4 : n 11 ≤ n' 11) (h5 : n' 11 ≤ 1000000) : okPy n' (lapA p (n' 11)) := by
  obtain ⟨b1, b2, b3, b4, b5, b6, b7, b8, b9, b10⟩ := h
  unfold lapA
  split
  · rename_i q
    refine ⟨?_, b2, b3, ?_, ?_, ?_, ?_, ?_, ?_, ?_⟩
    all_goals simp only [qI_ends, qL_ends, Nat.reduceEqDiff, ↓reduceIte]
    all_goals by_cases c : 0 < qL p 49 <;> (try simp only [c, ↓reduceIte]) <;> first | omega | (simp; done) | (simp; omega)
  · refine ⟨?_, b2, b3, ?_, ?_, ?_, ?_, ?_, ?_, b10⟩
    all_goals omega
theorem okP_lapP {n n' : Nat → Nat} {p : Py} (h : okPy n p) (h1 : n' 12 = n 12) (h2 : n' 17 = n 17) (h3 : n' 28 = n 28) (h4 : n 11 ≤ n' 11) (h5 : n' 11 ≤ 1000000) : okPy n' (lapP p (n' 11)) := by
  have hA := okP_lapA h h1 h2 h3 h4 h5
  have e52 : qI (lapA p (n' 11)) 52 = qI p 52 := qI_lapA (by omega)
  unfold lapP
  split
  · rename_i q
    unfold lapB at q
    have q := of_decide_eq_true q
    obtain ⟨b1, b2, b3, b4, b5, b6, b7, b8, b9, b10⟩ := hA
    unfold clsP
    refine ⟨?_, b2, b3, ?_, ?_, ?_, ?_, ?_, ?_, b10⟩
    all_goals simp only [qI_pIu, qL_pIu, Nat.reduceEqDiff, ↓reduceIte]
    all_goals first | omega | (split <;> omega)
  · exact hA
/-- how much more of the account a is free -/
theorem lap_d {n : Nat → Nat} {p : Py} (h : okPy n p) : 0 ≤ (hq a p - hq a (lapP p u)) + (kq a p - kq a (lapP p u)) - lq a u p ∧ (hq a p - hq a (lapP p u)) + (kq a p - kq a (lapP p u)) - lq a u p ≤ 2000000000000 := by
  obtain ⟨b1, b2, b3, b4, b5, b6, b7, b8, b9, b10⟩ := h
  have e45 : qI (lapP p u) 45 = qI p 45 := qI_lapP (by omega)
  have e48 : qL (lapP p u) 48 = qL p 48 ∨ qL (lapP p u) 48 = 0 := by
    rw [qL_lapP]; unfold lapA; split
    · right; rw [qL_ends, if_pos rfl]
    · left; rfl
  have e53 : qL (lapP p u) 53 = qL p 53 := by rw [qL_lapP, qL_lapA (by omega)]
  have e52 : lapB p u = true ∧ (qI p 52 = 1 ∨ qI p 52 = 2) ∧ 2 < qI (lapP p u) 52 ∨ lapB p u = false ∧ qI (lapP p u) 52 = qI p 52 := by
    unfold lapP
    cases e : lapB p u
    · right
      refine ⟨rfl, ?_⟩
      simp only [Bool.false_eq_true, if_false]
      exact qI_lapA (by omega)
    · left
      unfold lapB at e
      have e := of_decide_eq_true e
      refine ⟨rfl, e.1, ?_⟩
      simp only [if_true]
      unfold clsP
      rw [qI_pIu, if_neg (by omega), qI_pIu, if_pos rfl]
      split <;> omega
  unfold hq kq lq
  rw [e45, e53]
  by_cases c : qI p 45 = a + 1
  · simp only [c, if_true, true_and]
    rcases e52 with ⟨q1, q2, q3⟩ | ⟨q1, q2⟩
    · rw [if_pos q2, if_neg (by omega)]
      simp only [q1, true_and, Nat.add_sub_cancel, and_true]
      rcases e48 with e48 | e48 <;> rw [e48] <;> split <;> omega
    · rw [q2]
      simp only [q1, Bool.false_eq_true, false_and, if_false]
      rcases e48 with e48 | e48 <;> rw [e48] <;> split <;> omega
  · simp only [c, if_false, false_and]
    rw [if_neg]
    · omega
    · rintro ⟨⟨q1, q2⟩, q3⟩
      have := b9 (by omega)
      have := b6 this
      omega
theorem i_ticks {x : Int} (h : Jv t S) (ht : t < 64) : Jv (t + 1) (o_ticks S x).2 := by
  refine Jv_gat h ht (fun h1 h2 => ?_)
  split
  · exact h.up ht
  · rename_i q
    obtain ⟨k, rfl⟩ : ∃ k : Nat, x = k := ⟨x.toNat, by omega⟩
    simp only [Int.toNat_natCast]
    have h0 := h.1
    show Jv (t + 1) (wP (wL (wN S (wr1 (up1 (sN S) 11 (sN S 11 + k)))) (lapL (sP S) (sN S 11 + k) (sL S) (sN S 39))) (fun i => lapP (sP S i) (sN S 11 + k)))
    have hs : jS (t + 1) (wr1 (up1 (sN S) 11 (sN S 11 + k))) := by
      refine jS_wr1 ?_ ht ?_ ?_ ?_
      · unfold jS at *; simp [up1]; omega
      · simpa [up1] using h2.1.1
      · simpa [up1] using h2.1.2
      · simpa [up1] using q
    have e : ∀ j, j ≠ 10 ∧ j ≠ 7 ∧ j ≠ 6 ∧ j ≠ 9 → wr1 (up1 (sN S) 11 (sN S 11 + k)) j = if j = 11 then sN S 11 + k else sN S j := fun j hj => by rw [wr1_ne hj]; rfl
    generalize wr1 (up1 (sN S) 11 (sN S 11 + k)) = n' at *
    have e39 : n' 39 = sN S 39 := by rw [e 39 (by omega)]; simp
    have e24 : n' 24 = sN S 24 := by rw [e 24 (by omega)]; simp
    have e18 : n' 18 = sN S 18 := by rw [e 18 (by omega)]; simp
    have e28 : n' 28 = sN S 28 := by rw [e 28 (by omega)]; simp
    have e34 : n' 34 = sN S 34 := by rw [e 34 (by omega)]; simp
    have e12 : n' 12 = sN S 12 := by rw [e 12 (by omega)]; simp
    have e17 : n' 17 = sN S 17 := by rw [e 17 (by omega)]; simp
    have e11 : n' 11 = sN S 11 + k := by rw [e 11 (by omega)]; simp
    have e55 : n' 55 = sN S 55 := by rw [e 55 (by omega)]; simp
    rw [← e11]
    obtain ⟨a1, a2, a3, a4, a5, a6, a7, a8, a9, a10⟩ := h
    refine ⟨hs, a2.mono e24 e18 e28 e34, ?_, ?_, ?_, a6.mono e55 (Nat.le_of_eq e17.symm), a7.mono (by show sN S 11 ≤ n' 11; omega), a8.mono e34, ?_, a10⟩
    · show jL (t + 1) (lapL (sP S) (n' 11) (sL S) (sN S 39))
      obtain ⟨b1, b2, b3⟩ := a3.up
      refine ⟨?_, ?_, ?_⟩
      · rw [sumF_congr (g := sL S 500) (fun i _ => lapL_ne (by omega) _)]; exact b1
      · rw [sumF_congr (g := sL S 501) (fun i _ => lapL_ne (by omega) _)]; exact b2
      · intro i hi
        rw [lapL_ne (by omega)]
        exact b3 i hi
    · intro i hi
      have hi : i < n' 39 := hi
      show okPy n' (lapP (sP S i) (n' 11))
      exact okP_lapP (a4 i (by omega)) e12 e17 e28 (by omega) (by unfold jS at hs; omega)
    · show jU (n' 39) (fun i => lapP (sP S i) (n' 11))
      rw [e39]
      unfold jU
      simp only [qI_lapP (j := 40) (by omega), qI_lapP (j := 41) (by omega), qR_lapP.1]
      exact a5
    · intro a ha
      have ha : a < n' 28 := ha
      have h5 := a9 a (by omega)
      have e3 : fre (wP (wL (wN S n') (lapL (sP S) (n' 11) (sL S) (sN S 39))) (fun i => lapP (sP S i) (n' 11))) a = fre S a + sumF (fun i => (hq a (sP S i) - hq a (lapP (sP S i) (n' 11))) + (kq a (sP S i) - kq a (lapP (sP S i) (n' 11))) - lq a (n' 11) (sP S i)) (sN S 39) := by
        show lapL (sP S) (n' 11) (sL S) (sN S 39) 509 a - lapL (sP S) (n' 11) (sL S) (sN S 39) 508 a - sumF (fun i => hq a (lapP (sP S i) (n' 11))) (n' 39) - sumF (fun i => kq a (lapP (sP S i) (n' 11))) (n' 39) = _
        rw [e39, lapL_509, lapL_ne (by omega)]
        unfold fre hld lkd
        rw [hOf_q, kOf_q]
        generalize sN S 39 = m
        induction m with
        | zero => simp [sumF]
        | succ m ih =>
          simp only [sumF] at *
          omega
      have g1 := sumF_ge (f := fun i => (hq a (sP S i) - hq a (lapP (sP S i) (n' 11))) + (kq a (sP S i) - kq a (lapP (sP S i) (n' 11))) - lq a (n' 11) (sP S i)) (n := sN S 39) (fun i hi => (lap_d (a4 i hi)).1)
      have g2 := sumF_le (f := fun i => (hq a (sP S i) - hq a (lapP (sP S i) (n' 11))) + (kq a (sP S i) - kq a (lapP (sP S i) (n' 11))) - lq a (n' 11) (sP S i)) (b := 2000000000000) (n := sN S 39) (fun i hi => (lap_d (a4 i hi)).2)
      have h60 : sN S 39 ≤ 60 := a1.2.1.2.2.2.2.2.1
      show (0 ≤ _ ∨ sF S a ≤ _) ∧ _ ≤ _ ∧ -1000000000000 ≤ sF S a ∧ sF S a ≤ 2000000000000
      rw [e3]
      omega
end ITI
