/-! the cutoff -/
section ICU
variable {t : Nat} {S : Sw}
theorem stay_succ {n : Nat} : stay S (n + 1) = stay S n ++ (if ovr S (sP S n) then [] else [n]) := by
  unfold stay
  rw [List.range_succ, List.filter_append]
  congr 1
  simp only [List.filter_cons, List.filter_nil]
  cases ovr S (sP S n) <;> rfl
theorem stay_mem {n i : Nat} (h : i < (stay S n).length) : (stay S n).getD i 0 < n ∧ ovr S (sP S ((stay S n).getD i 0)) = false := by
  have h1 : (stay S n).getD i 0 ∈ stay S n := by
    rw [List.getD_eq_getElem?_getD, List.getElem?_eq_getElem h]
    exact List.getElem_mem h
  generalize (stay S n).getD i 0 = x at h1
  unfold stay at h1
  rw [List.mem_filter, List.mem_range] at h1
  exact ⟨h1.1, by simpa using h1.2⟩
theorem stay_inj {n i j : Nat} (hi : i < (stay S n).length) (hj : j < (stay S n).length) (h : (stay S n).getD i 0 = (stay S n).getD j 0) : i = j := by
  have hn : (stay S n).Nodup := List.Pairwise.filter _ List.nodup_range
  exact (List.getD_inj hi hj hn).mp h
theorem stay_len {n : Nat} : (stay S n).length ≤ n := by
  unfold stay
  exact Nat.le_trans (List.length_filter_le _ _) (by simp)
theorem stay_sum {f : Nat → Int} : ∀ {n : Nat}, (∀ i, i < n → ovr S (sP S i) = true → f i = 0) → sumF (fun i => f ((stay S n).getD i 0)) (stay S n).length = sumF f n
  | 0, _ => by simp [stay, sumF]
  | n + 1, h => by
    rw [sumF, ← stay_sum (fun i hi => h i (by omega)), stay_succ]
    cases e : ovr S (sP S n)
    · simp only [Bool.false_eq_true, if_false, List.length_append, List.length_cons, List.length_nil, Nat.zero_add]
      rw [sumF, sumF_congr (g := fun i => f ((stay S n).getD i 0)) (fun i hi => by simp only [gD_l hi])]
      rw [gD_r (Nat.le_refl _)]
      simp
    · rw [if_pos rfl, List.append_nil, h n (by omega) e]
      omega
theorem i_cutoff (h : Jv t S) (ht : t < 64) : Jv (t + 1) (o_cutoff S).2 := by
  refine Jv_gat h ht (fun _ h2 => ?_)
  split
  · exact h.up ht
  · rename_i q
    have hl := stay_len (S := S) (n := sN S 39)
    have hm := fun i hi => stay_mem (S := S) (n := sN S 39) (i := i) hi
    have hj := fun i j hi hj => stay_inj (S := S) (n := sN S 39) (i := i) (j := j) hi hj
    have hsum := fun f hf => stay_sum (S := S) (n := sN S 39) (f := f) hf
    have h0 := h.1
    show Jv (t + 1) (wP (wL (wN S (wr1 (up1 (sN S) 39 (stay S (sN S 39)).length))) (stl (sL S))) (fun i => sP S ((stay S (sN S 39)).getD i 0)))
    generalize (stay S (sN S 39)) = xs at *
    have hs : jS (t + 1) (wr1 (up1 (sN S) 39 xs.length)) := by
      refine jS_wr1 ?_ ht ?_ ?_ ?_
      · unfold jS at *; simp [up1]; omega
      · simpa [up1] using h2.1
      · simpa [up1] using h2.2
      · simpa [up1] using q
    have e : ∀ j, j ≠ 10 ∧ j ≠ 7 ∧ j ≠ 6 ∧ j ≠ 9 → wr1 (up1 (sN S) 39 xs.length) j = if j = 39 then xs.length else sN S j := fun j hj => by rw [wr1_ne hj]; rfl
    generalize wr1 (up1 (sN S) 39 xs.length) = n' at *
    have e39 : n' 39 = xs.length := by rw [e 39 (by omega)]; simp
    have e24 : n' 24 = sN S 24 := by rw [e 24 (by omega)]; simp
    have e18 : n' 18 = sN S 18 := by rw [e 18 (by omega)]; simp
    have e28 : n' 28 = sN S 28 := by rw [e 28 (by omega)]; simp
    have e34 : n' 34 = sN S 34 := by rw [e 34 (by omega)]; simp
    have e12 : n' 12 = sN S 12 := by rw [e 12 (by omega)]; simp
    have e17 : n' 17 = sN S 17 := by rw [e 17 (by omega)]; simp
    have e11 : n' 11 = sN S 11 := by rw [e 11 (by omega)]; simp
    have e55 : n' 55 = sN S 55 := by rw [e 55 (by omega)]; simp
    obtain ⟨a1, a2, a3, a4, a5, a6, a7, a8, a9, a10⟩ := h
    refine ⟨hs, a2.mono e24 e18 e28 e34, ?_, ?_, ?_, a6.mono e55 (Nat.le_of_eq e17.symm), a7.mono (Nat.le_of_eq e11.symm), a8.mono e34, ?_, a10⟩
    · show jL (t + 1) (stl (sL S))
      obtain ⟨b1, b2, b3⟩ := a3.up
      refine ⟨?_, ?_, ?_⟩
      · rw [sumF_congr (g := fun _ => 0) (fun i hi => by simp [stl, hi])]
        exact sumF_0
      · rw [sumF_congr (g := fun i => sL S 501 i + sL S 500 i) (fun i hi => by simp [stl, hi]), sumF_add, b1, b2]
        rfl
      · intro i hi
        have := b3 i hi
        simp [stl]; omega
    · intro i hi
      have hi : i < n' 39 := hi
      exact (a4 _ (hm i (by omega)).1).mono (Nat.le_of_eq e12.symm) (Nat.le_of_eq e17.symm) (Nat.le_of_eq e28.symm) e11
    · show jU (n' 39) (fun i => sP S (xs.getD i 0))
      rw [e39]
      exact ⟨fun i j hi hj' q => hj i j hi hj' (a5.1 _ _ (hm i hi).1 (hm j hj').1 q), fun i j hi hj' q1 q2 => hj i j hi hj' (a5.2 _ _ (hm i hi).1 (hm j hj').1 q1 q2)⟩
    · intro a ha
      have ha : a < n' 28 := ha
      have h5 := a9.up a (by omega)
      have e1 : sumF (hOf (fun i => sP S (xs.getD i 0)) a) xs.length = hld S a := by
        rw [hOf_q]
        refine hsum (fun i => hq a (sP S i)) (fun i hi q => ?_)
        have hp := a4 i hi
        have : qI (sP S i) 47 ≠ 1 := by
          unfold ovr at q
          split at q
          · omega
          · have q := of_decide_eq_true q
            have := hp.2.2.2.2.2.2.2.2.1
            omega
        simp [hq, (hp.2.2.2.2.1 this).1]
      have e2 : sumF (kOf (fun i => sP S (xs.getD i 0)) a) xs.length = lkd S a := by
        rw [kOf_q]
        refine hsum (fun i => kq a (sP S i)) (fun i hi q => ?_)
        have hp := a4 i hi
        have : ¬ (qI (sP S i) 52 = 1 ∨ qI (sP S i) 52 = 2) := by
          unfold ovr at q
          split at q
          · omega
          · have q := of_decide_eq_true q
            have := hp.2.2.2.2.2.2.2.2.1
            omega
        simp [kq, this]
      have e3 : fre (wP (wL (wN S n') (stl (sL S))) (fun i => sP S (xs.getD i 0))) a = fre S a := by
        show stl (sL S) 509 a - stl (sL S) 508 a - sumF (hOf (fun i => sP S (xs.getD i 0)) a) (n' 39) - sumF (kOf (fun i => sP S (xs.getD i 0)) a) (n' 39) = _
        rw [e39, e1, e2]
        simp [stl, fre]
      rw [e3]
      exact h5
end ICU
