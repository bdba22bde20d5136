/-! SUMS, AND CALLS THAT CHANGE A PAYMENT -/
section SUM
variable {f g : Nat → Int} {n k : Nat} {x : Int}
theorem sumF_congr : ∀ {n : Nat}, (∀ i, i < n → f i = g i) → sumF f n = sumF g n
  | 0, _ => rfl
  | n + 1, h => by rw [sumF, sumF, sumF_congr (fun i hi => h i (by omega)), h n (by omega)]
theorem sumF_up : ∀ {n : Nat}, k < n → (∀ i, i < n → i ≠ k → g i = f i) → sumF g n = sumF f n - f k + g k
  | n + 1, hk, h => by
    rw [sumF, sumF]
    by_cases e : k = n
    · subst e
      rw [sumF_congr (f := g) (g := f) (fun i hi => h i (by omega) (by omega))]
      omega
    · rw [sumF_up (n := n) (by omega) (fun i hi hk => h i (by omega) hk), h n (by omega) (fun q => e q.symm)]
      omega
theorem sumF_le {b : Int} : ∀ {n : Nat}, (∀ i, i < n → f i ≤ b) → sumF f n ≤ b * n
  | 0, _ => by simp [sumF]
  | n + 1, h => by
    have h1 := sumF_le (n := n) (fun i hi => h i (by omega))
    have h2 := h n (by omega)
    rw [sumF, Int.natCast_add, Int.mul_add]
    omega
theorem sumF_ge : ∀ {n : Nat}, (∀ i, i < n → 0 ≤ f i) → 0 ≤ sumF f n
  | 0, _ => by simp [sumF]
  | n + 1, h => by
    have h1 := sumF_ge (n := n) (fun i hi => h i (by omega))
    have h2 := h n (by omega)
    rw [sumF]; omega
theorem sumF_add : ∀ {n : Nat}, sumF (fun i => f i + g i) n = sumF f n + sumF g n
  | 0 => by simp [sumF]
  | n + 1 => by rw [sumF, sumF, sumF, sumF_add]; omega
theorem sumF_0 : ∀ {n : Nat}, sumF (fun _ => 0) n = 0
  | 0 => rfl
  | n + 1 => by rw [sumF, sumF_0]; rfl
end SUM
def hq (a : Nat) (p : Py) : Int := if qI p 45 = a + 1 then qL p 48 else 0
def kq (a : Nat) (p : Py) : Int := if qI p 45 = a + 1 ∧ (qI p 52 = 1 ∨ qI p 52 = 2) then qL p 53 else 0
theorem hOf_q {pay : Nat → Py} {a : Nat} : hOf pay a = fun i => hq a (pay i) := rfl
theorem kOf_q {pay : Nat → Py} {a : Nat} : kOf pay a = fun i => kq a (pay i) := rfl
section SU2
variable {pay : Nat → Py} {a k np : Nat} {p : Py}
theorem hld_up (hk : k < np) : sumF (hOf (up1 pay k p) a) np = sumF (hOf pay a) np - hq a (pay k) + hq a p := by
  rw [sumF_up (f := hOf pay a) hk (fun i _ hi => ?_)]
  · congr 1
    rw [hOf_q]; simp [up1]
  · rw [hOf_q, hOf_q]; simp [up1, hi]
theorem lkd_up (hk : k < np) : sumF (kOf (up1 pay k p) a) np = sumF (kOf pay a) np - kq a (pay k) + kq a p := by
  rw [sumF_up (f := kOf pay a) hk (fun i _ hi => ?_)]
  · congr 1
    rw [kOf_q]; simp [up1]
  · rw [kOf_q, kOf_q]; simp [up1, hi]
end SU2
section PYU
variable {p : Py} {k v j : Nat} {x : Int}
theorem qI_pIu : qI (pIu p k v) j = if j = k then v else qI p j := rfl
theorem qL_pIu : qL (pIu p k v) = qL p := rfl
theorem qC_pIu : qC (pIu p k v) = qC p := rfl
theorem qR_pIu : qR (pIu p k v) = qR p := rfl
theorem qI_pLu : qI (pLu p k x) = qI p := rfl
theorem qL_pLu : qL (pLu p k x) j = if j = k then x else qL p j := rfl
theorem qC_pLu : qC (pLu p k x) = qC p := rfl
theorem qR_pLu : qR (pLu p k x) = qR p := rfl
end PYU
section IPY
variable {t : Nat} {S : Sw}
/-- one payment changes, and long numbers, and counters -/
theorem Jv.py {n' : Nat → Nat} {L' : Nat → Nat → Int} {k : Nat} {p : Py} (h : Jv t S) (hs : jS (t + 1) n') (h1 : n' 24 = sN S 24) (h2 : n' 18 = sN S 18) (h3 : n' 28 = sN S 28) (h4 : n' 34 = sN S 34) (h5 : n' 39 = sN S 39) (h6 : n' 12 = sN S 12) (h7 : n' 17 = sN S 17) (h8 : n' 11 = sN S 11) (h9 : n' 55 = sN S 55)
    (hk : k < sN S 39) (hL : jL (t + 1) L') (hp : okPy (sN S) p) (hq0 : qI p 40 = qI (sP S k) 40) (hq1 : qI p 41 = qI (sP S k) 41) (hq2 : qR p = qR (sP S k))
    (hf : ∀ a, a < sN S 28 → fre S a ≤ L' 509 a - L' 508 a - (hld S a - hq a (sP S k) + hq a p) - (lkd S a - kq a (sP S k) + kq a p) ∧ L' 509 a - L' 508 a - (hld S a - hq a (sP S k) + hq a p) - (lkd S a - kq a (sP S k) + kq a p) ≤ fre S a + 2000000000000) : Jv (t + 1) (wP (wL (wN S n') L') (up1 (sP S) k p)) := by
  have hc := h.cn hs h1 h2 h3 h4 h5 h6 h7 h8 h9
  obtain ⟨a1, a2, a3, a4, a5, a6, a7, a8, a9, a10⟩ := hc
  refine ⟨a1, a2, hL, ?_, ?_, a6, a7, a8, ?_, a10⟩
  · intro i hi
    show okPy n' (up1 (sP S) k p i)
    unfold up1
    split
    · exact hp.mono (by omega) (by omega) (by omega) h8
    · exact a4 i hi
  · show jU (n' 39) (up1 (sP S) k p)
    have hu : jU (n' 39) (sP S) := a5
    have e0 : ∀ i, qI (up1 (sP S) k p i) 40 = qI (sP S i) 40 := fun i => by
      unfold up1
      split
      · subst i; exact hq0
      · rfl
    have e1 : ∀ i, qI (up1 (sP S) k p i) 41 = qI (sP S i) 41 := fun i => by
      unfold up1
      split
      · subst i; exact hq1
      · rfl
    have e2 : ∀ i, qR (up1 (sP S) k p i) = qR (sP S i) := fun i => by
      unfold up1
      split
      · subst i; exact hq2
      · rfl
    unfold jU at *
    simp only [e0, e1, e2]
    exact hu
  · intro a ha
    have ha : a < n' 28 := ha
    have e : fre (wP (wL (wN S n') L') (up1 (sP S) k p)) a = L' 509 a - L' 508 a - (hld S a - hq a (sP S k) + hq a p) - (lkd S a - kq a (sP S k) + kq a p) := by
      show L' 509 a - L' 508 a - sumF (hOf (up1 (sP S) k p) a) (n' 39) - sumF (kOf (up1 (sP S) k p) a) (n' 39) = _
      rw [h5, hld_up hk, lkd_up hk]
      rfl
    rw [e]
    have hf := hf a (by omega)
    have h0 := h.2.2.2.2.2.2.2.2.1 a (by omega)
    show (0 ≤ _ ∨ sF S a ≤ _) ∧ _ ≤ _ ∧ -1000000000000 ≤ sF S a ∧ sF S a ≤ 2000000000000
    omega
theorem Jv.wr {n' : Nat → Nat} (h : n' = wr1 (sN S)) : n' 24 = sN S 24 ∧ n' 18 = sN S 18 ∧ n' 28 = sN S 28 ∧ n' 34 = sN S 34 ∧ n' 39 = sN S 39 ∧ n' 12 = sN S 12 ∧ n' 17 = sN S 17 ∧ n' 11 = sN S 11 ∧ n' 55 = sN S 55 := by
  subst h
  exact ⟨wr1_ne (by omega), wr1_ne (by omega), wr1_ne (by omega), wr1_ne (by omega), wr1_ne (by omega), wr1_ne (by omega), wr1_ne (by omega), wr1_ne (by omega), wr1_ne (by omega)⟩
theorem jL_gvb {L : Nat → Nat → Int} {p : Py} {x : Int} (h : jL (t + 1) L) (h1 : qI p 41 < 6) (h2 : sI S 507 (qI p 45 - 1) < 6) : jL (t + 1) (gvb S p L x) := by
  obtain ⟨a1, a2, a3⟩ := h
  unfold gvb
  generalize sI S 507 (qI p 45 - 1) = i at *
  generalize qI p 41 = j at *
  simp only
  refine ⟨?_, ?_, ?_⟩
  · rw [← a1, sumF_up (f := up2 L 500 j (L 500 j - x) 500) (k := 6 + i) (by omega) (fun k _ hk => by simp [up2, hk]), sumF_up (f := L 500) (k := j) (by omega) (fun k _ hk => by simp [up2, hk])]
    simp [up2]
    omega
  · rw [← a2]
    exact sumF_congr (fun k _ => by simp [up2])
  · intro i hi
    have := a3 i hi
    simp [up2]; omega
theorem jL_509 {L : Nat → Nat → Int} {a : Nat} {x : Int} (h : jL t L) : jL t (up2 L 509 a x) := by
  obtain ⟨a1, a2, a3⟩ := h
  refine ⟨?_, ?_, ?_⟩
  · rw [← a1]; exact sumF_congr (fun k _ => by simp [up2])
  · rw [← a2]; exact sumF_congr (fun k _ => by simp [up2])
  · intro i hi
    have := a3 i hi
    simp [up2]; omega
theorem gvb_509 {L : Nat → Nat → Int} {p : Py} {x : Int} {a : Nat} : gvb S p L x 509 a = L 509 a ∧ gvb S p L x 508 a = L 508 a := by
  unfold gvb; simp [up2]
theorem okPy.acc {p : Py} (hp : okPy (sN S) p) (h : Jv t S) (h45 : qI p 45 ≠ 0) : qI p 41 < 6 ∧ sI S 507 (qI p 45 - 1) < 6 := by
  have h17 := h.1.2.1
  have := h.2.1.2.2.2.1 (qI p 45 - 1) (by have := hp.1; omega)
  have := hp.1
  omega
theorem i_represent {x : Int} (h : Jv t S) (ht : t < 64) : Jv (t + 1) (o_represent S x).2 := by
  refine Jv_gap h ht (fun _ h6 hk => ?_)
  simp only
  generalize hkk : fPn S x = k at *
  have hp := h.2.2.2.1 k hk
  have h16 := h.1.1
  have h39 := h.1.2.2.2.2.1
  split
  · exact h.up ht
  · rename_i q1
    split
    · exact h.up ht
    · rename_i q2
      have hw := Jv.wr (S := S) rfl
      have hd : qI (sP S k) 47 = 3 := hp.2.2.2.2.2.2.2.2.1 (by omega)
      have h45 := (hp.2.2.2.2.2.1 hd).1
      have ha := hp.acc h h45
      have hn := h.1.2.2
      refine h.py (jS_wr1 h.1 ht (by omega) (by omega) q2) hw.1 hw.2.1 hw.2.2.1 hw.2.2.2.1 hw.2.2.2.2.1 hw.2.2.2.2.2.1 hw.2.2.2.2.2.2.1 hw.2.2.2.2.2.2.2.1 hw.2.2.2.2.2.2.2.2 hk (jL_gvb h.2.2.1.up ha.1 ha.2) ?_ rfl rfl rfl (fun a ha => ?_)
      · obtain ⟨b1, b2, b3, b4, b5, b6, b7, b8, b9, b10⟩ := hp
        refine ⟨?_, b2, b3, ?_, ?_, ?_, ?_, ?_, ?_, b10⟩
        all_goals simp only [qI_pIu, qL_pIu, qC_pIu, qR_pIu, qI_pLu, qL_pLu, qC_pLu, qR_pLu, Nat.reduceEqDiff, ↓reduceIte]
        all_goals omega
      · rw [gvb_509.1, gvb_509.2]
        have q1 : qI (sP S k) 52 = 1 := by omega
        simp only [hq, kq, qI_pIu, qL_pIu, qC_pIu, qR_pIu, qI_pLu, qL_pLu, qC_pLu, qR_pLu, Nat.reduceEqDiff, ↓reduceIte, q1, true_or, or_true, and_true]
        unfold fre
        omega
theorem i_charge {x am : Int} (h : Jv t S) (ht : t < 64) : Jv (t + 1) (o_charge S x am).2 := by
  refine Jv_gap h ht (fun h1 h6 hk => ?_)
  simp only
  generalize hkk : fPn S x = k at *
  have hp := h.2.2.2.1 k hk
  have h16 := h.1.1
  have h39 := h.1.2.2.2.2.1
  split
  · exact h.up ht
  · rename_i q1
    split
    · exact h.up ht
    · split
      · exact h.up ht
      · rename_i q3
        split
        · exact h.up ht
        · rename_i q2
          have hw := Jv.wr (S := S) rfl
          have hd : qI (sP S k) 47 = 3 := by omega
          have h45 := (hp.2.2.2.2.2.1 hd).1
          have ha := hp.acc h h45
          have hn := h.1.2.2
          refine h.py (jS_wr1 h.1 ht (by omega) (by omega) q2) hw.1 hw.2.1 hw.2.2.1 hw.2.2.2.1 hw.2.2.2.2.1 hw.2.2.2.2.2.1 hw.2.2.2.2.2.2.1 hw.2.2.2.2.2.2.2.1 hw.2.2.2.2.2.2.2.2 hk (jL_gvb (jL_509 h.2.2.1.up) ha.1 ha.2) ?_ rfl rfl rfl (fun a ha => ?_)
          · obtain ⟨b1, b2, b3, b4, b5, b6, b7, b8, b9, b10⟩ := hp
            refine ⟨?_, b2, b3, ?_, ?_, ?_, ?_, ?_, ?_, ?_⟩
            all_goals simp only [qI_pIu, qL_pIu, qC_pIu, qR_pIu, qI_pLu, qL_pLu, qC_pLu, qR_pLu, Nat.reduceEqDiff, ↓reduceIte]
            all_goals omega
          · rw [gvb_509.1, gvb_509.2]
            have q1 : qI (sP S k) 52 = 0 := by omega
            simp only [hq, kq, qI_pIu, qL_pIu, qC_pIu, qR_pIu, qI_pLu, qL_pLu, qC_pLu, qR_pLu, Nat.reduceEqDiff, ↓reduceIte, q1, true_or, or_true, and_true, up2, false_and, false_or, or_false, and_false, true_and]
            unfold fre
            by_cases e : a = qI (sP S k) 45 - 1
            · subst e
              rw [if_pos rfl, if_pos (by omega)]
              simp
              omega
            · rw [if_neg e, if_neg (by omega)]
              simp
              omega
theorem i_decide {x : Int} {won : Bool} (h : Jv t S) (ht : t < 64) : Jv (t + 1) (o_decide S x won).2 := by
  refine Jv_gap h ht (fun _ h6 hk => ?_)
  simp only
  generalize hkk : fPn S x = k at *
  have hp := h.2.2.2.1 k hk
  have h16 := h.1.1
  have h39 := h.1.2.2.2.2.1
  split
  · exact h.up ht
  · rename_i q1
    split
    · exact h.up ht
    · rename_i q2
      have hw := Jv.wr (S := S) rfl
      have hd : qI (sP S k) 47 = 3 := hp.2.2.2.2.2.2.2.2.1 (by omega)
      have h45 := (hp.2.2.2.2.2.1 hd).1
      have ha := hp.acc h h45
      have hn := h.1.2.2
      refine h.py (jS_wr1 h.1 ht (by omega) (by omega) q2) hw.1 hw.2.1 hw.2.2.1 hw.2.2.2.1 hw.2.2.2.2.1 hw.2.2.2.2.2.1 hw.2.2.2.2.2.2.1 hw.2.2.2.2.2.2.2.1 hw.2.2.2.2.2.2.2.2 hk ?_ ?_ rfl rfl rfl (fun a ha => ?_)
      · split
        · exact jL_gvb h.2.2.1.up ha.1 ha.2
        · exact jL_509 h.2.2.1.up
      · obtain ⟨b1, b2, b3, b4, b5, b6, b7, b8, b9, b10⟩ := hp
        unfold clsP
        refine ⟨?_, b2, b3, ?_, ?_, ?_, ?_, ?_, ?_, b10⟩
        all_goals simp only [qI_pIu, qL_pIu, qC_pIu, qR_pIu, qI_pLu, qL_pLu, qC_pLu, qR_pLu, Nat.reduceEqDiff, ↓reduceIte]
        all_goals first | omega | (split <;> omega)
      · have q1 : qI (sP S k) 52 = 2 := by omega
        obtain ⟨b1, b2, b3, b4, b5, b6, b7, b8, b9, b10⟩ := hp
        unfold clsP
        cases won
        · simp only [hq, kq, qI_pIu, qL_pIu, qC_pIu, qR_pIu, qI_pLu, qL_pLu, qC_pLu, qR_pLu, Nat.reduceEqDiff, ↓reduceIte, q1, or_true, and_true, up2, and_false, true_and, false_and, Bool.false_eq_true]
          unfold fre
          by_cases e : a = qI (sP S k) 45 - 1
          · subst e
            rw [if_pos rfl, if_pos (by omega), if_pos (by omega)]
            simp
            omega
          · rw [if_neg e, if_neg (by omega), if_neg (by omega)]
            simp
            omega
        · simp only [if_true, gvb_509.1, gvb_509.2, hq, kq, qI_pIu, qL_pIu, qC_pIu, qR_pIu, qI_pLu, qL_pLu, qC_pLu, qR_pLu, Nat.reduceEqDiff, ↓reduceIte, q1, or_true, and_true]
          unfold fre
          by_cases e : a = qI (sP S k) 45 - 1
          · subst e
            rw [if_pos (by omega), if_pos (by omega)]
            simp
            omega
          · rw [if_neg (by omega), if_neg (by omega)]
            simp
            omega
end IPY
