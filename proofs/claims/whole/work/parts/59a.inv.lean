/-! WHAT STAYS TRUE -/
def jL (t : Nat) (L : Nat → Nat → Int) : Prop := sumF (L 500) 13 = 0 ∧ sumF (L 501) 13 = 0 ∧ ∀ i, i < 6 → 0 ≤ L 503 i ∧ L 503 i ≤ 1000000000000 * t
def okPy (n : Nat → Nat) (p : Py) : Prop :=
  (1 ≤ qI p 40 ∧ qI p 40 < n 12 ∧ qI p 41 < n 17 ∧ qI p 46 ≤ 999999 ∧ 1 ≤ qI p 44 ∧ qI p 44 ≤ 19 ∧ qI p 45 ≤ n 28 ∧ qI p 52 ≤ 4 ∧ qI p 50 ≤ 1005000 ∧ qI p 51 ≤ 1005001 ∧ qI p 54 ≤ 1005001) ∧
  (∀ j, j < qI p 44 → qC p j < 10) ∧ (∀ j, j < 12 → qR p j < 36) ∧
  (qI p 47 = 1 → qI p 45 ≠ 0 ∧ n 11 < qI p 50 ∧ qI p 52 = 0 ∧ qI p 51 = 0) ∧ (qI p 47 ≠ 1 → qL p 48 = 0 ∧ qI p 50 = 0) ∧
  (qI p 47 = 3 → qI p 45 ≠ 0 ∧ 1 ≤ qI p 51 ∧ qI p 51 ≤ n 11 + 1 ∧ 0 < qL p 49) ∧ (qI p 47 = 2 → qL p 49 = 0) ∧ (qI p 47 = 1 ∨ qI p 47 = 2 ∨ qI p 47 = 3) ∧
  (qI p 52 ≠ 0 → qI p 47 = 3) ∧ 0 ≤ qL p 53 ∧ qL p 53 ≤ qL p 49 ∧ 0 ≤ qL p 48 ∧ 0 ≤ qL p 49 ∧ qL p 48 + qL p 49 ≤ 999999999999
def jP (n : Nat → Nat) (pay : Nat → Py) : Prop := ∀ i, i < n 39 → okPy n (pay i)
def jU (np : Nat) (pay : Nat → Py) : Prop := (∀ i j, i < np → j < np → qI (pay i) 40 = qI (pay j) 40 → i = j) ∧ ∀ i j, i < np → j < np → qI (pay i) 41 = qI (pay j) 41 → (∀ k, k < 12 → qR (pay i) k = qR (pay j) k) → i = j
def okA (n : Nat → Nat) (x : Ar) : Prop := rA x < n 17 ∧ rT x ≤ 999999 ∧ rK x ≤ 8 ∧ rP x ≤ 99 ∧ jB 160 (rM x) ∧ jB 160 (rO x)
def jR (n : Nat → Nat) (arc : Nat → Ar) : Prop := (∀ k, k < n 55 → okA n (arc k)) ∧ ∀ i j, i < n 55 → j < n 55 → rA (arc i) = rA (arc j) → rT (arc i) = rT (arc j) → rK (arc i) = rK (arc j) → i = j
def jQ (n : Nat → Nat) (app : Nat → List Nat) : Prop := ∀ a, a < 64 → (app a).length ≤ 8 ∧ ∀ x ∈ app a, x ≤ n 11
def jC (n : Nat → Nat) (crd : Nat → Nat) : Prop := (∀ i, i < n 34 → 12 ≤ nd (crd i) ∧ nd (crd i) ≤ 18 ∧ isG (crd i)) ∧ ∀ i j, i < n 34 → j < n 34 → crd i = crd j → i = j
def jF (t : Nat) (S : Sw) : Prop := ∀ a, a < sN S 28 → (0 ≤ fre S a ∨ sF S a ≤ fre S a) ∧ fre S a ≤ 10000000000000 + 1000000000000000 * t ∧ -1000000000000 ≤ sF S a ∧ sF S a ≤ 2000000000000
def Jv (t : Nat) (S : Sw) : Prop := jS t (sN S) ∧ jI t (sN S) (sI S) ∧ jL t (sL S) ∧ jP (sN S) (sP S) ∧ jU (sN S 39) (sP S) ∧ jR (sN S) (sR S) ∧ jQ (sN S) (sQ S) ∧ jC (sN S) (sC S) ∧ jF t S ∧ okM (sD S) ∧ jB 400 (sT S) ∧ jB 160 (sZ S)
section JST
variable {t : Nat} {n : Nat → Nat} {S : Sw} {pay : Nat → Py} {arc : Nat → Ar} {app : Nat → List Nat} {crd : Nat → Nat} {f : Nat → Nat → Nat} {L : Nat → Nat → Int}
theorem jS.up (h : jS t n) (ht : t < 64) : jS (t + 1) n := by unfold jS at *; omega
theorem jI.up (h : jI t n f) : jI (t + 1) n f := ⟨h.1, fun i hi => by have := h.2.1 i hi; omega, h.2.2⟩
theorem jL.up (h : jL t L) : jL (t + 1) L := ⟨h.1, h.2.1, fun i hi => by have := h.2.2 i hi; omega⟩
theorem jF.up (h : jF t S) : jF (t + 1) S := fun a ha => by have := h a ha; omega
theorem Jv.up (h : Jv t S) (ht : t < 64) : Jv (t + 1) S := ⟨h.1.up ht, h.2.1.up, h.2.2.1.up, h.2.2.2.1, h.2.2.2.2.1, h.2.2.2.2.2.1, h.2.2.2.2.2.2.1, h.2.2.2.2.2.2.2.1, h.2.2.2.2.2.2.2.2.1.up, h.2.2.2.2.2.2.2.2.2⟩
/-- what a gate lets through keeps it -/
theorem Jv_gat {p q : Prop} [Decidable p] [Decidable q] {r : Re} (h : Jv t S) (ht : t < 64) (hr : p → q → Jv (t + 1) r.2) : Jv (t + 1) (gat S p q r).2 := by
  unfold gat
  split
  · split
    · exact hr (by assumption) (by assumption)
    · exact h.up ht
  · exact h.up ht
theorem Jv_gap {p : Prop} [Decidable p] {x : Int} {r : Re} (h : Jv t S) (ht : t < 64) (hr : p → sN S 6 ≠ 1 → fPn S x < sN S 39 → Jv (t + 1) r.2) : Jv (t + 1) (gap S p x r).2 := by
  unfold gap
  split
  · split
    · exact h.up ht
    · split
      · exact hr (by assumption) (by assumption) (by assumption)
      · exact h.up ht
  · exact h.up ht
theorem okPy.mono {n' : Nat → Nat} {p : Py} (h : okPy n p) (h1 : n 12 ≤ n' 12) (h2 : n 17 ≤ n' 17) (h3 : n 28 ≤ n' 28) (h4 : n' 11 = n 11) : okPy n' p := by
  obtain ⟨b1, b2⟩ := h
  unfold okPy
  rw [h4]
  exact ⟨by omega, b2⟩
theorem jP.mono {n' : Nat → Nat} (h : jP n pay) (h0 : n' 39 = n 39) (h1 : n 12 ≤ n' 12) (h2 : n 17 ≤ n' 17) (h3 : n 28 ≤ n' 28) (h4 : n' 11 = n 11) : jP n' pay := fun i hi => (h i (by omega)).mono h1 h2 h3 h4
theorem jR.mono {n' : Nat → Nat} (h : jR n arc) (h0 : n' 55 = n 55) (h2 : n 17 ≤ n' 17) : jR n' arc := by
  refine ⟨fun k hk => ?_, by rw [h0]; exact h.2⟩
  have := h.1 k (by omega)
  unfold okA at *
  exact ⟨by omega, this.2⟩
theorem jQ.mono {n' : Nat → Nat} (h : jQ n app) (h4 : n 11 ≤ n' 11) : jQ n' app := fun a ha => ⟨(h a ha).1, fun x hx => by have := (h a ha).2 x hx; omega⟩
theorem jC.mono {n' : Nat → Nat} (h : jC n crd) (h4 : n' 34 = n 34) : jC n' crd := by unfold jC at *; rw [h4]; exact h
theorem jI.mono {n' : Nat → Nat} (h : jI t n f) (h1 : n' 24 = n 24) (h2 : n' 18 = n 18) (h3 : n' 28 = n 28) (h4 : n' 34 = n 34) : jI (t + 1) n' f := by
  have h := h.up
  unfold jI at *
  rw [h1, h2, h3, h4]
  exact h
/-- only counters of no other part's concern change -/
theorem Jv.cn {n' : Nat → Nat} (h : Jv t S) (hs : jS (t + 1) n') (h1 : n' 24 = sN S 24) (h2 : n' 18 = sN S 18) (h3 : n' 28 = sN S 28) (h4 : n' 34 = sN S 34) (h5 : n' 39 = sN S 39) (h6 : n' 12 = sN S 12) (h7 : n' 17 = sN S 17) (h8 : n' 11 = sN S 11) (h9 : n' 55 = sN S 55) : Jv (t + 1) (wN S n') := by
  obtain ⟨a1, a2, a3, a4, a5, a6, a7, a8, a9, a10⟩ := h
  refine ⟨hs, a2.mono h1 h2 h3 h4, a3.up, a4.mono h5 (Nat.le_of_eq h6.symm) (Nat.le_of_eq h7.symm) (Nat.le_of_eq h3.symm) h8, ?_, a6.mono h9 (Nat.le_of_eq h7.symm), a7.mono (Nat.le_of_eq h8.symm), a8.mono h4, ?_, a10⟩
  · show jU (n' 39) (sP S)
    rw [h5]; exact a5
  · intro a ha
    have e : fre (wN S n') a = fre S a := by
      show sL S 509 a - sL S 508 a - sumF (hOf (sP S) a) (n' 39) - sumF (kOf (sP S) a) (n' 39) = _
      rw [h5]; rfl
    rw [e]
    exact a9.up a (by have : a < n' 28 := ha; omega)
end JST
theorem gD_l {xs ys : List Nat} {i : Nat} (h : i < xs.length) : (xs ++ ys).getD i 0 = xs.getD i 0 := by
  rw [List.getD_eq_getElem?_getD, List.getElem?_append_left h, ← List.getD_eq_getElem?_getD]
theorem gD_r {xs ys : List Nat} {i : Nat} (h : xs.length ≤ i) : (xs ++ ys).getD i 0 = ys.getD (i - xs.length) 0 := by
  rw [List.getD_eq_getElem?_getD, List.getElem?_append_right h, ← List.getD_eq_getElem?_getD]
section IOP
variable {t : Nat} {S : Sw}
theorem i_acquirer {x : Int} (h : Jv t S) (ht : t < 64) : Jv (t + 1) (o_acquirer S x).2 := by
  refine Jv_gat h ht (fun h1 h2 => ?_)
  obtain ⟨a1, a2, a3, a4, a5, a6, a7, a8, a9, a10⟩ := h
  refine ⟨?_, ?_, a3.up, ?_, a5, ?_, a7, a8, a9.up, a10⟩
  · have e : ∀ k, sN (o_acquirer S x).2 k = sN (o_acquirer S x).2 k := fun _ => rfl
    show jS (t + 1) (up1 (sN S) 17 (sN S 17 + 1))
    unfold jS at *
    simp [up1]
    omega
  · show jI (t + 1) (up1 (sN S) 17 (sN S 17 + 1)) (up2 (sI S) 499 (sN S 17) x.toNat)
    obtain ⟨b1, b2, b3, b4, b5, b6⟩ := a2
    refine ⟨fun i hi => ?_, fun i hi => ?_, ?_, ?_, ?_, ?_⟩
    · unfold up2; split
      · omega
      · exact b1 i hi
    · have := b2 i hi
      simp [up2]; omega
    · simpa [up1, up2] using b3
    · simpa [up1, up2] using b4
    · simpa [up1, up2] using b5
    · simpa [up1, up2] using b6
  · exact a4.mono rfl (Nat.le_refl _) (by show sN S 17 ≤ sN S 17 + 1; omega) (Nat.le_refl _) rfl
  · exact a6.mono rfl (by show sN S 17 ≤ sN S 17 + 1; omega)
theorem i_issuer {x : Int} (h : Jv t S) (ht : t < 64) : Jv (t + 1) (o_issuer S x).2 := by
  refine Jv_gat h ht (fun h1 h2 => ?_)
  obtain ⟨a1, a2, a3, a4, a5, a6, a7, a8, a9, a10⟩ := h
  refine ⟨?_, ?_, a3.up, a4.mono rfl (Nat.le_refl _) (Nat.le_refl _) (Nat.le_refl _) rfl, a5, a6.mono rfl (Nat.le_refl _), a7, a8, a9.up, a10⟩
  · show jS (t + 1) (up1 (sN S) 18 (sN S 18 + 1))
    unfold jS at *
    simp [up1]
    omega
  · show jI (t + 1) (up1 (sN S) 18 (sN S 18 + 1)) (up2 (sI S) 499 (6 + sN S 18) x.toNat)
    obtain ⟨b1, b2, b3, b4, b5, b6⟩ := a2
    refine ⟨fun i hi => ?_, fun i hi => ?_, fun i hi => ?_, fun i hi => ?_, ?_, ?_⟩
    · unfold up2; split
      · omega
      · exact b1 i hi
    · have := b2 i hi
      simp [up2]; omega
    · have := b3 i (by simpa [up1] using hi)
      simp [up1, up2]; omega
    · have := b4 i (by simpa [up1] using hi)
      simp [up1, up2]; omega
    · simpa [up1, up2] using b5
    · simpa [up1, up2] using b6
theorem i_rules {a b c d : Int} (h : Jv t S) (ht : t < 64) : Jv (t + 1) (o_rules S a b c d).2 := by
  refine Jv_gat h ht (fun h1 h2 => h.cn ?_ rfl rfl rfl rfl rfl rfl rfl rfl rfl)
  have a1 := h.1
  unfold jS at *
  simp [up1]
  omega
theorem i_open (h : Jv t S) (ht : t < 64) : Jv (t + 1) (o_open S).2 := by
  refine Jv_gat h ht (fun h1 h2 => h.cn ?_ rfl rfl rfl rfl rfl rfl rfl rfl rfl)
  have a1 := h.1
  unfold jS at *
  simp [up1]
  omega
theorem i_crash {k : Int} (h : Jv t S) (ht : t < 64) : Jv (t + 1) (o_crash S k).2 := by
  refine Jv_gat h ht (fun h1 h2 => h.cn ?_ rfl rfl rfl rfl rfl rfl rfl rfl rfl)
  have a1 := h.1
  obtain ⟨h3, h4⟩ := h2
  unfold jS at *
  simp [up1]
  split <;> omega
theorem i_recover (h : Jv t S) (ht : t < 64) : Jv (t + 1) (o_recover S).2 := by
  refine Jv_gat h ht (fun h1 h2 => h.cn ?_ rfl rfl rfl rfl rfl rfl rfl rfl rfl)
  have a1 := h.1
  unfold jS at *
  simp [up1]
  omega
theorem jS_spd {n : Nat → Nat} {k : Nat} (h : jS t n) (ht : t < 64) (hk : k ≤ 100) (h7 : n 7 = 0 ∨ k < n 7) (h4 : n 4 = 1) (h6 : n 6 = 0) : jS (t + 1) (spd n k) := by
  unfold spd
  unfold jS at *
  split
  · simp [up1]; omega
  · simp [up1]
    split <;> omega
theorem spd_ne {n : Nat → Nat} {k j : Nat} (h : j ≠ 10 ∧ j ≠ 7 ∧ j ≠ 6) : spd n k j = n j := by
  unfold spd
  split <;> simp [up1, h]
theorem jS_wr1 {n : Nat → Nat} (h : jS t n) (ht : t < 64) (h4 : n 4 = 1) (h6 : n 6 = 0) (h9 : n 9 ≠ n 8) : jS (t + 1) (wr1 n) := by
  unfold wr1
  refine jS_spd ?_ ht (by omega) ?_ (by simpa [up1] using h4) (by simpa [up1] using h6)
  · unfold jS at *; simp [up1]; omega
  · unfold jS at h; simp [up1]; omega
theorem wr1_ne {n : Nat → Nat} {j : Nat} (h : j ≠ 10 ∧ j ≠ 7 ∧ j ≠ 6 ∧ j ≠ 9) : wr1 n j = n j := by
  unfold wr1
  rw [spd_ne ⟨h.1, h.2.1, h.2.2.1⟩]
  simp [up1, h]
theorem i_checkpoint (h : Jv t S) (ht : t < 64) : Jv (t + 1) (o_checkpoint S).2 := by
  refine Jv_gat h ht (fun h1 h2 => ?_)
  have a1 := h.1
  obtain ⟨h3, h4⟩ := h2
  have hp : pgs S ≤ 40 := by unfold jS at a1; unfold pgs; omega
  split
  · rename_i q
    refine h.cn (jS_spd ?_ ht (by omega) ?_ ?_ ?_) ?_ ?_ ?_ ?_ ?_ ?_ ?_ ?_ ?_
    · unfold jS at *; simp [up1]; omega
    · simp [up1]; omega
    · simpa [up1] using h3
    · simpa [up1] using h4
    all_goals rw [spd_ne (by omega)]; simp [up1]
  · rename_i q
    refine h.cn (jS_spd a1 ht ?_ ?_ h3 h4) ?_ ?_ ?_ ?_ ?_ ?_ ?_ ?_ ?_
    · unfold jS at a1; omega
    · unfold jS at a1; omega
    all_goals rw [spd_ne (by omega)]
/-- draft, tape, last -/
theorem Jv.dr {m : Msg} (h : Jv t S) (ht : t < 64) (hm : okM m) : Jv (t + 1) (wD S m) := by
  obtain ⟨a1, a2, a3, a4, a5, a6, a7, a8, a9, a10, a11, a12⟩ := h
  exact ⟨a1.up ht, a2.up, a3.up, a4, a5, a6, a7, a8, a9.up, hm, a11, a12⟩
theorem Jv.tp {x : List Nat} (h : Jv t S) (ht : t < 64) (hm : jB 400 x) : Jv (t + 1) (wT S x) := by
  obtain ⟨a1, a2, a3, a4, a5, a6, a7, a8, a9, a10, a11, a12⟩ := h
  exact ⟨a1.up ht, a2.up, a3.up, a4, a5, a6, a7, a8, a9.up, a10, hm, a12⟩
theorem Jv.dt {m : Msg} {x : List Nat} (h : Jv t S) (ht : t < 64) (hm : okM m) (hx : jB 400 x) : Jv (t + 1) (wT (wD S m) x) := by
  obtain ⟨a1, a2, a3, a4, a5, a6, a7, a8, a9, a10, a11, a12⟩ := h
  exact ⟨a1.up ht, a2.up, a3.up, a4, a5, a6, a7, a8, a9.up, hm, hx, a12⟩
theorem Jv.zl {x : List Nat} (h : Jv t S) (ht : t < 64) (hm : jB 160 x) : Jv (t + 1) (wZ S x) := by
  obtain ⟨a1, a2, a3, a4, a5, a6, a7, a8, a9, a10, a11, a12⟩ := h
  exact ⟨a1.up ht, a2.up, a3.up, a4, a5, a6, a7, a8, a9.up, a10, a11, hm⟩
theorem i_feed {b : Int} (h : Jv t S) (ht : t < 64) : Jv (t + 1) (o_feed S b).2 := by
  refine Jv_gat h ht (fun h1 h2 => h.tp ht ?_)
  have hb := h.2.2.2.2.2.2.2.2.2.2.1
  refine ⟨by simp; omega, fun i hi => ?_⟩
  simp at hi
  by_cases e : i < (sT S).length
  · rw [gD_l e]; exact hb.2 i e
  · rw [show i = (sT S).length by omega]
    simp; omega
theorem i_trim {b : Int} (h : Jv t S) (ht : t < 64) : Jv (t + 1) (o_trim S b).2 := by
  refine Jv_gat h ht (fun h1 h2 => h.tp ht ?_)
  have hb := h.2.2.2.2.2.2.2.2.2.2.1
  refine ⟨by have := hb.1; simp; omega, fun i hi => ?_⟩
  simp at hi
  have := hb.2 i (by omega)
  rw [List.getD_eq_getElem?_getD, List.getElem?_take_of_lt (by omega), ← List.getD_eq_getElem?_getD]
  exact this
theorem i_spoil {i x : Int} (h : Jv t S) (ht : t < 64) : Jv (t + 1) (o_spoil S i x).2 := by
  refine Jv_gat h ht (fun h1 h2 => h.tp ht ?_)
  have hb := h.2.2.2.2.2.2.2.2.2.2.1
  refine ⟨by rw [List.length_set]; exact hb.1, fun k hk => ?_⟩
  rw [List.length_set] at hk
  rw [List.getD_eq_getElem?_getD, List.getElem?_set]
  split
  · rename_i e
    rw [if_pos (by omega)]
    exact Nat.xor_lt_two_pow (n := 8) (hb.2 _ (by omega)) (by omega)
  · rw [← List.getD_eq_getElem?_getD]; exact hb.2 k hk
end IOP
