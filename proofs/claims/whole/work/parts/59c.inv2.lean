/-! route, account, card, block, letters -/
section IRT
variable {t : Nat} {S : Sw}
theorem lt_nd_le {v d : Nat} (h : nd v ≤ d) : v < 10 ^ d := Nat.lt_of_lt_of_le (lt_nd v) (Nat.pow_le_pow_right (by omega) h)
theorem i_route {i p d : Int} (h : Jv t S) (ht : t < 64) : Jv (t + 1) (o_route S i p d).2 := by
  refine Jv_gat h ht (fun h1 h2 => ?_)
  obtain ⟨a1, a2, a3, a4, a5, a6, a7, a8, a9, a10⟩ := h
  have hk : fRt S p.toNat d.toNat ≤ sN S 24 := fsn_le
  generalize fRt S p.toNat d.toNat = k at hk h2
  refine ⟨?_, ?_, a3.up, a4.mono rfl (Nat.le_refl _) (Nat.le_refl _) (Nat.le_refl _) rfl, a5, a6.mono rfl (Nat.le_refl _), a7, a8, a9.up, a10⟩
  · show jS (t + 1) (up1 (sN S) 24 (if k = sN S 24 then sN S 24 + 1 else sN S 24))
    unfold jS at *
    simp [up1]
    split <;> omega
  · show jI (t + 1) (up1 (sN S) 24 (if k = sN S 24 then sN S 24 + 1 else sN S 24)) (up2 (up2 (up2 (sI S) 504 k p.toNat) 505 k d.toNat) 506 k i.toNat)
    obtain ⟨b1, b2, b3, b4, b5, b6⟩ := a2
    refine ⟨?_, ?_, fun j hj => ?_, ?_, ?_, ?_⟩
    · simpa [up1, up2] using b1
    · intro i hi
      have := b2 i hi
      simp [up1, up2]; omega
    · have hj : j < (if k = sN S 24 then sN S 24 + 1 else sN S 24) := hj
      by_cases e : j = k
      · subst e
        have := lt_nd_le (v := p.toNat) (d := d.toNat) (by omega)
        simp [up1, up2]
        refine ⟨by omega, by omega, this, by omega⟩
      · have := b3 j (by split at hj <;> omega)
        simpa [up1, up2, e] using this
    · simpa [up1, up2] using b4
    · simpa [up1, up2] using b5
    · simpa [up1, up2] using b6
theorem i_account {i b m : Int} (h : Jv t S) (ht : t < 64) : Jv (t + 1) (o_account S i b m).2 := by
  refine Jv_gat h ht (fun h1 h2 => ?_)
  obtain ⟨a1, a2, a3, a4, a5, a6, a7, a8, a9, a10⟩ := h
  have h39 : sN S 39 = 0 := a1.2.2.2.2.1 h2.1
  refine ⟨?_, ?_, ?_, a4.mono rfl (Nat.le_refl _) (Nat.le_refl _) (by show sN S 28 ≤ sN S 28 + 1; omega) rfl, a5, a6.mono rfl (Nat.le_refl _), a7, a8, ?_, a10⟩
  · show jS (t + 1) (up1 (sN S) 28 (sN S 28 + 1))
    unfold jS at *
    simp [up1]
    omega
  · show jI (t + 1) (up1 (sN S) 28 (sN S 28 + 1)) (up2 (sI S) 507 (sN S 28) i.toNat)
    obtain ⟨b1, b2, b3, b4, b5, b6⟩ := a2
    refine ⟨?_, ?_, ?_, fun j hj => ?_, fun j hj => ?_, ?_⟩
    · simpa [up1, up2] using b1
    · intro i hi
      have := b2 i hi
      simp [up1, up2]; omega
    · simpa [up1, up2] using b3
    · have hj : j < sN S 28 + 1 := hj
      by_cases e : j = sN S 28
      · subst e; simp [up1, up2]; omega
      · have := b4 j (by omega)
        simpa [up1, up2, e] using this
    · have := b5 j hj
      simp [up1, up2]; omega
    · simpa [up1, up2] using b6
  · show jL (t + 1) (up2 (up2 (sL S) 509 (sN S 28) b) 508 (sN S 28) m)
    obtain ⟨b1, b2, b3⟩ := a3.up
    refine ⟨?_, ?_, ?_⟩
    · simpa [sumF, up2] using b1
    · simpa [sumF, up2] using b2
    · simpa [up2] using b3
  · intro a ha
    have ha : a < sN S 28 + 1 := ha
    have e : ∀ x, x = (o_account S i b m).2 → True := fun _ _ => trivial
    show (0 ≤ up2 (up2 (sL S) 509 (sN S 28) b) 508 (sN S 28) m 509 a - up2 (up2 (sL S) 509 (sN S 28) b) 508 (sN S 28) m 508 a - sumF (hOf (sP S) a) (sN S 39) - sumF (kOf (sP S) a) (sN S 39) ∨ up1 (sF S) (sN S 28) (b - m) a ≤ up2 (up2 (sL S) 509 (sN S 28) b) 508 (sN S 28) m 509 a - up2 (up2 (sL S) 509 (sN S 28) b) 508 (sN S 28) m 508 a - sumF (hOf (sP S) a) (sN S 39) - sumF (kOf (sP S) a) (sN S 39)) ∧ up2 (up2 (sL S) 509 (sN S 28) b) 508 (sN S 28) m 509 a - up2 (up2 (sL S) 509 (sN S 28) b) 508 (sN S 28) m 508 a - sumF (hOf (sP S) a) (sN S 39) - sumF (kOf (sP S) a) (sN S 39) ≤ 10000000000000 + 1000000000000000 * ((t + 1 : Nat) : Int) ∧ -1000000000000 ≤ up1 (sF S) (sN S 28) (b - m) a ∧ up1 (sF S) (sN S 28) (b - m) a ≤ 2000000000000
    by_cases e : a = sN S 28
    · subst e
      rw [h39]
      simp [up1, up2, sumF]
      omega
    · have := a9.up a (by omega)
      unfold fre hld lkd at this
      simp [up1, up2, e]
      omega
theorem i_card {N a : Int} (h : Jv t S) (ht : t < 64) : Jv (t + 1) (o_card S N a).2 := by
  refine Jv_gat h ht (fun h1 h2 => ?_)
  split
  · exact h.up ht
  · rename_i q1
    split
    · exact h.up ht
    · split
      · exact h.up ht
      · split
        · exact h.up ht
        · rename_i q4
          obtain ⟨a1, a2, a3, a4, a5, a6, a7, a8, a9, a10⟩ := h
          refine ⟨?_, ?_, a3.up, a4.mono rfl (Nat.le_refl _) (Nat.le_refl _) (Nat.le_refl _) rfl, a5, a6.mono rfl (Nat.le_refl _), a7, ?_, a9.up, a10⟩
          · show jS (t + 1) (up1 (sN S) 34 (sN S 34 + 1))
            unfold jS at *
            simp [up1]
            omega
          · show jI (t + 1) (up1 (sN S) 34 (sN S 34 + 1)) (up2 (sI S) 514 (sN S 34) a.toNat)
            obtain ⟨b1, b2, b3, b4, b5, b6⟩ := a2
            refine ⟨?_, ?_, ?_, ?_, fun j hj => ?_, ?_⟩
            · simpa [up1, up2] using b1
            · intro i hi
              have := b2 i hi
              simp [up1, up2]; omega
            · simpa [up1, up2] using b3
            · simpa [up1, up2] using b4
            · have hj : j < sN S 34 + 1 := hj
              by_cases e : j = sN S 34
              · subst e; simp [up1, up2]; omega
              · have := b5 j (by omega)
                simpa [up1, up2, e] using this
            · simpa [up1, up2] using b6
          · show jC (up1 (sN S) 34 (sN S 34 + 1)) (up1 (sC S) (sN S 34) N.toNat)
            have hf : ∀ j, j < sN S 34 → sC S j ≠ N.toNat := fun j hj q => by
              have := fsn_f (P := fun k => decide (sC S k = N.toNat)) (n := sN S 34) (j := j) (by unfold fCd at q4; have := fsn_le (P := fun k => decide (sC S k = N.toNat)) (n := sN S 34); omega)
              simp [q] at this
            refine ⟨fun j hj => ?_, fun j k hj hk => ?_⟩
            · have hj : j < sN S 34 + 1 := hj
              unfold up1
              split
              · exact ⟨h1.2.1, h1.2.2.1, by unfold isG; omega⟩
              · exact a8.1 j (by omega)
            · have hj : j < sN S 34 + 1 := hj
              have hk : k < sN S 34 + 1 := hk
              unfold up1
              split <;> split
              · intro; omega
              · intro q; exact absurd q.symm (hf k (by omega))
              · intro q; exact absurd q (hf j (by omega))
              · exact a8.2 j k (by omega) (by omega)
theorem i_block {c : Int} {on : Bool} (h : Jv t S) (ht : t < 64) : Jv (t + 1) (o_block S c on).2 := by
  refine Jv_gat h ht (fun h1 h2 => ?_)
  split
  · exact h.up ht
  · split
    · exact h.up ht
    · rename_i q1 q2
      have hn : Jv (t + 1) (wN S (wr1 (sN S))) := h.cn (jS_wr1 h.1 ht h2.1 h2.2 q2) (wr1_ne (by omega)) (wr1_ne (by omega)) (wr1_ne (by omega)) (wr1_ne (by omega)) (wr1_ne (by omega)) (wr1_ne (by omega)) (wr1_ne (by omega)) (wr1_ne (by omega)) (wr1_ne (by omega))
      obtain ⟨a1, a2, a3⟩ := hn
      refine ⟨a1, ?_, a3⟩
      have a2 : jI (t + 1) (wr1 (sN S)) (sI S) := a2
      show jI (t + 1) (wr1 (sN S)) (up2 (sI S) 515 c.toNat on.toNat)
      obtain ⟨b1, b2, b3, b4, b5, b6⟩ := a2
      refine ⟨?_, ?_, ?_, ?_, ?_, fun i hi => ?_⟩
      · intro i hi; have := b1 i hi; simpa [up2] using this
      · intro i hi; have := b2 i hi; simpa [up2] using this
      · intro i hi; have := b3 i hi; simpa [up2] using this
      · intro i hi; have := b4 i hi; simpa [up2] using this
      · intro i hi; have := b5 i hi; simpa [up2] using this
      · have := b6 i hi
        show up2 (sI S) 515 c.toNat on.toNat 515 i ≤ 1
        unfold up2
        split
        · cases on <;> simp
        · exact this
theorem lettr_lt {v : Int64} {k : Nat} : lettr v k < 36 := by
  unfold lettr
  generalize v >>> _ = x
  have h1 : (x &&& 31).toBitVec.toNat ≤ 31 := by
    rw [Int64.toBitVec_and, BitVec.toNat_and]
    exact Nat.and_le_right
  have h2 : (x &&& 31).toInt = ((x &&& 31).toBitVec.toNat : Int) := by
    show (x &&& 31).toBitVec.toInt = _
    rw [BitVec.toInt_eq_toNat_of_lt (by omega)]
  omega
theorem i_letters {f n : Int} {v : Int64} (h : Jv t S) (ht : t < 64) : Jv (t + 1) (o_letters S f v n).2 := by
  unfold o_letters
  split
  · exact h.up ht
  · rename_i s hs
    by_cases q : ltF s = true ∧ (if s = 10 then 1 ≤ n ∧ n ≤ 40 else n = 0)
    · rw [if_pos q]
      refine h.dr ht (okM_pt h.dM (slI_lt hs).1 ⟨?_, fun q2 => ?_, ?_, fun i _ => ?_⟩)
      · by_cases e : s = 10
        · rw [if_pos e] at q ⊢; subst e; simp [szF]; omega
        · rw [if_neg e]; exact Nat.le_refl _
      · rw [if_neg]
        intro e
        subst e
        simp [ldF] at q2
      · by_cases e : s = 10
        · rw [if_pos e] at q ⊢; omega
        · rw [if_neg e]; exact szF_pos
      · rw [if_pos q.1]; exact lettr_lt
    · rw [if_neg q]
      exact h.up ht
end IRT
