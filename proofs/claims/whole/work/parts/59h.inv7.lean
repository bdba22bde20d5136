/-! what happens behind a message -/
section IHP
variable {t a : Nat} {S : Sw} {m : Msg}
theorem Jv_wI {f : Nat → Nat → Nat} {S1 : Sw} (h : Jv t S1) (hf : jI t (sN S1) f) : Jv t (wI S1 f) := by
  obtain ⟨a1, a2, a3, a4, a5, a6, a7, a8, a9, a10⟩ := h
  exact ⟨a1, hf, a3, a4, a5, a6, a7, a8, a9, a10⟩
theorem jI_502 {n : Nat → Nat} {f : Nat → Nat → Nat} {x : Nat} (h : jI t n f) (hx : x ≤ t + 1) : jI (t + 1) n (up2 f 502 a x) := by
  obtain ⟨b1, b2, b3, b4, b5, b6⟩ := h
  refine ⟨?_, fun i hi => ?_, ?_, ?_, ?_, ?_⟩
  · simpa [up2] using b1
  · have := b2 i hi
    unfold up2
    split <;> omega
  · simpa [up2] using b3
  · simpa [up2] using b4
  · simpa [up2] using b5
  · simpa [up2] using b6
theorem pushA_ok {xs : List Nat} {n : Nat} (h : xs.length ≤ 8 ∧ ∀ x ∈ xs, x ≤ n) : (pushA xs n).length ≤ 8 ∧ ∀ x ∈ pushA xs n, x ≤ n := by
  unfold pushA
  split
  · refine ⟨by simp; omega, fun x hx => ?_⟩
    rw [List.mem_append] at hx
    rcases hx with hx | hx
    · exact h.2 x (List.mem_of_mem_drop hx)
    · simp at hx; omega
  · refine ⟨by simp; omega, fun x hx => ?_⟩
    rw [List.mem_append] at hx
    rcases hx with hx | hx
    · exact h.2 x hx
    · simp at hx; omega
theorem key_none (h : ¬ fKy S a m < sN S 39) (i : Nat) (hi : i < sN S 39) : ¬ (qI (sP S i) 41 = a ∧ ∀ j, j < 12 → qR (sP S i) j = gS m 5 j) := by
  intro q
  have h1 := fsn_f (P := keyB S a m) (n := sN S 39) (j := i) (by unfold fKy at h; have := fsn_le (P := keyB S a m) (n := sN S 39); omega)
  unfold keyB at h1
  rw [q.1, eqN_iff.mpr q.2] at h1
  simp at h1
theorem okP_new {acc : Nat} (h : Jv t S) (hm : okM m) (hy : gT m ∈ tys) (h0 : pb (gH m) 0 = 1) (h3 : pb (gH m) 3 = 1) (h5 : pb (gH m) 5 = 1) (ha : a < sN S 17) (hacc : acc ≤ sN S 28) : okPy (up1 (sN S) 12 (sN S 12 + 1)) (newP S m a acc) := by
  have f0 := hm.2.2 0 (by omega) h0
  have f5 := hm.2.2 5 (by omega) h5
  have v3 := val_lt hm (s := 3) (by omega) h3 rfl
  have h12 := h.1.2.2.1
  refine ⟨?_, fun j hj => ?_, fun j hj => ?_, ?_, ?_, ?_, ?_, ?_, ?_, ?_⟩
  · simp [newP, qI, up1]
    have := f0.1
    have := f0.2.2.1
    simp [szF] at *
    omega
  · have : j < gN m 0 := by simpa [newP, qI, up1] using hj
    have := f0.2.2.2 j this
    show gS m 0 j < 10
    simpa [ltF] using this
  · have := f5.2.2.2 j (by have := f5.2.1 rfl; simp [szF] at this; omega)
    show gS m 5 j < 36
    simpa [ltF] using this
  all_goals simp [newP, qI, qL, up1]
theorem i_apv (h : Jv t S) (ht : t < 64) (hm : okM m) (hy : gT m ∈ tys) (hw : isWh m = true) (hk : gT m / 100 = 1) (ha : a < sN S 17) (hu : isUp S) : Jv (t + 1) (apv S a m).2.2 ∧ hpOk S (apv S a m) := by
  have b := fun k hk' => (wh_pb (k := k) hw hy hk').1 hk
  have n1 : ∀ r, r ≤ 99 → Jv (t + 1) (nay r S).2.2 ∧ hpOk S (nay r S) := fun r hr => ⟨h.up ht, hp_nay hr⟩
  unfold apv
  split
  · exact n1 94 (by omega)
  · rename_i q1
    split
    · exact n1 12 (by omega)
    · split
      · exact n1 13 (by omega)
      · rename_i q3
        split
        · exact n1 92 (by omega)
        · split
          · exact n1 14 (by omega)
          · rename_i q5
            split
            · exact n1 62 (by omega)
            · split
              · exact n1 65 (by omega)
              · split
                · exact n1 96 (by omega)
                · rename_i q8
                  split
                  · exact n1 51 (by omega)
                  · rename_i q9
                    have hc : fCm S m < sN S 34 := by
                      unfold fCm at *
                      split at q5
                      · rename_i c
                        rw [if_pos c]
                        have : fCd S (val m 0) ≤ sN S 34 := fsn_le
                        omega
                      · omega
                    have hacc := h.2.1.2.2.2.2.1 _ hc
                    generalize fCm S m = c at *
                    simp only
                    generalize sI S 514 c = acc at *
                    have v2 := val_lt hm (s := 2) (by omega) (b 2 (by omega) rfl) rfl
                    simp only [szF] at v2
                    have hl : ∃ hl : Int, hl = (if (val m 2 : Int) ≤ fre S acc then (val m 2 : Int) else fre S acc) ∧ 0 < hl ∧ hl ≤ fre S acc ∧ hl ≤ 999999999999 := by
                      refine ⟨_, rfl, ?_⟩
                      split <;> omega
                    obtain ⟨hl, e, l1, l2, l3⟩ := hl
                    rw [← e]
                    have h0 := h.1
                    have hp := okP_new (acc := acc + 1) h hm hy (b 0 (by omega) rfl) (b 3 (by omega) rfl) (b 5 (by omega) rfl) ha (by omega)
                    refine ⟨Jv_come h ht (by unfold jS at h0; omega) hu.1 ?_ rfl (key_none q1) ?_ ?_, ?_, ?_, fun j hj => ?_, rfl⟩
                    · obtain ⟨b1, b2, b3, -⟩ := hp
                      unfold jS at h0
                      refine ⟨?_, b2, b3, ?_, ?_, ?_, ?_, ?_, ?_, ?_⟩
                      · simp only [qI_pIu, qL_pIu, qI_pLu, qL_pLu, Nat.reduceEqDiff, ↓reduceIte]
                        omega
                      all_goals simp [qI, qL, newP, pIu, pLu, up1]
                      all_goals omega
                    · intro x hx
                      unfold up1
                      split
                      · subst x; exact pushA_ok (h.2.2.2.2.2.2.1 acc hx)
                      · exact h.2.2.2.2.2.2.1 x hx
                    · intro x hx
                      unfold hq kq
                      have e45 : qI (pLu (pIu (pIu (newP S m a (acc + 1)) 47 1) 50 (sN S 11 + sN S 13)) 48 hl) 45 = acc + 1 := rfl
                      have e48 : qL (pLu (pIu (pIu (newP S m a (acc + 1)) 47 1) 50 (sN S 11 + sN S 13)) 48 hl) 48 = hl := rfl
                      have e52 : qI (pLu (pIu (pIu (newP S m a (acc + 1)) 47 1) 50 (sN S 11 + sN S 13)) 48 hl) 52 = 0 := rfl
                      rw [e45, e48, e52]
                      refine ⟨?_, by simp⟩
                      split
                      · right
                        rw [show x = acc by omega]
                        omega
                      · left; rfl
                    · show (if _ then 0 else 10) ≤ 99
                      split <;> omega
                    · intro y hy
                      refine okE_pt (okE_pt hy (by omega) (okF_N ?_) rfl) (by omega) ⟨Nat.le_refl _, fun _ => rfl, szF_pos, fun i _ => ?_⟩ rfl
                      · exact nd_le 11 _ (by omega)
                      · exact Nat.lt_of_lt_of_le (dgt_lt (by omega)) (by simp [ltF])
                    · show up1 (up1 (sN S) 39 (sN S 39 + 1)) 12 (sN S 12 + 1) j = sN S j
                      simp [up1, hj.1, hj.2]
theorem i_rcn (h : Jv t S) (ht : t < 64) (ha : a < sN S 17) : Jv (t + 1) (rcn S a m).2.2 ∧ hpOk S (rcn S a m) := by
  have h17 := h.1.2.1.1
  have e1 := h.2.1.2.1 a (by omega)
  have e2 := h.2.2.1.2.2 a (by omega)
  have ho : ∀ y, okE y → okE ((rcn S a m).2.1 y) := fun y hy => by
    have h0 := h.1.2.2.2.2.2
    refine okE_pt (okE_pt hy (by omega) (okF_N ?_) rfl) (by omega) (okF_N ?_) rfl
    · exact nd_le 9 _ (by omega)
    · exact nd_le 15 _ (by omega)
  have hr : (rcn S a m).1 ≤ 99 := by
    show (if _ then 0 else 95) ≤ 99
    split <;> omega
  unfold rcn at *
  by_cases q : val m 12 = sI S 502 a ∧ (val m 13 : Int) = sL S 503 a
  · simp only [if_pos q] at *
    refine ⟨?_, hr, ho, fun _ _ => rfl, rfl⟩
    obtain ⟨a1, a2, a3, a4, a5, a6, a7, a8, a9, a10⟩ := h
    refine ⟨a1.up ht, jI_502 a2 (by omega), ?_, a4, a5, a6, a7, a8, ?_, a10⟩
    · show jL (t + 1) (up2 (sL S) 503 a 0)
      obtain ⟨b1, b2, b3⟩ := a3.up
      refine ⟨?_, ?_, fun i hi => ?_⟩
      · rw [← b1]; exact sumF_congr (fun k _ => by simp [up2])
      · rw [← b2]; exact sumF_congr (fun k _ => by simp [up2])
      · have := b3 i hi
        unfold up2
        split <;> omega
    · intro x hx
      have := a9.up x hx
      have e3 : fre (wL (wI S (up2 (sI S) 502 a 0)) (up2 (sL S) 503 a 0)) x = fre S x := by
        show up2 (sL S) 503 a 0 509 x - up2 (sL S) 503 a 0 508 x - _ - _ = _
        simp [up2]
        rfl
      rw [e3]
      exact this
  · simp only [if_neg q] at *
    exact ⟨h.up ht, hr, ho, fun _ _ => rfl, rfl⟩
theorem i_rev (h : Jv t S) (ht : t < 64) (hm : okM m) (hy : gT m ∈ tys) (hw : isWh m = true) (hk : gT m / 100 = 4) (ha : a < sN S 17) (hu : isUp S) : Jv (t + 1) (rev S a m).2.2 ∧ hpOk S (rev S a m) := by
  have b := fun k hk' => (wh_pb (k := k) hw hy hk').2.2.1 hk
  have n1 : ∀ r, r ≤ 99 → Jv (t + 1) (nay r S).2.2 ∧ hpOk S (nay r S) := fun r hr => ⟨h.up ht, hp_nay hr⟩
  have hle : fKy S a m ≤ sN S 39 := fsn_le
  unfold rev
  simp only
  split
  · rename_i q0
    split
    · rename_i q1
      refine ⟨?_, by show (25 : Nat) ≤ 99; omega, fun _ h => h, fun j hj => ?_, rfl⟩
      · have := Jv_come (p := newP S m a 0) (q := sQ S) h ht q1.2 hu.1 (okP_new h hm hy (b 0 (by omega) rfl) (b 3 (by omega) rfl) (b 5 (by omega) rfl) ha (by omega)) rfl (key_none (a := a) (m := m) (by omega)) h.2.2.2.2.2.2.1 (fun x hx => ?_)
        · exact this
        · unfold hq kq
          simp [newP, qI, qL, up1]
      · show up1 (up1 (sN S) 39 (sN S 39 + 1)) 12 (sN S 12 + 1) j = sN S j
        simp [up1, hj.1, hj.2]
    · exact n1 25 (by omega)
  · rename_i q0
    generalize fKy S a m = k at *
    have hk' : k < sN S 39 := by omega
    have hp := h.2.2.2.1 k hk'
    split
    · exact n1 12 (by omega)
    · rename_i q1
      split
      · exact n1 0 (by omega)
      · rename_i q2
        have c0 : qL (sP S k) 49 = 0 := by
          have := hp.2.2.2.2.2.2.2.2.2
          have := q1
          simp only [not_or] at this
          omega
        have hz : ∀ x, hq x (sP S k) ≤ 999999999999 ∧ 0 ≤ hq x (sP S k) := fun x => by
          unfold hq
          have := hp.2.2.2.2.2.2.2.2.2
          split <;> omega
        refine ⟨?_, by show (0 : Nat) ≤ 99; omega, fun _ h => h, fun _ _ => rfl, rfl⟩
        generalize (if pb (gH m) 15 = 1 then val m 15 else 0) = lf
        have hpo := hp
        obtain ⟨b1, b2, b3, b4, b5, b6, b7, b8, b9, b10⟩ := hpo
        show Jv (t + 1) (wP (wL (wN S (sN S)) (sL S)) (up1 (sP S) k _))
        by_cases q3 : 0 < lf ∧ (lf : Int) < qL (sP S k) 48
        · rw [if_pos q3]
          refine h.py (h.1.up ht) rfl rfl rfl rfl rfl rfl rfl rfl rfl hk' h.2.2.1.up ?_ rfl rfl rfl (fun x hx => ?_)
          · refine ⟨b1, b2, b3, b4, ?_, ?_, ?_, b8, b9, ?_⟩
            all_goals simp only [qI_pLu, qL_pLu, Nat.reduceEqDiff, ↓reduceIte]
            all_goals omega
          · have e1 : kq x (pLu (sP S k) 48 lf) = kq x (sP S k) := rfl
            rw [e1]
            have e2 : hq x (pLu (sP S k) 48 lf) = if qI (sP S k) 45 = x + 1 then (lf : Int) else 0 := rfl
            rw [e2]
            unfold hq fre
            split <;> omega
        · rw [if_neg q3]
          refine h.py (h.1.up ht) rfl rfl rfl rfl rfl rfl rfl rfl rfl hk' h.2.2.1.up ?_ rfl rfl rfl (fun x hx => ?_)
          · refine ⟨?_, b2, b3, ?_, ?_, ?_, ?_, ?_, ?_, ?_⟩
            all_goals simp only [qI_ends, qL_ends, Nat.reduceEqDiff, ↓reduceIte, c0, Int.lt_irrefl]
            all_goals first | omega | (simp; done) | (simp; omega)
          · have e1 : kq x (ends (sP S k) 0) = kq x (sP S k) := rfl
            rw [e1]
            have e2 : hq x (ends (sP S k) 0) = if qI (sP S k) 45 = x + 1 then (0 : Int) else 0 := rfl
            rw [e2]
            have := hz x
            unfold fre
            split <;> omega
theorem i_clr (h : Jv t S) (ht : t < 64) (hm : okM m) (hy : gT m ∈ tys) (hw : isWh m = true) (hk : gT m / 100 = 2) (ha : a < sN S 17) : Jv (t + 1) (clr S a m).2.2 ∧ hpOk S (clr S a m) := by
  have b := fun k hk' => (wh_pb (k := k) hw hy hk').2.1 hk
  have n1 : ∀ r, r ≤ 99 → Jv (t + 1) (nay r S).2.2 ∧ hpOk S (nay r S) := fun r hr => ⟨h.up ht, hp_nay hr⟩
  have hle : fKy S a m ≤ sN S 39 := fsn_le
  unfold clr
  simp only
  split
  · exact n1 25 (by omega)
  · rename_i q0
    have hkey := fsn_t (P := keyB S a m) (n := sN S 39) (by unfold fKy at *; omega)
    change keyB S a m (fKy S a m) = true at hkey
    generalize fKy S a m = k at *
    have hk' : k < sN S 39 := by omega
    have hp := h.2.2.2.1 k hk'
    split
    · exact n1 12 (by omega)
    · rename_i q1
      split
      · exact n1 13 (by omega)
      · rename_i q2
        have h47 : qI (sP S k) 47 = 1 := by
          simp only [not_or] at q1
          omega
        have h45 := (hp.2.2.2.1 h47).1
        have hc := hp.acc h h45
        refine ⟨?_, by show (0 : Nat) ≤ 99; omega, fun _ h => h, fun _ _ => rfl, rfl⟩
        have e41 : qI (sP S k) 41 = a := by
          unfold keyB at hkey
          simp at hkey
          exact hkey.1
        have hi : sI S 507 (qI (sP S k) 45 - 1) < 6 := hc.2
        generalize sI S 507 (qI (sP S k) 45 - 1) = i at *
        have ha6 : a < 6 := by omega
        have e502 := h.2.1.2.1 a ha6
        generalize hcost : ((val m 2 : Int) * ((sI S 499 (6 + i) : Int) + (sI S 499 a : Int)) + 9999) / 10000 = cost
        generalize hitc : (val m 2 : Int) * (sI S 499 (6 + i) : Int) / 10000 = itc
        have v2 : val m 2 < 1000000000000 := val_lt hm (s := 2) (by omega) (b 2 (by omega) rfl) rfl
        generalize val m 2 = am at *
        refine Jv_wI (S1 := wP (wL (wN S (sN S)) _) (up1 (sP S) k _)) (h.py (h.1.up ht) rfl rfl rfl rfl rfl rfl rfl rfl rfl hk' ?_ ?_ ?_ ?_ ?_ (fun x hx => ?_)) (jI_502 h.2.1 (by omega))
        · obtain ⟨b1, b2, b3⟩ := h.2.2.1
          refine ⟨?_, ?_, fun j hj => ?_⟩
          · rw [sumF_congr (g := up2 (up2 (up2 (sL S) 500 a (sL S 500 a + (am - cost))) 500 (6 + i) (sL S 500 (6 + i) + (itc - am))) 500 12 (sL S 500 12 + (cost - itc)) 500) (fun k _ => by simp [up2])]
            rw [sumF_up (f := up2 (up2 (sL S) 500 a (sL S 500 a + (am - cost))) 500 (6 + i) (sL S 500 (6 + i) + (itc - am)) 500) (k := 12) (by omega) (fun k _ hk => by simp [up2, hk]), sumF_up (f := up2 (sL S) 500 a (sL S 500 a + (am - cost)) 500) (k := 6 + i) (by omega) (fun k _ hk => by simp [up2, hk]), sumF_up (f := sL S 500) (k := a) (by omega) (fun k _ hk => by simp [up2, hk]), b1]
            simp [up2, show ¬ 12 = 6 + i by omega, show ¬ 12 = a by omega, show ¬ 6 + i = a by omega]
            omega
          · rw [← b2]; exact sumF_congr (fun k _ => by simp [up2])
          · have := b3 j hj
            simp only [up2, Nat.reduceEqDiff, false_and, true_and, if_false]
            split
            · rename_i e; subst e; omega
            · omega
        · obtain ⟨b1, b2, b3, b4, b5, b6, b7, b8, b9, b10⟩ := hp
          split
          · refine ⟨?_, b2, b3, ?_, ?_, ?_, ?_, ?_, ?_, ?_⟩
            all_goals simp only [qI_ends, qL_ends, qI_pLu, qL_pLu, Nat.reduceEqDiff, ↓reduceIte]
            all_goals first | (rw [if_pos (by omega)]; omega) | (rw [if_pos (by omega), if_pos (by omega)]; omega) | omega | (rw [if_pos (by omega)]; simp; omega) | (rw [if_pos (by omega)]; simp)
          · refine ⟨b1, b2, b3, b4, ?_, ?_, ?_, b8, b9, ?_⟩
            all_goals simp only [qI_pLu, qL_pLu, Nat.reduceEqDiff, ↓reduceIte]
            all_goals omega
        · split <;> rfl
        · split <;> rfl
        · split <;> rfl
        · have hz := hp.2.2.2.2.2.2.2.2.2
          have e1 : ∀ c : Prop, ∀ [Decidable c], kq x (if c then ends (pLu (pLu (sP S k) 48 (qL (sP S k) 48 - am)) 49 (qL (sP S k) 49 + am)) (sN S 11) else pLu (pLu (sP S k) 48 (qL (sP S k) 48 - am)) 49 (qL (sP S k) 49 + am)) = kq x (sP S k) := fun c _ => by split <;> rfl
          rw [e1]
          have e2 : ∀ c : Prop, ∀ [Decidable c], hq x (if c then ends (pLu (pLu (sP S k) 48 (qL (sP S k) 48 - am)) 49 (qL (sP S k) 49 + am)) (sN S 11) else pLu (pLu (sP S k) 48 (qL (sP S k) 48 - am)) 49 (qL (sP S k) 49 + am)) = if qI (sP S k) 45 = x + 1 then (if c then 0 else qL (sP S k) 48 - am) else 0 := fun c _ => by split <;> rfl
          rw [e2]
          unfold fre hq
          simp only [up2, Nat.reduceEqDiff, false_and, true_and, if_false]
          by_cases e : qI (sP S k) 45 = x + 1
          · have ex : qI (sP S k) 45 - 1 = x := by omega
            rw [if_pos e, if_pos e, if_pos (by omega), ex]
            split <;> omega
          · rw [if_neg e, if_neg e, if_neg (by omega)]
            omega
end IHP
