section IS2
variable {t : Nat} {S : Sw}
theorem i_hpn {a : Nat} {m : Msg} (h : Jv t S) (ht : t < 64) (hm : okM m) (hy : gT m ∈ tys) (hw : isWh m = true) (h8 : gT m ≠ 800) (ha : a < sN S 17) (hu : isUp S) : Jv (t + 1) (hpn S a m).2.2 ∧ hpOk S (hpn S a m) := by
  unfold hpn
  split
  · exact i_apv h ht hm hy hw (by assumption) ha hu
  · split
    · exact i_clr h ht hm hy hw (by assumption) ha
    · split
      · exact i_rev h ht hm hy hw (by assumption) ha hu
      · exact i_rcn h ht ha
theorem jB_nil {k : Nat} : jB k [] := ⟨by simp, fun i hi => by simp at hi⟩
theorem i_send (h : Jv t S) (ht : t < 64) : Jv (t + 1) (o_send S).2 := by
  refine Jv_gat h ht (fun _ hu => ?_)
  split
  · exact h.zl ht jB_nil
  · rename_i m hm
    obtain ⟨ho, hlen, hy, -⟩ := pR_ok hm
    split
    · exact i_told h ht ho hy
    · rename_i q1
      have hw : isWh m = true := by simpa using q1
      split
      · exact i_told h ht ho hy
      · rename_i h8
        split
        · exact i_told h ht ho hy
        · rename_i q3
          simp only
          split
          · rename_i q4
            split
            · exact h.zl ht (h.2.2.2.2.2.1.1 _ q4).2.2.2.2.2
            · exact i_told h ht ho hy
          · rename_i q4
            split
            · exact i_told h ht ho hy
            · rename_i q5
              obtain ⟨hv, hp⟩ := i_hpn (a := val m 4) h ht ho hy hw h8 (by omega) hu
              generalize hpn S (val m 4) m = H at *
              obtain ⟨p1, p2, p3, p4⟩ := hp
              have han := okE_ser (okE_rsp (r := H.1) (p2 _ (okE_echo ho hy)))
              generalize ser (rsp (H.2.1 (echo m)) H.1) = an at *
              have htr := wh_tr hw hy h8
              have hmx := wh_mx hw hy
              have v3 := val_lt ho (s := 3) (by omega) htr.1 rfl
              have hT := h.2.2.2.2.2.2.2.2.2.2.1
              have hx : okA (sN H.2.2) (val m 4, gT m / 100, val m 3, H.1, sT S, an) := by
                refine ⟨?_, ?_, ?_, p1, ⟨?_, hT.2⟩, han⟩
                · show val m 4 < sN H.2.2 17
                  rw [p3 17 (by omega)]; omega
                · show val m 3 ≤ 999999
                  simp only [szF] at v3
                  omega
                · show gT m / 100 ≤ 8
                  have := ty_kind hy
                  omega
                · show (sT S).length ≤ 160
                  omega
              have hu2 : ∀ k, k < sN H.2.2 55 → ¬ (rA (sR H.2.2 k) = val m 4 ∧ rT (sR H.2.2 k) = val m 3 ∧ rK (sR H.2.2 k) = gT m / 100) := fun k hk q => by
                rw [p3 55 (by omega)] at hk
                rw [p4] at q
                have h1 := fsn_f (P := fun k => decide (rA (sR S k) = val m 4 ∧ rT (sR S k) = val m 3 ∧ rK (sR S k) = gT m / 100)) (n := sN S 55) (j := k) (by unfold fAr at q4; have := fsn_le (P := fun k => decide (rA (sR S k) = val m 4 ∧ rT (sR S k) = val m 3 ∧ rK (sR S k) = gT m / 100)) (n := sN S 55); omega)
                simp [q] at h1
              have hk := fun z hz => Jv_keep (z := z) hv hx hu2 (by rw [p3 4 (by omega)]; exact hu.1) (by rw [p3 6 (by omega)]; exact hu.2) (by rw [p3 9 (by omega), p3 8 (by omega)]; exact q5) (by rw [p3 10 (by omega)]; have := h.1; unfold jS at this; omega) hz
              split
              · exact hk [] jB_nil
              · exact hk an han
end IS2
