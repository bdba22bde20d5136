/-! THE DRAFT STAYS WELL MADE -/
section DRA
variable {m : Msg} {s n v : Nat} {f : Nat → Nat}
theorem okM_pt (h : okM m) (hs : s < 16) (hf : okF s n f) : okM (pt m s n f) := by
  refine ⟨h.1, setB_lt h.2.1 hs, fun k hk hp => ?_⟩
  show okF k (up1 (gN m) s n k) (up1 (gS m) s f k)
  unfold up1
  by_cases e : k = s
  · subst e; rw [if_pos rfl, if_pos rfl]; exact hf
  · rw [if_neg e, if_neg e]
    refine h.2.2 k hk ?_
    have hp : pb (setB (gH m) s) k = 1 := hp
    rw [setB_pb, if_neg e] at hp
    exact hp
theorem okM_bgn {ty : Nat} (h : ty ≤ 9999) : okM (bgn m ty) := ⟨h, by show (0 : Nat) < 65536; omega, fun k _ hp => by
  have hp : pb 0 k = 1 := hp
  unfold pb at hp
  simp at hp⟩
theorem okM_clr (h : okM m) (hs : s < 16) : okM (gT m, clrB (gH m) s, gN m, gS m) := by
  refine ⟨h.1, clrB_lt h.2.1, fun k hk hp => h.2.2 k hk ?_⟩
  have hp : pb (clrB (gH m) s) k = 1 := hp
  rw [clrB_pb hs hk] at hp
  split at hp
  · omega
  · exact hp
theorem szF_pos : 1 ≤ szF s := by unfold szF; split <;> omega
theorem okF_N (h : nd v ≤ szF s) : okF s (lnN s v) (dgt 10 (lnN s v) v) := by
  refine ⟨?_, fun q => ?_, ?_, fun i _ => ?_⟩
  · unfold lnN; split <;> omega
  · unfold lnN; rw [if_pos q]
  · unfold lnN; split
    · exact szF_pos
    · exact nd_pos v
  · have := dgt_lt (b := 10) (w := lnN s v) (n := v) (i := i) (by omega)
    split <;> omega
theorem okM_N (h : okM m) (hs : s < 16) (hv : nd v ≤ szF s) : okM (ptN m s v) := okM_pt h hs (okF_N hv)
theorem okM_X {b : Nat} (h : okM m) (hs : s < 16) (hb : 0 < b ∧ b ≤ (if ltF s then 36 else 10)) : okM (ptX m s b v) := okM_pt h hs ⟨Nat.le_refl _, fun _ => rfl, szF_pos, fun i _ => Nat.lt_of_lt_of_le (dgt_lt hb.1) hb.2⟩
theorem orig_lt {a b c i : Nat} : orig a b c i < 10 := by
  unfold orig
  split
  · exact dgt_lt (by omega)
  · split
    · exact dgt_lt (by omega)
    · split
      · exact dgt_lt (by omega)
      · omega
theorem okM_O {a b c : Nat} (h : okM m) : okM (ptO m a b c) := okM_pt h (by omega) ⟨Nat.le_refl _, fun _ => rfl, by omega, fun i _ => orig_lt⟩
theorem hf_lt {j b : Nat} (h : ∀ i, i < n → f i < b) (hb : 0 < b) (hj : j < n + n % 2) : hf n f j < b := by
  unfold hf
  split
  · split
    · exact hb
    · exact h _ (by omega)
  · exact h _ (by omega)
theorem fdB_256 (hs : s < 16) (h : okF s n f) : ∀ x ∈ fdB s n f, x < 256 := by
  obtain ⟨h1, h2, h3, h4⟩ := h
  have hz : szF s ≤ 42 := by unfold szF; split <;> omega
  intro x hx
  unfold fdB at hx
  rw [List.mem_append] at hx
  rcases hx with hx | hx
  · unfold lnB at hx
    split at hx
    · simp at hx; omega
    · split at hx
      · simp at hx; omega
      · simp at hx
  · split at hx
    · rename_i q
      unfold ltL at hx
      simp at hx
      obtain ⟨k, hk, rfl⟩ := hx
      have := h4 k hk
      rw [if_pos q] at this
      unfold ltB
      split <;> omega
    · rename_i q
      unfold pk at hx
      simp only [List.mem_map, List.mem_range] at hx
      obtain ⟨k, hk, rfl⟩ := hx
      rw [if_neg q] at h4
      have e1 := hf_lt (j := 2 * k) h4 (by omega) (by omega)
      have e2 := hf_lt (j := 2 * k + 1) h4 (by omega) (by omega)
      omega
theorem fdL_256 {th : Nat} {ln : Nat → Nat} {sg : Nat → Nat → Nat} : ∀ (k : Nat), k ≤ 16 → (∀ s, s < k → pb th s = 1 → okF s (ln s) (sg s)) → ∀ x ∈ fdL th ln sg k, x < 256
  | 0, _, _, x, hx => by simp [fdL] at hx
  | k + 1, hk, h, x, hx => by
    rw [fdL, List.mem_append] at hx
    rcases hx with hx | hx
    · exact fdL_256 k (by omega) (fun s hs => h s (by omega)) x hx
    · split at hx
      · exact fdB_256 (by omega) (h k (by omega) (by assumption)) x hx
      · simp at hx
theorem mpB_256 {p : Nat → Nat} {c k : Nat} (hp : ∀ s, p s ≤ 1) (hc : c ≤ 1) : mpB p c k < 256 := by
  have := hp 0; have := hp 1; have := hp 2; have := hp 3; have := hp 4; have := hp 5; have := hp 6; have := hp 7
  have := hp 8; have := hp 9; have := hp 10; have := hp 11; have := hp 12; have := hp 13; have := hp 14; have := hp 15
  unfold mpB
  split <;> omega
theorem ser_256 (h : okM m) : ∀ x ∈ ser m, x < 256 := by
  intro x hx
  unfold ser at hx
  simp only [List.mem_append] at hx
  rcases hx with (hx | hx) | hx
  · have := h.1
    unfold tyB at hx
    simp at hx
    omega
  · unfold mpL at hx
    simp only [List.mem_map, List.mem_range] at hx
    obtain ⟨k, hk, rfl⟩ := hx
    exact mpB_256 (pb_le _) (scF_le _)
  · exact fdL_256 16 (by omega) h.2.2 x hx
theorem jB_of {k : Nat} {xs : List Nat} (h : xs.length ≤ k) (h2 : ∀ x ∈ xs, x < 256) : jB k xs := ⟨h, fun i hi => by
  rw [List.getD_eq_getElem?_getD, List.getElem?_eq_getElem hi]
  exact h2 _ (List.getElem_mem hi)⟩
theorem ser_jB (h : okM m) : jB 400 (ser m) := jB_of (by have := ser_le h; omega) (ser_256 h)
end DRA
section IDR
variable {t : Nat} {S : Sw}
theorem Jv.dM (h : Jv t S) : okM (sD S) := h.2.2.2.2.2.2.2.2.2.1
theorem i_message {x : Int} (h : Jv t S) (ht : t < 64) : Jv (t + 1) (o_message S x).2 := Jv_gat h ht (fun h1 _ => h.dr ht (okM_bgn (by omega)))
theorem i_approval {x : Int} (h : Jv t S) (ht : t < 64) : Jv (t + 1) (o_approval S x).2 := Jv_gat h ht (fun h1 _ => h.dr ht (okM_X h.dM (by omega) (by simp [ltF])))
theorem i_original {a b c : Int} (h : Jv t S) (ht : t < 64) : Jv (t + 1) (o_original S a b c).2 := Jv_gat h ht (fun h1 _ => h.dr ht (okM_O h.dM))
theorem slF_lt {k s : Nat} (h : slF k = some s) : s < 16 ∧ fnF s = k := by
  unfold slF at h
  split at h <;> first | (cases h; exact ⟨by omega, rfl⟩) | cases h
theorem slI_lt {k : Int} {s : Nat} (h : slI k = some s) : s < 16 ∧ (fnF s : Int) = k := by
  unfold slI at h
  split at h
  · cases h
  · have := slF_lt h
    exact ⟨this.1, by omega⟩
theorem i_omit {f : Int} (h : Jv t S) (ht : t < 64) : Jv (t + 1) (o_omit S f).2 := by
  unfold o_omit
  split
  · exact h.up ht
  · rename_i s hs
    exact h.dr ht (okM_clr h.dM (slI_lt hs).1)
theorem i_digits {f v : Int} (h : Jv t S) (ht : t < 64) : Jv (t + 1) (o_digits S f v).2 := by
  unfold o_digits
  split
  · exact h.up ht
  · rename_i s hs
    split
    · rename_i q
      exact h.dr ht (okM_N h.dM (slI_lt hs).1 q.2.2)
    · exact h.up ht
theorem i_compose (h : Jv t S) (ht : t < 64) : Jv (t + 1) (o_compose S).2 := h.tp ht (ser_jB h.dM)
theorem i_fill {m : Msg} (h : Jv t S) (ht : t < 64) (hm : okM m) : Jv (t + 1) (fill S m).2 := h.dt ht hm (ser_jB hm)
theorem nd_i32 {x : Nat} (h : x < 100000000000) : nd x ≤ 11 := nd_le 10 x (by omega)
theorem i_ask {g a tr c am mo rf : Int} (h : Jv t S) (ht : t < 64) (ha : a < 2147483648) : Jv (t + 1) (o_ask S g a tr c am mo rf).2 := by
  refine Jv_gat h ht (fun h1 _ => i_fill h ht ?_)
  obtain ⟨q1, q2, q3, q4, q5, q6, q7⟩ := h1
  have hc := (h.2.2.2.2.2.2.2.1.1 c.toNat (by omega)).2.1
  refine okM_N (okM_X (okM_X (okM_N (okM_N (okM_N (okM_N (okM_N (okM_bgn (by omega)) (by omega) ?_) (by omega) q7.2) (by omega) q6.2) (by omega) q5.2) (by omega) ?_) (by omega) ?_) (by omega) ?_) (by omega) ?_
  · show nd (sC S c.toNat) ≤ 19; omega
  · exact nd_i32 (by omega)
  · simp [ltF]
  · simp [ltF]
  · show nd 978 ≤ 3
    exact nd_le 2 978 (by omega)
theorem okM_abt {p : Py} {ty tr : Nat} (h : Jv t S) (hp : okPy (sN S) p) (hty : ty ≤ 9999) (htr : nd tr ≤ 6) : okM (abt S p ty tr) := by
  obtain ⟨b1, b2, b3, -⟩ := hp
  have h17 : sN S 17 ≤ 6 := h.1.2.1.1
  refine okM_pt (okM_N (okM_N (okM_pt (okM_bgn hty) (by omega) ?_) (by omega) htr) (by omega) ?_) (by omega) ?_
  · exact ⟨b1.2.2.2.2.2.1, fun q => by simp [ldF] at q, b1.2.2.2.2.1, fun i hi => by have := b2 i hi; simpa [ltF] using this⟩
  · exact nd_i32 (by omega)
  · exact ⟨Nat.le_refl _, fun _ => rfl, by omega, fun i hi => by have := b3 i hi; simpa [ltF] using this⟩
theorem i_present {x tr am mo : Int} (h : Jv t S) (ht : t < 64) : Jv (t + 1) (o_present S x tr am mo).2 := by
  refine Jv_gap h ht (fun h1 _ h3 => i_fill h ht ?_)
  obtain ⟨q1, q2, q3⟩ := h1
  refine okM_N (okM_X (okM_N (okM_N (okM_abt h (h.2.2.2.1 _ h3) (by omega) q1.2) (by omega) q3.2) (by omega) q2.2) (by omega) ?_) (by omega) ?_
  · simp [ltF]
  · exact nd_le 2 978 (by omega)
theorem i_undo {x : Int} {adv : Bool} {tr lf : Int} (h : Jv t S) (ht : t < 64) : Jv (t + 1) (o_undo S x adv tr lf).2 := by
  refine Jv_gap h ht (fun h1 _ h3 => i_fill h ht ?_)
  obtain ⟨q1, q2⟩ := h1
  have e := okM_O (a := 100) (b := qI (sP S (fPn S x)) 46) (c := qI (sP S (fPn S x)) 41) (okM_abt (ty := if adv then 420 else 400) h (h.2.2.2.1 _ h3) (by split <;> omega) q1.2)
  unfold undM
  simp only
  split
  · exact e
  · exact okM_N e (by omega) q2.2
theorem i_total {a tr : Int} (h : Jv t S) (ht : t < 64) : Jv (t + 1) (o_total S a tr).2 := by
  refine Jv_gat h ht (fun h1 _ => i_fill h ht ?_)
  obtain ⟨q1, q2⟩ := h1
  have h17 : sN S 17 ≤ 6 := h.1.2.1.1
  have e1 := h.2.1.2.1 a.toNat (by omega)
  have e2 := h.2.2.1.2.2 a.toNat (by omega)
  refine okM_N (okM_N (okM_N (okM_N (okM_bgn (by omega)) (by omega) q2.2) (by omega) (nd_i32 (by omega))) (by omega) ?_) (by omega) ?_
  · exact nd_le 9 _ (by omega)
  · exact nd_le 15 _ (by omega)
end IDR
