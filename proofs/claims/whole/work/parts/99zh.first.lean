/-! THE FIRST STATE -/
section FST
variable {G : En} {M M0 : Mem} {Q : Option Value → Mem → Prop} {X : String → Mem → Prop} {n a j k i B : Nat} {b x v u : Int32} {e : Lk}
def zI : Nat → Nat → Int32 := fun _ _ => 0
def zR : Nat → Nat → Option Nat := fun _ _ => none
def GI : Nat → Nat → Int32 := mIE (cI11 zI)
def GR : Nat → Nat → Option Nat := mR10 (cR11 zR)
theorem mm_B (hb : b = mm x) : ∃ B, b = nI B ∧ 4 ≤ B ∧ B ≤ 30 := by
  subst hb
  unfold mm
  by_cases e : x < 30
  · rw [if_pos e]
    by_cases e2 : 4 < x
    · rw [if_pos e2]
      rw [i_lt] at e e2
      simp at e e2
      refine ⟨x.toInt.toNat, ?_, by omega, by omega⟩
      rw [i_eq, nI_toInt (by omega)]
      omega
    · rw [if_neg e2]; exact ⟨4, rfl, by omega, by omega⟩
  · rw [if_neg e, if_pos (by decide)]; exact ⟨30, rfl, by omega, by omega⟩
theorem ref_in : refF a j ≠ 0 → (a = 0 ∨ a = 1 ∨ a = 139 ∨ a = 140 ∨ a = 328 ∨ a = 432 ∨ a = 451 ∨ a = 453 ∨ a = 454 ∨ a = 473 ∨ a = 474 ∨ a = 493 ∨ a = 495) ∧ j < 90 := by
  intro h
  have hA : a = 0 ∨ a = 1 ∨ a = 139 ∨ a = 140 ∨ a = 328 ∨ a = 432 ∨ a = 451 ∨ a = 453 ∨ a = 454 ∨ a = 473 ∨ a = 474 ∨ a = 493 ∨ a = 495 := by
    apply Classical.byContradiction
    intro hn
    refine h ?_
    unfold refF
    simp only [show ¬ a = 0 by omega, show ¬ a = 1 by omega, show ¬ a = 139 by omega, show ¬ a = 140 by omega, show ¬ a = 328 by omega, show ¬ a = 432 by omega, show ¬ a = 451 by omega, show ¬ a = 453 by omega, show ¬ a = 454 by omega, show ¬ a = 473 by omega, show ¬ a = 474 by omega, show ¬ a = 493 by omega, show ¬ a = 495 by omega, if_false, ite_self]
  refine ⟨hA, ?_⟩
  apply Classical.byContradiction
  intro hn
  refine h ?_
  rcases hA with rfl | rfl | rfl | rfl | rfl | rfl | rfl | rfl | rfl | rfl | rfl | rfl | rfl <;> (unfold refF; simp only [Nat.reduceLT, Nat.reduceEqDiff, ↓reduceIte]; repeat rw [if_neg (by omega)])
theorem ref_ok (h : refF a j ≠ 0) : GR a j = some (refF a j) := by
  obtain ⟨ha, hj⟩ := ref_in h
  have h0 : ∀ j : Fin 90, refF 0 j.val ≠ 0 → GR 0 j.val = some (refF 0 j.val) := by decide +kernel
  have h1 : ∀ j : Fin 90, refF 1 j.val ≠ 0 → GR 1 j.val = some (refF 1 j.val) := by decide +kernel
  have h2 : ∀ j : Fin 90, refF 139 j.val ≠ 0 → GR 139 j.val = some (refF 139 j.val) := by decide +kernel
  have h3 : ∀ j : Fin 90, refF 140 j.val ≠ 0 → GR 140 j.val = some (refF 140 j.val) := by decide +kernel
  have h4 : ∀ j : Fin 90, refF 328 j.val ≠ 0 → GR 328 j.val = some (refF 328 j.val) := by decide +kernel
  have h5 : ∀ j : Fin 90, refF 432 j.val ≠ 0 → GR 432 j.val = some (refF 432 j.val) := by decide +kernel
  have h6 : ∀ j : Fin 90, refF 451 j.val ≠ 0 → GR 451 j.val = some (refF 451 j.val) := by decide +kernel
  have h7 : ∀ j : Fin 90, refF 453 j.val ≠ 0 → GR 453 j.val = some (refF 453 j.val) := by decide +kernel
  have h8 : ∀ j : Fin 90, refF 454 j.val ≠ 0 → GR 454 j.val = some (refF 454 j.val) := by decide +kernel
  have h9 : ∀ j : Fin 90, refF 473 j.val ≠ 0 → GR 473 j.val = some (refF 473 j.val) := by decide +kernel
  have h10 : ∀ j : Fin 90, refF 474 j.val ≠ 0 → GR 474 j.val = some (refF 474 j.val) := by decide +kernel
  have h11 : ∀ j : Fin 90, refF 493 j.val ≠ 0 → GR 493 j.val = some (refF 493 j.val) := by decide +kernel
  have h12 : ∀ j : Fin 90, refF 495 j.val ≠ 0 → GR 495 j.val = some (refF 495 j.val) := by decide +kernel
  rcases ha with rfl | rfl | rfl | rfl | rfl | rfl | rfl | rfl | rfl | rfl | rfl | rfl | rfl
  · exact h0 ⟨j, hj⟩ h
  · exact h1 ⟨j, hj⟩ h
  · exact h2 ⟨j, hj⟩ h
  · exact h3 ⟨j, hj⟩ h
  · exact h4 ⟨j, hj⟩ h
  · exact h5 ⟨j, hj⟩ h
  · exact h6 ⟨j, hj⟩ h
  · exact h7 ⟨j, hj⟩ h
  · exact h8 ⟨j, hj⟩ h
  · exact h9 ⟨j, hj⟩ h
  · exact h10 ⟨j, hj⟩ h
  · exact h11 ⟨j, hj⟩ h
  · exact h12 ⟨j, hj⟩ h
theorem LF_ini (h : Ini b 552 GI GR M) : LF M := by
  have g1 : ∀ i : Fin 64, GR 7 i.val = some (11 + 2 * i.val) ∧ GR (11 + 2 * i.val) 7 = some (12 + 2 * i.val) := by decide +kernel
  have g2 : ∀ i : Fin 60, GR (148 + 3 * i.val) 3 = some (149 + 3 * i.val) ∧ GR (148 + 3 * i.val) 5 = some (150 + 3 * i.val) := by decide +kernel
  have g3 : ∀ i : Fin 24, GR 333 i.val = some (335 + 4 * i.val) ∧ GR 334 i.val = some (337 + 4 * i.val) := by decide +kernel
  have g4 : ∀ i : Fin 48, GR (335 + 2 * i.val) 0 = some (336 + 2 * i.val) := by decide +kernel
  have g5 : ∀ i : Fin 16, GR 434 i.val = some (435 + i.val) ∧ GR 456 i.val = some (457 + i.val) ∧ GR 476 i.val = some (477 + i.val) := by decide +kernel
  refine ⟨h.1, ?_, fun a j hf => by rw [h.mr]; exact ref_ok hf, fun i hi => by rw [h.mr]; exact (g1 ⟨i, hi⟩).1, fun i hi => by rw [h.mr]; exact (g1 ⟨i, hi⟩).2, fun i hi => by rw [h.mr, h.mr]; exact g2 ⟨i, hi⟩, fun i hi => by rw [h.mr, h.mr]; exact g3 ⟨i, hi⟩, fun i hi => by rw [h.mr]; exact g4 ⟨i, hi⟩, fun i hi => by rw [h.mr, h.mr, h.mr]; exact g5 ⟨i, hi⟩⟩
  funext a
  rw [h.2.2.1 a]
  by_cases q : a < 552
  · rw [if_pos q]
  · rw [if_neg q]; unfold layF; rw [if_pos (by omega)]
theorem gz (h : ¬ (a = 1 ∧ 14 ≤ j ∧ j ≤ 17)) (h2 : ¬ (11 ≤ a ∧ a < 139 ∧ j = 0)) (h3 : a ≠ 139 ∨ j ≠ 4) (h4 : a ≠ 431 ∨ (j ≠ 0 ∧ j ≠ 3)) (h5 : (a ≠ 432 ∧ a ≠ 454 ∧ a ≠ 474) ∨ j ≠ 0) (h6 : a ≠ 495 ∨ (j ≠ 7 ∧ j ≠ 8 ∧ (j < 12 ∨ 16 < j) ∧ j ≠ 64)) (h7 : a < 496 ∨ 498 < a) (h8 : a ≠ 540 ∧ a ≠ 542 ∧ a ≠ 544) : GI a j = 0 := by
  simp only [GI, mIE, rowC, mI0, mI1, mI2, mI3, mI4, mI5, mI6, mI7, mI8, mI9, mI10, cI11, fA, iT10, up2, zI]
  repeat rw [if_neg (by omega)]
def n0 (B : Nat) (k : Nat) : Nat := if k = 8 then B else if k = 12 then 1 else if k = 13 then 100 else if k = 14 then 50 else if k = 15 then 200 else if k = 16 then 5 else 0
def S0 (B : Nat) : Sw := (n0 B, fun _ _ => 0, fun _ _ => 0, fun _ => (fun _ => 0, fun _ => 0, fun _ => 0, fun _ => 0), fun _ => (0, 0, 0, 0, [], []), fun _ => [], fun _ => 0, fun _ => 0, (800, 0, fun _ => 0, fun _ _ => 0), [], [])
theorem Ini.mi (h : Ini b n GI GR M) (hv : GI a j = u) (hu : mkB b u = v) : mI M a j = v := by rw [h.2.2.2.1 a j, hv, hu]
theorem Ini.m0 (h : Ini b n GI GR M) (hv : GI a j = 0) : mI M a j = nI 0 := h.mi hv rfl
theorem RC_ini (h : Ini b 552 GI GR M) (hb : b = nI B) : RC (fun i => i) 0 (fun _ => 0) (S0 B) M := by
  have l0 : ∀ a j, mL M a j = lI 0 := h.2.2.2.2.1
  have zz : ∀ a j, GI a j = 0 → mI M a j = nI 0 := fun a j e => h.m0 e
  have gp : ∀ i : Fin 60, GR 147 i.val = some (148 + 3 * i.val) := by decide +kernel
  have ga : ∀ i : Fin 64, GI (11 + 2 * i.val) 0 = nI i.val := by decide +kernel
  have z : ∀ a j, ¬ (a = 1 ∧ 14 ≤ j ∧ j ≤ 17) → ¬ (11 ≤ a ∧ a < 139 ∧ j = 0) → (a ≠ 139 ∨ j ≠ 4) → (a ≠ 431 ∨ (j ≠ 0 ∧ j ≠ 3)) → ((a ≠ 432 ∧ a ≠ 454 ∧ a ≠ 474) ∨ j ≠ 0) → a < 495 → mI M a j = nI 0 := fun a j h1 h2 h3 h4 h5 h6 => h.m0 (gz h1 h2 h3 h4 h5 (by omega) (by omega) (by omega))
  refine ⟨LF_ini h, ?_, ?_, ?_, ?_, ?_, ?_, ?_, ?_, ?_, ?_, ?_, ?_⟩
  · refine ⟨?_, ?_, ?_, ?_, ?_, ?_, ?_, ?_, ?_, ?_, ?_, ?_, ?_, ?_, ?_, ?_, ?_, ?_, ?_, ?_⟩
    · exact z _ _ (by omega) (by omega) (by omega) (by omega) (by omega) (by omega)
    · exact z _ _ (by omega) (by omega) (by omega) (by omega) (by omega) (by omega)
    · exact z _ _ (by omega) (by omega) (by omega) (by omega) (by omega) (by omega)
    · exact z _ _ (by omega) (by omega) (by omega) (by omega) (by omega) (by omega)
    · exact z _ _ (by omega) (by omega) (by omega) (by omega) (by omega) (by omega)
    · exact z _ _ (by omega) (by omega) (by omega) (by omega) (by omega) (by omega)
    · exact h.mi (u := 100) (by decide +kernel) rfl
    · exact h.mi (u := 50) (by decide +kernel) rfl
    · exact h.mi (u := 200) (by decide +kernel) rfl
    · exact h.mi (u := 5) (by decide +kernel) rfl
    · exact z _ _ (by omega) (by omega) (by omega) (by omega) (by omega) (by omega)
    · exact h.mi (u := 1) (by decide +kernel) rfl
    · exact z _ _ (by omega) (by omega) (by omega) (by omega) (by omega) (by omega)
    · exact z _ _ (by omega) (by omega) (by omega) (by omega) (by omega) (by omega)
    · exact h.mi (u := 1000000) (by decide +kernel) hb
    · exact z _ _ (by omega) (by omega) (by omega) (by omega) (by omega) (by omega)
    · exact z _ _ (by omega) (by omega) (by omega) (by omega) (by omega) (by omega)
    · exact h.mi (u := -1) (by decide +kernel) rfl
    · exact z _ _ (by omega) (by omega) (by omega) (by omega) (by omega) (by omega)
    · exact z _ _ (by omega) (by omega) (by omega) (by omega) (by omega) (by omega)
  · refine ⟨fun i hi => ⟨?_, ?_, ?_⟩, fun i hi => ⟨?_, ?_, ?_⟩, fun i hi => ?_, fun i hi => ⟨?_, ?_⟩⟩ <;> exact z _ _ (by omega) (by omega) (by omega) (by omega) (by omega) (by omega)
  · exact ⟨fun i hi => ⟨l0 _ _, l0 _ _, l0 _ _⟩, fun i hi => ⟨l0 _ _, l0 _ _⟩, fun i hi => ⟨l0 _ _, l0 _ _⟩⟩
  · exact fun i hi => ⟨h.mi (u := nI i) (ga ⟨i, hi⟩) (mk_nI (by omega)).symm, l0 _ _⟩
  · exact fun a ha => ⟨l0 _ _, l0 _ _⟩
  · refine fun a ha => ⟨z _ _ (by omega) (by omega) (by omega) (by omega) (by omega) (by omega), ⟨rfl, ?_⟩, fun k hk => by simp [S0, sQ] at hk⟩
    rw [h.mi (a := 139) (j := 4) (u := 1) (v := 1) (by decide +kernel) rfl]
    show ((0 : Nat) : Int) < (1 : Int32).toInt
    decide
  · exact fun i hi => by simp [S0, sN, n0] at hi
  · exact ⟨fun i hi => ⟨by rw [h.mr]; exact gp ⟨i, hi⟩, hi⟩, fun i j _ _ q => q, fun i hi => by simp [S0, sN, n0] at hi⟩
  · exact ⟨z _ _ (by omega) (by omega) (by omega) (by omega) (by omega) (by omega), by omega, fun _ => rfl, fun k hk => by simp [S0, sN, n0] at hk⟩
  · exact ⟨h.mi (u := 800) (by decide +kernel) rfl, z _ _ (by omega) (by omega) (by omega) (by omega) (by omega) (by omega), fun s hs hp => by simp [S0, sD, gH, pb] at hp⟩
  · exact ⟨z _ _ (by omega) (by omega) (by omega) (by omega) (by omega) (by omega), fun i hi => by simp [S0, sT] at hi⟩
  · exact ⟨z _ _ (by omega) (by omega) (by omega) (by omega) (by omega) (by omega), fun i hi => by simp [S0, sZ] at hi⟩
theorem RM_ini (h : Ini b 552 GI GR M) (hb : b = nI B) : RM (S0 B) M := by
  have l0 : ∀ a j, mL M a j = lI 0 := h.2.2.2.2.1
  have z : ∀ a j, 495 ≤ a → (a ≠ 495 ∨ (j ≠ 7 ∧ j ≠ 8 ∧ (j < 12 ∨ 16 < j) ∧ j ≠ 64)) → (a < 496 ∨ 498 < a) → (a ≠ 540 ∧ a ≠ 542 ∧ a ≠ 544) → mI M a j = nI 0 := fun a j h1 h6 h7 h8 => h.m0 (gz (by omega) (by omega) (by omega) (by omega) (by omega) h6 h7 h8)
  have gk : ∀ s : Fin 16, GI 496 s.val = nI (fnF s.val) ∧ GI 497 s.val = nI (szF s.val) ∧ GI 498 s.val = nI ((if ltF s.val then 2 else 0) + (if ldF s.val = 0 then 0 else 1)) ∧ fnF s.val < 1000 ∧ szF s.val < 1000 := by decide +kernel
  have gd : ∀ s : Fin 16, GI 540 s.val = -1 := by decide +kernel
  refine ⟨LF_ini h, ?_, ?_, ?_, ?_, ?_, ?_, ?_, ?_, ?_, ?_, ?_⟩
  · refine ⟨?_, ?_, ?_, ?_, ?_, ?_, ?_, ?_, ?_, ?_, ?_, ?_, ?_, ?_, ?_, ?_, ?_, ?_, ?_, ?_⟩
    · exact z _ _ (by omega) (by omega) (by omega) (by omega)
    · exact z _ _ (by omega) (by omega) (by omega) (by omega)
    · exact z _ _ (by omega) (by omega) (by omega) (by omega)
    · exact z _ _ (by omega) (by omega) (by omega) (by omega)
    · exact z _ _ (by omega) (by omega) (by omega) (by omega)
    · exact z _ _ (by omega) (by omega) (by omega) (by omega)
    · exact h.mi (u := 100) (by decide +kernel) rfl
    · exact h.mi (u := 50) (by decide +kernel) rfl
    · exact h.mi (u := 200) (by decide +kernel) rfl
    · exact h.mi (u := 5) (by decide +kernel) rfl
    · exact z _ _ (by omega) (by omega) (by omega) (by omega)
    · exact h.mi (u := 1) (by decide +kernel) rfl
    · exact z _ _ (by omega) (by omega) (by omega) (by omega)
    · exact z _ _ (by omega) (by omega) (by omega) (by omega)
    · exact h.mi (u := 1000000) (by decide +kernel) hb
    · exact z _ _ (by omega) (by omega) (by omega) (by omega)
    · exact z _ _ (by omega) (by omega) (by omega) (by omega)
    · exact h.mi (u := -1) (by decide +kernel) rfl
    · exact z _ _ (by omega) (by omega) (by omega) (by omega)
    · exact z _ _ (by omega) (by omega) (by omega) (by omega)
  · refine ⟨fun i hi => ?_, fun i hi => ?_, fun i hi => ⟨?_, ?_, ?_⟩, fun i hi => ?_, fun i hi => ⟨?_, ?_⟩⟩ <;> exact z _ _ (by omega) (by omega) (by omega) (by omega)
  · exact ⟨fun i hi => ⟨l0 _ _, l0 _ _⟩, fun i hi => l0 _ _, fun i hi => ⟨l0 _ _, l0 _ _⟩⟩
  · exact fun a ha => ⟨z _ _ (by omega) (by omega) (by omega) (by omega), fun k hk => by simp [S0, sQ] at hk⟩
  · exact fun i hi => by simp [S0, sN, n0] at hi
  · exact fun i hi => by simp [S0, sN, n0] at hi
  · exact fun i hi => by simp [S0, sN, n0] at hi
  · exact ⟨h.mi (u := 800) (by decide +kernel) rfl, fun s hs => ⟨fun hp => by simp [S0, sD, gH, pb] at hp, fun _ => h.mi (u := -1) (gd ⟨s, hs⟩) rfl⟩⟩
  · exact ⟨z _ _ (by omega) (by omega) (by omega) (by omega), fun i hi => by simp [S0, sT] at hi⟩
  · exact ⟨z _ _ (by omega) (by omega) (by omega) (by omega), fun i hi => by simp [S0, sZ] at hi⟩
  · intro s hs
    have g := gk ⟨s, hs⟩
    refine ⟨h.mi g.1 (mk_nI g.2.2.2.1).symm, h.mi g.2.1 (mk_nI g.2.2.2.2).symm, h.mi g.2.2.1 (mk_nI ?_).symm⟩
    split <;> split <;> omega
theorem Jv_ini (h4 : 4 ≤ B) (h30 : B ≤ 30) : Jv 0 (S0 B) := by
  refine ⟨?_, ?_, ?_, fun i hi => ?_, ?_, ?_, fun a ha => ⟨by simp [S0, sQ], fun x hx => by simp [S0, sQ] at hx⟩, ?_, fun a ha => ?_, ?_, ?_, ?_⟩
  · unfold jS
    simp [S0, sN, n0]
    omega
  · refine ⟨fun i hi => by simp [S0, sI], fun i hi => by simp [S0, sI], fun i hi => ?_, fun i hi => ?_, fun i hi => ?_, fun i hi => by simp [S0, sI]⟩ <;> simp [S0, sN, n0] at hi
  · exact ⟨rfl, rfl, fun i hi => by simp [S0, sL]⟩
  · simp [S0, sN, n0] at hi
  · exact ⟨fun i j hi => by simp [S0, sN, n0] at hi, fun i j hi => by simp [S0, sN, n0] at hi⟩
  · exact ⟨fun k hk => by simp [S0, sN, n0] at hk, fun i j hi => by simp [S0, sN, n0] at hi⟩
  · exact ⟨fun i hi => by simp [S0, sN, n0] at hi, fun i j hi => by simp [S0, sN, n0] at hi⟩
  · simp [S0, sN, n0] at ha
  · exact ⟨by simp [S0, sD, gT], by simp [S0, sD, gH], fun s hs hp => by simp [S0, sD, gH, pb] at hp⟩
  · exact ⟨by simp [S0, sT], fun i hi => by simp [S0, sT] at hi⟩
  · exact ⟨by simp [S0, sZ], fun i hi => by simp [S0, sZ] at hi⟩
end FST
