/-! BOTH SIDES TOGETHER: what one leaves as it was, the other keeps -/
section BTH
variable {G : En} {M M0 Mz M' : Mem} {Q : Option Value → Mem → Prop} {X : String → Mem → Prop} {S : Sw} {t a b j k v i : Nat} {w c : Nat → Nat} {o : Nat} {r : Re}
theorem RC_lo (hR : RC w o c S M) (h60 : sN S 39 ≤ 60) (s0 : ∀ b, b < 495 → sA M M' b) (hL' : LF M') : RC w o c S M' := by
  obtain ⟨hL, hN, hI, hLl, hF, hS, hA, hC, hP, hRr, hD, hT, hZ⟩ := hR
  refine ⟨hL', ?_, ?_, ?_, ?_, ?_, ?_, ?_, ⟨?_, hP.2.1, ?_⟩, ?_, ?_, ?_, ?_⟩
  · unfold cN at hN ⊢
    rw [(s0 0 (by omega)).1, (s0 1 (by omega)).1, (s0 139 (by omega)).1, (s0 431 (by omega)).1, (s0 328 (by omega)).1]
    exact hN
  · exact ⟨fun i hi => by rw [(s0 2 (by omega)).1, (s0 3 (by omega)).1, (s0 145 (by omega)).1]; exact hI.1 i hi, fun i hi => by rw [(s0 4 (by omega)).1, (s0 5 (by omega)).1, (s0 6 (by omega)).1]; exact hI.2.1 i hi, fun i hi => by rw [(s0 (11 + 2 * i) (by omega)).1]; exact hI.2.2.1 i hi, fun i hi => by rw [(s0 9 (by omega)).1, (s0 10 (by omega)).1]; exact hI.2.2.2 i hi⟩
  · exact ⟨fun i hi => by rw [(s0 141 (by omega)).2.1, (s0 142 (by omega)).2.1, (s0 146 (by omega)).2.1]; exact hLl.1 i hi, fun i hi => by rw [(s0 143 (by omega)).2.1, (s0 144 (by omega)).2.1]; exact hLl.2.1 i hi, fun i hi => by rw [(s0 (11 + 2 * i) (by omega)).2.1]; exact hLl.2.2 i hi⟩
  · exact fun i hi => by rw [(s0 (11 + 2 * i) (by omega)).1, (s0 (11 + 2 * i) (by omega)).2.1]; exact hF i hi
  · exact fun i hi => by rw [(s0 (11 + 2 * i) (by omega)).2.1]; exact hS i hi
  · intro i hi
    have hA := hA i hi
    exact ⟨by rw [(s0 (11 + 2 * i) (by omega)).1]; exact hA.1, ⟨hA.2.1.1, by rw [(s0 139 (by omega)).1]; exact hA.2.1.2⟩, fun k hk => by rw [(s0 (12 + 2 * i) (by omega)).1]; exact hA.2.2 k hk⟩
  · exact fun i hi => by rw [(s0 8 (by omega)).2.1]; exact hC i hi
  · exact fun i hi => by rw [(s0 147 (by omega)).2.2]; exact hP.1 i hi
  · intro i hi
    have hwi := (hP.1 i (by omega)).2
    exact payC_fr (hP.2.2 i hi) (s0 _ (by omega)) (s0 _ (by omega)) (s0 _ (by omega))
  · refine ⟨by rw [(s0 328 (by omega)).1]; exact hRr.1, hRr.2.1, hRr.2.2.1, fun k hk => ?_⟩
    have hx := hRr.2.2.2 k hk
    have hm : (o + k) % 24 < 24 := Nat.mod_lt _ (by omega)
    obtain ⟨a1, a2, a3, a4, a5, a6⟩ := hx
    exact ⟨by rw [(s0 329 (by omega)).1]; exact a1, by rw [(s0 331 (by omega)).1]; exact a2, by rw [(s0 330 (by omega)).1]; exact a3, by rw [(s0 332 (by omega)).1]; exact a4, a5.fr (s0 _ (by omega)) (s0 _ (by omega)), a6.fr (s0 _ (by omega)) (s0 _ (by omega))⟩
  · exact ⟨by rw [(s0 432 (by omega)).1]; exact hD.1, by rw [(s0 432 (by omega)).1]; exact hD.2.1, fun s hs' hp' => ⟨by rw [(s0 433 (by omega)).1]; exact (hD.2.2 s hs' hp').1, fun i hi => by rw [(s0 (435 + s) (by omega)).1]; exact (hD.2.2 s hs' hp').2 i hi⟩⟩
  · exact hT.fr (s0 _ (by omega)) (s0 _ (by omega))
  · exact hZ.fr (s0 _ (by omega)) (s0 _ (by omega))
def hiW (M M' : Mem) : Prop := ∀ b, 495 ≤ b → b < 551 → sA M M' b
theorem hiW_S (h : hiS M M') : hiW M M' := fun b h1 _ => h b h1
theorem hiW_u {z : Int64} (h : hiS M M') : hiW M (uL M' 551 0 z) := fun b h1 h2 => sA_uL (by omega) (h b h1)
theorem RM_hi (h : RM S M) (hw : hiW M M') (hL' : LF M') : RM S M' := by
  obtain ⟨hL, hN, hI, hLl, hA, hC, hP, hRr, hD, hT, hZ, hK⟩ := h
  have e : ∀ b, 495 ≤ b → b < 551 → ∀ j, mI M' b j = mI M b j := fun b h1 h2 j => by rw [(hw b h1 h2).1]
  have el : ∀ b, 495 ≤ b → b < 551 → ∀ j, mL M' b j = mL M b j := fun b h1 h2 j => by rw [(hw b h1 h2).2.1]
  refine ⟨hL', ?_, ?_, ?_, ?_, ?_, ?_, ?_, ?_, ?_, ?_, ?_⟩
  · unfold mNn at hN ⊢
    simp only [e 495 (by omega) (by omega)]
    exact hN
  · unfold mIi at hI ⊢
    simp only [e 499 (by omega) (by omega), e 502 (by omega) (by omega), e 504 (by omega) (by omega), e 505 (by omega) (by omega), e 506 (by omega) (by omega), e 507 (by omega) (by omega), e 514 (by omega) (by omega), e 515 (by omega) (by omega)]
    exact hI
  · unfold mLl at hLl ⊢
    simp only [el 500 (by omega) (by omega), el 501 (by omega) (by omega), el 503 (by omega) (by omega), el 508 (by omega) (by omega), el 509 (by omega) (by omega)]
    exact hLl
  · unfold mA at hA ⊢
    simp only [e 510 (by omega) (by omega), e 511 (by omega) (by omega)]
    exact hA
  · unfold mC at hC ⊢
    simp only [e 512 (by omega) (by omega), e 513 (by omega) (by omega)]
    exact hC
  · intro i hi
    have := hP i hi
    unfold payM at this ⊢
    simp only [e 516 (by omega) (by omega), e 517 (by omega) (by omega), e 518 (by omega) (by omega), e 519 (by omega) (by omega), e 520 (by omega) (by omega), e 521 (by omega) (by omega), e 522 (by omega) (by omega), e 523 (by omega) (by omega), el 524 (by omega) (by omega), el 525 (by omega) (by omega), e 526 (by omega) (by omega), e 527 (by omega) (by omega), e 528 (by omega) (by omega), el 529 (by omega) (by omega), e 530 (by omega) (by omega)]
    exact this
  · intro i hi
    have := hRr i hi
    unfold arcM at this ⊢
    simp only [e 531 (by omega) (by omega), e 532 (by omega) (by omega), e 533 (by omega) (by omega), e 534 (by omega) (by omega), e 535 (by omega) (by omega), e 536 (by omega) (by omega), e 537 (by omega) (by omega), e 538 (by omega) (by omega)]
    exact this
  · unfold msgM at hD ⊢
    simp only [e 495 (by omega) (by omega), e 540 (by omega) (by omega), e 539 (by omega) (by omega)]
    exact hD
  · simp only [e 495 (by omega) (by omega), e 545 (by omega) (by omega)]
    exact hT
  · simp only [e 495 (by omega) (by omega), e 547 (by omega) (by omega)]
    exact hZ
  · unfold mK at hK ⊢
    simp only [e 496 (by omega) (by omega), e 497 (by omega) (by omega), e 498 (by omega) (by omega)]
    exact hK
/-- class and reference hold the same state, behind t calls -/
def Iv (t : Nat) (S : Sw) (M : Mem) : Prop := RCx S M ∧ RM S M ∧ Jv t S
theorem Jv.h60 (h : Jv t S) : sN S 39 ≤ 60 := by have := h.1; unfold jS at this; omega
theorem RCx_L (h : RCx S M) : LF M := by obtain ⟨w, o, c, h⟩ := h; exact h.1
theorem RCx_u {z : Int64} (h : RCx S M) (hj : Jv t S) : RCx S (uL M 551 0 z) := by
  obtain ⟨w, o, c, h⟩ := h
  exact ⟨w, o, c, RC_lo h hj.h60 (fun b hb => sA_uL (by omega) (sA_rfl M b)) h.1⟩
theorem RCx_lo (h : RCx S M) (hj : Jv t S) (hl : loS M M') (hL : LF M') : RCx S M' := by
  obtain ⟨w, o, c, h⟩ := h
  exact ⟨w, o, c, RC_lo h hj.h60 hl.1 hL⟩
theorem Jv_ne {P : Prop} [Decidable P] (q : Re) (h : P) : (gat S P True q).1.1 = q.1.1 := by unfold gat; rw [if_pos h, if_pos trivial]
/-- a wrapper's answer -/
def Wq (M : Mem) (r : Re) (c : Int32) (z : Int64) (k : Int32) (M' : Mem) : Prop := k = c ∧ RCx r.2 M' ∧ hiW M M' ∧ (r.1.1 = 0 → mL M' 551 0 = z) ∧ r.1.1 ≤ 2
theorem gat_n2 {P : Prop} [Decidable P] {q : Re} (h : q.1.1 = 0) : (gat S P True q).1.1 ≠ 2 := by
  unfold gat
  split
  · rw [if_pos trivial, h]; omega
  · show (1 : Nat) ≠ 2; omega
theorem gat_n1 {P : Prop} [Decidable P] {q : Re} (h : q.1.1 = 0) : (gat S True P q).1.1 ≠ 1 := by
  unfold gat
  rw [if_pos trivial]
  split
  · rw [h]; omega
  · show (2 : Nat) ≠ 1; omega
end BTH
