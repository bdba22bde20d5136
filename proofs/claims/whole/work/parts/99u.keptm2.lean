/-! AN ANSWER IS KEPT: the reference -/
section KPM
variable {G : En} {M M0 Mz M' : Mem} {Q : Option Value → Mem → Prop} {X : String → Mem → Prop} {S : Sw} {t a b j k v i np T A s n d N r rs : Nat} {x y : Int32} {z : Int64} {m mx : Msg} {g : Nat → Nat} {ar : Ar} {arc : Nat → Ar} {an xs : List Nat}
/-- what is kept changes, nothing else -/
def akN (M0 M : Mem) : Prop := mL M = mL M0 ∧ mR M = mR M0 ∧ M.1 = M0.1 ∧ ∀ b j, (b < 531 ∨ 538 < b) → (b ≠ 495 ∨ j ≠ 55) → mI M b j = mI M0 b j
theorem akN_0 : akN M M := ⟨rfl, rfl, rfl, fun _ _ _ _ => rfl⟩
theorem akN_t {M1 : Mem} (h : akN M0 M) (h' : akN M M1) : akN M0 M1 := ⟨h'.1.trans h.1, h'.2.1.trans h.2.1, h'.2.2.1.trans h.2.2.1, fun b j h1 h2 => (h'.2.2.2 b j h1 h2).trans (h.2.2.2 b j h1 h2)⟩
theorem akN_u {v : Int32} (h : akN M0 M) (hb : (531 ≤ b ∧ b ≤ 538) ∨ (b = 495 ∧ j = 55)) : akN M0 (uI M b j v) := ⟨h.1, h.2.1, h.2.2.1, fun c i h1 h2 => by rw [mI_ne (by omega)]; exact h.2.2.2 c i h1 h2⟩
theorem akN_r {f : Nat → Int32} (h : akN M0 M) (hb : 531 ≤ b ∧ b ≤ 538) : akN M0 (sRow M b f) := ⟨h.1, h.2.1, h.2.2.1, fun c i h1 h2 => by rw [mI_nr (by omega)]; exact h.2.2.2 c i h1 h2⟩
theorem akN_L (h : akN M0 M) (hL : LF M0) : LF M := by
  obtain ⟨h1, h2, h3, h4⟩ := h
  obtain ⟨a1, a2, a3, a4, a5, a6, a7, a8, a9⟩ := hL
  refine ⟨by show M.1.1 = _; rw [h3]; exact a1, by show M.1.2.1 = _; rw [h3]; exact a2, ?_, ?_, ?_, ?_, ?_, ?_, ?_⟩ <;> (rw [h2]; assumption)
theorem loS_ak (h : loS Mz M0) (hw : akN M0 M) : loS Mz M := ⟨fun b hb => (h.1 b hb).trans ⟨by funext j; exact hw.2.2.2 b j (by omega) (by omega), by rw [hw.1], by rw [hw.2.1]⟩, h.2.trans ⟨by funext j; exact hw.2.2.2 551 j (by omega) (by omega), by rw [hw.1], by rw [hw.2.1]⟩⟩
theorem msgM_ak (hm : msgM M0 67 542 541 m) (hw : akN M0 M) : msgM M 67 542 541 m := by
  have e : ∀ b j, (b = 541 ∨ b = 542 ∨ (b = 495 ∧ j = 67)) → mI M b j = mI M0 b j := fun b j hb => hw.2.2.2 b j (by omega) (by omega)
  exact ⟨by rw [e _ _ (by omega)]; exact hm.1, fun s hs => ⟨fun hp => ⟨by rw [e _ _ (by omega)]; exact ((hm.2 s hs).1 hp).1, fun i hi => by rw [e _ _ (by omega)]; exact ((hm.2 s hs).1 hp).2 i hi⟩, fun hp => by rw [e _ _ (by omega)]; exact (hm.2 s hs).2 hp⟩⟩
theorem RM_ak (h : RM S M0) (hw : akN M0 M) (h55 : mI M 495 55 = nI n) (hr : mRr n arc M) : RM (wR (wN S (up1 (sN S) 55 n)) arc) M := by
  obtain ⟨hL, hN, hI, hLl, hA, hC, hP, hRr, hD, hT, hZ, hK⟩ := h
  have e := hw.2.2.2
  have e4 : ∀ j, j ≠ 55 → mI M 495 j = mI M0 495 j := fun j a => e _ _ (by omega) (Or.inr a)
  have e5 : ∀ b j, b ≠ 495 → (b < 531 ∨ 538 < b) → mI M b j = mI M0 b j := fun b j a1 a4 => e _ _ a4 (Or.inl a1)
  have el := hw.1
  refine ⟨akN_L hw hL, ?_, ?_, ?_, ?_, ?_, ?_, hr, ?_, ?_, ?_, ?_⟩
  · unfold mNn at hN ⊢
    rw [e4 4 (by omega), e4 17 (by omega), e4 18 (by omega), e4 24 (by omega), e4 28 (by omega), e4 34 (by omega), e4 13 (by omega), e4 14 (by omega), e4 15 (by omega), e4 16 (by omega), e4 39 (by omega), e4 12 (by omega), e4 11 (by omega), e4 8 (by omega), e4 9 (by omega), e4 10 (by omega), e4 7 (by omega), e4 6 (by omega), e4 5 (by omega), h55]
    obtain ⟨g1, g2, g3, g4, g5, g6, g7, g8, g9, g10, g11, g12, g13, g14, g15⟩ := hN
    exact ⟨g1, g2, g3, g4, g5, g6, g7, g8, g9, g10, g11, g12, g13, rfl, g15⟩
  · exact ⟨fun i hi => by rw [e5 _ _ (by omega) (by omega)]; exact hI.1 i hi, fun i hi => by rw [e5 _ _ (by omega) (by omega)]; exact hI.2.1 i hi, fun i hi => by rw [e5 _ _ (by omega) (by omega), e5 505 _ (by omega) (by omega), e5 506 _ (by omega) (by omega)]; exact hI.2.2.1 i hi, fun i hi => by rw [e5 _ _ (by omega) (by omega)]; exact hI.2.2.2.1 i hi, fun i hi => by rw [e5 _ _ (by omega) (by omega), e5 515 _ (by omega) (by omega)]; exact hI.2.2.2.2 i hi⟩
  · unfold mLl at hLl ⊢; rw [el]; exact hLl
  · exact fun i hi => ⟨by rw [e5 _ _ (by omega) (by omega)]; exact (hA i hi).1, fun k hk => by rw [e5 _ _ (by omega) (by omega)]; exact (hA i hi).2 k hk⟩
  · exact fun i hi => ⟨by rw [e5 _ _ (by omega) (by omega)]; exact (hC i hi).1, fun k hk => by rw [e5 _ _ (by omega) (by omega)]; exact (hC i hi).2 k hk⟩
  · intro i hi
    have := hP i hi
    unfold payM at this ⊢
    rw [el]
    simp only [e5 516 _ (by omega) (by omega), e5 517 _ (by omega) (by omega), e5 518 _ (by omega) (by omega), e5 519 _ (by omega) (by omega), e5 520 _ (by omega) (by omega), e5 521 _ (by omega) (by omega), e5 522 _ (by omega) (by omega), e5 523 _ (by omega) (by omega), e5 526 _ (by omega) (by omega), e5 527 _ (by omega) (by omega), e5 528 _ (by omega) (by omega), e5 530 _ (by omega) (by omega)]
    exact this
  · refine ⟨by rw [e4 _ (by omega)]; exact hD.1, fun s hs => ⟨fun hp => ⟨by rw [e5 _ _ (by omega) (by omega)]; exact ((hD.2 s hs).1 hp).1, fun i hi => by rw [e5 _ _ (by omega) (by omega)]; exact ((hD.2 s hs).1 hp).2 i hi⟩, fun hp => by rw [e5 _ _ (by omega) (by omega)]; exact (hD.2 s hs).2 hp⟩⟩
  · exact ⟨by rw [e4 _ (by omega)]; exact hT.1, fun i hi => by rw [e5 _ _ (by omega) (by omega)]; exact hT.2 i hi⟩
  · exact ⟨by rw [e4 _ (by omega)]; exact hZ.1, fun i hi => by rw [e5 _ _ (by omega) (by omega)]; exact hZ.2 i hi⟩
  · exact fun s hs => by rw [e5 _ _ (by omega) (by omega), e5 497 _ (by omega) (by omega), e5 498 _ (by omega) (by omega)]; exact hK s hs
/-! a row is copied one place down -/
def ckR (g k : Nat) (M1 M : Mem) : Prop := mL M = mL M1 ∧ mR M = mR M1 ∧ M.1 = M1.1 ∧ (∀ b j, b ≠ 535 → b ≠ 537 → mI M b j = mI M1 b j) ∧ ∀ b, (b = 535 ∨ b = 537) → ∀ j, mI M b j = if 160 * g ≤ j ∧ j < 160 * g + k then mI M1 b (j + 160) else mI M1 b j
theorem lp_ck {g : Nat} {M1 : Mem} (hL : LF M1) (hg : g + 1 < 24) (hQ : ∀ M', ckR g 160 M1 M' → Q none M') : ∀ (r k : Nat) (M : Mem), r + k = 160 → ckR g k M1 M → Go G (MT 245) Q X 74 [some (.ref 495), some (.int (nI (g + 1))), some (.int (nI g)), some (.int (nI k))] [] M 0 0 := by
  have e1 : (160 : Int32) * nI g = nI (160 * g) := nI_mul (a := 160) (by omega) (by omega) (by omega)
  have e2 : (160 : Int32) * nI (g + 1) = nI (160 * (g + 1)) := nI_mul (a := 160) (by omega) (by omega) (by omega)
  intro r
  induction r with
  | zero =>
    intro k M hk hc
    have hk : k = 160 := by omega
    subst hk
    refine r_X12_copyKept (fun n => n == 74) 60 ?_
    simp only [cd_X12_copyKept, cf_X12_copyKept, wp, wq, wpI, cdF, w_CI, w_CL, w_CN, w_LI, w_LL, w_LA, w_SI, w_SL, w_SA, w_INC, w_II, w_IId, w_LLb, w_LLd, w_LS, w_I1, w_L1, w_I2L, w_L2I, w_CMP, w_DUP, w_POP, w_DUP2, w_IF, w_IC, w_GO, w_NUL, w_ACN, prs, w_GF, w_PF, w_GS, w_IAL, w_LEN, w_LAL, w_ZAL, w_AAL, w_IAS, w_LAS, w_ZAS, w_AAS, w_RI, w_RL, w_RA, w_NEW, w_NA, w_MNA, w_OI, w_THR, w_CV, w_CS, w_CN9, w_CI9, w_MX, w_cont, lget, sto1, sto2, wideV, vo, vo_rv, isR, isR_rv, rv, fget, fput, cats, Value.category, List.headD_cons, List.getD_cons_zero, List.getD_cons_succ, List.drop_succ_cons, List.drop_zero, List.take_succ_cons, List.take_zero, List.reverse_cons, List.reverse_nil, List.nil_append, List.cons_append, List.length_cons, List.length_nil, cond_true, cond_false, and_true, true_and, Nat.zero_add, Nat.add_zero, Nat.reduceAdd, Nat.reduceLT, Nat.reduceLeDiff, Nat.reduceEqDiff, Nat.reduceBEq, Nat.reduceSub, ↓reduceIte, Int32.reduceOfNat, Int64.reduceOfNat, reduceCtorEq, Nat.le_refl, Nat.zero_le, Bool.false_eq_true, beq_self_eq_true, Fin.isValue, Fin.val_zero, Fin.val_one, Fin.reduceFinMk, Fin.val_two, Nat.reduceMod, Bool.or_false, Bool.or_true, Bool.true_or, Bool.false_or, not_true_eq_false, not_false_eq_true, true_or, or_true, implies_true, false_implies, true_implies, Int32.reduceLT, Int32.reduceLE, ↓w_TAB3, ↓w_TAB4, ↓w_TAB5, ↓w_TAB7, ↓w_TAB10, ↓w_LK2, ↓w_LK6, false_and, and_false, i1z, i2z, iz1, im0, im1, l0z]
    refine ⟨fun _ => hQ M hc, fun q => absurd (nI_le (Nat.le_refl 160) (by omega)) q⟩
  | succ r ih =>
    intro k M hk hc
    have tk := nI_toInt (n := k) (by omega)
    have ea : nI (160 * g) + nI k = nI (160 * g + k) := nI_add _ _
    have eb : nI (160 * (g + 1)) + nI k = nI (160 * (g + 1) + k) := nI_add _ _
    have ca := nI_clamp (n := 160 * g + k) (by omega)
    have cb := nI_clamp (n := 160 * (g + 1) + k) (by omega)
    have hL1 : LF M := by
      obtain ⟨h1, h2, h3, h4, h5⟩ := hc
      obtain ⟨a1, a2, a3, a4, a5, a6, a7, a8, a9⟩ := hL
      refine ⟨by show M.1.1 = _; rw [h3]; exact a1, by show M.1.2.1 = _; rw [h3]; exact a2, ?_, ?_, ?_, ?_, ?_, ?_, ?_⟩ <;> (rw [h2]; assumption)
    have hv1 := vp_in_nI (n := 160 * g + k) (N := 4000) (by omega) (by omega)
    have hv2 := vp_in_nI (n := 160 * (g + 1) + k) (N := 4000) (by omega) (by omega)
    have f7 : mI (uI M 535 (160 * g + k) (mI M 535 (160 * (g + 1) + k))) 537 (160 * (g + 1) + k) = mI M 537 (160 * (g + 1) + k) := by rw [mI_ne (by omega)]
    have ih' := ih (k + 1) (uI (uI M 535 (160 * g + k) (mI M 535 (160 * (g + 1) + k))) 537 (160 * g + k) (mI M 537 (160 * (g + 1) + k))) (by omega) ?_
    · refine r_X12_copyKept (fun n => n == 74) 60 ?_
      simp only [cd_X12_copyKept, cf_X12_copyKept, wp, wq, wpI, cdF, w_CI, w_CL, w_CN, w_LI, w_LL, w_LA, w_SI, w_SL, w_SA, w_INC, w_II, w_IId, w_LLb, w_LLd, w_LS, w_I1, w_L1, w_I2L, w_L2I, w_CMP, w_DUP, w_POP, w_DUP2, w_IF, w_IC, w_GO, w_NUL, w_ACN, prs, w_GF, w_PF, w_GS, w_IAL, w_LEN, w_LAL, w_ZAL, w_AAL, w_IAS, w_LAS, w_ZAS, w_AAS, w_RI, w_RL, w_RA, w_NEW, w_NA, w_MNA, w_OI, w_THR, w_CV, w_CS, w_CN9, w_CI9, w_MX, w_cont, lget, sto1, sto2, wideV, vo, vo_rv, isR, isR_rv, rv, fget, fput, cats, Value.category, List.headD_cons, List.getD_cons_zero, List.getD_cons_succ, List.drop_succ_cons, List.drop_zero, List.take_succ_cons, List.take_zero, List.reverse_cons, List.reverse_nil, List.nil_append, List.cons_append, List.length_cons, List.length_nil, cond_true, cond_false, and_true, true_and, Nat.zero_add, Nat.add_zero, Nat.reduceAdd, Nat.reduceLT, Nat.reduceLeDiff, Nat.reduceEqDiff, Nat.reduceBEq, Nat.reduceSub, ↓reduceIte, Int32.reduceOfNat, Int64.reduceOfNat, reduceCtorEq, Nat.le_refl, Nat.zero_le, Bool.false_eq_true, beq_self_eq_true, Fin.isValue, Fin.val_zero, Fin.val_one, Fin.reduceFinMk, Fin.val_two, Nat.reduceMod, Bool.or_false, Bool.or_true, Bool.true_or, Bool.false_or, not_true_eq_false, not_false_eq_true, true_or, or_true, implies_true, false_implies, true_implies, Int32.reduceLT, Int32.reduceLE, ↓w_TAB3, ↓w_TAB4, ↓w_TAB5, ↓w_TAB7, ↓w_TAB10, ↓w_LK2, ↓w_LK6, false_and, and_false, i1z, i2z, iz1, im0, im1, l0z, hasK_uI, hasK_uL, hasK_uR, hasK_uZ, hasK_sRow, mR_uI, mR_uL, mR_uZ, mR_sRow, mI_uL, mI_uR, mI_uZ, mL_uI, mL_uR, mL_uZ, mL_sRow, LF.hg hL1, layF, LF.r hL1, refF, ne_eq, not_false_eq_true, Option.some.injEq, Sum.inl.injEq, Sum.inr.injEq, Prod.mk.injEq, exists_eq_left, exists_eq_left', e1, e2, ea, eb, ca, cb, f7, nI_1]
      refine and_ii (fun q => ?_) (fun _ => ⟨hv2, hv1, hv2, hv1, ih'⟩)
      exfalso; (simp only [i_lt, i_le, i_eq, l_lt, l_le, l_eq, Int32.toInt_toInt64, Int32.reduceToInt, Int64.reduceToInt, ne_eq, Classical.not_not] at *; omega)
    · obtain ⟨h1, h2, h3, h4, h5⟩ := hc
      refine ⟨h1, h2, h3, fun b j n1 n2 => by rw [mI_ne (by omega), mI_ne (by omega)]; exact h4 b j n1 n2, fun b hb j => ?_⟩
      have w5 : ∀ b, (b = 535 ∨ b = 537) → mI M b (160 * (g + 1) + k) = mI M1 b (160 * g + k + 160) := fun b hb => by rw [h5 b hb, if_neg (by omega)]; congr 1; omega
      by_cases q : j = 160 * g + k
      · subst q
        rw [if_pos (by omega)]
        rcases hb with rfl | rfl
        · rw [mI_ne (by omega), mI_uI, if_pos ⟨rfl, rfl⟩]; exact w5 535 (by omega)
        · rw [mI_uI, if_pos ⟨rfl, rfl⟩]; exact w5 537 (by omega)
      · rw [mI_ne (by omega), mI_ne (by omega), h5 b hb]
        by_cases q2 : 160 * g ≤ j ∧ j < 160 * g + k
        · rw [if_pos q2, if_pos (by omega)]
        · rw [if_neg q2, if_neg (by omega)]
def ckN (g : Nat) (M M' : Mem) : Prop := akN M M' ∧ mI M' 495 55 = mI M 495 55 ∧ (∀ b j, ((531 ≤ b ∧ b ≤ 534) ∨ b = 536 ∨ b = 538) → mI M' b j = if j = g then mI M b (g + 1) else mI M b j) ∧ ∀ b, (b = 535 ∨ b = 537) → ∀ j, mI M' b j = if 160 * g ≤ j ∧ j < 160 * g + 160 then mI M b (j + 160) else mI M b j
set_option maxRecDepth 20000 in
theorem m_copyKept {g : Nat} (hL : LF M) (hg : g + 1 < 24) (hx : x = nI (g + 1)) (hy : y = nI g) (hQ : ∀ M', ckN g M M' → Q none M') : Ct G (MT 245) [.ref 495, .int x, .int y] M Q X := by
  subst hx hy
  have c1 := nI_clamp (n := g + 1) (by omega)
  have c2 := nI_clamp (n := g) (by omega)
  have hv1 := vp_in_nI (n := g + 1) (N := 25) (by omega) (by omega)
  have hv2 := vp_in_nI (n := g) (N := 25) (by omega) (by omega)
  refine Ct.go (L0 := [some (.ref 495), some (.int (nI (g + 1))), some (.int (nI g)), none]) (by decide +kernel) rfl rfl ?_
  refine r_X12_copyKept (fun n => n == 74) 80 ?_
  simp only [cd_X12_copyKept, cf_X12_copyKept, wp, wq, wpI, cdF, w_CI, w_CL, w_CN, w_LI, w_LL, w_LA, w_SI, w_SL, w_SA, w_INC, w_II, w_IId, w_LLb, w_LLd, w_LS, w_I1, w_L1, w_I2L, w_L2I, w_CMP, w_DUP, w_POP, w_DUP2, w_IF, w_IC, w_GO, w_NUL, w_ACN, prs, w_GF, w_PF, w_GS, w_IAL, w_LEN, w_LAL, w_ZAL, w_AAL, w_IAS, w_LAS, w_ZAS, w_AAS, w_RI, w_RL, w_RA, w_NEW, w_NA, w_MNA, w_OI, w_THR, w_CV, w_CS, w_CN9, w_CI9, w_MX, w_cont, lget, sto1, sto2, wideV, vo, vo_rv, isR, isR_rv, rv, fget, fput, cats, Value.category, List.headD_cons, List.getD_cons_zero, List.getD_cons_succ, List.drop_succ_cons, List.drop_zero, List.take_succ_cons, List.take_zero, List.reverse_cons, List.reverse_nil, List.nil_append, List.cons_append, List.length_cons, List.length_nil, cond_true, cond_false, and_true, true_and, Nat.zero_add, Nat.add_zero, Nat.reduceAdd, Nat.reduceLT, Nat.reduceLeDiff, Nat.reduceEqDiff, Nat.reduceBEq, Nat.reduceSub, ↓reduceIte, Int32.reduceOfNat, Int64.reduceOfNat, reduceCtorEq, Nat.le_refl, Nat.zero_le, Bool.false_eq_true, beq_self_eq_true, Fin.isValue, Fin.val_zero, Fin.val_one, Fin.reduceFinMk, Fin.val_two, Nat.reduceMod, Bool.or_false, Bool.or_true, Bool.true_or, Bool.false_or, not_true_eq_false, not_false_eq_true, true_or, or_true, implies_true, false_implies, true_implies, Int32.reduceLT, Int32.reduceLE, ↓w_TAB3, ↓w_TAB4, ↓w_TAB5, ↓w_TAB7, ↓w_TAB10, ↓w_LK2, ↓w_LK6, false_and, and_false, i1z, i2z, iz1, im0, im1, l0z, hasK_uI, hasK_uL, hasK_uR, hasK_uZ, hasK_sRow, mR_uI, mR_uL, mR_uZ, mR_sRow, mI_uL, mI_uR, mI_uZ, mL_uI, mL_uR, mL_uZ, mL_sRow, LF.hk hL, layF, LF.r hL, refF, ne_eq, not_false_eq_true, Option.some.injEq, Sum.inl.injEq, Sum.inr.injEq, Prod.mk.injEq, exists_eq_left, exists_eq_left', c1, c2, mI_uI, false_and]
  refine ⟨hv1, hv2, hv1, hv2, hv1, hv2, hv1, hv2, hv1, hv2, hv1, hv2, ?_⟩
  refine lp_ck (M1 := uI (uI (uI (uI (uI (uI M 531 g (mI M 531 (g + 1))) 532 g (mI M 532 (g + 1))) 533 g (mI M 533 (g + 1))) 534 g (mI M 534 (g + 1))) 536 g (mI M 536 (g + 1))) 538 g (mI M 538 (g + 1))) hL hg (fun M' hc => hQ M' ?_) 160 0 _ (by omega) ⟨rfl, rfl, rfl, fun _ _ _ _ => rfl, fun b hb j => by rw [if_neg (by omega)]⟩
  obtain ⟨h1, h2, h3, h4, h5⟩ := hc
  refine ⟨⟨h1, h2, h3, fun b j hb hj' => ?_⟩, ?_, fun b j hb => ?_, fun b hb j => ?_⟩
  · rw [h4 b j (by omega) (by omega)]
    repeat rw [mI_ne (by omega)]
  · rw [h4 495 55 (by omega) (by omega)]
    repeat rw [mI_ne (by omega)]
  · rw [h4 b j (by omega) (by omega)]
    by_cases q : j = g
    · subst q
      rw [if_pos rfl]
      rcases (show b = 531 ∨ b = 532 ∨ b = 533 ∨ b = 534 ∨ b = 536 ∨ b = 538 by omega) with rfl | rfl | rfl | rfl | rfl | rfl <;> simp [mI_uI]
    · rw [if_neg q]
      repeat rw [mI_ne (by omega)]
  · have e : ∀ j, mI (uI (uI (uI (uI (uI (uI M 531 g (mI M 531 (g + 1))) 532 g (mI M 532 (g + 1))) 533 g (mI M 533 (g + 1))) 534 g (mI M 534 (g + 1))) 536 g (mI M 536 (g + 1))) 538 g (mI M 538 (g + 1))) b j = mI M b j := fun j => by repeat rw [mI_ne (by omega)]
    rw [h5 b hb j, e, e]
theorem arc_c {g : Nat} (h : ckN g M M') (hx : arcM M (g + 1) ar) (h1 : (rM ar).length ≤ 160) (h2 : (rO ar).length ≤ 160) : arcM M' g ar := by
  obtain ⟨-, -, h3, h4⟩ := h
  obtain ⟨a1, a2, a3, a4, a5, a6, a7, a8⟩ := hx
  refine ⟨?_, ?_, ?_, ?_, ?_, fun i hi => ?_, ?_, fun i hi => ?_⟩
  · rw [h3 _ _ (by omega), if_pos rfl]; exact a1
  · rw [h3 _ _ (by omega), if_pos rfl]; exact a2
  · rw [h3 _ _ (by omega), if_pos rfl]; exact a3
  · rw [h3 _ _ (by omega), if_pos rfl]; exact a4
  · rw [h3 _ _ (by omega), if_pos rfl]; exact a5
  · rw [h4 _ (by omega), if_pos (by omega), show 160 * g + i + 160 = 160 * (g + 1) + i by omega]; exact a6 i hi
  · rw [h3 _ _ (by omega), if_pos rfl]; exact a7
  · rw [h4 _ (by omega), if_pos (by omega), show 160 * g + i + 160 = 160 * (g + 1) + i by omega]; exact a8 i hi
theorem arc_o {g : Nat} (h : ckN g M M') (hx : arcM M j ar) (hj : j ≠ g) (h1 : (rM ar).length ≤ 160) (h2 : (rO ar).length ≤ 160) : arcM M' j ar := by
  obtain ⟨-, -, h3, h4⟩ := h
  obtain ⟨a1, a2, a3, a4, a5, a6, a7, a8⟩ := hx
  refine ⟨?_, ?_, ?_, ?_, ?_, fun i hi => ?_, ?_, fun i hi => ?_⟩
  · rw [h3 _ _ (by omega), if_neg hj]; exact a1
  · rw [h3 _ _ (by omega), if_neg hj]; exact a2
  · rw [h3 _ _ (by omega), if_neg hj]; exact a3
  · rw [h3 _ _ (by omega), if_neg hj]; exact a4
  · rw [h3 _ _ (by omega), if_neg hj]; exact a5
  · rw [h4 _ (by omega), if_neg (by omega)]; exact a6 i hi
  · rw [h3 _ _ (by omega), if_neg hj]; exact a7
  · rw [h4 _ (by omega), if_neg (by omega)]; exact a8 i hi
/-- all rows but the oldest are copied -/
theorem lp_shiftK (hL : LF M0) (hl : ∀ k, k < 24 → (rM (arc k)).length ≤ 160 ∧ (rO (arc k)).length ≤ 160) (hQ : ∀ M', akN M0 M' → mI M' 495 55 = nI 24 → (∀ j, j < 23 → arcM M' j (arc (j + 1))) → Go G (MT 244) Q X 33 [some (.ref 495), some (.int x), none] [] M' 0 0) : ∀ (r k : Nat) (M : Mem), r + k = 24 → 1 ≤ k → akN M0 M → mI M 495 55 = nI 24 → (∀ j, j + 1 < k → arcM M j (arc (j + 1))) → (∀ j, k ≤ j → j < 24 → arcM M j (arc j)) → Go G (MT 244) Q X 11 [some (.ref 495), some (.int x), some (.int (nI k))] [] M 0 0 := by
  intro r
  induction r with
  | zero =>
    intro k M hk h1 hw h55 ha hb
    have hk : k = 24 := by omega
    subst hk
    have hL1 := akN_L hw hL
    refine r_X12_keep (fun n => n == 11 || n == 33 || n == 27 || n == 56 || n == 87) 60 ?_
    simp only [cd_X12_keep, cf_X12_keep, wp, wq, wpI, cdF, w_CI, w_CL, w_CN, w_LI, w_LL, w_LA, w_SI, w_SL, w_SA, w_INC, w_II, w_IId, w_LLb, w_LLd, w_LS, w_I1, w_L1, w_I2L, w_L2I, w_CMP, w_DUP, w_POP, w_DUP2, w_IF, w_IC, w_GO, w_NUL, w_ACN, prs, w_GF, w_PF, w_GS, w_IAL, w_LEN, w_LAL, w_ZAL, w_AAL, w_IAS, w_LAS, w_ZAS, w_AAS, w_RI, w_RL, w_RA, w_NEW, w_NA, w_MNA, w_OI, w_THR, w_CV, w_CS, w_CN9, w_CI9, w_MX, w_cont, lget, sto1, sto2, wideV, vo, vo_rv, isR, isR_rv, rv, fget, fput, cats, Value.category, List.headD_cons, List.getD_cons_zero, List.getD_cons_succ, List.drop_succ_cons, List.drop_zero, List.take_succ_cons, List.take_zero, List.reverse_cons, List.reverse_nil, List.nil_append, List.cons_append, List.length_cons, List.length_nil, cond_true, cond_false, and_true, true_and, Nat.zero_add, Nat.add_zero, Nat.reduceAdd, Nat.reduceLT, Nat.reduceLeDiff, Nat.reduceEqDiff, Nat.reduceBEq, Nat.reduceSub, ↓reduceIte, Int32.reduceOfNat, Int64.reduceOfNat, reduceCtorEq, Nat.le_refl, Nat.zero_le, Bool.false_eq_true, beq_self_eq_true, Fin.isValue, Fin.val_zero, Fin.val_one, Fin.reduceFinMk, Fin.val_two, Nat.reduceMod, Bool.or_false, Bool.or_true, Bool.true_or, Bool.false_or, not_true_eq_false, not_false_eq_true, true_or, or_true, implies_true, false_implies, true_implies, Int32.reduceLT, Int32.reduceLE, ↓w_TAB3, ↓w_TAB4, ↓w_TAB5, ↓w_TAB7, ↓w_TAB10, ↓w_LK2, ↓w_LK6, false_and, and_false, i1z, i2z, iz1, im0, im1, l0z, hasK_uI, hasK_uL, hasK_uR, hasK_uZ, hasK_sRow, mR_uI, mR_uL, mR_uZ, mR_sRow, mI_uL, mI_uR, mI_uZ, mL_uI, mL_uR, mL_uZ, mL_sRow, LF.hg hL1, layF, LF.r hL1, refF, ne_eq, not_false_eq_true, Option.some.injEq, Sum.inl.injEq, Sum.inr.injEq, Prod.mk.injEq, exists_eq_left, exists_eq_left', h55]
    refine ⟨fun _ => Go.less (hQ M hw h55 (fun j hj => ha j (by omega))) (fun k v h => ?_), fun q => absurd (nI_le (Nat.le_refl 24) (by omega)) q⟩
    rcases k with _ | _ | _ | k <;> simp at h ⊢ <;> exact h
  | succ r ih =>
    intro k M hk h1 hw h55 ha hb
    have tk := nI_toInt (n := k) (by omega)
    have hL1 := akN_L hw hL
    have e1 : nI k - 1 = nI (k - 1) := nI_sub (b := 1) (by omega) (by omega)
    have t24 : (nI 24).toInt = 24 := rfl
    refine r_X12_keep (fun n => n == 11 || n == 33 || n == 27 || n == 56 || n == 87) 60 ?_
    simp only [cd_X12_keep, cf_X12_keep, wp, wq, wpI, cdF, w_CI, w_CL, w_CN, w_LI, w_LL, w_LA, w_SI, w_SL, w_SA, w_INC, w_II, w_IId, w_LLb, w_LLd, w_LS, w_I1, w_L1, w_I2L, w_L2I, w_CMP, w_DUP, w_POP, w_DUP2, w_IF, w_IC, w_GO, w_NUL, w_ACN, prs, w_GF, w_PF, w_GS, w_IAL, w_LEN, w_LAL, w_ZAL, w_AAL, w_IAS, w_LAS, w_ZAS, w_AAS, w_RI, w_RL, w_RA, w_NEW, w_NA, w_MNA, w_OI, w_THR, w_CV, w_CS, w_CN9, w_CI9, w_MX, w_cont, lget, sto1, sto2, wideV, vo, vo_rv, isR, isR_rv, rv, fget, fput, cats, Value.category, List.headD_cons, List.getD_cons_zero, List.getD_cons_succ, List.drop_succ_cons, List.drop_zero, List.take_succ_cons, List.take_zero, List.reverse_cons, List.reverse_nil, List.nil_append, List.cons_append, List.length_cons, List.length_nil, cond_true, cond_false, and_true, true_and, Nat.zero_add, Nat.add_zero, Nat.reduceAdd, Nat.reduceLT, Nat.reduceLeDiff, Nat.reduceEqDiff, Nat.reduceBEq, Nat.reduceSub, ↓reduceIte, Int32.reduceOfNat, Int64.reduceOfNat, reduceCtorEq, Nat.le_refl, Nat.zero_le, Bool.false_eq_true, beq_self_eq_true, Fin.isValue, Fin.val_zero, Fin.val_one, Fin.reduceFinMk, Fin.val_two, Nat.reduceMod, Bool.or_false, Bool.or_true, Bool.true_or, Bool.false_or, not_true_eq_false, not_false_eq_true, true_or, or_true, implies_true, false_implies, true_implies, Int32.reduceLT, Int32.reduceLE, ↓w_TAB3, ↓w_TAB4, ↓w_TAB5, ↓w_TAB7, ↓w_TAB10, ↓w_LK2, ↓w_LK6, false_and, and_false, i1z, i2z, iz1, im0, im1, l0z, hasK_uI, hasK_uL, hasK_uR, hasK_uZ, hasK_sRow, mR_uI, mR_uL, mR_uZ, mR_sRow, mI_uL, mI_uR, mI_uZ, mL_uI, mL_uR, mL_uZ, mL_sRow, LF.hg hL1, layF, LF.r hL1, refF, ne_eq, not_false_eq_true, Option.some.injEq, Sum.inl.injEq, Sum.inr.injEq, Prod.mk.injEq, exists_eq_left, exists_eq_left', h55, e1]
    refine and_ii (fun q => ?_) (fun _ => ?_)
    · exfalso; (simp only [i_lt, i_le, i_eq, l_lt, l_le, l_eq, Int32.toInt_toInt64, Int32.reduceToInt, Int64.reduceToInt, ne_eq, Classical.not_not] at *; omega)
    refine m_copyKept (g := k - 1) hL1 (by omega) (by rw [show k - 1 + 1 = k by omega]) rfl (fun M' hc => ⟨rfl, ?_⟩)
    have ih' := ih (k + 1) M' (by omega) (by omega) (akN_t hw hc.1) (hc.2.1.trans h55) (fun j hj => ?_) (fun j h2 h3 => arc_o hc (hb j (by omega) h3) (by omega) (hl j h3).1 (hl j h3).2)
    · refine r_X12_keep (fun n => n == 11 || n == 33 || n == 27 || n == 56 || n == 87) 60 ?_
      simp only [cd_X12_keep, cf_X12_keep, wp, wq, wpI, cdF, w_CI, w_CL, w_CN, w_LI, w_LL, w_LA, w_SI, w_SL, w_SA, w_INC, w_II, w_IId, w_LLb, w_LLd, w_LS, w_I1, w_L1, w_I2L, w_L2I, w_CMP, w_DUP, w_POP, w_DUP2, w_IF, w_IC, w_GO, w_NUL, w_ACN, prs, w_GF, w_PF, w_GS, w_IAL, w_LEN, w_LAL, w_ZAL, w_AAL, w_IAS, w_LAS, w_ZAS, w_AAS, w_RI, w_RL, w_RA, w_NEW, w_NA, w_MNA, w_OI, w_THR, w_CV, w_CS, w_CN9, w_CI9, w_MX, w_cont, lget, sto1, sto2, wideV, vo, vo_rv, isR, isR_rv, rv, fget, fput, cats, Value.category, List.headD_cons, List.getD_cons_zero, List.getD_cons_succ, List.drop_succ_cons, List.drop_zero, List.take_succ_cons, List.take_zero, List.reverse_cons, List.reverse_nil, List.nil_append, List.cons_append, List.length_cons, List.length_nil, cond_true, cond_false, and_true, true_and, Nat.zero_add, Nat.add_zero, Nat.reduceAdd, Nat.reduceLT, Nat.reduceLeDiff, Nat.reduceEqDiff, Nat.reduceBEq, Nat.reduceSub, ↓reduceIte, Int32.reduceOfNat, Int64.reduceOfNat, reduceCtorEq, Nat.le_refl, Nat.zero_le, Bool.false_eq_true, beq_self_eq_true, Fin.isValue, Fin.val_zero, Fin.val_one, Fin.reduceFinMk, Fin.val_two, Nat.reduceMod, Bool.or_false, Bool.or_true, Bool.true_or, Bool.false_or, not_true_eq_false, not_false_eq_true, true_or, or_true, implies_true, false_implies, true_implies, Int32.reduceLT, Int32.reduceLE, ↓w_TAB3, ↓w_TAB4, ↓w_TAB5, ↓w_TAB7, ↓w_TAB10, ↓w_LK2, ↓w_LK6, false_and, and_false, i1z, i2z, iz1, im0, im1, l0z, nI_1]
      exact ih'
    · by_cases q : j + 1 = k
      · have hj' : j = k - 1 := by omega
        subst hj'
        have h0 := hb k (Nat.le_refl k) (by omega)
        have hlk := hl k (by omega)
        rw [show k - 1 + 1 = k by omega]
        exact arc_c hc (by rw [show k - 1 + 1 = k by omega]; exact h0) hlk.1 hlk.2
      · exact arc_o hc (ha j (by omega)) (by omega) (hl _ (by omega)).1 (hl _ (by omega)).2
theorem arc_uI {v : Int32} (h : arcM M j ar) (hb : b < 531 ∨ 538 < b ∨ (b ≠ 535 ∧ b ≠ 537 ∧ j ≠ n)) : arcM (uI M b n v) j ar := by
  obtain ⟨a1, a2, a3, a4, a5, a6, a7, a8⟩ := h
  exact ⟨by rw [mI_ne (by omega)]; exact a1, by rw [mI_ne (by omega)]; exact a2, by rw [mI_ne (by omega)]; exact a3, by rw [mI_ne (by omega)]; exact a4, by rw [mI_ne (by omega)]; exact a5, fun i hi => by rw [mI_ne (by omega)]; exact a6 i hi, by rw [mI_ne (by omega)]; exact a7, fun i hi => by rw [mI_ne (by omega)]; exact a8 i hi⟩
theorem arc_r5 {g : Nat → Nat} (h : arcM M j ar) (hj : j < n) (h1 : (rM ar).length ≤ 160) : arcM (dgR M 535 (160 * n) k g) j ar := by
  unfold dgR
  obtain ⟨a1, a2, a3, a4, a5, a6, a7, a8⟩ := h
  exact ⟨by rw [mI_nr (by omega)]; exact a1, by rw [mI_nr (by omega)]; exact a2, by rw [mI_nr (by omega)]; exact a3, by rw [mI_nr (by omega)]; exact a4, by rw [mI_nr (by omega)]; exact a5, fun i hi => by rw [mI_sRow, if_pos rfl, if_neg (by omega)]; exact a6 i hi, by rw [mI_nr (by omega)]; exact a7, fun i hi => by rw [mI_nr (by omega)]; exact a8 i hi⟩
theorem arc_r7 {g : Nat → Nat} (h : arcM M j ar) (hj : j < n) (h1 : (rO ar).length ≤ 160) : arcM (dgR M 537 (160 * n) k g) j ar := by
  unfold dgR
  obtain ⟨a1, a2, a3, a4, a5, a6, a7, a8⟩ := h
  exact ⟨by rw [mI_nr (by omega)]; exact a1, by rw [mI_nr (by omega)]; exact a2, by rw [mI_nr (by omega)]; exact a3, by rw [mI_nr (by omega)]; exact a4, by rw [mI_nr (by omega)]; exact a5, fun i hi => by rw [mI_nr (by omega)]; exact a6 i hi, by rw [mI_nr (by omega)]; exact a7, fun i hi => by rw [mI_sRow, if_pos rfl, if_neg (by omega)]; exact a8 i hi⟩
end KPM
