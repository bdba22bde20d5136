/-! TIME: the class -/
section LAP
variable {G : En} {M M0 Mz M' : Mem} {Q : Option Value → Mem → Prop} {X : String → Mem → Prop} {S : Sw} {t a j k v i np T : Nat} {x y : Int32} {z : Int64} {u : Int} {w c : Nat → Nat} {o : Nat} {p : Py} {q q' : Nat → Int × Int}
/-- what is held for a payment's account, when the payment's held goes over to u -/
def qH (q : Nat → Int × Int) (p : Py) (u : Int) : Nat → Int × Int := if qI p 45 = 0 then q else up1 q (qI p 45 - 1) ((q (qI p 45 - 1)).1 - (qL p 48 - u), (q (qI p 45 - 1)).2)
theorem c_holdOnly (h : RP w o c S k p q M) (hi : hiS M0 M) (h64 : qI p 45 ≤ 64) (hz : z = lI u) (hQ : ∀ M', RP w o c S k (pLu p 48 u) (qH q p u) M' → hiS M0 M' → Q none M') : Ct G (MT 14) [.ref 139, .ref (148 + 3 * w k), .long z] M Q X := by
  subst hz
  have hL := h.L
  have hpc := h.pc
  have hp := hpc.1
  have hka := hpc.2.2
  have hw := hpc.2.1
  have h8 := hp.2.2.2.2.2.2.2.2.2.1
  have h6 := hp.2.2.2.2.2.2.2.2.2.2.2.2.1
  have hA5 : 148 + 3 * w k < 495 := by omega
  by_cases h45 : qI p 45 = 0
  · rw [if_pos h45] at h6
    have r1 := RP_L48 (x := u) (z := lI u) h rfl
    unfold qH at hQ
    rw [if_pos h45] at hQ
    generalize 148 + 3 * w k = A at *
    refine Ct.go (L0 := [some (.ref 139), some (.ref A), some (.long (lI u)), none]) (by decide +kernel) rfl rfl ?_
    refine r_X2_holdOnly (fun _ => false) 60 ?_
    simp only [cd_X2_holdOnly, cf_X2_holdOnly, wp, wq, wpI, cdF, w_CI, w_CL, w_CN, w_LI, w_LL, w_LA, w_SI, w_SL, w_SA, w_INC, w_II, w_IId, w_LLb, w_LLd, w_LS, w_I1, w_L1, w_I2L, w_L2I, w_CMP, w_DUP, w_POP, w_DUP2, w_IF, w_IC, w_GO, w_NUL, w_ACN, prs, w_GF, w_PF, w_GS, w_IAL, w_LEN, w_LAL, w_ZAL, w_AAL, w_IAS, w_LAS, w_ZAS, w_AAS, w_RI, w_RL, w_RA, w_NEW, w_NA, w_MNA, w_OI, w_THR, w_CV, w_CS, w_CN9, w_CI9, w_MX, w_cont, lget, sto1, sto2, wideV, vo, vo_rv, isR, isR_rv, rv, fget, fput, cats, Value.category, List.headD_cons, List.getD_cons_zero, List.getD_cons_succ, List.drop_succ_cons, List.drop_zero, List.take_succ_cons, List.take_zero, List.reverse_cons, List.reverse_nil, List.nil_append, List.cons_append, List.length_cons, List.length_nil, cond_true, cond_false, and_true, true_and, Nat.zero_add, Nat.add_zero, Nat.reduceAdd, Nat.reduceLT, Nat.reduceLeDiff, Nat.reduceEqDiff, Nat.reduceBEq, Nat.reduceSub, ↓reduceIte, Int32.reduceOfNat, Int64.reduceOfNat, reduceCtorEq, Nat.le_refl, Nat.zero_le, Bool.false_eq_true, beq_self_eq_true, Fin.isValue, Fin.val_zero, Fin.val_one, Fin.reduceFinMk, Fin.val_two, Nat.reduceMod, Bool.or_false, Bool.or_true, Bool.true_or, Bool.false_or, not_true_eq_false, not_false_eq_true, true_or, or_true, implies_true, false_implies, true_implies, Int32.reduceLT, Int32.reduceLE, ↓w_TAB3, ↓w_TAB4, ↓w_TAB5, ↓w_TAB7, ↓w_TAB10, ↓w_LK2, ↓w_LK6, false_and, and_false, i1z, i2z, iz1, im0, im1, l0z, hka, h6]
    exact hQ _ r1 (hiS_uL hi hA5)
  · rw [if_neg h45, show 9 + 2 * qI p 45 = 11 + 2 * (qI p 45 - 1) by omega] at h6
    have ha : qI p 45 - 1 < 64 := by omega
    have hkb := (acc_k hL ha).1
    have m5 := (h.1.2.2.2.2.2.1 _ ha).1
    have r0 := RP_held (a := qI p 45 - 1) (x := (q (qI p 45 - 1)).1 - (qL p 48 - u)) (z := lI ((q (qI p 45 - 1)).1 - (qL p 48 - u))) h ha rfl
    have r1 := RP_L48 (x := u) (z := lI u) r0 rfl
    unfold qH at hQ
    rw [if_neg h45] at hQ
    have hB5 : 11 + 2 * (qI p 45 - 1) < 495 := by omega
    generalize 148 + 3 * w k = A at *
    generalize qI p 45 - 1 = b at *
    refine Ct.go (L0 := [some (.ref 139), some (.ref A), some (.long (lI u)), none]) (by decide +kernel) rfl rfl ?_
    refine r_X2_holdOnly (fun _ => false) 60 ?_
    simp only [cd_X2_holdOnly, cf_X2_holdOnly, wp, wq, wpI, cdF, w_CI, w_CL, w_CN, w_LI, w_LL, w_LA, w_SI, w_SL, w_SA, w_INC, w_II, w_IId, w_LLb, w_LLd, w_LS, w_I1, w_L1, w_I2L, w_L2I, w_CMP, w_DUP, w_POP, w_DUP2, w_IF, w_IC, w_GO, w_NUL, w_ACN, prs, w_GF, w_PF, w_GS, w_IAL, w_LEN, w_LAL, w_ZAL, w_AAL, w_IAS, w_LAS, w_ZAS, w_AAS, w_RI, w_RL, w_RA, w_NEW, w_NA, w_MNA, w_OI, w_THR, w_CV, w_CS, w_CN9, w_CI9, w_MX, w_cont, lget, sto1, sto2, wideV, vo, vo_rv, isR, isR_rv, rv, fget, fput, cats, Value.category, List.headD_cons, List.getD_cons_zero, List.getD_cons_succ, List.drop_succ_cons, List.drop_zero, List.take_succ_cons, List.take_zero, List.reverse_cons, List.reverse_nil, List.nil_append, List.cons_append, List.length_cons, List.length_nil, cond_true, cond_false, and_true, true_and, Nat.zero_add, Nat.add_zero, Nat.reduceAdd, Nat.reduceLT, Nat.reduceLeDiff, Nat.reduceEqDiff, Nat.reduceBEq, Nat.reduceSub, ↓reduceIte, Int32.reduceOfNat, Int64.reduceOfNat, reduceCtorEq, Nat.le_refl, Nat.zero_le, Bool.false_eq_true, beq_self_eq_true, Fin.isValue, Fin.val_zero, Fin.val_one, Fin.reduceFinMk, Fin.val_two, Nat.reduceMod, Bool.or_false, Bool.or_true, Bool.true_or, Bool.false_or, not_true_eq_false, not_false_eq_true, true_or, or_true, implies_true, false_implies, true_implies, Int32.reduceLT, Int32.reduceLE, ↓w_TAB3, ↓w_TAB4, ↓w_TAB5, ↓w_TAB7, ↓w_TAB10, ↓w_LK2, ↓w_LK6, false_and, and_false, i1z, i2z, iz1, im0, im1, l0z, hka, h6, hkb, h8, m5, lI_sub, hasK_uL]
    exact hQ _ r1 (hiS_uL (hiS_uL hi hB5) hA5)
theorem c_release (h : RP w o c S k p q M) (hi : hiS M0 M) (h64 : qI p 45 ≤ 64) (hQ : ∀ M', RP w o c S k (pIu (pIu (pLu p 48 0) 50 0) 47 2) (qH q p 0) M' → hiS M0 M' → Q none M') : Ct G (MT 15) [.ref 139, .ref (148 + 3 * w k)] M Q X := by
  have hL := h.L
  have hw := h.pc.2.1
  refine Ct.go (L0 := [some (.ref 139), some (.ref (148 + 3 * w k))]) (by decide +kernel) rfl rfl ?_
  refine r_X2_release (fun n => n == 6) 60 ?_
  simp only [cd_X2_release, cf_X2_release, wp, wq, wpI, cdF, w_CI, w_CL, w_CN, w_LI, w_LL, w_LA, w_SI, w_SL, w_SA, w_INC, w_II, w_IId, w_LLb, w_LLd, w_LS, w_I1, w_L1, w_I2L, w_L2I, w_CMP, w_DUP, w_POP, w_DUP2, w_IF, w_IC, w_GO, w_NUL, w_ACN, prs, w_GF, w_PF, w_GS, w_IAL, w_LEN, w_LAL, w_ZAL, w_AAL, w_IAS, w_LAS, w_ZAS, w_AAS, w_RI, w_RL, w_RA, w_NEW, w_NA, w_MNA, w_OI, w_THR, w_CV, w_CS, w_CN9, w_CI9, w_MX, w_cont, lget, sto1, sto2, wideV, vo, vo_rv, isR, isR_rv, rv, fget, fput, cats, Value.category, List.headD_cons, List.getD_cons_zero, List.getD_cons_succ, List.drop_succ_cons, List.drop_zero, List.take_succ_cons, List.take_zero, List.reverse_cons, List.reverse_nil, List.nil_append, List.cons_append, List.length_cons, List.length_nil, cond_true, cond_false, and_true, true_and, Nat.zero_add, Nat.add_zero, Nat.reduceAdd, Nat.reduceLT, Nat.reduceLeDiff, Nat.reduceEqDiff, Nat.reduceBEq, Nat.reduceSub, ↓reduceIte, Int32.reduceOfNat, Int64.reduceOfNat, reduceCtorEq, Nat.le_refl, Nat.zero_le, Bool.false_eq_true, beq_self_eq_true, Fin.isValue, Fin.val_zero, Fin.val_one, Fin.reduceFinMk, Fin.val_two, Nat.reduceMod, Bool.or_false, Bool.or_true, Bool.true_or, Bool.false_or, not_true_eq_false, not_false_eq_true, true_or, or_true, implies_true, false_implies, true_implies, Int32.reduceLT, Int32.reduceLE, ↓w_TAB3, ↓w_TAB4, ↓w_TAB5, ↓w_TAB7, ↓w_TAB10, ↓w_LK2, ↓w_LK6, false_and, and_false, i1z, i2z, iz1, im0, im1, l0z, hasK_uI, hasK_uL, hasK_uR, hasK_uZ, hasK_sRow, mR_uI, mR_uL, mR_uZ, mR_sRow, mI_uL, mI_uR, mI_uZ, mL_uI, mL_uR, mL_uZ, mL_sRow, LF.hg hL, layF, LF.r hL, refF, ne_eq, not_false_eq_true, Option.some.injEq, Sum.inl.injEq, Sum.inr.injEq, Prod.mk.injEq, exists_eq_left, exists_eq_left']
  refine c_holdOnly (u := 0) h hi h64 rfl (fun M1 r1 i1 => ⟨rfl, ?_⟩)
  have k1 := r1.pc.2.2
  refine r_X2_release (fun n => n == 6) 60 ?_
  simp only [cd_X2_release, cf_X2_release, wp, wq, wpI, cdF, w_CI, w_CL, w_CN, w_LI, w_LL, w_LA, w_SI, w_SL, w_SA, w_INC, w_II, w_IId, w_LLb, w_LLd, w_LS, w_I1, w_L1, w_I2L, w_L2I, w_CMP, w_DUP, w_POP, w_DUP2, w_IF, w_IC, w_GO, w_NUL, w_ACN, prs, w_GF, w_PF, w_GS, w_IAL, w_LEN, w_LAL, w_ZAL, w_AAL, w_IAS, w_LAS, w_ZAS, w_AAS, w_RI, w_RL, w_RA, w_NEW, w_NA, w_MNA, w_OI, w_THR, w_CV, w_CS, w_CN9, w_CI9, w_MX, w_cont, lget, sto1, sto2, wideV, vo, vo_rv, isR, isR_rv, rv, fget, fput, cats, Value.category, List.headD_cons, List.getD_cons_zero, List.getD_cons_succ, List.drop_succ_cons, List.drop_zero, List.take_succ_cons, List.take_zero, List.reverse_cons, List.reverse_nil, List.nil_append, List.cons_append, List.length_cons, List.length_nil, cond_true, cond_false, and_true, true_and, Nat.zero_add, Nat.add_zero, Nat.reduceAdd, Nat.reduceLT, Nat.reduceLeDiff, Nat.reduceEqDiff, Nat.reduceBEq, Nat.reduceSub, ↓reduceIte, Int32.reduceOfNat, Int64.reduceOfNat, reduceCtorEq, Nat.le_refl, Nat.zero_le, Bool.false_eq_true, beq_self_eq_true, Fin.isValue, Fin.val_zero, Fin.val_one, Fin.reduceFinMk, Fin.val_two, Nat.reduceMod, Bool.or_false, Bool.or_true, Bool.true_or, Bool.false_or, not_true_eq_false, not_false_eq_true, true_or, or_true, implies_true, false_implies, true_implies, Int32.reduceLT, Int32.reduceLE, ↓w_TAB3, ↓w_TAB4, ↓w_TAB5, ↓w_TAB7, ↓w_TAB10, ↓w_LK2, ↓w_LK6, false_and, and_false, i1z, i2z, iz1, im0, im1, l0z, k1, hasK_uI]
  exact hQ _ (RP_I47 (v := 2) (y := 2) (RP_I50 (v := 0) (y := 0) r1 rfl) rfl) (hiS_uI (hiS_uI i1 (by omega)) (by omega))
theorem c_finish (h : RP w o c S k p q M) (hi : hiS M0 M) (h64 : qI p 45 ≤ 64) (hy : y = nI v) (hQ : ∀ M', RP w o c S k (pIu (pIu (pIu (pLu p 48 0) 50 0) 47 3) 51 (v + 1)) (qH q p 0) M' → hiS M0 M' → Q none M') : Ct G (MT 16) [.ref 139, .ref (148 + 3 * w k), .int y] M Q X := by
  have hL := h.L
  have hw := h.pc.2.1
  refine Ct.go (L0 := [some (.ref 139), some (.ref (148 + 3 * w k)), some (.int y)]) (by decide +kernel) rfl rfl ?_
  refine r_X2_finish (fun n => n == 6) 60 ?_
  simp only [cd_X2_finish, cf_X2_finish, wp, wq, wpI, cdF, w_CI, w_CL, w_CN, w_LI, w_LL, w_LA, w_SI, w_SL, w_SA, w_INC, w_II, w_IId, w_LLb, w_LLd, w_LS, w_I1, w_L1, w_I2L, w_L2I, w_CMP, w_DUP, w_POP, w_DUP2, w_IF, w_IC, w_GO, w_NUL, w_ACN, prs, w_GF, w_PF, w_GS, w_IAL, w_LEN, w_LAL, w_ZAL, w_AAL, w_IAS, w_LAS, w_ZAS, w_AAS, w_RI, w_RL, w_RA, w_NEW, w_NA, w_MNA, w_OI, w_THR, w_CV, w_CS, w_CN9, w_CI9, w_MX, w_cont, lget, sto1, sto2, wideV, vo, vo_rv, isR, isR_rv, rv, fget, fput, cats, Value.category, List.headD_cons, List.getD_cons_zero, List.getD_cons_succ, List.drop_succ_cons, List.drop_zero, List.take_succ_cons, List.take_zero, List.reverse_cons, List.reverse_nil, List.nil_append, List.cons_append, List.length_cons, List.length_nil, cond_true, cond_false, and_true, true_and, Nat.zero_add, Nat.add_zero, Nat.reduceAdd, Nat.reduceLT, Nat.reduceLeDiff, Nat.reduceEqDiff, Nat.reduceBEq, Nat.reduceSub, ↓reduceIte, Int32.reduceOfNat, Int64.reduceOfNat, reduceCtorEq, Nat.le_refl, Nat.zero_le, Bool.false_eq_true, beq_self_eq_true, Fin.isValue, Fin.val_zero, Fin.val_one, Fin.reduceFinMk, Fin.val_two, Nat.reduceMod, Bool.or_false, Bool.or_true, Bool.true_or, Bool.false_or, not_true_eq_false, not_false_eq_true, true_or, or_true, implies_true, false_implies, true_implies, Int32.reduceLT, Int32.reduceLE, ↓w_TAB3, ↓w_TAB4, ↓w_TAB5, ↓w_TAB7, ↓w_TAB10, ↓w_LK2, ↓w_LK6, false_and, and_false, i1z, i2z, iz1, im0, im1, l0z, hasK_uI, hasK_uL, hasK_uR, hasK_uZ, hasK_sRow, mR_uI, mR_uL, mR_uZ, mR_sRow, mI_uL, mI_uR, mI_uZ, mL_uI, mL_uR, mL_uZ, mL_sRow, LF.hg hL, layF, LF.r hL, refF, ne_eq, not_false_eq_true, Option.some.injEq, Sum.inl.injEq, Sum.inr.injEq, Prod.mk.injEq, exists_eq_left, exists_eq_left']
  refine c_holdOnly (u := 0) h hi h64 rfl (fun M1 r1 i1 => ⟨rfl, ?_⟩)
  have k1 := r1.pc.2.2
  refine r_X2_finish (fun n => n == 6) 60 ?_
  simp only [cd_X2_finish, cf_X2_finish, wp, wq, wpI, cdF, w_CI, w_CL, w_CN, w_LI, w_LL, w_LA, w_SI, w_SL, w_SA, w_INC, w_II, w_IId, w_LLb, w_LLd, w_LS, w_I1, w_L1, w_I2L, w_L2I, w_CMP, w_DUP, w_POP, w_DUP2, w_IF, w_IC, w_GO, w_NUL, w_ACN, prs, w_GF, w_PF, w_GS, w_IAL, w_LEN, w_LAL, w_ZAL, w_AAL, w_IAS, w_LAS, w_ZAS, w_AAS, w_RI, w_RL, w_RA, w_NEW, w_NA, w_MNA, w_OI, w_THR, w_CV, w_CS, w_CN9, w_CI9, w_MX, w_cont, lget, sto1, sto2, wideV, vo, vo_rv, isR, isR_rv, rv, fget, fput, cats, Value.category, List.headD_cons, List.getD_cons_zero, List.getD_cons_succ, List.drop_succ_cons, List.drop_zero, List.take_succ_cons, List.take_zero, List.reverse_cons, List.reverse_nil, List.nil_append, List.cons_append, List.length_cons, List.length_nil, cond_true, cond_false, and_true, true_and, Nat.zero_add, Nat.add_zero, Nat.reduceAdd, Nat.reduceLT, Nat.reduceLeDiff, Nat.reduceEqDiff, Nat.reduceBEq, Nat.reduceSub, ↓reduceIte, Int32.reduceOfNat, Int64.reduceOfNat, reduceCtorEq, Nat.le_refl, Nat.zero_le, Bool.false_eq_true, beq_self_eq_true, Fin.isValue, Fin.val_zero, Fin.val_one, Fin.reduceFinMk, Fin.val_two, Nat.reduceMod, Bool.or_false, Bool.or_true, Bool.true_or, Bool.false_or, not_true_eq_false, not_false_eq_true, true_or, or_true, implies_true, false_implies, true_implies, Int32.reduceLT, Int32.reduceLE, ↓w_TAB3, ↓w_TAB4, ↓w_TAB5, ↓w_TAB7, ↓w_TAB10, ↓w_LK2, ↓w_LK6, false_and, and_false, i1z, i2z, iz1, im0, im1, l0z, k1, hasK_uI]
  exact hQ _ (RP_I51 (v := v + 1) (y := y) (RP_I47 (v := 3) (y := 3) (RP_I50 (v := 0) (y := 0) r1 rfl) rfl) (by rw [hy]; exact (nI_pred _).symm)) (hiS_uI (hiS_uI (hiS_uI i1 (by omega)) (by omega)) (by omega))
theorem c_isDO (h : RP w o c S k p q M) (h52 : qI p 52 ≤ 4) (hQ : Q (some (.int (b2i (qI p 52 = 1 ∨ qI p 52 = 2)))) M) : Ct G (MT 83) [.ref (148 + 3 * w k)] M Q X := by
  have hpc := h.pc
  have h12 := hpc.1.2.2.2.2.2.2.2.1
  have t52 := nI_toInt (n := qI p 52) (by omega)
  refine Ct.go (L0 := [some (.ref (148 + 3 * w k))]) (by decide +kernel) rfl rfl ?_
  refine r_X7_isDisputeOpen (fun _ => false) 60 ?_
  simp only [cd_X7_isDisputeOpen, cf_X7_isDisputeOpen, wp, wq, wpI, cdF, w_CI, w_CL, w_CN, w_LI, w_LL, w_LA, w_SI, w_SL, w_SA, w_INC, w_II, w_IId, w_LLb, w_LLd, w_LS, w_I1, w_L1, w_I2L, w_L2I, w_CMP, w_DUP, w_POP, w_DUP2, w_IF, w_IC, w_GO, w_NUL, w_ACN, prs, w_GF, w_PF, w_GS, w_IAL, w_LEN, w_LAL, w_ZAL, w_AAL, w_IAS, w_LAS, w_ZAS, w_AAS, w_RI, w_RL, w_RA, w_NEW, w_NA, w_MNA, w_OI, w_THR, w_CV, w_CS, w_CN9, w_CI9, w_MX, w_cont, lget, sto1, sto2, wideV, vo, vo_rv, isR, isR_rv, rv, fget, fput, cats, Value.category, List.headD_cons, List.getD_cons_zero, List.getD_cons_succ, List.drop_succ_cons, List.drop_zero, List.take_succ_cons, List.take_zero, List.reverse_cons, List.reverse_nil, List.nil_append, List.cons_append, List.length_cons, List.length_nil, cond_true, cond_false, and_true, true_and, Nat.zero_add, Nat.add_zero, Nat.reduceAdd, Nat.reduceLT, Nat.reduceLeDiff, Nat.reduceEqDiff, Nat.reduceBEq, Nat.reduceSub, ↓reduceIte, Int32.reduceOfNat, Int64.reduceOfNat, reduceCtorEq, Nat.le_refl, Nat.zero_le, Bool.false_eq_true, beq_self_eq_true, Fin.isValue, Fin.val_zero, Fin.val_one, Fin.reduceFinMk, Fin.val_two, Nat.reduceMod, Bool.or_false, Bool.or_true, Bool.true_or, Bool.false_or, not_true_eq_false, not_false_eq_true, true_or, or_true, implies_true, false_implies, true_implies, Int32.reduceLT, Int32.reduceLE, ↓w_TAB3, ↓w_TAB4, ↓w_TAB5, ↓w_TAB7, ↓w_TAB10, ↓w_LK2, ↓w_LK6, false_and, and_false, i1z, i2z, iz1, im0, im1, l0z, hpc.2.2, h12]
  refine and_ii (fun q => ?_) (fun q => and_ii (fun q2 => ?_) (fun q2 => ?_))
  · rw [b2i_t (by (simp only [i_lt, i_le, i_eq, l_lt, l_le, l_eq, Int32.toInt_toInt64, Int32.reduceToInt, Int64.reduceToInt, ne_eq, Classical.not_not] at *; omega))] at hQ; exact hQ
  · rw [b2i_f (by (simp only [i_lt, i_le, i_eq, l_lt, l_le, l_eq, Int32.toInt_toInt64, Int32.reduceToInt, Int64.reduceToInt, ne_eq, Classical.not_not] at *; omega))] at hQ; exact hQ
  · rw [b2i_t (by (simp only [i_lt, i_le, i_eq, l_lt, l_le, l_eq, Int32.toInt_toInt64, Int32.reduceToInt, Int64.reduceToInt, ne_eq, Classical.not_not] at *; omega))] at hQ; exact hQ
/-- what a payment must keep to, for lapse -/
def lapK (p : Py) : Prop := qI p 45 ≤ 64 ∧ qI p 52 ≤ 4 ∧ qI p 47 ≤ 3 ∧ qI p 50 ≤ 1005000 ∧ qI p 54 ≤ 1005001 ∧ 0 ≤ qL p 49 ∧ qL p 49 ≤ 999999999999 ∧ (qI p 47 = 1 → qI p 45 ≠ 0 ∧ qI p 51 = 0 ∧ qI p 52 = 0) ∧ (qI p 52 ≠ 0 → qI p 45 ≠ 0)
theorem lapK_of {n : Nat → Nat} (h : okPy n p) (h28 : n 28 ≤ 64) : lapK p := by
  obtain ⟨⟨b1, b2, b3, b4, b5, b6, b7, b8, b9, b10, b11⟩, c2, c3, c4, c5, c6, c7, c8, c9, c10, c11, c12, c13, c14⟩ := h
  refine ⟨by omega, by omega, by omega, by omega, by omega, by omega, by omega, fun e => ?_, fun e => ?_⟩
  · have := c4 e; exact ⟨this.1, this.2.2.2, this.2.2.1⟩
  · exact (c6 (c9 e)).1
/-- the state behind one lapse -/
def lapS (S : Sw) (k T : Nat) : Sw := wk (if lapB (sP S k) T ∧ qI (sP S k) 52 = 2 then wL S (up2 (sL S) 509 (qI (sP S k) 45 - 1) (sL S 509 (qI (sP S k) 45 - 1) - qL (sP S k) 53)) else S) k (lapP (sP S k) T)
theorem py_ext {p p' : Py} (h1 : qI p = qI p') (h2 : qL p = qL p') (h3 : qC p = qC p') (h4 : qR p = qR p') : p = p' := by
  obtain ⟨a, b, c, d⟩ := p
  obtain ⟨a', b', c', d'⟩ := p'
  simp only [qI, qL, qC, qR] at *
  subst h1 h2 h3 h4
  rfl
theorem ends_rel (h51 : qI p 51 = 0) (h49 : qL p 49 = 0) : ends p v = pIu (pIu (pLu p 48 0) 50 0) 47 2 := by
  refine py_ext ?_ rfl rfl rfl
  unfold ends
  rw [if_neg (by omega), if_neg (by omega)]
  show up1 (up1 (up1 p.1 50 0) 47 2) 51 0 = up1 (up1 p.1 50 0) 47 2
  have e : up1 (up1 p.1 50 0) 47 2 51 = 0 := h51
  rw [← e]
  exact up1_id
theorem ends_fin (h49 : 0 < qL p 49) : ends p v = pIu (pIu (pIu (pLu p 48 0) 50 0) 47 3) 51 (v + 1) := by
  unfold ends
  rw [if_pos h49, if_pos h49]
  rfl
theorem c_lapse (hR : RC w o c S M) (hi : hiS M0 M) (hk : k < sN S 39) (h60 : sN S 39 ≤ 60) (hT : sN S 11 = T) (hT2 : T ≤ 1000000) (hp : sP S k = p) (hl : lapK p) (hQ : ∀ M', RC w o c (lapS S k T) M' → hiS M0 M' → Q none M') : Ct G (MT 19) [.ref 139, .ref (148 + 3 * w k)] M Q X := by
  have rp := RP_of hR hk h60 hp
  have hL := rp.L
  have hn := rp.N
  unfold cN at hn
  rw [show sN S 11 = T from hT] at hn
  have hpc := rp.pc
  have hw := hpc.2.1
  have hka := hpc.2.2
  have hp1 := hpc.1
  unfold payC at hp1
  obtain ⟨l1, l2, l3, l4, l5, l6, l7, l8, l9⟩ := hl
  have t47 := nI_toInt (n := qI p 47) (by omega)
  have t50 := nI_toInt (n := qI p 50) (by omega)
  have tT := nI_toInt (n := T) (by omega)
  have f49 : fL (qL p 49) := by unfold fL; omega
  -- the second half
  have hhalf : ∀ (p1 : Py) (q1 : Nat → Int × Int) (M1 : Mem), RP w o c S k p1 q1 M1 → hiS M0 M1 → p1 = lapA p T → (∀ b, b < 64 → q1 b = (hld S b - hq b p + hq b p1, lkd S b)) → Go G (MT 19) Q X 45 [some (.ref 139), some (.ref (148 + 3 * w k))] [] M1 0 0 := fun p1 q1 M1 r1 i1 e1 hq1 => by
    have a52 : qI p1 52 = qI p 52 := by rw [e1]; exact qI_lapA (by omega)
    have a54 : qI p1 54 = qI p 54 := by rw [e1]; exact qI_lapA (by omega)
    have a45 : qI p1 45 = qI p 45 := by rw [e1]; exact qI_lapA (by omega)
    have a53 : qL p1 53 = qL p 53 := by rw [e1]; exact qL_lapA (by omega)
    have hL1 := r1.L
    have hk1 := r1.pc.2.2
    have hpp := r1.pc.1
    unfold payC at hpp
    have hn1 := r1.N
    unfold cN at hn1
    rw [show sN S 11 = T from hT] at hn1
    have t54 := nI_toInt (n := qI p1 54) (by omega)
    have tm : (nI (qI p1 54) - 1).toInt = qI p1 54 - 1 := by rw [i_sub] <;> rw [t54] <;> simp <;> omega
    have t52 := nI_toInt (n := qI p1 52) (by omega)
    have hend : ∀ (S1 : Sw) (p2 : Py) (q2 : Nat → Int × Int) (M2 : Mem), RP w o c S1 k p2 q2 M2 → hiS M0 M2 → wk S1 k p2 = lapS S k T → sN S1 39 = sN S 39 → sP S1 = sP S → (∀ b, b < 64 → q2 b = (hld S b - hq b p + hq b p2, lkd S b - kq b p + kq b p2)) → Q none M2 := fun S1 p2 q2 M2 r2 i2 es en ep hq2 => by
      have re := r2.1
      have rc := RC_of re (fun b hb => by
        rw [hq2 b hb]
        refine Eq.trans ?_ (qS_wk (S := S) (k := k) (p' := p2) hk ?_ ?_).symm
        · rw [hp]
        · show up1 (sP S1) k p2 = _; rw [ep]
        · exact en)
      rw [es] at rc
      exact hQ M2 rc i2
    have hB : lapB p T = true ↔ ((qI p 52 = 1 ∨ qI p 52 = 2) ∧ qI p 54 ≤ T) := by unfold lapB; exact decide_eq_true_iff
    have hnot : ¬ lapB p T = true → Go G (MT 19) Q X 81 [some (.ref 139), some (.ref (148 + 3 * w k))] [] M1 0 0 := fun hb => by
      refine r_X2_lapse (fun n => n == 33 || n == 45 || n == 49 || n == 81) 60 ?_
      simp only [cd_X2_lapse, cf_X2_lapse, wp, wq, wpI, cdF, w_CI, w_CL, w_CN, w_LI, w_LL, w_LA, w_SI, w_SL, w_SA, w_INC, w_II, w_IId, w_LLb, w_LLd, w_LS, w_I1, w_L1, w_I2L, w_L2I, w_CMP, w_DUP, w_POP, w_DUP2, w_IF, w_IC, w_GO, w_NUL, w_ACN, prs, w_GF, w_PF, w_GS, w_IAL, w_LEN, w_LAL, w_ZAL, w_AAL, w_IAS, w_LAS, w_ZAS, w_AAS, w_RI, w_RL, w_RA, w_NEW, w_NA, w_MNA, w_OI, w_THR, w_CV, w_CS, w_CN9, w_CI9, w_MX, w_cont, lget, sto1, sto2, wideV, vo, vo_rv, isR, isR_rv, rv, fget, fput, cats, Value.category, List.headD_cons, List.getD_cons_zero, List.getD_cons_succ, List.drop_succ_cons, List.drop_zero, List.take_succ_cons, List.take_zero, List.reverse_cons, List.reverse_nil, List.nil_append, List.cons_append, List.length_cons, List.length_nil, cond_true, cond_false, and_true, true_and, Nat.zero_add, Nat.add_zero, Nat.reduceAdd, Nat.reduceLT, Nat.reduceLeDiff, Nat.reduceEqDiff, Nat.reduceBEq, Nat.reduceSub, ↓reduceIte, Int32.reduceOfNat, Int64.reduceOfNat, reduceCtorEq, Nat.le_refl, Nat.zero_le, Bool.false_eq_true, beq_self_eq_true, Fin.isValue, Fin.val_zero, Fin.val_one, Fin.reduceFinMk, Fin.val_two, Nat.reduceMod, Bool.or_false, Bool.or_true, Bool.true_or, Bool.false_or, not_true_eq_false, not_false_eq_true, true_or, or_true, implies_true, false_implies, true_implies, Int32.reduceLT, Int32.reduceLE, ↓w_TAB3, ↓w_TAB4, ↓w_TAB5, ↓w_TAB7, ↓w_TAB10, ↓w_LK2, ↓w_LK6, false_and, and_false, i1z, i2z, iz1, im0, im1, l0z]
      refine hend S p1 q1 M1 r1 i1 ?_ rfl rfl (fun b hb2 => ?_)
      · unfold lapS
        rw [hp, if_neg (fun q => hb q.1)]
        unfold lapP
        rw [if_neg hb, e1]
      · rw [hq1 b hb2]
        have : kq b p1 = kq b p := by unfold kq; rw [a45, a52, a53]
        rw [this]
        congr 1
        omega
    have hyes : ∀ (won : Bool) (y : Int32), lapB p T = true → won = decide (qI p 52 = 1) → y = nI won.toNat → Ct G (MT 24) [.ref 139, .ref (148 + 3 * w k), .int y] M1 (fun v' M' => v' = none ∧ Go G (MT 19) Q X 81 [some (.ref 139), some (.ref (148 + 3 * w k))] [] M' 0 0) X := fun won y hb ew ey => by
      subst ey
      have hb' := hB.mp hb
      have c45 : qI p 45 ≠ 0 := l9 (by omega)
      refine c_close (won := won) r1 i1 (by omega) (by omega) (fun M2 r2 i2 => ⟨rfl, ?_⟩)
      refine r_X2_lapse (fun n => n == 33 || n == 45 || n == 49 || n == 81) 60 ?_
      simp only [cd_X2_lapse, cf_X2_lapse, wp, wq, wpI, cdF, w_CI, w_CL, w_CN, w_LI, w_LL, w_LA, w_SI, w_SL, w_SA, w_INC, w_II, w_IId, w_LLb, w_LLd, w_LS, w_I1, w_L1, w_I2L, w_L2I, w_CMP, w_DUP, w_POP, w_DUP2, w_IF, w_IC, w_GO, w_NUL, w_ACN, prs, w_GF, w_PF, w_GS, w_IAL, w_LEN, w_LAL, w_ZAL, w_AAL, w_IAS, w_LAS, w_ZAS, w_AAS, w_RI, w_RL, w_RA, w_NEW, w_NA, w_MNA, w_OI, w_THR, w_CV, w_CS, w_CN9, w_CI9, w_MX, w_cont, lget, sto1, sto2, wideV, vo, vo_rv, isR, isR_rv, rv, fget, fput, cats, Value.category, List.headD_cons, List.getD_cons_zero, List.getD_cons_succ, List.drop_succ_cons, List.drop_zero, List.take_succ_cons, List.take_zero, List.reverse_cons, List.reverse_nil, List.nil_append, List.cons_append, List.length_cons, List.length_nil, cond_true, cond_false, and_true, true_and, Nat.zero_add, Nat.add_zero, Nat.reduceAdd, Nat.reduceLT, Nat.reduceLeDiff, Nat.reduceEqDiff, Nat.reduceBEq, Nat.reduceSub, ↓reduceIte, Int32.reduceOfNat, Int64.reduceOfNat, reduceCtorEq, Nat.le_refl, Nat.zero_le, Bool.false_eq_true, beq_self_eq_true, Fin.isValue, Fin.val_zero, Fin.val_one, Fin.reduceFinMk, Fin.val_two, Nat.reduceMod, Bool.or_false, Bool.or_true, Bool.true_or, Bool.false_or, not_true_eq_false, not_false_eq_true, true_or, or_true, implies_true, false_implies, true_implies, Int32.reduceLT, Int32.reduceLE, ↓w_TAB3, ↓w_TAB4, ↓w_TAB5, ↓w_TAB7, ↓w_TAB10, ↓w_LK2, ↓w_LK6, false_and, and_false, i1z, i2z, iz1, im0, im1, l0z]
      refine hend _ _ _ M2 r2 i2 ?_ ?_ ?_ (fun b hb2 => ?_)
      · unfold lapS
        rw [hp]
        unfold lapP
        rw [if_pos hb, ← e1, ← ew, a45, a53]
        cases won
        · have e2 : qI p 52 = 2 := by have := of_decide_eq_false ew.symm; omega
          simp only [if_pos (show lapB p T = true ∧ qI p 52 = 2 from ⟨hb, e2⟩)]
          rfl
        · have e2 : qI p 52 = 1 := of_decide_eq_true ew.symm
          simp only [if_neg (show ¬ (lapB p T = true ∧ qI p 52 = 2) by omega)]
          rfl
      · cases won <;> rfl
      · cases won <;> rfl
      · have h0 : hq b (clsP p1 won) = hq b p1 := rfl
        have k0 : kq b p = if qI p 45 = b + 1 then qL p 53 else 0 := by
          unfold kq
          by_cases e : qI p 45 = b + 1
          · rw [if_pos ⟨e, hb'.1⟩, if_pos e]
          · rw [if_neg (fun q => e q.1), if_neg e]
        have k1 : kq b (clsP p1 won) = 0 := by
          cases won
          · exact if_neg (by show ¬ (_ ∧ ((4 : Nat) = 1 ∨ (4 : Nat) = 2)); omega)
          · exact if_neg (by show ¬ (_ ∧ ((3 : Nat) = 1 ∨ (3 : Nat) = 2)); omega)
        rw [h0, k0, k1, a45, a53]
        by_cases e : b = qI p 45 - 1
        · subst e
          rw [up1_same, if_pos (by omega), hq1 _ hb2]
          show (_, _) = (_, _)
          congr 1
          omega
        · rw [up1_ne e, if_neg (by omega), hq1 _ hb2]
          congr 1
          omega
    refine r_X2_lapse (fun n => n == 33 || n == 45 || n == 49 || n == 81) 60 ?_
    simp only [cd_X2_lapse, cf_X2_lapse, wp, wq, wpI, cdF, w_CI, w_CL, w_CN, w_LI, w_LL, w_LA, w_SI, w_SL, w_SA, w_INC, w_II, w_IId, w_LLb, w_LLd, w_LS, w_I1, w_L1, w_I2L, w_L2I, w_CMP, w_DUP, w_POP, w_DUP2, w_IF, w_IC, w_GO, w_NUL, w_ACN, prs, w_GF, w_PF, w_GS, w_IAL, w_LEN, w_LAL, w_ZAL, w_AAL, w_IAS, w_LAS, w_ZAS, w_AAS, w_RI, w_RL, w_RA, w_NEW, w_NA, w_MNA, w_OI, w_THR, w_CV, w_CS, w_CN9, w_CI9, w_MX, w_cont, lget, sto1, sto2, wideV, vo, vo_rv, isR, isR_rv, rv, fget, fput, cats, Value.category, List.headD_cons, List.getD_cons_zero, List.getD_cons_succ, List.drop_succ_cons, List.drop_zero, List.take_succ_cons, List.take_zero, List.reverse_cons, List.reverse_nil, List.nil_append, List.cons_append, List.length_cons, List.length_nil, cond_true, cond_false, and_true, true_and, Nat.zero_add, Nat.add_zero, Nat.reduceAdd, Nat.reduceLT, Nat.reduceLeDiff, Nat.reduceEqDiff, Nat.reduceBEq, Nat.reduceSub, ↓reduceIte, Int32.reduceOfNat, Int64.reduceOfNat, reduceCtorEq, Nat.le_refl, Nat.zero_le, Bool.false_eq_true, beq_self_eq_true, Fin.isValue, Fin.val_zero, Fin.val_one, Fin.reduceFinMk, Fin.val_two, Nat.reduceMod, Bool.or_false, Bool.or_true, Bool.true_or, Bool.false_or, not_true_eq_false, not_false_eq_true, true_or, or_true, implies_true, false_implies, true_implies, Int32.reduceLT, Int32.reduceLE, ↓w_TAB3, ↓w_TAB4, ↓w_TAB5, ↓w_TAB7, ↓w_TAB10, ↓w_LK2, ↓w_LK6, false_and, and_false, i1z, i2z, iz1, im0, im1, l0z, hk1]
    refine c_isDO r1 (by omega) ⟨_, rfl, ?_⟩
    refine r_X2_lapse (fun n => n == 33 || n == 45 || n == 49 || n == 81) 60 ?_
    simp only [cd_X2_lapse, cf_X2_lapse, wp, wq, wpI, cdF, w_CI, w_CL, w_CN, w_LI, w_LL, w_LA, w_SI, w_SL, w_SA, w_INC, w_II, w_IId, w_LLb, w_LLd, w_LS, w_I1, w_L1, w_I2L, w_L2I, w_CMP, w_DUP, w_POP, w_DUP2, w_IF, w_IC, w_GO, w_NUL, w_ACN, prs, w_GF, w_PF, w_GS, w_IAL, w_LEN, w_LAL, w_ZAL, w_AAL, w_IAS, w_LAS, w_ZAS, w_AAS, w_RI, w_RL, w_RA, w_NEW, w_NA, w_MNA, w_OI, w_THR, w_CV, w_CS, w_CN9, w_CI9, w_MX, w_cont, lget, sto1, sto2, wideV, vo, vo_rv, isR, isR_rv, rv, fget, fput, cats, Value.category, List.headD_cons, List.getD_cons_zero, List.getD_cons_succ, List.drop_succ_cons, List.drop_zero, List.take_succ_cons, List.take_zero, List.reverse_cons, List.reverse_nil, List.nil_append, List.cons_append, List.length_cons, List.length_nil, cond_true, cond_false, and_true, true_and, Nat.zero_add, Nat.add_zero, Nat.reduceAdd, Nat.reduceLT, Nat.reduceLeDiff, Nat.reduceEqDiff, Nat.reduceBEq, Nat.reduceSub, ↓reduceIte, Int32.reduceOfNat, Int64.reduceOfNat, reduceCtorEq, Nat.le_refl, Nat.zero_le, Bool.false_eq_true, beq_self_eq_true, Fin.isValue, Fin.val_zero, Fin.val_one, Fin.reduceFinMk, Fin.val_two, Nat.reduceMod, Bool.or_false, Bool.or_true, Bool.true_or, Bool.false_or, not_true_eq_false, not_false_eq_true, true_or, or_true, implies_true, false_implies, true_implies, Int32.reduceLT, Int32.reduceLE, ↓w_TAB3, ↓w_TAB4, ↓w_TAB5, ↓w_TAB7, ↓w_TAB10, ↓w_LK2, ↓w_LK6, false_and, and_false, i1z, i2z, iz1, im0, im1, l0z, hasK_uI, hasK_uL, hasK_uR, hasK_uZ, hasK_sRow, mR_uI, mR_uL, mR_uZ, mR_sRow, mI_uL, mI_uR, mI_uZ, mL_uI, mL_uR, mL_uZ, mL_sRow, LF.hg hL1, layF, LF.r hL1, refF, ne_eq, not_false_eq_true, Option.some.injEq, Sum.inl.injEq, Sum.inr.injEq, Prod.mk.injEq, exists_eq_left, exists_eq_left', hk1, hpp, hn1, b2i_0]
    refine and_ii (fun q => hnot (by rw [hB]; omega)) (fun q1 => and_ii (fun q => hnot (by rw [hB]; (simp only [i_lt, i_le, i_eq, l_lt, l_le, l_eq, Int32.toInt_toInt64, Int32.reduceToInt, Int64.reduceToInt, ne_eq, Classical.not_not] at *; omega))) (fun q2 => and_ii (fun q3 => ?_) (fun q3 => ?_)))
    · refine hyes false 0 ?_ ?_ rfl
      · rw [hB]; (simp only [i_lt, i_le, i_eq, l_lt, l_le, l_eq, Int32.toInt_toInt64, Int32.reduceToInt, Int64.reduceToInt, ne_eq, Classical.not_not] at *; omega)
      · symm; exact decide_eq_false (by (simp only [i_lt, i_le, i_eq, l_lt, l_le, l_eq, Int32.toInt_toInt64, Int32.reduceToInt, Int64.reduceToInt, ne_eq, Classical.not_not] at *; omega))
    · refine hyes true 1 ?_ ?_ rfl
      · rw [hB]; (simp only [i_lt, i_le, i_eq, l_lt, l_le, l_eq, Int32.toInt_toInt64, Int32.reduceToInt, Int64.reduceToInt, ne_eq, Classical.not_not] at *; omega)
      · symm; exact decide_eq_true (by (simp only [i_lt, i_le, i_eq, l_lt, l_le, l_eq, Int32.toInt_toInt64, Int32.reduceToInt, Int64.reduceToInt, ne_eq, Classical.not_not] at *; omega))
  have hsame : ∀ q : ¬ (qI p 47 = 1 ∧ qI p 50 ≤ T), Go G (MT 19) Q X 45 [some (.ref 139), some (.ref (148 + 3 * w k))] [] M 0 0 := fun q => by
    refine hhalf p (qS S) M rp hi ?_ (fun b hb => ?_)
    · unfold lapA; rw [if_neg q]
    · show (hld S b, lkd S b) = _
      congr 1
      omega
  have hqH : ∀ p1 : Py, qI p1 45 = qI p 45 → qL p1 48 = 0 → qI p 45 ≠ 0 → ∀ b, b < 64 → qH (qS S) p 0 b = (hld S b - hq b p + hq b p1, lkd S b) := fun p1 e1 e2 c45 b hb => by
    unfold qH
    rw [if_neg c45]
    have h0 : hq b p1 = 0 := by unfold hq; rw [e2]; split <;> rfl
    rw [h0]
    unfold hq
    by_cases e : b = qI p 45 - 1
    · subst e
      rw [up1_same, if_pos (by omega)]
      show (hld S (qI p 45 - 1) - (qL p 48 - 0), lkd S (qI p 45 - 1)) = _
      congr 1
      omega
    · rw [up1_ne e, if_neg (by omega)]
      show (hld S b, lkd S b) = _
      congr 1
      omega
  refine Ct.go (L0 := [some (.ref 139), some (.ref (148 + 3 * w k))]) (by decide +kernel) rfl rfl ?_
  refine r_X2_lapse (fun n => n == 45 || n == 33 || n == 45 || n == 49 || n == 81) 60 ?_
  simp only [cd_X2_lapse, cf_X2_lapse, wp, wq, wpI, cdF, w_CI, w_CL, w_CN, w_LI, w_LL, w_LA, w_SI, w_SL, w_SA, w_INC, w_II, w_IId, w_LLb, w_LLd, w_LS, w_I1, w_L1, w_I2L, w_L2I, w_CMP, w_DUP, w_POP, w_DUP2, w_IF, w_IC, w_GO, w_NUL, w_ACN, prs, w_GF, w_PF, w_GS, w_IAL, w_LEN, w_LAL, w_ZAL, w_AAL, w_IAS, w_LAS, w_ZAS, w_AAS, w_RI, w_RL, w_RA, w_NEW, w_NA, w_MNA, w_OI, w_THR, w_CV, w_CS, w_CN9, w_CI9, w_MX, w_cont, lget, sto1, sto2, wideV, vo, vo_rv, isR, isR_rv, rv, fget, fput, cats, Value.category, List.headD_cons, List.getD_cons_zero, List.getD_cons_succ, List.drop_succ_cons, List.drop_zero, List.take_succ_cons, List.take_zero, List.reverse_cons, List.reverse_nil, List.nil_append, List.cons_append, List.length_cons, List.length_nil, cond_true, cond_false, and_true, true_and, Nat.zero_add, Nat.add_zero, Nat.reduceAdd, Nat.reduceLT, Nat.reduceLeDiff, Nat.reduceEqDiff, Nat.reduceBEq, Nat.reduceSub, ↓reduceIte, Int32.reduceOfNat, Int64.reduceOfNat, reduceCtorEq, Nat.le_refl, Nat.zero_le, Bool.false_eq_true, beq_self_eq_true, Fin.isValue, Fin.val_zero, Fin.val_one, Fin.reduceFinMk, Fin.val_two, Nat.reduceMod, Bool.or_false, Bool.or_true, Bool.true_or, Bool.false_or, not_true_eq_false, not_false_eq_true, true_or, or_true, implies_true, false_implies, true_implies, Int32.reduceLT, Int32.reduceLE, ↓w_TAB3, ↓w_TAB4, ↓w_TAB5, ↓w_TAB7, ↓w_TAB10, ↓w_LK2, ↓w_LK6, false_and, and_false, i1z, i2z, iz1, im0, im1, l0z, hasK_uI, hasK_uL, hasK_uR, hasK_uZ, hasK_sRow, mR_uI, mR_uL, mR_uZ, mR_sRow, mI_uL, mI_uR, mI_uZ, mL_uI, mL_uR, mL_uZ, mL_sRow, LF.hg hL, layF, LF.r hL, refF, ne_eq, not_false_eq_true, Option.some.injEq, Sum.inl.injEq, Sum.inr.injEq, Prod.mk.injEq, exists_eq_left, exists_eq_left', hka, hp1, hn, cmp_eq]
  refine and_ii (fun q => hsame (by (simp only [i_lt, i_le, i_eq, l_lt, l_le, l_eq, Int32.toInt_toInt64, Int32.reduceToInt, Int64.reduceToInt, ne_eq, Classical.not_not] at *; omega))) (fun q1 => and_ii (fun q => hsame (by (simp only [i_lt, i_le, i_eq, l_lt, l_le, l_eq, Int32.toInt_toInt64, Int32.reduceToInt, Int64.reduceToInt, ne_eq, Classical.not_not] at *; omega))) (fun q2 => ?_))
  have e47 : qI p 47 = 1 ∧ qI p 50 ≤ T := by (simp only [i_lt, i_le, i_eq, l_lt, l_le, l_eq, Int32.toInt_toInt64, Int32.reduceToInt, Int64.reduceToInt, ne_eq, Classical.not_not] at *; omega)
  have l8' := l8 e47.1
  refine and_ii (fun q3 => ?_) (fun q3 => ?_)
  · have h49 : 0 < qL p 49 := by
      have : qL p 49 ≠ 0 := fun e => q3 (by rw [e]; rfl)
      omega
    refine c_finish (v := qI p 50) rp hi l1 rfl (fun M1 r1 i1 => ⟨rfl, ?_⟩)
    refine hhalf _ _ M1 r1 i1 ?_ (hqH _ rfl rfl l8'.1)
    unfold lapA
    rw [if_pos e47, ends_fin h49]
  · have h49 : qL p 49 = 0 := by
      have q3 := Classical.not_not.mp q3
      exact (lI_eq f49 (by unfold fL; omega)).mp q3
    refine c_release rp hi l1 (fun M1 r1 i1 => ⟨rfl, ?_⟩)
    refine r_X2_lapse (fun n => n == 45 || n == 33 || n == 45 || n == 49 || n == 81) 60 ?_
    simp only [cd_X2_lapse, cf_X2_lapse, wp, wq, wpI, cdF, w_CI, w_CL, w_CN, w_LI, w_LL, w_LA, w_SI, w_SL, w_SA, w_INC, w_II, w_IId, w_LLb, w_LLd, w_LS, w_I1, w_L1, w_I2L, w_L2I, w_CMP, w_DUP, w_POP, w_DUP2, w_IF, w_IC, w_GO, w_NUL, w_ACN, prs, w_GF, w_PF, w_GS, w_IAL, w_LEN, w_LAL, w_ZAL, w_AAL, w_IAS, w_LAS, w_ZAS, w_AAS, w_RI, w_RL, w_RA, w_NEW, w_NA, w_MNA, w_OI, w_THR, w_CV, w_CS, w_CN9, w_CI9, w_MX, w_cont, lget, sto1, sto2, wideV, vo, vo_rv, isR, isR_rv, rv, fget, fput, cats, Value.category, List.headD_cons, List.getD_cons_zero, List.getD_cons_succ, List.drop_succ_cons, List.drop_zero, List.take_succ_cons, List.take_zero, List.reverse_cons, List.reverse_nil, List.nil_append, List.cons_append, List.length_cons, List.length_nil, cond_true, cond_false, and_true, true_and, Nat.zero_add, Nat.add_zero, Nat.reduceAdd, Nat.reduceLT, Nat.reduceLeDiff, Nat.reduceEqDiff, Nat.reduceBEq, Nat.reduceSub, ↓reduceIte, Int32.reduceOfNat, Int64.reduceOfNat, reduceCtorEq, Nat.le_refl, Nat.zero_le, Bool.false_eq_true, beq_self_eq_true, Fin.isValue, Fin.val_zero, Fin.val_one, Fin.reduceFinMk, Fin.val_two, Nat.reduceMod, Bool.or_false, Bool.or_true, Bool.true_or, Bool.false_or, not_true_eq_false, not_false_eq_true, true_or, or_true, implies_true, false_implies, true_implies, Int32.reduceLT, Int32.reduceLE, ↓w_TAB3, ↓w_TAB4, ↓w_TAB5, ↓w_TAB7, ↓w_TAB10, ↓w_LK2, ↓w_LK6, false_and, and_false, i1z, i2z, iz1, im0, im1, l0z]
    refine hhalf _ _ M1 r1 i1 ?_ (hqH _ rfl rfl l8'.1)
    unfold lapA
    rw [if_pos e47, ends_rel l8'.2.1 h49]
end LAP
