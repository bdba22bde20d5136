/-! A PAYMENT'S KEY, CARD, APPROVAL: the reference -/
section KY
variable {G : En} {M M0 Mz M' : Mem} {Q : Option Value → Mem → Prop} {X : String → Mem → Prop} {S : Sw} {t a b j k v i np T A s n d N r o' th ty D D' : Nat} {x y : Int32} {z : Int64} {u am : Int} {m mx : Msg} {xs ys : List Nat} {ar : Ar} {g : Nat → Nat}
theorem fKy_iff (hj : Jv t S) (hi : i < sN S 39) : fKy S a m = i ↔ keyB S a m i = true := by
  have huq := hj.2.2.2.2.1
  constructor
  · intro e
    have := fsn_t (P := keyB S a m) (n := sN S 39) (by unfold fKy at e; omega)
    unfold fKy at e
    rw [e] at this
    exact this
  · intro h
    refine fsn_u hi h (fun j hj' q => ?_)
    unfold keyB at h q
    rw [Bool.and_eq_true, decide_eq_true_eq] at h q
    exact huq.2 j i hj' hi (by omega) (fun k hk => by rw [eqN_iff.mp h.2 k hk, eqN_iff.mp q.2 k hk])
set_option maxRecDepth 20000 in
theorem lp_keyed (hR : RM S M) (hj : Jv t S) (hm : msgM M 67 542 541 m) (ho : okM m) (p5 : pb (gH m) 5 = 1) (p4 : pb (gH m) 4 = 1) (hQ : Q (some (.int (fdC (fKy S (val m 4) m) (sN S 39)))) M) : ∀ (r i : Nat) (l : Option Value), r + i = sN S 39 → Go G (MT 254) Q X 4 [some (.ref 495), some (.int (fdC (fKy S (val m 4) m) i)), some (.int (nI i)), l] [] M 0 0 := by
  obtain ⟨hL, hN, hI, hLl, hA, hC, hP, hRr, hD, hT, hZ, hK⟩ := id hR
  have hs := hj.1
  have hn := hN
  unfold mNn at hn
  unfold jS at hs
  have v4 := val_lt ho (s := 4) (by omega) p4 rfl
  simp only [szF] at v4
  have hms := (hm.2 5 (by omega)).1 p5
  have hof := ho.2.2 5 (by omega) p5
  have h12 : gN m 5 = 12 := hof.2.1 rfl
  rw [h12] at hms
  have hg2 : ∀ i, i < 12 → gS m 5 i < 100 := fun i hi => by have := hof.2.2.2 i (by omega); split at this <;> omega
  intro r
  induction r with
  | zero =>
    intro i l hi
    have hi : i = sN S 39 := by omega
    subst hi
    refine r_X12_keyed (fun n => n == 4 || n == 24 || n == 50) 60 ?_
    simp only [cd_X12_keyed, cf_X12_keyed, wp, wq, wpI, cdF, w_CI, w_CL, w_CN, w_LI, w_LL, w_LA, w_SI, w_SL, w_SA, w_INC, w_II, w_IId, w_LLb, w_LLd, w_LS, w_I1, w_L1, w_I2L, w_L2I, w_CMP, w_DUP, w_POP, w_DUP2, w_IF, w_IC, w_GO, w_NUL, w_ACN, prs, w_GF, w_PF, w_GS, w_IAL, w_LEN, w_LAL, w_ZAL, w_AAL, w_IAS, w_LAS, w_ZAS, w_AAS, w_RI, w_RL, w_RA, w_NEW, w_NA, w_MNA, w_OI, w_THR, w_CV, w_CS, w_CN9, w_CI9, w_MX, w_cont, lget, sto1, sto2, wideV, vo, vo_rv, isR, isR_rv, rv, fget, fput, cats, Value.category, List.headD_cons, List.getD_cons_zero, List.getD_cons_succ, List.drop_succ_cons, List.drop_zero, List.take_succ_cons, List.take_zero, List.reverse_cons, List.reverse_nil, List.nil_append, List.cons_append, List.length_cons, List.length_nil, cond_true, cond_false, and_true, true_and, Nat.zero_add, Nat.add_zero, Nat.reduceAdd, Nat.reduceLT, Nat.reduceLeDiff, Nat.reduceEqDiff, Nat.reduceBEq, Nat.reduceSub, ↓reduceIte, Int32.reduceOfNat, Int64.reduceOfNat, reduceCtorEq, Nat.le_refl, Nat.zero_le, Bool.false_eq_true, beq_self_eq_true, Fin.isValue, Fin.val_zero, Fin.val_one, Fin.reduceFinMk, Fin.val_two, Nat.reduceMod, Bool.or_false, Bool.or_true, Bool.true_or, Bool.false_or, not_true_eq_false, not_false_eq_true, true_or, or_true, implies_true, false_implies, true_implies, Int32.reduceLT, Int32.reduceLE, ↓w_TAB3, ↓w_TAB4, ↓w_TAB5, ↓w_TAB7, ↓w_TAB10, ↓w_LK2, ↓w_LK6, false_and, and_false, i1z, i2z, iz1, im0, im1, l0z, hasK_uI, hasK_uL, hasK_uR, hasK_uZ, hasK_sRow, mR_uI, mR_uL, mR_uZ, mR_sRow, mI_uL, mI_uR, mI_uZ, mL_uI, mL_uR, mL_uZ, mL_sRow, LF.hk hL, layF, LF.r hL, refF, ne_eq, not_false_eq_true, Option.some.injEq, Sum.inl.injEq, Sum.inr.injEq, Prod.mk.injEq, exists_eq_left, exists_eq_left', hn]
    exact ⟨fun _ => hQ, fun q => absurd (nI_le (Nat.le_refl _) (by omega)) q⟩
  | succ r ih =>
    intro i l hi
    have ti := nI_toInt (n := i) (by omega)
    have tN := nI_toInt (n := sN S 39) (by omega)
    have ci := nI_clamp (n := i) (by omega)
    have hpi := hP i (by omega)
    have hok := hj.2.2.2.1 i (by omega)
    obtain ⟨⟨b1, b2, b3, -⟩, -, c3, -⟩ := hok
    have hiff := fKy_iff (a := val m 4) (m := m) hj (show i < sN S 39 by omega)
    have hstep := fdC_s (F := fKy S (val m 4) m) (i := i) (by omega)
    generalize fKy S (val m 4) m = F at *
    have eA := nI_lI (n := qI (sP S i) 41) (by omega)
    have lA : (lI (qI (sP S i) 41 : Int) = lI (val m 4 : Int)) ↔ qI (sP S i) 41 = val m 4 := by rw [lI_eq (by unfold fL; omega) (by unfold fL; omega)]; omega
    have hv := vp_in_nI (n := i) (N := 61) (by omega) (by omega)
    have hrow : ∀ j, j < 12 → mI M 518 (12 * i + j) = nI (qR (sP S i) j) := hpi.2.2.2.2.2.2.2.2.2.2.2.2.2.2
    have e12 : (12 : Int32) * nI i = nI (12 * i) := nI_mul (a := 12) (by omega) (by omega) (by omega)
    have ih' := ih (i + 1)
    have hno : F ≠ i → Go G (MT 254) Q X 57 [some (.ref 495), some (.int (fdC F i)), some (.int (nI i)), l] [] M 0 0 := fun e => by
      rw [if_neg e] at hstep
      rw [← hstep] at ih'
      refine r_X12_keyed (fun n => n == 4 || n == 24 || n == 50) 60 ?_
      simp only [cd_X12_keyed, cf_X12_keyed, wp, wq, wpI, cdF, w_CI, w_CL, w_CN, w_LI, w_LL, w_LA, w_SI, w_SL, w_SA, w_INC, w_II, w_IId, w_LLb, w_LLd, w_LS, w_I1, w_L1, w_I2L, w_L2I, w_CMP, w_DUP, w_POP, w_DUP2, w_IF, w_IC, w_GO, w_NUL, w_ACN, prs, w_GF, w_PF, w_GS, w_IAL, w_LEN, w_LAL, w_ZAL, w_AAL, w_IAS, w_LAS, w_ZAS, w_AAS, w_RI, w_RL, w_RA, w_NEW, w_NA, w_MNA, w_OI, w_THR, w_CV, w_CS, w_CN9, w_CI9, w_MX, w_cont, lget, sto1, sto2, wideV, vo, vo_rv, isR, isR_rv, rv, fget, fput, cats, Value.category, List.headD_cons, List.getD_cons_zero, List.getD_cons_succ, List.drop_succ_cons, List.drop_zero, List.take_succ_cons, List.take_zero, List.reverse_cons, List.reverse_nil, List.nil_append, List.cons_append, List.length_cons, List.length_nil, cond_true, cond_false, and_true, true_and, Nat.zero_add, Nat.add_zero, Nat.reduceAdd, Nat.reduceLT, Nat.reduceLeDiff, Nat.reduceEqDiff, Nat.reduceBEq, Nat.reduceSub, ↓reduceIte, Int32.reduceOfNat, Int64.reduceOfNat, reduceCtorEq, Nat.le_refl, Nat.zero_le, Bool.false_eq_true, beq_self_eq_true, Fin.isValue, Fin.val_zero, Fin.val_one, Fin.reduceFinMk, Fin.val_two, Nat.reduceMod, Bool.or_false, Bool.or_true, Bool.true_or, Bool.false_or, not_true_eq_false, not_false_eq_true, true_or, or_true, implies_true, false_implies, true_implies, Int32.reduceLT, Int32.reduceLE, ↓w_TAB3, ↓w_TAB4, ↓w_TAB5, ↓w_TAB7, ↓w_TAB10, ↓w_LK2, ↓w_LK6, false_and, and_false, i1z, i2z, iz1, im0, im1, l0z, nI_1]
      exact ih' _ (by omega)
    have hyes : F = i → Go G (MT 254) Q X 53 [some (.ref 495), some (.int (fdC F i)), some (.int (nI i)), l] [] M 0 0 := fun e => by
      rw [if_pos e] at hstep
      rw [← hstep] at ih'
      refine r_X12_keyed (fun n => n == 4 || n == 24 || n == 50) 60 ?_
      simp only [cd_X12_keyed, cf_X12_keyed, wp, wq, wpI, cdF, w_CI, w_CL, w_CN, w_LI, w_LL, w_LA, w_SI, w_SL, w_SA, w_INC, w_II, w_IId, w_LLb, w_LLd, w_LS, w_I1, w_L1, w_I2L, w_L2I, w_CMP, w_DUP, w_POP, w_DUP2, w_IF, w_IC, w_GO, w_NUL, w_ACN, prs, w_GF, w_PF, w_GS, w_IAL, w_LEN, w_LAL, w_ZAL, w_AAL, w_IAS, w_LAS, w_ZAS, w_AAS, w_RI, w_RL, w_RA, w_NEW, w_NA, w_MNA, w_OI, w_THR, w_CV, w_CS, w_CN9, w_CI9, w_MX, w_cont, lget, sto1, sto2, wideV, vo, vo_rv, isR, isR_rv, rv, fget, fput, cats, Value.category, List.headD_cons, List.getD_cons_zero, List.getD_cons_succ, List.drop_succ_cons, List.drop_zero, List.take_succ_cons, List.take_zero, List.reverse_cons, List.reverse_nil, List.nil_append, List.cons_append, List.length_cons, List.length_nil, cond_true, cond_false, and_true, true_and, Nat.zero_add, Nat.add_zero, Nat.reduceAdd, Nat.reduceLT, Nat.reduceLeDiff, Nat.reduceEqDiff, Nat.reduceBEq, Nat.reduceSub, ↓reduceIte, Int32.reduceOfNat, Int64.reduceOfNat, reduceCtorEq, Nat.le_refl, Nat.zero_le, Bool.false_eq_true, beq_self_eq_true, Fin.isValue, Fin.val_zero, Fin.val_one, Fin.reduceFinMk, Fin.val_two, Nat.reduceMod, Bool.or_false, Bool.or_true, Bool.true_or, Bool.false_or, not_true_eq_false, not_false_eq_true, true_or, or_true, implies_true, false_implies, true_implies, Int32.reduceLT, Int32.reduceLE, ↓w_TAB3, ↓w_TAB4, ↓w_TAB5, ↓w_TAB7, ↓w_TAB10, ↓w_LK2, ↓w_LK6, false_and, and_false, i1z, i2z, iz1, im0, im1, l0z, nI_1, i1z]
      exact ih' _ (by omega)
    unfold keyB at hiff
    rw [Bool.and_eq_true, decide_eq_true_eq] at hiff
    refine r_X12_keyed (fun n => n == 4 || n == 53 || n == 57 || n == 24 || n == 50) 60 ?_
    simp only [cd_X12_keyed, cf_X12_keyed, wp, wq, wpI, cdF, w_CI, w_CL, w_CN, w_LI, w_LL, w_LA, w_SI, w_SL, w_SA, w_INC, w_II, w_IId, w_LLb, w_LLd, w_LS, w_I1, w_L1, w_I2L, w_L2I, w_CMP, w_DUP, w_POP, w_DUP2, w_IF, w_IC, w_GO, w_NUL, w_ACN, prs, w_GF, w_PF, w_GS, w_IAL, w_LEN, w_LAL, w_ZAL, w_AAL, w_IAS, w_LAS, w_ZAS, w_AAS, w_RI, w_RL, w_RA, w_NEW, w_NA, w_MNA, w_OI, w_THR, w_CV, w_CS, w_CN9, w_CI9, w_MX, w_cont, lget, sto1, sto2, wideV, vo, vo_rv, isR, isR_rv, rv, fget, fput, cats, Value.category, List.headD_cons, List.getD_cons_zero, List.getD_cons_succ, List.drop_succ_cons, List.drop_zero, List.take_succ_cons, List.take_zero, List.reverse_cons, List.reverse_nil, List.nil_append, List.cons_append, List.length_cons, List.length_nil, cond_true, cond_false, and_true, true_and, Nat.zero_add, Nat.add_zero, Nat.reduceAdd, Nat.reduceLT, Nat.reduceLeDiff, Nat.reduceEqDiff, Nat.reduceBEq, Nat.reduceSub, ↓reduceIte, Int32.reduceOfNat, Int64.reduceOfNat, reduceCtorEq, Nat.le_refl, Nat.zero_le, Bool.false_eq_true, beq_self_eq_true, Fin.isValue, Fin.val_zero, Fin.val_one, Fin.reduceFinMk, Fin.val_two, Nat.reduceMod, Bool.or_false, Bool.or_true, Bool.true_or, Bool.false_or, not_true_eq_false, not_false_eq_true, true_or, or_true, implies_true, false_implies, true_implies, Int32.reduceLT, Int32.reduceLE, ↓w_TAB3, ↓w_TAB4, ↓w_TAB5, ↓w_TAB7, ↓w_TAB10, ↓w_LK2, ↓w_LK6, false_and, and_false, i1z, i2z, iz1, im0, im1, l0z, hasK_uI, hasK_uL, hasK_uR, hasK_uZ, hasK_sRow, mR_uI, mR_uL, mR_uZ, mR_sRow, mI_uL, mI_uR, mI_uZ, mL_uI, mL_uR, mL_uZ, mL_sRow, LF.hk hL, layF, LF.r hL, refF, ne_eq, not_false_eq_true, Option.some.injEq, Sum.inl.injEq, Sum.inr.injEq, Prod.mk.injEq, exists_eq_left, exists_eq_left', hn, ci, hpi.2.1, eA]
    refine and_ii (fun q => ?_) (fun _ => ⟨hv, ?_⟩)
    · exfalso; (simp only [i_lt, i_le, i_eq, l_lt, l_le, l_eq, Int32.toInt_toInt64, Int32.reduceToInt, Int64.reduceToInt, ne_eq, Classical.not_not] at *; omega)
    refine m_numOf (s := 4) hL hm ho (by omega) p4 (by decide) rfl ⟨_, rfl, ?_⟩
    refine r_X12_keyed (fun n => n == 4 || n == 53 || n == 57 || n == 24 || n == 50) 60 ?_
    simp only [cd_X12_keyed, cf_X12_keyed, wp, wq, wpI, cdF, w_CI, w_CL, w_CN, w_LI, w_LL, w_LA, w_SI, w_SL, w_SA, w_INC, w_II, w_IId, w_LLb, w_LLd, w_LS, w_I1, w_L1, w_I2L, w_L2I, w_CMP, w_DUP, w_POP, w_DUP2, w_IF, w_IC, w_GO, w_NUL, w_ACN, prs, w_GF, w_PF, w_GS, w_IAL, w_LEN, w_LAL, w_ZAL, w_AAL, w_IAS, w_LAS, w_ZAS, w_AAS, w_RI, w_RL, w_RA, w_NEW, w_NA, w_MNA, w_OI, w_THR, w_CV, w_CS, w_CN9, w_CI9, w_MX, w_cont, lget, sto1, sto2, wideV, vo, vo_rv, isR, isR_rv, rv, fget, fput, cats, Value.category, List.headD_cons, List.getD_cons_zero, List.getD_cons_succ, List.drop_succ_cons, List.drop_zero, List.take_succ_cons, List.take_zero, List.reverse_cons, List.reverse_nil, List.nil_append, List.cons_append, List.length_cons, List.length_nil, cond_true, cond_false, and_true, true_and, Nat.zero_add, Nat.add_zero, Nat.reduceAdd, Nat.reduceLT, Nat.reduceLeDiff, Nat.reduceEqDiff, Nat.reduceBEq, Nat.reduceSub, ↓reduceIte, Int32.reduceOfNat, Int64.reduceOfNat, reduceCtorEq, Nat.le_refl, Nat.zero_le, Bool.false_eq_true, beq_self_eq_true, Fin.isValue, Fin.val_zero, Fin.val_one, Fin.reduceFinMk, Fin.val_two, Nat.reduceMod, Bool.or_false, Bool.or_true, Bool.true_or, Bool.false_or, not_true_eq_false, not_false_eq_true, true_or, or_true, implies_true, false_implies, true_implies, Int32.reduceLT, Int32.reduceLE, ↓w_TAB3, ↓w_TAB4, ↓w_TAB5, ↓w_TAB7, ↓w_TAB10, ↓w_LK2, ↓w_LK6, false_and, and_false, i1z, i2z, iz1, im0, im1, l0z, hasK_uI, hasK_uL, hasK_uR, hasK_uZ, hasK_sRow, mR_uI, mR_uL, mR_uZ, mR_sRow, mI_uL, mI_uR, mI_uZ, mL_uI, mL_uR, mL_uZ, mL_sRow, LF.hk hL, layF, LF.r hL, refF, ne_eq, not_false_eq_true, Option.some.injEq, Sum.inl.injEq, Sum.inr.injEq, Prod.mk.injEq, exists_eq_left, exists_eq_left', cmp_eq, e12]
    refine and_ii (fun q => hno (fun e => q (lA.mpr (hiff.mp e).1))) (fun q1 => ?_)
    have q1 := lA.mp (Classical.not_not.mp q1)
    refine m_same (a := 518) (b := 541) (p := 12 * i) (n := 12) (q := 210) (n' := 12) (g := qR (sP S i)) (h := gS m 5) (N := 732) (N' := 672) (by rw [hL.hk]; rfl) (by rw [hL.hk]; rfl) (by omega) (fun _ => by omega) (by omega) hrow (fun _ => hms.2) (fun _ j hj' => ⟨by have := c3 j hj'; omega, hg2 j hj'⟩) rfl rfl rfl rfl ⟨_, rfl, ?_⟩
    by_cases q2 : eqN (qR (sP S i)) (gS m 5) 12 = true
    · rw [b2i_t ⟨rfl, q2⟩]
      refine r_X12_keyed (fun n => n == 4 || n == 53 || n == 57 || n == 24 || n == 50) 60 ?_
      simp only [cd_X12_keyed, cf_X12_keyed, wp, wq, wpI, cdF, w_CI, w_CL, w_CN, w_LI, w_LL, w_LA, w_SI, w_SL, w_SA, w_INC, w_II, w_IId, w_LLb, w_LLd, w_LS, w_I1, w_L1, w_I2L, w_L2I, w_CMP, w_DUP, w_POP, w_DUP2, w_IF, w_IC, w_GO, w_NUL, w_ACN, prs, w_GF, w_PF, w_GS, w_IAL, w_LEN, w_LAL, w_ZAL, w_AAL, w_IAS, w_LAS, w_ZAS, w_AAS, w_RI, w_RL, w_RA, w_NEW, w_NA, w_MNA, w_OI, w_THR, w_CV, w_CS, w_CN9, w_CI9, w_MX, w_cont, lget, sto1, sto2, wideV, vo, vo_rv, isR, isR_rv, rv, fget, fput, cats, Value.category, List.headD_cons, List.getD_cons_zero, List.getD_cons_succ, List.drop_succ_cons, List.drop_zero, List.take_succ_cons, List.take_zero, List.reverse_cons, List.reverse_nil, List.nil_append, List.cons_append, List.length_cons, List.length_nil, cond_true, cond_false, and_true, true_and, Nat.zero_add, Nat.add_zero, Nat.reduceAdd, Nat.reduceLT, Nat.reduceLeDiff, Nat.reduceEqDiff, Nat.reduceBEq, Nat.reduceSub, ↓reduceIte, Int32.reduceOfNat, Int64.reduceOfNat, reduceCtorEq, Nat.le_refl, Nat.zero_le, Bool.false_eq_true, beq_self_eq_true, Fin.isValue, Fin.val_zero, Fin.val_one, Fin.reduceFinMk, Fin.val_two, Nat.reduceMod, Bool.or_false, Bool.or_true, Bool.true_or, Bool.false_or, not_true_eq_false, not_false_eq_true, true_or, or_true, implies_true, false_implies, true_implies, Int32.reduceLT, Int32.reduceLE, ↓w_TAB3, ↓w_TAB4, ↓w_TAB5, ↓w_TAB7, ↓w_TAB10, ↓w_LK2, ↓w_LK6, false_and, and_false, i1z, i2z, iz1, im0, im1, l0z, i1z]
      exact hyes (hiff.mpr ⟨q1, q2⟩)
    · rw [b2i_f (fun e => q2 e.2)]
      refine r_X12_keyed (fun n => n == 4 || n == 53 || n == 57 || n == 24 || n == 50) 60 ?_
      simp only [cd_X12_keyed, cf_X12_keyed, wp, wq, wpI, cdF, w_CI, w_CL, w_CN, w_LI, w_LL, w_LA, w_SI, w_SL, w_SA, w_INC, w_II, w_IId, w_LLb, w_LLd, w_LS, w_I1, w_L1, w_I2L, w_L2I, w_CMP, w_DUP, w_POP, w_DUP2, w_IF, w_IC, w_GO, w_NUL, w_ACN, prs, w_GF, w_PF, w_GS, w_IAL, w_LEN, w_LAL, w_ZAL, w_AAL, w_IAS, w_LAS, w_ZAS, w_AAS, w_RI, w_RL, w_RA, w_NEW, w_NA, w_MNA, w_OI, w_THR, w_CV, w_CS, w_CN9, w_CI9, w_MX, w_cont, lget, sto1, sto2, wideV, vo, vo_rv, isR, isR_rv, rv, fget, fput, cats, Value.category, List.headD_cons, List.getD_cons_zero, List.getD_cons_succ, List.drop_succ_cons, List.drop_zero, List.take_succ_cons, List.take_zero, List.reverse_cons, List.reverse_nil, List.nil_append, List.cons_append, List.length_cons, List.length_nil, cond_true, cond_false, and_true, true_and, Nat.zero_add, Nat.add_zero, Nat.reduceAdd, Nat.reduceLT, Nat.reduceLeDiff, Nat.reduceEqDiff, Nat.reduceBEq, Nat.reduceSub, ↓reduceIte, Int32.reduceOfNat, Int64.reduceOfNat, reduceCtorEq, Nat.le_refl, Nat.zero_le, Bool.false_eq_true, beq_self_eq_true, Fin.isValue, Fin.val_zero, Fin.val_one, Fin.reduceFinMk, Fin.val_two, Nat.reduceMod, Bool.or_false, Bool.or_true, Bool.true_or, Bool.false_or, not_true_eq_false, not_false_eq_true, true_or, or_true, implies_true, false_implies, true_implies, Int32.reduceLT, Int32.reduceLE, ↓w_TAB3, ↓w_TAB4, ↓w_TAB5, ↓w_TAB7, ↓w_TAB10, ↓w_LK2, ↓w_LK6, false_and, and_false, i1z, i2z, iz1, im0, im1, l0z, eq_self]
      exact hno (fun e => q2 (hiff.mp e).2)
theorem m_keyed (hR : RM S M) (hj : Jv t S) (hm : msgM M 67 542 541 m) (ho : okM m) (p5 : pb (gH m) 5 = 1) (p4 : pb (gH m) 4 = 1) (hQ : Q (some (.int (fdC (fKy S (val m 4) m) (sN S 39)))) M) : Ct G (MT 254) [.ref 495] M Q X := by
  refine Ct.go (L0 := [some (.ref 495), none, none, none]) (by decide +kernel) rfl rfl ?_
  refine r_X12_keyed (fun n => n == 4 || n == 24 || n == 50) 60 ?_
  simp only [cd_X12_keyed, cf_X12_keyed, wp, wq, wpI, cdF, w_CI, w_CL, w_CN, w_LI, w_LL, w_LA, w_SI, w_SL, w_SA, w_INC, w_II, w_IId, w_LLb, w_LLd, w_LS, w_I1, w_L1, w_I2L, w_L2I, w_CMP, w_DUP, w_POP, w_DUP2, w_IF, w_IC, w_GO, w_NUL, w_ACN, prs, w_GF, w_PF, w_GS, w_IAL, w_LEN, w_LAL, w_ZAL, w_AAL, w_IAS, w_LAS, w_ZAS, w_AAS, w_RI, w_RL, w_RA, w_NEW, w_NA, w_MNA, w_OI, w_THR, w_CV, w_CS, w_CN9, w_CI9, w_MX, w_cont, lget, sto1, sto2, wideV, vo, vo_rv, isR, isR_rv, rv, fget, fput, cats, Value.category, List.headD_cons, List.getD_cons_zero, List.getD_cons_succ, List.drop_succ_cons, List.drop_zero, List.take_succ_cons, List.take_zero, List.reverse_cons, List.reverse_nil, List.nil_append, List.cons_append, List.length_cons, List.length_nil, cond_true, cond_false, and_true, true_and, Nat.zero_add, Nat.add_zero, Nat.reduceAdd, Nat.reduceLT, Nat.reduceLeDiff, Nat.reduceEqDiff, Nat.reduceBEq, Nat.reduceSub, ↓reduceIte, Int32.reduceOfNat, Int64.reduceOfNat, reduceCtorEq, Nat.le_refl, Nat.zero_le, Bool.false_eq_true, beq_self_eq_true, Fin.isValue, Fin.val_zero, Fin.val_one, Fin.reduceFinMk, Fin.val_two, Nat.reduceMod, Bool.or_false, Bool.or_true, Bool.true_or, Bool.false_or, not_true_eq_false, not_false_eq_true, true_or, or_true, implies_true, false_implies, true_implies, Int32.reduceLT, Int32.reduceLE, ↓w_TAB3, ↓w_TAB4, ↓w_TAB5, ↓w_TAB7, ↓w_TAB10, ↓w_LK2, ↓w_LK6, false_and, and_false, i1z, i2z, iz1, im0, im1, l0z]
  have := lp_keyed (G := G) (X := X) hR hj hm ho p5 p4 hQ (sN S 39) 0 none (by omega)
  rw [show fdC (fKy S (val m 4) m) 0 = -1 from if_neg (by omega)] at this
  exact this
theorem m_isCardP (hR : RM S M) (hj : Jv t S) (hm : msgM M 67 542 541 m) (ho : okM m) (p0 : pb (gH m) 0 = 1) (hi : i < sN S 39) (hx : x = nI i) (hQ : Q (some (.int (b2i (isCd (sP S i) m = true)))) M) : Ct G (MT 255) [.ref 495, .int x] M Q X := by
  subst hx
  obtain ⟨hL, hN, hI, hLl, hA, hC, hP, hRr, hD, hT, hZ, hK⟩ := id hR
  have hs := hj.1
  have hn := hN
  unfold mNn at hn
  unfold jS at hs
  have hpi := hP i hi
  have hok := hj.2.2.2.1 i hi
  obtain ⟨⟨b1, b2, b3, b4, b5, b6, -⟩, c2, -⟩ := hok
  have hms := (hm.2 0 (by omega)).1 p0
  have hof := ho.2.2 0 (by omega) p0
  have h19 : gN m 0 ≤ 19 := hof.1
  have hg2 : ∀ i, i < gN m 0 → gS m 0 i < 100 := fun i hi => by have := hof.2.2.2 i hi; split at this <;> omega
  have ci := nI_clamp (n := i) (by omega)
  have e19 : (19 : Int32) * nI i = nI (19 * i) := nI_mul (a := 19) (by omega) (by omega) (by omega)
  have z0 : (0 : Int32).toNatClampNeg = 0 := rfl
  have hrow : ∀ j, j < qI (sP S i) 44 → mI M 519 (19 * i + j) = nI (qC (sP S i) j) := hpi.2.2.2.2.2.2.2.2.2.2.2.2.2.1
  refine Ct.go (L0 := [some (.ref 495), some (.int (nI i))]) (by decide +kernel) rfl rfl ?_
  refine r_X12_isCard (fun n => n == 28) 60 ?_
  simp only [cd_X12_isCard, cf_X12_isCard, wp, wq, wpI, cdF, w_CI, w_CL, w_CN, w_LI, w_LL, w_LA, w_SI, w_SL, w_SA, w_INC, w_II, w_IId, w_LLb, w_LLd, w_LS, w_I1, w_L1, w_I2L, w_L2I, w_CMP, w_DUP, w_POP, w_DUP2, w_IF, w_IC, w_GO, w_NUL, w_ACN, prs, w_GF, w_PF, w_GS, w_IAL, w_LEN, w_LAL, w_ZAL, w_AAL, w_IAS, w_LAS, w_ZAS, w_AAS, w_RI, w_RL, w_RA, w_NEW, w_NA, w_MNA, w_OI, w_THR, w_CV, w_CS, w_CN9, w_CI9, w_MX, w_cont, lget, sto1, sto2, wideV, vo, vo_rv, isR, isR_rv, rv, fget, fput, cats, Value.category, List.headD_cons, List.getD_cons_zero, List.getD_cons_succ, List.drop_succ_cons, List.drop_zero, List.take_succ_cons, List.take_zero, List.reverse_cons, List.reverse_nil, List.nil_append, List.cons_append, List.length_cons, List.length_nil, cond_true, cond_false, and_true, true_and, Nat.zero_add, Nat.add_zero, Nat.reduceAdd, Nat.reduceLT, Nat.reduceLeDiff, Nat.reduceEqDiff, Nat.reduceBEq, Nat.reduceSub, ↓reduceIte, Int32.reduceOfNat, Int64.reduceOfNat, reduceCtorEq, Nat.le_refl, Nat.zero_le, Bool.false_eq_true, beq_self_eq_true, Fin.isValue, Fin.val_zero, Fin.val_one, Fin.reduceFinMk, Fin.val_two, Nat.reduceMod, Bool.or_false, Bool.or_true, Bool.true_or, Bool.false_or, not_true_eq_false, not_false_eq_true, true_or, or_true, implies_true, false_implies, true_implies, Int32.reduceLT, Int32.reduceLE, ↓w_TAB3, ↓w_TAB4, ↓w_TAB5, ↓w_TAB7, ↓w_TAB10, ↓w_LK2, ↓w_LK6, false_and, and_false, i1z, i2z, iz1, im0, im1, l0z, hasK_uI, hasK_uL, hasK_uR, hasK_uZ, hasK_sRow, mR_uI, mR_uL, mR_uZ, mR_sRow, mI_uL, mI_uR, mI_uZ, mL_uI, mL_uR, mL_uZ, mL_sRow, LF.hk hL, layF, LF.r hL, refF, ne_eq, not_false_eq_true, Option.some.injEq, Sum.inl.injEq, Sum.inr.injEq, Prod.mk.injEq, exists_eq_left, exists_eq_left', ci, e19, hpi.2.2.2.1, z0, hms.1]
  refine ⟨vp_in_nI (by omega) (by omega), vp_in_i (by simp), ?_⟩
  refine m_same (a := 519) (b := 541) (p := 19 * i) (n := qI (sP S i) 44) (q := 0) (n' := gN m 0) (g := qC (sP S i)) (h := gS m 0) (N := 1159) (N' := 672) (by rw [hL.hk]; rfl) (by rw [hL.hk]; rfl) (by omega) (fun _ => by omega) (by omega) hrow (fun e j hj' => by rw [Nat.zero_add]; have := hms.2 j (by omega); simpa using this) (fun e j hj' => ⟨by have := c2 j hj'; omega, hg2 j (by omega)⟩) rfl rfl rfl rfl ⟨_, rfl, ?_⟩
  refine r_X12_isCard (fun n => n == 28) 60 ?_
  simp only [cd_X12_isCard, cf_X12_isCard, wp, wq, wpI, cdF, w_CI, w_CL, w_CN, w_LI, w_LL, w_LA, w_SI, w_SL, w_SA, w_INC, w_II, w_IId, w_LLb, w_LLd, w_LS, w_I1, w_L1, w_I2L, w_L2I, w_CMP, w_DUP, w_POP, w_DUP2, w_IF, w_IC, w_GO, w_NUL, w_ACN, prs, w_GF, w_PF, w_GS, w_IAL, w_LEN, w_LAL, w_ZAL, w_AAL, w_IAS, w_LAS, w_ZAS, w_AAS, w_RI, w_RL, w_RA, w_NEW, w_NA, w_MNA, w_OI, w_THR, w_CV, w_CS, w_CN9, w_CI9, w_MX, w_cont, lget, sto1, sto2, wideV, vo, vo_rv, isR, isR_rv, rv, fget, fput, cats, Value.category, List.headD_cons, List.getD_cons_zero, List.getD_cons_succ, List.drop_succ_cons, List.drop_zero, List.take_succ_cons, List.take_zero, List.reverse_cons, List.reverse_nil, List.nil_append, List.cons_append, List.length_cons, List.length_nil, cond_true, cond_false, and_true, true_and, Nat.zero_add, Nat.add_zero, Nat.reduceAdd, Nat.reduceLT, Nat.reduceLeDiff, Nat.reduceEqDiff, Nat.reduceBEq, Nat.reduceSub, ↓reduceIte, Int32.reduceOfNat, Int64.reduceOfNat, reduceCtorEq, Nat.le_refl, Nat.zero_le, Bool.false_eq_true, beq_self_eq_true, Fin.isValue, Fin.val_zero, Fin.val_one, Fin.reduceFinMk, Fin.val_two, Nat.reduceMod, Bool.or_false, Bool.or_true, Bool.true_or, Bool.false_or, not_true_eq_false, not_false_eq_true, true_or, or_true, implies_true, false_implies, true_implies, Int32.reduceLT, Int32.reduceLE, ↓w_TAB3, ↓w_TAB4, ↓w_TAB5, ↓w_TAB7, ↓w_TAB10, ↓w_LK2, ↓w_LK6, false_and, and_false, i1z, i2z, iz1, im0, im1, l0z]
  have e : (qI (sP S i) 44 = gN m 0 ∧ eqN (qC (sP S i)) (gS m 0) (qI (sP S i) 44) = true) ↔ isCd (sP S i) m = true := by
    unfold isCd
    rw [Bool.and_eq_true, decide_eq_true_eq]
    exact ⟨fun h => ⟨h.1, by rw [← h.1]; exact h.2⟩, fun h => ⟨h.1, by rw [h.1]; exact h.2⟩⟩
  by_cases q : isCd (sP S i) m = true
  · rw [b2i_t q] at hQ
    rw [b2i_t (e.mpr q)]
    exact ⟨Or.inr rfl, hQ⟩
  · rw [b2i_f q] at hQ
    rw [b2i_f (fun h => q (e.mp h))]
    exact ⟨Or.inl rfl, hQ⟩
end KY
