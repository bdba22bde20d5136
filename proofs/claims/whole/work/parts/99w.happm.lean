/-! WHAT HAPPENS: the reference -/
section HPM
variable {G : En} {M M0 Mz M' : Mem} {Q : Option Value → Mem → Prop} {X : String → Mem → Prop} {S : Sw} {t a b j k v i np T A s n d N r rs : Nat} {x y : Int32} {z : Int64} {m mx : Msg} {g : Nat → Nat} {ar : Ar} {arc : Nat → Ar} {an xs : List Nat} {p : Py} {n' : Nat → Nat}
set_option maxRecDepth 20000 in
theorem m_happens (h : DN S m mx M0 M) (hx : okE mx) (hj : Jv t S) (ho : okM m) (hy : gT m ∈ tys) (hw : isWh m = true) (h8 : gT m ≠ 800) (ha : val m 4 < sN S 17) (hQ : ∀ M', DN (hpn S (val m 4) m).2.2 m ((hpn S (val m 4) m).2.1 mx) M0 M' → Q (some (.int (nI (hpn S (val m 4) m).1))) M') : Ct G (MT 249) [.ref 495] M Q X := by
  have hL := h.1.1
  have hty := ho.1
  have ht : t ≤ 64 := by have := hj.1; unfold jS at this; omega
  have i100 : ((100 : Int32) = 0) = False := eq_false (by decide)
  have e100 : nI (gT m) / 100 = nI (gT m / 100) := nI_div (b := 100) (by omega) (by omega) (by omega)
  have t100 := nI_toInt (n := gT m / 100) (by omega)
  have hpb := fun s hs => wh_pb (k := s) hw hy hs
  have hm : gT m = 100 ∨ gT m = 101 ∨ gT m = 110 ∨ gT m = 220 ∨ gT m = 221 ∨ gT m = 230 ∨ gT m = 400 ∨ gT m = 401 ∨ gT m = 410 ∨ gT m = 420 ∨ gT m = 421 ∨ gT m = 430 ∨ gT m = 500 ∨ gT m = 501 ∨ gT m = 510 ∨ gT m = 800 ∨ gT m = 810 := by
    unfold tys at hy
    simpa only [List.mem_cons, List.not_mem_nil, or_false] using hy
  have hw2 := hw
  unfold isWh at hw2
  rw [decide_eq_true_eq] at hw2
  have n410 : gT m ≠ 410 ∧ gT m ≠ 430 ∧ gT m ≠ 810 := by
    refine ⟨fun e => ?_, fun e => ?_, fun e => ?_⟩ <;> (rw [e] at hw2; simp at hw2)
  unfold hpn at hQ
  refine Ct.go (L0 := [some (.ref 495), none]) (by decide +kernel) rfl rfl ?_
  have h67 := h.2.1.1
  refine r_X12_happens (fun n => n == 13 || n == 20 || n == 17 || n == 29 || n == 41 || n == 48) 60 ?_
  simp only [cd_X12_happens, cf_X12_happens, wp, wq, wpI, cdF, w_CI, w_CL, w_CN, w_LI, w_LL, w_LA, w_SI, w_SL, w_SA, w_INC, w_II, w_IId, w_LLb, w_LLd, w_LS, w_I1, w_L1, w_I2L, w_L2I, w_CMP, w_DUP, w_POP, w_DUP2, w_IF, w_IC, w_GO, w_NUL, w_ACN, prs, w_GF, w_PF, w_GS, w_IAL, w_LEN, w_LAL, w_ZAL, w_AAL, w_IAS, w_LAS, w_ZAS, w_AAS, w_RI, w_RL, w_RA, w_NEW, w_NA, w_MNA, w_OI, w_THR, w_CV, w_CS, w_CN9, w_CI9, w_MX, w_cont, lget, sto1, sto2, wideV, vo, vo_rv, isR, isR_rv, rv, fget, fput, cats, Value.category, List.headD_cons, List.getD_cons_zero, List.getD_cons_succ, List.drop_succ_cons, List.drop_zero, List.take_succ_cons, List.take_zero, List.reverse_cons, List.reverse_nil, List.nil_append, List.cons_append, List.length_cons, List.length_nil, cond_true, cond_false, and_true, true_and, Nat.zero_add, Nat.add_zero, Nat.reduceAdd, Nat.reduceLT, Nat.reduceLeDiff, Nat.reduceEqDiff, Nat.reduceBEq, Nat.reduceSub, ↓reduceIte, Int32.reduceOfNat, Int64.reduceOfNat, reduceCtorEq, Nat.le_refl, Nat.zero_le, Bool.false_eq_true, beq_self_eq_true, Fin.isValue, Fin.val_zero, Fin.val_one, Fin.reduceFinMk, Fin.val_two, Nat.reduceMod, Bool.or_false, Bool.or_true, Bool.true_or, Bool.false_or, not_true_eq_false, not_false_eq_true, true_or, or_true, implies_true, false_implies, true_implies, Int32.reduceLT, Int32.reduceLE, ↓w_TAB3, ↓w_TAB4, ↓w_TAB5, ↓w_TAB7, ↓w_TAB10, ↓w_LK2, ↓w_LK6, false_and, and_false, i1z, i2z, iz1, im0, im1, l0z, hasK_uI, hasK_uL, hasK_uR, hasK_uZ, hasK_sRow, mR_uI, mR_uL, mR_uZ, mR_sRow, mI_uL, mI_uR, mI_uZ, mL_uI, mL_uR, mL_uZ, mL_sRow, LF.hk hL, layF, LF.r hL, refF, ne_eq, not_false_eq_true, Option.some.injEq, Sum.inl.injEq, Sum.inr.injEq, Prod.mk.injEq, exists_eq_left, exists_eq_left', h67, i100, e100]
  refine and_ii (fun q1 => ?_) (fun q1 => ?_)
  rotate_left
  · have e : gT m / 100 = 1 := by (simp only [i_lt, i_le, i_eq, l_lt, l_le, l_eq, Int32.toInt_toInt64, Int32.reduceToInt, Int64.reduceToInt, ne_eq, Classical.not_not] at *; omega)
    rw [if_pos e] at hQ
    refine r_X12_happens (fun n => n == 17 || n == 29 || n == 41 || n == 48) 60 ?_
    simp only [cd_X12_happens, cf_X12_happens, wp, wq, wpI, cdF, w_CI, w_CL, w_CN, w_LI, w_LL, w_LA, w_SI, w_SL, w_SA, w_INC, w_II, w_IId, w_LLb, w_LLd, w_LS, w_I1, w_L1, w_I2L, w_L2I, w_CMP, w_DUP, w_POP, w_DUP2, w_IF, w_IC, w_GO, w_NUL, w_ACN, prs, w_GF, w_PF, w_GS, w_IAL, w_LEN, w_LAL, w_ZAL, w_AAL, w_IAS, w_LAS, w_ZAS, w_AAS, w_RI, w_RL, w_RA, w_NEW, w_NA, w_MNA, w_OI, w_THR, w_CV, w_CS, w_CN9, w_CI9, w_MX, w_cont, lget, sto1, sto2, wideV, vo, vo_rv, isR, isR_rv, rv, fget, fput, cats, Value.category, List.headD_cons, List.getD_cons_zero, List.getD_cons_succ, List.drop_succ_cons, List.drop_zero, List.take_succ_cons, List.take_zero, List.reverse_cons, List.reverse_nil, List.nil_append, List.cons_append, List.length_cons, List.length_nil, cond_true, cond_false, and_true, true_and, Nat.zero_add, Nat.add_zero, Nat.reduceAdd, Nat.reduceLT, Nat.reduceLeDiff, Nat.reduceEqDiff, Nat.reduceBEq, Nat.reduceSub, ↓reduceIte, Int32.reduceOfNat, Int64.reduceOfNat, reduceCtorEq, Nat.le_refl, Nat.zero_le, Bool.false_eq_true, beq_self_eq_true, Fin.isValue, Fin.val_zero, Fin.val_one, Fin.reduceFinMk, Fin.val_two, Nat.reduceMod, Bool.or_false, Bool.or_true, Bool.true_or, Bool.false_or, not_true_eq_false, not_false_eq_true, true_or, or_true, implies_true, false_implies, true_implies, Int32.reduceLT, Int32.reduceLE, ↓w_TAB3, ↓w_TAB4, ↓w_TAB5, ↓w_TAB7, ↓w_TAB10, ↓w_LK2, ↓w_LK6, false_and, and_false, i1z, i2z, iz1, im0, im1, l0z, hasK_uI, hasK_uL, hasK_uR, hasK_uZ, hasK_sRow, mR_uI, mR_uL, mR_uZ, mR_sRow, mI_uL, mI_uR, mI_uZ, mL_uI, mL_uR, mL_uZ, mL_sRow, LF.hk hL, layF, LF.r hL, refF, ne_eq, not_false_eq_true, Option.some.injEq, Sum.inl.injEq, Sum.inr.injEq, Prod.mk.injEq, exists_eq_left, exists_eq_left']
    refine m_approve h hx hj ht ho (fun s hs hp => (hpb s hs).1 e hp) ha (fun M' d => ⟨_, rfl, ?_⟩)
    refine r_X12_happens (fun n => n == 17 || n == 29 || n == 41 || n == 48) 60 ?_
    simp only [cd_X12_happens, cf_X12_happens, wp, wq, wpI, cdF, w_CI, w_CL, w_CN, w_LI, w_LL, w_LA, w_SI, w_SL, w_SA, w_INC, w_II, w_IId, w_LLb, w_LLd, w_LS, w_I1, w_L1, w_I2L, w_L2I, w_CMP, w_DUP, w_POP, w_DUP2, w_IF, w_IC, w_GO, w_NUL, w_ACN, prs, w_GF, w_PF, w_GS, w_IAL, w_LEN, w_LAL, w_ZAL, w_AAL, w_IAS, w_LAS, w_ZAS, w_AAS, w_RI, w_RL, w_RA, w_NEW, w_NA, w_MNA, w_OI, w_THR, w_CV, w_CS, w_CN9, w_CI9, w_MX, w_cont, lget, sto1, sto2, wideV, vo, vo_rv, isR, isR_rv, rv, fget, fput, cats, Value.category, List.headD_cons, List.getD_cons_zero, List.getD_cons_succ, List.drop_succ_cons, List.drop_zero, List.take_succ_cons, List.take_zero, List.reverse_cons, List.reverse_nil, List.nil_append, List.cons_append, List.length_cons, List.length_nil, cond_true, cond_false, and_true, true_and, Nat.zero_add, Nat.add_zero, Nat.reduceAdd, Nat.reduceLT, Nat.reduceLeDiff, Nat.reduceEqDiff, Nat.reduceBEq, Nat.reduceSub, ↓reduceIte, Int32.reduceOfNat, Int64.reduceOfNat, reduceCtorEq, Nat.le_refl, Nat.zero_le, Bool.false_eq_true, beq_self_eq_true, Fin.isValue, Fin.val_zero, Fin.val_one, Fin.reduceFinMk, Fin.val_two, Nat.reduceMod, Bool.or_false, Bool.or_true, Bool.true_or, Bool.false_or, not_true_eq_false, not_false_eq_true, true_or, or_true, implies_true, false_implies, true_implies, Int32.reduceLT, Int32.reduceLE, ↓w_TAB3, ↓w_TAB4, ↓w_TAB5, ↓w_TAB7, ↓w_TAB10, ↓w_LK2, ↓w_LK6, false_and, and_false, i1z, i2z, iz1, im0, im1, l0z]
    refine r_X12_happens (fun n => n == 17 || n == 29 || n == 41 || n == 48) 60 ?_
    simp only [cd_X12_happens, cf_X12_happens, wp, wq, wpI, cdF, w_CI, w_CL, w_CN, w_LI, w_LL, w_LA, w_SI, w_SL, w_SA, w_INC, w_II, w_IId, w_LLb, w_LLd, w_LS, w_I1, w_L1, w_I2L, w_L2I, w_CMP, w_DUP, w_POP, w_DUP2, w_IF, w_IC, w_GO, w_NUL, w_ACN, prs, w_GF, w_PF, w_GS, w_IAL, w_LEN, w_LAL, w_ZAL, w_AAL, w_IAS, w_LAS, w_ZAS, w_AAS, w_RI, w_RL, w_RA, w_NEW, w_NA, w_MNA, w_OI, w_THR, w_CV, w_CS, w_CN9, w_CI9, w_MX, w_cont, lget, sto1, sto2, wideV, vo, vo_rv, isR, isR_rv, rv, fget, fput, cats, Value.category, List.headD_cons, List.getD_cons_zero, List.getD_cons_succ, List.drop_succ_cons, List.drop_zero, List.take_succ_cons, List.take_zero, List.reverse_cons, List.reverse_nil, List.nil_append, List.cons_append, List.length_cons, List.length_nil, cond_true, cond_false, and_true, true_and, Nat.zero_add, Nat.add_zero, Nat.reduceAdd, Nat.reduceLT, Nat.reduceLeDiff, Nat.reduceEqDiff, Nat.reduceBEq, Nat.reduceSub, ↓reduceIte, Int32.reduceOfNat, Int64.reduceOfNat, reduceCtorEq, Nat.le_refl, Nat.zero_le, Bool.false_eq_true, beq_self_eq_true, Fin.isValue, Fin.val_zero, Fin.val_one, Fin.reduceFinMk, Fin.val_two, Nat.reduceMod, Bool.or_false, Bool.or_true, Bool.true_or, Bool.false_or, not_true_eq_false, not_false_eq_true, true_or, or_true, implies_true, false_implies, true_implies, Int32.reduceLT, Int32.reduceLE, ↓w_TAB3, ↓w_TAB4, ↓w_TAB5, ↓w_TAB7, ↓w_TAB10, ↓w_LK2, ↓w_LK6, false_and, and_false, i1z, i2z, iz1, im0, im1, l0z]
    exact hQ M' d
  refine r_X12_happens (fun n => n == 25 || n == 32 || n == 17 || n == 29 || n == 41 || n == 48) 60 ?_
  simp only [cd_X12_happens, cf_X12_happens, wp, wq, wpI, cdF, w_CI, w_CL, w_CN, w_LI, w_LL, w_LA, w_SI, w_SL, w_SA, w_INC, w_II, w_IId, w_LLb, w_LLd, w_LS, w_I1, w_L1, w_I2L, w_L2I, w_CMP, w_DUP, w_POP, w_DUP2, w_IF, w_IC, w_GO, w_NUL, w_ACN, prs, w_GF, w_PF, w_GS, w_IAL, w_LEN, w_LAL, w_ZAL, w_AAL, w_IAS, w_LAS, w_ZAS, w_AAS, w_RI, w_RL, w_RA, w_NEW, w_NA, w_MNA, w_OI, w_THR, w_CV, w_CS, w_CN9, w_CI9, w_MX, w_cont, lget, sto1, sto2, wideV, vo, vo_rv, isR, isR_rv, rv, fget, fput, cats, Value.category, List.headD_cons, List.getD_cons_zero, List.getD_cons_succ, List.drop_succ_cons, List.drop_zero, List.take_succ_cons, List.take_zero, List.reverse_cons, List.reverse_nil, List.nil_append, List.cons_append, List.length_cons, List.length_nil, cond_true, cond_false, and_true, true_and, Nat.zero_add, Nat.add_zero, Nat.reduceAdd, Nat.reduceLT, Nat.reduceLeDiff, Nat.reduceEqDiff, Nat.reduceBEq, Nat.reduceSub, ↓reduceIte, Int32.reduceOfNat, Int64.reduceOfNat, reduceCtorEq, Nat.le_refl, Nat.zero_le, Bool.false_eq_true, beq_self_eq_true, Fin.isValue, Fin.val_zero, Fin.val_one, Fin.reduceFinMk, Fin.val_two, Nat.reduceMod, Bool.or_false, Bool.or_true, Bool.true_or, Bool.false_or, not_true_eq_false, not_false_eq_true, true_or, or_true, implies_true, false_implies, true_implies, Int32.reduceLT, Int32.reduceLE, ↓w_TAB3, ↓w_TAB4, ↓w_TAB5, ↓w_TAB7, ↓w_TAB10, ↓w_LK2, ↓w_LK6, false_and, and_false, i1z, i2z, iz1, im0, im1, l0z]
  refine and_ii (fun q2 => ?_) (fun q2 => ?_)
  rotate_left
  · have e : gT m / 100 = 2 := by (simp only [i_lt, i_le, i_eq, l_lt, l_le, l_eq, Int32.toInt_toInt64, Int32.reduceToInt, Int64.reduceToInt, ne_eq, Classical.not_not] at *; omega)
    rw [if_neg (by omega), if_pos e] at hQ
    refine r_X12_happens (fun n => n == 17 || n == 29 || n == 41 || n == 48) 60 ?_
    simp only [cd_X12_happens, cf_X12_happens, wp, wq, wpI, cdF, w_CI, w_CL, w_CN, w_LI, w_LL, w_LA, w_SI, w_SL, w_SA, w_INC, w_II, w_IId, w_LLb, w_LLd, w_LS, w_I1, w_L1, w_I2L, w_L2I, w_CMP, w_DUP, w_POP, w_DUP2, w_IF, w_IC, w_GO, w_NUL, w_ACN, prs, w_GF, w_PF, w_GS, w_IAL, w_LEN, w_LAL, w_ZAL, w_AAL, w_IAS, w_LAS, w_ZAS, w_AAS, w_RI, w_RL, w_RA, w_NEW, w_NA, w_MNA, w_OI, w_THR, w_CV, w_CS, w_CN9, w_CI9, w_MX, w_cont, lget, sto1, sto2, wideV, vo, vo_rv, isR, isR_rv, rv, fget, fput, cats, Value.category, List.headD_cons, List.getD_cons_zero, List.getD_cons_succ, List.drop_succ_cons, List.drop_zero, List.take_succ_cons, List.take_zero, List.reverse_cons, List.reverse_nil, List.nil_append, List.cons_append, List.length_cons, List.length_nil, cond_true, cond_false, and_true, true_and, Nat.zero_add, Nat.add_zero, Nat.reduceAdd, Nat.reduceLT, Nat.reduceLeDiff, Nat.reduceEqDiff, Nat.reduceBEq, Nat.reduceSub, ↓reduceIte, Int32.reduceOfNat, Int64.reduceOfNat, reduceCtorEq, Nat.le_refl, Nat.zero_le, Bool.false_eq_true, beq_self_eq_true, Fin.isValue, Fin.val_zero, Fin.val_one, Fin.reduceFinMk, Fin.val_two, Nat.reduceMod, Bool.or_false, Bool.or_true, Bool.true_or, Bool.false_or, not_true_eq_false, not_false_eq_true, true_or, or_true, implies_true, false_implies, true_implies, Int32.reduceLT, Int32.reduceLE, ↓w_TAB3, ↓w_TAB4, ↓w_TAB5, ↓w_TAB7, ↓w_TAB10, ↓w_LK2, ↓w_LK6, false_and, and_false, i1z, i2z, iz1, im0, im1, l0z, hasK_uI, hasK_uL, hasK_uR, hasK_uZ, hasK_sRow, mR_uI, mR_uL, mR_uZ, mR_sRow, mI_uL, mI_uR, mI_uZ, mL_uI, mL_uR, mL_uZ, mL_sRow, LF.hk hL, layF, LF.r hL, refF, ne_eq, not_false_eq_true, Option.some.injEq, Sum.inl.injEq, Sum.inr.injEq, Prod.mk.injEq, exists_eq_left, exists_eq_left']
    refine m_clearing h hj ho (fun s hs hp => (hpb s hs).2.1 e hp) ha (fun M' d => ⟨_, rfl, ?_⟩)
    refine r_X12_happens (fun n => n == 17 || n == 29 || n == 41 || n == 48) 60 ?_
    simp only [cd_X12_happens, cf_X12_happens, wp, wq, wpI, cdF, w_CI, w_CL, w_CN, w_LI, w_LL, w_LA, w_SI, w_SL, w_SA, w_INC, w_II, w_IId, w_LLb, w_LLd, w_LS, w_I1, w_L1, w_I2L, w_L2I, w_CMP, w_DUP, w_POP, w_DUP2, w_IF, w_IC, w_GO, w_NUL, w_ACN, prs, w_GF, w_PF, w_GS, w_IAL, w_LEN, w_LAL, w_ZAL, w_AAL, w_IAS, w_LAS, w_ZAS, w_AAS, w_RI, w_RL, w_RA, w_NEW, w_NA, w_MNA, w_OI, w_THR, w_CV, w_CS, w_CN9, w_CI9, w_MX, w_cont, lget, sto1, sto2, wideV, vo, vo_rv, isR, isR_rv, rv, fget, fput, cats, Value.category, List.headD_cons, List.getD_cons_zero, List.getD_cons_succ, List.drop_succ_cons, List.drop_zero, List.take_succ_cons, List.take_zero, List.reverse_cons, List.reverse_nil, List.nil_append, List.cons_append, List.length_cons, List.length_nil, cond_true, cond_false, and_true, true_and, Nat.zero_add, Nat.add_zero, Nat.reduceAdd, Nat.reduceLT, Nat.reduceLeDiff, Nat.reduceEqDiff, Nat.reduceBEq, Nat.reduceSub, ↓reduceIte, Int32.reduceOfNat, Int64.reduceOfNat, reduceCtorEq, Nat.le_refl, Nat.zero_le, Bool.false_eq_true, beq_self_eq_true, Fin.isValue, Fin.val_zero, Fin.val_one, Fin.reduceFinMk, Fin.val_two, Nat.reduceMod, Bool.or_false, Bool.or_true, Bool.true_or, Bool.false_or, not_true_eq_false, not_false_eq_true, true_or, or_true, implies_true, false_implies, true_implies, Int32.reduceLT, Int32.reduceLE, ↓w_TAB3, ↓w_TAB4, ↓w_TAB5, ↓w_TAB7, ↓w_TAB10, ↓w_LK2, ↓w_LK6, false_and, and_false, i1z, i2z, iz1, im0, im1, l0z]
    refine r_X12_happens (fun n => n == 17 || n == 29 || n == 41 || n == 48) 60 ?_
    simp only [cd_X12_happens, cf_X12_happens, wp, wq, wpI, cdF, w_CI, w_CL, w_CN, w_LI, w_LL, w_LA, w_SI, w_SL, w_SA, w_INC, w_II, w_IId, w_LLb, w_LLd, w_LS, w_I1, w_L1, w_I2L, w_L2I, w_CMP, w_DUP, w_POP, w_DUP2, w_IF, w_IC, w_GO, w_NUL, w_ACN, prs, w_GF, w_PF, w_GS, w_IAL, w_LEN, w_LAL, w_ZAL, w_AAL, w_IAS, w_LAS, w_ZAS, w_AAS, w_RI, w_RL, w_RA, w_NEW, w_NA, w_MNA, w_OI, w_THR, w_CV, w_CS, w_CN9, w_CI9, w_MX, w_cont, lget, sto1, sto2, wideV, vo, vo_rv, isR, isR_rv, rv, fget, fput, cats, Value.category, List.headD_cons, List.getD_cons_zero, List.getD_cons_succ, List.drop_succ_cons, List.drop_zero, List.take_succ_cons, List.take_zero, List.reverse_cons, List.reverse_nil, List.nil_append, List.cons_append, List.length_cons, List.length_nil, cond_true, cond_false, and_true, true_and, Nat.zero_add, Nat.add_zero, Nat.reduceAdd, Nat.reduceLT, Nat.reduceLeDiff, Nat.reduceEqDiff, Nat.reduceBEq, Nat.reduceSub, ↓reduceIte, Int32.reduceOfNat, Int64.reduceOfNat, reduceCtorEq, Nat.le_refl, Nat.zero_le, Bool.false_eq_true, beq_self_eq_true, Fin.isValue, Fin.val_zero, Fin.val_one, Fin.reduceFinMk, Fin.val_two, Nat.reduceMod, Bool.or_false, Bool.or_true, Bool.true_or, Bool.false_or, not_true_eq_false, not_false_eq_true, true_or, or_true, implies_true, false_implies, true_implies, Int32.reduceLT, Int32.reduceLE, ↓w_TAB3, ↓w_TAB4, ↓w_TAB5, ↓w_TAB7, ↓w_TAB10, ↓w_LK2, ↓w_LK6, false_and, and_false, i1z, i2z, iz1, im0, im1, l0z]
    exact hQ M' d
  refine r_X12_happens (fun n => n == 37 || n == 44 || n == 17 || n == 29 || n == 41 || n == 48) 60 ?_
  simp only [cd_X12_happens, cf_X12_happens, wp, wq, wpI, cdF, w_CI, w_CL, w_CN, w_LI, w_LL, w_LA, w_SI, w_SL, w_SA, w_INC, w_II, w_IId, w_LLb, w_LLd, w_LS, w_I1, w_L1, w_I2L, w_L2I, w_CMP, w_DUP, w_POP, w_DUP2, w_IF, w_IC, w_GO, w_NUL, w_ACN, prs, w_GF, w_PF, w_GS, w_IAL, w_LEN, w_LAL, w_ZAL, w_AAL, w_IAS, w_LAS, w_ZAS, w_AAS, w_RI, w_RL, w_RA, w_NEW, w_NA, w_MNA, w_OI, w_THR, w_CV, w_CS, w_CN9, w_CI9, w_MX, w_cont, lget, sto1, sto2, wideV, vo, vo_rv, isR, isR_rv, rv, fget, fput, cats, Value.category, List.headD_cons, List.getD_cons_zero, List.getD_cons_succ, List.drop_succ_cons, List.drop_zero, List.take_succ_cons, List.take_zero, List.reverse_cons, List.reverse_nil, List.nil_append, List.cons_append, List.length_cons, List.length_nil, cond_true, cond_false, and_true, true_and, Nat.zero_add, Nat.add_zero, Nat.reduceAdd, Nat.reduceLT, Nat.reduceLeDiff, Nat.reduceEqDiff, Nat.reduceBEq, Nat.reduceSub, ↓reduceIte, Int32.reduceOfNat, Int64.reduceOfNat, reduceCtorEq, Nat.le_refl, Nat.zero_le, Bool.false_eq_true, beq_self_eq_true, Fin.isValue, Fin.val_zero, Fin.val_one, Fin.reduceFinMk, Fin.val_two, Nat.reduceMod, Bool.or_false, Bool.or_true, Bool.true_or, Bool.false_or, not_true_eq_false, not_false_eq_true, true_or, or_true, implies_true, false_implies, true_implies, Int32.reduceLT, Int32.reduceLE, ↓w_TAB3, ↓w_TAB4, ↓w_TAB5, ↓w_TAB7, ↓w_TAB10, ↓w_LK2, ↓w_LK6, false_and, and_false, i1z, i2z, iz1, im0, im1, l0z]
  refine and_ii (fun q3 => ?_) (fun q3 => ?_)
  rotate_left
  · have e : gT m / 100 = 4 := by (simp only [i_lt, i_le, i_eq, l_lt, l_le, l_eq, Int32.toInt_toInt64, Int32.reduceToInt, Int64.reduceToInt, ne_eq, Classical.not_not] at *; omega)
    rw [if_neg (by omega), if_neg (by omega), if_pos e] at hQ
    refine r_X12_happens (fun n => n == 17 || n == 29 || n == 41 || n == 48) 60 ?_
    simp only [cd_X12_happens, cf_X12_happens, wp, wq, wpI, cdF, w_CI, w_CL, w_CN, w_LI, w_LL, w_LA, w_SI, w_SL, w_SA, w_INC, w_II, w_IId, w_LLb, w_LLd, w_LS, w_I1, w_L1, w_I2L, w_L2I, w_CMP, w_DUP, w_POP, w_DUP2, w_IF, w_IC, w_GO, w_NUL, w_ACN, prs, w_GF, w_PF, w_GS, w_IAL, w_LEN, w_LAL, w_ZAL, w_AAL, w_IAS, w_LAS, w_ZAS, w_AAS, w_RI, w_RL, w_RA, w_NEW, w_NA, w_MNA, w_OI, w_THR, w_CV, w_CS, w_CN9, w_CI9, w_MX, w_cont, lget, sto1, sto2, wideV, vo, vo_rv, isR, isR_rv, rv, fget, fput, cats, Value.category, List.headD_cons, List.getD_cons_zero, List.getD_cons_succ, List.drop_succ_cons, List.drop_zero, List.take_succ_cons, List.take_zero, List.reverse_cons, List.reverse_nil, List.nil_append, List.cons_append, List.length_cons, List.length_nil, cond_true, cond_false, and_true, true_and, Nat.zero_add, Nat.add_zero, Nat.reduceAdd, Nat.reduceLT, Nat.reduceLeDiff, Nat.reduceEqDiff, Nat.reduceBEq, Nat.reduceSub, ↓reduceIte, Int32.reduceOfNat, Int64.reduceOfNat, reduceCtorEq, Nat.le_refl, Nat.zero_le, Bool.false_eq_true, beq_self_eq_true, Fin.isValue, Fin.val_zero, Fin.val_one, Fin.reduceFinMk, Fin.val_two, Nat.reduceMod, Bool.or_false, Bool.or_true, Bool.true_or, Bool.false_or, not_true_eq_false, not_false_eq_true, true_or, or_true, implies_true, false_implies, true_implies, Int32.reduceLT, Int32.reduceLE, ↓w_TAB3, ↓w_TAB4, ↓w_TAB5, ↓w_TAB7, ↓w_TAB10, ↓w_LK2, ↓w_LK6, false_and, and_false, i1z, i2z, iz1, im0, im1, l0z, hasK_uI, hasK_uL, hasK_uR, hasK_uZ, hasK_sRow, mR_uI, mR_uL, mR_uZ, mR_sRow, mI_uL, mI_uR, mI_uZ, mL_uI, mL_uR, mL_uZ, mL_sRow, LF.hk hL, layF, LF.r hL, refF, ne_eq, not_false_eq_true, Option.some.injEq, Sum.inl.injEq, Sum.inr.injEq, Prod.mk.injEq, exists_eq_left, exists_eq_left']
    refine m_reverse h hj ho (fun s hs hp => (hpb s hs).2.2.1 e hp) ha (fun M' d => ⟨_, rfl, ?_⟩)
    refine r_X12_happens (fun n => n == 17 || n == 29 || n == 41 || n == 48) 60 ?_
    simp only [cd_X12_happens, cf_X12_happens, wp, wq, wpI, cdF, w_CI, w_CL, w_CN, w_LI, w_LL, w_LA, w_SI, w_SL, w_SA, w_INC, w_II, w_IId, w_LLb, w_LLd, w_LS, w_I1, w_L1, w_I2L, w_L2I, w_CMP, w_DUP, w_POP, w_DUP2, w_IF, w_IC, w_GO, w_NUL, w_ACN, prs, w_GF, w_PF, w_GS, w_IAL, w_LEN, w_LAL, w_ZAL, w_AAL, w_IAS, w_LAS, w_ZAS, w_AAS, w_RI, w_RL, w_RA, w_NEW, w_NA, w_MNA, w_OI, w_THR, w_CV, w_CS, w_CN9, w_CI9, w_MX, w_cont, lget, sto1, sto2, wideV, vo, vo_rv, isR, isR_rv, rv, fget, fput, cats, Value.category, List.headD_cons, List.getD_cons_zero, List.getD_cons_succ, List.drop_succ_cons, List.drop_zero, List.take_succ_cons, List.take_zero, List.reverse_cons, List.reverse_nil, List.nil_append, List.cons_append, List.length_cons, List.length_nil, cond_true, cond_false, and_true, true_and, Nat.zero_add, Nat.add_zero, Nat.reduceAdd, Nat.reduceLT, Nat.reduceLeDiff, Nat.reduceEqDiff, Nat.reduceBEq, Nat.reduceSub, ↓reduceIte, Int32.reduceOfNat, Int64.reduceOfNat, reduceCtorEq, Nat.le_refl, Nat.zero_le, Bool.false_eq_true, beq_self_eq_true, Fin.isValue, Fin.val_zero, Fin.val_one, Fin.reduceFinMk, Fin.val_two, Nat.reduceMod, Bool.or_false, Bool.or_true, Bool.true_or, Bool.false_or, not_true_eq_false, not_false_eq_true, true_or, or_true, implies_true, false_implies, true_implies, Int32.reduceLT, Int32.reduceLE, ↓w_TAB3, ↓w_TAB4, ↓w_TAB5, ↓w_TAB7, ↓w_TAB10, ↓w_LK2, ↓w_LK6, false_and, and_false, i1z, i2z, iz1, im0, im1, l0z]
    refine r_X12_happens (fun n => n == 17 || n == 29 || n == 41 || n == 48) 60 ?_
    simp only [cd_X12_happens, cf_X12_happens, wp, wq, wpI, cdF, w_CI, w_CL, w_CN, w_LI, w_LL, w_LA, w_SI, w_SL, w_SA, w_INC, w_II, w_IId, w_LLb, w_LLd, w_LS, w_I1, w_L1, w_I2L, w_L2I, w_CMP, w_DUP, w_POP, w_DUP2, w_IF, w_IC, w_GO, w_NUL, w_ACN, prs, w_GF, w_PF, w_GS, w_IAL, w_LEN, w_LAL, w_ZAL, w_AAL, w_IAS, w_LAS, w_ZAS, w_AAS, w_RI, w_RL, w_RA, w_NEW, w_NA, w_MNA, w_OI, w_THR, w_CV, w_CS, w_CN9, w_CI9, w_MX, w_cont, lget, sto1, sto2, wideV, vo, vo_rv, isR, isR_rv, rv, fget, fput, cats, Value.category, List.headD_cons, List.getD_cons_zero, List.getD_cons_succ, List.drop_succ_cons, List.drop_zero, List.take_succ_cons, List.take_zero, List.reverse_cons, List.reverse_nil, List.nil_append, List.cons_append, List.length_cons, List.length_nil, cond_true, cond_false, and_true, true_and, Nat.zero_add, Nat.add_zero, Nat.reduceAdd, Nat.reduceLT, Nat.reduceLeDiff, Nat.reduceEqDiff, Nat.reduceBEq, Nat.reduceSub, ↓reduceIte, Int32.reduceOfNat, Int64.reduceOfNat, reduceCtorEq, Nat.le_refl, Nat.zero_le, Bool.false_eq_true, beq_self_eq_true, Fin.isValue, Fin.val_zero, Fin.val_one, Fin.reduceFinMk, Fin.val_two, Nat.reduceMod, Bool.or_false, Bool.or_true, Bool.true_or, Bool.false_or, not_true_eq_false, not_false_eq_true, true_or, or_true, implies_true, false_implies, true_implies, Int32.reduceLT, Int32.reduceLE, ↓w_TAB3, ↓w_TAB4, ↓w_TAB5, ↓w_TAB7, ↓w_TAB10, ↓w_LK2, ↓w_LK6, false_and, and_false, i1z, i2z, iz1, im0, im1, l0z]
    exact hQ M' d
  have q1 : gT m / 100 ≠ 1 := fun e => q1 (by rw [e]; rfl)
  have q2 : gT m / 100 ≠ 2 := fun e => q2 (by rw [e]; rfl)
  have q3 : gT m / 100 ≠ 4 := fun e => q3 (by rw [e]; rfl)
  have e : gT m / 100 = 5 := by omega
  rw [if_neg q1, if_neg q2, if_neg q3] at hQ
  refine r_X12_happens (fun n => n == 17 || n == 29 || n == 41 || n == 48) 60 ?_
  simp only [cd_X12_happens, cf_X12_happens, wp, wq, wpI, cdF, w_CI, w_CL, w_CN, w_LI, w_LL, w_LA, w_SI, w_SL, w_SA, w_INC, w_II, w_IId, w_LLb, w_LLd, w_LS, w_I1, w_L1, w_I2L, w_L2I, w_CMP, w_DUP, w_POP, w_DUP2, w_IF, w_IC, w_GO, w_NUL, w_ACN, prs, w_GF, w_PF, w_GS, w_IAL, w_LEN, w_LAL, w_ZAL, w_AAL, w_IAS, w_LAS, w_ZAS, w_AAS, w_RI, w_RL, w_RA, w_NEW, w_NA, w_MNA, w_OI, w_THR, w_CV, w_CS, w_CN9, w_CI9, w_MX, w_cont, lget, sto1, sto2, wideV, vo, vo_rv, isR, isR_rv, rv, fget, fput, cats, Value.category, List.headD_cons, List.getD_cons_zero, List.getD_cons_succ, List.drop_succ_cons, List.drop_zero, List.take_succ_cons, List.take_zero, List.reverse_cons, List.reverse_nil, List.nil_append, List.cons_append, List.length_cons, List.length_nil, cond_true, cond_false, and_true, true_and, Nat.zero_add, Nat.add_zero, Nat.reduceAdd, Nat.reduceLT, Nat.reduceLeDiff, Nat.reduceEqDiff, Nat.reduceBEq, Nat.reduceSub, ↓reduceIte, Int32.reduceOfNat, Int64.reduceOfNat, reduceCtorEq, Nat.le_refl, Nat.zero_le, Bool.false_eq_true, beq_self_eq_true, Fin.isValue, Fin.val_zero, Fin.val_one, Fin.reduceFinMk, Fin.val_two, Nat.reduceMod, Bool.or_false, Bool.or_true, Bool.true_or, Bool.false_or, not_true_eq_false, not_false_eq_true, true_or, or_true, implies_true, false_implies, true_implies, Int32.reduceLT, Int32.reduceLE, ↓w_TAB3, ↓w_TAB4, ↓w_TAB5, ↓w_TAB7, ↓w_TAB10, ↓w_LK2, ↓w_LK6, false_and, and_false, i1z, i2z, iz1, im0, im1, l0z, hasK_uI, hasK_uL, hasK_uR, hasK_uZ, hasK_sRow, mR_uI, mR_uL, mR_uZ, mR_sRow, mI_uL, mI_uR, mI_uZ, mL_uI, mL_uR, mL_uZ, mL_sRow, LF.hk hL, layF, LF.r hL, refF, ne_eq, not_false_eq_true, Option.some.injEq, Sum.inl.injEq, Sum.inr.injEq, Prod.mk.injEq, exists_eq_left, exists_eq_left']
  refine m_reconcile h hx hj ho (fun s hs hp => (hpb s hs).2.2.2 e hp) ha (fun M' d => ⟨_, rfl, ?_⟩)
  refine r_X12_happens (fun n => n == 17 || n == 29 || n == 41 || n == 48) 60 ?_
  simp only [cd_X12_happens, cf_X12_happens, wp, wq, wpI, cdF, w_CI, w_CL, w_CN, w_LI, w_LL, w_LA, w_SI, w_SL, w_SA, w_INC, w_II, w_IId, w_LLb, w_LLd, w_LS, w_I1, w_L1, w_I2L, w_L2I, w_CMP, w_DUP, w_POP, w_DUP2, w_IF, w_IC, w_GO, w_NUL, w_ACN, prs, w_GF, w_PF, w_GS, w_IAL, w_LEN, w_LAL, w_ZAL, w_AAL, w_IAS, w_LAS, w_ZAS, w_AAS, w_RI, w_RL, w_RA, w_NEW, w_NA, w_MNA, w_OI, w_THR, w_CV, w_CS, w_CN9, w_CI9, w_MX, w_cont, lget, sto1, sto2, wideV, vo, vo_rv, isR, isR_rv, rv, fget, fput, cats, Value.category, List.headD_cons, List.getD_cons_zero, List.getD_cons_succ, List.drop_succ_cons, List.drop_zero, List.take_succ_cons, List.take_zero, List.reverse_cons, List.reverse_nil, List.nil_append, List.cons_append, List.length_cons, List.length_nil, cond_true, cond_false, and_true, true_and, Nat.zero_add, Nat.add_zero, Nat.reduceAdd, Nat.reduceLT, Nat.reduceLeDiff, Nat.reduceEqDiff, Nat.reduceBEq, Nat.reduceSub, ↓reduceIte, Int32.reduceOfNat, Int64.reduceOfNat, reduceCtorEq, Nat.le_refl, Nat.zero_le, Bool.false_eq_true, beq_self_eq_true, Fin.isValue, Fin.val_zero, Fin.val_one, Fin.reduceFinMk, Fin.val_two, Nat.reduceMod, Bool.or_false, Bool.or_true, Bool.true_or, Bool.false_or, not_true_eq_false, not_false_eq_true, true_or, or_true, implies_true, false_implies, true_implies, Int32.reduceLT, Int32.reduceLE, ↓w_TAB3, ↓w_TAB4, ↓w_TAB5, ↓w_TAB7, ↓w_TAB10, ↓w_LK2, ↓w_LK6, false_and, and_false, i1z, i2z, iz1, im0, im1, l0z]
  exact hQ M' d
/-! what happens does not look at the journal -/
def mixN (n' n : Nat → Nat) (k : Nat) : Nat := if k = 6 ∨ k = 7 ∨ k = 9 ∨ k = 10 then n' k else n k
def nz (n' : Nat → Nat) (xs : List Nat) (S : Sw) : Sw := wN (wZ S xs) (mixN n' (sN S))
theorem mix_up (hk : ¬ (k = 6 ∨ k = 7 ∨ k = 9 ∨ k = 10)) {g : Nat → Nat} : up1 (mixN n' g) k v = mixN n' (up1 g k v) := by
  funext i
  by_cases e : i = k
  · subst e
    show (if i = i then v else mixN n' g i) = (if i = 6 ∨ i = 7 ∨ i = 9 ∨ i = 10 then n' i else (if i = i then v else g i))
    rw [if_pos rfl, if_neg hk, if_pos rfl]
  · show (if i = k then v else mixN n' g i) = (if i = 6 ∨ i = 7 ∨ i = 9 ∨ i = 10 then n' i else (if i = k then v else g i))
    rw [if_neg e, if_neg e]; rfl
theorem come_nz : come (nz n' xs S) p = nz n' xs (come S p) := by
  have e : up1 (up1 (mixN n' (sN S)) 39 (sN S 39 + 1)) 12 (sN S 12 + 1) = mixN n' (up1 (up1 (sN S) 39 (sN S 39 + 1)) 12 (sN S 12 + 1)) := by
    rw [mix_up (by omega), mix_up (by omega)]
  show wP (wN (wZ S xs) (up1 (up1 (mixN n' (sN S)) 39 (sN S 39 + 1)) 12 (sN S 12 + 1))) (up1 (sP S) (sN S 39) p) = _
  rw [e]
  rfl
theorem apv_nz : apv (nz n' xs S) a m = ((apv S a m).1, (apv S a m).2.1, nz n' xs (apv S a m).2.2) := by
  have e : apv (nz n' xs S) a m = (if fKy S a m < sN S 39 then nay 94 (nz n' xs S) else if val m 9 ≠ 978 then nay 12 (nz n' xs S) else if val m 2 = 0 then nay 13 (nz n' xs S) else if rtM S m = 0 then nay 92 (nz n' xs S) else if fCm S m = sN S 34 then nay 14 (nz n' xs S) else
  if sI S 515 (fCm S m) = 1 then nay 62 (nz n' xs S) else if sN S 16 ≤ apr S (sI S 514 (fCm S m)) then nay 65 (nz n' xs S) else if sN S 39 = 60 then nay 96 (nz n' xs S) else
  if fre S (sI S 514 (fCm S m)) < val m 2 ∧ (val m 1 ≠ 1 ∨ fre S (sI S 514 (fCm S m)) ≤ 0) then nay 51 (nz n' xs S) else
  (if (val m 2 : Int) ≤ fre S (sI S 514 (fCm S m)) then 0 else 10, fun x => ptX (ptN x 2 (if (val m 2 : Int) ≤ fre S (sI S 514 (fCm S m)) then (val m 2 : Int) else fre S (sI S 514 (fCm S m))).toNat) 6 36 (sN S 12), wQ (come (nz n' xs S) (pLu (pIu (pIu (newP S m a (sI S 514 (fCm S m) + 1)) 47 1) 50 (sN S 11 + sN S 13)) 48 (if (val m 2 : Int) ≤ fre S (sI S 514 (fCm S m)) then (val m 2 : Int) else fre S (sI S 514 (fCm S m))))) (up1 (sQ S) (sI S 514 (fCm S m)) (pushA (sQ S (sI S 514 (fCm S m))) (sN S 11))))) := rfl
  rw [e, come_nz]
  unfold apv
  dsimp only
  by_cases q0 : fKy S a m < sN S 39
  · simp only [if_pos q0]; rfl
  simp only [if_neg q0]
  by_cases q1 : val m 9 ≠ 978
  · simp only [if_pos q1]; rfl
  simp only [if_neg q1]
  by_cases q2 : val m 2 = 0
  · simp only [if_pos q2]; rfl
  simp only [if_neg q2]
  by_cases q3 : rtM S m = 0
  · simp only [if_pos q3]; rfl
  simp only [if_neg q3]
  by_cases q4 : fCm S m = sN S 34
  · simp only [if_pos q4]; rfl
  simp only [if_neg q4]
  by_cases q5 : sI S 515 (fCm S m) = 1
  · simp only [if_pos q5]; rfl
  simp only [if_neg q5]
  by_cases q6 : sN S 16 ≤ apr S (sI S 514 (fCm S m))
  · simp only [if_pos q6]; rfl
  simp only [if_neg q6]
  by_cases q7 : sN S 39 = 60
  · simp only [if_pos q7]; rfl
  simp only [if_neg q7]
  by_cases q8 : fre S (sI S 514 (fCm S m)) < val m 2 ∧ (val m 1 ≠ 1 ∨ fre S (sI S 514 (fCm S m)) ≤ 0)
  · simp only [if_pos q8]; rfl
  simp only [if_neg q8]
  rfl
theorem clr_nz : clr (nz n' xs S) a m = ((clr S a m).1, (clr S a m).2.1, nz n' xs (clr S a m).2.2) := by
  have e : clr (nz n' xs S) a m = (if fKy S a m = sN S 39 then nay 25 (nz n' xs S) else if qI (sP S (fKy S a m)) 47 ≠ 1 ∨ isCd (sP S (fKy S a m)) m = false ∨ isAp (sP S (fKy S a m)) m = false then nay 12 (nz n' xs S) else if val m 2 = 0 ∨ qL (sP S (fKy S a m)) 48 < val m 2 then nay 13 (nz n' xs S) else
    (0, fun x => x, clrS (nz n' xs S) a (fKy S a m) (val m 2) (decide (val m 1 = 1)))) := by
    by_cases q1 : fKy S a m = sN S 39
    · rw [if_pos q1]
      unfold clr
      dsimp only
      rw [if_pos (show fKy (nz n' xs S) a m = sN (nz n' xs S) 39 from q1)]
    rw [if_neg q1]
    by_cases q2 : qI (sP S (fKy S a m)) 47 ≠ 1 ∨ isCd (sP S (fKy S a m)) m = false ∨ isAp (sP S (fKy S a m)) m = false
    · rw [if_pos q2]
      unfold clr
      dsimp only
      rw [if_neg (show ¬ fKy (nz n' xs S) a m = sN (nz n' xs S) 39 from q1)]
      exact if_pos q2
    rw [if_neg q2]
    by_cases q3 : val m 2 = 0 ∨ qL (sP S (fKy S a m)) 48 < val m 2
    · rw [if_pos q3]
      unfold clr
      dsimp only
      rw [if_neg (show ¬ fKy (nz n' xs S) a m = sN (nz n' xs S) 39 from q1)]
      exact (if_neg q2).trans (if_pos q3)
    rw [if_neg q3]
    exact clr_eq (S := nz n' xs S) q1 q2 q3
  rw [e]
  by_cases q1 : fKy S a m = sN S 39
  · have e1 : clr S a m = nay 25 S := by unfold clr; dsimp only; rw [if_pos q1]
    rw [if_pos q1, e1]; rfl
  rw [if_neg q1]
  by_cases q2 : qI (sP S (fKy S a m)) 47 ≠ 1 ∨ isCd (sP S (fKy S a m)) m = false ∨ isAp (sP S (fKy S a m)) m = false
  · have e1 : clr S a m = nay 12 S := by unfold clr; dsimp only; rw [if_neg q1, if_pos q2]
    rw [if_pos q2, e1]; rfl
  rw [if_neg q2]
  by_cases q3 : val m 2 = 0 ∨ qL (sP S (fKy S a m)) 48 < val m 2
  · have e1 : clr S a m = nay 13 S := by unfold clr; dsimp only; rw [if_neg q1, if_neg q2, if_pos q3]
    rw [if_pos q3, e1]; rfl
  rw [if_neg q3, clr_eq q1 q2 q3]
  rfl
theorem rev_nz : rev (nz n' xs S) a m = ((rev S a m).1, (rev S a m).2.1, nz n' xs (rev S a m).2.2) := by
  have e : rev (nz n' xs S) a m = (if fKy S a m = sN S 39 then (if 420 ≤ gT m ∧ sN S 39 < 60 then nay 25 (come (nz n' xs S) (newP S m a 0)) else nay 25 (nz n' xs S)) else
    if isCd (sP S (fKy S a m)) m = false ∨ (qI (sP S (fKy S a m)) 47 = 1 ∧ isOr (sP S (fKy S a m)) m = false) ∨ 0 < qL (sP S (fKy S a m)) 49 then nay 12 (nz n' xs S) else if qI (sP S (fKy S a m)) 47 ≠ 1 then nay 0 (nz n' xs S) else
    nay 0 (wP (nz n' xs S) (up1 (sP S) (fKy S a m) (if 0 < (if pb (gH m) 15 = 1 then val m 15 else 0) ∧ (((if pb (gH m) 15 = 1 then val m 15 else 0 : Nat)) : Int) < qL (sP S (fKy S a m)) 48 then pLu (sP S (fKy S a m)) 48 ((if pb (gH m) 15 = 1 then val m 15 else 0 : Nat) : Int) else ends (sP S (fKy S a m)) 0)))) := rfl
  rw [e, come_nz]
  unfold rev
  dsimp only
  generalize (if pb (gH m) 15 = 1 then val m 15 else 0) = lf
  repeat' split
  all_goals first | rfl | contradiction
theorem rcn_nz : rcn (nz n' xs S) a m = ((rcn S a m).1, (rcn S a m).2.1, nz n' xs (rcn S a m).2.2) := by
  have e : rcn (nz n' xs S) a m = (if val m 12 = sI S 502 a ∧ (val m 13 : Int) = sL S 503 a then 0 else 95, fun x => ptN (ptN x 12 (sI S 502 a)) 13 (sL S 503 a).toNat, if val m 12 = sI S 502 a ∧ (val m 13 : Int) = sL S 503 a then wL (wI (nz n' xs S) (up2 (sI S) 502 a 0)) (up2 (sL S) 503 a 0) else nz n' xs S) := rfl
  rw [e]
  unfold rcn
  dsimp only
  by_cases q : val m 12 = sI S 502 a ∧ (val m 13 : Int) = sL S 503 a
  · rw [if_pos q, if_pos q, if_pos q]; rfl
  · rw [if_neg q, if_neg q, if_neg q]
theorem hpn_nz : hpn (nz n' xs S) a m = ((hpn S a m).1, (hpn S a m).2.1, nz n' xs (hpn S a m).2.2) := by
  unfold hpn
  by_cases q1 : gT m / 100 = 1
  · rw [if_pos q1, if_pos q1]; exact apv_nz
  rw [if_neg q1, if_neg q1]
  by_cases q2 : gT m / 100 = 2
  · rw [if_pos q2, if_pos q2]; exact clr_nz
  rw [if_neg q2, if_neg q2]
  by_cases q4 : gT m / 100 = 4
  · rw [if_pos q4, if_pos q4]; exact rev_nz
  rw [if_neg q4, if_neg q4]
  exact rcn_nz
theorem keep_nz (h : sN S 55 ≤ 24) : keep (nz n' xs S) ar = nz n' xs (keep S ar) := by
  rw [keep_eq h, keep_eq (S := nz n' xs S) h]
  have e : up1 (mixN n' (sN S)) 55 (if sN S 55 < 24 then sN S 55 + 1 else sN S 55) = mixN n' (up1 (sN S) 55 (if sN S 55 < 24 then sN S 55 + 1 else sN S 55)) := mix_up (by omega)
  show wR (wN (wZ S xs) (up1 (mixN n' (sN S)) 55 (if sN S 55 < 24 then sN S 55 + 1 else sN S 55))) _ = _
  rw [e]
  rfl
theorem mix_wr : mixN (wr1 (sN S)) (sN S) = wr1 (sN S) := by
  funext k
  unfold mixN
  by_cases e : k = 6 ∨ k = 7 ∨ k = 9 ∨ k = 10
  · rw [if_pos e]
  · rw [if_neg e, wr1_ne (by omega)]
theorem wr1_cg {f g : Nat → Nat} (h6 : f 6 = g 6) (h7 : f 7 = g 7) (h9 : f 9 = g 9) (h10 : f 10 = g 10) : mixN (wr1 f) g = wr1 g := by
  funext k
  unfold mixN
  by_cases e : k = 6 ∨ k = 7 ∨ k = 9 ∨ k = 10
  · rw [if_pos e]
    unfold wr1 spd
    have a7 : up1 f 9 (f 9 + 1) 7 = f 7 := up1_ne (by omega)
    have b7 : up1 g 9 (g 9 + 1) 7 = g 7 := up1_ne (by omega)
    have a10 : up1 f 9 (f 9 + 1) 10 = f 10 := up1_ne (by omega)
    have b10 : up1 g 9 (g 9 + 1) 10 = g 10 := up1_ne (by omega)
    rw [a7, b7, a10, b10, h7, h9, h10]
    by_cases q : g 7 = 0
    · rw [if_pos q, if_pos q]
      rcases e with rfl | rfl | rfl | rfl <;> simp [up1, h6, h7]
    · rw [if_neg q, if_neg q]
      rcases e with rfl | rfl | rfl | rfl <;> simp [up1]
  · rw [if_neg e, wr1_ne (by omega)]
end HPM
