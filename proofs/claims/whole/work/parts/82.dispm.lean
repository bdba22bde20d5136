/-! DISPUTES: the reference -/
section DIM
variable {G : En} {M M0 Mz M' : Mem} {Q : Option Value → Mem → Prop} {X : String → Mem → Prop} {S : Sw} {t a j k v i np : Nat} {x y : Int32} {z : Int64} {u : Int} {p : Py}
theorem RN.L (h : RN S k p M) : LF M := h.1.1
def o5 (M M' : Mem) : Prop := ∀ j, mI M' 495 j = mI M 495 j
theorem o5_0 : o5 M M := fun _ => rfl
theorem o5_I (h : o5 M M') (ha : a ≠ 495) : o5 M (uI M' a i y) := fun j => by rw [mI_ne (by omega)]; exact h j
theorem o5_L (h : o5 M M') : o5 M (uL M' a i z) := h
theorem up2_id {α : Type} {f : Nat → Nat → α} : up2 f a j (f a j) = f := by
  funext b l; unfold up2; split
  · rename_i e; rw [e.1, e.2]
  · rfl
theorem m_moves (h : RN S k p M) (hi : loS M0 M) (h45 : qI p 45 ≠ 0) (h64 : qI p 45 ≤ 64) (h41 : qI p 41 < 6) (h507 : sI S 507 (qI p 45 - 1) < 6) (hy : y = nI k) (hz : z = lI u) (hQ : ∀ M', RN (wL S (gv2 (sL S) (qI p 41) (sI S 507 (qI p 45 - 1)) u)) k p M' → loS M0 M' → o5 M M' → Q none M') : Ct G (MT 270) [.ref 495, .int y, .long z] M Q X := by
  subst hy hz
  have hL := h.L
  have hk := h.2.1
  have h60 := h.2.2
  have ea : mI M 521 k = nI (qI p 45 - 1) := by
    have := h.pm
    unfold payM at this
    rw [this.2.2.2.2.2.2.2.2.2.2.2.2.1]
    have e := nI_pred (qI p 45 - 1)
    rw [show qI p 45 - 1 + 1 = qI p 45 by omega] at e
    exact e
  have e41 := h.pm.2.1
  have hLl : mLl (sL S) M := h.1.2.2.2.1
  have hI : mIi (sI S) M := h.1.2.2.1
  have e7 := hI.2.2.2.1 (qI p 45 - 1) (by omega)
  have m1 := (hLl.1 (qI p 41) (by omega)).1
  have m2 := (hLl.1 (6 + sI S 507 (qI p 45 - 1)) (by omega)).1
  have ck := nI_clamp (n := k) (by omega)
  have ca := nI_clamp (n := qI p 45 - 1) (by omega)
  have c41 := nI_clamp (n := qI p 41) (by omega)
  have e6 : (6 : Int32) + nI (sI S 507 (qI p 45 - 1)) = nI (6 + sI S 507 (qI p 45 - 1)) := nI_add 6 _
  have c6 := nI_clamp (n := 6 + sI S 507 (qI p 45 - 1)) (by omega)
  have r1 := RN_set (b := 500) (a := qI p 41) (x := sL S 500 (qI p 41) - u) (z := lI (sL S 500 (qI p 41) - u)) h (by omega) rfl
  have r2 := RN_set (b := 500) (a := 6 + sI S 507 (qI p 45 - 1)) (x := up2 (sL S) 500 (qI p 41) (sL S 500 (qI p 41) - u) 500 (6 + sI S 507 (qI p 45 - 1)) + u) (z := lI (sL S 500 (6 + sI S 507 (qI p 45 - 1)) + u)) r1 (by omega) (by rw [up2_nk (by omega)])
  have hne : (6 + sI S 507 (qI p 45 - 1) = qI p 41) = False := eq_false (by omega)
  refine Ct.go (L0 := [some (.ref 495), some (.int (nI k)), some (.long (lI u)), none]) (by decide +kernel) rfl rfl ?_
  refine r_X12_moves (fun _ => false) 60 ?_
  simp only [cd_X12_moves, cf_X12_moves, wp, wq, wpI, cdF, w_CI, w_CL, w_CN, w_LI, w_LL, w_LA, w_SI, w_SL, w_SA, w_INC, w_II, w_IId, w_LLb, w_LLd, w_LS, w_I1, w_L1, w_I2L, w_L2I, w_CMP, w_DUP, w_POP, w_DUP2, w_IF, w_IC, w_GO, w_NUL, w_ACN, prs, w_GF, w_PF, w_GS, w_IAL, w_LEN, w_LAL, w_ZAL, w_AAL, w_IAS, w_LAS, w_ZAS, w_AAS, w_RI, w_RL, w_RA, w_NEW, w_NA, w_MNA, w_OI, w_THR, w_CV, w_CS, w_CN9, w_CI9, w_MX, w_cont, lget, sto1, sto2, wideV, vo, vo_rv, isR, isR_rv, rv, fget, fput, cats, Value.category, List.headD_cons, List.getD_cons_zero, List.getD_cons_succ, List.drop_succ_cons, List.drop_zero, List.take_succ_cons, List.take_zero, List.reverse_cons, List.reverse_nil, List.nil_append, List.cons_append, List.length_cons, List.length_nil, cond_true, cond_false, and_true, true_and, Nat.zero_add, Nat.add_zero, Nat.reduceAdd, Nat.reduceLT, Nat.reduceLeDiff, Nat.reduceEqDiff, Nat.reduceBEq, Nat.reduceSub, ↓reduceIte, Int32.reduceOfNat, Int64.reduceOfNat, reduceCtorEq, Nat.le_refl, Nat.zero_le, Bool.false_eq_true, beq_self_eq_true, Fin.isValue, Fin.val_zero, Fin.val_one, Fin.reduceFinMk, Fin.val_two, Nat.reduceMod, Bool.or_false, Bool.or_true, Bool.true_or, Bool.false_or, not_true_eq_false, not_false_eq_true, true_or, or_true, implies_true, false_implies, true_implies, Int32.reduceLT, Int32.reduceLE, ↓w_TAB3, ↓w_TAB4, ↓w_TAB5, ↓w_TAB7, ↓w_TAB10, ↓w_LK2, ↓w_LK6, false_and, and_false, i1z, i2z, iz1, im0, im1, l0z, hasK_uI, hasK_uL, hasK_uR, hasK_uZ, hasK_sRow, mR_uI, mR_uL, mR_uZ, mR_sRow, mI_uL, mI_uR, mI_uZ, mL_uI, mL_uR, mL_uZ, mL_sRow, LF.hk hL, layF, LF.r hL, refF, ne_eq, not_false_eq_true, Option.some.injEq, Sum.inl.injEq, Sum.inr.injEq, Prod.mk.injEq, exists_eq_left, exists_eq_left', ck, ca, c41, e41, ea, e7, e6, c6, m1, m2, mL_uL, lI_sub, lI_add, hne, mI_uL]
  refine ⟨vp_in_nI (by omega) (by omega), vp_in_nI (by omega) (by omega), vp_in_nI (by omega) (by omega), vp_in_nI (by omega) (by omega), vp_in_nI (by omega) (by omega), vp_in_nI (by omega) (by omega), vp_in_nI (by omega) (by omega), ?_⟩
  exact hQ _ r2 (loS_uL (loS_uL hi (by omega)) (by omega)) (o5_L (o5_L o5_0))
theorem m_closes {won : Bool} (h : RN S k p M) (hi : loS M0 M) (h45 : qI p 45 ≠ 0) (h64 : qI p 45 ≤ 64) (hy : y = nI k) (hx : x = nI won.toNat) (hQ : ∀ M', RN (if won then S else wL S (up2 (sL S) 509 (qI p 45 - 1) (sL S 509 (qI p 45 - 1) - qL p 53))) k (clsP p won) M' → loS M0 M' → o5 M M' → Q none M') : Ct G (MT 271) [.ref 495, .int y, .int x] M Q X := by
  subst hy hx
  have hL := h.L
  have hk := h.2.1
  have h60 := h.2.2
  have ea : mI M 521 k = nI (qI p 45 - 1) := by
    have := h.pm
    unfold payM at this
    rw [this.2.2.2.2.2.2.2.2.2.2.2.2.1]
    have e := nI_pred (qI p 45 - 1)
    rw [show qI p 45 - 1 + 1 = qI p 45 by omega] at e
    exact e
  have h53 := h.pm.2.2.2.2.2.2.2.2.2.2.2.1
  have hLl : mLl (sL S) M := h.1.2.2.2.1
  have m1 := (hLl.2.2 (qI p 45 - 1) (by omega)).2
  have ck := nI_clamp (n := k) (by omega)
  have ca := nI_clamp (n := qI p 45 - 1) (by omega)
  have hv := vp_in_nI (n := k) (N := 61) (by omega) (by omega)
  have hva := vp_in_nI (n := qI p 45 - 1) (N := 64) (by omega) (by omega)
  cases won
  · have r2 := RN_set (b := 509) (a := qI p 45 - 1) (x := sL S 509 (qI p 45 - 1) - qL p 53) (z := lI (sL S 509 (qI p 45 - 1) - qL p 53)) h (by omega) rfl
    have r3 := RN_I52 (v := 4) (y := 4) r2 rfl
    have r4 := RN_I54 (v := 0) (y := -1) r3 rfl
    refine Ct.go (L0 := [some (.ref 495), some (.int (nI k)), some (.int (nI (false).toNat))]) (by decide +kernel) rfl rfl ?_
    refine r_X12_closes (fun _ => false) 60 ?_
    simp only [cd_X12_closes, cf_X12_closes, wp, wq, wpI, cdF, w_CI, w_CL, w_CN, w_LI, w_LL, w_LA, w_SI, w_SL, w_SA, w_INC, w_II, w_IId, w_LLb, w_LLd, w_LS, w_I1, w_L1, w_I2L, w_L2I, w_CMP, w_DUP, w_POP, w_DUP2, w_IF, w_IC, w_GO, w_NUL, w_ACN, prs, w_GF, w_PF, w_GS, w_IAL, w_LEN, w_LAL, w_ZAL, w_AAL, w_IAS, w_LAS, w_ZAS, w_AAS, w_RI, w_RL, w_RA, w_NEW, w_NA, w_MNA, w_OI, w_THR, w_CV, w_CS, w_CN9, w_CI9, w_MX, w_cont, lget, sto1, sto2, wideV, vo, vo_rv, isR, isR_rv, rv, fget, fput, cats, Value.category, List.headD_cons, List.getD_cons_zero, List.getD_cons_succ, List.drop_succ_cons, List.drop_zero, List.take_succ_cons, List.take_zero, List.reverse_cons, List.reverse_nil, List.nil_append, List.cons_append, List.length_cons, List.length_nil, cond_true, cond_false, and_true, true_and, Nat.zero_add, Nat.add_zero, Nat.reduceAdd, Nat.reduceLT, Nat.reduceLeDiff, Nat.reduceEqDiff, Nat.reduceBEq, Nat.reduceSub, ↓reduceIte, Int32.reduceOfNat, Int64.reduceOfNat, reduceCtorEq, Nat.le_refl, Nat.zero_le, Bool.false_eq_true, beq_self_eq_true, Fin.isValue, Fin.val_zero, Fin.val_one, Fin.reduceFinMk, Fin.val_two, Nat.reduceMod, Bool.or_false, Bool.or_true, Bool.true_or, Bool.false_or, not_true_eq_false, not_false_eq_true, true_or, or_true, implies_true, false_implies, true_implies, Int32.reduceLT, Int32.reduceLE, ↓w_TAB3, ↓w_TAB4, ↓w_TAB5, ↓w_TAB7, ↓w_TAB10, ↓w_LK2, ↓w_LK6, false_and, and_false, i1z, i2z, iz1, im0, im1, l0z, hasK_uI, hasK_uL, hasK_uR, hasK_uZ, hasK_sRow, mR_uI, mR_uL, mR_uZ, mR_sRow, mI_uL, mI_uR, mI_uZ, mL_uI, mL_uR, mL_uZ, mL_sRow, LF.hk hL, layF, LF.r hL, refF, ne_eq, not_false_eq_true, Option.some.injEq, Sum.inl.injEq, Sum.inr.injEq, Prod.mk.injEq, exists_eq_left, exists_eq_left', ck, ca, ea, h53, m1, lI_sub, Bool.toNat_false, show nI 0 = (0 : Int32) from rfl, eq_self]
    exact ⟨hv, hva, hv, hva, hv, hv, hQ _ r4 (loS_uI (loS_uI (loS_uL hi (by omega)) (by omega)) (by omega)) (o5_I (o5_I (o5_L o5_0) (by omega)) (by omega))⟩
  · have e0 : lI (sL S 509 (qI p 45 - 1)) - 0 = lI (sL S 509 (qI p 45 - 1)) := by rw [show (0 : Int64) = lI 0 from rfl, lI_sub]; congr 1; omega
    have r2 := RN_set (b := 509) (a := qI p 45 - 1) (x := sL S 509 (qI p 45 - 1)) (z := lI (sL S 509 (qI p 45 - 1))) h (by omega) rfl
    rw [up2_id] at r2
    have r3 := RN_I52 (v := 3) (y := 3) r2 rfl
    have r4 := RN_I54 (v := 0) (y := -1) r3 rfl
    refine Ct.go (L0 := [some (.ref 495), some (.int (nI k)), some (.int (nI (true).toNat))]) (by decide +kernel) rfl rfl ?_
    refine r_X12_closes (fun _ => false) 60 ?_
    simp only [cd_X12_closes, cf_X12_closes, wp, wq, wpI, cdF, w_CI, w_CL, w_CN, w_LI, w_LL, w_LA, w_SI, w_SL, w_SA, w_INC, w_II, w_IId, w_LLb, w_LLd, w_LS, w_I1, w_L1, w_I2L, w_L2I, w_CMP, w_DUP, w_POP, w_DUP2, w_IF, w_IC, w_GO, w_NUL, w_ACN, prs, w_GF, w_PF, w_GS, w_IAL, w_LEN, w_LAL, w_ZAL, w_AAL, w_IAS, w_LAS, w_ZAS, w_AAS, w_RI, w_RL, w_RA, w_NEW, w_NA, w_MNA, w_OI, w_THR, w_CV, w_CS, w_CN9, w_CI9, w_MX, w_cont, lget, sto1, sto2, wideV, vo, vo_rv, isR, isR_rv, rv, fget, fput, cats, Value.category, List.headD_cons, List.getD_cons_zero, List.getD_cons_succ, List.drop_succ_cons, List.drop_zero, List.take_succ_cons, List.take_zero, List.reverse_cons, List.reverse_nil, List.nil_append, List.cons_append, List.length_cons, List.length_nil, cond_true, cond_false, and_true, true_and, Nat.zero_add, Nat.add_zero, Nat.reduceAdd, Nat.reduceLT, Nat.reduceLeDiff, Nat.reduceEqDiff, Nat.reduceBEq, Nat.reduceSub, ↓reduceIte, Int32.reduceOfNat, Int64.reduceOfNat, reduceCtorEq, Nat.le_refl, Nat.zero_le, Bool.false_eq_true, beq_self_eq_true, Fin.isValue, Fin.val_zero, Fin.val_one, Fin.reduceFinMk, Fin.val_two, Nat.reduceMod, Bool.or_false, Bool.or_true, Bool.true_or, Bool.false_or, not_true_eq_false, not_false_eq_true, true_or, or_true, implies_true, false_implies, true_implies, Int32.reduceLT, Int32.reduceLE, ↓w_TAB3, ↓w_TAB4, ↓w_TAB5, ↓w_TAB7, ↓w_TAB10, ↓w_LK2, ↓w_LK6, false_and, and_false, i1z, i2z, iz1, im0, im1, l0z, hasK_uI, hasK_uL, hasK_uR, hasK_uZ, hasK_sRow, mR_uI, mR_uL, mR_uZ, mR_sRow, mI_uL, mI_uR, mI_uZ, mL_uI, mL_uR, mL_uZ, mL_sRow, LF.hk hL, layF, LF.r hL, refF, ne_eq, not_false_eq_true, Option.some.injEq, Sum.inl.injEq, Sum.inr.injEq, Prod.mk.injEq, exists_eq_left, exists_eq_left', ck, ca, ea, h53, m1, e0, Bool.toNat_true, show nI 1 = (1 : Int32) from rfl, i1z]
    exact ⟨hv, hva, hva, hv, hv, hQ _ r4 (loS_uI (loS_uI (loS_uL hi (by omega)) (by omega)) (by omega)) (o5_I (o5_I (o5_L o5_0) (by omega)) (by omega))⟩
theorem m_represent (hR : RM S M) (hj : Jv t S) : Ct G (MT 273) [.ref 495, .int x] M (QmI M (o_represent S x.toInt)) X := by
  obtain ⟨hL, hN, hI, hLl, hA, hC, hP, hRr, hD, hT, hZ, hK⟩ := id hR
  have hs := hj.1
  have hn := hN
  unfold mNn at hn
  unfold jS at hs
  have t6 := nI_toInt (n := sN S 6) (by omega)
  have c6 := nI_clamp (n := sN S 6) (by omega)
  have t11 := nI_toInt (n := sN S 11) (by omega)
  have c11 := nI_clamp (n := sN S 11) (by omega)
  have t15 := nI_toInt (n := sN S 15) (by omega)
  have c15 := nI_clamp (n := sN S 15) (by omega)
  have h39 : sN S 39 ≤ 60 := by omega
  have hFl : fPn S x.toInt ≤ sN S 39 := fsn_le
  have hno : ∀ (q : ¬ fPn S x.toInt < sN S 39 ∧ sN S 6 = 0) (z : Int32), Ct G (MT 182) [.ref 495] M (fun v' M' => ∃ x_1, v' = some (Value.int x_1) ∧ Go G (MT 273) (QmI M (o_represent S x.toInt)) X 27 [some (.ref 495), some (.int x), some (.int z)] [.int x_1, .int 0, .ref 495] M' 0 0) X := fun q z => by
    refine m_isOpen hL hN (smN_of hj) ⟨_, rfl, ?_⟩
    refine r_X12_represent (fun n => n == 5 || n == 27 || n == 30 || n == 52 || n == 92) 60 ?_
    simp only [cd_X12_represent, cf_X12_represent, wp, wq, wpI, cdF, w_CI, w_CL, w_CN, w_LI, w_LL, w_LA, w_SI, w_SL, w_SA, w_INC, w_II, w_IId, w_LLb, w_LLd, w_LS, w_I1, w_L1, w_I2L, w_L2I, w_CMP, w_DUP, w_POP, w_DUP2, w_IF, w_IC, w_GO, w_NUL, w_ACN, prs, w_GF, w_PF, w_GS, w_IAL, w_LEN, w_LAL, w_ZAL, w_AAL, w_IAS, w_LAS, w_ZAS, w_AAS, w_RI, w_RL, w_RA, w_NEW, w_NA, w_MNA, w_OI, w_THR, w_CV, w_CS, w_CN9, w_CI9, w_MX, w_cont, lget, sto1, sto2, wideV, vo, vo_rv, isR, isR_rv, rv, fget, fput, cats, Value.category, List.headD_cons, List.getD_cons_zero, List.getD_cons_succ, List.drop_succ_cons, List.drop_zero, List.take_succ_cons, List.take_zero, List.reverse_cons, List.reverse_nil, List.nil_append, List.cons_append, List.length_cons, List.length_nil, cond_true, cond_false, and_true, true_and, Nat.zero_add, Nat.add_zero, Nat.reduceAdd, Nat.reduceLT, Nat.reduceLeDiff, Nat.reduceEqDiff, Nat.reduceBEq, Nat.reduceSub, ↓reduceIte, Int32.reduceOfNat, Int64.reduceOfNat, reduceCtorEq, Nat.le_refl, Nat.zero_le, Bool.false_eq_true, beq_self_eq_true, Fin.isValue, Fin.val_zero, Fin.val_one, Fin.reduceFinMk, Fin.val_two, Nat.reduceMod, Bool.or_false, Bool.or_true, Bool.true_or, Bool.false_or, not_true_eq_false, not_false_eq_true, true_or, or_true, implies_true, false_implies, true_implies, Int32.reduceLT, Int32.reduceLE, ↓w_TAB3, ↓w_TAB4, ↓w_TAB5, ↓w_TAB7, ↓w_TAB10, ↓w_LK2, ↓w_LK6, false_and, and_false, i1z, i2z, iz1, im0, im1, l0z, hasK_uI, hasK_uL, hasK_uR, hasK_uZ, hasK_sRow, mR_uI, mR_uL, mR_uZ, mR_sRow, mI_uL, mI_uR, mI_uZ, mL_uI, mL_uR, mL_uZ, mL_sRow, LF.hk hL, layF, LF.r hL, refF, ne_eq, not_false_eq_true, Option.some.injEq, Sum.inl.injEq, Sum.inr.injEq, Prod.mk.injEq, exists_eq_left, exists_eq_left']
    refine m_goes_0p hL ⟨_, rfl, ?_⟩
    refine r_X12_represent (fun n => n == 5 || n == 27 || n == 30 || n == 52 || n == 92) 60 ?_
    simp only [cd_X12_represent, cf_X12_represent, wp, wq, wpI, cdF, w_CI, w_CL, w_CN, w_LI, w_LL, w_LA, w_SI, w_SL, w_SA, w_INC, w_II, w_IId, w_LLb, w_LLd, w_LS, w_I1, w_L1, w_I2L, w_L2I, w_CMP, w_DUP, w_POP, w_DUP2, w_IF, w_IC, w_GO, w_NUL, w_ACN, prs, w_GF, w_PF, w_GS, w_IAL, w_LEN, w_LAL, w_ZAL, w_AAL, w_IAS, w_LAS, w_ZAS, w_AAS, w_RI, w_RL, w_RA, w_NEW, w_NA, w_MNA, w_OI, w_THR, w_CV, w_CS, w_CN9, w_CI9, w_MX, w_cont, lget, sto1, sto2, wideV, vo, vo_rv, isR, isR_rv, rv, fget, fput, cats, Value.category, List.headD_cons, List.getD_cons_zero, List.getD_cons_succ, List.drop_succ_cons, List.drop_zero, List.take_succ_cons, List.take_zero, List.reverse_cons, List.reverse_nil, List.nil_append, List.cons_append, List.length_cons, List.length_nil, cond_true, cond_false, and_true, true_and, Nat.zero_add, Nat.add_zero, Nat.reduceAdd, Nat.reduceLT, Nat.reduceLeDiff, Nat.reduceEqDiff, Nat.reduceBEq, Nat.reduceSub, ↓reduceIte, Int32.reduceOfNat, Int64.reduceOfNat, reduceCtorEq, Nat.le_refl, Nat.zero_le, Bool.false_eq_true, beq_self_eq_true, Fin.isValue, Fin.val_zero, Fin.val_one, Fin.reduceFinMk, Fin.val_two, Nat.reduceMod, Bool.or_false, Bool.or_true, Bool.true_or, Bool.false_or, not_true_eq_false, not_false_eq_true, true_or, or_true, implies_true, false_implies, true_implies, Int32.reduceLT, Int32.reduceLE, ↓w_TAB3, ↓w_TAB4, ↓w_TAB5, ↓w_TAB7, ↓w_TAB10, ↓w_LK2, ↓w_LK6, false_and, and_false, i1z, i2z, iz1, im0, im1, l0z, hasK_uI, hasK_uL, hasK_uR, hasK_uZ, hasK_sRow, mR_uI, mR_uL, mR_uZ, mR_sRow, mI_uL, mI_uR, mI_uZ, mL_uI, mL_uR, mL_uZ, mL_sRow, LF.hk hL, layF, LF.r hL, refF, ne_eq, not_false_eq_true, Option.some.injEq, Sum.inl.injEq, Sum.inr.injEq, Prod.mk.injEq, exists_eq_left, exists_eq_left']
    exact Qm_1 hR (gap_3 trivial q.2 q.1)
  have hyes : ∀ (q : fPn S x.toInt < sN S 39 ∨ sN S 6 = 1) (z : Int32) (hz : fPn S x.toInt < sN S 39 → z = nI (fPn S x.toInt)), Ct G (MT 182) [.ref 495] M (fun v' M' => ∃ x_1, v' = some (Value.int x_1) ∧ Go G (MT 273) (QmI M (o_represent S x.toInt)) X 27 [some (.ref 495), some (.int x), some (.int z)] [.int x_1, .int 1, .ref 495] M' 0 0) X := fun q z hz => by
    refine m_isOpen hL hN (smN_of hj) ⟨_, rfl, ?_⟩
    refine r_X12_represent (fun n => n == 5 || n == 27 || n == 30 || n == 52 || n == 92) 60 ?_
    simp only [cd_X12_represent, cf_X12_represent, wp, wq, wpI, cdF, w_CI, w_CL, w_CN, w_LI, w_LL, w_LA, w_SI, w_SL, w_SA, w_INC, w_II, w_IId, w_LLb, w_LLd, w_LS, w_I1, w_L1, w_I2L, w_L2I, w_CMP, w_DUP, w_POP, w_DUP2, w_IF, w_IC, w_GO, w_NUL, w_ACN, prs, w_GF, w_PF, w_GS, w_IAL, w_LEN, w_LAL, w_ZAL, w_AAL, w_IAS, w_LAS, w_ZAS, w_AAS, w_RI, w_RL, w_RA, w_NEW, w_NA, w_MNA, w_OI, w_THR, w_CV, w_CS, w_CN9, w_CI9, w_MX, w_cont, lget, sto1, sto2, wideV, vo, vo_rv, isR, isR_rv, rv, fget, fput, cats, Value.category, List.headD_cons, List.getD_cons_zero, List.getD_cons_succ, List.drop_succ_cons, List.drop_zero, List.take_succ_cons, List.take_zero, List.reverse_cons, List.reverse_nil, List.nil_append, List.cons_append, List.length_cons, List.length_nil, cond_true, cond_false, and_true, true_and, Nat.zero_add, Nat.add_zero, Nat.reduceAdd, Nat.reduceLT, Nat.reduceLeDiff, Nat.reduceEqDiff, Nat.reduceBEq, Nat.reduceSub, ↓reduceIte, Int32.reduceOfNat, Int64.reduceOfNat, reduceCtorEq, Nat.le_refl, Nat.zero_le, Bool.false_eq_true, beq_self_eq_true, Fin.isValue, Fin.val_zero, Fin.val_one, Fin.reduceFinMk, Fin.val_two, Nat.reduceMod, Bool.or_false, Bool.or_true, Bool.true_or, Bool.false_or, not_true_eq_false, not_false_eq_true, true_or, or_true, implies_true, false_implies, true_implies, Int32.reduceLT, Int32.reduceLE, ↓w_TAB3, ↓w_TAB4, ↓w_TAB5, ↓w_TAB7, ↓w_TAB10, ↓w_LK2, ↓w_LK6, false_and, and_false, i1z, i2z, iz1, im0, im1, l0z, hasK_uI, hasK_uL, hasK_uR, hasK_uZ, hasK_sRow, mR_uI, mR_uL, mR_uZ, mR_sRow, mI_uL, mI_uR, mI_uZ, mL_uI, mL_uR, mL_uZ, mL_sRow, LF.hk hL, layF, LF.r hL, refF, ne_eq, not_false_eq_true, Option.some.injEq, Sum.inl.injEq, Sum.inr.injEq, Prod.mk.injEq, exists_eq_left, exists_eq_left']
    refine m_goes_1p hL (fun h2 => ⟨_, rfl, ?_⟩) (fun h2 => ⟨_, rfl, ?_⟩)
    · refine r_X12_represent (fun n => n == 5 || n == 27 || n == 30 || n == 52 || n == 92) 60 ?_
      simp only [cd_X12_represent, cf_X12_represent, wp, wq, wpI, cdF, w_CI, w_CL, w_CN, w_LI, w_LL, w_LA, w_SI, w_SL, w_SA, w_INC, w_II, w_IId, w_LLb, w_LLd, w_LS, w_I1, w_L1, w_I2L, w_L2I, w_CMP, w_DUP, w_POP, w_DUP2, w_IF, w_IC, w_GO, w_NUL, w_ACN, prs, w_GF, w_PF, w_GS, w_IAL, w_LEN, w_LAL, w_ZAL, w_AAL, w_IAS, w_LAS, w_ZAS, w_AAS, w_RI, w_RL, w_RA, w_NEW, w_NA, w_MNA, w_OI, w_THR, w_CV, w_CS, w_CN9, w_CI9, w_MX, w_cont, lget, sto1, sto2, wideV, vo, vo_rv, isR, isR_rv, rv, fget, fput, cats, Value.category, List.headD_cons, List.getD_cons_zero, List.getD_cons_succ, List.drop_succ_cons, List.drop_zero, List.take_succ_cons, List.take_zero, List.reverse_cons, List.reverse_nil, List.nil_append, List.cons_append, List.length_cons, List.length_nil, cond_true, cond_false, and_true, true_and, Nat.zero_add, Nat.add_zero, Nat.reduceAdd, Nat.reduceLT, Nat.reduceLeDiff, Nat.reduceEqDiff, Nat.reduceBEq, Nat.reduceSub, ↓reduceIte, Int32.reduceOfNat, Int64.reduceOfNat, reduceCtorEq, Nat.le_refl, Nat.zero_le, Bool.false_eq_true, beq_self_eq_true, Fin.isValue, Fin.val_zero, Fin.val_one, Fin.reduceFinMk, Fin.val_two, Nat.reduceMod, Bool.or_false, Bool.or_true, Bool.true_or, Bool.false_or, not_true_eq_false, not_false_eq_true, true_or, or_true, implies_true, false_implies, true_implies, Int32.reduceLT, Int32.reduceLE, ↓w_TAB3, ↓w_TAB4, ↓w_TAB5, ↓w_TAB7, ↓w_TAB10, ↓w_LK2, ↓w_LK6, false_and, and_false, i1z, i2z, iz1, im0, im1, l0z, hasK_uI, hasK_uL, hasK_uR, hasK_uZ, hasK_sRow, mR_uI, mR_uL, mR_uZ, mR_sRow, mI_uL, mI_uR, mI_uZ, mL_uI, mL_uR, mL_uZ, mL_sRow, LF.hk hL, layF, LF.r hL, refF, ne_eq, not_false_eq_true, Option.some.injEq, Sum.inl.injEq, Sum.inr.injEq, Prod.mk.injEq, exists_eq_left, exists_eq_left']
      refine Qm_2 hR (gap_2 trivial ?_)
      have := hs.2.2.2.2.1
      omega
    have hf : fPn S x.toInt < sN S 39 := by omega
    have h6 := h2.2
    have ho := hj.2.2.2.1 _ hf
    have hog : o_represent S x.toInt = _ := gap_0 trivial h6 hf
    simp only at hog
    have ez := hz hf
    subst ez
    generalize hF0 : fPn S x.toInt = k at *
    have r0 := RM_code (v := 0) hR
    have i0 : loS M (uI M 495 3 0) := loS_uI (loS_rfl M) (by omega)
    have z0 : mI (uI M 495 3 0) 495 3 = 0 := by rw [mI_uI, if_pos ⟨rfl, rfl⟩]
    clear hno hL hN hI hLl hA hC hP hRr hD hT hZ hK hn
    generalize uI M 495 3 0 = Mz at r0 i0 z0 ⊢
    have l0 := r0.1
    have ck := nI_clamp (n := k) (by omega)
    have pm0 := r0.2.2.2.2.2.2.1 k hf
    generalize hpp : sP S k = p at *
    unfold payM at pm0
    obtain ⟨⟨b1, b2, b3, b4, b5, b6, b7, b8, b9, b10, b11⟩, c2, c3, c4, c5, c6, c7, c8, c9, c10, c11, c12, c13, c14⟩ := ho
    have t52 := nI_toInt (n := qI p 52) (by omega)
    have hv := vp_in_nI (n := k) (N := 61) (by omega) (by omega)
    refine r_X12_represent (fun n => n == 5 || n == 27 || n == 30 || n == 52 || n == 92) 60 ?_
    simp only [cd_X12_represent, cf_X12_represent, wp, wq, wpI, cdF, w_CI, w_CL, w_CN, w_LI, w_LL, w_LA, w_SI, w_SL, w_SA, w_INC, w_II, w_IId, w_LLb, w_LLd, w_LS, w_I1, w_L1, w_I2L, w_L2I, w_CMP, w_DUP, w_POP, w_DUP2, w_IF, w_IC, w_GO, w_NUL, w_ACN, prs, w_GF, w_PF, w_GS, w_IAL, w_LEN, w_LAL, w_ZAL, w_AAL, w_IAS, w_LAS, w_ZAS, w_AAS, w_RI, w_RL, w_RA, w_NEW, w_NA, w_MNA, w_OI, w_THR, w_CV, w_CS, w_CN9, w_CI9, w_MX, w_cont, lget, sto1, sto2, wideV, vo, vo_rv, isR, isR_rv, rv, fget, fput, cats, Value.category, List.headD_cons, List.getD_cons_zero, List.getD_cons_succ, List.drop_succ_cons, List.drop_zero, List.take_succ_cons, List.take_zero, List.reverse_cons, List.reverse_nil, List.nil_append, List.cons_append, List.length_cons, List.length_nil, cond_true, cond_false, and_true, true_and, Nat.zero_add, Nat.add_zero, Nat.reduceAdd, Nat.reduceLT, Nat.reduceLeDiff, Nat.reduceEqDiff, Nat.reduceBEq, Nat.reduceSub, ↓reduceIte, Int32.reduceOfNat, Int64.reduceOfNat, reduceCtorEq, Nat.le_refl, Nat.zero_le, Bool.false_eq_true, beq_self_eq_true, Fin.isValue, Fin.val_zero, Fin.val_one, Fin.reduceFinMk, Fin.val_two, Nat.reduceMod, Bool.or_false, Bool.or_true, Bool.true_or, Bool.false_or, not_true_eq_false, not_false_eq_true, true_or, or_true, implies_true, false_implies, true_implies, Int32.reduceLT, Int32.reduceLE, ↓w_TAB3, ↓w_TAB4, ↓w_TAB5, ↓w_TAB7, ↓w_TAB10, ↓w_LK2, ↓w_LK6, false_and, and_false, i1z, i2z, iz1, im0, im1, l0z, hasK_uI, hasK_uL, hasK_uR, hasK_uZ, hasK_sRow, mR_uI, mR_uL, mR_uZ, mR_sRow, mI_uL, mI_uR, mI_uZ, mL_uI, mL_uR, mL_uZ, mL_sRow, LF.hg l0, layF, LF.r l0, refF, ne_eq, not_false_eq_true, Option.some.injEq, Sum.inl.injEq, Sum.inr.injEq, Prod.mk.injEq, exists_eq_left, exists_eq_left', ck, pm0, i1z]
    refine ⟨hv, and_ii (fun h => ?_) (fun h => ?_)⟩
    rotate_left
    · rw [hog, if_pos (by (simp only [i_lt, i_le, i_eq, l_lt, l_le, l_eq, Int32.toInt_toInt64, Int32.reduceToInt, Int64.reduceToInt, ne_eq, Classical.not_not] at *; omega))]
      exact ⟨rfl, z0, r0, i0⟩
    have e52 : qI p 52 = 1 := by (simp only [i_lt, i_le, i_eq, l_lt, l_le, l_eq, Int32.toInt_toInt64, Int32.reduceToInt, Int64.reduceToInt, ne_eq, Classical.not_not] at *; omega)
    rw [if_neg (by omega)] at hog
    have e47 := c9 (by omega)
    have c45 := (c6 e47).1
    have q507 := hj.2.1.2.2.2.1 (qI p 45 - 1) (by omega)
    refine m_writes (n := sN S) l0 r0.2.1 (smN_of hj) (by omega) h6 (fun h8 => ⟨_, rfl, ?_⟩) (fun h8 M1 n1 e1 z1 => ⟨_, rfl, ?_⟩)
    · refine r_X12_represent (fun n => n == 5 || n == 27 || n == 30 || n == 52 || n == 92) 60 ?_
      simp only [cd_X12_represent, cf_X12_represent, wp, wq, wpI, cdF, w_CI, w_CL, w_CN, w_LI, w_LL, w_LA, w_SI, w_SL, w_SA, w_INC, w_II, w_IId, w_LLb, w_LLd, w_LS, w_I1, w_L1, w_I2L, w_L2I, w_CMP, w_DUP, w_POP, w_DUP2, w_IF, w_IC, w_GO, w_NUL, w_ACN, prs, w_GF, w_PF, w_GS, w_IAL, w_LEN, w_LAL, w_ZAL, w_AAL, w_IAS, w_LAS, w_ZAS, w_AAS, w_RI, w_RL, w_RA, w_NEW, w_NA, w_MNA, w_OI, w_THR, w_CV, w_CS, w_CN9, w_CI9, w_MX, w_cont, lget, sto1, sto2, wideV, vo, vo_rv, isR, isR_rv, rv, fget, fput, cats, Value.category, List.headD_cons, List.getD_cons_zero, List.getD_cons_succ, List.drop_succ_cons, List.drop_zero, List.take_succ_cons, List.take_zero, List.reverse_cons, List.reverse_nil, List.nil_append, List.cons_append, List.length_cons, List.length_nil, cond_true, cond_false, and_true, true_and, Nat.zero_add, Nat.add_zero, Nat.reduceAdd, Nat.reduceLT, Nat.reduceLeDiff, Nat.reduceEqDiff, Nat.reduceBEq, Nat.reduceSub, ↓reduceIte, Int32.reduceOfNat, Int64.reduceOfNat, reduceCtorEq, Nat.le_refl, Nat.zero_le, Bool.false_eq_true, beq_self_eq_true, Fin.isValue, Fin.val_zero, Fin.val_one, Fin.reduceFinMk, Fin.val_two, Nat.reduceMod, Bool.or_false, Bool.or_true, Bool.true_or, Bool.false_or, not_true_eq_false, not_false_eq_true, true_or, or_true, implies_true, false_implies, true_implies, Int32.reduceLT, Int32.reduceLE, ↓w_TAB3, ↓w_TAB4, ↓w_TAB5, ↓w_TAB7, ↓w_TAB10, ↓w_LK2, ↓w_LK6, false_and, and_false, i1z, i2z, iz1, im0, im1, l0z]
      rw [hog, if_pos h8]
      exact ⟨rfl, z0, r0, i0⟩
    rw [if_neg h8] at hog
    rw [hog]
    have r1 := RM_n r0 n1 e1 (wr1_ne (by omega)) (wr1_ne (by omega)) (wr1_ne (by omega))
    have i1 := loS_rN i0 e1
    have l1 := r1.1
    have hk1 : k < sN (wN S (wr1 (sN S))) 39 := by show k < wr1 (sN S) 39; rw [wr1_ne (by omega)]; exact hf
    have h601 : sN (wN S (wr1 (sN S))) 39 ≤ 60 := by show wr1 (sN S) 39 ≤ 60; rw [wr1_ne (by omega)]; exact h39
    have rn := RN_of (S := wN S (wr1 (sN S))) (p := p) r1 hk1 h601 hpp
    have pm1 := rn.pm
    unfold payM at pm1
    have n1' := n1
    unfold mNn at n1'
    have e11 : mI M1 495 11 = nI (sN S 11) := by rw [n1'.2.2.2.2.2.2.2.2.2.2.2.2.1, wr1_ne (by omega)]
    have e15 : mI M1 495 15 = nI (sN S 15) := by rw [n1'.2.2.2.2.2.2.2.2.1, wr1_ne (by omega)]
    have e6 : mI M1 495 6 = nI (wr1 (sN S) 6) := n1'.2.2.2.2.2.2.2.2.2.2.2.2.2.2.2.2.2.2.1
    have e1115 : nI (sN S 11) + nI (sN S 15) = nI (sN S 11 + sN S 15) := nI_add _ _
    have z1' : mI M1 495 3 = 0 := z1.trans z0
    have r2 := RN_I52 (v := 2) (y := 2) rn rfl
    have r3 := RN_I54 (v := sN S 11 + sN S 15 + 1) (y := nI (sN S 11 + sN S 15)) r2 (nI_pred _).symm
    have h53 := pm1.2.2.2.2.2.2.2.2.2.2.2.1
    refine r_X12_represent (fun n => n == 5 || n == 27 || n == 30 || n == 52 || n == 92) 60 ?_
    simp only [cd_X12_represent, cf_X12_represent, wp, wq, wpI, cdF, w_CI, w_CL, w_CN, w_LI, w_LL, w_LA, w_SI, w_SL, w_SA, w_INC, w_II, w_IId, w_LLb, w_LLd, w_LS, w_I1, w_L1, w_I2L, w_L2I, w_CMP, w_DUP, w_POP, w_DUP2, w_IF, w_IC, w_GO, w_NUL, w_ACN, prs, w_GF, w_PF, w_GS, w_IAL, w_LEN, w_LAL, w_ZAL, w_AAL, w_IAS, w_LAS, w_ZAS, w_AAS, w_RI, w_RL, w_RA, w_NEW, w_NA, w_MNA, w_OI, w_THR, w_CV, w_CS, w_CN9, w_CI9, w_MX, w_cont, lget, sto1, sto2, wideV, vo, vo_rv, isR, isR_rv, rv, fget, fput, cats, Value.category, List.headD_cons, List.getD_cons_zero, List.getD_cons_succ, List.drop_succ_cons, List.drop_zero, List.take_succ_cons, List.take_zero, List.reverse_cons, List.reverse_nil, List.nil_append, List.cons_append, List.length_cons, List.length_nil, cond_true, cond_false, and_true, true_and, Nat.zero_add, Nat.add_zero, Nat.reduceAdd, Nat.reduceLT, Nat.reduceLeDiff, Nat.reduceEqDiff, Nat.reduceBEq, Nat.reduceSub, ↓reduceIte, Int32.reduceOfNat, Int64.reduceOfNat, reduceCtorEq, Nat.le_refl, Nat.zero_le, Bool.false_eq_true, beq_self_eq_true, Fin.isValue, Fin.val_zero, Fin.val_one, Fin.reduceFinMk, Fin.val_two, Nat.reduceMod, Bool.or_false, Bool.or_true, Bool.true_or, Bool.false_or, not_true_eq_false, not_false_eq_true, true_or, or_true, implies_true, false_implies, true_implies, Int32.reduceLT, Int32.reduceLE, ↓w_TAB3, ↓w_TAB4, ↓w_TAB5, ↓w_TAB7, ↓w_TAB10, ↓w_LK2, ↓w_LK6, false_and, and_false, i1z, i2z, iz1, im0, im1, l0z, hasK_uI, hasK_uL, hasK_uR, hasK_uZ, hasK_sRow, mR_uI, mR_uL, mR_uZ, mR_sRow, mI_uL, mI_uR, mI_uZ, mL_uI, mL_uR, mL_uZ, mL_sRow, LF.hg l1, layF, LF.r l1, refF, ne_eq, not_false_eq_true, Option.some.injEq, Sum.inl.injEq, Sum.inr.injEq, Prod.mk.injEq, exists_eq_left, exists_eq_left', ck, mI_uI, e11, e15, e1115, h53, lI_neg, i1z]
    refine ⟨hv, hv, hv, ?_⟩
    refine m_moves (S := wN S (wr1 (sN S))) (u := - qL p 53) r3 (loS_uI (loS_uI i1 (by omega)) (by omega)) c45 (by show qI p 45 ≤ 64; omega) (by show qI p 41 < 6; omega) (by show sI S 507 (qI p 45 - 1) < 6; omega) rfl rfl (fun M2 r4 i4 g4 => ⟨rfl, ?_⟩)
    have l4 := r4.L
    have e6' : mI M2 495 6 = nI (wr1 (sN S) 6) := by rw [g4, mI_ne (by omega), mI_ne (by omega)]; exact e6
    have z2 : mI M2 495 3 = 0 := by rw [g4, mI_ne (by omega), mI_ne (by omega)]; exact z1'
    refine r_X12_represent (fun n => n == 5 || n == 27 || n == 30 || n == 52 || n == 92) 60 ?_
    simp only [cd_X12_represent, cf_X12_represent, wp, wq, wpI, cdF, w_CI, w_CL, w_CN, w_LI, w_LL, w_LA, w_SI, w_SL, w_SA, w_INC, w_II, w_IId, w_LLb, w_LLd, w_LS, w_I1, w_L1, w_I2L, w_L2I, w_CMP, w_DUP, w_POP, w_DUP2, w_IF, w_IC, w_GO, w_NUL, w_ACN, prs, w_GF, w_PF, w_GS, w_IAL, w_LEN, w_LAL, w_ZAL, w_AAL, w_IAS, w_LAS, w_ZAS, w_AAS, w_RI, w_RL, w_RA, w_NEW, w_NA, w_MNA, w_OI, w_THR, w_CV, w_CS, w_CN9, w_CI9, w_MX, w_cont, lget, sto1, sto2, wideV, vo, vo_rv, isR, isR_rv, rv, fget, fput, cats, Value.category, List.headD_cons, List.getD_cons_zero, List.getD_cons_succ, List.drop_succ_cons, List.drop_zero, List.take_succ_cons, List.take_zero, List.reverse_cons, List.reverse_nil, List.nil_append, List.cons_append, List.length_cons, List.length_nil, cond_true, cond_false, and_true, true_and, Nat.zero_add, Nat.add_zero, Nat.reduceAdd, Nat.reduceLT, Nat.reduceLeDiff, Nat.reduceEqDiff, Nat.reduceBEq, Nat.reduceSub, ↓reduceIte, Int32.reduceOfNat, Int64.reduceOfNat, reduceCtorEq, Nat.le_refl, Nat.zero_le, Bool.false_eq_true, beq_self_eq_true, Fin.isValue, Fin.val_zero, Fin.val_one, Fin.reduceFinMk, Fin.val_two, Nat.reduceMod, Bool.or_false, Bool.or_true, Bool.true_or, Bool.false_or, not_true_eq_false, not_false_eq_true, true_or, or_true, implies_true, false_implies, true_implies, Int32.reduceLT, Int32.reduceLE, ↓w_TAB3, ↓w_TAB4, ↓w_TAB5, ↓w_TAB7, ↓w_TAB10, ↓w_LK2, ↓w_LK6, false_and, and_false, i1z, i2z, iz1, im0, im1, l0z, hasK_uI, hasK_uL, hasK_uR, hasK_uZ, hasK_sRow, mR_uI, mR_uL, mR_uZ, mR_sRow, mI_uL, mI_uR, mI_uZ, mL_uI, mL_uR, mL_uZ, mL_sRow, LF.hg l4, layF, LF.r l4, refF, ne_eq, not_false_eq_true, Option.some.injEq, Sum.inl.injEq, Sum.inr.injEq, Prod.mk.injEq, exists_eq_left, exists_eq_left', e6']
    rcases wr6 hj with q6 | q6
    · rw [q6]
      refine and_ii (fun _ => ?_) (fun q => absurd rfl q)
      exact ⟨by show some (Value.int 1) = some (Value.int (wdI (if wr1 (sN S) 6 = 1 then -3 else 1))); rw [q6]; rfl, z2, r4.1, i4⟩
    · rw [q6]
      refine and_ii (fun q => absurd q (by decide)) (fun _ => ?_)
      exact ⟨by show some (Value.int (-3)) = some (Value.int (wdI (if wr1 (sN S) 6 = 1 then -3 else 1))); rw [q6]; rfl, z2, r4.1, i4⟩
  refine Ct.go (L0 := [some (.ref 495), some (.int x), none]) (by decide +kernel) rfl rfl ?_
  refine r_X12_represent (fun n => n == 5 || n == 27 || n == 30 || n == 52 || n == 92) 60 ?_
  simp only [cd_X12_represent, cf_X12_represent, wp, wq, wpI, cdF, w_CI, w_CL, w_CN, w_LI, w_LL, w_LA, w_SI, w_SL, w_SA, w_INC, w_II, w_IId, w_LLb, w_LLd, w_LS, w_I1, w_L1, w_I2L, w_L2I, w_CMP, w_DUP, w_POP, w_DUP2, w_IF, w_IC, w_GO, w_NUL, w_ACN, prs, w_GF, w_PF, w_GS, w_IAL, w_LEN, w_LAL, w_ZAL, w_AAL, w_IAS, w_LAS, w_ZAS, w_AAS, w_RI, w_RL, w_RA, w_NEW, w_NA, w_MNA, w_OI, w_THR, w_CV, w_CS, w_CN9, w_CI9, w_MX, w_cont, lget, sto1, sto2, wideV, vo, vo_rv, isR, isR_rv, rv, fget, fput, cats, Value.category, List.headD_cons, List.getD_cons_zero, List.getD_cons_succ, List.drop_succ_cons, List.drop_zero, List.take_succ_cons, List.take_zero, List.reverse_cons, List.reverse_nil, List.nil_append, List.cons_append, List.length_cons, List.length_nil, cond_true, cond_false, and_true, true_and, Nat.zero_add, Nat.add_zero, Nat.reduceAdd, Nat.reduceLT, Nat.reduceLeDiff, Nat.reduceEqDiff, Nat.reduceBEq, Nat.reduceSub, ↓reduceIte, Int32.reduceOfNat, Int64.reduceOfNat, reduceCtorEq, Nat.le_refl, Nat.zero_le, Bool.false_eq_true, beq_self_eq_true, Fin.isValue, Fin.val_zero, Fin.val_one, Fin.reduceFinMk, Fin.val_two, Nat.reduceMod, Bool.or_false, Bool.or_true, Bool.true_or, Bool.false_or, not_true_eq_false, not_false_eq_true, true_or, or_true, implies_true, false_implies, true_implies, Int32.reduceLT, Int32.reduceLE, ↓w_TAB3, ↓w_TAB4, ↓w_TAB5, ↓w_TAB7, ↓w_TAB10, ↓w_LK2, ↓w_LK6, false_and, and_false, i1z, i2z, iz1, im0, im1, l0z, hasK_uI, hasK_uL, hasK_uR, hasK_uZ, hasK_sRow, mR_uI, mR_uL, mR_uZ, mR_sRow, mI_uL, mI_uR, mI_uZ, mL_uI, mL_uR, mL_uZ, mL_sRow, LF.hk hL, layF, LF.r hL, refF, ne_eq, not_false_eq_true, Option.some.injEq, Sum.inl.injEq, Sum.inr.injEq, Prod.mk.injEq, exists_eq_left, exists_eq_left']
  refine m_placeOf hR hj ⟨_, rfl, ?_⟩
  by_cases e : fPn S x.toInt < sN S 39
  · have ef : fdC (fPn S x.toInt) (sN S 39) = nI (fPn S x.toInt) := if_pos e
    rw [ef]
    have hge : 0 ≤ nI (fPn S x.toInt) := by rw [i_le, nI_toInt (by omega)]; simp
    refine r_X12_represent (fun n => n == 5 || n == 27 || n == 30 || n == 52 || n == 92) 60 ?_
    simp only [cd_X12_represent, cf_X12_represent, wp, wq, wpI, cdF, w_CI, w_CL, w_CN, w_LI, w_LL, w_LA, w_SI, w_SL, w_SA, w_INC, w_II, w_IId, w_LLb, w_LLd, w_LS, w_I1, w_L1, w_I2L, w_L2I, w_CMP, w_DUP, w_POP, w_DUP2, w_IF, w_IC, w_GO, w_NUL, w_ACN, prs, w_GF, w_PF, w_GS, w_IAL, w_LEN, w_LAL, w_ZAL, w_AAL, w_IAS, w_LAS, w_ZAS, w_AAS, w_RI, w_RL, w_RA, w_NEW, w_NA, w_MNA, w_OI, w_THR, w_CV, w_CS, w_CN9, w_CI9, w_MX, w_cont, lget, sto1, sto2, wideV, vo, vo_rv, isR, isR_rv, rv, fget, fput, cats, Value.category, List.headD_cons, List.getD_cons_zero, List.getD_cons_succ, List.drop_succ_cons, List.drop_zero, List.take_succ_cons, List.take_zero, List.reverse_cons, List.reverse_nil, List.nil_append, List.cons_append, List.length_cons, List.length_nil, cond_true, cond_false, and_true, true_and, Nat.zero_add, Nat.add_zero, Nat.reduceAdd, Nat.reduceLT, Nat.reduceLeDiff, Nat.reduceEqDiff, Nat.reduceBEq, Nat.reduceSub, ↓reduceIte, Int32.reduceOfNat, Int64.reduceOfNat, reduceCtorEq, Nat.le_refl, Nat.zero_le, Bool.false_eq_true, beq_self_eq_true, Fin.isValue, Fin.val_zero, Fin.val_one, Fin.reduceFinMk, Fin.val_two, Nat.reduceMod, Bool.or_false, Bool.or_true, Bool.true_or, Bool.false_or, not_true_eq_false, not_false_eq_true, true_or, or_true, implies_true, false_implies, true_implies, Int32.reduceLT, Int32.reduceLE, ↓w_TAB3, ↓w_TAB4, ↓w_TAB5, ↓w_TAB7, ↓w_TAB10, ↓w_LK2, ↓w_LK6, false_and, and_false, i1z, i2z, iz1, im0, im1, l0z, hasK_uI, hasK_uL, hasK_uR, hasK_uZ, hasK_sRow, mR_uI, mR_uL, mR_uZ, mR_sRow, mI_uL, mI_uR, mI_uZ, mL_uI, mL_uR, mL_uZ, mL_sRow, LF.hk hL, layF, LF.r hL, refF, ne_eq, not_false_eq_true, Option.some.injEq, Sum.inl.injEq, Sum.inr.injEq, Prod.mk.injEq, exists_eq_left, exists_eq_left', hge]
    exact hyes (Or.inl e) _ (fun _ => rfl)
  · have ef : fdC (fPn S x.toInt) (sN S 39) = -1 := if_neg e
    rw [ef]
    have hge : ¬ (0 : Int32) ≤ -1 := by decide
    refine r_X12_represent (fun n => n == 5 || n == 27 || n == 30 || n == 52 || n == 92) 60 ?_
    simp only [cd_X12_represent, cf_X12_represent, wp, wq, wpI, cdF, w_CI, w_CL, w_CN, w_LI, w_LL, w_LA, w_SI, w_SL, w_SA, w_INC, w_II, w_IId, w_LLb, w_LLd, w_LS, w_I1, w_L1, w_I2L, w_L2I, w_CMP, w_DUP, w_POP, w_DUP2, w_IF, w_IC, w_GO, w_NUL, w_ACN, prs, w_GF, w_PF, w_GS, w_IAL, w_LEN, w_LAL, w_ZAL, w_AAL, w_IAS, w_LAS, w_ZAS, w_AAS, w_RI, w_RL, w_RA, w_NEW, w_NA, w_MNA, w_OI, w_THR, w_CV, w_CS, w_CN9, w_CI9, w_MX, w_cont, lget, sto1, sto2, wideV, vo, vo_rv, isR, isR_rv, rv, fget, fput, cats, Value.category, List.headD_cons, List.getD_cons_zero, List.getD_cons_succ, List.drop_succ_cons, List.drop_zero, List.take_succ_cons, List.take_zero, List.reverse_cons, List.reverse_nil, List.nil_append, List.cons_append, List.length_cons, List.length_nil, cond_true, cond_false, and_true, true_and, Nat.zero_add, Nat.add_zero, Nat.reduceAdd, Nat.reduceLT, Nat.reduceLeDiff, Nat.reduceEqDiff, Nat.reduceBEq, Nat.reduceSub, ↓reduceIte, Int32.reduceOfNat, Int64.reduceOfNat, reduceCtorEq, Nat.le_refl, Nat.zero_le, Bool.false_eq_true, beq_self_eq_true, Fin.isValue, Fin.val_zero, Fin.val_one, Fin.reduceFinMk, Fin.val_two, Nat.reduceMod, Bool.or_false, Bool.or_true, Bool.true_or, Bool.false_or, not_true_eq_false, not_false_eq_true, true_or, or_true, implies_true, false_implies, true_implies, Int32.reduceLT, Int32.reduceLE, ↓w_TAB3, ↓w_TAB4, ↓w_TAB5, ↓w_TAB7, ↓w_TAB10, ↓w_LK2, ↓w_LK6, false_and, and_false, i1z, i2z, iz1, im0, im1, l0z, hasK_uI, hasK_uL, hasK_uR, hasK_uZ, hasK_sRow, mR_uI, mR_uL, mR_uZ, mR_sRow, mI_uL, mI_uR, mI_uZ, mL_uI, mL_uR, mL_uZ, mL_sRow, LF.hk hL, layF, LF.r hL, refF, ne_eq, not_false_eq_true, Option.some.injEq, Sum.inl.injEq, Sum.inr.injEq, Prod.mk.injEq, exists_eq_left, exists_eq_left', hge, hn]
    exact and_ii (fun h => hno ⟨e, by (simp only [i_lt, i_le, i_eq, l_lt, l_le, l_eq, Int32.toInt_toInt64, Int32.reduceToInt, Int64.reduceToInt, ne_eq, Classical.not_not] at *; omega)⟩ _) (fun h0 => hyes (Or.inr (by (simp only [i_lt, i_le, i_eq, l_lt, l_le, l_eq, Int32.toInt_toInt64, Int32.reduceToInt, Int64.reduceToInt, ne_eq, Classical.not_not] at *; omega))) _ (fun q => absurd q e))
end DIM
