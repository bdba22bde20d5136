/-! AN AUTHORISATION: the class -/
section AU
variable {G : En} {M M0 Mz M' : Mem} {Q : Option Value → Mem → Prop} {X : String → Mem → Prop} {S : Sw} {t a b j k v i np T A : Nat} {x y : Int32} {z : Int64} {u am : Int} {w c : Nat → Nat} {o : Nat} {p : Py} {q q' : Nat → Int × Int} {m mx : Msg}
def rfs (S : Sw) (a : Nat) (m : Msg) : Nat := if fKy S a m < sN S 39 then 94 else if val m 9 ≠ 978 then 12 else if val m 2 = 0 then 13 else if rtM S m = 0 then 92 else if fCm S m = sN S 34 then 14 else
  if sI S 515 (fCm S m) = 1 then 62 else if sN S 16 ≤ apr S (sI S 514 (fCm S m)) then 65 else if sN S 39 = 60 then 96 else 0
def apv2 (S : Sw) (a : Nat) (m : Msg) : Hp := if fre S (sI S 514 (fCm S m)) < val m 2 ∧ (val m 1 ≠ 1 ∨ fre S (sI S 514 (fCm S m)) ≤ 0) then nay 51 S else
  let acc := sI S 514 (fCm S m)
  let hl : Int := if (val m 2 : Int) ≤ fre S acc then val m 2 else fre S acc
  (if (val m 2 : Int) ≤ fre S acc then 0 else 10, fun x => ptX (ptN x 2 hl.toNat) 6 36 (sN S 12), wQ (come S (hldP S m a acc hl)) (up1 (sQ S) acc (pushA (sQ S acc) (sN S 11))))
theorem apv_r (h : rfs S a m ≠ 0) : apv S a m = nay (rfs S a m) S := by
  unfold rfs at *
  unfold apv
  by_cases q1 : fKy S a m < sN S 39
  · rw [if_pos q1, if_pos q1]
  rw [if_neg q1] at h
  rw [if_neg q1, if_neg q1]
  by_cases q2 : val m 9 ≠ 978
  · rw [if_pos q2, if_pos q2]
  rw [if_neg q2] at h
  rw [if_neg q2, if_neg q2]
  by_cases q3 : val m 2 = 0
  · rw [if_pos q3, if_pos q3]
  rw [if_neg q3] at h
  rw [if_neg q3, if_neg q3]
  by_cases q4 : rtM S m = 0
  · rw [if_pos q4, if_pos q4]
  rw [if_neg q4] at h
  rw [if_neg q4, if_neg q4]
  by_cases q5 : fCm S m = sN S 34
  · rw [if_pos q5, if_pos q5]
  rw [if_neg q5] at h
  rw [if_neg q5, if_neg q5]
  by_cases q6 : sI S 515 (fCm S m) = 1
  · rw [if_pos q6, if_pos q6]
  rw [if_neg q6] at h
  rw [if_neg q6, if_neg q6]
  by_cases q7 : sN S 16 ≤ apr S (sI S 514 (fCm S m))
  · rw [if_pos q7, if_pos q7]
  rw [if_neg q7] at h
  rw [if_neg q7, if_neg q7]
  by_cases q8 : sN S 39 = 60
  · rw [if_pos q8, if_pos q8]
  rw [if_neg q8] at h
  exact absurd rfl h
theorem apv_0 (h : rfs S a m = 0) : apv S a m = apv2 S a m ∧ fCm S m ≠ sN S 34 ∧ sN S 39 ≠ 60 := by
  unfold rfs at *
  unfold apv
  by_cases q1 : fKy S a m < sN S 39
  · rw [if_pos q1] at h; cases h
  rw [if_neg q1] at h ⊢
  by_cases q2 : val m 9 ≠ 978
  · rw [if_pos q2] at h; cases h
  rw [if_neg q2] at h ⊢
  by_cases q3 : val m 2 = 0
  · rw [if_pos q3] at h; cases h
  rw [if_neg q3] at h ⊢
  by_cases q4 : rtM S m = 0
  · rw [if_pos q4] at h; cases h
  rw [if_neg q4] at h ⊢
  by_cases q5 : fCm S m = sN S 34
  · rw [if_pos q5] at h; cases h
  rw [if_neg q5] at h ⊢
  by_cases q6 : sI S 515 (fCm S m) = 1
  · rw [if_pos q6] at h; cases h
  rw [if_neg q6] at h ⊢
  by_cases q7 : sN S 16 ≤ apr S (sI S 514 (fCm S m))
  · rw [if_pos q7] at h; cases h
  rw [if_neg q7] at h ⊢
  by_cases q8 : sN S 39 = 60
  · rw [if_pos q8] at h; cases h
  rw [if_neg q8]
  exact ⟨rfl, q5, q8⟩
theorem fCm_le (hj : Jv t S) : fCm S m ≤ sN S 34 := by
  unfold fCm
  split
  · exact fsn_le
  · exact Nat.le_refl _
theorem cntA_le {T : Int} : ∀ {xs : List Nat}, cntA T xs ≤ xs.length
  | [] => by simp [cntA]
  | x :: xs => by
    have := cntA_le (T := T) (xs := xs)
    rw [cntA, List.length_cons]
    split <;> omega
set_option maxRecDepth 20000 in
theorem c_refusal (hR : RC w o c S M) (hj : Jv t S) (hm : msgC M 454 455 457 m) (ho : okM m) (hb : ∀ s, s < 16 → pb 831 s = 1 → pb (gH m) s = 1) (ha : a < sN S 17) (hx : x = nI a) (hy : y = if fCm S m < sN S 34 then nI (fCm S m) else -1) (hQ : Q (some (.int (nI (rfs S a m)))) M) : Ct G (MT 46) [.ref 473, .int x, .ref 454, .int y] M Q X := by
  subst hx hy
  obtain ⟨hL, hN, hI, hLl, hF, hS, hA, hC, hP, hRr, hD, hT, hZ⟩ := id hR
  have hs := hj.1
  have hn := hN
  unfold cN at hn
  unfold jS at hs
  have ms := MS_r hL
  have v9 := val_lt ho (s := 9) (by omega) (hb 9 (by omega) rfl) rfl
  have v2 := val_lt ho (s := 2) (by omega) (hb 2 (by omega) rfl) rfl
  simp only [szF] at v9 v2
  have l9 : (lI (val m 9 : Int) = 978) ↔ val m 9 = 978 := by rw [show (978 : Int64) = lI 978 from rfl, lI_eq (by unfold fL; omega) (by unfold fL; omega)]; omega
  have l2 : (lI (val m 2 : Int) = 0) ↔ val m 2 = 0 := by rw [show (0 : Int64) = lI 0 from rfl, lI_eq (by unfold fL; omega) (by unfold fL; omega)]; omega
  have hfc := fCm_le (m := m) hj
  have hrt : rtM S m ≤ 6 := (bst_le (rt_of hj) (sN S 24) (Nat.le_refl _)).2
  have t39 := nI_toInt (n := sN S 39) (by omega)
  unfold rfs at hQ
  refine Ct.go (L0 := [some (.ref 473), some (.int (nI a)), some (.ref 454), some (.int (if fCm S m < sN S 34 then nI (fCm S m) else -1)), none]) (by decide +kernel) rfl rfl ?_
  refine r_X4_refusal (fun n => n == 9 || n == 21 || n == 36 || n == 52 || n == 121) 60 ?_
  simp only [cd_X4_refusal, cf_X4_refusal, wp, wq, wpI, cdF, w_CI, w_CL, w_CN, w_LI, w_LL, w_LA, w_SI, w_SL, w_SA, w_INC, w_II, w_IId, w_LLb, w_LLd, w_LS, w_I1, w_L1, w_I2L, w_L2I, w_CMP, w_DUP, w_POP, w_DUP2, w_IF, w_IC, w_GO, w_NUL, w_ACN, prs, w_GF, w_PF, w_GS, w_IAL, w_LEN, w_LAL, w_ZAL, w_AAL, w_IAS, w_LAS, w_ZAS, w_AAS, w_RI, w_RL, w_RA, w_NEW, w_NA, w_MNA, w_OI, w_THR, w_CV, w_CS, w_CN9, w_CI9, w_MX, w_cont, lget, sto1, sto2, wideV, vo, vo_rv, isR, isR_rv, rv, fget, fput, cats, Value.category, List.headD_cons, List.getD_cons_zero, List.getD_cons_succ, List.drop_succ_cons, List.drop_zero, List.take_succ_cons, List.take_zero, List.reverse_cons, List.reverse_nil, List.nil_append, List.cons_append, List.length_cons, List.length_nil, cond_true, cond_false, and_true, true_and, Nat.zero_add, Nat.add_zero, Nat.reduceAdd, Nat.reduceLT, Nat.reduceLeDiff, Nat.reduceEqDiff, Nat.reduceBEq, Nat.reduceSub, ↓reduceIte, Int32.reduceOfNat, Int64.reduceOfNat, reduceCtorEq, Nat.le_refl, Nat.zero_le, Bool.false_eq_true, beq_self_eq_true, Fin.isValue, Fin.val_zero, Fin.val_one, Fin.reduceFinMk, Fin.val_two, Nat.reduceMod, Bool.or_false, Bool.or_true, Bool.true_or, Bool.false_or, not_true_eq_false, not_false_eq_true, true_or, or_true, implies_true, false_implies, true_implies, Int32.reduceLT, Int32.reduceLE, ↓w_TAB3, ↓w_TAB4, ↓w_TAB5, ↓w_TAB7, ↓w_TAB10, ↓w_LK2, ↓w_LK6, false_and, and_false, i1z, i2z, iz1, im0, im1, l0z, hasK_uI, hasK_uL, hasK_uR, hasK_uZ, hasK_sRow, mR_uI, mR_uL, mR_uZ, mR_sRow, mI_uL, mI_uR, mI_uZ, mL_uI, mL_uR, mL_uZ, mL_sRow, LF.hk hL, layF, LF.r hL, refF, ne_eq, not_false_eq_true, Option.some.injEq, Sum.inl.injEq, Sum.inr.injEq, Prod.mk.injEq, exists_eq_left, exists_eq_left']
  refine c_findKey ms hm ho (hb 5 (by omega) rfl) hR hj (by omega) rfl (fun q1 => ⟨some _, rfl, ?_⟩) (fun q1 => ⟨none, rfl, ?_⟩)
  · rw [if_pos q1] at hQ
    refine r_X4_refusal (fun n => n == 9 || n == 21 || n == 36 || n == 52 || n == 121) 60 ?_
    simp only [cd_X4_refusal, cf_X4_refusal, wp, wq, wpI, cdF, w_CI, w_CL, w_CN, w_LI, w_LL, w_LA, w_SI, w_SL, w_SA, w_INC, w_II, w_IId, w_LLb, w_LLd, w_LS, w_I1, w_L1, w_I2L, w_L2I, w_CMP, w_DUP, w_POP, w_DUP2, w_IF, w_IC, w_GO, w_NUL, w_ACN, prs, w_GF, w_PF, w_GS, w_IAL, w_LEN, w_LAL, w_ZAL, w_AAL, w_IAS, w_LAS, w_ZAS, w_AAS, w_RI, w_RL, w_RA, w_NEW, w_NA, w_MNA, w_OI, w_THR, w_CV, w_CS, w_CN9, w_CI9, w_MX, w_cont, lget, sto1, sto2, wideV, vo, vo_rv, isR, isR_rv, rv, fget, fput, cats, Value.category, List.headD_cons, List.getD_cons_zero, List.getD_cons_succ, List.drop_succ_cons, List.drop_zero, List.take_succ_cons, List.take_zero, List.reverse_cons, List.reverse_nil, List.nil_append, List.cons_append, List.length_cons, List.length_nil, cond_true, cond_false, and_true, true_and, Nat.zero_add, Nat.add_zero, Nat.reduceAdd, Nat.reduceLT, Nat.reduceLeDiff, Nat.reduceEqDiff, Nat.reduceBEq, Nat.reduceSub, ↓reduceIte, Int32.reduceOfNat, Int64.reduceOfNat, reduceCtorEq, Nat.le_refl, Nat.zero_le, Bool.false_eq_true, beq_self_eq_true, Fin.isValue, Fin.val_zero, Fin.val_one, Fin.reduceFinMk, Fin.val_two, Nat.reduceMod, Bool.or_false, Bool.or_true, Bool.true_or, Bool.false_or, not_true_eq_false, not_false_eq_true, true_or, or_true, implies_true, false_implies, true_implies, Int32.reduceLT, Int32.reduceLE, ↓w_TAB3, ↓w_TAB4, ↓w_TAB5, ↓w_TAB7, ↓w_TAB10, ↓w_LK2, ↓w_LK6, false_and, and_false, i1z, i2z, iz1, im0, im1, l0z]
    exact hQ
  rw [if_neg q1] at hQ
  refine r_X4_refusal (fun n => n == 9 || n == 21 || n == 36 || n == 52 || n == 121) 60 ?_
  simp only [cd_X4_refusal, cf_X4_refusal, wp, wq, wpI, cdF, w_CI, w_CL, w_CN, w_LI, w_LL, w_LA, w_SI, w_SL, w_SA, w_INC, w_II, w_IId, w_LLb, w_LLd, w_LS, w_I1, w_L1, w_I2L, w_L2I, w_CMP, w_DUP, w_POP, w_DUP2, w_IF, w_IC, w_GO, w_NUL, w_ACN, prs, w_GF, w_PF, w_GS, w_IAL, w_LEN, w_LAL, w_ZAL, w_AAL, w_IAS, w_LAS, w_ZAS, w_AAS, w_RI, w_RL, w_RA, w_NEW, w_NA, w_MNA, w_OI, w_THR, w_CV, w_CS, w_CN9, w_CI9, w_MX, w_cont, lget, sto1, sto2, wideV, vo, vo_rv, isR, isR_rv, rv, fget, fput, cats, Value.category, List.headD_cons, List.getD_cons_zero, List.getD_cons_succ, List.drop_succ_cons, List.drop_zero, List.take_succ_cons, List.take_zero, List.reverse_cons, List.reverse_nil, List.nil_append, List.cons_append, List.length_cons, List.length_nil, cond_true, cond_false, and_true, true_and, Nat.zero_add, Nat.add_zero, Nat.reduceAdd, Nat.reduceLT, Nat.reduceLeDiff, Nat.reduceEqDiff, Nat.reduceBEq, Nat.reduceSub, ↓reduceIte, Int32.reduceOfNat, Int64.reduceOfNat, reduceCtorEq, Nat.le_refl, Nat.zero_le, Bool.false_eq_true, beq_self_eq_true, Fin.isValue, Fin.val_zero, Fin.val_one, Fin.reduceFinMk, Fin.val_two, Nat.reduceMod, Bool.or_false, Bool.or_true, Bool.true_or, Bool.false_or, not_true_eq_false, not_false_eq_true, true_or, or_true, implies_true, false_implies, true_implies, Int32.reduceLT, Int32.reduceLE, ↓w_TAB3, ↓w_TAB4, ↓w_TAB5, ↓w_TAB7, ↓w_TAB10, ↓w_LK2, ↓w_LK6, false_and, and_false, i1z, i2z, iz1, im0, im1, l0z, hasK_uI, hasK_uL, hasK_uR, hasK_uZ, hasK_sRow, mR_uI, mR_uL, mR_uZ, mR_sRow, mI_uL, mI_uR, mI_uZ, mL_uI, mL_uR, mL_uZ, mL_sRow, LF.hk hL, layF, LF.r hL, refF, ne_eq, not_false_eq_true, Option.some.injEq, Sum.inl.injEq, Sum.inr.injEq, Prod.mk.injEq, exists_eq_left, exists_eq_left']
  refine c_numOf (s := 9) ms hm ho (by omega) (hb 9 (by omega) rfl) rfl ⟨_, rfl, ?_⟩
  refine r_X4_refusal (fun n => n == 9 || n == 21 || n == 36 || n == 52 || n == 121) 60 ?_
  simp only [cd_X4_refusal, cf_X4_refusal, wp, wq, wpI, cdF, w_CI, w_CL, w_CN, w_LI, w_LL, w_LA, w_SI, w_SL, w_SA, w_INC, w_II, w_IId, w_LLb, w_LLd, w_LS, w_I1, w_L1, w_I2L, w_L2I, w_CMP, w_DUP, w_POP, w_DUP2, w_IF, w_IC, w_GO, w_NUL, w_ACN, prs, w_GF, w_PF, w_GS, w_IAL, w_LEN, w_LAL, w_ZAL, w_AAL, w_IAS, w_LAS, w_ZAS, w_AAS, w_RI, w_RL, w_RA, w_NEW, w_NA, w_MNA, w_OI, w_THR, w_CV, w_CS, w_CN9, w_CI9, w_MX, w_cont, lget, sto1, sto2, wideV, vo, vo_rv, isR, isR_rv, rv, fget, fput, cats, Value.category, List.headD_cons, List.getD_cons_zero, List.getD_cons_succ, List.drop_succ_cons, List.drop_zero, List.take_succ_cons, List.take_zero, List.reverse_cons, List.reverse_nil, List.nil_append, List.cons_append, List.length_cons, List.length_nil, cond_true, cond_false, and_true, true_and, Nat.zero_add, Nat.add_zero, Nat.reduceAdd, Nat.reduceLT, Nat.reduceLeDiff, Nat.reduceEqDiff, Nat.reduceBEq, Nat.reduceSub, ↓reduceIte, Int32.reduceOfNat, Int64.reduceOfNat, reduceCtorEq, Nat.le_refl, Nat.zero_le, Bool.false_eq_true, beq_self_eq_true, Fin.isValue, Fin.val_zero, Fin.val_one, Fin.reduceFinMk, Fin.val_two, Nat.reduceMod, Bool.or_false, Bool.or_true, Bool.true_or, Bool.false_or, not_true_eq_false, not_false_eq_true, true_or, or_true, implies_true, false_implies, true_implies, Int32.reduceLT, Int32.reduceLE, ↓w_TAB3, ↓w_TAB4, ↓w_TAB5, ↓w_TAB7, ↓w_TAB10, ↓w_LK2, ↓w_LK6, false_and, and_false, i1z, i2z, iz1, im0, im1, l0z, cmp_eq, hasK_uI, hasK_uL, hasK_uR, hasK_uZ, hasK_sRow, mR_uI, mR_uL, mR_uZ, mR_sRow, mI_uL, mI_uR, mI_uZ, mL_uI, mL_uR, mL_uZ, mL_sRow, LF.hk hL, layF, LF.r hL, refF, ne_eq, not_false_eq_true, Option.some.injEq, Sum.inl.injEq, Sum.inr.injEq, Prod.mk.injEq, exists_eq_left, exists_eq_left']
  refine and_ii (fun q2 => ?_) (fun q2 => ?_)
  rotate_left
  · rw [if_pos (fun e => q2 (l9.mpr e))] at hQ
    exact hQ
  rw [if_neg (fun e => e (l9.mp q2))] at hQ
  refine c_numOf (s := 2) ms hm ho (by omega) (hb 2 (by omega) rfl) rfl ⟨_, rfl, ?_⟩
  refine r_X4_refusal (fun n => n == 9 || n == 21 || n == 36 || n == 52 || n == 121) 60 ?_
  simp only [cd_X4_refusal, cf_X4_refusal, wp, wq, wpI, cdF, w_CI, w_CL, w_CN, w_LI, w_LL, w_LA, w_SI, w_SL, w_SA, w_INC, w_II, w_IId, w_LLb, w_LLd, w_LS, w_I1, w_L1, w_I2L, w_L2I, w_CMP, w_DUP, w_POP, w_DUP2, w_IF, w_IC, w_GO, w_NUL, w_ACN, prs, w_GF, w_PF, w_GS, w_IAL, w_LEN, w_LAL, w_ZAL, w_AAL, w_IAS, w_LAS, w_ZAS, w_AAS, w_RI, w_RL, w_RA, w_NEW, w_NA, w_MNA, w_OI, w_THR, w_CV, w_CS, w_CN9, w_CI9, w_MX, w_cont, lget, sto1, sto2, wideV, vo, vo_rv, isR, isR_rv, rv, fget, fput, cats, Value.category, List.headD_cons, List.getD_cons_zero, List.getD_cons_succ, List.drop_succ_cons, List.drop_zero, List.take_succ_cons, List.take_zero, List.reverse_cons, List.reverse_nil, List.nil_append, List.cons_append, List.length_cons, List.length_nil, cond_true, cond_false, and_true, true_and, Nat.zero_add, Nat.add_zero, Nat.reduceAdd, Nat.reduceLT, Nat.reduceLeDiff, Nat.reduceEqDiff, Nat.reduceBEq, Nat.reduceSub, ↓reduceIte, Int32.reduceOfNat, Int64.reduceOfNat, reduceCtorEq, Nat.le_refl, Nat.zero_le, Bool.false_eq_true, beq_self_eq_true, Fin.isValue, Fin.val_zero, Fin.val_one, Fin.reduceFinMk, Fin.val_two, Nat.reduceMod, Bool.or_false, Bool.or_true, Bool.true_or, Bool.false_or, not_true_eq_false, not_false_eq_true, true_or, or_true, implies_true, false_implies, true_implies, Int32.reduceLT, Int32.reduceLE, ↓w_TAB3, ↓w_TAB4, ↓w_TAB5, ↓w_TAB7, ↓w_TAB10, ↓w_LK2, ↓w_LK6, false_and, and_false, i1z, i2z, iz1, im0, im1, l0z, cmp_eq, hasK_uI, hasK_uL, hasK_uR, hasK_uZ, hasK_sRow, mR_uI, mR_uL, mR_uZ, mR_sRow, mI_uL, mI_uR, mI_uZ, mL_uI, mL_uR, mL_uZ, mL_sRow, LF.hk hL, layF, LF.r hL, refF, ne_eq, not_false_eq_true, Option.some.injEq, Sum.inl.injEq, Sum.inr.injEq, Prod.mk.injEq, exists_eq_left, exists_eq_left']
  refine and_ii (fun q3 => ?_) (fun q3 => ?_)
  rotate_left
  · rw [if_pos (l2.mp (Classical.not_not.mp q3))] at hQ
    exact hQ
  rw [if_neg (fun e => q3 (l2.mpr e))] at hQ
  refine c_issOfCard ms hm ho (hb 0 (by omega) rfl) hR hj ⟨_, rfl, ?_⟩
  have er7 : ∀ r : Fin 7, (nI r.val - 1 = -1) ↔ r.val = 0 := by decide
  have er : (nI (rtM S m) - 1 = -1) ↔ rtM S m = 0 := er7 ⟨rtM S m, by omega⟩
  refine r_X4_refusal (fun n => n == 67 || n == 9 || n == 21 || n == 36 || n == 52 || n == 121) 60 ?_
  simp only [cd_X4_refusal, cf_X4_refusal, wp, wq, wpI, cdF, w_CI, w_CL, w_CN, w_LI, w_LL, w_LA, w_SI, w_SL, w_SA, w_INC, w_II, w_IId, w_LLb, w_LLd, w_LS, w_I1, w_L1, w_I2L, w_L2I, w_CMP, w_DUP, w_POP, w_DUP2, w_IF, w_IC, w_GO, w_NUL, w_ACN, prs, w_GF, w_PF, w_GS, w_IAL, w_LEN, w_LAL, w_ZAL, w_AAL, w_IAS, w_LAS, w_ZAS, w_AAS, w_RI, w_RL, w_RA, w_NEW, w_NA, w_MNA, w_OI, w_THR, w_CV, w_CS, w_CN9, w_CI9, w_MX, w_cont, lget, sto1, sto2, wideV, vo, vo_rv, isR, isR_rv, rv, fget, fput, cats, Value.category, List.headD_cons, List.getD_cons_zero, List.getD_cons_succ, List.drop_succ_cons, List.drop_zero, List.take_succ_cons, List.take_zero, List.reverse_cons, List.reverse_nil, List.nil_append, List.cons_append, List.length_cons, List.length_nil, cond_true, cond_false, and_true, true_and, Nat.zero_add, Nat.add_zero, Nat.reduceAdd, Nat.reduceLT, Nat.reduceLeDiff, Nat.reduceEqDiff, Nat.reduceBEq, Nat.reduceSub, ↓reduceIte, Int32.reduceOfNat, Int64.reduceOfNat, reduceCtorEq, Nat.le_refl, Nat.zero_le, Bool.false_eq_true, beq_self_eq_true, Fin.isValue, Fin.val_zero, Fin.val_one, Fin.reduceFinMk, Fin.val_two, Nat.reduceMod, Bool.or_false, Bool.or_true, Bool.true_or, Bool.false_or, not_true_eq_false, not_false_eq_true, true_or, or_true, implies_true, false_implies, true_implies, Int32.reduceLT, Int32.reduceLE, ↓w_TAB3, ↓w_TAB4, ↓w_TAB5, ↓w_TAB7, ↓w_TAB10, ↓w_LK2, ↓w_LK6, false_and, and_false, i1z, i2z, iz1, im0, im1, l0z]
  refine and_ii (fun q4 => ?_) (fun q4 => ?_)
  rotate_left
  · rw [if_pos (er.mp (Classical.not_not.mp q4))] at hQ
    exact hQ
  rw [if_neg (fun e => q4 (er.mpr e))] at hQ
  by_cases q5 : fCm S m = sN S 34
  · rw [if_pos q5] at hQ
    rw [if_neg (by omega)]
    refine ⟨fun q => absurd rfl q, fun _ => hQ⟩
  rw [if_neg q5] at hQ
  have hcl : fCm S m < sN S 34 := by omega
  rw [if_pos hcl]
  have tc := nI_toInt (n := fCm S m) (by omega)
  have hne : ¬ nI (fCm S m) = -1 := by rw [i_eq, tc]; simp
  refine ⟨fun _ => ?_, fun q => absurd q (by simpa using hne)⟩
  have cc := nI_clamp (n := fCm S m) (by omega)
  have hacc := hj.2.1.2.2.2.2.1 _ hcl
  have hacc64 : sI S 514 (fCm S m) < 64 := by omega
  have ca := nI_clamp (n := sI S 514 (fCm S m)) (by omega)
  have hrow := hI.2.2.2 (fCm S m) (by omega)
  have h515 := hj.2.1.2.2.2.2.2 (fCm S m) (by omega)
  have t515 := nI_toInt (n := sI S 515 (fCm S m)) (by omega)
  have hak := acc_k hL hacc64
  have t11 := nI_toInt (n := sN S 11) (by omega)
  have t14 := nI_toInt (n := sN S 14) (by omega)
  have t16 := nI_toInt (n := sN S 16) (by omega)
  have tw : (nI (sN S 11) - nI (sN S 14)).toInt = (sN S 11 : Int) - sN S 14 := by rw [i_sub] <;> rw [t11, t14] <;> omega
  refine r_X4_refusal (fun n => n == 9 || n == 21 || n == 36 || n == 52 || n == 121) 60 ?_
  simp only [cd_X4_refusal, cf_X4_refusal, wp, wq, wpI, cdF, w_CI, w_CL, w_CN, w_LI, w_LL, w_LA, w_SI, w_SL, w_SA, w_INC, w_II, w_IId, w_LLb, w_LLd, w_LS, w_I1, w_L1, w_I2L, w_L2I, w_CMP, w_DUP, w_POP, w_DUP2, w_IF, w_IC, w_GO, w_NUL, w_ACN, prs, w_GF, w_PF, w_GS, w_IAL, w_LEN, w_LAL, w_ZAL, w_AAL, w_IAS, w_LAS, w_ZAS, w_AAS, w_RI, w_RL, w_RA, w_NEW, w_NA, w_MNA, w_OI, w_THR, w_CV, w_CS, w_CN9, w_CI9, w_MX, w_cont, lget, sto1, sto2, wideV, vo, vo_rv, isR, isR_rv, rv, fget, fput, cats, Value.category, List.headD_cons, List.getD_cons_zero, List.getD_cons_succ, List.drop_succ_cons, List.drop_zero, List.take_succ_cons, List.take_zero, List.reverse_cons, List.reverse_nil, List.nil_append, List.cons_append, List.length_cons, List.length_nil, cond_true, cond_false, and_true, true_and, Nat.zero_add, Nat.add_zero, Nat.reduceAdd, Nat.reduceLT, Nat.reduceLeDiff, Nat.reduceEqDiff, Nat.reduceBEq, Nat.reduceSub, ↓reduceIte, Int32.reduceOfNat, Int64.reduceOfNat, reduceCtorEq, Nat.le_refl, Nat.zero_le, Bool.false_eq_true, beq_self_eq_true, Fin.isValue, Fin.val_zero, Fin.val_one, Fin.reduceFinMk, Fin.val_two, Nat.reduceMod, Bool.or_false, Bool.or_true, Bool.true_or, Bool.false_or, not_true_eq_false, not_false_eq_true, true_or, or_true, implies_true, false_implies, true_implies, Int32.reduceLT, Int32.reduceLE, ↓w_TAB3, ↓w_TAB4, ↓w_TAB5, ↓w_TAB7, ↓w_TAB10, ↓w_LK2, ↓w_LK6, false_and, and_false, i1z, i2z, iz1, im0, im1, l0z, hasK_uI, hasK_uL, hasK_uR, hasK_uZ, hasK_sRow, mR_uI, mR_uL, mR_uZ, mR_sRow, mI_uL, mI_uR, mI_uZ, mL_uI, mL_uR, mL_uZ, mL_sRow, LF.hg hL, layF, LF.r hL, refF, ne_eq, not_false_eq_true, Option.some.injEq, Sum.inl.injEq, Sum.inr.injEq, Prod.mk.injEq, exists_eq_left, exists_eq_left', cc, hrow.1, hrow.2, ca, hak.2.2.2, hn, hak.1]
  have hv := vp_in_nI (n := fCm S m) (N := 100) (by omega) (by omega)
  refine ⟨hv, and_ii (fun q6 => ?_) (fun q6 => ?_)⟩
  rotate_left
  · rw [if_pos (by (simp only [i_lt, i_le, i_eq, l_lt, l_le, l_eq, Int32.toInt_toInt64, Int32.reduceToInt, Int64.reduceToInt, ne_eq, Classical.not_not] at *; omega))] at hQ
    exact hQ
  rw [if_neg (by (simp only [i_lt, i_le, i_eq, l_lt, l_le, l_eq, Int32.toInt_toInt64, Int32.reduceToInt, Int64.reduceToInt, ne_eq, Classical.not_not] at *; omega))] at hQ
  refine ⟨hv, _, _, ⟨⟨rfl, rfl⟩, rfl⟩, vp_in_nI hacc64 (by omega), ?_⟩
  refine c_since (T := (sN S 11 : Int) - sN S 14) hL hacc64 hA hN hj tw ⟨_, rfl, ?_⟩
  have ec : cntA ((sN S 11 : Int) - sN S 14) (sQ S (sI S 514 (fCm S m))) = apr S (sI S 514 (fCm S m)) := rfl
  rw [ec]
  have hap : apr S (sI S 514 (fCm S m)) ≤ 8 := Nat.le_trans cntA_le (hj.2.2.2.2.2.2.1 _ hacc64).1
  have tap := nI_toInt (n := apr S (sI S 514 (fCm S m))) (by omega)
  refine r_X4_refusal (fun n => n == 9 || n == 21 || n == 36 || n == 52 || n == 121) 60 ?_
  simp only [cd_X4_refusal, cf_X4_refusal, wp, wq, wpI, cdF, w_CI, w_CL, w_CN, w_LI, w_LL, w_LA, w_SI, w_SL, w_SA, w_INC, w_II, w_IId, w_LLb, w_LLd, w_LS, w_I1, w_L1, w_I2L, w_L2I, w_CMP, w_DUP, w_POP, w_DUP2, w_IF, w_IC, w_GO, w_NUL, w_ACN, prs, w_GF, w_PF, w_GS, w_IAL, w_LEN, w_LAL, w_ZAL, w_AAL, w_IAS, w_LAS, w_ZAS, w_AAS, w_RI, w_RL, w_RA, w_NEW, w_NA, w_MNA, w_OI, w_THR, w_CV, w_CS, w_CN9, w_CI9, w_MX, w_cont, lget, sto1, sto2, wideV, vo, vo_rv, isR, isR_rv, rv, fget, fput, cats, Value.category, List.headD_cons, List.getD_cons_zero, List.getD_cons_succ, List.drop_succ_cons, List.drop_zero, List.take_succ_cons, List.take_zero, List.reverse_cons, List.reverse_nil, List.nil_append, List.cons_append, List.length_cons, List.length_nil, cond_true, cond_false, and_true, true_and, Nat.zero_add, Nat.add_zero, Nat.reduceAdd, Nat.reduceLT, Nat.reduceLeDiff, Nat.reduceEqDiff, Nat.reduceBEq, Nat.reduceSub, ↓reduceIte, Int32.reduceOfNat, Int64.reduceOfNat, reduceCtorEq, Nat.le_refl, Nat.zero_le, Bool.false_eq_true, beq_self_eq_true, Fin.isValue, Fin.val_zero, Fin.val_one, Fin.reduceFinMk, Fin.val_two, Nat.reduceMod, Bool.or_false, Bool.or_true, Bool.true_or, Bool.false_or, not_true_eq_false, not_false_eq_true, true_or, or_true, implies_true, false_implies, true_implies, Int32.reduceLT, Int32.reduceLE, ↓w_TAB3, ↓w_TAB4, ↓w_TAB5, ↓w_TAB7, ↓w_TAB10, ↓w_LK2, ↓w_LK6, false_and, and_false, i1z, i2z, iz1, im0, im1, l0z, hasK_uI, hasK_uL, hasK_uR, hasK_uZ, hasK_sRow, mR_uI, mR_uL, mR_uZ, mR_sRow, mI_uL, mI_uR, mI_uZ, mL_uI, mL_uR, mL_uZ, mL_sRow, LF.hk hL, layF, LF.r hL, refF, ne_eq, not_false_eq_true, Option.some.injEq, Sum.inl.injEq, Sum.inr.injEq, Prod.mk.injEq, exists_eq_left, exists_eq_left', hn]
  refine and_ii (fun q7 => ?_) (fun q7 => ?_)
  rotate_left
  · rw [if_pos (by (simp only [i_lt, i_le, i_eq, l_lt, l_le, l_eq, Int32.toInt_toInt64, Int32.reduceToInt, Int64.reduceToInt, ne_eq, Classical.not_not] at *; omega))] at hQ
    exact hQ
  rw [if_neg (by (simp only [i_lt, i_le, i_eq, l_lt, l_le, l_eq, Int32.toInt_toInt64, Int32.reduceToInt, Int64.reduceToInt, ne_eq, Classical.not_not] at *; omega))] at hQ
  refine and_ii (fun q8 => ?_) (fun q8 => ?_)
  · rw [if_neg (by (simp only [i_lt, i_le, i_eq, l_lt, l_le, l_eq, Int32.toInt_toInt64, Int32.reduceToInt, Int64.reduceToInt, ne_eq, Classical.not_not] at *; omega))] at hQ
    exact hQ
  · rw [if_pos (by (simp only [i_lt, i_le, i_eq, l_lt, l_le, l_eq, Int32.toInt_toInt64, Int32.reduceToInt, Int64.reduceToInt, ne_eq, Classical.not_not] at *; omega))] at hQ
    exact hQ
/-- an answer that is under way: the book, the message, the answer -/
def DK (w : Nat → Nat) (o : Nat) (c : Nat → Nat) (S : Sw) (m mx : Msg) (M0 M : Mem) : Prop := RC w o c S M ∧ msgC M 454 455 457 m ∧ msgC M 474 475 477 mx ∧ hiS M0 M
/-- the answer's own places change -/
def anW (M0 M : Mem) : Prop := mL M = mL M0 ∧ mR M = mR M0 ∧ M.1 = M0.1 ∧ ∀ b j, (b < 474 ∨ 492 < b) → mI M b j = mI M0 b j
theorem anW_P {th s n : Nat} {f : Nat → Nat} (hs : s < 16) : anW M (msP M 474 th s n f) := ⟨rfl, rfl, rfl, fun b j hb => by unfold msP; rw [mI_nr (by omega), mI_ne (by omega), mI_ne (by omega)]⟩
theorem anW_t (h : anW M0 M) (h' : anW M M') : anW M0 M' := ⟨h'.1.trans h.1, h'.2.1.trans h.2.1, h'.2.2.1.trans h.2.2.1, fun c i hc => (h'.2.2.2 c i hc).trans (h.2.2.2 c i hc)⟩
theorem anW_L (h : anW M0 M) (hL : LF M0) : LF M := by
  obtain ⟨h1, h2, h3, h4⟩ := h
  obtain ⟨a1, a2, a3, a4, a5, a6, a7, a8, a9⟩ := hL
  refine ⟨by show M.1.1 = _; rw [h3]; exact a1, by show M.1.2.1 = _; rw [h3]; exact a2, ?_, ?_, ?_, ?_, ?_, ?_, ?_⟩ <;> (rw [h2]; assumption)
theorem hiS_an (h : hiS Mz M0) (hw : anW M0 M) : hiS Mz M := fun b hb => (h b hb).trans ⟨by funext j; exact hw.2.2.2 b j (by omega), by rw [hw.1], by rw [hw.2.1]⟩
theorem msgC_an (hm : msgC M0 454 455 457 m) (hw : anW M0 M) : msgC M 454 455 457 m := ⟨by rw [hw.2.2.2 _ _ (by omega)]; exact hm.1, by rw [hw.2.2.2 _ _ (by omega)]; exact hm.2.1, fun s hs hp => ⟨by rw [hw.2.2.2 _ _ (by omega)]; exact (hm.2.2 s hs hp).1, fun i hi => by rw [hw.2.2.2 _ _ (by omega)]; exact (hm.2.2 s hs hp).2 i hi⟩⟩
theorem RC_an {w o c} (h : RC w o c S M0) (hw : anW M0 M) (h60 : sN S 39 ≤ 60) : RC w o c S M := by
  obtain ⟨hL, hN, hI, hLl, hF, hS, hA, hC, hP, hRr, hD, hT, hZ⟩ := h
  have e := hw.2.2.2
  refine ⟨anW_L hw hL, ?_, ?_, ?_, ?_, ?_, ?_, ?_, ?_, ?_, ?_, ?_, ?_⟩
  · unfold cN at hN ⊢
    simp only [e _ _ (Or.inl (show 0 < 474 by omega)), e _ _ (Or.inl (show 1 < 474 by omega)), e _ _ (Or.inl (show 139 < 474 by omega)), e _ _ (Or.inl (show 328 < 474 by omega)), e _ _ (Or.inl (show 431 < 474 by omega))]
    exact hN
  · exact ⟨fun i hi => by rw [e _ _ (by omega), e _ _ (by omega), e _ _ (by omega)]; exact hI.1 i hi, fun i hi => by rw [e _ _ (by omega), e _ _ (by omega), e _ _ (by omega)]; exact hI.2.1 i hi, fun i hi => by rw [e _ _ (by omega)]; exact hI.2.2.1 i hi, fun i hi => by rw [e _ _ (by omega), e _ _ (by omega)]; exact hI.2.2.2 i hi⟩
  · unfold cL at hLl ⊢; rw [hw.1]; exact hLl
  · exact fun i hi => by rw [e _ _ (by omega), hw.1]; exact hF i hi
  · unfold cS at hS ⊢; rw [hw.1]; exact hS
  · exact fun i hi => by rw [e _ _ (by omega), e _ _ (by omega)]; exact ⟨(hA i hi).1, (hA i hi).2.1, fun k hk => by rw [e _ _ (by omega)]; exact (hA i hi).2.2 k hk⟩
  · unfold cC at hC ⊢; rw [hw.1]; exact hC
  · refine ⟨fun i hi => by rw [hw.2.1]; exact hP.1 i hi, hP.2.1, fun i hi => ?_⟩
    have hwi := (hP.1 i (by omega)).2
    have sa : ∀ b, b < 474 → sA M0 M b := fun b hb => ⟨by funext j; exact e b j (Or.inl hb), by rw [hw.1], by rw [hw.2.1]⟩
    exact payC_fr (hP.2.2 i hi) (sa _ (by omega)) (sa _ (by omega)) (sa _ (by omega))
  · obtain ⟨h1, h2, h3, h4⟩ := hRr
    refine ⟨by rw [e _ _ (by omega)]; exact h1, h2, h3, fun k hk => ?_⟩
    obtain ⟨q1, q2, q3, q4, q5, q6⟩ := h4 k hk
    have hb : (o + k) % 24 < 24 := Nat.mod_lt _ (by omega)
    exact ⟨by rw [e _ _ (by omega)]; exact q1, by rw [e _ _ (by omega)]; exact q2, by rw [e _ _ (by omega)]; exact q3, by rw [e _ _ (by omega)]; exact q4, ⟨by rw [e _ _ (by omega)]; exact q5.1, fun i hi => by rw [e _ _ (by omega)]; exact q5.2 i hi⟩, ⟨by rw [e _ _ (by omega)]; exact q6.1, fun i hi => by rw [e _ _ (by omega)]; exact q6.2 i hi⟩⟩
  · exact ⟨by rw [e _ _ (by omega)]; exact hD.1, by rw [e _ _ (by omega)]; exact hD.2.1, fun s hs hp => ⟨by rw [e _ _ (by omega)]; exact (hD.2.2 s hs hp).1, fun i hi => by rw [e _ _ (by omega)]; exact (hD.2.2 s hs hp).2 i hi⟩⟩
  · exact ⟨by rw [e _ _ (by omega)]; exact hT.1, fun i hi => by rw [e _ _ (by omega)]; exact hT.2 i hi⟩
  · exact ⟨by rw [e _ _ (by omega)]; exact hZ.1, fun i hi => by rw [e _ _ (by omega)]; exact hZ.2 i hi⟩
theorem DK_put {s n : Nat} {f : Nat → Nat} (h : DK w o c S m mx M0 M) (hs : s < 16) (h60 : sN S 39 ≤ 60) : DK w o c S m (pt mx s n f) M0 (msP M 474 (gH mx) s n f) := ⟨RC_an h.1 (anW_P hs) h60, msgC_an h.2.1 (anW_P hs), msgC_pt h.2.2.1 hs, hiS_an h.2.2.2 (anW_P hs)⟩
theorem c_ansN {s v : Nat} (h : DK w o c S m mx M0 M) (h60 : sN S 39 ≤ 60) (hs : s < 16) (hv : v < 9223372036854775808) (hx : x = nI s) (hz : z = lI v) (hQ : ∀ M', DK w o c S m (ptN mx s v) M0 M' → Q none M') : Ct G (MT 62) [.ref 474, .int x, .long z] M Q X := by
  subst hx
  exact c_putNumber (MS_a h.1.1) h.2.2.1.2.1 hs hv hz (hQ _ (DK_put h hs h60))
theorem c_ansX {s v r : Nat} (h : DK w o c S m mx M0 M) (h60 : sN S 39 ≤ 60) (hs : s < 16) (hr : 1 < r ∧ r < 100) (hv : v < 9223372036854775808) (hx : x = nI s) (hz : z = lI v) (hy : y = nI r) (hQ : ∀ M', DK w o c S m (ptX mx s r v) M0 M' → Q none M') : Ct G (MT 63) [.ref 474, .int x, .long z, .int y] M Q X := by
  subst hx hy
  exact c_putFixed (MS_a h.1.1) h.2.2.1.2.1 hs hr hv hz (hQ _ (DK_put h hs h60))
theorem c_lt (hR : RC w o c S M) (hj : Jv t S) : ∀ a, a < 64 → (c a : Int) < sN S 12 := fun a ha => by
  have h1 := (hR.2.2.2.2.2.2.1 a ha).2.1.2
  have h2 := hR.2.1.2.2.2.2.2.2.2.2.2.2.2.1
  have hs := hj.1
  unfold jS at hs
  rw [h2, nI_toInt (by omega)] at h1
  exact h1
set_option maxRecDepth 20000 in
theorem c_authorise (h : DK w o c S m mx M0 M) (hj : Jv t S) (ho : okM m) (hb : ∀ s, s < 16 → pb 831 s = 1 → pb (gH m) s = 1) (ha : a < sN S 17) (hx : x = nI a) (hQ : ∀ c' M', DK w o c' (apv S a m).2.2 m ((apv S a m).2.1 mx) M0 M' → Q (some (.int (nI (apv S a m).1))) M') : Ct G (MT 45) [.ref 473, .int x, .ref 454] M Q X := by
  subst hx
  obtain ⟨hR, hm, hx, hh⟩ := id h
  obtain ⟨hL, hN, hI, hLl, hF, hS, hA, hC, hP, hRr, hD, hT, hZ⟩ := id hR
  have hs := hj.1
  have hn := hN
  unfold cN at hn
  unfold jS at hs
  have ms := MS_r hL
  have hfc := fCm_le (m := m) hj
  have v2 := val_lt ho (s := 2) (by omega) (hb 2 (by omega) rfl) rfl
  have v1 := val_lt ho (s := 1) (by omega) (hb 1 (by omega) rfl) rfl
  simp only [szF] at v2 v1
  refine Ct.go (L0 := [some (.ref 473), some (.int (nI a)), some (.ref 454), none, none, none, none, none, none, none, none, none]) (by decide +kernel) rfl rfl ?_
  refine r_X4_authorise (fun n => n == 8 || n == 16 || n == 55 || n == 62 || n == 89 || n == 113 || n == 146 || n == 159 || n == 176) 60 ?_
  simp only [cd_X4_authorise, cf_X4_authorise, wp, wq, wpI, cdF, w_CI, w_CL, w_CN, w_LI, w_LL, w_LA, w_SI, w_SL, w_SA, w_INC, w_II, w_IId, w_LLb, w_LLd, w_LS, w_I1, w_L1, w_I2L, w_L2I, w_CMP, w_DUP, w_POP, w_DUP2, w_IF, w_IC, w_GO, w_NUL, w_ACN, prs, w_GF, w_PF, w_GS, w_IAL, w_LEN, w_LAL, w_ZAL, w_AAL, w_IAS, w_LAS, w_ZAS, w_AAS, w_RI, w_RL, w_RA, w_NEW, w_NA, w_MNA, w_OI, w_THR, w_CV, w_CS, w_CN9, w_CI9, w_MX, w_cont, lget, sto1, sto2, wideV, vo, vo_rv, isR, isR_rv, rv, fget, fput, cats, Value.category, List.headD_cons, List.getD_cons_zero, List.getD_cons_succ, List.drop_succ_cons, List.drop_zero, List.take_succ_cons, List.take_zero, List.reverse_cons, List.reverse_nil, List.nil_append, List.cons_append, List.length_cons, List.length_nil, cond_true, cond_false, and_true, true_and, Nat.zero_add, Nat.add_zero, Nat.reduceAdd, Nat.reduceLT, Nat.reduceLeDiff, Nat.reduceEqDiff, Nat.reduceBEq, Nat.reduceSub, ↓reduceIte, Int32.reduceOfNat, Int64.reduceOfNat, reduceCtorEq, Nat.le_refl, Nat.zero_le, Bool.false_eq_true, beq_self_eq_true, Fin.isValue, Fin.val_zero, Fin.val_one, Fin.reduceFinMk, Fin.val_two, Nat.reduceMod, Bool.or_false, Bool.or_true, Bool.true_or, Bool.false_or, not_true_eq_false, not_false_eq_true, true_or, or_true, implies_true, false_implies, true_implies, Int32.reduceLT, Int32.reduceLE, ↓w_TAB3, ↓w_TAB4, ↓w_TAB5, ↓w_TAB7, ↓w_TAB10, ↓w_LK2, ↓w_LK6, false_and, and_false, i1z, i2z, iz1, im0, im1, l0z, hasK_uI, hasK_uL, hasK_uR, hasK_uZ, hasK_sRow, mR_uI, mR_uL, mR_uZ, mR_sRow, mI_uL, mI_uR, mI_uZ, mL_uI, mL_uR, mL_uZ, mL_sRow, LF.hk hL, layF, LF.r hL, refF, ne_eq, not_false_eq_true, Option.some.injEq, Sum.inl.injEq, Sum.inr.injEq, Prod.mk.injEq, exists_eq_left, exists_eq_left']
  refine c_findCard ms hm ho (hb 0 (by omega) rfl) hR hj ⟨_, rfl, ?_⟩
  refine r_X4_authorise (fun n => n == 8 || n == 16 || n == 55 || n == 62 || n == 89 || n == 113 || n == 146 || n == 159 || n == 176) 60 ?_
  simp only [cd_X4_authorise, cf_X4_authorise, wp, wq, wpI, cdF, w_CI, w_CL, w_CN, w_LI, w_LL, w_LA, w_SI, w_SL, w_SA, w_INC, w_II, w_IId, w_LLb, w_LLd, w_LS, w_I1, w_L1, w_I2L, w_L2I, w_CMP, w_DUP, w_POP, w_DUP2, w_IF, w_IC, w_GO, w_NUL, w_ACN, prs, w_GF, w_PF, w_GS, w_IAL, w_LEN, w_LAL, w_ZAL, w_AAL, w_IAS, w_LAS, w_ZAS, w_AAS, w_RI, w_RL, w_RA, w_NEW, w_NA, w_MNA, w_OI, w_THR, w_CV, w_CS, w_CN9, w_CI9, w_MX, w_cont, lget, sto1, sto2, wideV, vo, vo_rv, isR, isR_rv, rv, fget, fput, cats, Value.category, List.headD_cons, List.getD_cons_zero, List.getD_cons_succ, List.drop_succ_cons, List.drop_zero, List.take_succ_cons, List.take_zero, List.reverse_cons, List.reverse_nil, List.nil_append, List.cons_append, List.length_cons, List.length_nil, cond_true, cond_false, and_true, true_and, Nat.zero_add, Nat.add_zero, Nat.reduceAdd, Nat.reduceLT, Nat.reduceLeDiff, Nat.reduceEqDiff, Nat.reduceBEq, Nat.reduceSub, ↓reduceIte, Int32.reduceOfNat, Int64.reduceOfNat, reduceCtorEq, Nat.le_refl, Nat.zero_le, Bool.false_eq_true, beq_self_eq_true, Fin.isValue, Fin.val_zero, Fin.val_one, Fin.reduceFinMk, Fin.val_two, Nat.reduceMod, Bool.or_false, Bool.or_true, Bool.true_or, Bool.false_or, not_true_eq_false, not_false_eq_true, true_or, or_true, implies_true, false_implies, true_implies, Int32.reduceLT, Int32.reduceLE, ↓w_TAB3, ↓w_TAB4, ↓w_TAB5, ↓w_TAB7, ↓w_TAB10, ↓w_LK2, ↓w_LK6, false_and, and_false, i1z, i2z, iz1, im0, im1, l0z, hasK_uI, hasK_uL, hasK_uR, hasK_uZ, hasK_sRow, mR_uI, mR_uL, mR_uZ, mR_sRow, mI_uL, mI_uR, mI_uZ, mL_uI, mL_uR, mL_uZ, mL_sRow, LF.hk hL, layF, LF.r hL, refF, ne_eq, not_false_eq_true, Option.some.injEq, Sum.inl.injEq, Sum.inr.injEq, Prod.mk.injEq, exists_eq_left, exists_eq_left']
  refine c_refusal hR hj hm ho hb ha rfl rfl ⟨_, rfl, ?_⟩
  by_cases hr : rfs S a m = 0
  rotate_left
  · rw [apv_r hr] at hQ
    have hb99 : rfs S a m ≤ 99 := by unfold rfs; repeat' split
                                     all_goals omega
    have hne : (nI (rfs S a m) = 0) = False := eq_false (by rw [i_eq, nI_toInt (by omega)]; simp; omega)
    refine r_X4_authorise (fun n => n == 31 || n == 8 || n == 16 || n == 55 || n == 62 || n == 89 || n == 113 || n == 146 || n == 159 || n == 176) 60 ?_
    simp only [cd_X4_authorise, cf_X4_authorise, wp, wq, wpI, cdF, w_CI, w_CL, w_CN, w_LI, w_LL, w_LA, w_SI, w_SL, w_SA, w_INC, w_II, w_IId, w_LLb, w_LLd, w_LS, w_I1, w_L1, w_I2L, w_L2I, w_CMP, w_DUP, w_POP, w_DUP2, w_IF, w_IC, w_GO, w_NUL, w_ACN, prs, w_GF, w_PF, w_GS, w_IAL, w_LEN, w_LAL, w_ZAL, w_AAL, w_IAS, w_LAS, w_ZAS, w_AAS, w_RI, w_RL, w_RA, w_NEW, w_NA, w_MNA, w_OI, w_THR, w_CV, w_CS, w_CN9, w_CI9, w_MX, w_cont, lget, sto1, sto2, wideV, vo, vo_rv, isR, isR_rv, rv, fget, fput, cats, Value.category, List.headD_cons, List.getD_cons_zero, List.getD_cons_succ, List.drop_succ_cons, List.drop_zero, List.take_succ_cons, List.take_zero, List.reverse_cons, List.reverse_nil, List.nil_append, List.cons_append, List.length_cons, List.length_nil, cond_true, cond_false, and_true, true_and, Nat.zero_add, Nat.add_zero, Nat.reduceAdd, Nat.reduceLT, Nat.reduceLeDiff, Nat.reduceEqDiff, Nat.reduceBEq, Nat.reduceSub, ↓reduceIte, Int32.reduceOfNat, Int64.reduceOfNat, reduceCtorEq, Nat.le_refl, Nat.zero_le, Bool.false_eq_true, beq_self_eq_true, Fin.isValue, Fin.val_zero, Fin.val_one, Fin.reduceFinMk, Fin.val_two, Nat.reduceMod, Bool.or_false, Bool.or_true, Bool.true_or, Bool.false_or, not_true_eq_false, not_false_eq_true, true_or, or_true, implies_true, false_implies, true_implies, Int32.reduceLT, Int32.reduceLE, ↓w_TAB3, ↓w_TAB4, ↓w_TAB5, ↓w_TAB7, ↓w_TAB10, ↓w_LK2, ↓w_LK6, false_and, and_false, i1z, i2z, iz1, im0, im1, l0z, hne]
    exact hQ c M h
  obtain ⟨ea, hne, h60⟩ := apv_0 hr
  rw [ea] at hQ
  unfold apv2 at hQ
  dsimp only at hQ
  rw [hr, show nI 0 = (0 : Int32) from rfl]
  have hcl : fCm S m < sN S 34 := by omega
  rw [if_pos hcl]
  have tc := nI_toInt (n := fCm S m) (by omega)
  have hnm : (nI (fCm S m) = -1) = False := eq_false (by rw [i_eq, tc]; simp)
  have cc := nI_clamp (n := fCm S m) (by omega)
  have hacc := hj.2.1.2.2.2.2.1 _ hcl
  have hacc64 : sI S 514 (fCm S m) < 64 := by omega
  have ca := nI_clamp (n := sI S 514 (fCm S m)) (by omega)
  have hrow := hI.2.2.2 (fCm S m) (by omega)
  have hak := acc_k hL hacc64
  have hjf := hj.2.2.2.2.2.2.2.2.1 _ hacc
  generalize hae : sI S 514 (fCm S m) = acc at *
  have hfb : -1000000000000 ≤ fre S acc ∧ fre S acc ≤ 1000000000000000000 := by omega
  have fF : fL (fre S acc) := by unfold fL; omega
  have fV : fL (val m 2 : Int) := by unfold fL; omega
  have hv := vp_in_nI (n := fCm S m) (N := 100) (by omega) (by omega)
  refine r_X4_authorise (fun n => n == 31 || n == 8 || n == 16 || n == 55 || n == 62 || n == 89 || n == 113 || n == 146 || n == 159 || n == 176) 60 ?_
  simp only [cd_X4_authorise, cf_X4_authorise, wp, wq, wpI, cdF, w_CI, w_CL, w_CN, w_LI, w_LL, w_LA, w_SI, w_SL, w_SA, w_INC, w_II, w_IId, w_LLb, w_LLd, w_LS, w_I1, w_L1, w_I2L, w_L2I, w_CMP, w_DUP, w_POP, w_DUP2, w_IF, w_IC, w_GO, w_NUL, w_ACN, prs, w_GF, w_PF, w_GS, w_IAL, w_LEN, w_LAL, w_ZAL, w_AAL, w_IAS, w_LAS, w_ZAS, w_AAS, w_RI, w_RL, w_RA, w_NEW, w_NA, w_MNA, w_OI, w_THR, w_CV, w_CS, w_CN9, w_CI9, w_MX, w_cont, lget, sto1, sto2, wideV, vo, vo_rv, isR, isR_rv, rv, fget, fput, cats, Value.category, List.headD_cons, List.getD_cons_zero, List.getD_cons_succ, List.drop_succ_cons, List.drop_zero, List.take_succ_cons, List.take_zero, List.reverse_cons, List.reverse_nil, List.nil_append, List.cons_append, List.length_cons, List.length_nil, cond_true, cond_false, and_true, true_and, Nat.zero_add, Nat.add_zero, Nat.reduceAdd, Nat.reduceLT, Nat.reduceLeDiff, Nat.reduceEqDiff, Nat.reduceBEq, Nat.reduceSub, ↓reduceIte, Int32.reduceOfNat, Int64.reduceOfNat, reduceCtorEq, Nat.le_refl, Nat.zero_le, Bool.false_eq_true, beq_self_eq_true, Fin.isValue, Fin.val_zero, Fin.val_one, Fin.reduceFinMk, Fin.val_two, Nat.reduceMod, Bool.or_false, Bool.or_true, Bool.true_or, Bool.false_or, not_true_eq_false, not_false_eq_true, true_or, or_true, implies_true, false_implies, true_implies, Int32.reduceLT, Int32.reduceLE, ↓w_TAB3, ↓w_TAB4, ↓w_TAB5, ↓w_TAB7, ↓w_TAB10, ↓w_LK2, ↓w_LK6, false_and, and_false, i1z, i2z, iz1, im0, im1, l0z, hnm]
  refine r_X4_authorise (fun n => n == 8 || n == 16 || n == 55 || n == 62 || n == 89 || n == 113 || n == 146 || n == 159 || n == 176) 60 ?_
  simp only [cd_X4_authorise, cf_X4_authorise, wp, wq, wpI, cdF, w_CI, w_CL, w_CN, w_LI, w_LL, w_LA, w_SI, w_SL, w_SA, w_INC, w_II, w_IId, w_LLb, w_LLd, w_LS, w_I1, w_L1, w_I2L, w_L2I, w_CMP, w_DUP, w_POP, w_DUP2, w_IF, w_IC, w_GO, w_NUL, w_ACN, prs, w_GF, w_PF, w_GS, w_IAL, w_LEN, w_LAL, w_ZAL, w_AAL, w_IAS, w_LAS, w_ZAS, w_AAS, w_RI, w_RL, w_RA, w_NEW, w_NA, w_MNA, w_OI, w_THR, w_CV, w_CS, w_CN9, w_CI9, w_MX, w_cont, lget, sto1, sto2, wideV, vo, vo_rv, isR, isR_rv, rv, fget, fput, cats, Value.category, List.headD_cons, List.getD_cons_zero, List.getD_cons_succ, List.drop_succ_cons, List.drop_zero, List.take_succ_cons, List.take_zero, List.reverse_cons, List.reverse_nil, List.nil_append, List.cons_append, List.length_cons, List.length_nil, cond_true, cond_false, and_true, true_and, Nat.zero_add, Nat.add_zero, Nat.reduceAdd, Nat.reduceLT, Nat.reduceLeDiff, Nat.reduceEqDiff, Nat.reduceBEq, Nat.reduceSub, ↓reduceIte, Int32.reduceOfNat, Int64.reduceOfNat, reduceCtorEq, Nat.le_refl, Nat.zero_le, Bool.false_eq_true, beq_self_eq_true, Fin.isValue, Fin.val_zero, Fin.val_one, Fin.reduceFinMk, Fin.val_two, Nat.reduceMod, Bool.or_false, Bool.or_true, Bool.true_or, Bool.false_or, not_true_eq_false, not_false_eq_true, true_or, or_true, implies_true, false_implies, true_implies, Int32.reduceLT, Int32.reduceLE, ↓w_TAB3, ↓w_TAB4, ↓w_TAB5, ↓w_TAB7, ↓w_TAB10, ↓w_LK2, ↓w_LK6, false_and, and_false, i1z, i2z, iz1, im0, im1, l0z, hasK_uI, hasK_uL, hasK_uR, hasK_uZ, hasK_sRow, mR_uI, mR_uL, mR_uZ, mR_sRow, mI_uL, mI_uR, mI_uZ, mL_uI, mL_uR, mL_uZ, mL_sRow, LF.hg hL, layF, LF.r hL, refF, ne_eq, not_false_eq_true, Option.some.injEq, Sum.inl.injEq, Sum.inr.injEq, Prod.mk.injEq, exists_eq_left, exists_eq_left', cc, hrow.1, hae, ca, hak.2.2.2]
  refine ⟨hv, _, _, ⟨⟨rfl, rfl⟩, rfl⟩, vp_in_nI hacc64 (by omega), ?_⟩
  refine c_numOf (s := 2) ms hm ho (by omega) (hb 2 (by omega) rfl) rfl ⟨_, rfl, ?_⟩
  refine r_X4_authorise (fun n => n == 8 || n == 16 || n == 55 || n == 62 || n == 89 || n == 113 || n == 146 || n == 159 || n == 176) 60 ?_
  simp only [cd_X4_authorise, cf_X4_authorise, wp, wq, wpI, cdF, w_CI, w_CL, w_CN, w_LI, w_LL, w_LA, w_SI, w_SL, w_SA, w_INC, w_II, w_IId, w_LLb, w_LLd, w_LS, w_I1, w_L1, w_I2L, w_L2I, w_CMP, w_DUP, w_POP, w_DUP2, w_IF, w_IC, w_GO, w_NUL, w_ACN, prs, w_GF, w_PF, w_GS, w_IAL, w_LEN, w_LAL, w_ZAL, w_AAL, w_IAS, w_LAS, w_ZAS, w_AAS, w_RI, w_RL, w_RA, w_NEW, w_NA, w_MNA, w_OI, w_THR, w_CV, w_CS, w_CN9, w_CI9, w_MX, w_cont, lget, sto1, sto2, wideV, vo, vo_rv, isR, isR_rv, rv, fget, fput, cats, Value.category, List.headD_cons, List.getD_cons_zero, List.getD_cons_succ, List.drop_succ_cons, List.drop_zero, List.take_succ_cons, List.take_zero, List.reverse_cons, List.reverse_nil, List.nil_append, List.cons_append, List.length_cons, List.length_nil, cond_true, cond_false, and_true, true_and, Nat.zero_add, Nat.add_zero, Nat.reduceAdd, Nat.reduceLT, Nat.reduceLeDiff, Nat.reduceEqDiff, Nat.reduceBEq, Nat.reduceSub, ↓reduceIte, Int32.reduceOfNat, Int64.reduceOfNat, reduceCtorEq, Nat.le_refl, Nat.zero_le, Bool.false_eq_true, beq_self_eq_true, Fin.isValue, Fin.val_zero, Fin.val_one, Fin.reduceFinMk, Fin.val_two, Nat.reduceMod, Bool.or_false, Bool.or_true, Bool.true_or, Bool.false_or, not_true_eq_false, not_false_eq_true, true_or, or_true, implies_true, false_implies, true_implies, Int32.reduceLT, Int32.reduceLE, ↓w_TAB3, ↓w_TAB4, ↓w_TAB5, ↓w_TAB7, ↓w_TAB10, ↓w_LK2, ↓w_LK6, false_and, and_false, i1z, i2z, iz1, im0, im1, l0z, hak.1]
  refine c_free hL hacc64 hLl hS ⟨_, rfl, ?_⟩
  have v12 : sN S 12 < 9223372036854775808 := by omega
  have hgo : ∀ (wb : Bool) (hl : Int) (rs : Nat), hl = (if wb then (val m 2 : Int) else fre S acc) → 0 ≤ hl → hl < 9223372036854775807 → (∀ c' M', DK w o c' (wQ (come S (hldP S m a acc hl)) (up1 (sQ S) acc (pushA (sQ S acc) (sN S 11)))) m (ptX (ptN mx 2 hl.toNat) 6 36 (sN S 12)) M0 M' → Q (some (.int (if wb then 0 else 10))) M') → Go G (MT 45) Q X 104 [some (.ref 473), some (.int (nI a)), some (.ref 454), some (.int (nI (fCm S m))), some (.int 0), some (.ref (11 + 2 * acc)), some (.long (lI (val m 2 : Int))), none, some (.long (lI (fre S acc))), none, some (.int (nI wb.toNat)), none] [] M 0 0 := fun wb hl rs ehl h0 hb63 hQ' => by
    refine r_X4_authorise (fun n => n == 8 || n == 16 || n == 55 || n == 62 || n == 89 || n == 113 || n == 146 || n == 159 || n == 176) 60 ?_
    simp only [cd_X4_authorise, cf_X4_authorise, wp, wq, wpI, cdF, w_CI, w_CL, w_CN, w_LI, w_LL, w_LA, w_SI, w_SL, w_SA, w_INC, w_II, w_IId, w_LLb, w_LLd, w_LS, w_I1, w_L1, w_I2L, w_L2I, w_CMP, w_DUP, w_POP, w_DUP2, w_IF, w_IC, w_GO, w_NUL, w_ACN, prs, w_GF, w_PF, w_GS, w_IAL, w_LEN, w_LAL, w_ZAL, w_AAL, w_IAS, w_LAS, w_ZAS, w_AAS, w_RI, w_RL, w_RA, w_NEW, w_NA, w_MNA, w_OI, w_THR, w_CV, w_CS, w_CN9, w_CI9, w_MX, w_cont, lget, sto1, sto2, wideV, vo, vo_rv, isR, isR_rv, rv, fget, fput, cats, Value.category, List.headD_cons, List.getD_cons_zero, List.getD_cons_succ, List.drop_succ_cons, List.drop_zero, List.take_succ_cons, List.take_zero, List.reverse_cons, List.reverse_nil, List.nil_append, List.cons_append, List.length_cons, List.length_nil, cond_true, cond_false, and_true, true_and, Nat.zero_add, Nat.add_zero, Nat.reduceAdd, Nat.reduceLT, Nat.reduceLeDiff, Nat.reduceEqDiff, Nat.reduceBEq, Nat.reduceSub, ↓reduceIte, Int32.reduceOfNat, Int64.reduceOfNat, reduceCtorEq, Nat.le_refl, Nat.zero_le, Bool.false_eq_true, beq_self_eq_true, Fin.isValue, Fin.val_zero, Fin.val_one, Fin.reduceFinMk, Fin.val_two, Nat.reduceMod, Bool.or_false, Bool.or_true, Bool.true_or, Bool.false_or, not_true_eq_false, not_false_eq_true, true_or, or_true, implies_true, false_implies, true_implies, Int32.reduceLT, Int32.reduceLE, ↓w_TAB3, ↓w_TAB4, ↓w_TAB5, ↓w_TAB7, ↓w_TAB10, ↓w_LK2, ↓w_LK6, false_and, and_false, i1z, i2z, iz1, im0, im1, l0z, hasK_uI, hasK_uL, hasK_uR, hasK_uZ, hasK_sRow, mR_uI, mR_uL, mR_uZ, mR_sRow, mI_uL, mI_uR, mI_uZ, mL_uI, mL_uR, mL_uZ, mL_sRow, LF.hk hL, layF, LF.r hL, refF, ne_eq, not_false_eq_true, Option.some.injEq, Sum.inl.injEq, Sum.inr.injEq, Prod.mk.injEq, exists_eq_left, exists_eq_left']
    refine c_bbegin (a := a) (M0 := M) hR hj (hiD_rfl M) (by omega) hm ho (hb 0 (by omega) rfl) (hb 3 (by omega) rfl) (hb 5 (by omega) rfl) rfl (fun M1 re1 i1 => ⟨some _, rfl, ?_⟩)
    have l1 := re1.1
    have hfin : ∀ M2, payC M2 (148 + 3 * w (sN S 39)) (hldP S m a acc hl) → LF M2 → (DK w o (up1 c acc (c acc + 1)) (wQ (come S (hldP S m a acc hl)) (up1 (sQ S) acc (pushA (sQ S acc) (sN S 11)))) m mx M0 M2) → Go G (MT 45) Q X 146 [some (.ref 473), some (.int (nI a)), some (.ref 454), some (.int (nI (fCm S m))), some (.int 0), some (.ref (11 + 2 * acc)), some (.long (lI (val m 2 : Int))), none, some (.long (lI (fre S acc))), none, some (.int (nI wb.toNat)), some (.ref (148 + 3 * w (sN S 39)))] [] M2 0 0 := fun M2 pc2 l2 d2 => by
      have kA := (pay_k l2 (hP.1 (sN S 39) (by omega)).2).1
      have o8 : mL M2 (148 + 3 * w (sN S 39)) 8 = lI hl := pc2.2.2.2.2.2.2.2.2.2.1
      have eh : lI hl = lI (hl.toNat : Int) := by rw [Int.toNat_of_nonneg h0]
      refine r_X4_authorise (fun n => n == 8 || n == 16 || n == 55 || n == 62 || n == 89 || n == 113 || n == 146 || n == 159 || n == 176) 60 ?_
      simp only [cd_X4_authorise, cf_X4_authorise, wp, wq, wpI, cdF, w_CI, w_CL, w_CN, w_LI, w_LL, w_LA, w_SI, w_SL, w_SA, w_INC, w_II, w_IId, w_LLb, w_LLd, w_LS, w_I1, w_L1, w_I2L, w_L2I, w_CMP, w_DUP, w_POP, w_DUP2, w_IF, w_IC, w_GO, w_NUL, w_ACN, prs, w_GF, w_PF, w_GS, w_IAL, w_LEN, w_LAL, w_ZAL, w_AAL, w_IAS, w_LAS, w_ZAS, w_AAS, w_RI, w_RL, w_RA, w_NEW, w_NA, w_MNA, w_OI, w_THR, w_CV, w_CS, w_CN9, w_CI9, w_MX, w_cont, lget, sto1, sto2, wideV, vo, vo_rv, isR, isR_rv, rv, fget, fput, cats, Value.category, List.headD_cons, List.getD_cons_zero, List.getD_cons_succ, List.drop_succ_cons, List.drop_zero, List.take_succ_cons, List.take_zero, List.reverse_cons, List.reverse_nil, List.nil_append, List.cons_append, List.length_cons, List.length_nil, cond_true, cond_false, and_true, true_and, Nat.zero_add, Nat.add_zero, Nat.reduceAdd, Nat.reduceLT, Nat.reduceLeDiff, Nat.reduceEqDiff, Nat.reduceBEq, Nat.reduceSub, ↓reduceIte, Int32.reduceOfNat, Int64.reduceOfNat, reduceCtorEq, Nat.le_refl, Nat.zero_le, Bool.false_eq_true, beq_self_eq_true, Fin.isValue, Fin.val_zero, Fin.val_one, Fin.reduceFinMk, Fin.val_two, Nat.reduceMod, Bool.or_false, Bool.or_true, Bool.true_or, Bool.false_or, not_true_eq_false, not_false_eq_true, true_or, or_true, implies_true, false_implies, true_implies, Int32.reduceLT, Int32.reduceLE, ↓w_TAB3, ↓w_TAB4, ↓w_TAB5, ↓w_TAB7, ↓w_TAB10, ↓w_LK2, ↓w_LK6, false_and, and_false, i1z, i2z, iz1, im0, im1, l0z, hasK_uI, hasK_uL, hasK_uR, hasK_uZ, hasK_sRow, mR_uI, mR_uL, mR_uZ, mR_sRow, mI_uL, mI_uR, mI_uZ, mL_uI, mL_uR, mL_uZ, mL_sRow, LF.hg l2, layF, LF.r l2, refF, ne_eq, not_false_eq_true, Option.some.injEq, Sum.inl.injEq, Sum.inr.injEq, Prod.mk.injEq, exists_eq_left, exists_eq_left', kA, o8]
      refine c_ansN (s := 2) (v := hl.toNat) d2 (show sN S 39 + 1 ≤ 60 by omega) (by omega) (by omega) rfl eh (fun M3 d3 => ⟨rfl, ?_⟩)
      have l3 := d3.1.1
      have hP3 := d3.1.2.2.2.2.2.2.2.2.1
      have pc3 := hP3.2.2 (sN S 39) (show sN S 39 < sN S 39 + 1 by omega)
      have e3 : sP (wQ (come S (hldP S m a acc hl)) (up1 (sQ S) acc (pushA (sQ S acc) (sN S 11)))) (sN S 39) = hldP S m a acc hl := up1_same
      rw [e3] at pc3
      have kA3 := (pay_k l3 (hP.1 (sN S 39) (by omega)).2).1
      have o0 : mI M3 (148 + 3 * w (sN S 39)) 0 = nI (sN S 12) := pc3.1
      have e12 := nI_lI (n := sN S 12) (by omega)
      refine r_X4_authorise (fun n => n == 8 || n == 16 || n == 55 || n == 62 || n == 89 || n == 113 || n == 146 || n == 159 || n == 176) 60 ?_
      simp only [cd_X4_authorise, cf_X4_authorise, wp, wq, wpI, cdF, w_CI, w_CL, w_CN, w_LI, w_LL, w_LA, w_SI, w_SL, w_SA, w_INC, w_II, w_IId, w_LLb, w_LLd, w_LS, w_I1, w_L1, w_I2L, w_L2I, w_CMP, w_DUP, w_POP, w_DUP2, w_IF, w_IC, w_GO, w_NUL, w_ACN, prs, w_GF, w_PF, w_GS, w_IAL, w_LEN, w_LAL, w_ZAL, w_AAL, w_IAS, w_LAS, w_ZAS, w_AAS, w_RI, w_RL, w_RA, w_NEW, w_NA, w_MNA, w_OI, w_THR, w_CV, w_CS, w_CN9, w_CI9, w_MX, w_cont, lget, sto1, sto2, wideV, vo, vo_rv, isR, isR_rv, rv, fget, fput, cats, Value.category, List.headD_cons, List.getD_cons_zero, List.getD_cons_succ, List.drop_succ_cons, List.drop_zero, List.take_succ_cons, List.take_zero, List.reverse_cons, List.reverse_nil, List.nil_append, List.cons_append, List.length_cons, List.length_nil, cond_true, cond_false, and_true, true_and, Nat.zero_add, Nat.add_zero, Nat.reduceAdd, Nat.reduceLT, Nat.reduceLeDiff, Nat.reduceEqDiff, Nat.reduceBEq, Nat.reduceSub, ↓reduceIte, Int32.reduceOfNat, Int64.reduceOfNat, reduceCtorEq, Nat.le_refl, Nat.zero_le, Bool.false_eq_true, beq_self_eq_true, Fin.isValue, Fin.val_zero, Fin.val_one, Fin.reduceFinMk, Fin.val_two, Nat.reduceMod, Bool.or_false, Bool.or_true, Bool.true_or, Bool.false_or, not_true_eq_false, not_false_eq_true, true_or, or_true, implies_true, false_implies, true_implies, Int32.reduceLT, Int32.reduceLE, ↓w_TAB3, ↓w_TAB4, ↓w_TAB5, ↓w_TAB7, ↓w_TAB10, ↓w_LK2, ↓w_LK6, false_and, and_false, i1z, i2z, iz1, im0, im1, l0z, hasK_uI, hasK_uL, hasK_uR, hasK_uZ, hasK_sRow, mR_uI, mR_uL, mR_uZ, mR_sRow, mI_uL, mI_uR, mI_uZ, mL_uI, mL_uR, mL_uZ, mL_sRow, LF.hg l3, layF, LF.r l3, refF, ne_eq, not_false_eq_true, Option.some.injEq, Sum.inl.injEq, Sum.inr.injEq, Prod.mk.injEq, exists_eq_left, exists_eq_left', kA3, o0, e12]
      refine c_ansX (s := 6) (v := sN S 12) (r := 36) d3 (show sN S 39 + 1 ≤ 60 by omega) (by omega) (by omega) v12 rfl rfl rfl (fun M4 d4 => ⟨rfl, ?_⟩)
      have := hQ' _ M4 d4
      cases wb
      · refine r_X4_authorise (fun n => n == 8 || n == 16 || n == 55 || n == 62 || n == 89 || n == 113 || n == 146 || n == 159 || n == 176) 60 ?_
        simp only [cd_X4_authorise, cf_X4_authorise, wp, wq, wpI, cdF, w_CI, w_CL, w_CN, w_LI, w_LL, w_LA, w_SI, w_SL, w_SA, w_INC, w_II, w_IId, w_LLb, w_LLd, w_LS, w_I1, w_L1, w_I2L, w_L2I, w_CMP, w_DUP, w_POP, w_DUP2, w_IF, w_IC, w_GO, w_NUL, w_ACN, prs, w_GF, w_PF, w_GS, w_IAL, w_LEN, w_LAL, w_ZAL, w_AAL, w_IAS, w_LAS, w_ZAS, w_AAS, w_RI, w_RL, w_RA, w_NEW, w_NA, w_MNA, w_OI, w_THR, w_CV, w_CS, w_CN9, w_CI9, w_MX, w_cont, lget, sto1, sto2, wideV, vo, vo_rv, isR, isR_rv, rv, fget, fput, cats, Value.category, List.headD_cons, List.getD_cons_zero, List.getD_cons_succ, List.drop_succ_cons, List.drop_zero, List.take_succ_cons, List.take_zero, List.reverse_cons, List.reverse_nil, List.nil_append, List.cons_append, List.length_cons, List.length_nil, cond_true, cond_false, and_true, true_and, Nat.zero_add, Nat.add_zero, Nat.reduceAdd, Nat.reduceLT, Nat.reduceLeDiff, Nat.reduceEqDiff, Nat.reduceBEq, Nat.reduceSub, ↓reduceIte, Int32.reduceOfNat, Int64.reduceOfNat, reduceCtorEq, Nat.le_refl, Nat.zero_le, Bool.false_eq_true, beq_self_eq_true, Fin.isValue, Fin.val_zero, Fin.val_one, Fin.reduceFinMk, Fin.val_two, Nat.reduceMod, Bool.or_false, Bool.or_true, Bool.true_or, Bool.false_or, not_true_eq_false, not_false_eq_true, true_or, or_true, implies_true, false_implies, true_implies, Int32.reduceLT, Int32.reduceLE, ↓w_TAB3, ↓w_TAB4, ↓w_TAB5, ↓w_TAB7, ↓w_TAB10, ↓w_LK2, ↓w_LK6, false_and, and_false, i1z, i2z, iz1, im0, im1, l0z, Bool.toNat_false, show nI 0 = (0 : Int32) from rfl, eq_self]
        exact this
      · refine r_X4_authorise (fun n => n == 8 || n == 16 || n == 55 || n == 62 || n == 89 || n == 113 || n == 146 || n == 159 || n == 176) 60 ?_
        simp only [cd_X4_authorise, cf_X4_authorise, wp, wq, wpI, cdF, w_CI, w_CL, w_CN, w_LI, w_LL, w_LA, w_SI, w_SL, w_SA, w_INC, w_II, w_IId, w_LLb, w_LLd, w_LS, w_I1, w_L1, w_I2L, w_L2I, w_CMP, w_DUP, w_POP, w_DUP2, w_IF, w_IC, w_GO, w_NUL, w_ACN, prs, w_GF, w_PF, w_GS, w_IAL, w_LEN, w_LAL, w_ZAL, w_AAL, w_IAS, w_LAS, w_ZAS, w_AAS, w_RI, w_RL, w_RA, w_NEW, w_NA, w_MNA, w_OI, w_THR, w_CV, w_CS, w_CN9, w_CI9, w_MX, w_cont, lget, sto1, sto2, wideV, vo, vo_rv, isR, isR_rv, rv, fget, fput, cats, Value.category, List.headD_cons, List.getD_cons_zero, List.getD_cons_succ, List.drop_succ_cons, List.drop_zero, List.take_succ_cons, List.take_zero, List.reverse_cons, List.reverse_nil, List.nil_append, List.cons_append, List.length_cons, List.length_nil, cond_true, cond_false, and_true, true_and, Nat.zero_add, Nat.add_zero, Nat.reduceAdd, Nat.reduceLT, Nat.reduceLeDiff, Nat.reduceEqDiff, Nat.reduceBEq, Nat.reduceSub, ↓reduceIte, Int32.reduceOfNat, Int64.reduceOfNat, reduceCtorEq, Nat.le_refl, Nat.zero_le, Bool.false_eq_true, beq_self_eq_true, Fin.isValue, Fin.val_zero, Fin.val_one, Fin.reduceFinMk, Fin.val_two, Nat.reduceMod, Bool.or_false, Bool.or_true, Bool.true_or, Bool.false_or, not_true_eq_false, not_false_eq_true, true_or, or_true, implies_true, false_implies, true_implies, Int32.reduceLT, Int32.reduceLE, ↓w_TAB3, ↓w_TAB4, ↓w_TAB5, ↓w_TAB7, ↓w_TAB10, ↓w_LK2, ↓w_LK6, false_and, and_false, i1z, i2z, iz1, im0, im1, l0z, Bool.toNat_true, show nI 1 = (1 : Int32) from rfl, i1z]
        exact this
    have hk1 := (acc_k l1 hacc64).1
    cases wb
    · refine r_X4_authorise (fun n => n == 123 || n == 143 || n == 8 || n == 16 || n == 55 || n == 62 || n == 89 || n == 113 || n == 146 || n == 159 || n == 176) 60 ?_
      simp only [cd_X4_authorise, cf_X4_authorise, wp, wq, wpI, cdF, w_CI, w_CL, w_CN, w_LI, w_LL, w_LA, w_SI, w_SL, w_SA, w_INC, w_II, w_IId, w_LLb, w_LLd, w_LS, w_I1, w_L1, w_I2L, w_L2I, w_CMP, w_DUP, w_POP, w_DUP2, w_IF, w_IC, w_GO, w_NUL, w_ACN, prs, w_GF, w_PF, w_GS, w_IAL, w_LEN, w_LAL, w_ZAL, w_AAL, w_IAS, w_LAS, w_ZAS, w_AAS, w_RI, w_RL, w_RA, w_NEW, w_NA, w_MNA, w_OI, w_THR, w_CV, w_CS, w_CN9, w_CI9, w_MX, w_cont, lget, sto1, sto2, wideV, vo, vo_rv, isR, isR_rv, rv, fget, fput, cats, Value.category, List.headD_cons, List.getD_cons_zero, List.getD_cons_succ, List.drop_succ_cons, List.drop_zero, List.take_succ_cons, List.take_zero, List.reverse_cons, List.reverse_nil, List.nil_append, List.cons_append, List.length_cons, List.length_nil, cond_true, cond_false, and_true, true_and, Nat.zero_add, Nat.add_zero, Nat.reduceAdd, Nat.reduceLT, Nat.reduceLeDiff, Nat.reduceEqDiff, Nat.reduceBEq, Nat.reduceSub, ↓reduceIte, Int32.reduceOfNat, Int64.reduceOfNat, reduceCtorEq, Nat.le_refl, Nat.zero_le, Bool.false_eq_true, beq_self_eq_true, Fin.isValue, Fin.val_zero, Fin.val_one, Fin.reduceFinMk, Fin.val_two, Nat.reduceMod, Bool.or_false, Bool.or_true, Bool.true_or, Bool.false_or, not_true_eq_false, not_false_eq_true, true_or, or_true, implies_true, false_implies, true_implies, Int32.reduceLT, Int32.reduceLE, ↓w_TAB3, ↓w_TAB4, ↓w_TAB5, ↓w_TAB7, ↓w_TAB10, ↓w_LK2, ↓w_LK6, false_and, and_false, i1z, i2z, iz1, im0, im1, l0z, hasK_uI, hasK_uL, hasK_uR, hasK_uZ, hasK_sRow, mR_uI, mR_uL, mR_uZ, mR_sRow, mI_uL, mI_uR, mI_uZ, mL_uI, mL_uR, mL_uZ, mL_sRow, LF.hg l1, layF, LF.r l1, refF, ne_eq, not_false_eq_true, Option.some.injEq, Sum.inl.injEq, Sum.inr.injEq, Prod.mk.injEq, exists_eq_left, exists_eq_left', Bool.toNat_false, show nI 0 = (0 : Int32) from rfl, eq_self]
      refine r_X4_authorise (fun n => n == 143 || n == 8 || n == 16 || n == 55 || n == 62 || n == 89 || n == 113 || n == 146 || n == 159 || n == 176) 60 ?_
      simp only [cd_X4_authorise, cf_X4_authorise, wp, wq, wpI, cdF, w_CI, w_CL, w_CN, w_LI, w_LL, w_LA, w_SI, w_SL, w_SA, w_INC, w_II, w_IId, w_LLb, w_LLd, w_LS, w_I1, w_L1, w_I2L, w_L2I, w_CMP, w_DUP, w_POP, w_DUP2, w_IF, w_IC, w_GO, w_NUL, w_ACN, prs, w_GF, w_PF, w_GS, w_IAL, w_LEN, w_LAL, w_ZAL, w_AAL, w_IAS, w_LAS, w_ZAS, w_AAS, w_RI, w_RL, w_RA, w_NEW, w_NA, w_MNA, w_OI, w_THR, w_CV, w_CS, w_CN9, w_CI9, w_MX, w_cont, lget, sto1, sto2, wideV, vo, vo_rv, isR, isR_rv, rv, fget, fput, cats, Value.category, List.headD_cons, List.getD_cons_zero, List.getD_cons_succ, List.drop_succ_cons, List.drop_zero, List.take_succ_cons, List.take_zero, List.reverse_cons, List.reverse_nil, List.nil_append, List.cons_append, List.length_cons, List.length_nil, cond_true, cond_false, and_true, true_and, Nat.zero_add, Nat.add_zero, Nat.reduceAdd, Nat.reduceLT, Nat.reduceLeDiff, Nat.reduceEqDiff, Nat.reduceBEq, Nat.reduceSub, ↓reduceIte, Int32.reduceOfNat, Int64.reduceOfNat, reduceCtorEq, Nat.le_refl, Nat.zero_le, Bool.false_eq_true, beq_self_eq_true, Fin.isValue, Fin.val_zero, Fin.val_one, Fin.reduceFinMk, Fin.val_two, Nat.reduceMod, Bool.or_false, Bool.or_true, Bool.true_or, Bool.false_or, not_true_eq_false, not_false_eq_true, true_or, or_true, implies_true, false_implies, true_implies, Int32.reduceLT, Int32.reduceLE, ↓w_TAB3, ↓w_TAB4, ↓w_TAB5, ↓w_TAB7, ↓w_TAB10, ↓w_LK2, ↓w_LK6, false_and, and_false, i1z, i2z, iz1, im0, im1, l0z, hasK_uI, hasK_uL, hasK_uR, hasK_uZ, hasK_sRow, mR_uI, mR_uL, mR_uZ, mR_sRow, mI_uL, mI_uR, mI_uZ, mL_uI, mL_uR, mL_uZ, mL_sRow, LF.hg l1, layF, LF.r l1, refF, ne_eq, not_false_eq_true, Option.some.injEq, Sum.inl.injEq, Sum.inr.injEq, Prod.mk.injEq, exists_eq_left, exists_eq_left', Bool.toNat_false, show nI 0 = (0 : Int32) from rfl, eq_self]
      try (refine r_X4_authorise (fun n => n == 8 || n == 16 || n == 55 || n == 62 || n == 89 || n == 113 || n == 146 || n == 159 || n == 176) 60 ?_; simp only [cd_X4_authorise, cf_X4_authorise, wp, wq, wpI, cdF, w_CI, w_CL, w_CN, w_LI, w_LL, w_LA, w_SI, w_SL, w_SA, w_INC, w_II, w_IId, w_LLb, w_LLd, w_LS, w_I1, w_L1, w_I2L, w_L2I, w_CMP, w_DUP, w_POP, w_DUP2, w_IF, w_IC, w_GO, w_NUL, w_ACN, prs, w_GF, w_PF, w_GS, w_IAL, w_LEN, w_LAL, w_ZAL, w_AAL, w_IAS, w_LAS, w_ZAS, w_AAS, w_RI, w_RL, w_RA, w_NEW, w_NA, w_MNA, w_OI, w_THR, w_CV, w_CS, w_CN9, w_CI9, w_MX, w_cont, lget, sto1, sto2, wideV, vo, vo_rv, isR, isR_rv, rv, fget, fput, cats, Value.category, List.headD_cons, List.getD_cons_zero, List.getD_cons_succ, List.drop_succ_cons, List.drop_zero, List.take_succ_cons, List.take_zero, List.reverse_cons, List.reverse_nil, List.nil_append, List.cons_append, List.length_cons, List.length_nil, cond_true, cond_false, and_true, true_and, Nat.zero_add, Nat.add_zero, Nat.reduceAdd, Nat.reduceLT, Nat.reduceLeDiff, Nat.reduceEqDiff, Nat.reduceBEq, Nat.reduceSub, ↓reduceIte, Int32.reduceOfNat, Int64.reduceOfNat, reduceCtorEq, Nat.le_refl, Nat.zero_le, Bool.false_eq_true, beq_self_eq_true, Fin.isValue, Fin.val_zero, Fin.val_one, Fin.reduceFinMk, Fin.val_two, Nat.reduceMod, Bool.or_false, Bool.or_true, Bool.true_or, Bool.false_or, not_true_eq_false, not_false_eq_true, true_or, or_true, implies_true, false_implies, true_implies, Int32.reduceLT, Int32.reduceLE, ↓w_TAB3, ↓w_TAB4, ↓w_TAB5, ↓w_TAB7, ↓w_TAB10, ↓w_LK2, ↓w_LK6, false_and, and_false, i1z, i2z, iz1, im0, im1, l0z, hasK_uI, hasK_uL, hasK_uR, hasK_uZ, hasK_sRow, mR_uI, mR_uL, mR_uZ, mR_sRow, mI_uL, mI_uR, mI_uZ, mL_uI, mL_uR, mL_uZ, mL_sRow, LF.hg l1, layF, LF.r l1, refF, ne_eq, not_false_eq_true, Option.some.injEq, Sum.inl.injEq, Sum.inr.injEq, Prod.mk.injEq, exists_eq_left, exists_eq_left'])
      refine c_hold (u := hl) re1 (c_lt hR hj) hj i1 (by omega) hacc64 (by rw [ehl]; rfl) (fun M2 rc2 i2 pc2 => ⟨rfl, ?_⟩)
      exact hfin M2 pc2 rc2.1 ⟨rc2, msgC_D hm i2 (by omega) (by omega) (by omega), msgC_D hx i2 (by omega) (by omega) (by omega), hiS_D hh i2⟩
    · refine r_X4_authorise (fun n => n == 123 || n == 143 || n == 8 || n == 16 || n == 55 || n == 62 || n == 89 || n == 113 || n == 146 || n == 159 || n == 176) 60 ?_
      simp only [cd_X4_authorise, cf_X4_authorise, wp, wq, wpI, cdF, w_CI, w_CL, w_CN, w_LI, w_LL, w_LA, w_SI, w_SL, w_SA, w_INC, w_II, w_IId, w_LLb, w_LLd, w_LS, w_I1, w_L1, w_I2L, w_L2I, w_CMP, w_DUP, w_POP, w_DUP2, w_IF, w_IC, w_GO, w_NUL, w_ACN, prs, w_GF, w_PF, w_GS, w_IAL, w_LEN, w_LAL, w_ZAL, w_AAL, w_IAS, w_LAS, w_ZAS, w_AAS, w_RI, w_RL, w_RA, w_NEW, w_NA, w_MNA, w_OI, w_THR, w_CV, w_CS, w_CN9, w_CI9, w_MX, w_cont, lget, sto1, sto2, wideV, vo, vo_rv, isR, isR_rv, rv, fget, fput, cats, Value.category, List.headD_cons, List.getD_cons_zero, List.getD_cons_succ, List.drop_succ_cons, List.drop_zero, List.take_succ_cons, List.take_zero, List.reverse_cons, List.reverse_nil, List.nil_append, List.cons_append, List.length_cons, List.length_nil, cond_true, cond_false, and_true, true_and, Nat.zero_add, Nat.add_zero, Nat.reduceAdd, Nat.reduceLT, Nat.reduceLeDiff, Nat.reduceEqDiff, Nat.reduceBEq, Nat.reduceSub, ↓reduceIte, Int32.reduceOfNat, Int64.reduceOfNat, reduceCtorEq, Nat.le_refl, Nat.zero_le, Bool.false_eq_true, beq_self_eq_true, Fin.isValue, Fin.val_zero, Fin.val_one, Fin.reduceFinMk, Fin.val_two, Nat.reduceMod, Bool.or_false, Bool.or_true, Bool.true_or, Bool.false_or, not_true_eq_false, not_false_eq_true, true_or, or_true, implies_true, false_implies, true_implies, Int32.reduceLT, Int32.reduceLE, ↓w_TAB3, ↓w_TAB4, ↓w_TAB5, ↓w_TAB7, ↓w_TAB10, ↓w_LK2, ↓w_LK6, false_and, and_false, i1z, i2z, iz1, im0, im1, l0z, hasK_uI, hasK_uL, hasK_uR, hasK_uZ, hasK_sRow, mR_uI, mR_uL, mR_uZ, mR_sRow, mI_uL, mI_uR, mI_uZ, mL_uI, mL_uR, mL_uZ, mL_sRow, LF.hg l1, layF, LF.r l1, refF, ne_eq, not_false_eq_true, Option.some.injEq, Sum.inl.injEq, Sum.inr.injEq, Prod.mk.injEq, exists_eq_left, exists_eq_left', Bool.toNat_true, show nI 1 = (1 : Int32) from rfl, i1z]
      refine r_X4_authorise (fun n => n == 143 || n == 8 || n == 16 || n == 55 || n == 62 || n == 89 || n == 113 || n == 146 || n == 159 || n == 176) 60 ?_
      simp only [cd_X4_authorise, cf_X4_authorise, wp, wq, wpI, cdF, w_CI, w_CL, w_CN, w_LI, w_LL, w_LA, w_SI, w_SL, w_SA, w_INC, w_II, w_IId, w_LLb, w_LLd, w_LS, w_I1, w_L1, w_I2L, w_L2I, w_CMP, w_DUP, w_POP, w_DUP2, w_IF, w_IC, w_GO, w_NUL, w_ACN, prs, w_GF, w_PF, w_GS, w_IAL, w_LEN, w_LAL, w_ZAL, w_AAL, w_IAS, w_LAS, w_ZAS, w_AAS, w_RI, w_RL, w_RA, w_NEW, w_NA, w_MNA, w_OI, w_THR, w_CV, w_CS, w_CN9, w_CI9, w_MX, w_cont, lget, sto1, sto2, wideV, vo, vo_rv, isR, isR_rv, rv, fget, fput, cats, Value.category, List.headD_cons, List.getD_cons_zero, List.getD_cons_succ, List.drop_succ_cons, List.drop_zero, List.take_succ_cons, List.take_zero, List.reverse_cons, List.reverse_nil, List.nil_append, List.cons_append, List.length_cons, List.length_nil, cond_true, cond_false, and_true, true_and, Nat.zero_add, Nat.add_zero, Nat.reduceAdd, Nat.reduceLT, Nat.reduceLeDiff, Nat.reduceEqDiff, Nat.reduceBEq, Nat.reduceSub, ↓reduceIte, Int32.reduceOfNat, Int64.reduceOfNat, reduceCtorEq, Nat.le_refl, Nat.zero_le, Bool.false_eq_true, beq_self_eq_true, Fin.isValue, Fin.val_zero, Fin.val_one, Fin.reduceFinMk, Fin.val_two, Nat.reduceMod, Bool.or_false, Bool.or_true, Bool.true_or, Bool.false_or, not_true_eq_false, not_false_eq_true, true_or, or_true, implies_true, false_implies, true_implies, Int32.reduceLT, Int32.reduceLE, ↓w_TAB3, ↓w_TAB4, ↓w_TAB5, ↓w_TAB7, ↓w_TAB10, ↓w_LK2, ↓w_LK6, false_and, and_false, i1z, i2z, iz1, im0, im1, l0z, hasK_uI, hasK_uL, hasK_uR, hasK_uZ, hasK_sRow, mR_uI, mR_uL, mR_uZ, mR_sRow, mI_uL, mI_uR, mI_uZ, mL_uI, mL_uR, mL_uZ, mL_sRow, LF.hg l1, layF, LF.r l1, refF, ne_eq, not_false_eq_true, Option.some.injEq, Sum.inl.injEq, Sum.inr.injEq, Prod.mk.injEq, exists_eq_left, exists_eq_left', Bool.toNat_true, show nI 1 = (1 : Int32) from rfl, i1z]
      try (refine r_X4_authorise (fun n => n == 8 || n == 16 || n == 55 || n == 62 || n == 89 || n == 113 || n == 146 || n == 159 || n == 176) 60 ?_; simp only [cd_X4_authorise, cf_X4_authorise, wp, wq, wpI, cdF, w_CI, w_CL, w_CN, w_LI, w_LL, w_LA, w_SI, w_SL, w_SA, w_INC, w_II, w_IId, w_LLb, w_LLd, w_LS, w_I1, w_L1, w_I2L, w_L2I, w_CMP, w_DUP, w_POP, w_DUP2, w_IF, w_IC, w_GO, w_NUL, w_ACN, prs, w_GF, w_PF, w_GS, w_IAL, w_LEN, w_LAL, w_ZAL, w_AAL, w_IAS, w_LAS, w_ZAS, w_AAS, w_RI, w_RL, w_RA, w_NEW, w_NA, w_MNA, w_OI, w_THR, w_CV, w_CS, w_CN9, w_CI9, w_MX, w_cont, lget, sto1, sto2, wideV, vo, vo_rv, isR, isR_rv, rv, fget, fput, cats, Value.category, List.headD_cons, List.getD_cons_zero, List.getD_cons_succ, List.drop_succ_cons, List.drop_zero, List.take_succ_cons, List.take_zero, List.reverse_cons, List.reverse_nil, List.nil_append, List.cons_append, List.length_cons, List.length_nil, cond_true, cond_false, and_true, true_and, Nat.zero_add, Nat.add_zero, Nat.reduceAdd, Nat.reduceLT, Nat.reduceLeDiff, Nat.reduceEqDiff, Nat.reduceBEq, Nat.reduceSub, ↓reduceIte, Int32.reduceOfNat, Int64.reduceOfNat, reduceCtorEq, Nat.le_refl, Nat.zero_le, Bool.false_eq_true, beq_self_eq_true, Fin.isValue, Fin.val_zero, Fin.val_one, Fin.reduceFinMk, Fin.val_two, Nat.reduceMod, Bool.or_false, Bool.or_true, Bool.true_or, Bool.false_or, not_true_eq_false, not_false_eq_true, true_or, or_true, implies_true, false_implies, true_implies, Int32.reduceLT, Int32.reduceLE, ↓w_TAB3, ↓w_TAB4, ↓w_TAB5, ↓w_TAB7, ↓w_TAB10, ↓w_LK2, ↓w_LK6, false_and, and_false, i1z, i2z, iz1, im0, im1, l0z, hasK_uI, hasK_uL, hasK_uR, hasK_uZ, hasK_sRow, mR_uI, mR_uL, mR_uZ, mR_sRow, mI_uL, mI_uR, mI_uZ, mL_uI, mL_uR, mL_uZ, mL_sRow, LF.hg l1, layF, LF.r l1, refF, ne_eq, not_false_eq_true, Option.some.injEq, Sum.inl.injEq, Sum.inr.injEq, Prod.mk.injEq, exists_eq_left, exists_eq_left'])
      refine c_hold (u := hl) re1 (c_lt hR hj) hj i1 (by omega) hacc64 (by rw [ehl]; rfl) (fun M2 rc2 i2 pc2 => ⟨rfl, ?_⟩)
      exact hfin M2 pc2 rc2.1 ⟨rc2, msgC_D hm i2 (by omega) (by omega) (by omega), msgC_D hx i2 (by omega) (by omega) (by omega), hiS_D hh i2⟩
  have hgt : (lI (fre S acc) < lI (val m 2 : Int)) ↔ fre S acc < (val m 2 : Int) := lI_lt fF fV
  have h1q : (lI (val m 1 : Int) = 1) ↔ val m 1 = 1 := by rw [show (1 : Int64) = lI 1 from rfl, lI_eq (by unfold fL; omega) (by unfold fL; omega)]; omega
  have h0q : (0 < lI (fre S acc)) ↔ 0 < fre S acc := by rw [show (0 : Int64) = lI 0 from rfl, lI_lt (by unfold fL; omega) fF]
  refine r_X4_authorise (fun n => n == 77 || n == 104 || n == 8 || n == 16 || n == 55 || n == 62 || n == 89 || n == 113 || n == 146 || n == 159 || n == 176) 60 ?_
  simp only [cd_X4_authorise, cf_X4_authorise, wp, wq, wpI, cdF, w_CI, w_CL, w_CN, w_LI, w_LL, w_LA, w_SI, w_SL, w_SA, w_INC, w_II, w_IId, w_LLb, w_LLd, w_LS, w_I1, w_L1, w_I2L, w_L2I, w_CMP, w_DUP, w_POP, w_DUP2, w_IF, w_IC, w_GO, w_NUL, w_ACN, prs, w_GF, w_PF, w_GS, w_IAL, w_LEN, w_LAL, w_ZAL, w_AAL, w_IAS, w_LAS, w_ZAS, w_AAS, w_RI, w_RL, w_RA, w_NEW, w_NA, w_MNA, w_OI, w_THR, w_CV, w_CS, w_CN9, w_CI9, w_MX, w_cont, lget, sto1, sto2, wideV, vo, vo_rv, isR, isR_rv, rv, fget, fput, cats, Value.category, List.headD_cons, List.getD_cons_zero, List.getD_cons_succ, List.drop_succ_cons, List.drop_zero, List.take_succ_cons, List.take_zero, List.reverse_cons, List.reverse_nil, List.nil_append, List.cons_append, List.length_cons, List.length_nil, cond_true, cond_false, and_true, true_and, Nat.zero_add, Nat.add_zero, Nat.reduceAdd, Nat.reduceLT, Nat.reduceLeDiff, Nat.reduceEqDiff, Nat.reduceBEq, Nat.reduceSub, ↓reduceIte, Int32.reduceOfNat, Int64.reduceOfNat, reduceCtorEq, Nat.le_refl, Nat.zero_le, Bool.false_eq_true, beq_self_eq_true, Fin.isValue, Fin.val_zero, Fin.val_one, Fin.reduceFinMk, Fin.val_two, Nat.reduceMod, Bool.or_false, Bool.or_true, Bool.true_or, Bool.false_or, not_true_eq_false, not_false_eq_true, true_or, or_true, implies_true, false_implies, true_implies, Int32.reduceLT, Int32.reduceLE, ↓w_TAB3, ↓w_TAB4, ↓w_TAB5, ↓w_TAB7, ↓w_TAB10, ↓w_LK2, ↓w_LK6, false_and, and_false, i1z, i2z, iz1, im0, im1, l0z, cmp_gt]
  refine and_ii (fun q1 => ?_) (fun q1 => ?_)
  rotate_left
  · have q1 : (val m 2 : Int) ≤ fre S acc := by
      apply Classical.byContradiction
      intro e
      exact q1 (hgt.mpr (by omega))
    try (refine r_X4_authorise (fun n => n == 104 || n == 8 || n == 16 || n == 55 || n == 62 || n == 89 || n == 113 || n == 146 || n == 159 || n == 176) 60 ?_; simp only [cd_X4_authorise, cf_X4_authorise, wp, wq, wpI, cdF, w_CI, w_CL, w_CN, w_LI, w_LL, w_LA, w_SI, w_SL, w_SA, w_INC, w_II, w_IId, w_LLb, w_LLd, w_LS, w_I1, w_L1, w_I2L, w_L2I, w_CMP, w_DUP, w_POP, w_DUP2, w_IF, w_IC, w_GO, w_NUL, w_ACN, prs, w_GF, w_PF, w_GS, w_IAL, w_LEN, w_LAL, w_ZAL, w_AAL, w_IAS, w_LAS, w_ZAS, w_AAS, w_RI, w_RL, w_RA, w_NEW, w_NA, w_MNA, w_OI, w_THR, w_CV, w_CS, w_CN9, w_CI9, w_MX, w_cont, lget, sto1, sto2, wideV, vo, vo_rv, isR, isR_rv, rv, fget, fput, cats, Value.category, List.headD_cons, List.getD_cons_zero, List.getD_cons_succ, List.drop_succ_cons, List.drop_zero, List.take_succ_cons, List.take_zero, List.reverse_cons, List.reverse_nil, List.nil_append, List.cons_append, List.length_cons, List.length_nil, cond_true, cond_false, and_true, true_and, Nat.zero_add, Nat.add_zero, Nat.reduceAdd, Nat.reduceLT, Nat.reduceLeDiff, Nat.reduceEqDiff, Nat.reduceBEq, Nat.reduceSub, ↓reduceIte, Int32.reduceOfNat, Int64.reduceOfNat, reduceCtorEq, Nat.le_refl, Nat.zero_le, Bool.false_eq_true, beq_self_eq_true, Fin.isValue, Fin.val_zero, Fin.val_one, Fin.reduceFinMk, Fin.val_two, Nat.reduceMod, Bool.or_false, Bool.or_true, Bool.true_or, Bool.false_or, not_true_eq_false, not_false_eq_true, true_or, or_true, implies_true, false_implies, true_implies, Int32.reduceLT, Int32.reduceLE, ↓w_TAB3, ↓w_TAB4, ↓w_TAB5, ↓w_TAB7, ↓w_TAB10, ↓w_LK2, ↓w_LK6, false_and, and_false, i1z, i2z, iz1, im0, im1, l0z, i1z])
    rw [if_neg (by omega), if_pos q1, if_pos q1] at hQ
    exact hgo true (val m 2) 0 rfl (by omega) (by omega) (fun c' M' d => hQ c' M' d)
  · have q1 : fre S acc < (val m 2 : Int) := hgt.mp q1
    have k454 : hasK M 454 (.inr 6) := by rw [hL.hk]; rfl
    try (refine r_X4_authorise (fun n => n == 104 || n == 8 || n == 16 || n == 55 || n == 62 || n == 89 || n == 113 || n == 146 || n == 159 || n == 176) 60 ?_; simp only [cd_X4_authorise, cf_X4_authorise, wp, wq, wpI, cdF, w_CI, w_CL, w_CN, w_LI, w_LL, w_LA, w_SI, w_SL, w_SA, w_INC, w_II, w_IId, w_LLb, w_LLd, w_LS, w_I1, w_L1, w_I2L, w_L2I, w_CMP, w_DUP, w_POP, w_DUP2, w_IF, w_IC, w_GO, w_NUL, w_ACN, prs, w_GF, w_PF, w_GS, w_IAL, w_LEN, w_LAL, w_ZAL, w_AAL, w_IAS, w_LAS, w_ZAS, w_AAS, w_RI, w_RL, w_RA, w_NEW, w_NA, w_MNA, w_OI, w_THR, w_CV, w_CS, w_CN9, w_CI9, w_MX, w_cont, lget, sto1, sto2, wideV, vo, vo_rv, isR, isR_rv, rv, fget, fput, cats, Value.category, List.headD_cons, List.getD_cons_zero, List.getD_cons_succ, List.drop_succ_cons, List.drop_zero, List.take_succ_cons, List.take_zero, List.reverse_cons, List.reverse_nil, List.nil_append, List.cons_append, List.length_cons, List.length_nil, cond_true, cond_false, and_true, true_and, Nat.zero_add, Nat.add_zero, Nat.reduceAdd, Nat.reduceLT, Nat.reduceLeDiff, Nat.reduceEqDiff, Nat.reduceBEq, Nat.reduceSub, ↓reduceIte, Int32.reduceOfNat, Int64.reduceOfNat, reduceCtorEq, Nat.le_refl, Nat.zero_le, Bool.false_eq_true, beq_self_eq_true, Fin.isValue, Fin.val_zero, Fin.val_one, Fin.reduceFinMk, Fin.val_two, Nat.reduceMod, Bool.or_false, Bool.or_true, Bool.true_or, Bool.false_or, not_true_eq_false, not_false_eq_true, true_or, or_true, implies_true, false_implies, true_implies, Int32.reduceLT, Int32.reduceLE, ↓w_TAB3, ↓w_TAB4, ↓w_TAB5, ↓w_TAB7, ↓w_TAB10, ↓w_LK2, ↓w_LK6, false_and, and_false, i1z, i2z, iz1, im0, im1, l0z, hasK_uI, hasK_uL, hasK_uR, hasK_uZ, hasK_sRow, mR_uI, mR_uL, mR_uZ, mR_sRow, mI_uL, mI_uR, mI_uZ, mL_uI, mL_uR, mL_uZ, mL_sRow, LF.hk hL, layF, LF.r hL, refF, ne_eq, not_false_eq_true, Option.some.injEq, Sum.inl.injEq, Sum.inr.injEq, Prod.mk.injEq, exists_eq_left, exists_eq_left', eq_self])
    try refine ⟨k454, ?_⟩
    refine c_numOf (s := 1) ms hm ho (by omega) (hb 1 (by omega) rfl) rfl ⟨_, rfl, ?_⟩
    have n51 : ¬ (val m 1 = 1 ∧ 0 < fre S acc) → Q (some (.int 51)) M := fun e => by
      rw [if_pos ⟨q1, by omega⟩] at hQ
      exact hQ c M h
    refine r_X4_authorise (fun n => n == 104 || n == 8 || n == 16 || n == 55 || n == 62 || n == 89 || n == 113 || n == 146 || n == 159 || n == 176) 60 ?_
    simp only [cd_X4_authorise, cf_X4_authorise, wp, wq, wpI, cdF, w_CI, w_CL, w_CN, w_LI, w_LL, w_LA, w_SI, w_SL, w_SA, w_INC, w_II, w_IId, w_LLb, w_LLd, w_LS, w_I1, w_L1, w_I2L, w_L2I, w_CMP, w_DUP, w_POP, w_DUP2, w_IF, w_IC, w_GO, w_NUL, w_ACN, prs, w_GF, w_PF, w_GS, w_IAL, w_LEN, w_LAL, w_ZAL, w_AAL, w_IAS, w_LAS, w_ZAS, w_AAS, w_RI, w_RL, w_RA, w_NEW, w_NA, w_MNA, w_OI, w_THR, w_CV, w_CS, w_CN9, w_CI9, w_MX, w_cont, lget, sto1, sto2, wideV, vo, vo_rv, isR, isR_rv, rv, fget, fput, cats, Value.category, List.headD_cons, List.getD_cons_zero, List.getD_cons_succ, List.drop_succ_cons, List.drop_zero, List.take_succ_cons, List.take_zero, List.reverse_cons, List.reverse_nil, List.nil_append, List.cons_append, List.length_cons, List.length_nil, cond_true, cond_false, and_true, true_and, Nat.zero_add, Nat.add_zero, Nat.reduceAdd, Nat.reduceLT, Nat.reduceLeDiff, Nat.reduceEqDiff, Nat.reduceBEq, Nat.reduceSub, ↓reduceIte, Int32.reduceOfNat, Int64.reduceOfNat, reduceCtorEq, Nat.le_refl, Nat.zero_le, Bool.false_eq_true, beq_self_eq_true, Fin.isValue, Fin.val_zero, Fin.val_one, Fin.reduceFinMk, Fin.val_two, Nat.reduceMod, Bool.or_false, Bool.or_true, Bool.true_or, Bool.false_or, not_true_eq_false, not_false_eq_true, true_or, or_true, implies_true, false_implies, true_implies, Int32.reduceLT, Int32.reduceLE, ↓w_TAB3, ↓w_TAB4, ↓w_TAB5, ↓w_TAB7, ↓w_TAB10, ↓w_LK2, ↓w_LK6, false_and, and_false, i1z, i2z, iz1, im0, im1, l0z, cmp_eq, cmp_gt]
    refine and_ii (fun q2 => n51 (fun e => q2 (h1q.mpr e.1))) (fun q2 => ?_)
    have q2 := h1q.mp (Classical.not_not.mp q2)
    refine and_ii (fun q3 => ?_) (fun q3 => n51 (fun e => q3 (h0q.mpr e.2)))
    have q3 := h0q.mp q3
    rw [if_neg (by omega), if_neg (by omega), if_neg (by omega)] at hQ
    exact hgo false (fre S acc) 10 rfl (by omega) (by omega) (fun c' M' d => hQ c' M' d)
end AU
