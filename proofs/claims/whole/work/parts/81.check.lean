/-! checkpoint -/
section CHK
variable {G : En} {M M0 Mz M' : Mem} {Q : Option Value → Mem → Prop} {X : String → Mem → Prop} {S : Sw} {t a j k v i np K : Nat} {x y : Int32} {z : Int64} {n : Nat → Nat}
theorem c_sharesN {a b : Nat} (ha : a < 1000000) (hb : 0 < b ∧ b < 1000) (hx : x = nI a) (hy : y = nI b) (hQ : Q (some (.int (nI ((a + b - 1) / b)))) M) : Ct G (MT 177) [.int x, .int y] M Q X := by
  subst hx hy
  have ta := nI_toInt (n := a) (by omega)
  have tb := nI_toInt (n := b) (by omega)
  refine c_shares (by omega) (by omega) (fun r hr => ?_)
  have hd : (a + b - 1) / b ≤ a + b - 1 := Nat.div_le_self _ _
  have e : r = nI ((a + b - 1) / b) := by
    rw [i_eq, hr, ta, tb, nI_toInt (by omega), Int.natCast_ediv]
    congr 1
    omega
  rw [e]
  exact hQ
theorem pgs_le (hj : Jv t S) : pgs S ≤ 40 ∧ 1 ≤ pgs S := by
  have hs := hj.1
  unfold jS at hs
  unfold pgs
  omega
theorem k_checkpoint (hR : RCx S M) (hj : Jv t S) : Ct G (MT 155) [.ref 0] M (QcI M (o_checkpoint S)) (QcX M (o_checkpoint S)) := by
  obtain ⟨w, o, c, hR'⟩ := id hR
  obtain ⟨hL, hN, hI, hLl, hF, hS, hA, hC, hP, hRr, hD, hT, hZ⟩ := id hR'
  have hs := hj.1
  have hn := hN
  unfold cN at hn
  unfold jS at hs
  have h39 : sN S 39 ≤ 60 := by omega
  have t7 := nI_toInt (n := sN S 7) (by omega)
  have c7 := nI_clamp (n := sN S 7) (by omega)
  have t6 := nI_toInt (n := sN S 6) (by omega)
  have c6 := nI_clamp (n := sN S 6) (by omega)
  have hpg := pgs_le hj
  have tm : (nI (sN S 7) - 1).toInt = sN S 7 - 1 := by rw [i_sub] <;> rw [t7] <;> simp <;> omega
  have tp := nI_toInt (n := pgs S) (by omega)
  refine Ct.go (L0 := [some (.ref 0), none]) (by decide +kernel) rfl rfl ?_
  refine r_X11_checkpoint (fun n => n == 4 || n == 7 || n == 19 || n == 30 || n == 42 || n == 54) 40 ?_
  simp only [cd_X11_checkpoint, cf_X11_checkpoint, wp, wq, wpI, cdF, w_CI, w_CL, w_CN, w_LI, w_LL, w_LA, w_SI, w_SL, w_SA, w_INC, w_II, w_IId, w_LLb, w_LLd, w_LS, w_I1, w_L1, w_I2L, w_L2I, w_CMP, w_DUP, w_POP, w_DUP2, w_IF, w_IC, w_GO, w_NUL, w_ACN, prs, w_GF, w_PF, w_GS, w_IAL, w_LEN, w_LAL, w_ZAL, w_AAL, w_IAS, w_LAS, w_ZAS, w_AAS, w_RI, w_RL, w_RA, w_NEW, w_NA, w_MNA, w_OI, w_THR, w_CV, w_CS, w_CN9, w_CI9, w_MX, w_cont, lget, sto1, sto2, wideV, vo, vo_rv, isR, isR_rv, rv, fget, fput, cats, Value.category, List.headD_cons, List.getD_cons_zero, List.getD_cons_succ, List.drop_succ_cons, List.drop_zero, List.take_succ_cons, List.take_zero, List.reverse_cons, List.reverse_nil, List.nil_append, List.cons_append, List.length_cons, List.length_nil, cond_true, cond_false, and_true, true_and, Nat.zero_add, Nat.add_zero, Nat.reduceAdd, Nat.reduceLT, Nat.reduceLeDiff, Nat.reduceEqDiff, Nat.reduceBEq, Nat.reduceSub, ↓reduceIte, Int32.reduceOfNat, Int64.reduceOfNat, reduceCtorEq, Nat.le_refl, Nat.zero_le, Bool.false_eq_true, beq_self_eq_true, Fin.isValue, Fin.val_zero, Fin.val_one, Fin.reduceFinMk, Fin.val_two, Nat.reduceMod, Bool.or_false, Bool.or_true, Bool.true_or, Bool.false_or, not_true_eq_false, not_false_eq_true, true_or, or_true, implies_true, false_implies, true_implies, Int32.reduceLT, Int32.reduceLE, ↓w_TAB3, ↓w_TAB4, ↓w_TAB5, ↓w_TAB7, ↓w_TAB10, ↓w_LK2, ↓w_LK6, false_and, and_false, i1z, i2z, iz1, im0, im1, l0z, hasK_uI, hasK_uL, hasK_uR, hasK_uZ, hasK_sRow, mR_uI, mR_uL, mR_uZ, mR_sRow, mI_uL, mI_uR, mI_uZ, mL_uI, mL_uR, mL_uZ, mL_sRow, LF.hk hL, layF, LF.r hL, refF, ne_eq, not_false_eq_true, Option.some.injEq, Sum.inl.injEq, Sum.inr.injEq, Prod.mk.injEq, exists_eq_left, exists_eq_left']
  refine c_isRunning hL hN (smN_of hj) ⟨_, rfl, ?_⟩
  refine r_X11_checkpoint (fun n => n == 4 || n == 7 || n == 19 || n == 30 || n == 42 || n == 54) 40 ?_
  simp only [cd_X11_checkpoint, cf_X11_checkpoint, wp, wq, wpI, cdF, w_CI, w_CL, w_CN, w_LI, w_LL, w_LA, w_SI, w_SL, w_SA, w_INC, w_II, w_IId, w_LLb, w_LLd, w_LS, w_I1, w_L1, w_I2L, w_L2I, w_CMP, w_DUP, w_POP, w_DUP2, w_IF, w_IC, w_GO, w_NUL, w_ACN, prs, w_GF, w_PF, w_GS, w_IAL, w_LEN, w_LAL, w_ZAL, w_AAL, w_IAS, w_LAS, w_ZAS, w_AAS, w_RI, w_RL, w_RA, w_NEW, w_NA, w_MNA, w_OI, w_THR, w_CV, w_CS, w_CN9, w_CI9, w_MX, w_cont, lget, sto1, sto2, wideV, vo, vo_rv, isR, isR_rv, rv, fget, fput, cats, Value.category, List.headD_cons, List.getD_cons_zero, List.getD_cons_succ, List.drop_succ_cons, List.drop_zero, List.take_succ_cons, List.take_zero, List.reverse_cons, List.reverse_nil, List.nil_append, List.cons_append, List.length_cons, List.length_nil, cond_true, cond_false, and_true, true_and, Nat.zero_add, Nat.add_zero, Nat.reduceAdd, Nat.reduceLT, Nat.reduceLeDiff, Nat.reduceEqDiff, Nat.reduceBEq, Nat.reduceSub, ↓reduceIte, Int32.reduceOfNat, Int64.reduceOfNat, reduceCtorEq, Nat.le_refl, Nat.zero_le, Bool.false_eq_true, beq_self_eq_true, Fin.isValue, Fin.val_zero, Fin.val_one, Fin.reduceFinMk, Fin.val_two, Nat.reduceMod, Bool.or_false, Bool.or_true, Bool.true_or, Bool.false_or, not_true_eq_false, not_false_eq_true, true_or, or_true, implies_true, false_implies, true_implies, Int32.reduceLT, Int32.reduceLE, ↓w_TAB3, ↓w_TAB4, ↓w_TAB5, ↓w_TAB7, ↓w_TAB10, ↓w_LK2, ↓w_LK6, false_and, and_false, i1z, i2z, iz1, im0, im1, l0z, hasK_uI, hasK_uL, hasK_uR, hasK_uZ, hasK_sRow, mR_uI, mR_uL, mR_uZ, mR_sRow, mI_uL, mI_uR, mI_uZ, mL_uI, mL_uR, mL_uZ, mL_sRow, LF.hk hL, layF, LF.r hL, refF, ne_eq, not_false_eq_true, Option.some.injEq, Sum.inl.injEq, Sum.inr.injEq, Prod.mk.injEq, exists_eq_left, exists_eq_left']
  refine c_permit_p (fun h2 => ⟨rfl, ?_⟩) (fun h2 => Qc_2 hR (gat_2 trivial h2))
  unfold o_checkpoint
  rw [gat_0 trivial h2]
  refine r_X11_checkpoint (fun n => n == 4 || n == 7 || n == 19 || n == 30 || n == 42 || n == 54) 40 ?_
  simp only [cd_X11_checkpoint, cf_X11_checkpoint, wp, wq, wpI, cdF, w_CI, w_CL, w_CN, w_LI, w_LL, w_LA, w_SI, w_SL, w_SA, w_INC, w_II, w_IId, w_LLb, w_LLd, w_LS, w_I1, w_L1, w_I2L, w_L2I, w_CMP, w_DUP, w_POP, w_DUP2, w_IF, w_IC, w_GO, w_NUL, w_ACN, prs, w_GF, w_PF, w_GS, w_IAL, w_LEN, w_LAL, w_ZAL, w_AAL, w_IAS, w_LAS, w_ZAS, w_AAS, w_RI, w_RL, w_RA, w_NEW, w_NA, w_MNA, w_OI, w_THR, w_CV, w_CS, w_CN9, w_CI9, w_MX, w_cont, lget, sto1, sto2, wideV, vo, vo_rv, isR, isR_rv, rv, fget, fput, cats, Value.category, List.headD_cons, List.getD_cons_zero, List.getD_cons_succ, List.drop_succ_cons, List.drop_zero, List.take_succ_cons, List.take_zero, List.reverse_cons, List.reverse_nil, List.nil_append, List.cons_append, List.length_cons, List.length_nil, cond_true, cond_false, and_true, true_and, Nat.zero_add, Nat.add_zero, Nat.reduceAdd, Nat.reduceLT, Nat.reduceLeDiff, Nat.reduceEqDiff, Nat.reduceBEq, Nat.reduceSub, ↓reduceIte, Int32.reduceOfNat, Int64.reduceOfNat, reduceCtorEq, Nat.le_refl, Nat.zero_le, Bool.false_eq_true, beq_self_eq_true, Fin.isValue, Fin.val_zero, Fin.val_one, Fin.reduceFinMk, Fin.val_two, Nat.reduceMod, Bool.or_false, Bool.or_true, Bool.true_or, Bool.false_or, not_true_eq_false, not_false_eq_true, true_or, or_true, implies_true, false_implies, true_implies, Int32.reduceLT, Int32.reduceLE, ↓w_TAB3, ↓w_TAB4, ↓w_TAB5, ↓w_TAB7, ↓w_TAB10, ↓w_LK2, ↓w_LK6, false_and, and_false, i1z, i2z, iz1, im0, im1, l0z, hasK_uI, hasK_uL, hasK_uR, hasK_uZ, hasK_sRow, mR_uI, mR_uL, mR_uZ, mR_sRow, mI_uL, mI_uR, mI_uZ, mL_uI, mL_uR, mL_uZ, mL_sRow, LF.hk hL, layF, LF.r hL, refF, ne_eq, not_false_eq_true, Option.some.injEq, Sum.inl.injEq, Sum.inr.injEq, Prod.mk.injEq, exists_eq_left, exists_eq_left', hn]
  refine c_sharesN (a := sN S 28) (b := 8) (by omega) (by omega) rfl rfl ⟨_, rfl, ?_⟩
  refine r_X11_checkpoint (fun n => n == 4 || n == 7 || n == 19 || n == 30 || n == 42 || n == 54) 40 ?_
  simp only [cd_X11_checkpoint, cf_X11_checkpoint, wp, wq, wpI, cdF, w_CI, w_CL, w_CN, w_LI, w_LL, w_LA, w_SI, w_SL, w_SA, w_INC, w_II, w_IId, w_LLb, w_LLd, w_LS, w_I1, w_L1, w_I2L, w_L2I, w_CMP, w_DUP, w_POP, w_DUP2, w_IF, w_IC, w_GO, w_NUL, w_ACN, prs, w_GF, w_PF, w_GS, w_IAL, w_LEN, w_LAL, w_ZAL, w_AAL, w_IAS, w_LAS, w_ZAS, w_AAS, w_RI, w_RL, w_RA, w_NEW, w_NA, w_MNA, w_OI, w_THR, w_CV, w_CS, w_CN9, w_CI9, w_MX, w_cont, lget, sto1, sto2, wideV, vo, vo_rv, isR, isR_rv, rv, fget, fput, cats, Value.category, List.headD_cons, List.getD_cons_zero, List.getD_cons_succ, List.drop_succ_cons, List.drop_zero, List.take_succ_cons, List.take_zero, List.reverse_cons, List.reverse_nil, List.nil_append, List.cons_append, List.length_cons, List.length_nil, cond_true, cond_false, and_true, true_and, Nat.zero_add, Nat.add_zero, Nat.reduceAdd, Nat.reduceLT, Nat.reduceLeDiff, Nat.reduceEqDiff, Nat.reduceBEq, Nat.reduceSub, ↓reduceIte, Int32.reduceOfNat, Int64.reduceOfNat, reduceCtorEq, Nat.le_refl, Nat.zero_le, Bool.false_eq_true, beq_self_eq_true, Fin.isValue, Fin.val_zero, Fin.val_one, Fin.reduceFinMk, Fin.val_two, Nat.reduceMod, Bool.or_false, Bool.or_true, Bool.true_or, Bool.false_or, not_true_eq_false, not_false_eq_true, true_or, or_true, implies_true, false_implies, true_implies, Int32.reduceLT, Int32.reduceLE, ↓w_TAB3, ↓w_TAB4, ↓w_TAB5, ↓w_TAB7, ↓w_TAB10, ↓w_LK2, ↓w_LK6, false_and, and_false, i1z, i2z, iz1, im0, im1, l0z, hasK_uI, hasK_uL, hasK_uR, hasK_uZ, hasK_sRow, mR_uI, mR_uL, mR_uZ, mR_sRow, mI_uL, mI_uR, mI_uZ, mL_uI, mL_uR, mL_uZ, mL_sRow, LF.hk hL, layF, LF.r hL, refF, ne_eq, not_false_eq_true, Option.some.injEq, Sum.inl.injEq, Sum.inr.injEq, Prod.mk.injEq, exists_eq_left, exists_eq_left', hn]
  refine c_sharesN (a := sN S 39) (b := 4) (by omega) (by omega) rfl rfl ⟨_, rfl, ?_⟩
  refine r_X11_checkpoint (fun n => n == 4 || n == 7 || n == 19 || n == 30 || n == 42 || n == 54) 40 ?_
  simp only [cd_X11_checkpoint, cf_X11_checkpoint, wp, wq, wpI, cdF, w_CI, w_CL, w_CN, w_LI, w_LL, w_LA, w_SI, w_SL, w_SA, w_INC, w_II, w_IId, w_LLb, w_LLd, w_LS, w_I1, w_L1, w_I2L, w_L2I, w_CMP, w_DUP, w_POP, w_DUP2, w_IF, w_IC, w_GO, w_NUL, w_ACN, prs, w_GF, w_PF, w_GS, w_IAL, w_LEN, w_LAL, w_ZAL, w_AAL, w_IAS, w_LAS, w_ZAS, w_AAS, w_RI, w_RL, w_RA, w_NEW, w_NA, w_MNA, w_OI, w_THR, w_CV, w_CS, w_CN9, w_CI9, w_MX, w_cont, lget, sto1, sto2, wideV, vo, vo_rv, isR, isR_rv, rv, fget, fput, cats, Value.category, List.headD_cons, List.getD_cons_zero, List.getD_cons_succ, List.drop_succ_cons, List.drop_zero, List.take_succ_cons, List.take_zero, List.reverse_cons, List.reverse_nil, List.nil_append, List.cons_append, List.length_cons, List.length_nil, cond_true, cond_false, and_true, true_and, Nat.zero_add, Nat.add_zero, Nat.reduceAdd, Nat.reduceLT, Nat.reduceLeDiff, Nat.reduceEqDiff, Nat.reduceBEq, Nat.reduceSub, ↓reduceIte, Int32.reduceOfNat, Int64.reduceOfNat, reduceCtorEq, Nat.le_refl, Nat.zero_le, Bool.false_eq_true, beq_self_eq_true, Fin.isValue, Fin.val_zero, Fin.val_one, Fin.reduceFinMk, Fin.val_two, Nat.reduceMod, Bool.or_false, Bool.or_true, Bool.true_or, Bool.false_or, not_true_eq_false, not_false_eq_true, true_or, or_true, implies_true, false_implies, true_implies, Int32.reduceLT, Int32.reduceLE, ↓w_TAB3, ↓w_TAB4, ↓w_TAB5, ↓w_TAB7, ↓w_TAB10, ↓w_LK2, ↓w_LK6, false_and, and_false, i1z, i2z, iz1, im0, im1, l0z, hasK_uI, hasK_uL, hasK_uR, hasK_uZ, hasK_sRow, mR_uI, mR_uL, mR_uZ, mR_sRow, mI_uL, mI_uR, mI_uZ, mL_uI, mL_uR, mL_uZ, mL_sRow, LF.hk hL, layF, LF.r hL, refF, ne_eq, not_false_eq_true, Option.some.injEq, Sum.inl.injEq, Sum.inr.injEq, Prod.mk.injEq, exists_eq_left, exists_eq_left', hn]
  refine c_sharesN (a := sN S 55) (b := 2) (by omega) (by omega) rfl rfl ⟨_, rfl, ?_⟩
  have ep : nI ((sN S 28 + 8 - 1) / 8) + nI ((sN S 39 + 4 - 1) / 4) + nI ((sN S 55 + 2 - 1) / 2) + 1 = nI (pgs S) := by
    rw [nI_add, nI_add, nI_1]; rfl
  refine r_X11_checkpoint (fun n => n == 4 || n == 7 || n == 19 || n == 30 || n == 42 || n == 54) 40 ?_
  simp only [cd_X11_checkpoint, cf_X11_checkpoint, wp, wq, wpI, cdF, w_CI, w_CL, w_CN, w_LI, w_LL, w_LA, w_SI, w_SL, w_SA, w_INC, w_II, w_IId, w_LLb, w_LLd, w_LS, w_I1, w_L1, w_I2L, w_L2I, w_CMP, w_DUP, w_POP, w_DUP2, w_IF, w_IC, w_GO, w_NUL, w_ACN, prs, w_GF, w_PF, w_GS, w_IAL, w_LEN, w_LAL, w_ZAL, w_AAL, w_IAS, w_LAS, w_ZAS, w_AAS, w_RI, w_RL, w_RA, w_NEW, w_NA, w_MNA, w_OI, w_THR, w_CV, w_CS, w_CN9, w_CI9, w_MX, w_cont, lget, sto1, sto2, wideV, vo, vo_rv, isR, isR_rv, rv, fget, fput, cats, Value.category, List.headD_cons, List.getD_cons_zero, List.getD_cons_succ, List.drop_succ_cons, List.drop_zero, List.take_succ_cons, List.take_zero, List.reverse_cons, List.reverse_nil, List.nil_append, List.cons_append, List.length_cons, List.length_nil, cond_true, cond_false, and_true, true_and, Nat.zero_add, Nat.add_zero, Nat.reduceAdd, Nat.reduceLT, Nat.reduceLeDiff, Nat.reduceEqDiff, Nat.reduceBEq, Nat.reduceSub, ↓reduceIte, Int32.reduceOfNat, Int64.reduceOfNat, reduceCtorEq, Nat.le_refl, Nat.zero_le, Bool.false_eq_true, beq_self_eq_true, Fin.isValue, Fin.val_zero, Fin.val_one, Fin.reduceFinMk, Fin.val_two, Nat.reduceMod, Bool.or_false, Bool.or_true, Bool.true_or, Bool.false_or, not_true_eq_false, not_false_eq_true, true_or, or_true, implies_true, false_implies, true_implies, Int32.reduceLT, Int32.reduceLE, ↓w_TAB3, ↓w_TAB4, ↓w_TAB5, ↓w_TAB7, ↓w_TAB10, ↓w_LK2, ↓w_LK6, false_and, and_false, i1z, i2z, iz1, im0, im1, l0z, hasK_uI, hasK_uL, hasK_uR, hasK_uZ, hasK_sRow, mR_uI, mR_uL, mR_uZ, mR_sRow, mI_uL, mI_uR, mI_uZ, mL_uI, mL_uR, mL_uZ, mL_sRow, LF.hk hL, layF, LF.r hL, refF, ne_eq, not_false_eq_true, Option.some.injEq, Sum.inl.injEq, Sum.inr.injEq, Prod.mk.injEq, exists_eq_left, exists_eq_left', ep]
  have hfin : ∀ (n' : Nat → Nat) (M' : Mem), cN n' M' → rE 431 M M' → n' 34 = sN S 34 → n' 39 = sN S 39 → n' 55 = sN S 55 → n' 6 ≤ 1 → Go G (MT 155) (QcI M (cutR (wN S n') (pgs S))) (QcX M (cutR (wN S n') (pgs S))) 54 [some (.ref 0), some (.int (nI (pgs S)))] [.int (nI (n' 6))] M' 1 6 := fun n' M' c1 c2 c3 c4 c5 c6 => by
    have rf := RC_n hR' c1 c2 c3 c4 c5 h39
    have hh : hiS M M' := hiS_rE (hiS_rfl M) c2 (by omega)
    rcases (show n' 6 = 0 ∨ n' 6 = 1 by omega) with e6 | e6
    · rw [e6, show nI 0 = (0 : Int32) from rfl]
      refine r_X11_checkpoint (fun n => n == 4 || n == 7 || n == 19 || n == 30 || n == 42 || n == 54) 40 ?_
      simp only [cd_X11_checkpoint, cf_X11_checkpoint, wp, wq, wpI, cdF, w_CI, w_CL, w_CN, w_LI, w_LL, w_LA, w_SI, w_SL, w_SA, w_INC, w_II, w_IId, w_LLb, w_LLd, w_LS, w_I1, w_L1, w_I2L, w_L2I, w_CMP, w_DUP, w_POP, w_DUP2, w_IF, w_IC, w_GO, w_NUL, w_ACN, prs, w_GF, w_PF, w_GS, w_IAL, w_LEN, w_LAL, w_ZAL, w_AAL, w_IAS, w_LAS, w_ZAS, w_AAS, w_RI, w_RL, w_RA, w_NEW, w_NA, w_MNA, w_OI, w_THR, w_CV, w_CS, w_CN9, w_CI9, w_MX, w_cont, lget, sto1, sto2, wideV, vo, vo_rv, isR, isR_rv, rv, fget, fput, cats, Value.category, List.headD_cons, List.getD_cons_zero, List.getD_cons_succ, List.drop_succ_cons, List.drop_zero, List.take_succ_cons, List.take_zero, List.reverse_cons, List.reverse_nil, List.nil_append, List.cons_append, List.length_cons, List.length_nil, cond_true, cond_false, and_true, true_and, Nat.zero_add, Nat.add_zero, Nat.reduceAdd, Nat.reduceLT, Nat.reduceLeDiff, Nat.reduceEqDiff, Nat.reduceBEq, Nat.reduceSub, ↓reduceIte, Int32.reduceOfNat, Int64.reduceOfNat, reduceCtorEq, Nat.le_refl, Nat.zero_le, Bool.false_eq_true, beq_self_eq_true, Fin.isValue, Fin.val_zero, Fin.val_one, Fin.reduceFinMk, Fin.val_two, Nat.reduceMod, Bool.or_false, Bool.or_true, Bool.true_or, Bool.false_or, not_true_eq_false, not_false_eq_true, true_or, or_true, implies_true, false_implies, true_implies, Int32.reduceLT, Int32.reduceLE, ↓w_TAB3, ↓w_TAB4, ↓w_TAB5, ↓w_TAB7, ↓w_TAB10, ↓w_LK2, ↓w_LK6, false_and, and_false, i1z, i2z, iz1, im0, im1, l0z]
      exact Qc_cut rf hh (by show _ = wdI (if n' 6 = 1 then -3 else (pgs S : Int)); rw [e6]; rfl)
    · rw [e6, show nI 1 = (1 : Int32) from rfl]
      refine r_X11_checkpoint (fun n => n == 4 || n == 7 || n == 19 || n == 30 || n == 42 || n == 54) 40 ?_
      simp only [cd_X11_checkpoint, cf_X11_checkpoint, wp, wq, wpI, cdF, w_CI, w_CL, w_CN, w_LI, w_LL, w_LA, w_SI, w_SL, w_SA, w_INC, w_II, w_IId, w_LLb, w_LLd, w_LS, w_I1, w_L1, w_I2L, w_L2I, w_CMP, w_DUP, w_POP, w_DUP2, w_IF, w_IC, w_GO, w_NUL, w_ACN, prs, w_GF, w_PF, w_GS, w_IAL, w_LEN, w_LAL, w_ZAL, w_AAL, w_IAS, w_LAS, w_ZAS, w_AAS, w_RI, w_RL, w_RA, w_NEW, w_NA, w_MNA, w_OI, w_THR, w_CV, w_CS, w_CN9, w_CI9, w_MX, w_cont, lget, sto1, sto2, wideV, vo, vo_rv, isR, isR_rv, rv, fget, fput, cats, Value.category, List.headD_cons, List.getD_cons_zero, List.getD_cons_succ, List.drop_succ_cons, List.drop_zero, List.take_succ_cons, List.take_zero, List.reverse_cons, List.reverse_nil, List.nil_append, List.cons_append, List.length_cons, List.length_nil, cond_true, cond_false, and_true, true_and, Nat.zero_add, Nat.add_zero, Nat.reduceAdd, Nat.reduceLT, Nat.reduceLeDiff, Nat.reduceEqDiff, Nat.reduceBEq, Nat.reduceSub, ↓reduceIte, Int32.reduceOfNat, Int64.reduceOfNat, reduceCtorEq, Nat.le_refl, Nat.zero_le, Bool.false_eq_true, beq_self_eq_true, Fin.isValue, Fin.val_zero, Fin.val_one, Fin.reduceFinMk, Fin.val_two, Nat.reduceMod, Bool.or_false, Bool.or_true, Bool.true_or, Bool.false_or, not_true_eq_false, not_false_eq_true, true_or, or_true, implies_true, false_implies, true_implies, Int32.reduceLT, Int32.reduceLE, ↓w_TAB3, ↓w_TAB4, ↓w_TAB5, ↓w_TAB7, ↓w_TAB10, ↓w_LK2, ↓w_LK6, false_and, and_false, i1z, i2z, iz1, im0, im1, l0z]
      exact Qc_cut rf hh (by show _ = wdI (if n' 6 = 1 then -3 else (pgs S : Int)); rw [e6]; rfl)
  refine Ct.go (L0 := [some (.ref 431), some (.int (nI (pgs S)))]) (by decide +kernel) rfl rfl ?_
  refine r_X5_writeSnapshot (fun n => n == 26 || n == 37) 40 ?_
  simp only [cd_X5_writeSnapshot, cf_X5_writeSnapshot, wp, wq, wpI, cdF, w_CI, w_CL, w_CN, w_LI, w_LL, w_LA, w_SI, w_SL, w_SA, w_INC, w_II, w_IId, w_LLb, w_LLd, w_LS, w_I1, w_L1, w_I2L, w_L2I, w_CMP, w_DUP, w_POP, w_DUP2, w_IF, w_IC, w_GO, w_NUL, w_ACN, prs, w_GF, w_PF, w_GS, w_IAL, w_LEN, w_LAL, w_ZAL, w_AAL, w_IAS, w_LAS, w_ZAS, w_AAS, w_RI, w_RL, w_RA, w_NEW, w_NA, w_MNA, w_OI, w_THR, w_CV, w_CS, w_CN9, w_CI9, w_MX, w_cont, lget, sto1, sto2, wideV, vo, vo_rv, isR, isR_rv, rv, fget, fput, cats, Value.category, List.headD_cons, List.getD_cons_zero, List.getD_cons_succ, List.drop_succ_cons, List.drop_zero, List.take_succ_cons, List.take_zero, List.reverse_cons, List.reverse_nil, List.nil_append, List.cons_append, List.length_cons, List.length_nil, cond_true, cond_false, and_true, true_and, Nat.zero_add, Nat.add_zero, Nat.reduceAdd, Nat.reduceLT, Nat.reduceLeDiff, Nat.reduceEqDiff, Nat.reduceBEq, Nat.reduceSub, ↓reduceIte, Int32.reduceOfNat, Int64.reduceOfNat, reduceCtorEq, Nat.le_refl, Nat.zero_le, Bool.false_eq_true, beq_self_eq_true, Fin.isValue, Fin.val_zero, Fin.val_one, Fin.reduceFinMk, Fin.val_two, Nat.reduceMod, Bool.or_false, Bool.or_true, Bool.true_or, Bool.false_or, not_true_eq_false, not_false_eq_true, true_or, or_true, implies_true, false_implies, true_implies, Int32.reduceLT, Int32.reduceLE, ↓w_TAB3, ↓w_TAB4, ↓w_TAB5, ↓w_TAB7, ↓w_TAB10, ↓w_LK2, ↓w_LK6, false_and, and_false, i1z, i2z, iz1, im0, im1, l0z, hasK_uI, hasK_uL, hasK_uR, hasK_uZ, hasK_sRow, mR_uI, mR_uL, mR_uZ, mR_sRow, mI_uL, mI_uR, mI_uZ, mL_uI, mL_uR, mL_uZ, mL_sRow, LF.hk hL, layF, LF.r hL, refF, ne_eq, not_false_eq_true, Option.some.injEq, Sum.inl.injEq, Sum.inr.injEq, Prod.mk.injEq, exists_eq_left, exists_eq_left', hn]
  have hA : ∀ q : sN S 7 = 0 ∨ pgs S < sN S 7, Ct G (MT 54) [.ref 431, .int (nI (pgs S))] (uI M 431 1 0) (fun v' M' => v' = none ∧ Go G (MT 53) (fun v' M' => ∃ x, v' = some (.int x) ∧ Go G (MT 155) (QcI M (if sN S 7 = 0 ∨ pgs S < sN S 7 then cutR (wN S (spd (up1 (sN S) 9 0) (pgs S))) (pgs S) else cutR (wN S (spd (sN S) (sN S 7 - 1))) (pgs S))) (QcX M (if sN S 7 = 0 ∨ pgs S < sN S 7 then cutR (wN S (spd (up1 (sN S) 9 0) (pgs S))) (pgs S) else cutR (wN S (spd (sN S) (sN S 7 - 1))) (pgs S))) 54 [some (.ref 0), some (.int (nI (pgs S)))] [.int x] M' 1 6) (QcX M (if sN S 7 = 0 ∨ pgs S < sN S 7 then cutR (wN S (spd (up1 (sN S) 9 0) (pgs S))) (pgs S) else cutR (wN S (spd (sN S) (sN S 7 - 1))) (pgs S))) 26 [some (.ref 431), some (.int (nI (pgs S)))] [] M' 0 0) (QcX M (if sN S 7 = 0 ∨ pgs S < sN S 7 then cutR (wN S (spd (up1 (sN S) 9 0) (pgs S))) (pgs S) else cutR (wN S (spd (sN S) (sN S 7 - 1))) (pgs S))) := fun q => by
    simp only [if_pos q]
    refine c_spend (n := up1 (sN S) 9 0) (k := pgs S) (M := uI M 431 1 0) hL (cN_9y hN rfl) (by simp [up1]; omega) (by omega) (by simp [up1]; omega) (fun M' c1 c2 => ⟨rfl, ?_⟩)
    have hL' : LF M' := by obtain ⟨f, rfl⟩ := c2; exact hL
    have c1' := c1
    unfold cN at c1'
    have hb6 : spd (up1 (sN S) 9 0) (pgs S) 6 ≤ 1 := spd_6 (by simp [up1]; omega)
    refine r_X5_writeSnapshot (fun n => n == 26 || n == 37) 40 ?_
    simp only [cd_X5_writeSnapshot, cf_X5_writeSnapshot, wp, wq, wpI, cdF, w_CI, w_CL, w_CN, w_LI, w_LL, w_LA, w_SI, w_SL, w_SA, w_INC, w_II, w_IId, w_LLb, w_LLd, w_LS, w_I1, w_L1, w_I2L, w_L2I, w_CMP, w_DUP, w_POP, w_DUP2, w_IF, w_IC, w_GO, w_NUL, w_ACN, prs, w_GF, w_PF, w_GS, w_IAL, w_LEN, w_LAL, w_ZAL, w_AAL, w_IAS, w_LAS, w_ZAS, w_AAS, w_RI, w_RL, w_RA, w_NEW, w_NA, w_MNA, w_OI, w_THR, w_CV, w_CS, w_CN9, w_CI9, w_MX, w_cont, lget, sto1, sto2, wideV, vo, vo_rv, isR, isR_rv, rv, fget, fput, cats, Value.category, List.headD_cons, List.getD_cons_zero, List.getD_cons_succ, List.drop_succ_cons, List.drop_zero, List.take_succ_cons, List.take_zero, List.reverse_cons, List.reverse_nil, List.nil_append, List.cons_append, List.length_cons, List.length_nil, cond_true, cond_false, and_true, true_and, Nat.zero_add, Nat.add_zero, Nat.reduceAdd, Nat.reduceLT, Nat.reduceLeDiff, Nat.reduceEqDiff, Nat.reduceBEq, Nat.reduceSub, ↓reduceIte, Int32.reduceOfNat, Int64.reduceOfNat, reduceCtorEq, Nat.le_refl, Nat.zero_le, Bool.false_eq_true, beq_self_eq_true, Fin.isValue, Fin.val_zero, Fin.val_one, Fin.reduceFinMk, Fin.val_two, Nat.reduceMod, Bool.or_false, Bool.or_true, Bool.true_or, Bool.false_or, not_true_eq_false, not_false_eq_true, true_or, or_true, implies_true, false_implies, true_implies, Int32.reduceLT, Int32.reduceLE, ↓w_TAB3, ↓w_TAB4, ↓w_TAB5, ↓w_TAB7, ↓w_TAB10, ↓w_LK2, ↓w_LK6, false_and, and_false, i1z, i2z, iz1, im0, im1, l0z, LF.hk hL', layF, c1']
    refine r_X5_writeSnapshot (fun n => n == 26 || n == 37) 40 ?_
    simp only [cd_X5_writeSnapshot, cf_X5_writeSnapshot, wp, wq, wpI, cdF, w_CI, w_CL, w_CN, w_LI, w_LL, w_LA, w_SI, w_SL, w_SA, w_INC, w_II, w_IId, w_LLb, w_LLd, w_LS, w_I1, w_L1, w_I2L, w_L2I, w_CMP, w_DUP, w_POP, w_DUP2, w_IF, w_IC, w_GO, w_NUL, w_ACN, prs, w_GF, w_PF, w_GS, w_IAL, w_LEN, w_LAL, w_ZAL, w_AAL, w_IAS, w_LAS, w_ZAS, w_AAS, w_RI, w_RL, w_RA, w_NEW, w_NA, w_MNA, w_OI, w_THR, w_CV, w_CS, w_CN9, w_CI9, w_MX, w_cont, lget, sto1, sto2, wideV, vo, vo_rv, isR, isR_rv, rv, fget, fput, cats, Value.category, List.headD_cons, List.getD_cons_zero, List.getD_cons_succ, List.drop_succ_cons, List.drop_zero, List.take_succ_cons, List.take_zero, List.reverse_cons, List.reverse_nil, List.nil_append, List.cons_append, List.length_cons, List.length_nil, cond_true, cond_false, and_true, true_and, Nat.zero_add, Nat.add_zero, Nat.reduceAdd, Nat.reduceLT, Nat.reduceLeDiff, Nat.reduceEqDiff, Nat.reduceBEq, Nat.reduceSub, ↓reduceIte, Int32.reduceOfNat, Int64.reduceOfNat, reduceCtorEq, Nat.le_refl, Nat.zero_le, Bool.false_eq_true, beq_self_eq_true, Fin.isValue, Fin.val_zero, Fin.val_one, Fin.reduceFinMk, Fin.val_two, Nat.reduceMod, Bool.or_false, Bool.or_true, Bool.true_or, Bool.false_or, not_true_eq_false, not_false_eq_true, true_or, or_true, implies_true, false_implies, true_implies, Int32.reduceLT, Int32.reduceLE, ↓w_TAB3, ↓w_TAB4, ↓w_TAB5, ↓w_TAB7, ↓w_TAB10, ↓w_LK2, ↓w_LK6, false_and, and_false, i1z, i2z, iz1, im0, im1, l0z, LF.hk hL', layF, c1']
    refine ⟨nI_01 hb6, _, rfl, ?_⟩
    exact hfin _ M' c1 (rE_t (rE_u rE_0) c2) (spd_ne (by omega)) (spd_ne (by omega)) (spd_ne (by omega)) hb6
  refine and_ii (fun h => hA (by (simp only [i_lt, i_le, i_eq, l_lt, l_le, l_eq, Int32.toInt_toInt64, Int32.reduceToInt, Int64.reduceToInt, ne_eq, Classical.not_not] at *; omega))) (fun h1 => and_ii (fun h => ?_) (fun h => hA (by (simp only [i_lt, i_le, i_eq, l_lt, l_le, l_eq, Int32.toInt_toInt64, Int32.reduceToInt, Int64.reduceToInt, ne_eq, Classical.not_not] at *; omega))))
  have hq : ¬ (sN S 7 = 0 ∨ pgs S < sN S 7) := by (simp only [i_lt, i_le, i_eq, l_lt, l_le, l_eq, Int32.toInt_toInt64, Int32.reduceToInt, Int64.reduceToInt, ne_eq, Classical.not_not] at *; omega)
  have e7 : nI (sN S 7) - 1 = nI (sN S 7 - 1) := nI_sub (b := 1) (by omega) (by omega)
  simp only [if_neg hq, e7]
  refine c_spend (n := sN S) (k := sN S 7 - 1) hL hN (by omega) (by omega) (by omega) (fun M' c1 c2 => ⟨rfl, ?_⟩)
  have hL' : LF M' := by obtain ⟨f, rfl⟩ := c2; exact hL
  have c1' := c1
  unfold cN at c1'
  have hb6 : spd (sN S) (sN S 7 - 1) 6 ≤ 1 := spd_6 (by omega)
  refine r_X5_writeSnapshot (fun n => n == 26 || n == 37) 40 ?_
  simp only [cd_X5_writeSnapshot, cf_X5_writeSnapshot, wp, wq, wpI, cdF, w_CI, w_CL, w_CN, w_LI, w_LL, w_LA, w_SI, w_SL, w_SA, w_INC, w_II, w_IId, w_LLb, w_LLd, w_LS, w_I1, w_L1, w_I2L, w_L2I, w_CMP, w_DUP, w_POP, w_DUP2, w_IF, w_IC, w_GO, w_NUL, w_ACN, prs, w_GF, w_PF, w_GS, w_IAL, w_LEN, w_LAL, w_ZAL, w_AAL, w_IAS, w_LAS, w_ZAS, w_AAS, w_RI, w_RL, w_RA, w_NEW, w_NA, w_MNA, w_OI, w_THR, w_CV, w_CS, w_CN9, w_CI9, w_MX, w_cont, lget, sto1, sto2, wideV, vo, vo_rv, isR, isR_rv, rv, fget, fput, cats, Value.category, List.headD_cons, List.getD_cons_zero, List.getD_cons_succ, List.drop_succ_cons, List.drop_zero, List.take_succ_cons, List.take_zero, List.reverse_cons, List.reverse_nil, List.nil_append, List.cons_append, List.length_cons, List.length_nil, cond_true, cond_false, and_true, true_and, Nat.zero_add, Nat.add_zero, Nat.reduceAdd, Nat.reduceLT, Nat.reduceLeDiff, Nat.reduceEqDiff, Nat.reduceBEq, Nat.reduceSub, ↓reduceIte, Int32.reduceOfNat, Int64.reduceOfNat, reduceCtorEq, Nat.le_refl, Nat.zero_le, Bool.false_eq_true, beq_self_eq_true, Fin.isValue, Fin.val_zero, Fin.val_one, Fin.reduceFinMk, Fin.val_two, Nat.reduceMod, Bool.or_false, Bool.or_true, Bool.true_or, Bool.false_or, not_true_eq_false, not_false_eq_true, true_or, or_true, implies_true, false_implies, true_implies, Int32.reduceLT, Int32.reduceLE, ↓w_TAB3, ↓w_TAB4, ↓w_TAB5, ↓w_TAB7, ↓w_TAB10, ↓w_LK2, ↓w_LK6, false_and, and_false, i1z, i2z, iz1, im0, im1, l0z, LF.hk hL', layF, c1']
  refine ⟨nI_01 hb6, _, rfl, ?_⟩
  exact hfin _ M' c1 c2 (spd_ne (by omega)) (spd_ne (by omega)) (spd_ne (by omega)) hb6
theorem spd_0 (h6 : n 6 = 0) (h7 : n 7 ≠ 1) : spd n 0 = n := by
  unfold spd
  split
  · exact up1_id
  · rw [if_neg (by omega), Nat.add_zero, Nat.sub_zero, up1_id, up1_id]
    conv => lhs; rw [← h6]
    exact up1_id
theorem spd_s (h : n 7 = 0 ∨ k + 1 < n 7) : spd (spd n k) 1 = spd n (k + 1) := by
  unfold spd
  by_cases e : n 7 = 0
  · simp only [if_pos e]
    rw [if_pos (by simp [up1, e])]
    funext i
    simp only [up1]
    split
    · rename_i q; subst q; simp; omega
    · rfl
  · simp only [if_neg e]
    rw [if_neg (by simp [up1]; omega)]
    funext i
    simp only [up1]
    by_cases e6 : i = 6
    · subst e6
      have hiff : (n 7 - k - 1 = 1) ↔ (n 7 - (k + 1) = 1) := by omega
      simp only [↓reduceIte]
      by_cases q : n 7 - (k + 1) = 1
      · rw [if_pos q]; simp; omega
      · rw [if_neg q]; simp; omega
    · by_cases e7 : i = 7
      · subst e7; simp; omega
      · by_cases e10 : i = 10
        · subst e10; simp; omega
        · simp [e6, e7, e10]
theorem spd_6v (h : ¬ n 7 = 0) : spd n k 6 = if n 7 - k = 1 then 1 else 0 := by unfold spd; rw [if_neg h]; rfl
theorem spd_60 (h : n 7 = 0) (h6 : n 6 = 0) : spd n k 6 = 0 := by unfold spd; rw [if_pos h]; exact h6
theorem spd_7v : spd n k 7 = n 7 - k := by
  unfold spd; split
  · rename_i q; show n 7 = _; omega
  · rfl
theorem spd_9 : up1 (spd n k) 9 0 = spd (up1 n 9 0) k := by
  unfold spd
  by_cases e : n 7 = 0
  · rw [if_pos e, if_pos (by simp [up1, e])]
    funext i; simp only [up1]; split
    · rename_i q; subst q; simp
    · split <;> simp_all
  · rw [if_neg e, if_neg (show ¬ up1 n 9 0 7 = 0 from e)]
    funext i; simp only [up1]
    by_cases e9 : i = 9
    · subst e9; simp
    · simp [e9]
theorem lp_check (hL : LF M) (hs : n 7 ≤ 1001) (h7 : n 7 ≠ 1) (h6 : n 6 = 0) (hN : mNn n M) (hK : K ≤ 40) (hQ : ∀ (e : Nat) (M' : Mem), e ≤ K → (e = K ∨ n 7 = e + 1) → (n 7 = 0 ∨ e < n 7) → mNn (spd n e) M' → rN M M' → mI M' 495 3 = mI M 495 3 → Go G (MT 278) Q X 80 [some (.ref 495), some (.int (nI K)), some (.int (b2i (spd n e 6 = 0))), some (.int (nI e))] [] M' 0 0) : ∀ (m k : Nat), m + k = K → (n 7 = 0 ∨ k < n 7) → ∀ Mk, mNn (spd n k) Mk → rN M Mk → mI Mk 495 3 = mI M 495 3 → Go G (MT 278) Q X 60 [some (.ref 495), some (.int (nI K)), some (.int (b2i (spd n k 6 = 0))), some (.int (nI k))] [] Mk 0 0 := by
  have tK := nI_toInt (n := K) (by omega)
  intro m
  induction m with
  | zero =>
    intro k hk hb Mk a1 a2 a3
    have hk : k = K := by omega
    subst hk
    have := hQ k Mk (Nat.le_refl k) (Or.inl rfl) hb a1 a2 a3
    refine r_X12_checkpoint (fun n => n == 60 || n == 80 || n == 5 || n == 73) 60 ?_
    simp only [cd_X12_checkpoint, cf_X12_checkpoint, wp, wq, wpI, cdF, w_CI, w_CL, w_CN, w_LI, w_LL, w_LA, w_SI, w_SL, w_SA, w_INC, w_II, w_IId, w_LLb, w_LLd, w_LS, w_I1, w_L1, w_I2L, w_L2I, w_CMP, w_DUP, w_POP, w_DUP2, w_IF, w_IC, w_GO, w_NUL, w_ACN, prs, w_GF, w_PF, w_GS, w_IAL, w_LEN, w_LAL, w_ZAL, w_AAL, w_IAS, w_LAS, w_ZAS, w_AAS, w_RI, w_RL, w_RA, w_NEW, w_NA, w_MNA, w_OI, w_THR, w_CV, w_CS, w_CN9, w_CI9, w_MX, w_cont, lget, sto1, sto2, wideV, vo, vo_rv, isR, isR_rv, rv, fget, fput, cats, Value.category, List.headD_cons, List.getD_cons_zero, List.getD_cons_succ, List.drop_succ_cons, List.drop_zero, List.take_succ_cons, List.take_zero, List.reverse_cons, List.reverse_nil, List.nil_append, List.cons_append, List.length_cons, List.length_nil, cond_true, cond_false, and_true, true_and, Nat.zero_add, Nat.add_zero, Nat.reduceAdd, Nat.reduceLT, Nat.reduceLeDiff, Nat.reduceEqDiff, Nat.reduceBEq, Nat.reduceSub, ↓reduceIte, Int32.reduceOfNat, Int64.reduceOfNat, reduceCtorEq, Nat.le_refl, Nat.zero_le, Bool.false_eq_true, beq_self_eq_true, Fin.isValue, Fin.val_zero, Fin.val_one, Fin.reduceFinMk, Fin.val_two, Nat.reduceMod, Bool.or_false, Bool.or_true, Bool.true_or, Bool.false_or, not_true_eq_false, not_false_eq_true, true_or, or_true, implies_true, false_implies, true_implies, Int32.reduceLT, Int32.reduceLE, ↓w_TAB3, ↓w_TAB4, ↓w_TAB5, ↓w_TAB7, ↓w_TAB10, ↓w_LK2, ↓w_LK6, false_and, and_false, i1z, i2z, iz1, im0, im1, l0z]
    exact ⟨fun _ => this, fun q => absurd (nI_le (Nat.le_refl k) (by omega)) q⟩
  | succ m ih =>
    intro k hk hb Mk a1 a2 a3
    have tk := nI_toInt (n := k) (by omega)
    have hLk := rN_L a2 hL
    refine r_X12_checkpoint (fun n => n == 60 || n == 80 || n == 5 || n == 73) 60 ?_
    simp only [cd_X12_checkpoint, cf_X12_checkpoint, wp, wq, wpI, cdF, w_CI, w_CL, w_CN, w_LI, w_LL, w_LA, w_SI, w_SL, w_SA, w_INC, w_II, w_IId, w_LLb, w_LLd, w_LS, w_I1, w_L1, w_I2L, w_L2I, w_CMP, w_DUP, w_POP, w_DUP2, w_IF, w_IC, w_GO, w_NUL, w_ACN, prs, w_GF, w_PF, w_GS, w_IAL, w_LEN, w_LAL, w_ZAL, w_AAL, w_IAS, w_LAS, w_ZAS, w_AAS, w_RI, w_RL, w_RA, w_NEW, w_NA, w_MNA, w_OI, w_THR, w_CV, w_CS, w_CN9, w_CI9, w_MX, w_cont, lget, sto1, sto2, wideV, vo, vo_rv, isR, isR_rv, rv, fget, fput, cats, Value.category, List.headD_cons, List.getD_cons_zero, List.getD_cons_succ, List.drop_succ_cons, List.drop_zero, List.take_succ_cons, List.take_zero, List.reverse_cons, List.reverse_nil, List.nil_append, List.cons_append, List.length_cons, List.length_nil, cond_true, cond_false, and_true, true_and, Nat.zero_add, Nat.add_zero, Nat.reduceAdd, Nat.reduceLT, Nat.reduceLeDiff, Nat.reduceEqDiff, Nat.reduceBEq, Nat.reduceSub, ↓reduceIte, Int32.reduceOfNat, Int64.reduceOfNat, reduceCtorEq, Nat.le_refl, Nat.zero_le, Bool.false_eq_true, beq_self_eq_true, Fin.isValue, Fin.val_zero, Fin.val_one, Fin.reduceFinMk, Fin.val_two, Nat.reduceMod, Bool.or_false, Bool.or_true, Bool.true_or, Bool.false_or, not_true_eq_false, not_false_eq_true, true_or, or_true, implies_true, false_implies, true_implies, Int32.reduceLT, Int32.reduceLE, ↓w_TAB3, ↓w_TAB4, ↓w_TAB5, ↓w_TAB7, ↓w_TAB10, ↓w_LK2, ↓w_LK6, false_and, and_false, i1z, i2z, iz1, im0, im1, l0z, b2i_0, LF.hk hLk, layF]
    refine and_ii (fun q => ?_) (fun _ => and_ii (fun q => ?_) (fun q => ?_))
    · exfalso; (simp only [i_lt, i_le, i_eq, l_lt, l_le, l_eq, Int32.toInt_toInt64, Int32.reduceToInt, Int64.reduceToInt, ne_eq, Classical.not_not] at *; omega)
    · have e : n 7 = k + 1 := by
        by_cases e0 : n 7 = 0
        · exact absurd (spd_60 e0 h6) q
        · rw [spd_6v e0] at q
          split at q <;> omega
      exact hQ k Mk (by omega) (Or.inr e) hb a1 a2 a3
    · have q := Classical.not_not.mp q
      have hne : n 7 = 0 ∨ k + 1 < n 7 := by
        by_cases e0 : n 7 = 0
        · exact Or.inl e0
        · rw [spd_6v e0] at q
          split at q <;> omega
      refine m_spend (n := spd n k) hLk a1 (by rw [spd_7v]; omega) (by rw [spd_7v]; omega) q (fun M' c1 c2 c3 => ⟨_, rfl, ?_⟩)
      rw [spd_s hne] at c1 ⊢
      refine r_X12_checkpoint (fun n => n == 60 || n == 80 || n == 5 || n == 73) 60 ?_
      simp only [cd_X12_checkpoint, cf_X12_checkpoint, wp, wq, wpI, cdF, w_CI, w_CL, w_CN, w_LI, w_LL, w_LA, w_SI, w_SL, w_SA, w_INC, w_II, w_IId, w_LLb, w_LLd, w_LS, w_I1, w_L1, w_I2L, w_L2I, w_CMP, w_DUP, w_POP, w_DUP2, w_IF, w_IC, w_GO, w_NUL, w_ACN, prs, w_GF, w_PF, w_GS, w_IAL, w_LEN, w_LAL, w_ZAL, w_AAL, w_IAS, w_LAS, w_ZAS, w_AAS, w_RI, w_RL, w_RA, w_NEW, w_NA, w_MNA, w_OI, w_THR, w_CV, w_CS, w_CN9, w_CI9, w_MX, w_cont, lget, sto1, sto2, wideV, vo, vo_rv, isR, isR_rv, rv, fget, fput, cats, Value.category, List.headD_cons, List.getD_cons_zero, List.getD_cons_succ, List.drop_succ_cons, List.drop_zero, List.take_succ_cons, List.take_zero, List.reverse_cons, List.reverse_nil, List.nil_append, List.cons_append, List.length_cons, List.length_nil, cond_true, cond_false, and_true, true_and, Nat.zero_add, Nat.add_zero, Nat.reduceAdd, Nat.reduceLT, Nat.reduceLeDiff, Nat.reduceEqDiff, Nat.reduceBEq, Nat.reduceSub, ↓reduceIte, Int32.reduceOfNat, Int64.reduceOfNat, reduceCtorEq, Nat.le_refl, Nat.zero_le, Bool.false_eq_true, beq_self_eq_true, Fin.isValue, Fin.val_zero, Fin.val_one, Fin.reduceFinMk, Fin.val_two, Nat.reduceMod, Bool.or_false, Bool.or_true, Bool.true_or, Bool.false_or, not_true_eq_false, not_false_eq_true, true_or, or_true, implies_true, false_implies, true_implies, Int32.reduceLT, Int32.reduceLE, ↓w_TAB3, ↓w_TAB4, ↓w_TAB5, ↓w_TAB7, ↓w_TAB10, ↓w_LK2, ↓w_LK6, false_and, and_false, i1z, i2z, iz1, im0, im1, l0z, nI_1]
      exact ih (k + 1) (by omega) hne M' c1 (rN_t a2 c2) (by rw [c3, a3])
theorem m_checkpoint (hR : RM S M) (hj : Jv t S) : Ct G (MT 278) [.ref 495] M (QmI1 M (o_checkpoint S)) X := by
  obtain ⟨hL, hN, hI, hLl, hA, hC, hP, hRr, hD, hT, hZ, hK⟩ := id hR
  have hs := hj.1
  have hn := hN
  unfold mNn at hn
  unfold jS at hs
  have hpg := pgs_le hj
  refine Ct.go (L0 := [some (.ref 495), none, none, none]) (by decide +kernel) rfl rfl ?_
  refine r_X12_checkpoint (fun n => n == 5 || n == 73) 60 ?_
  simp only [cd_X12_checkpoint, cf_X12_checkpoint, wp, wq, wpI, cdF, w_CI, w_CL, w_CN, w_LI, w_LL, w_LA, w_SI, w_SL, w_SA, w_INC, w_II, w_IId, w_LLb, w_LLd, w_LS, w_I1, w_L1, w_I2L, w_L2I, w_CMP, w_DUP, w_POP, w_DUP2, w_IF, w_IC, w_GO, w_NUL, w_ACN, prs, w_GF, w_PF, w_GS, w_IAL, w_LEN, w_LAL, w_ZAL, w_AAL, w_IAS, w_LAS, w_ZAS, w_AAS, w_RI, w_RL, w_RA, w_NEW, w_NA, w_MNA, w_OI, w_THR, w_CV, w_CS, w_CN9, w_CI9, w_MX, w_cont, lget, sto1, sto2, wideV, vo, vo_rv, isR, isR_rv, rv, fget, fput, cats, Value.category, List.headD_cons, List.getD_cons_zero, List.getD_cons_succ, List.drop_succ_cons, List.drop_zero, List.take_succ_cons, List.take_zero, List.reverse_cons, List.reverse_nil, List.nil_append, List.cons_append, List.length_cons, List.length_nil, cond_true, cond_false, and_true, true_and, Nat.zero_add, Nat.add_zero, Nat.reduceAdd, Nat.reduceLT, Nat.reduceLeDiff, Nat.reduceEqDiff, Nat.reduceBEq, Nat.reduceSub, ↓reduceIte, Int32.reduceOfNat, Int64.reduceOfNat, reduceCtorEq, Nat.le_refl, Nat.zero_le, Bool.false_eq_true, beq_self_eq_true, Fin.isValue, Fin.val_zero, Fin.val_one, Fin.reduceFinMk, Fin.val_two, Nat.reduceMod, Bool.or_false, Bool.or_true, Bool.true_or, Bool.false_or, not_true_eq_false, not_false_eq_true, true_or, or_true, implies_true, false_implies, true_implies, Int32.reduceLT, Int32.reduceLE, ↓w_TAB3, ↓w_TAB4, ↓w_TAB5, ↓w_TAB7, ↓w_TAB10, ↓w_LK2, ↓w_LK6, false_and, and_false, i1z, i2z, iz1, im0, im1, l0z, hasK_uI, hasK_uL, hasK_uR, hasK_uZ, hasK_sRow, mR_uI, mR_uL, mR_uZ, mR_sRow, mI_uL, mI_uR, mI_uZ, mL_uI, mL_uR, mL_uZ, mL_sRow, LF.hk hL, layF, LF.r hL, refF, ne_eq, not_false_eq_true, Option.some.injEq, Sum.inl.injEq, Sum.inr.injEq, Prod.mk.injEq, exists_eq_left, exists_eq_left']
  refine m_isOpen hL hN (smN_of hj) ⟨_, rfl, ?_⟩
  by_cases h2 : sN S 4 = 1 ∧ sN S 6 = 0
  rotate_left
  · rw [b2i_f h2]
    refine r_X12_checkpoint (fun n => n == 60 || n == 5 || n == 73) 60 ?_
    simp only [cd_X12_checkpoint, cf_X12_checkpoint, wp, wq, wpI, cdF, w_CI, w_CL, w_CN, w_LI, w_LL, w_LA, w_SI, w_SL, w_SA, w_INC, w_II, w_IId, w_LLb, w_LLd, w_LS, w_I1, w_L1, w_I2L, w_L2I, w_CMP, w_DUP, w_POP, w_DUP2, w_IF, w_IC, w_GO, w_NUL, w_ACN, prs, w_GF, w_PF, w_GS, w_IAL, w_LEN, w_LAL, w_ZAL, w_AAL, w_IAS, w_LAS, w_ZAS, w_AAS, w_RI, w_RL, w_RA, w_NEW, w_NA, w_MNA, w_OI, w_THR, w_CV, w_CS, w_CN9, w_CI9, w_MX, w_cont, lget, sto1, sto2, wideV, vo, vo_rv, isR, isR_rv, rv, fget, fput, cats, Value.category, List.headD_cons, List.getD_cons_zero, List.getD_cons_succ, List.drop_succ_cons, List.drop_zero, List.take_succ_cons, List.take_zero, List.reverse_cons, List.reverse_nil, List.nil_append, List.cons_append, List.length_cons, List.length_nil, cond_true, cond_false, and_true, true_and, Nat.zero_add, Nat.add_zero, Nat.reduceAdd, Nat.reduceLT, Nat.reduceLeDiff, Nat.reduceEqDiff, Nat.reduceBEq, Nat.reduceSub, ↓reduceIte, Int32.reduceOfNat, Int64.reduceOfNat, reduceCtorEq, Nat.le_refl, Nat.zero_le, Bool.false_eq_true, beq_self_eq_true, Fin.isValue, Fin.val_zero, Fin.val_one, Fin.reduceFinMk, Fin.val_two, Nat.reduceMod, Bool.or_false, Bool.or_true, Bool.true_or, Bool.false_or, not_true_eq_false, not_false_eq_true, true_or, or_true, implies_true, false_implies, true_implies, Int32.reduceLT, Int32.reduceLE, ↓w_TAB3, ↓w_TAB4, ↓w_TAB5, ↓w_TAB7, ↓w_TAB10, ↓w_LK2, ↓w_LK6, false_and, and_false, i1z, i2z, iz1, im0, im1, l0z, hasK_uI, hasK_uL, hasK_uR, hasK_uZ, hasK_sRow, mR_uI, mR_uL, mR_uZ, mR_sRow, mI_uL, mI_uR, mI_uZ, mL_uI, mL_uR, mL_uZ, mL_sRow, LF.hk hL, layF, LF.r hL, refF, ne_eq, not_false_eq_true, Option.some.injEq, Sum.inl.injEq, Sum.inr.injEq, Prod.mk.injEq, exists_eq_left, exists_eq_left', mI_uI, eq_self]
    exact Qm1_2 hR (gat_2 trivial h2)
  unfold o_checkpoint
  rw [gat_0 trivial h2, b2i_t h2]
  refine r_X12_checkpoint (fun n => n == 60 || n == 5 || n == 73) 60 ?_
  simp only [cd_X12_checkpoint, cf_X12_checkpoint, wp, wq, wpI, cdF, w_CI, w_CL, w_CN, w_LI, w_LL, w_LA, w_SI, w_SL, w_SA, w_INC, w_II, w_IId, w_LLb, w_LLd, w_LS, w_I1, w_L1, w_I2L, w_L2I, w_CMP, w_DUP, w_POP, w_DUP2, w_IF, w_IC, w_GO, w_NUL, w_ACN, prs, w_GF, w_PF, w_GS, w_IAL, w_LEN, w_LAL, w_ZAL, w_AAL, w_IAS, w_LAS, w_ZAS, w_AAS, w_RI, w_RL, w_RA, w_NEW, w_NA, w_MNA, w_OI, w_THR, w_CV, w_CS, w_CN9, w_CI9, w_MX, w_cont, lget, sto1, sto2, wideV, vo, vo_rv, isR, isR_rv, rv, fget, fput, cats, Value.category, List.headD_cons, List.getD_cons_zero, List.getD_cons_succ, List.drop_succ_cons, List.drop_zero, List.take_succ_cons, List.take_zero, List.reverse_cons, List.reverse_nil, List.nil_append, List.cons_append, List.length_cons, List.length_nil, cond_true, cond_false, and_true, true_and, Nat.zero_add, Nat.add_zero, Nat.reduceAdd, Nat.reduceLT, Nat.reduceLeDiff, Nat.reduceEqDiff, Nat.reduceBEq, Nat.reduceSub, ↓reduceIte, Int32.reduceOfNat, Int64.reduceOfNat, reduceCtorEq, Nat.le_refl, Nat.zero_le, Bool.false_eq_true, beq_self_eq_true, Fin.isValue, Fin.val_zero, Fin.val_one, Fin.reduceFinMk, Fin.val_two, Nat.reduceMod, Bool.or_false, Bool.or_true, Bool.true_or, Bool.false_or, not_true_eq_false, not_false_eq_true, true_or, or_true, implies_true, false_implies, true_implies, Int32.reduceLT, Int32.reduceLE, ↓w_TAB3, ↓w_TAB4, ↓w_TAB5, ↓w_TAB7, ↓w_TAB10, ↓w_LK2, ↓w_LK6, false_and, and_false, i1z, i2z, iz1, im0, im1, l0z, hasK_uI, hasK_uL, hasK_uR, hasK_uZ, hasK_sRow, mR_uI, mR_uL, mR_uZ, mR_sRow, mI_uL, mI_uR, mI_uZ, mL_uI, mL_uR, mL_uZ, mL_sRow, LF.hk hL, layF, LF.r hL, refF, ne_eq, not_false_eq_true, Option.some.injEq, Sum.inl.injEq, Sum.inr.injEq, Prod.mk.injEq, exists_eq_left, exists_eq_left', mI_uI, hn, i1z]
  have d1 : (nI (sN S 28) + 7) / 8 = nI ((sN S 28 + 7) / 8) := by
    rw [show nI (sN S 28) + 7 = nI (sN S 28 + 7) from nI_add _ 7]
    exact nI_div (b := 8) (by omega) (by omega) (by omega)
  have d2 : (nI (sN S 39) + 3) / 4 = nI ((sN S 39 + 3) / 4) := by
    rw [show nI (sN S 39) + 3 = nI (sN S 39 + 3) from nI_add _ 3]
    exact nI_div (b := 4) (by omega) (by omega) (by omega)
  have d3 : (nI (sN S 55) + 1) / 2 = nI ((sN S 55 + 1) / 2) := by
    rw [show nI (sN S 55) + 1 = nI (sN S 55 + 1) from nI_add _ 1]
    exact nI_div (b := 2) (by omega) (by omega) (by omega)
  have ep : (nI (sN S 28) + 7) / 8 + (nI (sN S 39) + 3) / 4 + (nI (sN S 55) + 1) / 2 + 1 = nI (pgs S) := by
    rw [d1, d2, d3, nI_add, nI_add, nI_1]; rfl
  refine ⟨by decide, by decide, ?_⟩
  rw [ep]
  have r0 := RM_code (v := 0) hR
  have i0 : loS M (uI M 495 3 0) := loS_uI (loS_rfl M) (by omega)
  have z0 : mI (uI M 495 3 0) 495 3 = 0 := by rw [mI_uI, if_pos ⟨rfl, rfl⟩]
  generalize uI M 495 3 0 = Mz at r0 i0 z0 ⊢
  have s0 := spd_0 (n := sN S) h2.2 (by omega)
  have tp := nI_toInt (n := pgs S) (by omega)
  have lp := lp_check (G := G) (X := X) (n := sN S) (M := Mz) (K := pgs S) (Q := QmI1 M (if sN S 7 = 0 ∨ pgs S < sN S 7 then cutR (wN S (spd (up1 (sN S) 9 0) (pgs S))) (pgs S) else cutR (wN S (spd (sN S) (sN S 7 - 1))) (pgs S))) r0.1 (by omega) (by omega) h2.2 r0.2.1 (by omega) ?_ (pgs S) 0 (by omega) (by omega) Mz (by rw [s0]; exact r0.2.1) rN_0 rfl
  · rw [s0, b2i_t h2.2] at lp
    exact lp
  intro e M' g1 g2 g3 g4 g5 g6
  have l9 := rN_L g5 r0.1
  have te := nI_toInt (n := e) (by omega)
  have g9 : mI M' 495 9 = nI (spd (sN S) e 9) := by
    unfold mNn at g4
    exact g4.2.2.2.2.2.2.2.2.2.2.2.2.2.2.2.1
  have hi' := loS_rN i0 g5
  have hz' : mI M' 495 3 = 0 := g6.trans z0
  refine r_X12_checkpoint (fun n => n == 5 || n == 73) 60 ?_
  simp only [cd_X12_checkpoint, cf_X12_checkpoint, wp, wq, wpI, cdF, w_CI, w_CL, w_CN, w_LI, w_LL, w_LA, w_SI, w_SL, w_SA, w_INC, w_II, w_IId, w_LLb, w_LLd, w_LS, w_I1, w_L1, w_I2L, w_L2I, w_CMP, w_DUP, w_POP, w_DUP2, w_IF, w_IC, w_GO, w_NUL, w_ACN, prs, w_GF, w_PF, w_GS, w_IAL, w_LEN, w_LAL, w_ZAL, w_AAL, w_IAS, w_LAS, w_ZAS, w_AAS, w_RI, w_RL, w_RA, w_NEW, w_NA, w_MNA, w_OI, w_THR, w_CV, w_CS, w_CN9, w_CI9, w_MX, w_cont, lget, sto1, sto2, wideV, vo, vo_rv, isR, isR_rv, rv, fget, fput, cats, Value.category, List.headD_cons, List.getD_cons_zero, List.getD_cons_succ, List.drop_succ_cons, List.drop_zero, List.take_succ_cons, List.take_zero, List.reverse_cons, List.reverse_nil, List.nil_append, List.cons_append, List.length_cons, List.length_nil, cond_true, cond_false, and_true, true_and, Nat.zero_add, Nat.add_zero, Nat.reduceAdd, Nat.reduceLT, Nat.reduceLeDiff, Nat.reduceEqDiff, Nat.reduceBEq, Nat.reduceSub, ↓reduceIte, Int32.reduceOfNat, Int64.reduceOfNat, reduceCtorEq, Nat.le_refl, Nat.zero_le, Bool.false_eq_true, beq_self_eq_true, Fin.isValue, Fin.val_zero, Fin.val_one, Fin.reduceFinMk, Fin.val_two, Nat.reduceMod, Bool.or_false, Bool.or_true, Bool.true_or, Bool.false_or, not_true_eq_false, not_false_eq_true, true_or, or_true, implies_true, false_implies, true_implies, Int32.reduceLT, Int32.reduceLE, ↓w_TAB3, ↓w_TAB4, ↓w_TAB5, ↓w_TAB7, ↓w_TAB10, ↓w_LK2, ↓w_LK6, false_and, and_false, i1z, i2z, iz1, im0, im1, l0z, hasK_uI, hasK_uL, hasK_uR, hasK_uZ, hasK_sRow, mR_uI, mR_uL, mR_uZ, mR_sRow, mI_uL, mI_uR, mI_uZ, mL_uI, mL_uR, mL_uZ, mL_sRow, LF.hg l9, layF, LF.r l9, refF, ne_eq, not_false_eq_true, Option.some.injEq, Sum.inl.injEq, Sum.inr.injEq, Prod.mk.injEq, exists_eq_left, exists_eq_left', g9]
  refine and_ii (fun q => ?_) (fun q => ?_)
  · have ne : ¬ e = pgs S := fun e2 => q (by rw [e2])
    have e7 : sN S 7 = e + 1 := by omega
    have ee : sN S 7 - 1 = e := by omega
    rw [if_neg (show ¬ (sN S 7 = 0 ∨ pgs S < sN S 7) by omega), ee]
    have e6 : spd (sN S) e 6 = 1 := by rw [spd_6v (by omega), if_pos (by omega)]
    have r9 := RM_n r0 (n' := spd (sN S) e) g4 g5 (spd_ne (by omega)) (spd_ne (by omega)) (spd_ne (by omega))
    have ew : uI M' 495 9 (nI (spd (sN S) e 9)) = M' := by rw [← g9]; exact uI_id
    rw [ew, b2i_f (by omega)]
    refine ⟨fun _ => ?_, fun q => absurd rfl q⟩
    refine ⟨?_, ?_, r9, hi'⟩
    · show some (Value.int (-3)) = some (Value.int (wdI (if spd (sN S) e 6 = 1 then -3 else (pgs S : Int))))
      rw [e6]; rfl
    · rw [hz']; rfl
  · have q := Classical.not_not.mp q
    have ne : e = pgs S := (nI_eq (by omega) (by omega)).mp q
    subst ne
    rw [if_pos (show sN S 7 = 0 ∨ pgs S < sN S 7 by omega)]
    have g4' : mNn (spd (up1 (sN S) 9 0) (pgs S)) (uI M' 495 9 0) := by
      have := mNn_9y (v := 0) (y := 0) g4 rfl
      rw [spd_9] at this
      exact this
    have r9 := RM_n r0 g4' (rN_u g5 (by omega)) (spd_ne (by omega)) (spd_ne (by omega)) (spd_ne (by omega))
    have e6 : spd (up1 (sN S) 9 0) (pgs S) 6 = spd (sN S) (pgs S) 6 := by rw [← spd_9]; rfl
    have hb6 : spd (sN S) (pgs S) 6 ≤ 1 := spd_6 (by omega)
    have hz9 : mI (uI M' 495 9 0) 495 3 = 0 := by rw [mI_ne (by omega)]; exact hz'
    rcases (show spd (sN S) (pgs S) 6 = 0 ∨ spd (sN S) (pgs S) 6 = 1 by omega) with e0 | e0
    · rw [b2i_t e0]
      refine ⟨fun q => absurd q (by decide), fun _ => ?_⟩
      refine ⟨?_, by rw [hz9]; rfl, r9, loS_uI hi' (by omega)⟩
      show some (Value.int (nI (pgs S))) = some (Value.int (wdI (if spd (up1 (sN S) 9 0) (pgs S) 6 = 1 then -3 else (pgs S : Int))))
      rw [e6, e0]; rfl
    · rw [b2i_f (by omega)]
      refine ⟨fun _ => ?_, fun q => absurd rfl q⟩
      refine ⟨?_, by rw [hz9]; rfl, r9, loS_uI hi' (by omega)⟩
      show some (Value.int (-3)) = some (Value.int (wdI (if spd (up1 (sN S) 9 0) (pgs S) 6 = 1 then -3 else (pgs S : Int))))
      rw [e6, e0]; rfl
end CHK
