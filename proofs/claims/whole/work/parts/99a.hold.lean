/-! A PAYMENT IS HELD: the class -/
section HD
variable {G : En} {M M0 Mz M' : Mem} {Q : Option Value → Mem → Prop} {X : String → Mem → Prop} {S : Sw} {t a b j k v i np T A : Nat} {x y : Int32} {z : Int64} {u am : Int} {w c : Nat → Nat} {o : Nat} {p : Py} {q q' : Nat → Int × Int} {m : Msg}
theorem up1_cm {α : Type} {f : Nat → α} {x x' : α} (h : i ≠ k) : up1 (up1 f i x) k x' = up1 (up1 f k x') i x := by
  funext j
  unfold up1
  by_cases e : j = k
  · subst e; rw [if_pos rfl, if_neg (fun q => h q.symm), if_pos rfl]
  · rw [if_neg e]
    by_cases e2 : j = i
    · rw [if_pos e2, if_pos e2]
    · rw [if_neg e2, if_neg e2, if_neg e]
theorem newP_acc {acc : Nat} : pIu (newP S m a 0) 45 acc = newP S m a acc := by
  refine py_ext ?_ rfl rfl rfl
  show up1 (up1 (up1 (up1 (up1 (up1 (up1 (fun _ => 0) 40 (sN S 12)) 41 a) 44 (gN m 0)) 45 0) 46 (val m 3)) 47 2) 45 acc = up1 (up1 (up1 (up1 (up1 (up1 (fun _ => 0) 40 (sN S 12)) 41 a) 44 (gN m 0)) 45 acc) 46 (val m 3)) 47 2
  rw [up1_cm (show 47 ≠ 45 by omega), up1_cm (show 46 ≠ 45 by omega), up1_up1]
/-- the payment that is held -/
def hldP (S : Sw) (m : Msg) (a acc : Nat) (hl : Int) : Py := pLu (pIu (pIu (newP S m a (acc + 1)) 47 1) 50 (sN S 11 + sN S 13)) 48 hl
theorem RP_come {p0 : Py} (h : RE w o c (come S p0) q M) (h60 : sN S 39 < 60) : RP w o c (come S p0) (sN S 39) p0 q M := by
  refine ⟨?_, (show sN S 39 < sN S 39 + 1 by omega), (show sN S 39 + 1 ≤ 60 by omega)⟩
  have e : wk (come S p0) (sN S 39) p0 = come S p0 := wk_0 up1_same
  rw [e]; exact h
theorem wk_come {p0 p1 : Py} : wk (come S p0) (sN S 39) p1 = come S p1 := by
  show wP (come S p0) (up1 (up1 (sP S) (sN S 39) p0) (sN S 39) p1) = _
  rw [up1_up1]; rfl
set_option maxRecDepth 20000 in
theorem c_hold {acc : Nat} (h : RE w o c (come S (newP S m a 0)) (qS S) M) (hc : ∀ a, a < 64 → (c a : Int) < sN S 12) (hj : Jv t S) (hi : hiD M0 M) (h60 : sN S 39 < 60) (hacc : acc < 64) (hz : z = lI u) (hQ : ∀ M', RC w o (up1 c acc (c acc + 1)) (wQ (come S (hldP S m a acc u)) (up1 (sQ S) acc (pushA (sQ S acc) (sN S 11)))) M' → hiD M0 M' → payC M' (148 + 3 * w (sN S 39)) (hldP S m a acc u) → Q none M') : Ct G (MT 13) [.ref 139, .ref (148 + 3 * w (sN S 39)), .ref (11 + 2 * acc), .long z] M Q X := by
  subst hz
  have hs := hj.1
  unfold jS at hs
  have r0 := RP_come h h60
  have hL := r0.L
  have hw := r0.pc.2.1
  have k0 := r0.pc.2.2
  have kb := (acc_k hL hacc).1
  have hn := r0.N
  have g5 : mI M 139 5 = nI (sN S 11) := hn.2.2.2.2.2.2.2.2.2.2.2.2.1
  have g14 : mI M 1 14 = nI (sN S 13) := hn.2.2.2.2.2.2.1
  have m5 := (r0.1.2.2.2.2.2.1 acc hacc).1
  have r1 := RP_R45 (a := acc) r0
  rw [newP_acc] at r1
  have r2 := RP_I47 (v := 1) (y := 1) r1 rfl
  have r3 := RP_L48 (x := u) (z := lI u) r2 rfl
  have r4 := RP_I50 (v := sN S 11 + sN S 13) (y := nI (sN S 11 + sN S 13)) r3 rfl
  have r5 := RP_held (a := acc) (x := hld S acc + u) (z := lI (hld S acc + u)) r4 hacc rfl
  have e0 : nI (sN S 11) + nI (sN S 13) = nI (sN S 11 + sN S 13) := nI_add _ _
  have e5 : mL M (11 + 2 * acc) 5 = lI (hld S acc) := m5
  have eu : lI (hld S acc) + lI u = lI (hld S acc + u) := lI_add _ _
  have hA5 : 148 + 3 * w (sN S 39) < 453 := by omega
  have hne : ¬ (11 + 2 * acc = 148 + 3 * w (sN S 39)) := by omega
  have n39 : ¬ (139 = 148 + 3 * w (sN S 39)) := by omega
  have n1 : ¬ (1 = 148 + 3 * w (sN S 39)) := by omega
  have hp5 : pIu (pLu (pIu (newP S m a (acc + 1)) 47 1) 48 u) 50 (sN S 11 + sN S 13) = hldP S m a acc u := rfl
  rw [hp5] at r4 r5
  have i5 : hiD M0 (uL (uI (uL (uI (uR M (148 + 3 * w (sN S 39)) 6 (some (11 + 2 * acc))) (148 + 3 * w (sN S 39)) 7 1) (148 + 3 * w (sN S 39)) 8 (lI u)) (148 + 3 * w (sN S 39)) 10 (nI (sN S 11 + sN S 13))) (11 + 2 * acc) 5 (lI (hld S acc + u))) := hiD_uL (hiD_uI (hiD_uL (hiD_uI (hiD_uR hi hA5) hA5) hA5) hA5) (by omega)
  have l5 := r5.L
  have re := r5.1
  rw [wk_come] at re
  have hpc5 := r5.pc.1
  have g55 : mI (uI (uL (uI (uR M (148 + 3 * w (sN S 39)) 6 (some (11 + 2 * acc))) (148 + 3 * w (sN S 39)) 7 1) (148 + 3 * w (sN S 39)) 8 (lI u)) (148 + 3 * w (sN S 39)) 10 (nI (sN S 11 + sN S 13))) 139 5 = nI (sN S 11) := r5.N.2.2.2.2.2.2.2.2.2.2.2.2.1
  have fR : mR (uR M (148 + 3 * w (sN S 39)) 6 (some (11 + 2 * acc))) 139 0 = some 1 := by rw [mR_ne (by omega), hL.r (by decide)]; rfl
  have f5 : mI (uI (uR M (148 + 3 * w (sN S 39)) 6 (some (11 + 2 * acc))) (148 + 3 * w (sN S 39)) 7 1) 139 5 = nI (sN S 11) := by rw [mI_ne (by omega), mI_uR]; exact g5
  have f14 : mI (uI (uR M (148 + 3 * w (sN S 39)) 6 (some (11 + 2 * acc))) (148 + 3 * w (sN S 39)) 7 1) 1 14 = nI (sN S 13) := by rw [mI_ne (by omega), mI_uR]; exact g14
  have f55 : mL (uL (uI (uR M (148 + 3 * w (sN S 39)) 6 (some (11 + 2 * acc))) (148 + 3 * w (sN S 39)) 7 1) (148 + 3 * w (sN S 39)) 8 (lI u)) (11 + 2 * acc) 5 = lI (hld S acc) := by rw [mL_ne (by omega), mL_uI, mL_uR]; exact e5
  generalize hM5 : uL (uI (uL (uI (uR M (148 + 3 * w (sN S 39)) 6 (some (11 + 2 * acc))) (148 + 3 * w (sN S 39)) 7 1) (148 + 3 * w (sN S 39)) 8 (lI u)) (148 + 3 * w (sN S 39)) 10 (nI (sN S 11 + sN S 13))) (11 + 2 * acc) 5 (lI (hld S acc + u)) = M5 at *
  have k5 := acc_k l5 hacc
  have g55b : mI M5 139 5 = nI (sN S 11) := r5.N.2.2.2.2.2.2.2.2.2.2.2.2.1
  have k139 : hasK M5 139 (.inr 2) := by rw [l5.hk]; rfl
  refine Ct.go (L0 := [some (.ref 139), some (.ref (148 + 3 * w (sN S 39))), some (.ref (11 + 2 * acc)), some (.long (lI u)), none]) (by decide +kernel) rfl rfl ?_
  refine r_X2_hold (fun n => n == 49) 60 ?_
  simp only [cd_X2_hold, cf_X2_hold, wp, wq, wpI, cdF, w_CI, w_CL, w_CN, w_LI, w_LL, w_LA, w_SI, w_SL, w_SA, w_INC, w_II, w_IId, w_LLb, w_LLd, w_LS, w_I1, w_L1, w_I2L, w_L2I, w_CMP, w_DUP, w_POP, w_DUP2, w_IF, w_IC, w_GO, w_NUL, w_ACN, prs, w_GF, w_PF, w_GS, w_IAL, w_LEN, w_LAL, w_ZAL, w_AAL, w_IAS, w_LAS, w_ZAS, w_AAS, w_RI, w_RL, w_RA, w_NEW, w_NA, w_MNA, w_OI, w_THR, w_CV, w_CS, w_CN9, w_CI9, w_MX, w_cont, lget, sto1, sto2, wideV, vo, vo_rv, isR, isR_rv, rv, fget, fput, cats, Value.category, List.headD_cons, List.getD_cons_zero, List.getD_cons_succ, List.drop_succ_cons, List.drop_zero, List.take_succ_cons, List.take_zero, List.reverse_cons, List.reverse_nil, List.nil_append, List.cons_append, List.length_cons, List.length_nil, cond_true, cond_false, and_true, true_and, Nat.zero_add, Nat.add_zero, Nat.reduceAdd, Nat.reduceLT, Nat.reduceLeDiff, Nat.reduceEqDiff, Nat.reduceBEq, Nat.reduceSub, ↓reduceIte, Int32.reduceOfNat, Int64.reduceOfNat, reduceCtorEq, Nat.le_refl, Nat.zero_le, Bool.false_eq_true, beq_self_eq_true, Fin.isValue, Fin.val_zero, Fin.val_one, Fin.reduceFinMk, Fin.val_two, Nat.reduceMod, Bool.or_false, Bool.or_true, Bool.true_or, Bool.false_or, not_true_eq_false, not_false_eq_true, true_or, or_true, implies_true, false_implies, true_implies, Int32.reduceLT, Int32.reduceLE, ↓w_TAB3, ↓w_TAB4, ↓w_TAB5, ↓w_TAB7, ↓w_TAB10, ↓w_LK2, ↓w_LK6, false_and, and_false, i1z, i2z, iz1, im0, im1, l0z, hasK_uI, hasK_uL, hasK_uR, hasK_uZ, hasK_sRow, mR_uI, mR_uL, mR_uZ, mR_sRow, mI_uL, mI_uR, mI_uZ, mL_uI, mL_uR, mL_uZ, mL_sRow, LF.hg hL, layF, LF.r hL, refF, ne_eq, not_false_eq_true, Option.some.injEq, Sum.inl.injEq, Sum.inr.injEq, Prod.mk.injEq, exists_eq_left, exists_eq_left', k0, kb, hasK_uR, hasK_uI, hasK_uL, f5, f14, e0, f55, eu, g55, hM5, g55b, k5.1, k139, fR]
  have cA5 : cA c (sQ S) M5 := re.2.2.2.2.2.2.1
  have c8 := (cA5 acc hacc).1
  have hlt := hc acc hacc
  have i8 : ((8 : Int32) = 0) = False := eq_false (by decide)
  have e8 : nI (c acc) - nI (c acc) / 8 * 8 = nI (c acc % 8) := nI_rem (b := 8) (by omega) (by omega) (by omega)
  have cc := nI_clamp (n := c acc % 8) (by omega)
  have e88 : mI (uI M5 (12 + 2 * acc) (c acc % 8) (nI (sN S 11))) (11 + 2 * acc) 8 = nI (c acc) := by rw [mI_ne (by omega)]; exact c8
  have n124 : mI M5 139 4 = nI (sN S 12 + 1) := r5.N.2.2.2.2.2.2.2.2.2.2.2.1
  refine Ct.go (L0 := [some (.ref (11 + 2 * acc)), some (.int (nI (sN S 11)))]) (by decide +kernel) rfl rfl ?_
  refine r_X0_noteApproval (fun _ => false) 60 ?_
  simp only [cd_X0_noteApproval, cf_X0_noteApproval, wp, wq, wpI, cdF, w_CI, w_CL, w_CN, w_LI, w_LL, w_LA, w_SI, w_SL, w_SA, w_INC, w_II, w_IId, w_LLb, w_LLd, w_LS, w_I1, w_L1, w_I2L, w_L2I, w_CMP, w_DUP, w_POP, w_DUP2, w_IF, w_IC, w_GO, w_NUL, w_ACN, prs, w_GF, w_PF, w_GS, w_IAL, w_LEN, w_LAL, w_ZAL, w_AAL, w_IAS, w_LAS, w_ZAS, w_AAS, w_RI, w_RL, w_RA, w_NEW, w_NA, w_MNA, w_OI, w_THR, w_CV, w_CS, w_CN9, w_CI9, w_MX, w_cont, lget, sto1, sto2, wideV, vo, vo_rv, isR, isR_rv, rv, fget, fput, cats, Value.category, List.headD_cons, List.getD_cons_zero, List.getD_cons_succ, List.drop_succ_cons, List.drop_zero, List.take_succ_cons, List.take_zero, List.reverse_cons, List.reverse_nil, List.nil_append, List.cons_append, List.length_cons, List.length_nil, cond_true, cond_false, and_true, true_and, Nat.zero_add, Nat.add_zero, Nat.reduceAdd, Nat.reduceLT, Nat.reduceLeDiff, Nat.reduceEqDiff, Nat.reduceBEq, Nat.reduceSub, ↓reduceIte, Int32.reduceOfNat, Int64.reduceOfNat, reduceCtorEq, Nat.le_refl, Nat.zero_le, Bool.false_eq_true, beq_self_eq_true, Fin.isValue, Fin.val_zero, Fin.val_one, Fin.reduceFinMk, Fin.val_two, Nat.reduceMod, Bool.or_false, Bool.or_true, Bool.true_or, Bool.false_or, not_true_eq_false, not_false_eq_true, true_or, or_true, implies_true, false_implies, true_implies, Int32.reduceLT, Int32.reduceLE, ↓w_TAB3, ↓w_TAB4, ↓w_TAB5, ↓w_TAB7, ↓w_TAB10, ↓w_LK2, ↓w_LK6, false_and, and_false, i1z, i2z, iz1, im0, im1, l0z, hasK_uI, hasK_uL, hasK_uR, hasK_uZ, hasK_sRow, mR_uI, mR_uL, mR_uZ, mR_sRow, mI_uL, mI_uR, mI_uZ, mL_uI, mL_uR, mL_uZ, mL_sRow, LF.hg l5, layF, LF.r l5, refF, ne_eq, not_false_eq_true, Option.some.injEq, Sum.inl.injEq, Sum.inr.injEq, Prod.mk.injEq, exists_eq_left, exists_eq_left', k5.1, k5.2.2.1, c8, i8, e8, cc, e88, nI_1, hasK_uI]
  refine ⟨_, k5.2.1, vp_in_nI (by omega) (by omega), ?_⟩
  refine r_X2_hold (fun n => n == 49) 60 ?_
  simp only [cd_X2_hold, cf_X2_hold, wp, wq, wpI, cdF, w_CI, w_CL, w_CN, w_LI, w_LL, w_LA, w_SI, w_SL, w_SA, w_INC, w_II, w_IId, w_LLb, w_LLd, w_LS, w_I1, w_L1, w_I2L, w_L2I, w_CMP, w_DUP, w_POP, w_DUP2, w_IF, w_IC, w_GO, w_NUL, w_ACN, prs, w_GF, w_PF, w_GS, w_IAL, w_LEN, w_LAL, w_ZAL, w_AAL, w_IAS, w_LAS, w_ZAS, w_AAS, w_RI, w_RL, w_RA, w_NEW, w_NA, w_MNA, w_OI, w_THR, w_CV, w_CS, w_CN9, w_CI9, w_MX, w_cont, lget, sto1, sto2, wideV, vo, vo_rv, isR, isR_rv, rv, fget, fput, cats, Value.category, List.headD_cons, List.getD_cons_zero, List.getD_cons_succ, List.drop_succ_cons, List.drop_zero, List.take_succ_cons, List.take_zero, List.reverse_cons, List.reverse_nil, List.nil_append, List.cons_append, List.length_cons, List.length_nil, cond_true, cond_false, and_true, true_and, Nat.zero_add, Nat.add_zero, Nat.reduceAdd, Nat.reduceLT, Nat.reduceLeDiff, Nat.reduceEqDiff, Nat.reduceBEq, Nat.reduceSub, ↓reduceIte, Int32.reduceOfNat, Int64.reduceOfNat, reduceCtorEq, Nat.le_refl, Nat.zero_le, Bool.false_eq_true, beq_self_eq_true, Fin.isValue, Fin.val_zero, Fin.val_one, Fin.reduceFinMk, Fin.val_two, Nat.reduceMod, Bool.or_false, Bool.or_true, Bool.true_or, Bool.false_or, not_true_eq_false, not_false_eq_true, true_or, or_true, implies_true, false_implies, true_implies, Int32.reduceLT, Int32.reduceLE, ↓w_TAB3, ↓w_TAB4, ↓w_TAB5, ↓w_TAB7, ↓w_TAB10, ↓w_LK2, ↓w_LK6, false_and, and_false, i1z, i2z, iz1, im0, im1, l0z]
  have hcp := cA_push (T := sN S 11) cA5 hacc (by rw [n124, nI_toInt (by omega)]; omega)
  have hw2 := hw
  obtain ⟨jL0, jN0, jI0, jLl0, jF0, jS0, jA0, jC0, jP0, jRr0, jD0, jT0, jZ0⟩ := re
  have h39 : sN S 39 + 1 ≤ 60 := by omega
  refine hQ _ ?_ (hiD_uI (hiD_uI i5 (by omega)) (by omega)) ?_
  · have h39' : sN (come S (hldP S m a acc u)) 39 ≤ 60 := show sN S 39 + 1 ≤ 60 by omega
    refine RC_of (q := up1 (qS S) acc (hld S acc + u, (qS S acc).2)) ⟨jL0, (by repeat (first | exact jN0 | refine cN_uI ?_ (by omega) | refine cN_uI ?_ | refine cN_uL ?_ (by omega) | refine cN_uL ?_ | refine cN_uR ?_ (by omega) | refine cN_uR ?_ | refine cN_sRow ?_ (by omega) | refine cN_sRow ?_ | refine cN_uZ ?_)), (by repeat (first | exact jI0 | refine cI_uI ?_ (by omega) | refine cI_uI ?_ | refine cI_uL ?_ (by omega) | refine cI_uL ?_ | refine cI_uR ?_ (by omega) | refine cI_uR ?_ | refine cI_sRow ?_ (by omega) | refine cI_sRow ?_ | refine cI_uZ ?_)), (by repeat (first | exact jLl0 | refine cL_uI ?_ (by omega) | refine cL_uI ?_ | refine cL_uL ?_ (by omega) | refine cL_uL ?_ | refine cL_uR ?_ (by omega) | refine cL_uR ?_ | refine cL_sRow ?_ (by omega) | refine cL_sRow ?_ | refine cL_uZ ?_)), (by repeat (first | exact jF0 | refine cF_uI ?_ (by omega) | refine cF_uI ?_ | refine cF_uL ?_ (by omega) | refine cF_uL ?_ | refine cF_uR ?_ (by omega) | refine cF_uR ?_ | refine cF_sRow ?_ (by omega) | refine cF_sRow ?_ | refine cF_uZ ?_)), (by repeat (first | exact jS0 | refine cQ_uI ?_ (by omega) | refine cQ_uI ?_ | refine cQ_uL ?_ (by omega) | refine cQ_uL ?_ | refine cQ_uR ?_ (by omega) | refine cQ_uR ?_ | refine cQ_sRow ?_ (by omega) | refine cQ_sRow ?_ | refine cQ_uZ ?_)), hcp, (by repeat (first | exact jC0 | refine cC_uI ?_ (by omega) | refine cC_uI ?_ | refine cC_uL ?_ (by omega) | refine cC_uL ?_ | refine cC_uR ?_ (by omega) | refine cC_uR ?_ | refine cC_sRow ?_ (by omega) | refine cC_sRow ?_ | refine cC_uZ ?_)), (by repeat (first | exact jP0 | refine cP_uI ?_ h39 (by omega) | refine cP_uL ?_ h39 (by omega) | refine cP_uR ?_ h39 (by omega) | refine cP_sRow ?_ h39 (by omega) | refine cP_uZ ?_)), (by repeat (first | exact jRr0 | refine cR_uI ?_ (by omega) | refine cR_uI ?_ | refine cR_uL ?_ (by omega) | refine cR_uL ?_ | refine cR_uR ?_ (by omega) | refine cR_uR ?_ | refine cR_sRow ?_ (by omega) | refine cR_sRow ?_ | refine cR_uZ ?_)), (by repeat (first | exact jD0 | refine msgC_uI ?_ (by omega) | refine msgC_uI ?_ | refine msgC_uL ?_ (by omega) | refine msgC_uL ?_ | refine msgC_uR ?_ (by omega) | refine msgC_uR ?_ | refine msgC_sRow ?_ (by omega) | refine msgC_sRow ?_ | refine msgC_uZ ?_)), (by repeat (first | exact jT0 | refine BYL_uI ?_ (by omega) | refine BYL_uI ?_ | refine BYL_uL ?_ (by omega) | refine BYL_uL ?_ | refine BYL_uR ?_ (by omega) | refine BYL_uR ?_ | refine BYL_sRow ?_ (by omega) | refine BYL_sRow ?_ | refine BYL_uZ ?_)), (by repeat (first | exact jZ0 | refine BYL_uI ?_ (by omega) | refine BYL_uI ?_ | refine BYL_uL ?_ (by omega) | refine BYL_uL ?_ | refine BYL_uR ?_ (by omega) | refine BYL_uR ?_ | refine BYL_sRow ?_ (by omega) | refine BYL_sRow ?_ | refine BYL_uZ ?_))⟩ (fun b hb => ?_)
    show _ = qS (come S (hldP S m a acc u)) b
    rw [qS_come]
    have k0 : kq b (hldP S m a acc u) = 0 := by
      show (if acc + 1 = b + 1 ∧ ((0 : Nat) = 1 ∨ (0 : Nat) = 2) then (0 : Int) else 0) = 0
      split <;> rfl
    have h0 : hq b (hldP S m a acc u) = if acc + 1 = b + 1 then u else 0 := rfl
    rw [k0, h0]
    by_cases e : b = acc
    · subst e
      rw [up1_same, if_pos rfl]
      show (hld S b + u, lkd S b) = _
      congr 1; omega
    · rw [up1_ne e, if_neg (by omega)]
      show (hld S b, lkd S b) = _
      congr 1 <;> omega
  · exact payC_fr hpc5 (sA_uI (by omega) (sA_uI (by omega) (sA_rfl _ _))) (sA_uI (by omega) (sA_uI (by omega) (sA_rfl _ _))) (sA_uI (by omega) (sA_uI (by omega) (sA_rfl _ _)))
end HD
