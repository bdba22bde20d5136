/-! THE BOOK, in an answer: the class -/
section BK
variable {G : En} {M M0 Mz M' : Mem} {Q : Option Value → Mem → Prop} {X : String → Mem → Prop} {S : Sw} {t a b j k v i np T A : Nat} {x y : Int32} {z : Int64} {u am : Int} {w c : Nat → Nat} {o : Nat} {p : Py} {q q' : Nat → Int × Int} {m : Msg}
/-- what stands behind the tape stays -/
def hiD (M M' : Mem) : Prop := ∀ b, 453 ≤ b → sA M M' b
theorem hiD_rfl (M : Mem) : hiD M M := fun b _ => sA_rfl M b
theorem hiD_uI {v : Int32} (h : hiD M M') (ha : a < 453) : hiD M (uI M' a j v) := fun b hb => sA_uI (by omega) (h b hb)
theorem hiD_uL {u : Int64} (h : hiD M M') (ha : a < 453) : hiD M (uL M' a j u) := fun b hb => sA_uL (by omega) (h b hb)
theorem hiD_uR {r : Option Nat} (h : hiD M M') (ha : a < 453) : hiD M (uR M' a j r) := fun b hb => sA_uR (by omega) (h b hb)
theorem hiD_sRow {f : Nat → Int32} (h : hiD M M') (ha : a < 453) : hiD M (sRow M' a f) := fun b hb => sA_sRow (by omega) (h b hb)
theorem hiD_S (h : hiD M M') : hiS M M' := fun b hb => h b (by omega)
theorem hiS_D (h : hiS M0 M) (h' : hiD M M') : hiS M0 M' := fun b hb => (h b hb).trans (h' b (by omega))
theorem msgC_D {d e : Nat} (h : msgC M a d e m) (h' : hiD M M') (ha : 453 ≤ a) (hd : 453 ≤ d) (he : 453 ≤ e) : msgC M' a d e m := by
  refine ⟨by rw [(h' a ha).i]; exact h.1, by rw [(h' a ha).i]; exact h.2.1, fun s hs hp => ⟨by rw [(h' d hd).i]; exact (h.2.2 s hs hp).1, fun i hi => by rw [(h' (e + s) (by omega)).i]; exact (h.2.2 s hs hp).2 i hi⟩⟩
theorem d_holdOnly (h : RP w o c S k p q M) (hi : hiD M0 M) (h64 : qI p 45 ≤ 64) (hz : z = lI u) (hQ : ∀ M', RP w o c S k (pLu p 48 u) (qH q p u) M' → hiD M0 M' → Q none M') : Ct G (MT 14) [.ref 139, .ref (148 + 3 * w k), .long z] M Q X := by
  subst hz
  have hL := h.L
  have hpc := h.pc
  have hp := hpc.1
  have hka := hpc.2.2
  have hw := hpc.2.1
  have h8 := hp.2.2.2.2.2.2.2.2.2.1
  have h6 := hp.2.2.2.2.2.2.2.2.2.2.2.2.1
  have hA5 : 148 + 3 * w k < 453 := by omega
  by_cases h45 : qI p 45 = 0
  · rw [if_pos h45] at h6
    have r1 := RP_L48 (x := u) (z := lI u) h rfl
    unfold qH at hQ
    rw [if_pos h45] at hQ
    generalize 148 + 3 * w k = A at *
    refine Ct.go (L0 := [some (.ref 139), some (.ref A), some (.long (lI u)), none]) (by decide +kernel) rfl rfl ?_
    refine r_X2_holdOnly (fun _ => false) 60 ?_
    simp only [cd_X2_holdOnly, cf_X2_holdOnly, wp, wq, wpI, cdF, w_CI, w_CL, w_CN, w_LI, w_LL, w_LA, w_SI, w_SL, w_SA, w_INC, w_II, w_IId, w_LLb, w_LLd, w_LS, w_I1, w_L1, w_I2L, w_L2I, w_CMP, w_DUP, w_POP, w_DUP2, w_IF, w_IC, w_GO, w_NUL, w_ACN, prs, w_GF, w_PF, w_GS, w_IAL, w_LEN, w_LAL, w_ZAL, w_AAL, w_IAS, w_LAS, w_ZAS, w_AAS, w_RI, w_RL, w_RA, w_NEW, w_NA, w_MNA, w_OI, w_THR, w_CV, w_CS, w_CN9, w_CI9, w_MX, w_cont, lget, sto1, sto2, wideV, vo, vo_rv, isR, isR_rv, rv, fget, fput, cats, Value.category, List.headD_cons, List.getD_cons_zero, List.getD_cons_succ, List.drop_succ_cons, List.drop_zero, List.take_succ_cons, List.take_zero, List.reverse_cons, List.reverse_nil, List.nil_append, List.cons_append, List.length_cons, List.length_nil, cond_true, cond_false, and_true, true_and, Nat.zero_add, Nat.add_zero, Nat.reduceAdd, Nat.reduceLT, Nat.reduceLeDiff, Nat.reduceEqDiff, Nat.reduceBEq, Nat.reduceSub, ↓reduceIte, Int32.reduceOfNat, Int64.reduceOfNat, reduceCtorEq, Nat.le_refl, Nat.zero_le, Bool.false_eq_true, beq_self_eq_true, Fin.isValue, Fin.val_zero, Fin.val_one, Fin.reduceFinMk, Fin.val_two, Nat.reduceMod, Bool.or_false, Bool.or_true, Bool.true_or, Bool.false_or, not_true_eq_false, not_false_eq_true, true_or, or_true, implies_true, false_implies, true_implies, Int32.reduceLT, Int32.reduceLE, ↓w_TAB3, ↓w_TAB4, ↓w_TAB5, ↓w_TAB7, ↓w_TAB10, ↓w_LK2, ↓w_LK6, false_and, and_false, i1z, i2z, iz1, im0, im1, l0z, hka, h6]
    exact hQ _ r1 (hiD_uL hi hA5)
  · rw [if_neg h45, show 9 + 2 * qI p 45 = 11 + 2 * (qI p 45 - 1) by omega] at h6
    have ha : qI p 45 - 1 < 64 := by omega
    have hkb := (acc_k hL ha).1
    have m5 := (h.1.2.2.2.2.2.1 _ ha).1
    have r0 := RP_held (a := qI p 45 - 1) (x := (q (qI p 45 - 1)).1 - (qL p 48 - u)) (z := lI ((q (qI p 45 - 1)).1 - (qL p 48 - u))) h ha rfl
    have r1 := RP_L48 (x := u) (z := lI u) r0 rfl
    unfold qH at hQ
    rw [if_neg h45] at hQ
    have hB5 : 11 + 2 * (qI p 45 - 1) < 453 := by omega
    generalize 148 + 3 * w k = A at *
    generalize qI p 45 - 1 = b at *
    refine Ct.go (L0 := [some (.ref 139), some (.ref A), some (.long (lI u)), none]) (by decide +kernel) rfl rfl ?_
    refine r_X2_holdOnly (fun _ => false) 60 ?_
    simp only [cd_X2_holdOnly, cf_X2_holdOnly, wp, wq, wpI, cdF, w_CI, w_CL, w_CN, w_LI, w_LL, w_LA, w_SI, w_SL, w_SA, w_INC, w_II, w_IId, w_LLb, w_LLd, w_LS, w_I1, w_L1, w_I2L, w_L2I, w_CMP, w_DUP, w_POP, w_DUP2, w_IF, w_IC, w_GO, w_NUL, w_ACN, prs, w_GF, w_PF, w_GS, w_IAL, w_LEN, w_LAL, w_ZAL, w_AAL, w_IAS, w_LAS, w_ZAS, w_AAS, w_RI, w_RL, w_RA, w_NEW, w_NA, w_MNA, w_OI, w_THR, w_CV, w_CS, w_CN9, w_CI9, w_MX, w_cont, lget, sto1, sto2, wideV, vo, vo_rv, isR, isR_rv, rv, fget, fput, cats, Value.category, List.headD_cons, List.getD_cons_zero, List.getD_cons_succ, List.drop_succ_cons, List.drop_zero, List.take_succ_cons, List.take_zero, List.reverse_cons, List.reverse_nil, List.nil_append, List.cons_append, List.length_cons, List.length_nil, cond_true, cond_false, and_true, true_and, Nat.zero_add, Nat.add_zero, Nat.reduceAdd, Nat.reduceLT, Nat.reduceLeDiff, Nat.reduceEqDiff, Nat.reduceBEq, Nat.reduceSub, ↓reduceIte, Int32.reduceOfNat, Int64.reduceOfNat, reduceCtorEq, Nat.le_refl, Nat.zero_le, Bool.false_eq_true, beq_self_eq_true, Fin.isValue, Fin.val_zero, Fin.val_one, Fin.reduceFinMk, Fin.val_two, Nat.reduceMod, Bool.or_false, Bool.or_true, Bool.true_or, Bool.false_or, not_true_eq_false, not_false_eq_true, true_or, or_true, implies_true, false_implies, true_implies, Int32.reduceLT, Int32.reduceLE, ↓w_TAB3, ↓w_TAB4, ↓w_TAB5, ↓w_TAB7, ↓w_TAB10, ↓w_LK2, ↓w_LK6, false_and, and_false, i1z, i2z, iz1, im0, im1, l0z, hka, h6, hkb, h8, m5, lI_sub, hasK_uL]
    exact hQ _ r1 (hiD_uL (hiD_uL hi hB5) hA5)
theorem d_release (h : RP w o c S k p q M) (hi : hiD M0 M) (h64 : qI p 45 ≤ 64) (hQ : ∀ M', RP w o c S k (pIu (pIu (pLu p 48 0) 50 0) 47 2) (qH q p 0) M' → hiD M0 M' → Q none M') : Ct G (MT 15) [.ref 139, .ref (148 + 3 * w k)] M Q X := by
  have hL := h.L
  have hw := h.pc.2.1
  refine Ct.go (L0 := [some (.ref 139), some (.ref (148 + 3 * w k))]) (by decide +kernel) rfl rfl ?_
  refine r_X2_release (fun n => n == 6) 60 ?_
  simp only [cd_X2_release, cf_X2_release, wp, wq, wpI, cdF, w_CI, w_CL, w_CN, w_LI, w_LL, w_LA, w_SI, w_SL, w_SA, w_INC, w_II, w_IId, w_LLb, w_LLd, w_LS, w_I1, w_L1, w_I2L, w_L2I, w_CMP, w_DUP, w_POP, w_DUP2, w_IF, w_IC, w_GO, w_NUL, w_ACN, prs, w_GF, w_PF, w_GS, w_IAL, w_LEN, w_LAL, w_ZAL, w_AAL, w_IAS, w_LAS, w_ZAS, w_AAS, w_RI, w_RL, w_RA, w_NEW, w_NA, w_MNA, w_OI, w_THR, w_CV, w_CS, w_CN9, w_CI9, w_MX, w_cont, lget, sto1, sto2, wideV, vo, vo_rv, isR, isR_rv, rv, fget, fput, cats, Value.category, List.headD_cons, List.getD_cons_zero, List.getD_cons_succ, List.drop_succ_cons, List.drop_zero, List.take_succ_cons, List.take_zero, List.reverse_cons, List.reverse_nil, List.nil_append, List.cons_append, List.length_cons, List.length_nil, cond_true, cond_false, and_true, true_and, Nat.zero_add, Nat.add_zero, Nat.reduceAdd, Nat.reduceLT, Nat.reduceLeDiff, Nat.reduceEqDiff, Nat.reduceBEq, Nat.reduceSub, ↓reduceIte, Int32.reduceOfNat, Int64.reduceOfNat, reduceCtorEq, Nat.le_refl, Nat.zero_le, Bool.false_eq_true, beq_self_eq_true, Fin.isValue, Fin.val_zero, Fin.val_one, Fin.reduceFinMk, Fin.val_two, Nat.reduceMod, Bool.or_false, Bool.or_true, Bool.true_or, Bool.false_or, not_true_eq_false, not_false_eq_true, true_or, or_true, implies_true, false_implies, true_implies, Int32.reduceLT, Int32.reduceLE, ↓w_TAB3, ↓w_TAB4, ↓w_TAB5, ↓w_TAB7, ↓w_TAB10, ↓w_LK2, ↓w_LK6, false_and, and_false, i1z, i2z, iz1, im0, im1, l0z, hasK_uI, hasK_uL, hasK_uR, hasK_uZ, hasK_sRow, mR_uI, mR_uL, mR_uZ, mR_sRow, mI_uL, mI_uR, mI_uZ, mL_uI, mL_uR, mL_uZ, mL_sRow, LF.hg hL, layF, LF.r hL, refF, ne_eq, not_false_eq_true, Option.some.injEq, Sum.inl.injEq, Sum.inr.injEq, Prod.mk.injEq, exists_eq_left, exists_eq_left']
  refine d_holdOnly (u := 0) h hi h64 rfl (fun M1 r1 i1 => ⟨rfl, ?_⟩)
  have k1 := r1.pc.2.2
  refine r_X2_release (fun n => n == 6) 60 ?_
  simp only [cd_X2_release, cf_X2_release, wp, wq, wpI, cdF, w_CI, w_CL, w_CN, w_LI, w_LL, w_LA, w_SI, w_SL, w_SA, w_INC, w_II, w_IId, w_LLb, w_LLd, w_LS, w_I1, w_L1, w_I2L, w_L2I, w_CMP, w_DUP, w_POP, w_DUP2, w_IF, w_IC, w_GO, w_NUL, w_ACN, prs, w_GF, w_PF, w_GS, w_IAL, w_LEN, w_LAL, w_ZAL, w_AAL, w_IAS, w_LAS, w_ZAS, w_AAS, w_RI, w_RL, w_RA, w_NEW, w_NA, w_MNA, w_OI, w_THR, w_CV, w_CS, w_CN9, w_CI9, w_MX, w_cont, lget, sto1, sto2, wideV, vo, vo_rv, isR, isR_rv, rv, fget, fput, cats, Value.category, List.headD_cons, List.getD_cons_zero, List.getD_cons_succ, List.drop_succ_cons, List.drop_zero, List.take_succ_cons, List.take_zero, List.reverse_cons, List.reverse_nil, List.nil_append, List.cons_append, List.length_cons, List.length_nil, cond_true, cond_false, and_true, true_and, Nat.zero_add, Nat.add_zero, Nat.reduceAdd, Nat.reduceLT, Nat.reduceLeDiff, Nat.reduceEqDiff, Nat.reduceBEq, Nat.reduceSub, ↓reduceIte, Int32.reduceOfNat, Int64.reduceOfNat, reduceCtorEq, Nat.le_refl, Nat.zero_le, Bool.false_eq_true, beq_self_eq_true, Fin.isValue, Fin.val_zero, Fin.val_one, Fin.reduceFinMk, Fin.val_two, Nat.reduceMod, Bool.or_false, Bool.or_true, Bool.true_or, Bool.false_or, not_true_eq_false, not_false_eq_true, true_or, or_true, implies_true, false_implies, true_implies, Int32.reduceLT, Int32.reduceLE, ↓w_TAB3, ↓w_TAB4, ↓w_TAB5, ↓w_TAB7, ↓w_TAB10, ↓w_LK2, ↓w_LK6, false_and, and_false, i1z, i2z, iz1, im0, im1, l0z, k1, hasK_uI]
  exact hQ _ (RP_I47 (v := 2) (y := 2) (RP_I50 (v := 0) (y := 0) r1 rfl) rfl) (hiD_uI (hiD_uI i1 (by omega)) (by omega))
theorem d_finish (h : RP w o c S k p q M) (hi : hiD M0 M) (h64 : qI p 45 ≤ 64) (hy : y = nI v) (hQ : ∀ M', RP w o c S k (pIu (pIu (pIu (pLu p 48 0) 50 0) 47 3) 51 (v + 1)) (qH q p 0) M' → hiD M0 M' → Q none M') : Ct G (MT 16) [.ref 139, .ref (148 + 3 * w k), .int y] M Q X := by
  have hL := h.L
  have hw := h.pc.2.1
  refine Ct.go (L0 := [some (.ref 139), some (.ref (148 + 3 * w k)), some (.int y)]) (by decide +kernel) rfl rfl ?_
  refine r_X2_finish (fun n => n == 6) 60 ?_
  simp only [cd_X2_finish, cf_X2_finish, wp, wq, wpI, cdF, w_CI, w_CL, w_CN, w_LI, w_LL, w_LA, w_SI, w_SL, w_SA, w_INC, w_II, w_IId, w_LLb, w_LLd, w_LS, w_I1, w_L1, w_I2L, w_L2I, w_CMP, w_DUP, w_POP, w_DUP2, w_IF, w_IC, w_GO, w_NUL, w_ACN, prs, w_GF, w_PF, w_GS, w_IAL, w_LEN, w_LAL, w_ZAL, w_AAL, w_IAS, w_LAS, w_ZAS, w_AAS, w_RI, w_RL, w_RA, w_NEW, w_NA, w_MNA, w_OI, w_THR, w_CV, w_CS, w_CN9, w_CI9, w_MX, w_cont, lget, sto1, sto2, wideV, vo, vo_rv, isR, isR_rv, rv, fget, fput, cats, Value.category, List.headD_cons, List.getD_cons_zero, List.getD_cons_succ, List.drop_succ_cons, List.drop_zero, List.take_succ_cons, List.take_zero, List.reverse_cons, List.reverse_nil, List.nil_append, List.cons_append, List.length_cons, List.length_nil, cond_true, cond_false, and_true, true_and, Nat.zero_add, Nat.add_zero, Nat.reduceAdd, Nat.reduceLT, Nat.reduceLeDiff, Nat.reduceEqDiff, Nat.reduceBEq, Nat.reduceSub, ↓reduceIte, Int32.reduceOfNat, Int64.reduceOfNat, reduceCtorEq, Nat.le_refl, Nat.zero_le, Bool.false_eq_true, beq_self_eq_true, Fin.isValue, Fin.val_zero, Fin.val_one, Fin.reduceFinMk, Fin.val_two, Nat.reduceMod, Bool.or_false, Bool.or_true, Bool.true_or, Bool.false_or, not_true_eq_false, not_false_eq_true, true_or, or_true, implies_true, false_implies, true_implies, Int32.reduceLT, Int32.reduceLE, ↓w_TAB3, ↓w_TAB4, ↓w_TAB5, ↓w_TAB7, ↓w_TAB10, ↓w_LK2, ↓w_LK6, false_and, and_false, i1z, i2z, iz1, im0, im1, l0z, hasK_uI, hasK_uL, hasK_uR, hasK_uZ, hasK_sRow, mR_uI, mR_uL, mR_uZ, mR_sRow, mI_uL, mI_uR, mI_uZ, mL_uI, mL_uR, mL_uZ, mL_sRow, LF.hg hL, layF, LF.r hL, refF, ne_eq, not_false_eq_true, Option.some.injEq, Sum.inl.injEq, Sum.inr.injEq, Prod.mk.injEq, exists_eq_left, exists_eq_left']
  refine d_holdOnly (u := 0) h hi h64 rfl (fun M1 r1 i1 => ⟨rfl, ?_⟩)
  have k1 := r1.pc.2.2
  refine r_X2_finish (fun n => n == 6) 60 ?_
  simp only [cd_X2_finish, cf_X2_finish, wp, wq, wpI, cdF, w_CI, w_CL, w_CN, w_LI, w_LL, w_LA, w_SI, w_SL, w_SA, w_INC, w_II, w_IId, w_LLb, w_LLd, w_LS, w_I1, w_L1, w_I2L, w_L2I, w_CMP, w_DUP, w_POP, w_DUP2, w_IF, w_IC, w_GO, w_NUL, w_ACN, prs, w_GF, w_PF, w_GS, w_IAL, w_LEN, w_LAL, w_ZAL, w_AAL, w_IAS, w_LAS, w_ZAS, w_AAS, w_RI, w_RL, w_RA, w_NEW, w_NA, w_MNA, w_OI, w_THR, w_CV, w_CS, w_CN9, w_CI9, w_MX, w_cont, lget, sto1, sto2, wideV, vo, vo_rv, isR, isR_rv, rv, fget, fput, cats, Value.category, List.headD_cons, List.getD_cons_zero, List.getD_cons_succ, List.drop_succ_cons, List.drop_zero, List.take_succ_cons, List.take_zero, List.reverse_cons, List.reverse_nil, List.nil_append, List.cons_append, List.length_cons, List.length_nil, cond_true, cond_false, and_true, true_and, Nat.zero_add, Nat.add_zero, Nat.reduceAdd, Nat.reduceLT, Nat.reduceLeDiff, Nat.reduceEqDiff, Nat.reduceBEq, Nat.reduceSub, ↓reduceIte, Int32.reduceOfNat, Int64.reduceOfNat, reduceCtorEq, Nat.le_refl, Nat.zero_le, Bool.false_eq_true, beq_self_eq_true, Fin.isValue, Fin.val_zero, Fin.val_one, Fin.reduceFinMk, Fin.val_two, Nat.reduceMod, Bool.or_false, Bool.or_true, Bool.true_or, Bool.false_or, not_true_eq_false, not_false_eq_true, true_or, or_true, implies_true, false_implies, true_implies, Int32.reduceLT, Int32.reduceLE, ↓w_TAB3, ↓w_TAB4, ↓w_TAB5, ↓w_TAB7, ↓w_TAB10, ↓w_LK2, ↓w_LK6, false_and, and_false, i1z, i2z, iz1, im0, im1, l0z, k1, hasK_uI]
  exact hQ _ (RP_I51 (v := v + 1) (y := y) (RP_I47 (v := 3) (y := 3) (RP_I50 (v := 0) (y := 0) r1 rfl) rfl) (by rw [hy]; exact (nI_pred _).symm)) (hiD_uI (hiD_uI (hiD_uI i1 (by omega)) (by omega)) (by omega))

/-- shares: a's, i's, the switch's own -/
def shr3 (L : Nat → Nat → Int) (a i : Nat) (am cost itc : Int) : Nat → Nat → Int := up2 (up2 (up2 L 500 a (L 500 a + (am - cost))) 500 (6 + i) (L 500 (6 + i) + (itc - am))) 500 12 (L 500 12 + (cost - itc))
set_option maxRecDepth 20000 in
theorem c_shareOut {y1 y2 y3 y4 : Int32} {fe sh : Nat} (h : RP w o c S k p q M) (hi : hiD M0 M) (ha : a < 6) (hi2 : i < 6) (h1 : y1 = nI a) (h2 : y2 = nI i) (hz : z = lI am) (ham : 0 ≤ am ∧ am ≤ 999999999999) (h3 : y3 = nI fe) (h4 : y4 = nI sh) (hf : fe ≤ 1000) (hsh : sh ≤ 1000) (hQ : ∀ M', RP w o c (wL S (shr3 (sL S) a i am ((am * ((sh : Int) + fe) + 9999) / 10000) (am * sh / 10000))) k p q M' → hiD M0 M' → Q none M') : Ct G (MT 87) [.ref 140, .int y1, .int y2, .long z, .int y3, .int y4] M Q X := by
  subst h1 h2 hz h3 h4
  have hL := h.L
  have hLl : cL (sL S) M := h.1.2.2.2.1
  have ca := nI_clamp (n := a) (by omega)
  have ci := nI_clamp (n := i) (by omega)
  have c6 : (6 : Int32).toNatClampNeg = 6 := rfl
  have m1 := (hLl.1 a ha).1
  have m2 := (hLl.2.1 i (by omega)).1
  have m3 := (hLl.2.1 6 (by omega)).1
  have l0 : ((10000 : Int64) = 0) = False := eq_false (by decide)
  have e0 : nI sh + nI fe = nI (sh + fe) := nI_add _ _
  have e1 := nI_lI (n := sh + fe) (by omega)
  have e2 := nI_lI (n := sh) (by omega)
  have b1 : 0 ≤ am * ((sh : Int) + fe) ∧ am * ((sh : Int) + fe) ≤ 999999999999 * 2000 := ⟨Int.mul_nonneg ham.1 (by omega), Int.le_trans (Int.mul_le_mul_of_nonneg_right ham.2 (by omega)) (Int.mul_le_mul_of_nonneg_left (by omega) (by omega))⟩
  have b2 : 0 ≤ am * (sh : Int) ∧ am * (sh : Int) ≤ 999999999999 * 1000 := ⟨Int.mul_nonneg ham.1 (by omega), Int.le_trans (Int.mul_le_mul_of_nonneg_right ham.2 (by omega)) (Int.mul_le_mul_of_nonneg_left (by omega) (by omega))⟩
  have ec : (lI am * lI ((sh + fe : Nat) : Int) + 10000 - 1) / 10000 = lI ((am * ((sh : Int) + fe) + 9999) / 10000) := by
    rw [show ((sh + fe : Nat) : Int) = (sh : Int) + fe by omega, lI_mul, show (10000 : Int64) = lI 10000 from rfl, show (1 : Int64) = lI 1 from rfl, lI_add, lI_sub, show am * ((sh : Int) + fe) + 10000 - 1 = am * ((sh : Int) + fe) + 9999 by omega]
    exact lI_div (by omega) (by unfold fL; omega) (by omega) (by unfold fL; omega)
  have ei : lI am * lI (sh : Int) / 10000 = lI (am * sh / 10000) := by
    rw [lI_mul, show (10000 : Int64) = lI 10000 from rfl]
    exact lI_div (by omega) (by unfold fL; omega) (by omega) (by unfold fL; omega)
  generalize (am * ((sh : Int) + fe) + 9999) / 10000 = co at *
  generalize am * (sh : Int) / 10000 = it at *
  have r1 := RP_acq (a := a) (x := sL S 500 a + (am - co)) (z := lI (sL S 500 a + (am - co))) h ha rfl
  have r2 := RP_iss (a := i) (x := sL S 500 (6 + i) + (it - am)) (z := lI (sL S 500 (6 + i) + (it - am))) r1 (by omega) rfl
  have r3 := RP_iss (a := 6) (x := sL S 500 12 + (co - it)) (z := lI (sL S 500 12 + (co - it))) r2 (by omega) rfl
  have n1 : mL (uL M 141 a (lI (sL S 500 a + (am - co)))) 143 i = lI (sL S 500 (6 + i)) := by rw [mL_ne (by omega)]; exact m2
  have n2 : mL (uL (uL M 141 a (lI (sL S 500 a + (am - co)))) 143 i (lI (sL S 500 (6 + i) + (it - am)))) 143 6 = lI (sL S 500 12) := by rw [mL_ne (by omega), mL_ne (by omega)]; exact m3
  refine Ct.go (L0 := [some (.ref 140), some (.int (nI a)), some (.int (nI i)), some (.long (lI am)), none, some (.int (nI fe)), some (.int (nI sh)), none, none, none, none]) (by decide +kernel) rfl rfl ?_
  refine r_X8_shareOut (fun _ => false) 80 ?_
  simp only [cd_X8_shareOut, cf_X8_shareOut, wp, wq, wpI, cdF, w_CI, w_CL, w_CN, w_LI, w_LL, w_LA, w_SI, w_SL, w_SA, w_INC, w_II, w_IId, w_LLb, w_LLd, w_LS, w_I1, w_L1, w_I2L, w_L2I, w_CMP, w_DUP, w_POP, w_DUP2, w_IF, w_IC, w_GO, w_NUL, w_ACN, prs, w_GF, w_PF, w_GS, w_IAL, w_LEN, w_LAL, w_ZAL, w_AAL, w_IAS, w_LAS, w_ZAS, w_AAS, w_RI, w_RL, w_RA, w_NEW, w_NA, w_MNA, w_OI, w_THR, w_CV, w_CS, w_CN9, w_CI9, w_MX, w_cont, lget, sto1, sto2, wideV, vo, vo_rv, isR, isR_rv, rv, fget, fput, cats, Value.category, List.headD_cons, List.getD_cons_zero, List.getD_cons_succ, List.drop_succ_cons, List.drop_zero, List.take_succ_cons, List.take_zero, List.reverse_cons, List.reverse_nil, List.nil_append, List.cons_append, List.length_cons, List.length_nil, cond_true, cond_false, and_true, true_and, Nat.zero_add, Nat.add_zero, Nat.reduceAdd, Nat.reduceLT, Nat.reduceLeDiff, Nat.reduceEqDiff, Nat.reduceBEq, Nat.reduceSub, ↓reduceIte, Int32.reduceOfNat, Int64.reduceOfNat, reduceCtorEq, Nat.le_refl, Nat.zero_le, Bool.false_eq_true, beq_self_eq_true, Fin.isValue, Fin.val_zero, Fin.val_one, Fin.reduceFinMk, Fin.val_two, Nat.reduceMod, Bool.or_false, Bool.or_true, Bool.true_or, Bool.false_or, not_true_eq_false, not_false_eq_true, true_or, or_true, implies_true, false_implies, true_implies, Int32.reduceLT, Int32.reduceLE, ↓w_TAB3, ↓w_TAB4, ↓w_TAB5, ↓w_TAB7, ↓w_TAB10, ↓w_LK2, ↓w_LK6, false_and, and_false, i1z, i2z, iz1, im0, im1, l0z, hasK_uI, hasK_uL, hasK_uR, hasK_uZ, hasK_sRow, mR_uI, mR_uL, mR_uZ, mR_sRow, mI_uL, mI_uR, mI_uZ, mL_uI, mL_uR, mL_uZ, mL_sRow, LF.hk hL, layF, LF.r hL, refF, ne_eq, not_false_eq_true, Option.some.injEq, Sum.inl.injEq, Sum.inr.injEq, Prod.mk.injEq, exists_eq_left, exists_eq_left', l0, e0, e1, e2, ec, ei, ca, ci, c6, m1, lI_sub, lI_add, n1, n2]
  refine ⟨vp_in_nI ha (by omega), vp_in_nI ha (by omega), vp_in_nI (by omega) (by omega), vp_in_nI (by omega) (by omega), vp_in_i (by simp), vp_in_i (by simp), ?_⟩
  exact hQ _ r3 (hiD_uL (hiD_uL (hiD_uL hi (by omega)) (by omega)) (by omega))
theorem c_addBatch {y1 : Int32} (h : RP w o c S k p q M) (hi : hiD M0 M) (ha : a < 6) (h1 : y1 = nI a) (hz : z = lI am) (hQ : ∀ M', RP w o c (wL (wI S (up2 (sI S) 502 a (sI S 502 a + 1))) (up2 (sL S) 503 a (sL S 503 a + am))) k p q M' → hiD M0 M' → Q none M') : Ct G (MT 89) [.ref 140, .int y1, .long z] M Q X := by
  subst h1 hz
  have hL := h.L
  have hLl : cL (sL S) M := h.1.2.2.2.1
  have hI : cI (sI S) M := h.1.2.2.1
  have ca := nI_clamp (n := a) (by omega)
  have m1 := (hI.1 a ha).2.2
  have m2 := (hLl.1 a ha).2.2
  have r1 := RP_cnt (a := a) (v := sI S 502 a + 1) (y := nI (sI S 502 a + 1)) h ha rfl
  have r2 := RP_sum (a := a) (x := sL S 503 a + am) (z := lI (sL S 503 a + am)) r1 ha rfl
  refine Ct.go (L0 := [some (.ref 140), some (.int (nI a)), some (.long (lI am)), none]) (by decide +kernel) rfl rfl ?_
  refine r_X8_addToBatch (fun _ => false) 60 ?_
  simp only [cd_X8_addToBatch, cf_X8_addToBatch, wp, wq, wpI, cdF, w_CI, w_CL, w_CN, w_LI, w_LL, w_LA, w_SI, w_SL, w_SA, w_INC, w_II, w_IId, w_LLb, w_LLd, w_LS, w_I1, w_L1, w_I2L, w_L2I, w_CMP, w_DUP, w_POP, w_DUP2, w_IF, w_IC, w_GO, w_NUL, w_ACN, prs, w_GF, w_PF, w_GS, w_IAL, w_LEN, w_LAL, w_ZAL, w_AAL, w_IAS, w_LAS, w_ZAS, w_AAS, w_RI, w_RL, w_RA, w_NEW, w_NA, w_MNA, w_OI, w_THR, w_CV, w_CS, w_CN9, w_CI9, w_MX, w_cont, lget, sto1, sto2, wideV, vo, vo_rv, isR, isR_rv, rv, fget, fput, cats, Value.category, List.headD_cons, List.getD_cons_zero, List.getD_cons_succ, List.drop_succ_cons, List.drop_zero, List.take_succ_cons, List.take_zero, List.reverse_cons, List.reverse_nil, List.nil_append, List.cons_append, List.length_cons, List.length_nil, cond_true, cond_false, and_true, true_and, Nat.zero_add, Nat.add_zero, Nat.reduceAdd, Nat.reduceLT, Nat.reduceLeDiff, Nat.reduceEqDiff, Nat.reduceBEq, Nat.reduceSub, ↓reduceIte, Int32.reduceOfNat, Int64.reduceOfNat, reduceCtorEq, Nat.le_refl, Nat.zero_le, Bool.false_eq_true, beq_self_eq_true, Fin.isValue, Fin.val_zero, Fin.val_one, Fin.reduceFinMk, Fin.val_two, Nat.reduceMod, Bool.or_false, Bool.or_true, Bool.true_or, Bool.false_or, not_true_eq_false, not_false_eq_true, true_or, or_true, implies_true, false_implies, true_implies, Int32.reduceLT, Int32.reduceLE, ↓w_TAB3, ↓w_TAB4, ↓w_TAB5, ↓w_TAB7, ↓w_TAB10, ↓w_LK2, ↓w_LK6, false_and, and_false, i1z, i2z, iz1, im0, im1, l0z, hasK_uI, hasK_uL, hasK_uR, hasK_uZ, hasK_sRow, mR_uI, mR_uL, mR_uZ, mR_sRow, mI_uL, mI_uR, mI_uZ, mL_uI, mL_uR, mL_uZ, mL_sRow, LF.hk hL, layF, LF.r hL, refF, ne_eq, not_false_eq_true, Option.some.injEq, Sum.inl.injEq, Sum.inr.injEq, Prod.mk.injEq, exists_eq_left, exists_eq_left', ca, m1, m2, lI_add, nI_1, mL_uI]
  refine ⟨vp_in_nI ha (by omega), vp_in_nI ha (by omega), vp_in_nI ha (by omega), vp_in_nI ha (by omega), ?_⟩
  exact hQ _ r2 (hiD_uL (hiD_uI hi (by omega)) (by omega))
/-- the state behind a clearing -/
def clrS (S : Sw) (a k : Nat) (am : Int) (mo : Bool) : Sw :=
  let p := sP S k
  let acc := qI p 45 - 1
  let i := sI S 507 acc
  let p1 := pLu (pLu p 48 (qL p 48 - am)) 49 (qL p 49 + am)
  let L1 := up2 (sL S) 509 acc (sL S 509 acc - am)
  let L2 := shr3 L1 a i am ((am * ((sI S 499 (6 + i) : Int) + sI S 499 a) + 9999) / 10000) (am * (sI S 499 (6 + i) : Int) / 10000)
  wP (wL (wI S (up2 (sI S) 502 a (sI S 502 a + 1))) (up2 L2 503 a (L2 503 a + am))) (up1 (sP S) k (if mo = false ∨ qL p1 48 = 0 then ends p1 (sN S 11) else p1))
set_option maxRecDepth 20000 in
theorem c_bclear {mo : Bool} (hR : RC w o c S M) (hj : Jv t S) (hi : hiD M0 M) (hk : k < sN S 39) (h47 : qI (sP S k) 47 = 1) (h41 : qI (sP S k) 41 = a) (ham : 1 ≤ am ∧ am ≤ qL (sP S k) 48) (hz : z = lI am) (hx : x = nI mo.toNat) (hQ : ∀ M', RC w o c (clrS S a k am mo) M' → hiD M0 M' → Q none M') : Ct G (MT 17) [.ref 139, .ref (148 + 3 * w k), .long z, .int x] M Q X := by
  subst hz hx
  obtain ⟨hL, hN, hI, hLl, hF, hS, hA, hC, hP, hRr, hD, hT, hZ⟩ := id hR
  have hs := hj.1
  have hn := hN
  unfold cN at hn
  unfold jS at hs
  have h60 : sN S 39 ≤ 60 := by omega
  have ho := hj.2.2.2.1 _ hk
  have rp := RP_of (p := sP S k) hR hk h60 rfl
  unfold clrS at hQ
  dsimp only at hQ
  generalize hpp : sP S k = p at *
  have hpc := rp.pc
  have hp := hpc.1
  unfold payC at hp
  have hka := hpc.2.2
  have hw := hpc.2.1
  obtain ⟨⟨b1, b2, b3, b4, b5, b6, b7, b8, b9, b10, b11⟩, c2, c3, c4, c5, c6, c7, c8, c9, c10, c11, c12, c13, c14⟩ := ho
  obtain ⟨hm6, ha, hkb, hi6⟩ := acc_of rp hj (c4 h47).1 b7
  have hjI := hj.2.1.1
  have q41 : a < 6 := by omega
  have m1 := hI.2.2.1 _ ha
  have clA := nI_clamp (n := a) (by omega)
  have clI := nI_clamp (n := sI S 507 (qI p 45 - 1)) (by omega)
  have g1 := (hI.1 a q41).1
  have g2 := (hI.1 _ hi6).2.1
  have e8 : lI (qL p 48) - lI am = lI (qL p 48 - am) := lI_sub _ _
  refine Ct.go (L0 := [some (.ref 139), some (.ref (148 + 3 * w k)), some (.long (lI am)), none, some (.int (nI mo.toNat)), none]) (by decide +kernel) rfl rfl ?_
  refine r_X2_clear (fun n => n == 23 || n == 86 || n == 98 || n == 121) 60 ?_
  simp only [cd_X2_clear, cf_X2_clear, wp, wq, wpI, cdF, w_CI, w_CL, w_CN, w_LI, w_LL, w_LA, w_SI, w_SL, w_SA, w_INC, w_II, w_IId, w_LLb, w_LLd, w_LS, w_I1, w_L1, w_I2L, w_L2I, w_CMP, w_DUP, w_POP, w_DUP2, w_IF, w_IC, w_GO, w_NUL, w_ACN, prs, w_GF, w_PF, w_GS, w_IAL, w_LEN, w_LAL, w_ZAL, w_AAL, w_IAS, w_LAS, w_ZAS, w_AAS, w_RI, w_RL, w_RA, w_NEW, w_NA, w_MNA, w_OI, w_THR, w_CV, w_CS, w_CN9, w_CI9, w_MX, w_cont, lget, sto1, sto2, wideV, vo, vo_rv, isR, isR_rv, rv, fget, fput, cats, Value.category, List.headD_cons, List.getD_cons_zero, List.getD_cons_succ, List.drop_succ_cons, List.drop_zero, List.take_succ_cons, List.take_zero, List.reverse_cons, List.reverse_nil, List.nil_append, List.cons_append, List.length_cons, List.length_nil, cond_true, cond_false, and_true, true_and, Nat.zero_add, Nat.add_zero, Nat.reduceAdd, Nat.reduceLT, Nat.reduceLeDiff, Nat.reduceEqDiff, Nat.reduceBEq, Nat.reduceSub, ↓reduceIte, Int32.reduceOfNat, Int64.reduceOfNat, reduceCtorEq, Nat.le_refl, Nat.zero_le, Bool.false_eq_true, beq_self_eq_true, Fin.isValue, Fin.val_zero, Fin.val_one, Fin.reduceFinMk, Fin.val_two, Nat.reduceMod, Bool.or_false, Bool.or_true, Bool.true_or, Bool.false_or, not_true_eq_false, not_false_eq_true, true_or, or_true, implies_true, false_implies, true_implies, Int32.reduceLT, Int32.reduceLE, ↓w_TAB3, ↓w_TAB4, ↓w_TAB5, ↓w_TAB7, ↓w_TAB10, ↓w_LK2, ↓w_LK6, false_and, and_false, i1z, i2z, iz1, im0, im1, l0z, hasK_uI, hasK_uL, hasK_uR, hasK_uZ, hasK_sRow, mR_uI, mR_uL, mR_uZ, mR_sRow, mI_uL, mI_uR, mI_uZ, mL_uI, mL_uR, mL_uZ, mL_sRow, LF.hg hL, layF, LF.r hL, refF, ne_eq, not_false_eq_true, Option.some.injEq, Sum.inl.injEq, Sum.inr.injEq, Prod.mk.injEq, exists_eq_left, exists_eq_left', hka, hm6, hp, e8]
  refine d_holdOnly (u := qL p 48 - am) rp hi (by omega) rfl (fun M1 r1 i1 => ⟨rfl, ?_⟩)
  have l1 := r1.L
  have hp1 := r1.pc.1
  have k1 := r1.pc.2.2
  have o9 : mL M1 (148 + 3 * w k) 9 = lI (qL p 49) := hp1.2.2.2.2.2.2.2.2.2.2.1
  have o1 : mI M1 (148 + 3 * w k) 1 = nI a := by rw [← h41]; exact hp1.2.1
  have o8 : mL M1 (148 + 3 * w k) 8 = lI (qL p 48 - am) := hp1.2.2.2.2.2.2.2.2.2.1
  have o4 := ((show cL (sL S) M1 from r1.1.2.2.2.1).2.2 _ ha).2
  have o5 := (show cI (sI S) M1 from r1.1.2.2.1).2.2.1 _ ha
  have g1' := ((show cI (sI S) M1 from r1.1.2.2.1).1 a q41).1
  have g2' := ((show cI (sI S) M1 from r1.1.2.2.1).1 _ hi6).2.1
  have r2 := RP_L49 (x := qL p 49 + am) (z := lI (qL p 49 + am)) r1 rfl
  have r3 := RP_bal (a := qI p 45 - 1) (x := sL S 509 (qI p 45 - 1) - am) (z := lI (sL S 509 (qI p 45 - 1) - am)) r2 ha rfl
  have i3 := hiD_uL (u := lI (sL S 509 (qI p 45 - 1) - am)) (a := 11 + 2 * (qI p 45 - 1)) (j := 4) (hiD_uL (u := lI (qL p 49 + am)) (a := 148 + 3 * w k) (j := 9) i1 (by omega)) (by omega)
  have e9 : lI (qL p 49) + lI am = lI (qL p 49 + am) := lI_add _ _
  have e4 : lI (sL S 509 (qI p 45 - 1)) - lI am = lI (sL S 509 (qI p 45 - 1) - am) := lI_sub _ _
  have o4' : mL (uL M1 (148 + 3 * w k) 9 (lI (qL p 49 + am))) (11 + 2 * (qI p 45 - 1)) 4 = lI (sL S 509 (qI p 45 - 1)) := by rw [mL_ne (by omega)]; exact o4
  have kB : hasK M1 (11 + 2 * (qI p 45 - 1)) (.inr 0) := (acc_k l1 ha).1
  refine r_X2_clear (fun n => n == 23 || n == 86 || n == 98 || n == 121) 60 ?_
  simp only [cd_X2_clear, cf_X2_clear, wp, wq, wpI, cdF, w_CI, w_CL, w_CN, w_LI, w_LL, w_LA, w_SI, w_SL, w_SA, w_INC, w_II, w_IId, w_LLb, w_LLd, w_LS, w_I1, w_L1, w_I2L, w_L2I, w_CMP, w_DUP, w_POP, w_DUP2, w_IF, w_IC, w_GO, w_NUL, w_ACN, prs, w_GF, w_PF, w_GS, w_IAL, w_LEN, w_LAL, w_ZAL, w_AAL, w_IAS, w_LAS, w_ZAS, w_AAS, w_RI, w_RL, w_RA, w_NEW, w_NA, w_MNA, w_OI, w_THR, w_CV, w_CS, w_CN9, w_CI9, w_MX, w_cont, lget, sto1, sto2, wideV, vo, vo_rv, isR, isR_rv, rv, fget, fput, cats, Value.category, List.headD_cons, List.getD_cons_zero, List.getD_cons_succ, List.drop_succ_cons, List.drop_zero, List.take_succ_cons, List.take_zero, List.reverse_cons, List.reverse_nil, List.nil_append, List.cons_append, List.length_cons, List.length_nil, cond_true, cond_false, and_true, true_and, Nat.zero_add, Nat.add_zero, Nat.reduceAdd, Nat.reduceLT, Nat.reduceLeDiff, Nat.reduceEqDiff, Nat.reduceBEq, Nat.reduceSub, ↓reduceIte, Int32.reduceOfNat, Int64.reduceOfNat, reduceCtorEq, Nat.le_refl, Nat.zero_le, Bool.false_eq_true, beq_self_eq_true, Fin.isValue, Fin.val_zero, Fin.val_one, Fin.reduceFinMk, Fin.val_two, Nat.reduceMod, Bool.or_false, Bool.or_true, Bool.true_or, Bool.false_or, not_true_eq_false, not_false_eq_true, true_or, or_true, implies_true, false_implies, true_implies, Int32.reduceLT, Int32.reduceLE, ↓w_TAB3, ↓w_TAB4, ↓w_TAB5, ↓w_TAB7, ↓w_TAB10, ↓w_LK2, ↓w_LK6, false_and, and_false, i1z, i2z, iz1, im0, im1, l0z, hasK_uI, hasK_uL, hasK_uR, hasK_uZ, hasK_sRow, mR_uI, mR_uL, mR_uZ, mR_sRow, mI_uL, mI_uR, mI_uZ, mL_uI, mL_uR, mL_uZ, mL_sRow, LF.hg l1, layF, LF.r l1, refF, ne_eq, not_false_eq_true, Option.some.injEq, Sum.inl.injEq, Sum.inr.injEq, Prod.mk.injEq, exists_eq_left, exists_eq_left', k1, o9, e9, kB, o4', e4, o1, o5, mI_uL, hasK_uL, clA, clI, g1', g2']
  refine ⟨vp_in_nI q41 (by omega), vp_in_nI hi6 (by omega), ?_⟩
  refine c_shareOut (a := a) (i := sI S 507 (qI p 45 - 1)) (am := am) (fe := sI S 499 a) (sh := sI S 499 (6 + sI S 507 (qI p 45 - 1))) r3 i3 q41 hi6 rfl rfl rfl (by omega) rfl rfl (hjI _ (by omega)) (hjI _ (by omega)) (fun M2 r4 i4 => ⟨rfl, ?_⟩)
  have l4 := r4.L
  have k4 := r4.pc.2.2
  have o41 : mI M2 (148 + 3 * w k) 1 = nI a := by rw [← h41]; exact r4.pc.1.2.1
  refine r_X2_clear (fun n => n == 23 || n == 86 || n == 98 || n == 121) 60 ?_
  simp only [cd_X2_clear, cf_X2_clear, wp, wq, wpI, cdF, w_CI, w_CL, w_CN, w_LI, w_LL, w_LA, w_SI, w_SL, w_SA, w_INC, w_II, w_IId, w_LLb, w_LLd, w_LS, w_I1, w_L1, w_I2L, w_L2I, w_CMP, w_DUP, w_POP, w_DUP2, w_IF, w_IC, w_GO, w_NUL, w_ACN, prs, w_GF, w_PF, w_GS, w_IAL, w_LEN, w_LAL, w_ZAL, w_AAL, w_IAS, w_LAS, w_ZAS, w_AAS, w_RI, w_RL, w_RA, w_NEW, w_NA, w_MNA, w_OI, w_THR, w_CV, w_CS, w_CN9, w_CI9, w_MX, w_cont, lget, sto1, sto2, wideV, vo, vo_rv, isR, isR_rv, rv, fget, fput, cats, Value.category, List.headD_cons, List.getD_cons_zero, List.getD_cons_succ, List.drop_succ_cons, List.drop_zero, List.take_succ_cons, List.take_zero, List.reverse_cons, List.reverse_nil, List.nil_append, List.cons_append, List.length_cons, List.length_nil, cond_true, cond_false, and_true, true_and, Nat.zero_add, Nat.add_zero, Nat.reduceAdd, Nat.reduceLT, Nat.reduceLeDiff, Nat.reduceEqDiff, Nat.reduceBEq, Nat.reduceSub, ↓reduceIte, Int32.reduceOfNat, Int64.reduceOfNat, reduceCtorEq, Nat.le_refl, Nat.zero_le, Bool.false_eq_true, beq_self_eq_true, Fin.isValue, Fin.val_zero, Fin.val_one, Fin.reduceFinMk, Fin.val_two, Nat.reduceMod, Bool.or_false, Bool.or_true, Bool.true_or, Bool.false_or, not_true_eq_false, not_false_eq_true, true_or, or_true, implies_true, false_implies, true_implies, Int32.reduceLT, Int32.reduceLE, ↓w_TAB3, ↓w_TAB4, ↓w_TAB5, ↓w_TAB7, ↓w_TAB10, ↓w_LK2, ↓w_LK6, false_and, and_false, i1z, i2z, iz1, im0, im1, l0z, hasK_uI, hasK_uL, hasK_uR, hasK_uZ, hasK_sRow, mR_uI, mR_uL, mR_uZ, mR_sRow, mI_uL, mI_uR, mI_uZ, mL_uI, mL_uR, mL_uZ, mL_sRow, LF.hg l4, layF, LF.r l4, refF, ne_eq, not_false_eq_true, Option.some.injEq, Sum.inl.injEq, Sum.inr.injEq, Prod.mk.injEq, exists_eq_left, exists_eq_left', k4, o41]
  refine c_addBatch (a := a) (am := am) r4 i4 q41 rfl rfl (fun M3 r5 i5 => ⟨rfl, ?_⟩)
  have l5 := r5.L
  have k5 := r5.pc.2.2
  have o48 : mL M3 (148 + 3 * w k) 8 = lI (qL p 48 - am) := r5.pc.1.2.2.2.2.2.2.2.2.2.1
  have o11 : mI M3 139 5 = nI (sN S 11) := r5.N.2.2.2.2.2.2.2.2.2.2.2.2.1
  have c45 := (c4 h47).1
  have k0 : ∀ b (p' : Py), qI p' 52 = qI p 52 → kq b p' = 0 := fun b p' e => by unfold kq; rw [if_neg (by rw [e, (c4 h47).2.2.1]; omega)]
  have hfin : qL p 48 - am = 0 ∨ mo = false → Go G (MT 17) Q X 112 [some (.ref 139), some (.ref (148 + 3 * w k)), some (.long (lI am)), none, some (.int (nI mo.toNat)), some (.ref (11 + 2 * (qI p 45 - 1)))] [] M3 0 0 := fun hmo => by
    refine r_X2_clear (fun n => n == 23 || n == 86 || n == 98 || n == 121) 60 ?_
    simp only [cd_X2_clear, cf_X2_clear, wp, wq, wpI, cdF, w_CI, w_CL, w_CN, w_LI, w_LL, w_LA, w_SI, w_SL, w_SA, w_INC, w_II, w_IId, w_LLb, w_LLd, w_LS, w_I1, w_L1, w_I2L, w_L2I, w_CMP, w_DUP, w_POP, w_DUP2, w_IF, w_IC, w_GO, w_NUL, w_ACN, prs, w_GF, w_PF, w_GS, w_IAL, w_LEN, w_LAL, w_ZAL, w_AAL, w_IAS, w_LAS, w_ZAS, w_AAS, w_RI, w_RL, w_RA, w_NEW, w_NA, w_MNA, w_OI, w_THR, w_CV, w_CS, w_CN9, w_CI9, w_MX, w_cont, lget, sto1, sto2, wideV, vo, vo_rv, isR, isR_rv, rv, fget, fput, cats, Value.category, List.headD_cons, List.getD_cons_zero, List.getD_cons_succ, List.drop_succ_cons, List.drop_zero, List.take_succ_cons, List.take_zero, List.reverse_cons, List.reverse_nil, List.nil_append, List.cons_append, List.length_cons, List.length_nil, cond_true, cond_false, and_true, true_and, Nat.zero_add, Nat.add_zero, Nat.reduceAdd, Nat.reduceLT, Nat.reduceLeDiff, Nat.reduceEqDiff, Nat.reduceBEq, Nat.reduceSub, ↓reduceIte, Int32.reduceOfNat, Int64.reduceOfNat, reduceCtorEq, Nat.le_refl, Nat.zero_le, Bool.false_eq_true, beq_self_eq_true, Fin.isValue, Fin.val_zero, Fin.val_one, Fin.reduceFinMk, Fin.val_two, Nat.reduceMod, Bool.or_false, Bool.or_true, Bool.true_or, Bool.false_or, not_true_eq_false, not_false_eq_true, true_or, or_true, implies_true, false_implies, true_implies, Int32.reduceLT, Int32.reduceLE, ↓w_TAB3, ↓w_TAB4, ↓w_TAB5, ↓w_TAB7, ↓w_TAB10, ↓w_LK2, ↓w_LK6, false_and, and_false, i1z, i2z, iz1, im0, im1, l0z, hasK_uI, hasK_uL, hasK_uR, hasK_uZ, hasK_sRow, mR_uI, mR_uL, mR_uZ, mR_sRow, mI_uL, mI_uR, mI_uZ, mL_uI, mL_uR, mL_uZ, mL_sRow, LF.hg l5, layF, LF.r l5, refF, ne_eq, not_false_eq_true, Option.some.injEq, Sum.inl.injEq, Sum.inr.injEq, Prod.mk.injEq, exists_eq_left, exists_eq_left', o11]
    refine d_finish (v := sN S 11) r5 i5 (show qI p 45 ≤ 64 by omega) rfl (fun M4 r6 i6 => ⟨rfl, ?_⟩)
    refine r_X2_clear (fun n => n == 23 || n == 86 || n == 98 || n == 121) 60 ?_
    simp only [cd_X2_clear, cf_X2_clear, wp, wq, wpI, cdF, w_CI, w_CL, w_CN, w_LI, w_LL, w_LA, w_SI, w_SL, w_SA, w_INC, w_II, w_IId, w_LLb, w_LLd, w_LS, w_I1, w_L1, w_I2L, w_L2I, w_CMP, w_DUP, w_POP, w_DUP2, w_IF, w_IC, w_GO, w_NUL, w_ACN, prs, w_GF, w_PF, w_GS, w_IAL, w_LEN, w_LAL, w_ZAL, w_AAL, w_IAS, w_LAS, w_ZAS, w_AAS, w_RI, w_RL, w_RA, w_NEW, w_NA, w_MNA, w_OI, w_THR, w_CV, w_CS, w_CN9, w_CI9, w_MX, w_cont, lget, sto1, sto2, wideV, vo, vo_rv, isR, isR_rv, rv, fget, fput, cats, Value.category, List.headD_cons, List.getD_cons_zero, List.getD_cons_succ, List.drop_succ_cons, List.drop_zero, List.take_succ_cons, List.take_zero, List.reverse_cons, List.reverse_nil, List.nil_append, List.cons_append, List.length_cons, List.length_nil, cond_true, cond_false, and_true, true_and, Nat.zero_add, Nat.add_zero, Nat.reduceAdd, Nat.reduceLT, Nat.reduceLeDiff, Nat.reduceEqDiff, Nat.reduceBEq, Nat.reduceSub, ↓reduceIte, Int32.reduceOfNat, Int64.reduceOfNat, reduceCtorEq, Nat.le_refl, Nat.zero_le, Bool.false_eq_true, beq_self_eq_true, Fin.isValue, Fin.val_zero, Fin.val_one, Fin.reduceFinMk, Fin.val_two, Nat.reduceMod, Bool.or_false, Bool.or_true, Bool.true_or, Bool.false_or, not_true_eq_false, not_false_eq_true, true_or, or_true, implies_true, false_implies, true_implies, Int32.reduceLT, Int32.reduceLE, ↓w_TAB3, ↓w_TAB4, ↓w_TAB5, ↓w_TAB7, ↓w_TAB10, ↓w_LK2, ↓w_LK6, false_and, and_false, i1z, i2z, iz1, im0, im1, l0z]
    refine hQ M4 ?_ i6
    have ef := ends_fin (p := pLu (pLu p 48 (qL p 48 - am)) 49 (qL p 49 + am)) (v := sN S 11) (show 0 < qL p 49 + am by omega)
    rw [if_pos (show mo = false ∨ qL (pLu (pLu p 48 (qL p 48 - am)) 49 (qL p 49 + am)) 48 = 0 from hmo.symm), ef]
    refine RC_of r6.1 (fun b hb => ?_)
    refine Eq.trans ?_ (qS_wk (S := S) (k := k) (p' := pIu (pIu (pIu (pLu (pLu (pLu p 48 (qL p 48 - am)) 49 (qL p 49 + am)) 48 0) 50 0) 47 3) 51 (sN S 11 + 1)) hk ?_ ?_).symm
    rotate_left
    · rfl
    · rfl
    rw [hpp, k0 b p rfl, k0 b (pIu (pIu (pIu (pLu (pLu (pLu p 48 (qL p 48 - am)) 49 (qL p 49 + am)) 48 0) 50 0) 47 3) 51 (sN S 11 + 1)) rfl]
    have h0 : hq b (pIu (pIu (pIu (pLu (pLu (pLu p 48 (qL p 48 - am)) 49 (qL p 49 + am)) 48 0) 50 0) 47 3) 51 (sN S 11 + 1)) = 0 := by
      show (if qI p 45 = b + 1 then (0 : Int) else 0) = 0
      split <;> rfl
    rw [h0]
    unfold qH
    rw [if_neg (show ¬ qI (pLu (pLu p 48 (qL p 48 - am)) 49 (qL p 49 + am)) 45 = 0 from c45), if_neg c45]
    have e45 : qI (pLu (pLu p 48 (qL p 48 - am)) 49 (qL p 49 + am)) 45 = qI p 45 := rfl
    have e48 : qL (pLu (pLu p 48 (qL p 48 - am)) 49 (qL p 49 + am)) 48 = qL p 48 - am := rfl
    rw [e45, e48]
    by_cases e : b = qI p 45 - 1
    · subst e
      rw [up1_same, up1_same]
      have h1 : hq (qI p 45 - 1) p = qL p 48 := by unfold hq; rw [if_pos (by omega)]
      rw [h1]
      show (hld S (qI p 45 - 1) - (qL p 48 - (qL p 48 - am)) - (qL p 48 - am - 0), lkd S (qI p 45 - 1)) = _
      congr 1 <;> omega
    · rw [up1_ne e, up1_ne e]
      have h1 : hq b p = 0 := by unfold hq; rw [if_neg (by omega)]
      rw [h1]
      show (hld S b, lkd S b) = _
      congr 1 <;> omega
  have hend : ¬ (mo = false ∨ qL p 48 - am = 0) → Q none M3 := fun hmo => by
    refine hQ M3 ?_ i5
    rw [if_neg (show ¬ (mo = false ∨ qL (pLu (pLu p 48 (qL p 48 - am)) 49 (qL p 49 + am)) 48 = 0) from hmo)]
    refine RC_of r5.1 (fun b hb => ?_)
    refine Eq.trans ?_ (qS_wk (S := S) (k := k) (p' := pLu (pLu p 48 (qL p 48 - am)) 49 (qL p 49 + am)) hk ?_ ?_).symm
    rotate_left
    · rfl
    · rfl
    rw [hpp, k0 b p rfl, k0 b (pLu (pLu p 48 (qL p 48 - am)) 49 (qL p 49 + am)) rfl]
    have h0 : hq b (pLu (pLu p 48 (qL p 48 - am)) 49 (qL p 49 + am)) = if qI p 45 = b + 1 then qL p 48 - am else 0 := rfl
    rw [h0]
    unfold qH
    rw [if_neg c45]
    by_cases e : b = qI p 45 - 1
    · subst e
      rw [up1_same, if_pos (by omega)]
      have h1 : hq (qI p 45 - 1) p = qL p 48 := by unfold hq; rw [if_pos (by omega)]
      rw [h1]
      show (hld S (qI p 45 - 1) - (qL p 48 - (qL p 48 - am)), lkd S (qI p 45 - 1)) = _
      congr 1 <;> omega
    · rw [up1_ne e, if_neg (by omega)]
      have h1 : hq b p = 0 := by unfold hq; rw [if_neg (by omega)]
      rw [h1]
      show (hld S b, lkd S b) = _
      congr 1 <;> omega
  have hz0 : (lI (qL p 48 - am) = 0) ↔ qL p 48 - am = 0 := by rw [show (0 : Int64) = lI 0 from rfl, lI_eq (by unfold fL; omega) (by unfold fL; omega)]
  cases mo
  · refine r_X2_clear (fun n => n == 112 || n == 23 || n == 86 || n == 98 || n == 121) 60 ?_
    simp only [cd_X2_clear, cf_X2_clear, wp, wq, wpI, cdF, w_CI, w_CL, w_CN, w_LI, w_LL, w_LA, w_SI, w_SL, w_SA, w_INC, w_II, w_IId, w_LLb, w_LLd, w_LS, w_I1, w_L1, w_I2L, w_L2I, w_CMP, w_DUP, w_POP, w_DUP2, w_IF, w_IC, w_GO, w_NUL, w_ACN, prs, w_GF, w_PF, w_GS, w_IAL, w_LEN, w_LAL, w_ZAL, w_AAL, w_IAS, w_LAS, w_ZAS, w_AAS, w_RI, w_RL, w_RA, w_NEW, w_NA, w_MNA, w_OI, w_THR, w_CV, w_CS, w_CN9, w_CI9, w_MX, w_cont, lget, sto1, sto2, wideV, vo, vo_rv, isR, isR_rv, rv, fget, fput, cats, Value.category, List.headD_cons, List.getD_cons_zero, List.getD_cons_succ, List.drop_succ_cons, List.drop_zero, List.take_succ_cons, List.take_zero, List.reverse_cons, List.reverse_nil, List.nil_append, List.cons_append, List.length_cons, List.length_nil, cond_true, cond_false, and_true, true_and, Nat.zero_add, Nat.add_zero, Nat.reduceAdd, Nat.reduceLT, Nat.reduceLeDiff, Nat.reduceEqDiff, Nat.reduceBEq, Nat.reduceSub, ↓reduceIte, Int32.reduceOfNat, Int64.reduceOfNat, reduceCtorEq, Nat.le_refl, Nat.zero_le, Bool.false_eq_true, beq_self_eq_true, Fin.isValue, Fin.val_zero, Fin.val_one, Fin.reduceFinMk, Fin.val_two, Nat.reduceMod, Bool.or_false, Bool.or_true, Bool.true_or, Bool.false_or, not_true_eq_false, not_false_eq_true, true_or, or_true, implies_true, false_implies, true_implies, Int32.reduceLT, Int32.reduceLE, ↓w_TAB3, ↓w_TAB4, ↓w_TAB5, ↓w_TAB7, ↓w_TAB10, ↓w_LK2, ↓w_LK6, false_and, and_false, i1z, i2z, iz1, im0, im1, l0z, Bool.toNat_false, show nI 0 = (0 : Int32) from rfl, eq_self]
    exact hfin (Or.inr rfl)
  · refine r_X2_clear (fun n => n == 112 || n == 23 || n == 86 || n == 98 || n == 121) 60 ?_
    simp only [cd_X2_clear, cf_X2_clear, wp, wq, wpI, cdF, w_CI, w_CL, w_CN, w_LI, w_LL, w_LA, w_SI, w_SL, w_SA, w_INC, w_II, w_IId, w_LLb, w_LLd, w_LS, w_I1, w_L1, w_I2L, w_L2I, w_CMP, w_DUP, w_POP, w_DUP2, w_IF, w_IC, w_GO, w_NUL, w_ACN, prs, w_GF, w_PF, w_GS, w_IAL, w_LEN, w_LAL, w_ZAL, w_AAL, w_IAS, w_LAS, w_ZAS, w_AAS, w_RI, w_RL, w_RA, w_NEW, w_NA, w_MNA, w_OI, w_THR, w_CV, w_CS, w_CN9, w_CI9, w_MX, w_cont, lget, sto1, sto2, wideV, vo, vo_rv, isR, isR_rv, rv, fget, fput, cats, Value.category, List.headD_cons, List.getD_cons_zero, List.getD_cons_succ, List.drop_succ_cons, List.drop_zero, List.take_succ_cons, List.take_zero, List.reverse_cons, List.reverse_nil, List.nil_append, List.cons_append, List.length_cons, List.length_nil, cond_true, cond_false, and_true, true_and, Nat.zero_add, Nat.add_zero, Nat.reduceAdd, Nat.reduceLT, Nat.reduceLeDiff, Nat.reduceEqDiff, Nat.reduceBEq, Nat.reduceSub, ↓reduceIte, Int32.reduceOfNat, Int64.reduceOfNat, reduceCtorEq, Nat.le_refl, Nat.zero_le, Bool.false_eq_true, beq_self_eq_true, Fin.isValue, Fin.val_zero, Fin.val_one, Fin.reduceFinMk, Fin.val_two, Nat.reduceMod, Bool.or_false, Bool.or_true, Bool.true_or, Bool.false_or, not_true_eq_false, not_false_eq_true, true_or, or_true, implies_true, false_implies, true_implies, Int32.reduceLT, Int32.reduceLE, ↓w_TAB3, ↓w_TAB4, ↓w_TAB5, ↓w_TAB7, ↓w_TAB10, ↓w_LK2, ↓w_LK6, false_and, and_false, i1z, i2z, iz1, im0, im1, l0z, Bool.toNat_true, show nI 1 = (1 : Int32) from rfl, i1z, k5, o48, cmp_eq]
    refine and_ii (fun q => ?_) (fun q => ?_)
    · try (refine r_X2_clear (fun n => n == 23 || n == 86 || n == 98 || n == 121) 60 ?_; simp only [cd_X2_clear, cf_X2_clear, wp, wq, wpI, cdF, w_CI, w_CL, w_CN, w_LI, w_LL, w_LA, w_SI, w_SL, w_SA, w_INC, w_II, w_IId, w_LLb, w_LLd, w_LS, w_I1, w_L1, w_I2L, w_L2I, w_CMP, w_DUP, w_POP, w_DUP2, w_IF, w_IC, w_GO, w_NUL, w_ACN, prs, w_GF, w_PF, w_GS, w_IAL, w_LEN, w_LAL, w_ZAL, w_AAL, w_IAS, w_LAS, w_ZAS, w_AAS, w_RI, w_RL, w_RA, w_NEW, w_NA, w_MNA, w_OI, w_THR, w_CV, w_CS, w_CN9, w_CI9, w_MX, w_cont, lget, sto1, sto2, wideV, vo, vo_rv, isR, isR_rv, rv, fget, fput, cats, Value.category, List.headD_cons, List.getD_cons_zero, List.getD_cons_succ, List.drop_succ_cons, List.drop_zero, List.take_succ_cons, List.take_zero, List.reverse_cons, List.reverse_nil, List.nil_append, List.cons_append, List.length_cons, List.length_nil, cond_true, cond_false, and_true, true_and, Nat.zero_add, Nat.add_zero, Nat.reduceAdd, Nat.reduceLT, Nat.reduceLeDiff, Nat.reduceEqDiff, Nat.reduceBEq, Nat.reduceSub, ↓reduceIte, Int32.reduceOfNat, Int64.reduceOfNat, reduceCtorEq, Nat.le_refl, Nat.zero_le, Bool.false_eq_true, beq_self_eq_true, Fin.isValue, Fin.val_zero, Fin.val_one, Fin.reduceFinMk, Fin.val_two, Nat.reduceMod, Bool.or_false, Bool.or_true, Bool.true_or, Bool.false_or, not_true_eq_false, not_false_eq_true, true_or, or_true, implies_true, false_implies, true_implies, Int32.reduceLT, Int32.reduceLE, ↓w_TAB3, ↓w_TAB4, ↓w_TAB5, ↓w_TAB7, ↓w_TAB10, ↓w_LK2, ↓w_LK6, false_and, and_false, i1z, i2z, iz1, im0, im1, l0z])
      exact hend (fun q2 => q (hz0.mpr (by rcases q2 with q2 | q2; exact absurd q2 (by decide); exact q2)))
    · exact hfin (Or.inl (hz0.mp (Classical.not_not.mp q)))
/-! a payment comes -/
theorem refF_pay : ∀ i : Fin 60, refF (148 + 3 * i.val) 6 = 0 := by decide
theorem LF_uR6 {r : Option Nat} (hL : LF M) (hi : i < 60) : LF (uR M (148 + 3 * i) 6 r) := by
  obtain ⟨a1, a2, a3, a4, a5, a6, a7, a8, a9⟩ := hL
  refine ⟨a1, a2, fun a j hr => ?_, fun i hi => ?_, fun i hi => ?_, fun i hi => ?_, fun i hi => ?_, fun i hi => ?_, fun i hi => ?_⟩
  · rw [mR_ne (fun q => hr (by rw [q.1, q.2]; exact refF_pay ⟨i, hi⟩))]; exact a3 a j hr
  · rw [mR_ne (by omega)]; exact a4 i hi
  · rw [mR_ne (by omega)]; exact a5 i hi
  · rw [mR_ne (by omega), mR_ne (by omega)]; exact a6 i hi
  · rw [mR_ne (by omega), mR_ne (by omega)]; exact a7 i hi
  · rw [mR_ne (by omega)]; exact a8 i hi
  · rw [mR_ne (by omega), mR_ne (by omega), mR_ne (by omega)]; exact a9 i hi
/-- only the payment's own places and the book's numbers change -/
theorem RE_come (h : RC w o c S M) (h60 : sN S 39 < 60) (h12 : sN S 12 < 1000) (hL' : LF M') (hs : ∀ b, b < 495 → b ≠ 139 → b ≠ 148 + 3 * w (sN S 39) → b ≠ 149 + 3 * w (sN S 39) → b ≠ 150 + 3 * w (sN S 39) → sA M M' b) (n3 : mI M' 139 3 = nI (sN S 39 + 1)) (n4 : mI M' 139 4 = nI (sN S 12 + 1)) (n5 : mI M' 139 5 = mI M 139 5) (hp : payC M' (148 + 3 * w (sN S 39)) p) : RE w o c (come S p) (qS S) M' := by
  obtain ⟨hL, hN, hI, hLl, hF, hS, hA, hC, hP, hRr, hD, hT, hZ⟩ := h
  have hw := (hP.1 (sN S 39) h60).2
  have s0 : ∀ b, b < 495 → b ≠ 139 → (b < 148 ∨ 327 < b) → sA M M' b := fun b h1 h2 h3 => hs b h1 h2 (by omega) (by omega) (by omega)
  refine ⟨hL', ?_, ?_, ?_, ?_, ?_, ?_, ?_, ⟨?_, hP.2.1, ?_⟩, ?_, ?_, ?_, ?_⟩
  · unfold cN at hN ⊢
    rw [(s0 0 (by omega) (by omega) (by omega)).1, (s0 1 (by omega) (by omega) (by omega)).1, (s0 328 (by omega) (by omega) (by omega)).1, (s0 431 (by omega) (by omega) (by omega)).1, n3, n4, n5]
    obtain ⟨g1, g2, g3, g4, g5, g6, g7, g8, g9, g10, g11, g12, g13, g14⟩ := hN
    exact ⟨g1, g2, g3, g4, g5, g6, g7, g8, g9, g10, rfl, rfl, g13, g14⟩
  · exact ⟨fun i hi => by rw [(s0 2 (by omega) (by omega) (by omega)).1, (s0 3 (by omega) (by omega) (by omega)).1, (s0 145 (by omega) (by omega) (by omega)).1]; exact hI.1 i hi, fun i hi => by rw [(s0 4 (by omega) (by omega) (by omega)).1, (s0 5 (by omega) (by omega) (by omega)).1, (s0 6 (by omega) (by omega) (by omega)).1]; exact hI.2.1 i hi, fun i hi => by rw [(s0 (11 + 2 * i) (by omega) (by omega) (by omega)).1]; exact hI.2.2.1 i hi, fun i hi => by rw [(s0 9 (by omega) (by omega) (by omega)).1, (s0 10 (by omega) (by omega) (by omega)).1]; exact hI.2.2.2 i hi⟩
  · exact ⟨fun i hi => by rw [(s0 141 (by omega) (by omega) (by omega)).2.1, (s0 142 (by omega) (by omega) (by omega)).2.1, (s0 146 (by omega) (by omega) (by omega)).2.1]; exact hLl.1 i hi, fun i hi => by rw [(s0 143 (by omega) (by omega) (by omega)).2.1, (s0 144 (by omega) (by omega) (by omega)).2.1]; exact hLl.2.1 i hi, fun i hi => by rw [(s0 (11 + 2 * i) (by omega) (by omega) (by omega)).2.1]; exact hLl.2.2 i hi⟩
  · exact fun i hi => by rw [(s0 (11 + 2 * i) (by omega) (by omega) (by omega)).1, (s0 (11 + 2 * i) (by omega) (by omega) (by omega)).2.1]; exact hF i hi
  · exact fun i hi => by rw [(s0 (11 + 2 * i) (by omega) (by omega) (by omega)).2.1]; exact hS i hi
  · intro i hi
    have hA := hA i hi
    refine ⟨by rw [(s0 (11 + 2 * i) (by omega) (by omega) (by omega)).1]; exact hA.1, ⟨hA.2.1.1, ?_⟩, fun k hk => by rw [(s0 (12 + 2 * i) (by omega) (by omega) (by omega)).1]; exact hA.2.2 k hk⟩
    have h2 := hA.2.1.2
    unfold cN at hN
    obtain ⟨g1, g2, g3, g4, g5, g6, g7, g8, g9, g10, g11, g12, g13, g14⟩ := hN
    rw [g12, nI_toInt (by omega)] at h2
    rw [n4, nI_toInt (by omega)]
    omega
  · exact fun i hi => by rw [(s0 8 (by omega) (by omega) (by omega)).2.1]; exact hC i hi
  · exact fun i hi => by rw [(s0 147 (by omega) (by omega) (by omega)).2.2]; exact hP.1 i hi
  · intro i hi
    have hi : i < sN S 39 + 1 := hi
    show payC M' (148 + 3 * w i) (up1 (sP S) (sN S 39) p i)
    by_cases e : i = sN S 39
    · subst e; rw [up1_same]; exact hp
    · rw [up1_ne e]
      have hwi := (hP.1 i (by omega)).2
      have hne : w i ≠ w (sN S 39) := fun q => e (hP.2.1 i (sN S 39) (by omega) (by omega) q)
      exact payC_fr (hP.2.2 i (by omega)) (hs _ (by omega) (by omega) (by omega) (by omega) (by omega)) (hs _ (by omega) (by omega) (by omega) (by omega) (by omega)) (hs _ (by omega) (by omega) (by omega) (by omega) (by omega))
  · obtain ⟨h1, h2, h3, h4⟩ := hRr
    refine ⟨by rw [(s0 328 (by omega) (by omega) (by omega)).1]; exact h1, h2, h3, fun k hk => ?_⟩
    obtain ⟨q1, q2, q3, q4, q5, q6⟩ := h4 k hk
    have hb : (o + k) % 24 < 24 := Nat.mod_lt _ (by omega)
    have s1 : ∀ b, 328 ≤ b → b < 495 → sA M M' b := fun b h1 h2 => s0 b h2 (by omega) (by omega)
    exact ⟨by rw [(s1 _ (by omega) (by omega)).1]; exact q1, by rw [(s1 _ (by omega) (by omega)).1]; exact q2, by rw [(s1 _ (by omega) (by omega)).1]; exact q3, by rw [(s1 _ (by omega) (by omega)).1]; exact q4, q5.fr (s1 _ (by omega) (by omega)) (s1 _ (by omega) (by omega)), q6.fr (s1 _ (by omega) (by omega)) (s1 _ (by omega) (by omega))⟩
  · have s1 : ∀ b, 328 ≤ b → b < 495 → sA M M' b := fun b h1 h2 => s0 b h2 (by omega) (by omega)
    exact ⟨by rw [(s1 432 (by omega) (by omega)).1]; exact hD.1, by rw [(s1 432 (by omega) (by omega)).1]; exact hD.2.1, fun s hs' hp' => ⟨by rw [(s1 433 (by omega) (by omega)).1]; exact (hD.2.2 s hs' hp').1, fun i hi => by rw [(s1 (435 + s) (by omega) (by omega)).1]; exact (hD.2.2 s hs' hp').2 i hi⟩⟩
  · exact hT.fr (s0 _ (by omega) (by omega) (by omega)) (s0 _ (by omega) (by omega) (by omega))
  · exact hZ.fr (s0 _ (by omega) (by omega) (by omega)) (s0 _ (by omega) (by omega) (by omega))
/-- held and locked, when a payment has come -/
theorem qS_come : qS (come S p) b = (hld S b + hq b p, lkd S b + kq b p) := by
  have e1 : hld (come S p) b = hld S b + hq b p := by
    have h1 : hld (come S p) b = sumF (hOf (up1 (sP S) (sN S 39) p) b) (sN S 39) + hOf (up1 (sP S) (sN S 39) p) b (sN S 39) := rfl
    have h2 : hOf (up1 (sP S) (sN S 39) p) b (sN S 39) = hq b p := by unfold hOf hq; rw [up1_same]
    have h3 : sumF (hOf (up1 (sP S) (sN S 39) p) b) (sN S 39) = hld S b := sumF_congr (fun i hi => by unfold hOf; rw [up1_ne (by omega)])
    rw [h1, h2, h3]
  have e2 : lkd (come S p) b = lkd S b + kq b p := by
    have h1 : lkd (come S p) b = sumF (kOf (up1 (sP S) (sN S 39) p) b) (sN S 39) + kOf (up1 (sP S) (sN S 39) p) b (sN S 39) := rfl
    have h2 : kOf (up1 (sP S) (sN S 39) p) b (sN S 39) = kq b p := by unfold kOf kq; rw [up1_same]
    have h3 : sumF (kOf (up1 (sP S) (sN S 39) p) b) (sN S 39) = lkd S b := sumF_congr (fun i hi => by unfold kOf; rw [up1_ne (by omega)])
    rw [h1, h2, h3]
  unfold qS
  rw [e1, e2]
end BK
