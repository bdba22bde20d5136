/-! A CLEARING: the reference -/
section CLR2
variable {G : En} {M M0 Mz M' : Mem} {Q : Option Value → Mem → Prop} {X : String → Mem → Prop} {S : Sw} {t a b j k v i np T A s n d N r acc : Nat} {x y : Int32} {z : Int64} {m mx : Msg} {g : Nat → Nat}
set_option maxRecDepth 20000 in
theorem m_clearing (h : DN S m mx M0 M) (hj : Jv t S) (ho : okM m) (hb : ∀ s, s < 16 → pb 639 s = 1 → pb (gH m) s = 1) (ha : val m 4 < sN S 17) (hQ : ∀ M', DN (clr S (val m 4) m).2.2 m ((clr S (val m 4) m).2.1 mx) M0 M' → Q (some (.int (nI (clr S (val m 4) m).1))) M') : Ct G (MT 261) [.ref 495] M Q X := by
  have hR := h.1
  have hm := h.2.1
  obtain ⟨hL, hN, hI, hLl, hA, hC, hP, hRr, hD, hT, hZ, hK⟩ := id hR
  have hs := hj.1
  have hn := hN
  unfold mNn at hn
  unfold jS at hs
  have v2 := val_lt ho (s := 2) (by omega) (hb 2 (by omega) rfl) rfl
  have v1 := val_lt ho (s := 1) (by omega) (hb 1 (by omega) rfl) rfl
  simp only [szF] at v2 v1
  have hnay : ∀ r, clr S (val m 4) m = nay r S → ∀ M', DN S m mx M0 M' → Q (some (.int (nI r))) M' := fun r e M' d => by rw [e] at hQ; exact hQ M' d
  refine Ct.go (L0 := [some (.ref 495), none, none, none, none, none, none, none, none, none, none, none]) (by decide +kernel) rfl rfl ?_
  refine r_X12_clearing (fun n => n == 4 || n == 10 || n == 33 || n == 41 || n == 257 || n == 278) 60 ?_
  simp only [cd_X12_clearing, cf_X12_clearing, wp, wq, wpI, cdF, w_CI, w_CL, w_CN, w_LI, w_LL, w_LA, w_SI, w_SL, w_SA, w_INC, w_II, w_IId, w_LLb, w_LLd, w_LS, w_I1, w_L1, w_I2L, w_L2I, w_CMP, w_DUP, w_POP, w_DUP2, w_IF, w_IC, w_GO, w_NUL, w_ACN, prs, w_GF, w_PF, w_GS, w_IAL, w_LEN, w_LAL, w_ZAL, w_AAL, w_IAS, w_LAS, w_ZAS, w_AAS, w_RI, w_RL, w_RA, w_NEW, w_NA, w_MNA, w_OI, w_THR, w_CV, w_CS, w_CN9, w_CI9, w_MX, w_cont, lget, sto1, sto2, wideV, vo, vo_rv, isR, isR_rv, rv, fget, fput, cats, Value.category, List.headD_cons, List.getD_cons_zero, List.getD_cons_succ, List.drop_succ_cons, List.drop_zero, List.take_succ_cons, List.take_zero, List.reverse_cons, List.reverse_nil, List.nil_append, List.cons_append, List.length_cons, List.length_nil, cond_true, cond_false, and_true, true_and, Nat.zero_add, Nat.add_zero, Nat.reduceAdd, Nat.reduceLT, Nat.reduceLeDiff, Nat.reduceEqDiff, Nat.reduceBEq, Nat.reduceSub, ↓reduceIte, Int32.reduceOfNat, Int64.reduceOfNat, reduceCtorEq, Nat.le_refl, Nat.zero_le, Bool.false_eq_true, beq_self_eq_true, Fin.isValue, Fin.val_zero, Fin.val_one, Fin.reduceFinMk, Fin.val_two, Nat.reduceMod, Bool.or_false, Bool.or_true, Bool.true_or, Bool.false_or, not_true_eq_false, not_false_eq_true, true_or, or_true, implies_true, false_implies, true_implies, Int32.reduceLT, Int32.reduceLE, ↓w_TAB3, ↓w_TAB4, ↓w_TAB5, ↓w_TAB7, ↓w_TAB10, ↓w_LK2, ↓w_LK6, false_and, and_false, i1z, i2z, iz1, im0, im1, l0z, hasK_uI, hasK_uL, hasK_uR, hasK_uZ, hasK_sRow, mR_uI, mR_uL, mR_uZ, mR_sRow, mI_uL, mI_uR, mI_uZ, mL_uI, mL_uR, mL_uZ, mL_sRow, LF.hk hL, layF, LF.r hL, refF, ne_eq, not_false_eq_true, Option.some.injEq, Sum.inl.injEq, Sum.inr.injEq, Prod.mk.injEq, exists_eq_left, exists_eq_left']
  refine m_keyed hR hj hm ho (hb 5 (by omega) rfl) (hb 4 (by omega) rfl) ⟨_, rfl, ?_⟩
  refine r_X12_clearing (fun n => n == 4 || n == 10 || n == 33 || n == 41 || n == 257 || n == 278) 60 ?_
  simp only [cd_X12_clearing, cf_X12_clearing, wp, wq, wpI, cdF, w_CI, w_CL, w_CN, w_LI, w_LL, w_LA, w_SI, w_SL, w_SA, w_INC, w_II, w_IId, w_LLb, w_LLd, w_LS, w_I1, w_L1, w_I2L, w_L2I, w_CMP, w_DUP, w_POP, w_DUP2, w_IF, w_IC, w_GO, w_NUL, w_ACN, prs, w_GF, w_PF, w_GS, w_IAL, w_LEN, w_LAL, w_ZAL, w_AAL, w_IAS, w_LAS, w_ZAS, w_AAS, w_RI, w_RL, w_RA, w_NEW, w_NA, w_MNA, w_OI, w_THR, w_CV, w_CS, w_CN9, w_CI9, w_MX, w_cont, lget, sto1, sto2, wideV, vo, vo_rv, isR, isR_rv, rv, fget, fput, cats, Value.category, List.headD_cons, List.getD_cons_zero, List.getD_cons_succ, List.drop_succ_cons, List.drop_zero, List.take_succ_cons, List.take_zero, List.reverse_cons, List.reverse_nil, List.nil_append, List.cons_append, List.length_cons, List.length_nil, cond_true, cond_false, and_true, true_and, Nat.zero_add, Nat.add_zero, Nat.reduceAdd, Nat.reduceLT, Nat.reduceLeDiff, Nat.reduceEqDiff, Nat.reduceBEq, Nat.reduceSub, ↓reduceIte, Int32.reduceOfNat, Int64.reduceOfNat, reduceCtorEq, Nat.le_refl, Nat.zero_le, Bool.false_eq_true, beq_self_eq_true, Fin.isValue, Fin.val_zero, Fin.val_one, Fin.reduceFinMk, Fin.val_two, Nat.reduceMod, Bool.or_false, Bool.or_true, Bool.true_or, Bool.false_or, not_true_eq_false, not_false_eq_true, true_or, or_true, implies_true, false_implies, true_implies, Int32.reduceLT, Int32.reduceLE, ↓w_TAB3, ↓w_TAB4, ↓w_TAB5, ↓w_TAB7, ↓w_TAB10, ↓w_LK2, ↓w_LK6, false_and, and_false, i1z, i2z, iz1, im0, im1, l0z, hasK_uI, hasK_uL, hasK_uR, hasK_uZ, hasK_sRow, mR_uI, mR_uL, mR_uZ, mR_sRow, mI_uL, mI_uR, mI_uZ, mL_uI, mL_uR, mL_uZ, mL_sRow, LF.hk hL, layF, LF.r hL, refF, ne_eq, not_false_eq_true, Option.some.injEq, Sum.inl.injEq, Sum.inr.injEq, Prod.mk.injEq, exists_eq_left, exists_eq_left']
  refine m_numOf (s := 2) hL hm ho (by omega) (hb 2 (by omega) rfl) (by decide) rfl ⟨_, rfl, ?_⟩
  by_cases q1 : fKy S (val m 4) m < sN S 39
  rotate_left
  · have hle : fKy S (val m 4) m ≤ sN S 39 := fsn_le
    have e := hnay 25 (by unfold clr; dsimp only; rw [if_pos (by omega)]) M h
    have ef : fdC (fKy S (val m 4) m) (sN S 39) = -1 := if_neg q1
    refine r_X12_clearing (fun n => n == 4 || n == 10 || n == 33 || n == 41 || n == 257 || n == 278) 60 ?_
    simp only [cd_X12_clearing, cf_X12_clearing, wp, wq, wpI, cdF, w_CI, w_CL, w_CN, w_LI, w_LL, w_LA, w_SI, w_SL, w_SA, w_INC, w_II, w_IId, w_LLb, w_LLd, w_LS, w_I1, w_L1, w_I2L, w_L2I, w_CMP, w_DUP, w_POP, w_DUP2, w_IF, w_IC, w_GO, w_NUL, w_ACN, prs, w_GF, w_PF, w_GS, w_IAL, w_LEN, w_LAL, w_ZAL, w_AAL, w_IAS, w_LAS, w_ZAS, w_AAS, w_RI, w_RL, w_RA, w_NEW, w_NA, w_MNA, w_OI, w_THR, w_CV, w_CS, w_CN9, w_CI9, w_MX, w_cont, lget, sto1, sto2, wideV, vo, vo_rv, isR, isR_rv, rv, fget, fput, cats, Value.category, List.headD_cons, List.getD_cons_zero, List.getD_cons_succ, List.drop_succ_cons, List.drop_zero, List.take_succ_cons, List.take_zero, List.reverse_cons, List.reverse_nil, List.nil_append, List.cons_append, List.length_cons, List.length_nil, cond_true, cond_false, and_true, true_and, Nat.zero_add, Nat.add_zero, Nat.reduceAdd, Nat.reduceLT, Nat.reduceLeDiff, Nat.reduceEqDiff, Nat.reduceBEq, Nat.reduceSub, ↓reduceIte, Int32.reduceOfNat, Int64.reduceOfNat, reduceCtorEq, Nat.le_refl, Nat.zero_le, Bool.false_eq_true, beq_self_eq_true, Fin.isValue, Fin.val_zero, Fin.val_one, Fin.reduceFinMk, Fin.val_two, Nat.reduceMod, Bool.or_false, Bool.or_true, Bool.true_or, Bool.false_or, not_true_eq_false, not_false_eq_true, true_or, or_true, implies_true, false_implies, true_implies, Int32.reduceLT, Int32.reduceLE, ↓w_TAB3, ↓w_TAB4, ↓w_TAB5, ↓w_TAB7, ↓w_TAB10, ↓w_LK2, ↓w_LK6, false_and, and_false, i1z, i2z, iz1, im0, im1, l0z, ef]
    exact e
  have ef : fdC (fKy S (val m 4) m) (sN S 39) = nI (fKy S (val m 4) m) := if_pos q1
  have h41 := key_of q1
  have hok := hj.2.2.2.1 _ q1
  have hceq := clr_eq (S := S) (a := val m 4) (m := m) (by omega)
  have hc1 : ∀ q : (qI (sP S (fKy S (val m 4) m)) 47 ≠ 1 ∨ isCd (sP S (fKy S (val m 4) m)) m = false ∨ isAp (sP S (fKy S (val m 4) m)) m = false), clr S (val m 4) m = nay 12 S := fun q => by
    unfold clr; dsimp only; rw [if_neg (by omega), if_pos q]
  have hc2 : ¬ (qI (sP S (fKy S (val m 4) m)) 47 ≠ 1 ∨ isCd (sP S (fKy S (val m 4) m)) m = false ∨ isAp (sP S (fKy S (val m 4) m)) m = false) → (val m 2 = 0 ∨ qL (sP S (fKy S (val m 4) m)) 48 < val m 2) → clr S (val m 4) m = nay 13 S := fun q q' => by
    unfold clr; dsimp only; rw [if_neg (by omega), if_neg q, if_pos q']
  rw [ef]
  generalize fKy S (val m 4) m = k at *
  have h60 : sN S 39 ≤ 60 := by omega
  have ha6 : val m 4 < 6 := by omega
  have hcI := hP k q1
  have t0 := nI_toInt (n := k) (by omega)
  have ck := nI_clamp (n := k) (by omega)
  have hv := vp_in_nI (n := k) (N := 61) (by omega) (by omega)
  have hge : (0 : Int32) ≤ nI k := by rw [i_le, t0]; simp
  generalize hpp : sP S k = p at *
  obtain ⟨⟨b1, b2, b3, b4, b5, b6, b7, b8, b9, b10, b11⟩, c2, c3, c4, c5, c6, c7, c8, c9, c10, c11, c12, c13, c14⟩ := hok
  have t47 := nI_toInt (n := qI p 47) (by omega)
  have p7 := hcI.2.2.2.2.1
  have fH : fL (qL p 48) := by unfold fL; omega
  have fV : fL (val m 2 : Int) := by unfold fL; omega
  have hg44 : ∀ (q : (qI p 47 ≠ 1 ∨ isCd p m = false ∨ isAp p m = false)) (M' : Mem), DN S m mx M0 M' → Go G (MT 261) Q X 44 [some (.ref 495), some (.int (nI k)), some (.long (lI (val m 2 : Int))), none, none, none, none, none, none, none, none, none] [] M' 0 0 := fun q M' d => by
    have e := hnay 12 (hc1 q) M' d
    refine r_X12_clearing (fun n => n == 4 || n == 10 || n == 33 || n == 41 || n == 257 || n == 278) 60 ?_
    simp only [cd_X12_clearing, cf_X12_clearing, wp, wq, wpI, cdF, w_CI, w_CL, w_CN, w_LI, w_LL, w_LA, w_SI, w_SL, w_SA, w_INC, w_II, w_IId, w_LLb, w_LLd, w_LS, w_I1, w_L1, w_I2L, w_L2I, w_CMP, w_DUP, w_POP, w_DUP2, w_IF, w_IC, w_GO, w_NUL, w_ACN, prs, w_GF, w_PF, w_GS, w_IAL, w_LEN, w_LAL, w_ZAL, w_AAL, w_IAS, w_LAS, w_ZAS, w_AAS, w_RI, w_RL, w_RA, w_NEW, w_NA, w_MNA, w_OI, w_THR, w_CV, w_CS, w_CN9, w_CI9, w_MX, w_cont, lget, sto1, sto2, wideV, vo, vo_rv, isR, isR_rv, rv, fget, fput, cats, Value.category, List.headD_cons, List.getD_cons_zero, List.getD_cons_succ, List.drop_succ_cons, List.drop_zero, List.take_succ_cons, List.take_zero, List.reverse_cons, List.reverse_nil, List.nil_append, List.cons_append, List.length_cons, List.length_nil, cond_true, cond_false, and_true, true_and, Nat.zero_add, Nat.add_zero, Nat.reduceAdd, Nat.reduceLT, Nat.reduceLeDiff, Nat.reduceEqDiff, Nat.reduceBEq, Nat.reduceSub, ↓reduceIte, Int32.reduceOfNat, Int64.reduceOfNat, reduceCtorEq, Nat.le_refl, Nat.zero_le, Bool.false_eq_true, beq_self_eq_true, Fin.isValue, Fin.val_zero, Fin.val_one, Fin.reduceFinMk, Fin.val_two, Nat.reduceMod, Bool.or_false, Bool.or_true, Bool.true_or, Bool.false_or, not_true_eq_false, not_false_eq_true, true_or, or_true, implies_true, false_implies, true_implies, Int32.reduceLT, Int32.reduceLE, ↓w_TAB3, ↓w_TAB4, ↓w_TAB5, ↓w_TAB7, ↓w_TAB10, ↓w_LK2, ↓w_LK6, false_and, and_false, i1z, i2z, iz1, im0, im1, l0z]
    exact e
  refine r_X12_clearing (fun n => n == 44 || n == 47 || n == 4 || n == 10 || n == 33 || n == 41 || n == 257 || n == 278) 60 ?_
  simp only [cd_X12_clearing, cf_X12_clearing, wp, wq, wpI, cdF, w_CI, w_CL, w_CN, w_LI, w_LL, w_LA, w_SI, w_SL, w_SA, w_INC, w_II, w_IId, w_LLb, w_LLd, w_LS, w_I1, w_L1, w_I2L, w_L2I, w_CMP, w_DUP, w_POP, w_DUP2, w_IF, w_IC, w_GO, w_NUL, w_ACN, prs, w_GF, w_PF, w_GS, w_IAL, w_LEN, w_LAL, w_ZAL, w_AAL, w_IAS, w_LAS, w_ZAS, w_AAS, w_RI, w_RL, w_RA, w_NEW, w_NA, w_MNA, w_OI, w_THR, w_CV, w_CS, w_CN9, w_CI9, w_MX, w_cont, lget, sto1, sto2, wideV, vo, vo_rv, isR, isR_rv, rv, fget, fput, cats, Value.category, List.headD_cons, List.getD_cons_zero, List.getD_cons_succ, List.drop_succ_cons, List.drop_zero, List.take_succ_cons, List.take_zero, List.reverse_cons, List.reverse_nil, List.nil_append, List.cons_append, List.length_cons, List.length_nil, cond_true, cond_false, and_true, true_and, Nat.zero_add, Nat.add_zero, Nat.reduceAdd, Nat.reduceLT, Nat.reduceLeDiff, Nat.reduceEqDiff, Nat.reduceBEq, Nat.reduceSub, ↓reduceIte, Int32.reduceOfNat, Int64.reduceOfNat, reduceCtorEq, Nat.le_refl, Nat.zero_le, Bool.false_eq_true, beq_self_eq_true, Fin.isValue, Fin.val_zero, Fin.val_one, Fin.reduceFinMk, Fin.val_two, Nat.reduceMod, Bool.or_false, Bool.or_true, Bool.true_or, Bool.false_or, not_true_eq_false, not_false_eq_true, true_or, or_true, implies_true, false_implies, true_implies, Int32.reduceLT, Int32.reduceLE, ↓w_TAB3, ↓w_TAB4, ↓w_TAB5, ↓w_TAB7, ↓w_TAB10, ↓w_LK2, ↓w_LK6, false_and, and_false, i1z, i2z, iz1, im0, im1, l0z, hasK_uI, hasK_uL, hasK_uR, hasK_uZ, hasK_sRow, mR_uI, mR_uL, mR_uZ, mR_sRow, mI_uL, mI_uR, mI_uZ, mL_uI, mL_uR, mL_uZ, mL_sRow, LF.hk hL, layF, LF.r hL, refF, ne_eq, not_false_eq_true, Option.some.injEq, Sum.inl.injEq, Sum.inr.injEq, Prod.mk.injEq, exists_eq_left, exists_eq_left', ck, p7]
  refine and_ii (fun _ => ⟨hv, ?_⟩) (fun q => absurd hge q)
  refine and_ii (fun q2 => hg44 (by (simp only [i_lt, i_le, i_eq, l_lt, l_le, l_eq, Int32.toInt_toInt64, Int32.reduceToInt, Int64.reduceToInt, ne_eq, Classical.not_not] at *; omega)) M h) (fun q2 => ?_)
  have q2 : qI p 47 = 1 := by (simp only [i_lt, i_le, i_eq, l_lt, l_le, l_eq, Int32.toInt_toInt64, Int32.reduceToInt, Int64.reduceToInt, ne_eq, Classical.not_not] at *; omega)
  refine m_isCardP hR hj hm ho (hb 0 (by omega) rfl) q1 rfl ⟨_, rfl, ?_⟩
  rw [hpp]
  by_cases q3 : isCd p m = true
  rotate_left
  · rw [b2i_f q3]
    refine r_X12_clearing (fun n => n == 44 || n == 47 || n == 4 || n == 10 || n == 33 || n == 41 || n == 257 || n == 278) 60 ?_
    simp only [cd_X12_clearing, cf_X12_clearing, wp, wq, wpI, cdF, w_CI, w_CL, w_CN, w_LI, w_LL, w_LA, w_SI, w_SL, w_SA, w_INC, w_II, w_IId, w_LLb, w_LLd, w_LS, w_I1, w_L1, w_I2L, w_L2I, w_CMP, w_DUP, w_POP, w_DUP2, w_IF, w_IC, w_GO, w_NUL, w_ACN, prs, w_GF, w_PF, w_GS, w_IAL, w_LEN, w_LAL, w_ZAL, w_AAL, w_IAS, w_LAS, w_ZAS, w_AAS, w_RI, w_RL, w_RA, w_NEW, w_NA, w_MNA, w_OI, w_THR, w_CV, w_CS, w_CN9, w_CI9, w_MX, w_cont, lget, sto1, sto2, wideV, vo, vo_rv, isR, isR_rv, rv, fget, fput, cats, Value.category, List.headD_cons, List.getD_cons_zero, List.getD_cons_succ, List.drop_succ_cons, List.drop_zero, List.take_succ_cons, List.take_zero, List.reverse_cons, List.reverse_nil, List.nil_append, List.cons_append, List.length_cons, List.length_nil, cond_true, cond_false, and_true, true_and, Nat.zero_add, Nat.add_zero, Nat.reduceAdd, Nat.reduceLT, Nat.reduceLeDiff, Nat.reduceEqDiff, Nat.reduceBEq, Nat.reduceSub, ↓reduceIte, Int32.reduceOfNat, Int64.reduceOfNat, reduceCtorEq, Nat.le_refl, Nat.zero_le, Bool.false_eq_true, beq_self_eq_true, Fin.isValue, Fin.val_zero, Fin.val_one, Fin.reduceFinMk, Fin.val_two, Nat.reduceMod, Bool.or_false, Bool.or_true, Bool.true_or, Bool.false_or, not_true_eq_false, not_false_eq_true, true_or, or_true, implies_true, false_implies, true_implies, Int32.reduceLT, Int32.reduceLE, ↓w_TAB3, ↓w_TAB4, ↓w_TAB5, ↓w_TAB7, ↓w_TAB10, ↓w_LK2, ↓w_LK6, false_and, and_false, i1z, i2z, iz1, im0, im1, l0z]
    exact hg44 (Or.inr (Or.inl (by simpa using q3))) M h
  rw [b2i_t q3]
  refine r_X12_clearing (fun n => n == 44 || n == 47 || n == 4 || n == 10 || n == 33 || n == 41 || n == 257 || n == 278) 60 ?_
  simp only [cd_X12_clearing, cf_X12_clearing, wp, wq, wpI, cdF, w_CI, w_CL, w_CN, w_LI, w_LL, w_LA, w_SI, w_SL, w_SA, w_INC, w_II, w_IId, w_LLb, w_LLd, w_LS, w_I1, w_L1, w_I2L, w_L2I, w_CMP, w_DUP, w_POP, w_DUP2, w_IF, w_IC, w_GO, w_NUL, w_ACN, prs, w_GF, w_PF, w_GS, w_IAL, w_LEN, w_LAL, w_ZAL, w_AAL, w_IAS, w_LAS, w_ZAS, w_AAS, w_RI, w_RL, w_RA, w_NEW, w_NA, w_MNA, w_OI, w_THR, w_CV, w_CS, w_CN9, w_CI9, w_MX, w_cont, lget, sto1, sto2, wideV, vo, vo_rv, isR, isR_rv, rv, fget, fput, cats, Value.category, List.headD_cons, List.getD_cons_zero, List.getD_cons_succ, List.drop_succ_cons, List.drop_zero, List.take_succ_cons, List.take_zero, List.reverse_cons, List.reverse_nil, List.nil_append, List.cons_append, List.length_cons, List.length_nil, cond_true, cond_false, and_true, true_and, Nat.zero_add, Nat.add_zero, Nat.reduceAdd, Nat.reduceLT, Nat.reduceLeDiff, Nat.reduceEqDiff, Nat.reduceBEq, Nat.reduceSub, ↓reduceIte, Int32.reduceOfNat, Int64.reduceOfNat, reduceCtorEq, Nat.le_refl, Nat.zero_le, Bool.false_eq_true, beq_self_eq_true, Fin.isValue, Fin.val_zero, Fin.val_one, Fin.reduceFinMk, Fin.val_two, Nat.reduceMod, Bool.or_false, Bool.or_true, Bool.true_or, Bool.false_or, not_true_eq_false, not_false_eq_true, true_or, or_true, implies_true, false_implies, true_implies, Int32.reduceLT, Int32.reduceLE, ↓w_TAB3, ↓w_TAB4, ↓w_TAB5, ↓w_TAB7, ↓w_TAB10, ↓w_LK2, ↓w_LK6, false_and, and_false, i1z, i2z, iz1, im0, im1, l0z, hasK_uI, hasK_uL, hasK_uR, hasK_uZ, hasK_sRow, mR_uI, mR_uL, mR_uZ, mR_sRow, mI_uL, mI_uR, mI_uZ, mL_uI, mL_uR, mL_uZ, mL_sRow, LF.hk hL, layF, LF.r hL, refF, ne_eq, not_false_eq_true, Option.some.injEq, Sum.inl.injEq, Sum.inr.injEq, Prod.mk.injEq, exists_eq_left, exists_eq_left', i1z]
  refine m_isAppr h hj ho (hb 6 (by omega) rfl) q1 rfl (fun M1 d1 => ⟨_, rfl, ?_⟩)
  rw [hpp]
  by_cases q4 : isAp p m = true
  rotate_left
  · rw [b2i_f q4]
    refine r_X12_clearing (fun n => n == 44 || n == 47 || n == 4 || n == 10 || n == 33 || n == 41 || n == 257 || n == 278) 60 ?_
    simp only [cd_X12_clearing, cf_X12_clearing, wp, wq, wpI, cdF, w_CI, w_CL, w_CN, w_LI, w_LL, w_LA, w_SI, w_SL, w_SA, w_INC, w_II, w_IId, w_LLb, w_LLd, w_LS, w_I1, w_L1, w_I2L, w_L2I, w_CMP, w_DUP, w_POP, w_DUP2, w_IF, w_IC, w_GO, w_NUL, w_ACN, prs, w_GF, w_PF, w_GS, w_IAL, w_LEN, w_LAL, w_ZAL, w_AAL, w_IAS, w_LAS, w_ZAS, w_AAS, w_RI, w_RL, w_RA, w_NEW, w_NA, w_MNA, w_OI, w_THR, w_CV, w_CS, w_CN9, w_CI9, w_MX, w_cont, lget, sto1, sto2, wideV, vo, vo_rv, isR, isR_rv, rv, fget, fput, cats, Value.category, List.headD_cons, List.getD_cons_zero, List.getD_cons_succ, List.drop_succ_cons, List.drop_zero, List.take_succ_cons, List.take_zero, List.reverse_cons, List.reverse_nil, List.nil_append, List.cons_append, List.length_cons, List.length_nil, cond_true, cond_false, and_true, true_and, Nat.zero_add, Nat.add_zero, Nat.reduceAdd, Nat.reduceLT, Nat.reduceLeDiff, Nat.reduceEqDiff, Nat.reduceBEq, Nat.reduceSub, ↓reduceIte, Int32.reduceOfNat, Int64.reduceOfNat, reduceCtorEq, Nat.le_refl, Nat.zero_le, Bool.false_eq_true, beq_self_eq_true, Fin.isValue, Fin.val_zero, Fin.val_one, Fin.reduceFinMk, Fin.val_two, Nat.reduceMod, Bool.or_false, Bool.or_true, Bool.true_or, Bool.false_or, not_true_eq_false, not_false_eq_true, true_or, or_true, implies_true, false_implies, true_implies, Int32.reduceLT, Int32.reduceLE, ↓w_TAB3, ↓w_TAB4, ↓w_TAB5, ↓w_TAB7, ↓w_TAB10, ↓w_LK2, ↓w_LK6, false_and, and_false, i1z, i2z, iz1, im0, im1, l0z]
    exact hg44 (Or.inr (Or.inr (by simpa using q4))) M1 d1
  rw [b2i_t q4]
  have hno : ¬ (qI p 47 ≠ 1 ∨ isCd p m = false ∨ isAp p m = false) := by
    rintro (e | e | e)
    · exact e q2
    · rw [q3] at e; cases e
    · rw [q4] at e; cases e
  have hc2 := hc2 hno
  have hceq := hceq hno
  have l2 : (lI (val m 2 : Int) = 0) ↔ val m 2 = 0 := by rw [show (0 : Int64) = lI 0 from rfl, lI_eq (by unfold fL; omega) (by unfold fL; omega)]; omega
  have hg64 : ∀ q : (val m 2 = 0 ∨ qL p 48 < val m 2), Go G (MT 261) Q X 64 [some (.ref 495), some (.int (nI k)), some (.long (lI (val m 2 : Int))), none, none, none, none, none, none, none, none, none] [] M1 0 0 := fun q => by
    have e := hnay 13 (hc2 q) M1 d1
    refine r_X12_clearing (fun n => n == 4 || n == 10 || n == 33 || n == 41 || n == 257 || n == 278) 60 ?_
    simp only [cd_X12_clearing, cf_X12_clearing, wp, wq, wpI, cdF, w_CI, w_CL, w_CN, w_LI, w_LL, w_LA, w_SI, w_SL, w_SA, w_INC, w_II, w_IId, w_LLb, w_LLd, w_LS, w_I1, w_L1, w_I2L, w_L2I, w_CMP, w_DUP, w_POP, w_DUP2, w_IF, w_IC, w_GO, w_NUL, w_ACN, prs, w_GF, w_PF, w_GS, w_IAL, w_LEN, w_LAL, w_ZAL, w_AAL, w_IAS, w_LAS, w_ZAS, w_AAS, w_RI, w_RL, w_RA, w_NEW, w_NA, w_MNA, w_OI, w_THR, w_CV, w_CS, w_CN9, w_CI9, w_MX, w_cont, lget, sto1, sto2, wideV, vo, vo_rv, isR, isR_rv, rv, fget, fput, cats, Value.category, List.headD_cons, List.getD_cons_zero, List.getD_cons_succ, List.drop_succ_cons, List.drop_zero, List.take_succ_cons, List.take_zero, List.reverse_cons, List.reverse_nil, List.nil_append, List.cons_append, List.length_cons, List.length_nil, cond_true, cond_false, and_true, true_and, Nat.zero_add, Nat.add_zero, Nat.reduceAdd, Nat.reduceLT, Nat.reduceLeDiff, Nat.reduceEqDiff, Nat.reduceBEq, Nat.reduceSub, ↓reduceIte, Int32.reduceOfNat, Int64.reduceOfNat, reduceCtorEq, Nat.le_refl, Nat.zero_le, Bool.false_eq_true, beq_self_eq_true, Fin.isValue, Fin.val_zero, Fin.val_one, Fin.reduceFinMk, Fin.val_two, Nat.reduceMod, Bool.or_false, Bool.or_true, Bool.true_or, Bool.false_or, not_true_eq_false, not_false_eq_true, true_or, or_true, implies_true, false_implies, true_implies, Int32.reduceLT, Int32.reduceLE, ↓w_TAB3, ↓w_TAB4, ↓w_TAB5, ↓w_TAB7, ↓w_TAB10, ↓w_LK2, ↓w_LK6, false_and, and_false, i1z, i2z, iz1, im0, im1, l0z]
    exact e
  have rn := RN_of (p := p) d1.1 q1 h60 hpp
  have hL1 := d1.1.1
  have p8 : mL M1 524 k = lI (qL p 48) := rn.pm.2.2.2.2.2.2.2.2.2.1
  refine r_X12_clearing (fun n => n == 47 || n == 4 || n == 10 || n == 33 || n == 41 || n == 257 || n == 278) 60 ?_
  simp only [cd_X12_clearing, cf_X12_clearing, wp, wq, wpI, cdF, w_CI, w_CL, w_CN, w_LI, w_LL, w_LA, w_SI, w_SL, w_SA, w_INC, w_II, w_IId, w_LLb, w_LLd, w_LS, w_I1, w_L1, w_I2L, w_L2I, w_CMP, w_DUP, w_POP, w_DUP2, w_IF, w_IC, w_GO, w_NUL, w_ACN, prs, w_GF, w_PF, w_GS, w_IAL, w_LEN, w_LAL, w_ZAL, w_AAL, w_IAS, w_LAS, w_ZAS, w_AAS, w_RI, w_RL, w_RA, w_NEW, w_NA, w_MNA, w_OI, w_THR, w_CV, w_CS, w_CN9, w_CI9, w_MX, w_cont, lget, sto1, sto2, wideV, vo, vo_rv, isR, isR_rv, rv, fget, fput, cats, Value.category, List.headD_cons, List.getD_cons_zero, List.getD_cons_succ, List.drop_succ_cons, List.drop_zero, List.take_succ_cons, List.take_zero, List.reverse_cons, List.reverse_nil, List.nil_append, List.cons_append, List.length_cons, List.length_nil, cond_true, cond_false, and_true, true_and, Nat.zero_add, Nat.add_zero, Nat.reduceAdd, Nat.reduceLT, Nat.reduceLeDiff, Nat.reduceEqDiff, Nat.reduceBEq, Nat.reduceSub, ↓reduceIte, Int32.reduceOfNat, Int64.reduceOfNat, reduceCtorEq, Nat.le_refl, Nat.zero_le, Bool.false_eq_true, beq_self_eq_true, Fin.isValue, Fin.val_zero, Fin.val_one, Fin.reduceFinMk, Fin.val_two, Nat.reduceMod, Bool.or_false, Bool.or_true, Bool.true_or, Bool.false_or, not_true_eq_false, not_false_eq_true, true_or, or_true, implies_true, false_implies, true_implies, Int32.reduceLT, Int32.reduceLE, ↓w_TAB3, ↓w_TAB4, ↓w_TAB5, ↓w_TAB7, ↓w_TAB10, ↓w_LK2, ↓w_LK6, false_and, and_false, i1z, i2z, iz1, im0, im1, l0z, i1z]
  refine r_X12_clearing (fun n => n == 64 || n == 67 || n == 4 || n == 10 || n == 33 || n == 41 || n == 257 || n == 278) 60 ?_
  simp only [cd_X12_clearing, cf_X12_clearing, wp, wq, wpI, cdF, w_CI, w_CL, w_CN, w_LI, w_LL, w_LA, w_SI, w_SL, w_SA, w_INC, w_II, w_IId, w_LLb, w_LLd, w_LS, w_I1, w_L1, w_I2L, w_L2I, w_CMP, w_DUP, w_POP, w_DUP2, w_IF, w_IC, w_GO, w_NUL, w_ACN, prs, w_GF, w_PF, w_GS, w_IAL, w_LEN, w_LAL, w_ZAL, w_AAL, w_IAS, w_LAS, w_ZAS, w_AAS, w_RI, w_RL, w_RA, w_NEW, w_NA, w_MNA, w_OI, w_THR, w_CV, w_CS, w_CN9, w_CI9, w_MX, w_cont, lget, sto1, sto2, wideV, vo, vo_rv, isR, isR_rv, rv, fget, fput, cats, Value.category, List.headD_cons, List.getD_cons_zero, List.getD_cons_succ, List.drop_succ_cons, List.drop_zero, List.take_succ_cons, List.take_zero, List.reverse_cons, List.reverse_nil, List.nil_append, List.cons_append, List.length_cons, List.length_nil, cond_true, cond_false, and_true, true_and, Nat.zero_add, Nat.add_zero, Nat.reduceAdd, Nat.reduceLT, Nat.reduceLeDiff, Nat.reduceEqDiff, Nat.reduceBEq, Nat.reduceSub, ↓reduceIte, Int32.reduceOfNat, Int64.reduceOfNat, reduceCtorEq, Nat.le_refl, Nat.zero_le, Bool.false_eq_true, beq_self_eq_true, Fin.isValue, Fin.val_zero, Fin.val_one, Fin.reduceFinMk, Fin.val_two, Nat.reduceMod, Bool.or_false, Bool.or_true, Bool.true_or, Bool.false_or, not_true_eq_false, not_false_eq_true, true_or, or_true, implies_true, false_implies, true_implies, Int32.reduceLT, Int32.reduceLE, ↓w_TAB3, ↓w_TAB4, ↓w_TAB5, ↓w_TAB7, ↓w_TAB10, ↓w_LK2, ↓w_LK6, false_and, and_false, i1z, i2z, iz1, im0, im1, l0z, hasK_uI, hasK_uL, hasK_uR, hasK_uZ, hasK_sRow, mR_uI, mR_uL, mR_uZ, mR_sRow, mI_uL, mI_uR, mI_uZ, mL_uI, mL_uR, mL_uZ, mL_sRow, LF.hg hL1, layF, LF.r hL1, refF, ne_eq, not_false_eq_true, Option.some.injEq, Sum.inl.injEq, Sum.inr.injEq, Prod.mk.injEq, exists_eq_left, exists_eq_left', cmp_eq, cmp_le, p8, ck]
  refine and_ii (fun q5 => hg64 (Or.inl (l2.mp q5))) (fun q5 => ⟨hv, and_ii (fun q6 => ?_) (fun q6 => hg64 (Or.inr (by rw [lI_le fV fH] at q6; omega)))⟩)
  have q6 : (val m 2 : Int) ≤ qL p 48 := by rw [lI_le fV fH] at q6; exact q6
  have q5 : val m 2 ≠ 0 := fun e => q5 (l2.mpr e)
  rw [hceq (by omega)] at hQ
  dsimp only at hQ
  unfold clrS shr3 at hQ
  dsimp only at hQ
  rw [hpp] at hQ
  have p9 : mL M1 525 k = lI (qL p 49) := rn.pm.2.2.2.2.2.2.2.2.2.2.1
  have p45 : mI M1 521 k = nI (qI p 45) - 1 := rn.pm.2.2.2.2.2.2.2.2.2.2.2.2.1
  have p41 : mI M1 517 k = nI (val m 4) := by rw [← h41]; exact rn.pm.2.1
  have c45 := (c4 q2).1
  have e45 : nI (qI p 45) - 1 = nI (qI p 45 - 1) := nI_sub (b := 1) (by omega) (by omega)
  rw [e45] at p45
  generalize hacc : qI p 45 - 1 = acc at *
  have hac : acc < 64 := by omega
  have hi6 : sI S 507 acc < 6 := by have := hj.2.1.2.2.2.1 acc (by omega); omega
  have hjI := hj.2.1.1
  have ea := nI_clamp (n := acc) (by omega)
  have ca := nI_clamp (n := val m 4) (by omega)
  have o507 : mI M1 507 acc = nI (sI S 507 acc) := d1.1.2.2.1.2.2.2.1 acc hac
  have o509 : mL M1 509 acc = lI (sL S 509 acc) := (d1.1.2.2.2.1.2.2 acc hac).2
  have hI1 := d1.1.2.2.1
  have hL1l := d1.1.2.2.2.1
  have fV0 : (0 : Int) ≤ (val m 2 : Int) ∧ (val m 2 : Int) ≤ 999999999999 := by omega
  generalize hii : sI S 507 acc = i at *
  have ci := nI_clamp (n := 6 + i) (by omega)
  have e6 : (6 : Int32) + nI i = nI (6 + i) := nI_add 6 i
  have o1 := hI1.1 (6 + i) (by omega)
  have o2 := hI1.1 (val m 4) (by omega)
  have j1 := hjI (6 + i) (by omega)
  have j2 := hjI (val m 4) (by omega)
  have n1 := (hL1l.1 (val m 4) (by omega)).1
  have n2 := (hL1l.1 (6 + i) (by omega)).1
  have n3 := (hL1l.1 12 (by omega)).1
  have n4 := hI1.2.1 (val m 4) ha6
  have n5 := hL1l.2.1 (val m 4) ha6
  have hcn := hj.2.1.2.1 (val m 4) ha6
  have va := vp_in_nI (n := val m 4) (N := 6) ha6 (by omega)
  have va12 := vp_in_nI (n := val m 4) (N := 12) (by omega) (by omega)
  have va13 := vp_in_nI (n := val m 4) (N := 13) (by omega) (by omega)
  have vi12 := vp_in_nI (n := 6 + i) (N := 12) (by omega) (by omega)
  have vi13 := vp_in_nI (n := 6 + i) (N := 13) (by omega) (by omega)
  have v12 : vp_in (12 : Int32) 13 := vp_in_i (by simp)
  have vac := vp_in_nI (n := acc) (N := 64) hac (by omega)
  have c12 : (12 : Int32).toNatClampNeg = 12 := rfl
  have eam : ((val m 2 : Nat) : Int) = ((val m 2 : Nat) : Int) := rfl
  generalize hsh : sI S 499 (6 + i) = sh at *
  generalize hfe : sI S 499 (val m 4) = fe at *
  have e0 : nI sh + nI fe = nI (sh + fe) := nI_add _ _
  have e1 := nI_lI (n := sh + fe) (by omega)
  have e2 := nI_lI (n := sh) (by omega)
  have l0 : ((10000 : Int64) = 0) = False := eq_false (by decide)
  have b1 : 0 ≤ (val m 2 : Int) * ((sh : Int) + fe) ∧ (val m 2 : Int) * ((sh : Int) + fe) ≤ 999999999999 * 2000 := ⟨Int.mul_nonneg fV0.1 (by omega), Int.le_trans (Int.mul_le_mul_of_nonneg_right fV0.2 (by omega)) (Int.mul_le_mul_of_nonneg_left (by omega) (by omega))⟩
  have b2 : 0 ≤ (val m 2 : Int) * (sh : Int) ∧ (val m 2 : Int) * (sh : Int) ≤ 999999999999 * 1000 := ⟨Int.mul_nonneg fV0.1 (by omega), Int.le_trans (Int.mul_le_mul_of_nonneg_right fV0.2 (by omega)) (Int.mul_le_mul_of_nonneg_left (by omega) (by omega))⟩
  have ew : lI (val m 2 : Int) * lI ((sh + fe : Nat) : Int) = lI ((val m 2 : Int) * ((sh : Int) + fe)) := by rw [show ((sh + fe : Nat) : Int) = (sh : Int) + fe by omega, lI_mul]
  have ei : lI (val m 2 : Int) * lI (sh : Int) / 10000 = lI ((val m 2 : Int) * sh / 10000) := by
    rw [lI_mul, show (10000 : Int64) = lI 10000 from rfl]
    exact lI_div (by omega) (by unfold fL; omega) (by omega) (by unfold fL; omega)
  generalize hW : (val m 2 : Int) * ((sh : Int) + fe) = W at *
  have ed : lI W / 10000 = lI (W / 10000) := lI_div (y := 10000) (by omega) (by unfold fL; omega) (by omega) (by unfold fL; omega)
  have er : lI W - lI (W / 10000) * 10000 = lI (W % 10000) := by rw [← ed]; exact lI_rem (y := 10000) (by omega) (by unfold fL; omega) (by omega) (by unfold fL; omega)
  have tl : (lI (W % 10000) ≤ 0) ↔ W % 10000 ≤ 0 := by rw [show (0 : Int64) = lI 0 from rfl, lI_le (by unfold fL; omega) (by unfold fL; omega)]
  generalize hsr : (val m 2 : Int) * (sh : Int) / 10000 = it at *
  have o48 : lI (qL p 48) - lI (val m 2 : Int) = lI (qL p 48 - val m 2) := lI_sub _ _
  have o49 : lI (qL p 49) + lI (val m 2 : Int) = lI (qL p 49 + val m 2) := lI_add _ _
  have r1 := RN_L48 (x := qL p 48 - val m 2) (z := lI (qL p 48 - val m 2)) rn rfl
  have r2 := RN_L49 (x := qL p 49 + val m 2) (z := lI (qL p 49 + val m 2)) r1 rfl
  have r3 := RN_set (b := 509) (a := acc) (x := sL S 509 acc - val m 2) (z := lI (sL S 509 acc - val m 2)) r2 (by omega) rfl
  have i3 := loS_uL (j := acc) (u := lI (sL S 509 acc - val m 2)) (a := 509) (loS_uL (j := k) (u := lI (qL p 49 + val m 2)) (a := 525) (loS_uL (j := k) (u := lI (qL p 48 - val m 2)) (a := 524) d1.2.2.2.1 (by omega)) (by omega)) (by omega)
  have k3 : kpN M1 (uL (uL (uL M1 524 k (lI (qL p 48 - val m 2))) 525 k (lI (qL p 49 + val m 2))) 509 acc (lI (sL S 509 acc - val m 2))) := kpN_L (kpN_L (kpN_L kpN_0))
  have x9 : mL (uL M1 524 k (lI (qL p 48 - val m 2))) 525 k = lI (qL p 49) := by rw [mL_ne (by omega)]; exact p9
  have x5 : mL (uL (uL M1 524 k (lI (qL p 48 - val m 2))) 525 k (lI (qL p 49 + val m 2))) 509 acc = lI (sL S 509 acc) := by rw [mL_ne (by omega), mL_ne (by omega)]; exact o509
  have eb : lI (sL S 509 acc) - lI (val m 2 : Int) = lI (sL S 509 acc - val m 2) := lI_sub _ _
  have n1 : mL (uL (uL (uL M1 524 k (lI (qL p 48 - val m 2))) 525 k (lI (qL p 49 + val m 2))) 509 acc (lI (sL S 509 acc - val m 2))) 500 (val m 4) = lI (sL S 500 (val m 4)) := by rw [mL_ne (by omega), mL_ne (by omega), mL_ne (by omega)]; exact n1
  have n2 : mL (uL (uL (uL M1 524 k (lI (qL p 48 - val m 2))) 525 k (lI (qL p 49 + val m 2))) 509 acc (lI (sL S 509 acc - val m 2))) 500 (6 + i) = lI (sL S 500 (6 + i)) := by rw [mL_ne (by omega), mL_ne (by omega), mL_ne (by omega)]; exact n2
  have n3 : mL (uL (uL (uL M1 524 k (lI (qL p 48 - val m 2))) 525 k (lI (qL p 49 + val m 2))) 509 acc (lI (sL S 509 acc - val m 2))) 500 12 = lI (sL S 500 12) := by rw [mL_ne (by omega), mL_ne (by omega), mL_ne (by omega)]; exact n3
  have n5 : mL (uL (uL (uL M1 524 k (lI (qL p 48 - val m 2))) 525 k (lI (qL p 49 + val m 2))) 509 acc (lI (sL S 509 acc - val m 2))) 503 (val m 4) = lI (sL S 503 (val m 4)) := by rw [mL_ne (by omega), mL_ne (by omega), mL_ne (by omega)]; exact n5
  refine r_X12_clearing (fun n => n == 168 || n == 4 || n == 10 || n == 33 || n == 41 || n == 257 || n == 278) 80 ?_
  simp only [cd_X12_clearing, cf_X12_clearing, wp, wq, wpI, cdF, w_CI, w_CL, w_CN, w_LI, w_LL, w_LA, w_SI, w_SL, w_SA, w_INC, w_II, w_IId, w_LLb, w_LLd, w_LS, w_I1, w_L1, w_I2L, w_L2I, w_CMP, w_DUP, w_POP, w_DUP2, w_IF, w_IC, w_GO, w_NUL, w_ACN, prs, w_GF, w_PF, w_GS, w_IAL, w_LEN, w_LAL, w_ZAL, w_AAL, w_IAS, w_LAS, w_ZAS, w_AAS, w_RI, w_RL, w_RA, w_NEW, w_NA, w_MNA, w_OI, w_THR, w_CV, w_CS, w_CN9, w_CI9, w_MX, w_cont, lget, sto1, sto2, wideV, vo, vo_rv, isR, isR_rv, rv, fget, fput, cats, Value.category, List.headD_cons, List.getD_cons_zero, List.getD_cons_succ, List.drop_succ_cons, List.drop_zero, List.take_succ_cons, List.take_zero, List.reverse_cons, List.reverse_nil, List.nil_append, List.cons_append, List.length_cons, List.length_nil, cond_true, cond_false, and_true, true_and, Nat.zero_add, Nat.add_zero, Nat.reduceAdd, Nat.reduceLT, Nat.reduceLeDiff, Nat.reduceEqDiff, Nat.reduceBEq, Nat.reduceSub, ↓reduceIte, Int32.reduceOfNat, Int64.reduceOfNat, reduceCtorEq, Nat.le_refl, Nat.zero_le, Bool.false_eq_true, beq_self_eq_true, Fin.isValue, Fin.val_zero, Fin.val_one, Fin.reduceFinMk, Fin.val_two, Nat.reduceMod, Bool.or_false, Bool.or_true, Bool.true_or, Bool.false_or, not_true_eq_false, not_false_eq_true, true_or, or_true, implies_true, false_implies, true_implies, Int32.reduceLT, Int32.reduceLE, ↓w_TAB3, ↓w_TAB4, ↓w_TAB5, ↓w_TAB7, ↓w_TAB10, ↓w_LK2, ↓w_LK6, false_and, and_false, i1z, i2z, iz1, im0, im1, l0z, hasK_uI, hasK_uL, hasK_uR, hasK_uZ, hasK_sRow, mR_uI, mR_uL, mR_uZ, mR_sRow, mI_uL, mI_uR, mI_uZ, mL_uI, mL_uR, mL_uZ, mL_sRow, LF.hg hL1, layF, LF.r hL1, refF, ne_eq, not_false_eq_true, Option.some.injEq, Sum.inl.injEq, Sum.inr.injEq, Prod.mk.injEq, exists_eq_left, exists_eq_left', ck, p8, o48, x9, o49, p45, ea, x5, eb, p41, o507, e6, o1, o2, ci, ca, e0, e1, ew, l0, ed, er, cmp_le]
  have n4 : mI (uL (uL (uL M1 524 k (lI (qL p 48 - val m 2))) 525 k (lI (qL p 49 + val m 2))) 509 acc (lI (sL S 509 acc - val m 2))) 502 (val m 4) = nI (sI S 502 (val m 4)) := n4
  have o1 : mI (uL (uL (uL M1 524 k (lI (qL p 48 - val m 2))) 525 k (lI (qL p 49 + val m 2))) 509 acc (lI (sL S 509 acc - val m 2))) 499 (6 + i) = nI sh := o1
  have hrest : ∀ co c1 : Int, co = W / 10000 + c1 → co = (W + 9999) / 10000 → Go G (MT 261) Q X 168 [some (.ref 495), some (.int (nI k)), some (.long (lI (val m 2 : Int))), none, some (.int (nI (val m 4))), some (.int (nI (6 + i))), some (.long (lI W)), none, none, none, none, none] [.long (lI c1), .long (lI (W / 10000))] (uL (uL (uL M1 524 k (lI (qL p 48 - val m 2))) 525 k (lI (qL p 49 + val m 2))) 509 acc (lI (sL S 509 acc - val m 2))) 0 0 := fun co c1 hc1 hc2 => by
    generalize uL (uL (uL M1 524 k (lI (qL p 48 - val m 2))) 525 k (lI (qL p 49 + val m 2))) 509 acc (lI (sL S 509 acc - val m 2)) = M3 at *
    rw [← hc2] at hQ
    have eco : lI (W / 10000) + lI c1 = lI co := by rw [lI_add, hc1]
    have hL3 := r3.L
    have r4 := RN_set (b := 500) (a := val m 4) (x := sL S 500 (val m 4) + (val m 2 - co)) (z := lI (sL S 500 (val m 4) + (val m 2 - co))) r3 (by omega) rfl
    have r5 := RN_set (b := 500) (a := 6 + i) (x := sL S 500 (6 + i) + (it - val m 2)) (z := lI (sL S 500 (6 + i) + (it - val m 2))) r4 (by omega) rfl
    have r6 := RN_set (b := 500) (a := 12) (x := sL S 500 12 + (co - it)) (z := lI (sL S 500 12 + (co - it))) r5 (by omega) rfl
    have r7 := RN_502 (a := val m 4) (v := sI S 502 (val m 4) + 1) (y := nI (sI S 502 (val m 4) + 1)) r6 rfl
    have r8 := RN_set (b := 503) (a := val m 4) (x := sL S 503 (val m 4) + val m 2) (z := lI (sL S 503 (val m 4) + val m 2)) r7 (by omega) rfl
    have y2 : mL (uL M3 500 (val m 4) (lI (sL S 500 (val m 4) + (val m 2 - co)))) 500 (6 + i) = lI (sL S 500 (6 + i)) := by rw [mL_ne (by omega)]; exact n2
    have y3 : mL (uL (uL M3 500 (val m 4) (lI (sL S 500 (val m 4) + (val m 2 - co)))) 500 (6 + i) (lI (sL S 500 (6 + i) + (it - val m 2)))) 500 12 = lI (sL S 500 12) := by rw [mL_ne (by omega), mL_ne (by omega)]; exact n3
    have y5 : mL (uL (uL (uL M3 500 (val m 4) (lI (sL S 500 (val m 4) + (val m 2 - co)))) 500 (6 + i) (lI (sL S 500 (6 + i) + (it - val m 2)))) 500 12 (lI (sL S 500 12 + (co - it)))) 503 (val m 4) = lI (sL S 503 (val m 4)) := by rw [mL_ne (by omega), mL_ne (by omega), mL_ne (by omega)]; exact n5
    have i8 := loS_uL (a := 503) (j := val m 4) (u := lI (sL S 503 (val m 4) + val m 2)) (loS_uI (a := 502) (j := val m 4) (v := nI (sI S 502 (val m 4) + 1)) (loS_uL (a := 500) (j := 12) (u := lI (sL S 500 12 + (co - it))) (loS_uL (a := 500) (j := 6 + i) (u := lI (sL S 500 (6 + i) + (it - val m 2))) (loS_uL (a := 500) (j := val m 4) (u := lI (sL S 500 (val m 4) + (val m 2 - co))) i3 (by omega)) (by omega)) (by omega)) (by omega)) (by omega)
    have k8 : kpN M1 (uL (uI (uL (uL (uL M3 500 (val m 4) (lI (sL S 500 (val m 4) + (val m 2 - co)))) 500 (6 + i) (lI (sL S 500 (6 + i) + (it - val m 2)))) 500 12 (lI (sL S 500 12 + (co - it)))) 502 (val m 4) (nI (sI S 502 (val m 4) + 1))) 503 (val m 4) (lI (sL S 503 (val m 4) + val m 2))) := kpN_L (kpN_I (kpN_L (kpN_L (kpN_L k3))) (by omega))
    refine r_X12_clearing (fun n => n == 4 || n == 10 || n == 33 || n == 41 || n == 257 || n == 278) 80 ?_
    simp only [cd_X12_clearing, cf_X12_clearing, wp, wq, wpI, cdF, w_CI, w_CL, w_CN, w_LI, w_LL, w_LA, w_SI, w_SL, w_SA, w_INC, w_II, w_IId, w_LLb, w_LLd, w_LS, w_I1, w_L1, w_I2L, w_L2I, w_CMP, w_DUP, w_POP, w_DUP2, w_IF, w_IC, w_GO, w_NUL, w_ACN, prs, w_GF, w_PF, w_GS, w_IAL, w_LEN, w_LAL, w_ZAL, w_AAL, w_IAS, w_LAS, w_ZAS, w_AAS, w_RI, w_RL, w_RA, w_NEW, w_NA, w_MNA, w_OI, w_THR, w_CV, w_CS, w_CN9, w_CI9, w_MX, w_cont, lget, sto1, sto2, wideV, vo, vo_rv, isR, isR_rv, rv, fget, fput, cats, Value.category, List.headD_cons, List.getD_cons_zero, List.getD_cons_succ, List.drop_succ_cons, List.drop_zero, List.take_succ_cons, List.take_zero, List.reverse_cons, List.reverse_nil, List.nil_append, List.cons_append, List.length_cons, List.length_nil, cond_true, cond_false, and_true, true_and, Nat.zero_add, Nat.add_zero, Nat.reduceAdd, Nat.reduceLT, Nat.reduceLeDiff, Nat.reduceEqDiff, Nat.reduceBEq, Nat.reduceSub, ↓reduceIte, Int32.reduceOfNat, Int64.reduceOfNat, reduceCtorEq, Nat.le_refl, Nat.zero_le, Bool.false_eq_true, beq_self_eq_true, Fin.isValue, Fin.val_zero, Fin.val_one, Fin.reduceFinMk, Fin.val_two, Nat.reduceMod, Bool.or_false, Bool.or_true, Bool.true_or, Bool.false_or, not_true_eq_false, not_false_eq_true, true_or, or_true, implies_true, false_implies, true_implies, Int32.reduceLT, Int32.reduceLE, ↓w_TAB3, ↓w_TAB4, ↓w_TAB5, ↓w_TAB7, ↓w_TAB10, ↓w_LK2, ↓w_LK6, false_and, and_false, i1z, i2z, iz1, im0, im1, l0z, hasK_uI, hasK_uL, hasK_uR, hasK_uZ, hasK_sRow, mR_uI, mR_uL, mR_uZ, mR_sRow, mI_uL, mI_uR, mI_uZ, mL_uI, mL_uR, mL_uZ, mL_sRow, LF.hg hL3, layF, LF.r hL3, refF, ne_eq, not_false_eq_true, Option.some.injEq, Sum.inl.injEq, Sum.inr.injEq, Prod.mk.injEq, exists_eq_left, exists_eq_left', eco, o1, ci, e2, l0, ei, n1, ca, c12, y2, y3, lI_sub, lI_add, n4, nI_1, y5]
    refine ⟨vi13, va13, va13, vi13, vi13, v12, v12, va, va, va, va, ?_⟩
    generalize uL (uI (uL (uL (uL M3 500 (val m 4) (lI (sL S 500 (val m 4) + (val m 2 - co)))) 500 (6 + i) (lI (sL S 500 (6 + i) + (it - val m 2)))) 500 12 (lI (sL S 500 12 + (co - it)))) 502 (val m 4) (nI (sI S 502 (val m 4) + 1))) 503 (val m 4) (lI (sL S 503 (val m 4) + val m 2)) = M8 at *
    have hL8 := r8.L
    have m8 : msgM M8 67 542 541 m := (DN_kp d1 r8.1 k8 i8).2.1
    have g48 : mL M8 524 k = lI (qL p 48 - val m 2) := r8.pm.2.2.2.2.2.2.2.2.2.1
    have h1q : (lI (val m 1 : Int) = 1) ↔ val m 1 = 1 := by rw [show (1 : Int64) = lI 1 from rfl, lI_eq (by unfold fL; omega) (by unfold fL; omega)]; omega
    have hz0 : (lI (qL p 48 - val m 2) = 0) ↔ qL p 48 - val m 2 = 0 := by rw [show (0 : Int64) = lI 0 from rfl, lI_eq (by unfold fL; omega) (by unfold fL; omega)]
    refine m_numOf (s := 1) hL8 m8 ho (by omega) (hb 1 (by omega) rfl) (by decide) rfl ⟨_, rfl, ?_⟩
    have hfin : (decide (val m 1 = 1) = false ∨ qL (pLu (pLu p 48 (qL p 48 - val m 2)) 49 (qL p 49 + val m 2)) 48 = 0) → Go G (MT 261) Q X 273 [some (.ref 495), some (.int (nI k)), some (.long (lI (val m 2 : Int))), none, some (.int (nI (val m 4))), some (.int (nI (6 + i))), some (.long (lI W)), none, some (.long (lI co)), none, some (.long (lI it)), none] [] M8 0 0 := fun hmo => by
      rw [if_pos hmo] at hQ
      refine r_X12_clearing (fun n => n == 4 || n == 10 || n == 33 || n == 41 || n == 257 || n == 278) 60 ?_
      simp only [cd_X12_clearing, cf_X12_clearing, wp, wq, wpI, cdF, w_CI, w_CL, w_CN, w_LI, w_LL, w_LA, w_SI, w_SL, w_SA, w_INC, w_II, w_IId, w_LLb, w_LLd, w_LS, w_I1, w_L1, w_I2L, w_L2I, w_CMP, w_DUP, w_POP, w_DUP2, w_IF, w_IC, w_GO, w_NUL, w_ACN, prs, w_GF, w_PF, w_GS, w_IAL, w_LEN, w_LAL, w_ZAL, w_AAL, w_IAS, w_LAS, w_ZAS, w_AAS, w_RI, w_RL, w_RA, w_NEW, w_NA, w_MNA, w_OI, w_THR, w_CV, w_CS, w_CN9, w_CI9, w_MX, w_cont, lget, sto1, sto2, wideV, vo, vo_rv, isR, isR_rv, rv, fget, fput, cats, Value.category, List.headD_cons, List.getD_cons_zero, List.getD_cons_succ, List.drop_succ_cons, List.drop_zero, List.take_succ_cons, List.take_zero, List.reverse_cons, List.reverse_nil, List.nil_append, List.cons_append, List.length_cons, List.length_nil, cond_true, cond_false, and_true, true_and, Nat.zero_add, Nat.add_zero, Nat.reduceAdd, Nat.reduceLT, Nat.reduceLeDiff, Nat.reduceEqDiff, Nat.reduceBEq, Nat.reduceSub, ↓reduceIte, Int32.reduceOfNat, Int64.reduceOfNat, reduceCtorEq, Nat.le_refl, Nat.zero_le, Bool.false_eq_true, beq_self_eq_true, Fin.isValue, Fin.val_zero, Fin.val_one, Fin.reduceFinMk, Fin.val_two, Nat.reduceMod, Bool.or_false, Bool.or_true, Bool.true_or, Bool.false_or, not_true_eq_false, not_false_eq_true, true_or, or_true, implies_true, false_implies, true_implies, Int32.reduceLT, Int32.reduceLE, ↓w_TAB3, ↓w_TAB4, ↓w_TAB5, ↓w_TAB7, ↓w_TAB10, ↓w_LK2, ↓w_LK6, false_and, and_false, i1z, i2z, iz1, im0, im1, l0z, hasK_uI, hasK_uL, hasK_uR, hasK_uZ, hasK_sRow, mR_uI, mR_uL, mR_uZ, mR_sRow, mI_uL, mI_uR, mI_uZ, mL_uI, mL_uR, mL_uZ, mL_sRow, LF.hg hL8, layF, LF.r hL8, refF, ne_eq, not_false_eq_true, Option.some.injEq, Sum.inl.injEq, Sum.inr.injEq, Prod.mk.injEq, exists_eq_left, exists_eq_left']
      refine m_ends2 r8 i8 (by show fL (qL p 49 + val m 2); unfold fL; omega) (T := sN S 11) rfl rfl (fun M9 r9 i9 k9 => ⟨rfl, ?_⟩)
      refine r_X12_clearing (fun n => n == 4 || n == 10 || n == 33 || n == 41 || n == 257 || n == 278) 60 ?_
      simp only [cd_X12_clearing, cf_X12_clearing, wp, wq, wpI, cdF, w_CI, w_CL, w_CN, w_LI, w_LL, w_LA, w_SI, w_SL, w_SA, w_INC, w_II, w_IId, w_LLb, w_LLd, w_LS, w_I1, w_L1, w_I2L, w_L2I, w_CMP, w_DUP, w_POP, w_DUP2, w_IF, w_IC, w_GO, w_NUL, w_ACN, prs, w_GF, w_PF, w_GS, w_IAL, w_LEN, w_LAL, w_ZAL, w_AAL, w_IAS, w_LAS, w_ZAS, w_AAS, w_RI, w_RL, w_RA, w_NEW, w_NA, w_MNA, w_OI, w_THR, w_CV, w_CS, w_CN9, w_CI9, w_MX, w_cont, lget, sto1, sto2, wideV, vo, vo_rv, isR, isR_rv, rv, fget, fput, cats, Value.category, List.headD_cons, List.getD_cons_zero, List.getD_cons_succ, List.drop_succ_cons, List.drop_zero, List.take_succ_cons, List.take_zero, List.reverse_cons, List.reverse_nil, List.nil_append, List.cons_append, List.length_cons, List.length_nil, cond_true, cond_false, and_true, true_and, Nat.zero_add, Nat.add_zero, Nat.reduceAdd, Nat.reduceLT, Nat.reduceLeDiff, Nat.reduceEqDiff, Nat.reduceBEq, Nat.reduceSub, ↓reduceIte, Int32.reduceOfNat, Int64.reduceOfNat, reduceCtorEq, Nat.le_refl, Nat.zero_le, Bool.false_eq_true, beq_self_eq_true, Fin.isValue, Fin.val_zero, Fin.val_one, Fin.reduceFinMk, Fin.val_two, Nat.reduceMod, Bool.or_false, Bool.or_true, Bool.true_or, Bool.false_or, not_true_eq_false, not_false_eq_true, true_or, or_true, implies_true, false_implies, true_implies, Int32.reduceLT, Int32.reduceLE, ↓w_TAB3, ↓w_TAB4, ↓w_TAB5, ↓w_TAB7, ↓w_TAB10, ↓w_LK2, ↓w_LK6, false_and, and_false, i1z, i2z, iz1, im0, im1, l0z]
      exact hQ M9 (DN_kp d1 r9.1 (kpN_t k8 k9) i9)
    have hend : ¬ (decide (val m 1 = 1) = false ∨ qL (pLu (pLu p 48 (qL p 48 - val m 2)) 49 (qL p 49 + val m 2)) 48 = 0) → Go G (MT 261) Q X 278 [some (.ref 495), some (.int (nI k)), some (.long (lI (val m 2 : Int))), none, some (.int (nI (val m 4))), some (.int (nI (6 + i))), some (.long (lI W)), none, some (.long (lI co)), none, some (.long (lI it)), none] [] M8 0 0 := fun hmo => by
      rw [if_neg hmo] at hQ
      refine r_X12_clearing (fun n => n == 4 || n == 10 || n == 33 || n == 41 || n == 257 || n == 278) 60 ?_
      simp only [cd_X12_clearing, cf_X12_clearing, wp, wq, wpI, cdF, w_CI, w_CL, w_CN, w_LI, w_LL, w_LA, w_SI, w_SL, w_SA, w_INC, w_II, w_IId, w_LLb, w_LLd, w_LS, w_I1, w_L1, w_I2L, w_L2I, w_CMP, w_DUP, w_POP, w_DUP2, w_IF, w_IC, w_GO, w_NUL, w_ACN, prs, w_GF, w_PF, w_GS, w_IAL, w_LEN, w_LAL, w_ZAL, w_AAL, w_IAS, w_LAS, w_ZAS, w_AAS, w_RI, w_RL, w_RA, w_NEW, w_NA, w_MNA, w_OI, w_THR, w_CV, w_CS, w_CN9, w_CI9, w_MX, w_cont, lget, sto1, sto2, wideV, vo, vo_rv, isR, isR_rv, rv, fget, fput, cats, Value.category, List.headD_cons, List.getD_cons_zero, List.getD_cons_succ, List.drop_succ_cons, List.drop_zero, List.take_succ_cons, List.take_zero, List.reverse_cons, List.reverse_nil, List.nil_append, List.cons_append, List.length_cons, List.length_nil, cond_true, cond_false, and_true, true_and, Nat.zero_add, Nat.add_zero, Nat.reduceAdd, Nat.reduceLT, Nat.reduceLeDiff, Nat.reduceEqDiff, Nat.reduceBEq, Nat.reduceSub, ↓reduceIte, Int32.reduceOfNat, Int64.reduceOfNat, reduceCtorEq, Nat.le_refl, Nat.zero_le, Bool.false_eq_true, beq_self_eq_true, Fin.isValue, Fin.val_zero, Fin.val_one, Fin.reduceFinMk, Fin.val_two, Nat.reduceMod, Bool.or_false, Bool.or_true, Bool.true_or, Bool.false_or, not_true_eq_false, not_false_eq_true, true_or, or_true, implies_true, false_implies, true_implies, Int32.reduceLT, Int32.reduceLE, ↓w_TAB3, ↓w_TAB4, ↓w_TAB5, ↓w_TAB7, ↓w_TAB10, ↓w_LK2, ↓w_LK6, false_and, and_false, i1z, i2z, iz1, im0, im1, l0z]
      exact hQ M8 (DN_kp d1 r8.1 k8 i8)
    refine r_X12_clearing (fun n => n == 273 || n == 278 || n == 4 || n == 10 || n == 33 || n == 41 || n == 257 || n == 278) 60 ?_
    simp only [cd_X12_clearing, cf_X12_clearing, wp, wq, wpI, cdF, w_CI, w_CL, w_CN, w_LI, w_LL, w_LA, w_SI, w_SL, w_SA, w_INC, w_II, w_IId, w_LLb, w_LLd, w_LS, w_I1, w_L1, w_I2L, w_L2I, w_CMP, w_DUP, w_POP, w_DUP2, w_IF, w_IC, w_GO, w_NUL, w_ACN, prs, w_GF, w_PF, w_GS, w_IAL, w_LEN, w_LAL, w_ZAL, w_AAL, w_IAS, w_LAS, w_ZAS, w_AAS, w_RI, w_RL, w_RA, w_NEW, w_NA, w_MNA, w_OI, w_THR, w_CV, w_CS, w_CN9, w_CI9, w_MX, w_cont, lget, sto1, sto2, wideV, vo, vo_rv, isR, isR_rv, rv, fget, fput, cats, Value.category, List.headD_cons, List.getD_cons_zero, List.getD_cons_succ, List.drop_succ_cons, List.drop_zero, List.take_succ_cons, List.take_zero, List.reverse_cons, List.reverse_nil, List.nil_append, List.cons_append, List.length_cons, List.length_nil, cond_true, cond_false, and_true, true_and, Nat.zero_add, Nat.add_zero, Nat.reduceAdd, Nat.reduceLT, Nat.reduceLeDiff, Nat.reduceEqDiff, Nat.reduceBEq, Nat.reduceSub, ↓reduceIte, Int32.reduceOfNat, Int64.reduceOfNat, reduceCtorEq, Nat.le_refl, Nat.zero_le, Bool.false_eq_true, beq_self_eq_true, Fin.isValue, Fin.val_zero, Fin.val_one, Fin.reduceFinMk, Fin.val_two, Nat.reduceMod, Bool.or_false, Bool.or_true, Bool.true_or, Bool.false_or, not_true_eq_false, not_false_eq_true, true_or, or_true, implies_true, false_implies, true_implies, Int32.reduceLT, Int32.reduceLE, ↓w_TAB3, ↓w_TAB4, ↓w_TAB5, ↓w_TAB7, ↓w_TAB10, ↓w_LK2, ↓w_LK6, false_and, and_false, i1z, i2z, iz1, im0, im1, l0z, hasK_uI, hasK_uL, hasK_uR, hasK_uZ, hasK_sRow, mR_uI, mR_uL, mR_uZ, mR_sRow, mI_uL, mI_uR, mI_uZ, mL_uI, mL_uR, mL_uZ, mL_sRow, LF.hg hL8, layF, LF.r hL8, refF, ne_eq, not_false_eq_true, Option.some.injEq, Sum.inl.injEq, Sum.inr.injEq, Prod.mk.injEq, exists_eq_left, exists_eq_left', cmp_eq, g48, ck]
    refine and_ii (fun q => hfin (Or.inl (decide_eq_false (fun e => q (h1q.mpr e))))) (fun q => ⟨hv, and_ii (fun q' => hend (fun e => ?_)) (fun q' => hfin (Or.inr (hz0.mp (Classical.not_not.mp q'))))⟩)
    rcases e with e | e
    · exact absurd (h1q.mp (Classical.not_not.mp q)) (of_decide_eq_false e)
    · exact q' (hz0.mpr e)
  refine ⟨hv, hv, hv, hv, hv, vac, vac, hv, hv, vac, vi13, va13, and_ii (fun q => ?_) (fun q => ?_)⟩
  · exact hrest (W / 10000) 0 (by omega) (by have := tl.mp q; omega)
  · exact hrest (W / 10000 + 1) 1 rfl (by have : ¬ W % 10000 ≤ 0 := fun e => q (tl.mpr e); omega)
end CLR2
