/-! AN ANSWER IS KEPT: the reference's method -/
section KPN
variable {G : En} {M M0 Mz M' : Mem} {Q : Option Value → Mem → Prop} {X : String → Mem → Prop} {S : Sw} {t a b j k v i np T A s n d N r rs : Nat} {x y : Int32} {z : Int64} {m mx : Msg} {g : Nat → Nat} {ar : Ar} {arc : Nat → Ar} {an xs : List Nat}
theorem lp_kp1 (hL : LF M) (hi : i < 24) (h55 : mI M 495 55 = nI i) (hlen : mI M 495 74 = nI n) (hn : n ≤ 160) (hrow : ∀ j, j < n → mI M 545 j = nI (g j)) (hQ : Go G (MT 244) Q X 162 [some (.ref 495), some (.int x), none] [] (dgR M 535 (160 * i) n g) 0 0) : ∀ (r k : Nat), r + k = n → Go G (MT 244) Q X 127 [some (.ref 495), some (.int x), some (.int (nI k))] [] (dgR M 535 (160 * i) k g) 0 0 := by
  have e19 : (160 : Int32) * nI i = nI (160 * i) := nI_mul (a := 160) (by omega) (by omega) (by omega)
  have tn := nI_toInt (n := n) (by omega)
  intro r
  induction r with
  | zero =>
    intro k hk
    have hk : k = n := by omega
    subst hk
    have g1 : mI (dgR M 535 (160 * i) k g) 495 74 = nI k := by unfold dgR; rw [mI_nr (by omega)]; exact hlen
    have hL1 : LF (dgR M 535 (160 * i) k g) := hL
    generalize dgR M 535 (160 * i) k g = M1 at *
    refine r_X12_keep (fun n => n == 127 || n == 162 || n == 27 || n == 56 || n == 87) 60 ?_
    simp only [cd_X12_keep, cf_X12_keep, wp, wq, wpI, cdF, w_CI, w_CL, w_CN, w_LI, w_LL, w_LA, w_SI, w_SL, w_SA, w_INC, w_II, w_IId, w_LLb, w_LLd, w_LS, w_I1, w_L1, w_I2L, w_L2I, w_CMP, w_DUP, w_POP, w_DUP2, w_IF, w_IC, w_GO, w_NUL, w_ACN, prs, w_GF, w_PF, w_GS, w_IAL, w_LEN, w_LAL, w_ZAL, w_AAL, w_IAS, w_LAS, w_ZAS, w_AAS, w_RI, w_RL, w_RA, w_NEW, w_NA, w_MNA, w_OI, w_THR, w_CV, w_CS, w_CN9, w_CI9, w_MX, w_cont, lget, sto1, sto2, wideV, vo, vo_rv, isR, isR_rv, rv, fget, fput, cats, Value.category, List.headD_cons, List.getD_cons_zero, List.getD_cons_succ, List.drop_succ_cons, List.drop_zero, List.take_succ_cons, List.take_zero, List.reverse_cons, List.reverse_nil, List.nil_append, List.cons_append, List.length_cons, List.length_nil, cond_true, cond_false, and_true, true_and, Nat.zero_add, Nat.add_zero, Nat.reduceAdd, Nat.reduceLT, Nat.reduceLeDiff, Nat.reduceEqDiff, Nat.reduceBEq, Nat.reduceSub, ↓reduceIte, Int32.reduceOfNat, Int64.reduceOfNat, reduceCtorEq, Nat.le_refl, Nat.zero_le, Bool.false_eq_true, beq_self_eq_true, Fin.isValue, Fin.val_zero, Fin.val_one, Fin.reduceFinMk, Fin.val_two, Nat.reduceMod, Bool.or_false, Bool.or_true, Bool.true_or, Bool.false_or, not_true_eq_false, not_false_eq_true, true_or, or_true, implies_true, false_implies, true_implies, Int32.reduceLT, Int32.reduceLE, ↓w_TAB3, ↓w_TAB4, ↓w_TAB5, ↓w_TAB7, ↓w_TAB10, ↓w_LK2, ↓w_LK6, false_and, and_false, i1z, i2z, iz1, im0, im1, l0z, hasK_uI, hasK_uL, hasK_uR, hasK_uZ, hasK_sRow, mR_uI, mR_uL, mR_uZ, mR_sRow, mI_uL, mI_uR, mI_uZ, mL_uI, mL_uR, mL_uZ, mL_sRow, LF.hg hL1, layF, LF.r hL1, refF, ne_eq, not_false_eq_true, Option.some.injEq, Sum.inl.injEq, Sum.inr.injEq, Prod.mk.injEq, exists_eq_left, exists_eq_left', g1]
    refine ⟨fun _ => Go.less hQ (fun k v h => ?_), fun q => absurd (nI_le (Nat.le_refl _) (by omega)) q⟩
    rcases k with _ | _ | _ | k <;> simp at h ⊢ <;> exact h
  | succ r ih =>
    intro k hk
    have tk := nI_toInt (n := k) (by omega)
    have ih' := ih (k + 1) (by omega)
    rw [← dgR_s] at ih'
    have ea : nI (160 * i) + nI k = nI (160 * i + k) := nI_add _ _
    have ca := nI_clamp (n := 160 * i + k) (by omega)
    have ck := nI_clamp (n := k) (by omega)
    have g1 : mI (dgR M 535 (160 * i) k g) 495 74 = nI n := by unfold dgR; rw [mI_nr (by omega)]; exact hlen
    have g5 : mI (dgR M 535 (160 * i) k g) 495 55 = nI i := by unfold dgR; rw [mI_nr (by omega)]; exact h55
    have g2 : mI (dgR M 535 (160 * i) k g) 545 k = nI (g k) := by unfold dgR; rw [mI_nr (by omega)]; exact hrow k (by omega)
    have hL1 : LF (dgR M 535 (160 * i) k g) := hL
    generalize dgR M 535 (160 * i) k g = M1 at *
    refine r_X12_keep (fun n => n == 127 || n == 162 || n == 27 || n == 56 || n == 87) 60 ?_
    simp only [cd_X12_keep, cf_X12_keep, wp, wq, wpI, cdF, w_CI, w_CL, w_CN, w_LI, w_LL, w_LA, w_SI, w_SL, w_SA, w_INC, w_II, w_IId, w_LLb, w_LLd, w_LS, w_I1, w_L1, w_I2L, w_L2I, w_CMP, w_DUP, w_POP, w_DUP2, w_IF, w_IC, w_GO, w_NUL, w_ACN, prs, w_GF, w_PF, w_GS, w_IAL, w_LEN, w_LAL, w_ZAL, w_AAL, w_IAS, w_LAS, w_ZAS, w_AAS, w_RI, w_RL, w_RA, w_NEW, w_NA, w_MNA, w_OI, w_THR, w_CV, w_CS, w_CN9, w_CI9, w_MX, w_cont, lget, sto1, sto2, wideV, vo, vo_rv, isR, isR_rv, rv, fget, fput, cats, Value.category, List.headD_cons, List.getD_cons_zero, List.getD_cons_succ, List.drop_succ_cons, List.drop_zero, List.take_succ_cons, List.take_zero, List.reverse_cons, List.reverse_nil, List.nil_append, List.cons_append, List.length_cons, List.length_nil, cond_true, cond_false, and_true, true_and, Nat.zero_add, Nat.add_zero, Nat.reduceAdd, Nat.reduceLT, Nat.reduceLeDiff, Nat.reduceEqDiff, Nat.reduceBEq, Nat.reduceSub, ↓reduceIte, Int32.reduceOfNat, Int64.reduceOfNat, reduceCtorEq, Nat.le_refl, Nat.zero_le, Bool.false_eq_true, beq_self_eq_true, Fin.isValue, Fin.val_zero, Fin.val_one, Fin.reduceFinMk, Fin.val_two, Nat.reduceMod, Bool.or_false, Bool.or_true, Bool.true_or, Bool.false_or, not_true_eq_false, not_false_eq_true, true_or, or_true, implies_true, false_implies, true_implies, Int32.reduceLT, Int32.reduceLE, ↓w_TAB3, ↓w_TAB4, ↓w_TAB5, ↓w_TAB7, ↓w_TAB10, ↓w_LK2, ↓w_LK6, false_and, and_false, i1z, i2z, iz1, im0, im1, l0z, hasK_uI, hasK_uL, hasK_uR, hasK_uZ, hasK_sRow, mR_uI, mR_uL, mR_uZ, mR_sRow, mI_uL, mI_uR, mI_uZ, mL_uI, mL_uR, mL_uZ, mL_sRow, LF.hg hL1, layF, LF.r hL1, refF, ne_eq, not_false_eq_true, Option.some.injEq, Sum.inl.injEq, Sum.inr.injEq, Prod.mk.injEq, exists_eq_left, exists_eq_left', g1, g5, e19, ea, ca, ck, g2, nI_1]
    refine and_ii (fun q => ?_) (fun _ => ⟨vp_in_nI (by omega) (by omega), vp_in_nI (by omega) (by omega), ih'⟩)
    exfalso; (simp only [i_lt, i_le, i_eq, l_lt, l_le, l_eq, Int32.toInt_toInt64, Int32.reduceToInt, Int64.reduceToInt, ne_eq, Classical.not_not] at *; omega)
theorem lp_kp2 (hL : LF M) (hi : i < 24) (h55 : mI M 495 55 = nI i) (hlen : mI M 495 76 = nI n) (hn : n ≤ 160) (hrow : ∀ j, j < n → mI M 546 j = nI (g j)) (hQ : Go G (MT 244) Q X 199 [some (.ref 495), some (.int x), none] [] (dgR M 537 (160 * i) n g) 0 0) : ∀ (r k : Nat), r + k = n → Go G (MT 244) Q X 164 [some (.ref 495), some (.int x), some (.int (nI k))] [] (dgR M 537 (160 * i) k g) 0 0 := by
  have e19 : (160 : Int32) * nI i = nI (160 * i) := nI_mul (a := 160) (by omega) (by omega) (by omega)
  have tn := nI_toInt (n := n) (by omega)
  intro r
  induction r with
  | zero =>
    intro k hk
    have hk : k = n := by omega
    subst hk
    have g1 : mI (dgR M 537 (160 * i) k g) 495 76 = nI k := by unfold dgR; rw [mI_nr (by omega)]; exact hlen
    have hL1 : LF (dgR M 537 (160 * i) k g) := hL
    generalize dgR M 537 (160 * i) k g = M1 at *
    refine r_X12_keep (fun n => n == 164 || n == 199 || n == 27 || n == 56 || n == 87) 60 ?_
    simp only [cd_X12_keep, cf_X12_keep, wp, wq, wpI, cdF, w_CI, w_CL, w_CN, w_LI, w_LL, w_LA, w_SI, w_SL, w_SA, w_INC, w_II, w_IId, w_LLb, w_LLd, w_LS, w_I1, w_L1, w_I2L, w_L2I, w_CMP, w_DUP, w_POP, w_DUP2, w_IF, w_IC, w_GO, w_NUL, w_ACN, prs, w_GF, w_PF, w_GS, w_IAL, w_LEN, w_LAL, w_ZAL, w_AAL, w_IAS, w_LAS, w_ZAS, w_AAS, w_RI, w_RL, w_RA, w_NEW, w_NA, w_MNA, w_OI, w_THR, w_CV, w_CS, w_CN9, w_CI9, w_MX, w_cont, lget, sto1, sto2, wideV, vo, vo_rv, isR, isR_rv, rv, fget, fput, cats, Value.category, List.headD_cons, List.getD_cons_zero, List.getD_cons_succ, List.drop_succ_cons, List.drop_zero, List.take_succ_cons, List.take_zero, List.reverse_cons, List.reverse_nil, List.nil_append, List.cons_append, List.length_cons, List.length_nil, cond_true, cond_false, and_true, true_and, Nat.zero_add, Nat.add_zero, Nat.reduceAdd, Nat.reduceLT, Nat.reduceLeDiff, Nat.reduceEqDiff, Nat.reduceBEq, Nat.reduceSub, ↓reduceIte, Int32.reduceOfNat, Int64.reduceOfNat, reduceCtorEq, Nat.le_refl, Nat.zero_le, Bool.false_eq_true, beq_self_eq_true, Fin.isValue, Fin.val_zero, Fin.val_one, Fin.reduceFinMk, Fin.val_two, Nat.reduceMod, Bool.or_false, Bool.or_true, Bool.true_or, Bool.false_or, not_true_eq_false, not_false_eq_true, true_or, or_true, implies_true, false_implies, true_implies, Int32.reduceLT, Int32.reduceLE, ↓w_TAB3, ↓w_TAB4, ↓w_TAB5, ↓w_TAB7, ↓w_TAB10, ↓w_LK2, ↓w_LK6, false_and, and_false, i1z, i2z, iz1, im0, im1, l0z, hasK_uI, hasK_uL, hasK_uR, hasK_uZ, hasK_sRow, mR_uI, mR_uL, mR_uZ, mR_sRow, mI_uL, mI_uR, mI_uZ, mL_uI, mL_uR, mL_uZ, mL_sRow, LF.hg hL1, layF, LF.r hL1, refF, ne_eq, not_false_eq_true, Option.some.injEq, Sum.inl.injEq, Sum.inr.injEq, Prod.mk.injEq, exists_eq_left, exists_eq_left', g1]
    refine ⟨fun _ => Go.less hQ (fun k v h => ?_), fun q => absurd (nI_le (Nat.le_refl _) (by omega)) q⟩
    rcases k with _ | _ | _ | k <;> simp at h ⊢ <;> exact h
  | succ r ih =>
    intro k hk
    have tk := nI_toInt (n := k) (by omega)
    have ih' := ih (k + 1) (by omega)
    rw [← dgR_s] at ih'
    have ea : nI (160 * i) + nI k = nI (160 * i + k) := nI_add _ _
    have ca := nI_clamp (n := 160 * i + k) (by omega)
    have ck := nI_clamp (n := k) (by omega)
    have g1 : mI (dgR M 537 (160 * i) k g) 495 76 = nI n := by unfold dgR; rw [mI_nr (by omega)]; exact hlen
    have g5 : mI (dgR M 537 (160 * i) k g) 495 55 = nI i := by unfold dgR; rw [mI_nr (by omega)]; exact h55
    have g2 : mI (dgR M 537 (160 * i) k g) 546 k = nI (g k) := by unfold dgR; rw [mI_nr (by omega)]; exact hrow k (by omega)
    have hL1 : LF (dgR M 537 (160 * i) k g) := hL
    generalize dgR M 537 (160 * i) k g = M1 at *
    refine r_X12_keep (fun n => n == 164 || n == 199 || n == 27 || n == 56 || n == 87) 60 ?_
    simp only [cd_X12_keep, cf_X12_keep, wp, wq, wpI, cdF, w_CI, w_CL, w_CN, w_LI, w_LL, w_LA, w_SI, w_SL, w_SA, w_INC, w_II, w_IId, w_LLb, w_LLd, w_LS, w_I1, w_L1, w_I2L, w_L2I, w_CMP, w_DUP, w_POP, w_DUP2, w_IF, w_IC, w_GO, w_NUL, w_ACN, prs, w_GF, w_PF, w_GS, w_IAL, w_LEN, w_LAL, w_ZAL, w_AAL, w_IAS, w_LAS, w_ZAS, w_AAS, w_RI, w_RL, w_RA, w_NEW, w_NA, w_MNA, w_OI, w_THR, w_CV, w_CS, w_CN9, w_CI9, w_MX, w_cont, lget, sto1, sto2, wideV, vo, vo_rv, isR, isR_rv, rv, fget, fput, cats, Value.category, List.headD_cons, List.getD_cons_zero, List.getD_cons_succ, List.drop_succ_cons, List.drop_zero, List.take_succ_cons, List.take_zero, List.reverse_cons, List.reverse_nil, List.nil_append, List.cons_append, List.length_cons, List.length_nil, cond_true, cond_false, and_true, true_and, Nat.zero_add, Nat.add_zero, Nat.reduceAdd, Nat.reduceLT, Nat.reduceLeDiff, Nat.reduceEqDiff, Nat.reduceBEq, Nat.reduceSub, ↓reduceIte, Int32.reduceOfNat, Int64.reduceOfNat, reduceCtorEq, Nat.le_refl, Nat.zero_le, Bool.false_eq_true, beq_self_eq_true, Fin.isValue, Fin.val_zero, Fin.val_one, Fin.reduceFinMk, Fin.val_two, Nat.reduceMod, Bool.or_false, Bool.or_true, Bool.true_or, Bool.false_or, not_true_eq_false, not_false_eq_true, true_or, or_true, implies_true, false_implies, true_implies, Int32.reduceLT, Int32.reduceLE, ↓w_TAB3, ↓w_TAB4, ↓w_TAB5, ↓w_TAB7, ↓w_TAB10, ↓w_LK2, ↓w_LK6, false_and, and_false, i1z, i2z, iz1, im0, im1, l0z, hasK_uI, hasK_uL, hasK_uR, hasK_uZ, hasK_sRow, mR_uI, mR_uL, mR_uZ, mR_sRow, mI_uL, mI_uR, mI_uZ, mL_uI, mL_uR, mL_uZ, mL_sRow, LF.hg hL1, layF, LF.r hL1, refF, ne_eq, not_false_eq_true, Option.some.injEq, Sum.inl.injEq, Sum.inr.injEq, Prod.mk.injEq, exists_eq_left, exists_eq_left', g1, g5, e19, ea, ca, ck, g2, nI_1]
    refine and_ii (fun q => ?_) (fun _ => ⟨vp_in_nI (by omega) (by omega), vp_in_nI (by omega) (by omega), ih'⟩)
    exfalso; (simp only [i_lt, i_le, i_eq, l_lt, l_le, l_eq, Int32.toInt_toInt64, Int32.reduceToInt, Int64.reduceToInt, ne_eq, Classical.not_not] at *; omega)
set_option maxRecDepth 20000 in
/-- from the place where the number of rows is less than 24 -/
theorem m_keepR (hL : LF M0) (hm : msgM M0 67 542 541 m) (ho : okM m) (p3 : pb (gH m) 3 = 1) (p4 : pb (gH m) 4 = 1) (ha : val m 4 < 1000) (h74 : mI M0 495 74 = nI xs.length) (h545 : ∀ i, i < xs.length → mI M0 545 i = nI (xs.getD i 0)) (hxs : xs.length ≤ 160) (aw : awN M0 an) (han : an.length ≤ 160) (hw : akN M0 M) (hn : n < 24) (h55 : mI M 495 55 = nI n) (hl : ∀ k, k < n → (rM (arc k)).length ≤ 160 ∧ (rO (arc k)).length ≤ 160) (hr : ∀ k, k < n → arcM M k (arc k)) (hQ : ∀ M', akN M0 M' → mI M' 495 55 = nI (n + 1) → (∀ k, k < n → arcM M' k (arc k)) → arcM M' n (val m 4, gT m / 100, val m 3, rs, xs, an) → Q none M') (hx : x = nI rs) : Go G (MT 244) Q X 43 [some (.ref 495), some (.int x), none] [] M 0 0 := by
  subst hx
  have hL1 := akN_L hw hL
  have cn := nI_clamp (n := n) (by omega)
  have hv := vp_in_nI (n := n) (N := 25) (by omega) (by omega)
  have v3 := val_lt ho (s := 3) (by omega) p3 rfl
  simp only [szF] at v3
  have e3 := lI_i32 (n := val m 3) (by omega)
  have e4 := lI_i32 (n := val m 4) (by omega)
  have hT9 := ho.1
  have i100 : ((100 : Int32) = 0) = False := eq_false (by decide)
  have e100 : nI (gT m) / 100 = nI (gT m / 100) := nI_div (b := 100) (by omega) (by omega) (by omega)
  have m1 := msgM_ak hm hw
  refine r_X12_keep (fun n => n == 27 || n == 56 || n == 87) 60 ?_
  simp only [cd_X12_keep, cf_X12_keep, wp, wq, wpI, cdF, w_CI, w_CL, w_CN, w_LI, w_LL, w_LA, w_SI, w_SL, w_SA, w_INC, w_II, w_IId, w_LLb, w_LLd, w_LS, w_I1, w_L1, w_I2L, w_L2I, w_CMP, w_DUP, w_POP, w_DUP2, w_IF, w_IC, w_GO, w_NUL, w_ACN, prs, w_GF, w_PF, w_GS, w_IAL, w_LEN, w_LAL, w_ZAL, w_AAL, w_IAS, w_LAS, w_ZAS, w_AAS, w_RI, w_RL, w_RA, w_NEW, w_NA, w_MNA, w_OI, w_THR, w_CV, w_CS, w_CN9, w_CI9, w_MX, w_cont, lget, sto1, sto2, wideV, vo, vo_rv, isR, isR_rv, rv, fget, fput, cats, Value.category, List.headD_cons, List.getD_cons_zero, List.getD_cons_succ, List.drop_succ_cons, List.drop_zero, List.take_succ_cons, List.take_zero, List.reverse_cons, List.reverse_nil, List.nil_append, List.cons_append, List.length_cons, List.length_nil, cond_true, cond_false, and_true, true_and, Nat.zero_add, Nat.add_zero, Nat.reduceAdd, Nat.reduceLT, Nat.reduceLeDiff, Nat.reduceEqDiff, Nat.reduceBEq, Nat.reduceSub, ↓reduceIte, Int32.reduceOfNat, Int64.reduceOfNat, reduceCtorEq, Nat.le_refl, Nat.zero_le, Bool.false_eq_true, beq_self_eq_true, Fin.isValue, Fin.val_zero, Fin.val_one, Fin.reduceFinMk, Fin.val_two, Nat.reduceMod, Bool.or_false, Bool.or_true, Bool.true_or, Bool.false_or, not_true_eq_false, not_false_eq_true, true_or, or_true, implies_true, false_implies, true_implies, Int32.reduceLT, Int32.reduceLE, ↓w_TAB3, ↓w_TAB4, ↓w_TAB5, ↓w_TAB7, ↓w_TAB10, ↓w_LK2, ↓w_LK6, false_and, and_false, i1z, i2z, iz1, im0, im1, l0z, hasK_uI, hasK_uL, hasK_uR, hasK_uZ, hasK_sRow, mR_uI, mR_uL, mR_uZ, mR_sRow, mI_uL, mI_uR, mI_uZ, mL_uI, mL_uR, mL_uZ, mL_sRow, LF.hg hL1, layF, LF.r hL1, refF, ne_eq, not_false_eq_true, Option.some.injEq, Sum.inl.injEq, Sum.inr.injEq, Prod.mk.injEq, exists_eq_left, exists_eq_left', h55]
  refine m_numOf (s := 4) hL1 m1 ho (by omega) p4 (by decide) rfl ⟨_, rfl, ?_⟩
  have w2 := akN_u (b := 531) (j := n) (v := nI (val m 4)) hw (by omega)
  have w3 := akN_u (b := 532) (j := n) (v := nI (gT m / 100)) w2 (by omega)
  have f55 : mI (uI M 531 n (nI (val m 4))) 495 55 = nI n := by rw [mI_ne (by omega)]; exact h55
  have f67 : mI (uI M 531 n (nI (val m 4))) 495 67 = nI (gT m) := (msgM_ak hm w2).1
  have f55' : mI (uI (uI M 531 n (nI (val m 4))) 532 n (nI (gT m / 100))) 495 55 = nI n := by rw [mI_ne (by omega)]; exact f55
  refine r_X12_keep (fun n => n == 27 || n == 56 || n == 87) 60 ?_
  simp only [cd_X12_keep, cf_X12_keep, wp, wq, wpI, cdF, w_CI, w_CL, w_CN, w_LI, w_LL, w_LA, w_SI, w_SL, w_SA, w_INC, w_II, w_IId, w_LLb, w_LLd, w_LS, w_I1, w_L1, w_I2L, w_L2I, w_CMP, w_DUP, w_POP, w_DUP2, w_IF, w_IC, w_GO, w_NUL, w_ACN, prs, w_GF, w_PF, w_GS, w_IAL, w_LEN, w_LAL, w_ZAL, w_AAL, w_IAS, w_LAS, w_ZAS, w_AAS, w_RI, w_RL, w_RA, w_NEW, w_NA, w_MNA, w_OI, w_THR, w_CV, w_CS, w_CN9, w_CI9, w_MX, w_cont, lget, sto1, sto2, wideV, vo, vo_rv, isR, isR_rv, rv, fget, fput, cats, Value.category, List.headD_cons, List.getD_cons_zero, List.getD_cons_succ, List.drop_succ_cons, List.drop_zero, List.take_succ_cons, List.take_zero, List.reverse_cons, List.reverse_nil, List.nil_append, List.cons_append, List.length_cons, List.length_nil, cond_true, cond_false, and_true, true_and, Nat.zero_add, Nat.add_zero, Nat.reduceAdd, Nat.reduceLT, Nat.reduceLeDiff, Nat.reduceEqDiff, Nat.reduceBEq, Nat.reduceSub, ↓reduceIte, Int32.reduceOfNat, Int64.reduceOfNat, reduceCtorEq, Nat.le_refl, Nat.zero_le, Bool.false_eq_true, beq_self_eq_true, Fin.isValue, Fin.val_zero, Fin.val_one, Fin.reduceFinMk, Fin.val_two, Nat.reduceMod, Bool.or_false, Bool.or_true, Bool.true_or, Bool.false_or, not_true_eq_false, not_false_eq_true, true_or, or_true, implies_true, false_implies, true_implies, Int32.reduceLT, Int32.reduceLE, ↓w_TAB3, ↓w_TAB4, ↓w_TAB5, ↓w_TAB7, ↓w_TAB10, ↓w_LK2, ↓w_LK6, false_and, and_false, i1z, i2z, iz1, im0, im1, l0z, hasK_uI, hasK_uL, hasK_uR, hasK_uZ, hasK_sRow, mR_uI, mR_uL, mR_uZ, mR_sRow, mI_uL, mI_uR, mI_uZ, mL_uI, mL_uR, mL_uZ, mL_sRow, LF.hg hL1, layF, LF.r hL1, refF, ne_eq, not_false_eq_true, Option.some.injEq, Sum.inl.injEq, Sum.inr.injEq, Prod.mk.injEq, exists_eq_left, exists_eq_left', e4, cn, f55, f67, i100, e100, f55']
  refine ⟨hv, hv, ?_⟩
  have r3 : ∀ k, k < n → arcM (uI (uI M 531 n (nI (val m 4))) 532 n (nI (gT m / 100))) k (arc k) := fun k hk => arc_uI (arc_uI (hr k hk) (by omega)) (by omega)
  have k1 : mI (uI (uI M 531 n (nI (val m 4))) 532 n (nI (gT m / 100))) 531 n = nI (val m 4) := by rw [mI_ne (by omega), mI_uI, if_pos ⟨rfl, rfl⟩]
  have k2 : mI (uI (uI M 531 n (nI (val m 4))) 532 n (nI (gT m / 100))) 532 n = nI (gT m / 100) := by rw [mI_uI, if_pos ⟨rfl, rfl⟩]
  generalize uI (uI M 531 n (nI (val m 4))) 532 n (nI (gT m / 100)) = M3 at *
  have L3 := akN_L w3 hL
  refine m_numOf (s := 3) L3 (msgM_ak hm w3) ho (by omega) p3 (by decide) rfl ⟨_, rfl, ?_⟩
  have g74 : mI M3 495 74 = nI xs.length := (w3.2.2.2 _ _ (by omega) (by omega)).trans h74
  have g76 : mI M3 495 76 = nI an.length := (w3.2.2.2 _ _ (by omega) (by omega)).trans aw.1
  refine r_X12_keep (fun n => n == 127 || n == 27 || n == 56 || n == 87) 60 ?_
  simp only [cd_X12_keep, cf_X12_keep, wp, wq, wpI, cdF, w_CI, w_CL, w_CN, w_LI, w_LL, w_LA, w_SI, w_SL, w_SA, w_INC, w_II, w_IId, w_LLb, w_LLd, w_LS, w_I1, w_L1, w_I2L, w_L2I, w_CMP, w_DUP, w_POP, w_DUP2, w_IF, w_IC, w_GO, w_NUL, w_ACN, prs, w_GF, w_PF, w_GS, w_IAL, w_LEN, w_LAL, w_ZAL, w_AAL, w_IAS, w_LAS, w_ZAS, w_AAS, w_RI, w_RL, w_RA, w_NEW, w_NA, w_MNA, w_OI, w_THR, w_CV, w_CS, w_CN9, w_CI9, w_MX, w_cont, lget, sto1, sto2, wideV, vo, vo_rv, isR, isR_rv, rv, fget, fput, cats, Value.category, List.headD_cons, List.getD_cons_zero, List.getD_cons_succ, List.drop_succ_cons, List.drop_zero, List.take_succ_cons, List.take_zero, List.reverse_cons, List.reverse_nil, List.nil_append, List.cons_append, List.length_cons, List.length_nil, cond_true, cond_false, and_true, true_and, Nat.zero_add, Nat.add_zero, Nat.reduceAdd, Nat.reduceLT, Nat.reduceLeDiff, Nat.reduceEqDiff, Nat.reduceBEq, Nat.reduceSub, ↓reduceIte, Int32.reduceOfNat, Int64.reduceOfNat, reduceCtorEq, Nat.le_refl, Nat.zero_le, Bool.false_eq_true, beq_self_eq_true, Fin.isValue, Fin.val_zero, Fin.val_one, Fin.reduceFinMk, Fin.val_two, Nat.reduceMod, Bool.or_false, Bool.or_true, Bool.true_or, Bool.false_or, not_true_eq_false, not_false_eq_true, true_or, or_true, implies_true, false_implies, true_implies, Int32.reduceLT, Int32.reduceLE, ↓w_TAB3, ↓w_TAB4, ↓w_TAB5, ↓w_TAB7, ↓w_TAB10, ↓w_LK2, ↓w_LK6, false_and, and_false, i1z, i2z, iz1, im0, im1, l0z, hasK_uI, hasK_uL, hasK_uR, hasK_uZ, hasK_sRow, mR_uI, mR_uL, mR_uZ, mR_sRow, mI_uL, mI_uR, mI_uZ, mL_uI, mL_uR, mL_uZ, mL_sRow, LF.hg L3, layF, LF.r L3, refF, ne_eq, not_false_eq_true, Option.some.injEq, Sum.inl.injEq, Sum.inr.injEq, Prod.mk.injEq, exists_eq_left, exists_eq_left', e3, cn, f55', g74, g76, mI_uI, false_and]
  refine ⟨hv, hv, hv, hv, ?_⟩
  have w4 := akN_u (b := 538) (j := n) (v := nI rs) (akN_u (b := 536) (j := n) (v := nI an.length) (akN_u (b := 534) (j := n) (v := nI xs.length) (akN_u (b := 533) (j := n) (v := nI (val m 3)) w3 (by omega)) (by omega)) (by omega)) (by omega)
  have r4 : ∀ k, k < n → arcM (uI (uI (uI (uI M3 533 n (nI (val m 3))) 534 n (nI xs.length)) 536 n (nI an.length)) 538 n (nI rs)) k (arc k) := fun k hk => arc_uI (arc_uI (arc_uI (arc_uI (r3 k hk) (by omega)) (by omega)) (by omega)) (by omega)
  have q1 : mI (uI (uI (uI (uI M3 533 n (nI (val m 3))) 534 n (nI xs.length)) 536 n (nI an.length)) 538 n (nI rs)) 531 n = nI (val m 4) := by simp [mI_uI]; exact k1
  have q2 : mI (uI (uI (uI (uI M3 533 n (nI (val m 3))) 534 n (nI xs.length)) 536 n (nI an.length)) 538 n (nI rs)) 532 n = nI (gT m / 100) := by simp [mI_uI]; exact k2
  have q3 : mI (uI (uI (uI (uI M3 533 n (nI (val m 3))) 534 n (nI xs.length)) 536 n (nI an.length)) 538 n (nI rs)) 533 n = nI (val m 3) := by simp [mI_uI]
  have q4 : mI (uI (uI (uI (uI M3 533 n (nI (val m 3))) 534 n (nI xs.length)) 536 n (nI an.length)) 538 n (nI rs)) 534 n = nI xs.length := by simp [mI_uI]
  have q6 : mI (uI (uI (uI (uI M3 533 n (nI (val m 3))) 534 n (nI xs.length)) 536 n (nI an.length)) 538 n (nI rs)) 536 n = nI an.length := by simp [mI_uI]
  have q8 : mI (uI (uI (uI (uI M3 533 n (nI (val m 3))) 534 n (nI xs.length)) 536 n (nI an.length)) 538 n (nI rs)) 538 n = nI rs := by simp [mI_uI]
  have f55 : mI (uI (uI (uI (uI M3 533 n (nI (val m 3))) 534 n (nI xs.length)) 536 n (nI an.length)) 538 n (nI rs)) 495 55 = nI n := by simp [mI_uI]; exact f55'
  generalize uI (uI (uI (uI M3 533 n (nI (val m 3))) 534 n (nI xs.length)) 536 n (nI an.length)) 538 n (nI rs) = M4 at *
  have L4 := akN_L w4 hL
  have g74 : mI M4 495 74 = nI xs.length := (w4.2.2.2 _ _ (by omega) (by omega)).trans h74
  have h1 := lp_kp1 (G := G) (Q := Q) (X := X) (x := nI rs) (M := M4) (i := n) (n := xs.length) (g := fun i => xs.getD i 0) L4 hn f55 g74 hxs (fun j hj => (w4.2.2.2 _ _ (by omega) (by omega)).trans (h545 j hj)) ?_ xs.length 0 (by omega)
  · rw [dgR_0] at h1
    exact h1
  have w5 : akN M0 (dgR M4 535 (160 * n) xs.length (fun i => xs.getD i 0)) := by unfold dgR; exact akN_r w4 (by omega)
  have r5 : ∀ k, k < n → arcM (dgR M4 535 (160 * n) xs.length (fun i => xs.getD i 0)) k (arc k) := fun k hk => arc_r5 (r4 k hk) hk (hl k hk).1
  have e5 : ∀ b, b ≠ 535 → ∀ j, mI (dgR M4 535 (160 * n) xs.length (fun i => xs.getD i 0)) b j = mI M4 b j := fun b hb j => by unfold dgR; rw [mI_nr hb]
  have q5 : ∀ j, j < xs.length → mI (dgR M4 535 (160 * n) xs.length (fun i => xs.getD i 0)) 535 (160 * n + j) = nI (xs.getD j 0) := fun j hj => by unfold dgR; rw [mI_sRow, if_pos rfl, if_pos (by omega), Nat.add_sub_cancel_left]
  rw [← e5 531 (by omega)] at q1
  rw [← e5 532 (by omega)] at q2
  rw [← e5 533 (by omega)] at q3
  rw [← e5 534 (by omega)] at q4
  rw [← e5 536 (by omega)] at q6
  rw [← e5 538 (by omega)] at q8
  rw [← e5 495 (by omega)] at f55
  generalize dgR M4 535 (160 * n) xs.length (fun i => xs.getD i 0) = M5 at *
  have L5 := akN_L w5 hL
  refine r_X12_keep (fun n => n == 164 || n == 27 || n == 56 || n == 87) 60 ?_
  simp only [cd_X12_keep, cf_X12_keep, wp, wq, wpI, cdF, w_CI, w_CL, w_CN, w_LI, w_LL, w_LA, w_SI, w_SL, w_SA, w_INC, w_II, w_IId, w_LLb, w_LLd, w_LS, w_I1, w_L1, w_I2L, w_L2I, w_CMP, w_DUP, w_POP, w_DUP2, w_IF, w_IC, w_GO, w_NUL, w_ACN, prs, w_GF, w_PF, w_GS, w_IAL, w_LEN, w_LAL, w_ZAL, w_AAL, w_IAS, w_LAS, w_ZAS, w_AAS, w_RI, w_RL, w_RA, w_NEW, w_NA, w_MNA, w_OI, w_THR, w_CV, w_CS, w_CN9, w_CI9, w_MX, w_cont, lget, sto1, sto2, wideV, vo, vo_rv, isR, isR_rv, rv, fget, fput, cats, Value.category, List.headD_cons, List.getD_cons_zero, List.getD_cons_succ, List.drop_succ_cons, List.drop_zero, List.take_succ_cons, List.take_zero, List.reverse_cons, List.reverse_nil, List.nil_append, List.cons_append, List.length_cons, List.length_nil, cond_true, cond_false, and_true, true_and, Nat.zero_add, Nat.add_zero, Nat.reduceAdd, Nat.reduceLT, Nat.reduceLeDiff, Nat.reduceEqDiff, Nat.reduceBEq, Nat.reduceSub, ↓reduceIte, Int32.reduceOfNat, Int64.reduceOfNat, reduceCtorEq, Nat.le_refl, Nat.zero_le, Bool.false_eq_true, beq_self_eq_true, Fin.isValue, Fin.val_zero, Fin.val_one, Fin.reduceFinMk, Fin.val_two, Nat.reduceMod, Bool.or_false, Bool.or_true, Bool.true_or, Bool.false_or, not_true_eq_false, not_false_eq_true, true_or, or_true, implies_true, false_implies, true_implies, Int32.reduceLT, Int32.reduceLE, ↓w_TAB3, ↓w_TAB4, ↓w_TAB5, ↓w_TAB7, ↓w_TAB10, ↓w_LK2, ↓w_LK6, false_and, and_false, i1z, i2z, iz1, im0, im1, l0z]
  have g76 : mI M5 495 76 = nI an.length := (w5.2.2.2 _ _ (by omega) (by omega)).trans aw.1
  have h2 := lp_kp2 (G := G) (Q := Q) (X := X) (x := nI rs) (M := M5) (i := n) (n := an.length) (g := fun i => an.getD i 0) L5 hn f55 g76 han (fun j hj => (w5.2.2.2 _ _ (by omega) (by omega)).trans (aw.2 j hj)) ?_ an.length 0 (by omega)
  · rw [dgR_0] at h2
    exact h2
  have w6 : akN M0 (dgR M5 537 (160 * n) an.length (fun i => an.getD i 0)) := by unfold dgR; exact akN_r w5 (by omega)
  have r6 : ∀ k, k < n → arcM (dgR M5 537 (160 * n) an.length (fun i => an.getD i 0)) k (arc k) := fun k hk => arc_r7 (r5 k hk) hk (hl k hk).2
  have e6 : ∀ b, b ≠ 537 → ∀ j, mI (dgR M5 537 (160 * n) an.length (fun i => an.getD i 0)) b j = mI M5 b j := fun b hb j => by unfold dgR; rw [mI_nr hb]
  have q7 : ∀ j, j < an.length → mI (dgR M5 537 (160 * n) an.length (fun i => an.getD i 0)) 537 (160 * n + j) = nI (an.getD j 0) := fun j hj => by unfold dgR; rw [mI_sRow, if_pos rfl, if_pos (by omega), Nat.add_sub_cancel_left]
  have q5 : ∀ j, j < xs.length → mI (dgR M5 537 (160 * n) an.length (fun i => an.getD i 0)) 535 (160 * n + j) = nI (xs.getD j 0) := fun j hj => (e6 535 (by omega) _).trans (q5 j hj)
  rw [← e6 531 (by omega)] at q1
  rw [← e6 532 (by omega)] at q2
  rw [← e6 533 (by omega)] at q3
  rw [← e6 534 (by omega)] at q4
  rw [← e6 536 (by omega)] at q6
  rw [← e6 538 (by omega)] at q8
  rw [← e6 495 (by omega)] at f55
  generalize dgR M5 537 (160 * n) an.length (fun i => an.getD i 0) = M6 at *
  have L6 := akN_L w6 hL
  refine r_X12_keep (fun n => n == 27 || n == 56 || n == 87) 60 ?_
  simp only [cd_X12_keep, cf_X12_keep, wp, wq, wpI, cdF, w_CI, w_CL, w_CN, w_LI, w_LL, w_LA, w_SI, w_SL, w_SA, w_INC, w_II, w_IId, w_LLb, w_LLd, w_LS, w_I1, w_L1, w_I2L, w_L2I, w_CMP, w_DUP, w_POP, w_DUP2, w_IF, w_IC, w_GO, w_NUL, w_ACN, prs, w_GF, w_PF, w_GS, w_IAL, w_LEN, w_LAL, w_ZAL, w_AAL, w_IAS, w_LAS, w_ZAS, w_AAS, w_RI, w_RL, w_RA, w_NEW, w_NA, w_MNA, w_OI, w_THR, w_CV, w_CS, w_CN9, w_CI9, w_MX, w_cont, lget, sto1, sto2, wideV, vo, vo_rv, isR, isR_rv, rv, fget, fput, cats, Value.category, List.headD_cons, List.getD_cons_zero, List.getD_cons_succ, List.drop_succ_cons, List.drop_zero, List.take_succ_cons, List.take_zero, List.reverse_cons, List.reverse_nil, List.nil_append, List.cons_append, List.length_cons, List.length_nil, cond_true, cond_false, and_true, true_and, Nat.zero_add, Nat.add_zero, Nat.reduceAdd, Nat.reduceLT, Nat.reduceLeDiff, Nat.reduceEqDiff, Nat.reduceBEq, Nat.reduceSub, ↓reduceIte, Int32.reduceOfNat, Int64.reduceOfNat, reduceCtorEq, Nat.le_refl, Nat.zero_le, Bool.false_eq_true, beq_self_eq_true, Fin.isValue, Fin.val_zero, Fin.val_one, Fin.reduceFinMk, Fin.val_two, Nat.reduceMod, Bool.or_false, Bool.or_true, Bool.true_or, Bool.false_or, not_true_eq_false, not_false_eq_true, true_or, or_true, implies_true, false_implies, true_implies, Int32.reduceLT, Int32.reduceLE, ↓w_TAB3, ↓w_TAB4, ↓w_TAB5, ↓w_TAB7, ↓w_TAB10, ↓w_LK2, ↓w_LK6, false_and, and_false, i1z, i2z, iz1, im0, im1, l0z, hasK_uI, hasK_uL, hasK_uR, hasK_uZ, hasK_sRow, mR_uI, mR_uL, mR_uZ, mR_sRow, mI_uL, mI_uR, mI_uZ, mL_uI, mL_uR, mL_uZ, mL_sRow, LF.hg L6, layF, LF.r L6, refF, ne_eq, not_false_eq_true, Option.some.injEq, Sum.inl.injEq, Sum.inr.injEq, Prod.mk.injEq, exists_eq_left, exists_eq_left', f55, nI_1]
  refine hQ _ (akN_u w6 (by omega)) (by rw [mI_uI, if_pos ⟨rfl, rfl⟩]) (fun k hk => arc_uI (r6 k hk) (by omega)) (arc_uI ⟨q1, q2, q3, q8, q4, q5, q6, q7⟩ (by omega))
set_option maxRecDepth 20000 in
theorem m_keep (h : RM S M) (hm : msgM M 67 542 541 m) (ho : okM m) (p3 : pb (gH m) 3 = 1) (p4 : pb (gH m) 4 = 1) (ha : val m 4 < 1000) (h55 : sN S 55 ≤ 24) (hl : ∀ k, k < sN S 55 → (rM (sR S k)).length ≤ 160 ∧ (rO (sR S k)).length ≤ 160) (hT : (sT S).length ≤ 160) (aw : awN M an) (han : an.length ≤ 160) (hx : x = nI rs) (hQ : ∀ M', RM (keep S (val m 4, gT m / 100, val m 3, rs, sT S, an)) M' → akN M M' → Q none M') : Ct G (MT 244) [.ref 495, .int x] M Q X := by
  have hL := h.1
  have hn := h.2.1
  have hT1 := h.2.2.2.2.2.2.2.2.2.1
  have hRr := h.2.2.2.2.2.2.2.1
  have f55 : mI M 495 55 = nI (sN S 55) := by unfold mNn at hn; simp only [hn]
  have t55 := nI_toInt (n := sN S 55) (by omega)
  rw [keep_eq h55] at hQ
  refine Ct.go (L0 := [some (.ref 495), some (.int x), none]) (by decide +kernel) rfl rfl ?_
  by_cases q : sN S 55 < 24
  · have hgo := m_keepR (G := G) (Q := Q) (X := X) (M := M) (n := sN S 55) (arc := sR S) (rs := rs) (x := x) hL hm ho p3 p4 ha hT1.1 hT1.2 hT aw han akN_0 q f55 hl hRr (fun M' w5 g5 r5 x5 => ?_) hx
    · refine r_X12_keep (fun n => n == 11 || n == 43 || n == 27 || n == 56 || n == 87) 60 ?_
      simp only [cd_X12_keep, cf_X12_keep, wp, wq, wpI, cdF, w_CI, w_CL, w_CN, w_LI, w_LL, w_LA, w_SI, w_SL, w_SA, w_INC, w_II, w_IId, w_LLb, w_LLd, w_LS, w_I1, w_L1, w_I2L, w_L2I, w_CMP, w_DUP, w_POP, w_DUP2, w_IF, w_IC, w_GO, w_NUL, w_ACN, prs, w_GF, w_PF, w_GS, w_IAL, w_LEN, w_LAL, w_ZAL, w_AAL, w_IAS, w_LAS, w_ZAS, w_AAS, w_RI, w_RL, w_RA, w_NEW, w_NA, w_MNA, w_OI, w_THR, w_CV, w_CS, w_CN9, w_CI9, w_MX, w_cont, lget, sto1, sto2, wideV, vo, vo_rv, isR, isR_rv, rv, fget, fput, cats, Value.category, List.headD_cons, List.getD_cons_zero, List.getD_cons_succ, List.drop_succ_cons, List.drop_zero, List.take_succ_cons, List.take_zero, List.reverse_cons, List.reverse_nil, List.nil_append, List.cons_append, List.length_cons, List.length_nil, cond_true, cond_false, and_true, true_and, Nat.zero_add, Nat.add_zero, Nat.reduceAdd, Nat.reduceLT, Nat.reduceLeDiff, Nat.reduceEqDiff, Nat.reduceBEq, Nat.reduceSub, ↓reduceIte, Int32.reduceOfNat, Int64.reduceOfNat, reduceCtorEq, Nat.le_refl, Nat.zero_le, Bool.false_eq_true, beq_self_eq_true, Fin.isValue, Fin.val_zero, Fin.val_one, Fin.reduceFinMk, Fin.val_two, Nat.reduceMod, Bool.or_false, Bool.or_true, Bool.true_or, Bool.false_or, not_true_eq_false, not_false_eq_true, true_or, or_true, implies_true, false_implies, true_implies, Int32.reduceLT, Int32.reduceLE, ↓w_TAB3, ↓w_TAB4, ↓w_TAB5, ↓w_TAB7, ↓w_TAB10, ↓w_LK2, ↓w_LK6, false_and, and_false, i1z, i2z, iz1, im0, im1, l0z, hasK_uI, hasK_uL, hasK_uR, hasK_uZ, hasK_sRow, mR_uI, mR_uL, mR_uZ, mR_sRow, mI_uL, mI_uR, mI_uZ, mL_uI, mL_uR, mL_uZ, mL_sRow, LF.hg hL, layF, LF.r hL, refF, ne_eq, not_false_eq_true, Option.some.injEq, Sum.inl.injEq, Sum.inr.injEq, Prod.mk.injEq, exists_eq_left, exists_eq_left', f55]
      refine and_ii (fun _ => hgo) (fun q' => ?_)
      exfalso; (simp only [i_lt, i_le, i_eq, l_lt, l_le, l_eq, Int32.toInt_toInt64, Int32.reduceToInt, Int64.reduceToInt, ne_eq, Classical.not_not] at *; omega)
    · rw [if_pos q, if_pos q] at hQ
      refine hQ M' (RM_ak h w5 g5 (fun k hk => ?_)) w5
      by_cases e : k = sN S 55
      · subst e; rw [up1_same]; exact x5
      · rw [up1_ne e]; exact r5 k (by omega)
  · have e24 : sN S 55 = 24 := by omega
    rw [if_neg q, if_neg q] at hQ
    rw [e24] at f55 hl hRr
    refine r_X12_keep (fun n => n == 11 || n == 43 || n == 27 || n == 56 || n == 87) 60 ?_
    simp only [cd_X12_keep, cf_X12_keep, wp, wq, wpI, cdF, w_CI, w_CL, w_CN, w_LI, w_LL, w_LA, w_SI, w_SL, w_SA, w_INC, w_II, w_IId, w_LLb, w_LLd, w_LS, w_I1, w_L1, w_I2L, w_L2I, w_CMP, w_DUP, w_POP, w_DUP2, w_IF, w_IC, w_GO, w_NUL, w_ACN, prs, w_GF, w_PF, w_GS, w_IAL, w_LEN, w_LAL, w_ZAL, w_AAL, w_IAS, w_LAS, w_ZAS, w_AAS, w_RI, w_RL, w_RA, w_NEW, w_NA, w_MNA, w_OI, w_THR, w_CV, w_CS, w_CN9, w_CI9, w_MX, w_cont, lget, sto1, sto2, wideV, vo, vo_rv, isR, isR_rv, rv, fget, fput, cats, Value.category, List.headD_cons, List.getD_cons_zero, List.getD_cons_succ, List.drop_succ_cons, List.drop_zero, List.take_succ_cons, List.take_zero, List.reverse_cons, List.reverse_nil, List.nil_append, List.cons_append, List.length_cons, List.length_nil, cond_true, cond_false, and_true, true_and, Nat.zero_add, Nat.add_zero, Nat.reduceAdd, Nat.reduceLT, Nat.reduceLeDiff, Nat.reduceEqDiff, Nat.reduceBEq, Nat.reduceSub, ↓reduceIte, Int32.reduceOfNat, Int64.reduceOfNat, reduceCtorEq, Nat.le_refl, Nat.zero_le, Bool.false_eq_true, beq_self_eq_true, Fin.isValue, Fin.val_zero, Fin.val_one, Fin.reduceFinMk, Fin.val_two, Nat.reduceMod, Bool.or_false, Bool.or_true, Bool.true_or, Bool.false_or, not_true_eq_false, not_false_eq_true, true_or, or_true, implies_true, false_implies, true_implies, Int32.reduceLT, Int32.reduceLE, ↓w_TAB3, ↓w_TAB4, ↓w_TAB5, ↓w_TAB7, ↓w_TAB10, ↓w_LK2, ↓w_LK6, false_and, and_false, i1z, i2z, iz1, im0, im1, l0z, hasK_uI, hasK_uL, hasK_uR, hasK_uZ, hasK_sRow, mR_uI, mR_uL, mR_uZ, mR_sRow, mI_uL, mI_uR, mI_uZ, mL_uI, mL_uR, mL_uZ, mL_sRow, LF.hg hL, layF, LF.r hL, refF, ne_eq, not_false_eq_true, Option.some.injEq, Sum.inl.injEq, Sum.inr.injEq, Prod.mk.injEq, exists_eq_left, exists_eq_left', f55]
    refine and_ii (fun q' => absurd rfl q') (fun _ => ?_)
    refine lp_shiftK (arc := sR S) hL hl (fun M1 w1 g1 r1 => ?_) 23 1 M (by omega) (by omega) akN_0 f55 (fun j hj => by omega) (fun j h1 h2 => hRr j h2)
    have L1 := akN_L w1 hL
    have e23 : nI 24 - 1 = nI 23 := rfl
    refine r_X12_keep (fun n => n == 43 || n == 27 || n == 56 || n == 87) 60 ?_
    simp only [cd_X12_keep, cf_X12_keep, wp, wq, wpI, cdF, w_CI, w_CL, w_CN, w_LI, w_LL, w_LA, w_SI, w_SL, w_SA, w_INC, w_II, w_IId, w_LLb, w_LLd, w_LS, w_I1, w_L1, w_I2L, w_L2I, w_CMP, w_DUP, w_POP, w_DUP2, w_IF, w_IC, w_GO, w_NUL, w_ACN, prs, w_GF, w_PF, w_GS, w_IAL, w_LEN, w_LAL, w_ZAL, w_AAL, w_IAS, w_LAS, w_ZAS, w_AAS, w_RI, w_RL, w_RA, w_NEW, w_NA, w_MNA, w_OI, w_THR, w_CV, w_CS, w_CN9, w_CI9, w_MX, w_cont, lget, sto1, sto2, wideV, vo, vo_rv, isR, isR_rv, rv, fget, fput, cats, Value.category, List.headD_cons, List.getD_cons_zero, List.getD_cons_succ, List.drop_succ_cons, List.drop_zero, List.take_succ_cons, List.take_zero, List.reverse_cons, List.reverse_nil, List.nil_append, List.cons_append, List.length_cons, List.length_nil, cond_true, cond_false, and_true, true_and, Nat.zero_add, Nat.add_zero, Nat.reduceAdd, Nat.reduceLT, Nat.reduceLeDiff, Nat.reduceEqDiff, Nat.reduceBEq, Nat.reduceSub, ↓reduceIte, Int32.reduceOfNat, Int64.reduceOfNat, reduceCtorEq, Nat.le_refl, Nat.zero_le, Bool.false_eq_true, beq_self_eq_true, Fin.isValue, Fin.val_zero, Fin.val_one, Fin.reduceFinMk, Fin.val_two, Nat.reduceMod, Bool.or_false, Bool.or_true, Bool.true_or, Bool.false_or, not_true_eq_false, not_false_eq_true, true_or, or_true, implies_true, false_implies, true_implies, Int32.reduceLT, Int32.reduceLE, ↓w_TAB3, ↓w_TAB4, ↓w_TAB5, ↓w_TAB7, ↓w_TAB10, ↓w_LK2, ↓w_LK6, false_and, and_false, i1z, i2z, iz1, im0, im1, l0z, hasK_uI, hasK_uL, hasK_uR, hasK_uZ, hasK_sRow, mR_uI, mR_uL, mR_uZ, mR_sRow, mI_uL, mI_uR, mI_uZ, mL_uI, mL_uR, mL_uZ, mL_sRow, LF.hg L1, layF, LF.r L1, refF, ne_eq, not_false_eq_true, Option.some.injEq, Sum.inl.injEq, Sum.inr.injEq, Prod.mk.injEq, exists_eq_left, exists_eq_left', g1, e23]
    refine m_keepR (n := 23) (arc := fun k => sR S (k + 1)) (rs := rs) hL hm ho p3 p4 ha hT1.1 hT1.2 hT aw han (akN_u w1 (by omega)) (by omega) (by rw [mI_uI, if_pos ⟨rfl, rfl⟩]) (fun k hk => hl _ (by omega)) (fun k hk => arc_uI (r1 k hk) (by omega)) (fun M' w5 g5 r5 x5 => ?_) hx
    refine hQ M' (RM_ak h w5 (by rw [g5, e24]) (fun k hk => ?_)) w5
    rw [e24] at hk
    show arcM M' k (if k < 23 then sR S (k + 1) else _)
    by_cases e : k < 23
    · rw [if_pos e]; exact r5 k e
    · rw [if_neg e, show k = 23 by omega]; exact x5
end KPN
