/-! A PAYMENT COMES: the reference -/
section CMM
variable {G : En} {M M0 Mz M' : Mem} {Q : Option Value → Mem → Prop} {X : String → Mem → Prop} {S : Sw} {t a b j k v i np T A s n d N r acc : Nat} {x y : Int32} {m mx : Msg} {g : Nat → Nat}
theorem dgR_s {r p k : Nat} : uI (dgR M r p k g) r (p + k) (nI (g k)) = dgR M r p (k + 1) g := by
  unfold dgR
  rw [uI_sRow]
  refine sRow_congr (fun i => ?_)
  by_cases q : i = p + k
  · subst q
    rw [if_pos rfl, if_pos (by omega), Nat.add_sub_cancel_left]
  · rw [if_neg q]
    by_cases q2 : p ≤ i ∧ i < p + k
    · rw [if_pos q2, if_pos (by omega)]
    · rw [if_neg q2, if_neg (by omega)]
theorem dgR_0 {r p : Nat} : dgR M r p 0 g = M := by
  unfold dgR
  rw [sRow_congr (g := mI M r) (fun i => by rw [if_neg (by omega)]), sRow_id]
theorem lp_come1 (hL : LF M) (hi : i < 60) (hrow : ∀ j, j < 12 → mI M 541 (210 + j) = nI (g j)) (hQ : Go G (MT 256) Q X 62 [some (.ref 495), some (.int x), some (.int (nI i)), none] [] (dgR M 518 (12 * i) 12 g) 0 0) : ∀ (r k : Nat), r + k = 12 → Go G (MT 256) Q X 29 [some (.ref 495), some (.int x), some (.int (nI i)), some (.int (nI k))] [] (dgR M 518 (12 * i) k g) 0 0 := by
  have e12 : (12 : Int32) * nI i = nI (12 * i) := nI_mul (a := 12) (by omega) (by omega) (by omega)
  intro r
  induction r with
  | zero =>
    intro k hk
    have hk : k = 12 := by omega
    subst hk
    refine r_X12_come (fun n => n == 29 || n == 62 || n == 25 || n == 128) 60 ?_
    simp only [cd_X12_come, cf_X12_come, wp, wq, wpI, cdF, w_CI, w_CL, w_CN, w_LI, w_LL, w_LA, w_SI, w_SL, w_SA, w_INC, w_II, w_IId, w_LLb, w_LLd, w_LS, w_I1, w_L1, w_I2L, w_L2I, w_CMP, w_DUP, w_POP, w_DUP2, w_IF, w_IC, w_GO, w_NUL, w_ACN, prs, w_GF, w_PF, w_GS, w_IAL, w_LEN, w_LAL, w_ZAL, w_AAL, w_IAS, w_LAS, w_ZAS, w_AAS, w_RI, w_RL, w_RA, w_NEW, w_NA, w_MNA, w_OI, w_THR, w_CV, w_CS, w_CN9, w_CI9, w_MX, w_cont, lget, sto1, sto2, wideV, vo, vo_rv, isR, isR_rv, rv, fget, fput, cats, Value.category, List.headD_cons, List.getD_cons_zero, List.getD_cons_succ, List.drop_succ_cons, List.drop_zero, List.take_succ_cons, List.take_zero, List.reverse_cons, List.reverse_nil, List.nil_append, List.cons_append, List.length_cons, List.length_nil, cond_true, cond_false, and_true, true_and, Nat.zero_add, Nat.add_zero, Nat.reduceAdd, Nat.reduceLT, Nat.reduceLeDiff, Nat.reduceEqDiff, Nat.reduceBEq, Nat.reduceSub, ↓reduceIte, Int32.reduceOfNat, Int64.reduceOfNat, reduceCtorEq, Nat.le_refl, Nat.zero_le, Bool.false_eq_true, beq_self_eq_true, Fin.isValue, Fin.val_zero, Fin.val_one, Fin.reduceFinMk, Fin.val_two, Nat.reduceMod, Bool.or_false, Bool.or_true, Bool.true_or, Bool.false_or, not_true_eq_false, not_false_eq_true, true_or, or_true, implies_true, false_implies, true_implies, Int32.reduceLT, Int32.reduceLE, ↓w_TAB3, ↓w_TAB4, ↓w_TAB5, ↓w_TAB7, ↓w_TAB10, ↓w_LK2, ↓w_LK6, false_and, and_false, i1z, i2z, iz1, im0, im1, l0z]
    refine ⟨fun _ => Go.less hQ (fun k v h => ?_), fun q => absurd (nI_le (Nat.le_refl 12) (by omega)) q⟩
    rcases k with _ | _ | _ | _ | k <;> simp at h ⊢ <;> exact h
  | succ r ih =>
    intro k hk
    have tk := nI_toInt (n := k) (by omega)
    have ih' := ih (k + 1) (by omega)
    rw [← dgR_s] at ih'
    have ea : nI (12 * i) + nI k = nI (12 * i + k) := nI_add _ _
    have ca := nI_clamp (n := 12 * i + k) (by omega)
    have eb : (210 : Int32) + nI k = nI (210 + k) := nI_add 210 k
    have cb := nI_clamp (n := 210 + k) (by omega)
    have g2 : mI (dgR M 518 (12 * i) k g) 541 (210 + k) = nI (g k) := by unfold dgR; rw [mI_nr (by omega)]; exact hrow k (by omega)
    have hL1 : LF (dgR M 518 (12 * i) k g) := hL
    generalize dgR M 518 (12 * i) k g = M1 at *
    refine r_X12_come (fun n => n == 29 || n == 62 || n == 25 || n == 128) 60 ?_
    simp only [cd_X12_come, cf_X12_come, wp, wq, wpI, cdF, w_CI, w_CL, w_CN, w_LI, w_LL, w_LA, w_SI, w_SL, w_SA, w_INC, w_II, w_IId, w_LLb, w_LLd, w_LS, w_I1, w_L1, w_I2L, w_L2I, w_CMP, w_DUP, w_POP, w_DUP2, w_IF, w_IC, w_GO, w_NUL, w_ACN, prs, w_GF, w_PF, w_GS, w_IAL, w_LEN, w_LAL, w_ZAL, w_AAL, w_IAS, w_LAS, w_ZAS, w_AAS, w_RI, w_RL, w_RA, w_NEW, w_NA, w_MNA, w_OI, w_THR, w_CV, w_CS, w_CN9, w_CI9, w_MX, w_cont, lget, sto1, sto2, wideV, vo, vo_rv, isR, isR_rv, rv, fget, fput, cats, Value.category, List.headD_cons, List.getD_cons_zero, List.getD_cons_succ, List.drop_succ_cons, List.drop_zero, List.take_succ_cons, List.take_zero, List.reverse_cons, List.reverse_nil, List.nil_append, List.cons_append, List.length_cons, List.length_nil, cond_true, cond_false, and_true, true_and, Nat.zero_add, Nat.add_zero, Nat.reduceAdd, Nat.reduceLT, Nat.reduceLeDiff, Nat.reduceEqDiff, Nat.reduceBEq, Nat.reduceSub, ↓reduceIte, Int32.reduceOfNat, Int64.reduceOfNat, reduceCtorEq, Nat.le_refl, Nat.zero_le, Bool.false_eq_true, beq_self_eq_true, Fin.isValue, Fin.val_zero, Fin.val_one, Fin.reduceFinMk, Fin.val_two, Nat.reduceMod, Bool.or_false, Bool.or_true, Bool.true_or, Bool.false_or, not_true_eq_false, not_false_eq_true, true_or, or_true, implies_true, false_implies, true_implies, Int32.reduceLT, Int32.reduceLE, ↓w_TAB3, ↓w_TAB4, ↓w_TAB5, ↓w_TAB7, ↓w_TAB10, ↓w_LK2, ↓w_LK6, false_and, and_false, i1z, i2z, iz1, im0, im1, l0z, hasK_uI, hasK_uL, hasK_uR, hasK_uZ, hasK_sRow, mR_uI, mR_uL, mR_uZ, mR_sRow, mI_uL, mI_uR, mI_uZ, mL_uI, mL_uR, mL_uZ, mL_sRow, LF.hg hL1, layF, LF.r hL1, refF, ne_eq, not_false_eq_true, Option.some.injEq, Sum.inl.injEq, Sum.inr.injEq, Prod.mk.injEq, exists_eq_left, exists_eq_left', e12, ea, ca, eb, cb, g2, nI_1]
    refine and_ii (fun q => ?_) (fun _ => ⟨vp_in_nI (by omega) (by omega), vp_in_nI (by omega) (by omega), ih'⟩)
    exfalso; (simp only [i_lt, i_le, i_eq, l_lt, l_le, l_eq, Int32.toInt_toInt64, Int32.reduceToInt, Int64.reduceToInt, ne_eq, Classical.not_not] at *; omega)
theorem lp_come2 (hL : LF M) (hi : i < 60) (hlen : mI M 542 0 = nI n) (hn : n ≤ 19) (hrow : ∀ j, j < n → mI M 541 j = nI (g j)) (hQ : Go G (MT 256) Q X 111 [some (.ref 495), some (.int x), some (.int (nI i)), none] [] (dgR M 519 (19 * i) n g) 0 0) : ∀ (r k : Nat), r + k = n → Go G (MT 256) Q X 76 [some (.ref 495), some (.int x), some (.int (nI i)), some (.int (nI k))] [] (dgR M 519 (19 * i) k g) 0 0 := by
  have e19 : (19 : Int32) * nI i = nI (19 * i) := nI_mul (a := 19) (by omega) (by omega) (by omega)
  have tn := nI_toInt (n := n) (by omega)
  have z0 : (0 : Int32).toNatClampNeg = 0 := rfl
  have hv0 : vp_in (0 : Int32) 16 := vp_in_i (by simp)
  intro r
  induction r with
  | zero =>
    intro k hk
    have hk : k = n := by omega
    subst hk
    have g1 : mI (dgR M 519 (19 * i) k g) 542 0 = nI k := by unfold dgR; rw [mI_nr (by omega)]; exact hlen
    have hL1 : LF (dgR M 519 (19 * i) k g) := hL
    generalize dgR M 519 (19 * i) k g = M1 at *
    refine r_X12_come (fun n => n == 76 || n == 111 || n == 25 || n == 128) 60 ?_
    simp only [cd_X12_come, cf_X12_come, wp, wq, wpI, cdF, w_CI, w_CL, w_CN, w_LI, w_LL, w_LA, w_SI, w_SL, w_SA, w_INC, w_II, w_IId, w_LLb, w_LLd, w_LS, w_I1, w_L1, w_I2L, w_L2I, w_CMP, w_DUP, w_POP, w_DUP2, w_IF, w_IC, w_GO, w_NUL, w_ACN, prs, w_GF, w_PF, w_GS, w_IAL, w_LEN, w_LAL, w_ZAL, w_AAL, w_IAS, w_LAS, w_ZAS, w_AAS, w_RI, w_RL, w_RA, w_NEW, w_NA, w_MNA, w_OI, w_THR, w_CV, w_CS, w_CN9, w_CI9, w_MX, w_cont, lget, sto1, sto2, wideV, vo, vo_rv, isR, isR_rv, rv, fget, fput, cats, Value.category, List.headD_cons, List.getD_cons_zero, List.getD_cons_succ, List.drop_succ_cons, List.drop_zero, List.take_succ_cons, List.take_zero, List.reverse_cons, List.reverse_nil, List.nil_append, List.cons_append, List.length_cons, List.length_nil, cond_true, cond_false, and_true, true_and, Nat.zero_add, Nat.add_zero, Nat.reduceAdd, Nat.reduceLT, Nat.reduceLeDiff, Nat.reduceEqDiff, Nat.reduceBEq, Nat.reduceSub, ↓reduceIte, Int32.reduceOfNat, Int64.reduceOfNat, reduceCtorEq, Nat.le_refl, Nat.zero_le, Bool.false_eq_true, beq_self_eq_true, Fin.isValue, Fin.val_zero, Fin.val_one, Fin.reduceFinMk, Fin.val_two, Nat.reduceMod, Bool.or_false, Bool.or_true, Bool.true_or, Bool.false_or, not_true_eq_false, not_false_eq_true, true_or, or_true, implies_true, false_implies, true_implies, Int32.reduceLT, Int32.reduceLE, ↓w_TAB3, ↓w_TAB4, ↓w_TAB5, ↓w_TAB7, ↓w_TAB10, ↓w_LK2, ↓w_LK6, false_and, and_false, i1z, i2z, iz1, im0, im1, l0z, hasK_uI, hasK_uL, hasK_uR, hasK_uZ, hasK_sRow, mR_uI, mR_uL, mR_uZ, mR_sRow, mI_uL, mI_uR, mI_uZ, mL_uI, mL_uR, mL_uZ, mL_sRow, LF.hg hL1, layF, LF.r hL1, refF, ne_eq, not_false_eq_true, Option.some.injEq, Sum.inl.injEq, Sum.inr.injEq, Prod.mk.injEq, exists_eq_left, exists_eq_left', z0, g1]
    refine ⟨hv0, fun _ => Go.less hQ (fun k v h => ?_), fun q => absurd (nI_le (Nat.le_refl _) (by omega)) q⟩
    rcases k with _ | _ | _ | _ | k <;> simp at h ⊢ <;> exact h
  | succ r ih =>
    intro k hk
    have tk := nI_toInt (n := k) (by omega)
    have ih' := ih (k + 1) (by omega)
    rw [← dgR_s] at ih'
    have ea : nI (19 * i) + nI k = nI (19 * i + k) := nI_add _ _
    have ca := nI_clamp (n := 19 * i + k) (by omega)
    have eb : (0 : Int32) + nI k = nI k := by rw [show (0 : Int32) = nI 0 from rfl, nI_add, Nat.zero_add]
    have ck := nI_clamp (n := k) (by omega)
    have g1 : mI (dgR M 519 (19 * i) k g) 542 0 = nI n := by unfold dgR; rw [mI_nr (by omega)]; exact hlen
    have g2 : mI (dgR M 519 (19 * i) k g) 541 k = nI (g k) := by unfold dgR; rw [mI_nr (by omega)]; exact hrow k (by omega)
    have hL1 : LF (dgR M 519 (19 * i) k g) := hL
    generalize dgR M 519 (19 * i) k g = M1 at *
    refine r_X12_come (fun n => n == 76 || n == 111 || n == 25 || n == 128) 60 ?_
    simp only [cd_X12_come, cf_X12_come, wp, wq, wpI, cdF, w_CI, w_CL, w_CN, w_LI, w_LL, w_LA, w_SI, w_SL, w_SA, w_INC, w_II, w_IId, w_LLb, w_LLd, w_LS, w_I1, w_L1, w_I2L, w_L2I, w_CMP, w_DUP, w_POP, w_DUP2, w_IF, w_IC, w_GO, w_NUL, w_ACN, prs, w_GF, w_PF, w_GS, w_IAL, w_LEN, w_LAL, w_ZAL, w_AAL, w_IAS, w_LAS, w_ZAS, w_AAS, w_RI, w_RL, w_RA, w_NEW, w_NA, w_MNA, w_OI, w_THR, w_CV, w_CS, w_CN9, w_CI9, w_MX, w_cont, lget, sto1, sto2, wideV, vo, vo_rv, isR, isR_rv, rv, fget, fput, cats, Value.category, List.headD_cons, List.getD_cons_zero, List.getD_cons_succ, List.drop_succ_cons, List.drop_zero, List.take_succ_cons, List.take_zero, List.reverse_cons, List.reverse_nil, List.nil_append, List.cons_append, List.length_cons, List.length_nil, cond_true, cond_false, and_true, true_and, Nat.zero_add, Nat.add_zero, Nat.reduceAdd, Nat.reduceLT, Nat.reduceLeDiff, Nat.reduceEqDiff, Nat.reduceBEq, Nat.reduceSub, ↓reduceIte, Int32.reduceOfNat, Int64.reduceOfNat, reduceCtorEq, Nat.le_refl, Nat.zero_le, Bool.false_eq_true, beq_self_eq_true, Fin.isValue, Fin.val_zero, Fin.val_one, Fin.reduceFinMk, Fin.val_two, Nat.reduceMod, Bool.or_false, Bool.or_true, Bool.true_or, Bool.false_or, not_true_eq_false, not_false_eq_true, true_or, or_true, implies_true, false_implies, true_implies, Int32.reduceLT, Int32.reduceLE, ↓w_TAB3, ↓w_TAB4, ↓w_TAB5, ↓w_TAB7, ↓w_TAB10, ↓w_LK2, ↓w_LK6, false_and, and_false, i1z, i2z, iz1, im0, im1, l0z, hasK_uI, hasK_uL, hasK_uR, hasK_uZ, hasK_sRow, mR_uI, mR_uL, mR_uZ, mR_sRow, mI_uL, mI_uR, mI_uZ, mL_uI, mL_uR, mL_uZ, mL_sRow, LF.hg hL1, layF, LF.r hL1, refF, ne_eq, not_false_eq_true, Option.some.injEq, Sum.inl.injEq, Sum.inr.injEq, Prod.mk.injEq, exists_eq_left, exists_eq_left', z0, g1, e19, ea, ca, eb, ck, g2, nI_1]
    refine ⟨hv0, and_ii (fun q => ?_) (fun _ => ⟨vp_in_nI (by omega) (by omega), vp_in_nI (by omega) (by omega), ih'⟩)⟩
    exfalso; (simp only [i_lt, i_le, i_eq, l_lt, l_le, l_eq, Int32.toInt_toInt64, Int32.reduceToInt, Int64.reduceToInt, ne_eq, Classical.not_not] at *; omega)
theorem payM_u5 {p : Py} {y : Int32} (h : payM M i p) : payM (uI M 495 j y) i p := by
  unfold payM at *
  simp only [mL_uI]
  have e : ∀ b k, b ≠ 495 → mI (uI M 495 j y) b k = mI M b k := fun b k hb => mI_ne (by omega)
  simp only [e 516 _ (by omega), e 517 _ (by omega), e 518 _ (by omega), e 519 _ (by omega), e 520 _ (by omega), e 521 _ (by omega), e 522 _ (by omega), e 523 _ (by omega), e 526 _ (by omega), e 527 _ (by omega), e 528 _ (by omega), e 530 _ (by omega)]
  exact h
/-- the numbers of payments go on -/
theorem RM_come {p : Py} (h : RX S M) (hp : ∀ i, i < sN S 39 → payM M i (sP S i)) (hq : payM M (sN S 39) p) : RM (come S p) (uI (uI M 495 12 (nI (sN S 12 + 1))) 495 39 (nI (sN S 39 + 1))) := by
  obtain ⟨hL, hN, hI, hLl, hA, hC, hRr, hD, hT, hZ, hK⟩ := h
  refine ⟨hL, ?_, (by repeat (first | exact hI | refine mIi_uI ?_ (by omega) | refine mIi_uI ?_ | refine mIi_uL ?_ (by omega) | refine mIi_uL ?_ | refine mIi_uR ?_ (by omega) | refine mIi_uR ?_ | refine mIi_sRow ?_ (by omega) | refine mIi_sRow ?_ | refine mIi_uZ ?_)), hLl, (by repeat (first | exact hA | refine mA_uI ?_ (by omega) | refine mA_uI ?_ | refine mA_uL ?_ (by omega) | refine mA_uL ?_ | refine mA_uR ?_ (by omega) | refine mA_uR ?_ | refine mA_sRow ?_ (by omega) | refine mA_sRow ?_ | refine mA_uZ ?_)), (by repeat (first | exact hC | refine mC_uI ?_ (by omega) | refine mC_uI ?_ | refine mC_uL ?_ (by omega) | refine mC_uL ?_ | refine mC_uR ?_ (by omega) | refine mC_uR ?_ | refine mC_sRow ?_ (by omega) | refine mC_sRow ?_ | refine mC_uZ ?_)), fun i hi => ?_, (by repeat (first | exact hRr | refine mRr_uI ?_ (by omega) | refine mRr_uI ?_ | refine mRr_uL ?_ (by omega) | refine mRr_uL ?_ | refine mRr_uR ?_ (by omega) | refine mRr_uR ?_ | refine mRr_sRow ?_ (by omega) | refine mRr_sRow ?_ | refine mRr_uZ ?_)), (by repeat (first | exact hD | refine msgM_uI ?_ (by omega) | refine msgM_uI ?_ | refine msgM_uL ?_ (by omega) | refine msgM_uL ?_ | refine msgM_uR ?_ (by omega) | refine msgM_uR ?_ | refine msgM_sRow ?_ (by omega) | refine msgM_sRow ?_ | refine msgM_uZ ?_)), (by repeat (first | exact hT | refine BYM_uI ?_ (by omega) | refine BYM_uI ?_ | refine BYM_uL ?_ (by omega) | refine BYM_uL ?_ | refine BYM_uR ?_ (by omega) | refine BYM_uR ?_ | refine BYM_sRow ?_ (by omega) | refine BYM_sRow ?_ | refine BYM_uZ ?_)), (by repeat (first | exact hZ | refine BYM_uI ?_ (by omega) | refine BYM_uI ?_ | refine BYM_uL ?_ (by omega) | refine BYM_uL ?_ | refine BYM_uR ?_ (by omega) | refine BYM_uR ?_ | refine BYM_sRow ?_ (by omega) | refine BYM_sRow ?_ | refine BYM_uZ ?_)), (by repeat (first | exact hK | refine mK_uI ?_ (by omega) | refine mK_uI ?_ | refine mK_uL ?_ (by omega) | refine mK_uL ?_ | refine mK_uR ?_ (by omega) | refine mK_uR ?_ | refine mK_sRow ?_ (by omega) | refine mK_sRow ?_ | refine mK_uZ ?_))⟩
  · unfold mNn at hN ⊢
    obtain ⟨g1, g2, g3, g4, g5, g6, g7, g8, g9, g10, g11, g12, g13, g14, g15, g16, g17, g18, g19, g20⟩ := hN
    have e : ∀ k, k ≠ 12 → k ≠ 39 → mI (uI (uI M 495 12 (nI (sN S 12 + 1))) 495 39 (nI (sN S 39 + 1))) 495 k = mI M 495 k := fun k h1 h2 => by rw [mI_ne (by omega), mI_ne (by omega)]
    refine ⟨by rw [e _ (by omega) (by omega)]; exact g1, by rw [e _ (by omega) (by omega)]; exact g2, by rw [e _ (by omega) (by omega)]; exact g3, by rw [e _ (by omega) (by omega)]; exact g4, by rw [e _ (by omega) (by omega)]; exact g5, by rw [e _ (by omega) (by omega)]; exact g6, by rw [e _ (by omega) (by omega)]; exact g7, by rw [e _ (by omega) (by omega)]; exact g8, by rw [e _ (by omega) (by omega)]; exact g9, by rw [e _ (by omega) (by omega)]; exact g10, by rw [mI_uI, if_pos ⟨rfl, rfl⟩]; rfl, by rw [mI_ne (by omega), mI_uI, if_pos ⟨rfl, rfl⟩]; rfl, by rw [e _ (by omega) (by omega)]; exact g13, by rw [e _ (by omega) (by omega)]; exact g14, by rw [e _ (by omega) (by omega)]; exact g15, by rw [e _ (by omega) (by omega)]; exact g16, by rw [e _ (by omega) (by omega)]; exact g17, by rw [e _ (by omega) (by omega)]; exact g18, by rw [e _ (by omega) (by omega)]; exact g19, by rw [e _ (by omega) (by omega)]; exact g20⟩
  · have hi : i < sN S 39 + 1 := hi
    show payM _ i (up1 (sP S) (sN S 39) p i)
    by_cases e : i = sN S 39
    · subst e; rw [up1_same]; exact payM_u5 (payM_u5 hq)
    · rw [up1_ne e]; exact payM_u5 (payM_u5 (hp i (by omega)))
end CMM
