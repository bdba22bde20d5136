/-! card, the reference -/
section CR3
variable {G : En} {M M0 Mz : Mem} {Q : Option Value → Mem → Prop} {X : String → Mem → Prop} {S : Sw} {t : Nat} {r : Re} {N : Nat} {v : Int64}
theorem lsum_congr {f g : Nat → Nat} : ∀ k, (∀ i, i < k → f i = g i) → lsum f k = lsum g k
  | 0, _ => rfl
  | k + 1, h => by rw [lsum, lsum, lsum_congr k (fun i hi => h i (by omega)), h k (by omega)]
theorem lsum_0 {f : Nat → Nat} {n : Nat} (h : ∀ i, n ≤ i → f i = 0) : ∀ k, lsum f (n + k) = lsum f n
  | 0 => rfl
  | k + 1 => by
    rw [show n + (k + 1) = (n + k) + 1 by omega, lsum, lsum_0 h k, h (n + k) (by omega)]
    simp
theorem lsum_card (h : nd N ≤ 19) : lsum (fun k => dgt 10 (nd N) N (nd N - 1 - k)) (nd N) = lsum (fun k => N / 10 ^ k % 10) 19 := by
  have h1 : lsum (fun k => N / 10 ^ k % 10) (nd N + (19 - nd N)) = lsum (fun k => N / 10 ^ k % 10) (nd N) := lsum_0 (fun i hi => by
    have : N < 10 ^ i := Nat.lt_of_lt_of_le (lt_nd N) (Nat.pow_le_pow_right (by omega) hi)
    show N / 10 ^ i % 10 = 0
    rw [Nat.div_eq_of_lt this]) _
  rw [show nd N + (19 - nd N) = 19 by omega] at h1
  rw [h1]
  refine lsum_congr _ (fun i hi => ?_)
  show dgt 10 (nd N) N (nd N - 1 - i) = N / 10 ^ i % 10
  unfold dgt
  rw [show nd N - 1 - (nd N - 1 - i) = i by omega]
theorem mC_dgR {nc p n : Nat} {crd g : Nat → Nat} (h : mC nc crd M) (h19 : ∀ i, i < nc → nd (crd i) ≤ 19) (hp : 19 * nc ≤ p) : mC nc crd (dgR M 512 p n g) := fun i hi => by
  unfold dgR
  rw [mI_nr (by omega)]
  refine ⟨(h i hi).1, fun j hj => ?_⟩
  have := h19 i hi
  rw [mI_sRow, if_pos rfl, if_neg (by omega)]
  exact (h i hi).2 j hj
theorem mC_add {nc : Nat} {crd : Nat → Nat} (h : mC nc crd M) (hrow : ∀ j, j < nd N → mI M 512 (19 * nc + j) = nI (dgt 10 (nd N) N j)) : mC (nc + 1) (up1 crd nc N) (uI M 513 nc (nI (nd N))) := fun i hi => by
  unfold up1
  by_cases e : i = nc
  · subst e
    rw [if_pos rfl, mI_uI, if_pos ⟨rfl, rfl⟩]
    exact ⟨rfl, fun j hj => by rw [mI_ne (by omega)]; exact hrow j hj⟩
  · rw [if_neg e, mI_ne (by omega)]
    exact ⟨(h i (by omega)).1, fun j hj => by rw [mI_ne (by omega)]; exact (h i (by omega)).2 j hj⟩
/-- the digits of a number that is told find the card of this number -/
theorem cdP_iff {crd : Nat → Nat} {c : Nat} : cdP crd (dgt 10 (nd N) N) (nd N) c = decide (crd c = N) := by
  unfold cdP
  refine decide_eq_decide.mpr ⟨fun q => ?_, fun q => ?_⟩
  · have h1 := eqN_iff.mp q.2
    have e1 := vl_dgt_all (lt_nd (crd c))
    have e2 := vl_dgt_all (lt_nd N)
    rw [← e1, ← e2, q.1]
    rw [q.1] at h1
    exact vl_congr h1
  · rw [q]
    exact ⟨rfl, eqN_iff.mpr (fun _ _ => rfl)⟩
theorem m_card {x : Int32} (hR : RM S M) (hj : Jv t S) : Ct G (MT 195) [.ref 495, .long v, .int x] M (QmI M (o_card S v.toInt x.toInt)) X := by
  obtain ⟨hL, hN, hI, hLl, hA, hC, hP, hRr, hD, hT, hZ, hK⟩ := id hR
  have hs := hj.1
  have hn := hN
  unfold mNn at hn
  unfold jS at hs
  have t4 := nI_toInt (n := sN S 4) (by omega)
  have c4 := nI_clamp (n := sN S 4) (by omega)
  have t28 := nI_toInt (n := sN S 28) (by omega)
  have c28 := nI_clamp (n := sN S 28) (by omega)
  have t34 := nI_toInt (n := sN S 34) (by omega)
  have c34 := nI_clamp (n := sN S 34) (by omega)
  have bv := (l_bnd v).2
  have hno : ∀ (q : ¬ (0 ≤ v.toInt ∧ 12 ≤ nd v.toInt.toNat ∧ nd v.toInt.toNat ≤ 18 ∧ 0 ≤ x.toInt ∧ x.toInt < sN S 28)) (b : Int32), Ct G (MT 181) [.ref 495, .int 0, .int b] M (fun v' M' => ∃ x_1, v' = some (Value.int x_1) ∧ Go G (MT 195) (QmI M (o_card S v.toInt x.toInt)) X 70 [some (.ref 495), some (.long v), none, some (.int x), some (.int 0), none, none, none] [.int x_1] M' 0 0) X := fun q b => by
    refine m_goes_1 hL ⟨_, rfl, ?_⟩
    refine r_X12_card (fun n => n == 10 || n == 19 || n == 70 || n == 79 || n == 102 || n == 113 || n == 131 || n == 169) 60 ?_
    simp only [cd_X12_card, cf_X12_card, wp, wq, wpI, cdF, w_CI, w_CL, w_CN, w_LI, w_LL, w_LA, w_SI, w_SL, w_SA, w_INC, w_II, w_IId, w_LLb, w_LLd, w_LS, w_I1, w_L1, w_I2L, w_L2I, w_CMP, w_DUP, w_POP, w_DUP2, w_IF, w_IC, w_GO, w_NUL, w_ACN, prs, w_GF, w_PF, w_GS, w_IAL, w_LEN, w_LAL, w_ZAL, w_AAL, w_IAS, w_LAS, w_ZAS, w_AAS, w_RI, w_RL, w_RA, w_NEW, w_NA, w_MNA, w_OI, w_THR, w_CV, w_CS, w_CN9, w_CI9, w_MX, w_cont, lget, sto1, sto2, wideV, vo, vo_rv, isR, isR_rv, rv, fget, fput, cats, Value.category, List.headD_cons, List.getD_cons_zero, List.getD_cons_succ, List.drop_succ_cons, List.drop_zero, List.take_succ_cons, List.take_zero, List.reverse_cons, List.reverse_nil, List.nil_append, List.cons_append, List.length_cons, List.length_nil, cond_true, cond_false, and_true, true_and, Nat.zero_add, Nat.add_zero, Nat.reduceAdd, Nat.reduceLT, Nat.reduceLeDiff, Nat.reduceEqDiff, Nat.reduceBEq, Nat.reduceSub, ↓reduceIte, Int32.reduceOfNat, Int64.reduceOfNat, reduceCtorEq, Nat.le_refl, Nat.zero_le, Bool.false_eq_true, beq_self_eq_true, Fin.isValue, Fin.val_zero, Fin.val_one, Fin.reduceFinMk, Fin.val_two, Nat.reduceMod, Bool.or_false, Bool.or_true, Bool.true_or, Bool.false_or, not_true_eq_false, not_false_eq_true, true_or, or_true, implies_true, false_implies, true_implies, Int32.reduceLT, Int32.reduceLE, ↓w_TAB3, ↓w_TAB4, ↓w_TAB5, ↓w_TAB7, ↓w_TAB10, ↓w_LK2, ↓w_LK6, false_and, and_false, i1z, i2z, iz1, im0, im1, l0z, hasK_uI, hasK_uL, hasK_uR, hasK_uZ, hasK_sRow, mR_uI, mR_uL, mR_uZ, mR_sRow, mI_uL, mI_uR, mI_uZ, mL_uI, mL_uR, mL_uZ, mL_sRow, LF.hk hL, layF, LF.r hL, refF, ne_eq, not_false_eq_true, Option.some.injEq, Sum.inl.injEq, Sum.inr.injEq, Prod.mk.injEq, exists_eq_left, exists_eq_left']
    exact Qm_1 hR (gat_1 q)
  refine Ct.go (L0 := [some (.ref 495), some (.long v), none, some (.int x), none, none, none, none]) (by decide +kernel) rfl rfl ?_
  refine r_X12_card (fun n => n == 10 || n == 19 || n == 70 || n == 79 || n == 102 || n == 113 || n == 131 || n == 169) 60 ?_
  simp only [cd_X12_card, cf_X12_card, wp, wq, wpI, cdF, w_CI, w_CL, w_CN, w_LI, w_LL, w_LA, w_SI, w_SL, w_SA, w_INC, w_II, w_IId, w_LLb, w_LLd, w_LS, w_I1, w_L1, w_I2L, w_L2I, w_CMP, w_DUP, w_POP, w_DUP2, w_IF, w_IC, w_GO, w_NUL, w_ACN, prs, w_GF, w_PF, w_GS, w_IAL, w_LEN, w_LAL, w_ZAL, w_AAL, w_IAS, w_LAS, w_ZAS, w_AAS, w_RI, w_RL, w_RA, w_NEW, w_NA, w_MNA, w_OI, w_THR, w_CV, w_CS, w_CN9, w_CI9, w_MX, w_cont, lget, sto1, sto2, wideV, vo, vo_rv, isR, isR_rv, rv, fget, fput, cats, Value.category, List.headD_cons, List.getD_cons_zero, List.getD_cons_succ, List.drop_succ_cons, List.drop_zero, List.take_succ_cons, List.take_zero, List.reverse_cons, List.reverse_nil, List.nil_append, List.cons_append, List.length_cons, List.length_nil, cond_true, cond_false, and_true, true_and, Nat.zero_add, Nat.add_zero, Nat.reduceAdd, Nat.reduceLT, Nat.reduceLeDiff, Nat.reduceEqDiff, Nat.reduceBEq, Nat.reduceSub, ↓reduceIte, Int32.reduceOfNat, Int64.reduceOfNat, reduceCtorEq, Nat.le_refl, Nat.zero_le, Bool.false_eq_true, beq_self_eq_true, Fin.isValue, Fin.val_zero, Fin.val_one, Fin.reduceFinMk, Fin.val_two, Nat.reduceMod, Bool.or_false, Bool.or_true, Bool.true_or, Bool.false_or, not_true_eq_false, not_false_eq_true, true_or, or_true, implies_true, false_implies, true_implies, Int32.reduceLT, Int32.reduceLE, ↓w_TAB3, ↓w_TAB4, ↓w_TAB5, ↓w_TAB7, ↓w_TAB10, ↓w_LK2, ↓w_LK6, false_and, and_false, i1z, i2z, iz1, im0, im1, l0z, hasK_uI, hasK_uL, hasK_uR, hasK_uZ, hasK_sRow, mR_uI, mR_uL, mR_uZ, mR_sRow, mI_uL, mI_uR, mI_uZ, mL_uI, mL_uR, mL_uZ, mL_sRow, LF.hk hL, layF, LF.r hL, refF, ne_eq, not_false_eq_true, Option.some.injEq, Sum.inl.injEq, Sum.inr.injEq, Prod.mk.injEq, exists_eq_left, exists_eq_left', hn, cmp_le]
  refine and_ii (fun h => ?_) (fun h1 => ?_)
  · have hq : ¬ (0 ≤ v.toInt ∧ 12 ≤ nd v.toInt.toNat ∧ nd v.toInt.toNat ≤ 18 ∧ 0 ≤ x.toInt ∧ x.toInt < sN S 28) := fun q => by
      have h0 : v.toInt = 0 := by (simp only [i_lt, i_le, i_eq, l_lt, l_le, l_eq, Int32.toInt_toInt64, Int32.reduceToInt, Int64.reduceToInt, ne_eq, Classical.not_not] at *; omega)
      rw [h0] at q
      have := nd_lt (n := 0) (by omega)
      simp only [Int.toNat_zero] at q
      omega
    repeat' (first | refine and_ii ?_ ?_ | refine imp_i (fun _ => ?_))
    all_goals exact hno hq _
  have hv0 : 0 < v.toInt := by (simp only [i_lt, i_le, i_eq, l_lt, l_le, l_eq, Int32.toInt_toInt64, Int32.reduceToInt, Int64.reduceToInt, ne_eq, Classical.not_not] at *; omega)
  have hn19 := nd_le 18 v.toInt.toNat (by omega)
  have tn := nI_toInt (n := nd v.toInt.toNat) (by omega)
  refine m_width (by omega) ⟨_, rfl, ?_⟩
  refine r_X12_card (fun n => n == 10 || n == 19 || n == 70 || n == 79 || n == 102 || n == 113 || n == 131 || n == 169) 60 ?_
  simp only [cd_X12_card, cf_X12_card, wp, wq, wpI, cdF, w_CI, w_CL, w_CN, w_LI, w_LL, w_LA, w_SI, w_SL, w_SA, w_INC, w_II, w_IId, w_LLb, w_LLd, w_LS, w_I1, w_L1, w_I2L, w_L2I, w_CMP, w_DUP, w_POP, w_DUP2, w_IF, w_IC, w_GO, w_NUL, w_ACN, prs, w_GF, w_PF, w_GS, w_IAL, w_LEN, w_LAL, w_ZAL, w_AAL, w_IAS, w_LAS, w_ZAS, w_AAS, w_RI, w_RL, w_RA, w_NEW, w_NA, w_MNA, w_OI, w_THR, w_CV, w_CS, w_CN9, w_CI9, w_MX, w_cont, lget, sto1, sto2, wideV, vo, vo_rv, isR, isR_rv, rv, fget, fput, cats, Value.category, List.headD_cons, List.getD_cons_zero, List.getD_cons_succ, List.drop_succ_cons, List.drop_zero, List.take_succ_cons, List.take_zero, List.reverse_cons, List.reverse_nil, List.nil_append, List.cons_append, List.length_cons, List.length_nil, cond_true, cond_false, and_true, true_and, Nat.zero_add, Nat.add_zero, Nat.reduceAdd, Nat.reduceLT, Nat.reduceLeDiff, Nat.reduceEqDiff, Nat.reduceBEq, Nat.reduceSub, ↓reduceIte, Int32.reduceOfNat, Int64.reduceOfNat, reduceCtorEq, Nat.le_refl, Nat.zero_le, Bool.false_eq_true, beq_self_eq_true, Fin.isValue, Fin.val_zero, Fin.val_one, Fin.reduceFinMk, Fin.val_two, Nat.reduceMod, Bool.or_false, Bool.or_true, Bool.true_or, Bool.false_or, not_true_eq_false, not_false_eq_true, true_or, or_true, implies_true, false_implies, true_implies, Int32.reduceLT, Int32.reduceLE, ↓w_TAB3, ↓w_TAB4, ↓w_TAB5, ↓w_TAB7, ↓w_TAB10, ↓w_LK2, ↓w_LK6, false_and, and_false, i1z, i2z, iz1, im0, im1, l0z, hasK_uI, hasK_uL, hasK_uR, hasK_uZ, hasK_sRow, mR_uI, mR_uL, mR_uZ, mR_sRow, mI_uL, mI_uR, mI_uZ, mL_uI, mL_uR, mL_uZ, mL_sRow, LF.hk hL, layF, LF.r hL, refF, ne_eq, not_false_eq_true, Option.some.injEq, Sum.inl.injEq, Sum.inr.injEq, Prod.mk.injEq, exists_eq_left, exists_eq_left', hn]
  refine and_ii (fun h => ?_) (fun h2 => m_width (by omega) ⟨_, rfl, ?_⟩)
  · repeat' (first | refine and_ii ?_ ?_ | refine imp_i (fun _ => ?_))
    all_goals exact hno (by (simp only [i_lt, i_le, i_eq, l_lt, l_le, l_eq, Int32.toInt_toInt64, Int32.reduceToInt, Int64.reduceToInt, ne_eq, Classical.not_not] at *; omega)) _
  refine r_X12_card (fun n => n == 10 || n == 19 || n == 70 || n == 79 || n == 102 || n == 113 || n == 131 || n == 169) 60 ?_
  simp only [cd_X12_card, cf_X12_card, wp, wq, wpI, cdF, w_CI, w_CL, w_CN, w_LI, w_LL, w_LA, w_SI, w_SL, w_SA, w_INC, w_II, w_IId, w_LLb, w_LLd, w_LS, w_I1, w_L1, w_I2L, w_L2I, w_CMP, w_DUP, w_POP, w_DUP2, w_IF, w_IC, w_GO, w_NUL, w_ACN, prs, w_GF, w_PF, w_GS, w_IAL, w_LEN, w_LAL, w_ZAL, w_AAL, w_IAS, w_LAS, w_ZAS, w_AAS, w_RI, w_RL, w_RA, w_NEW, w_NA, w_MNA, w_OI, w_THR, w_CV, w_CS, w_CN9, w_CI9, w_MX, w_cont, lget, sto1, sto2, wideV, vo, vo_rv, isR, isR_rv, rv, fget, fput, cats, Value.category, List.headD_cons, List.getD_cons_zero, List.getD_cons_succ, List.drop_succ_cons, List.drop_zero, List.take_succ_cons, List.take_zero, List.reverse_cons, List.reverse_nil, List.nil_append, List.cons_append, List.length_cons, List.length_nil, cond_true, cond_false, and_true, true_and, Nat.zero_add, Nat.add_zero, Nat.reduceAdd, Nat.reduceLT, Nat.reduceLeDiff, Nat.reduceEqDiff, Nat.reduceBEq, Nat.reduceSub, ↓reduceIte, Int32.reduceOfNat, Int64.reduceOfNat, reduceCtorEq, Nat.le_refl, Nat.zero_le, Bool.false_eq_true, beq_self_eq_true, Fin.isValue, Fin.val_zero, Fin.val_one, Fin.reduceFinMk, Fin.val_two, Nat.reduceMod, Bool.or_false, Bool.or_true, Bool.true_or, Bool.false_or, not_true_eq_false, not_false_eq_true, true_or, or_true, implies_true, false_implies, true_implies, Int32.reduceLT, Int32.reduceLE, ↓w_TAB3, ↓w_TAB4, ↓w_TAB5, ↓w_TAB7, ↓w_TAB10, ↓w_LK2, ↓w_LK6, false_and, and_false, i1z, i2z, iz1, im0, im1, l0z, hasK_uI, hasK_uL, hasK_uR, hasK_uZ, hasK_sRow, mR_uI, mR_uL, mR_uZ, mR_sRow, mI_uL, mI_uR, mI_uZ, mL_uI, mL_uR, mL_uZ, mL_sRow, LF.hk hL, layF, LF.r hL, refF, ne_eq, not_false_eq_true, Option.some.injEq, Sum.inl.injEq, Sum.inr.injEq, Prod.mk.injEq, exists_eq_left, exists_eq_left', hn]
  refine and_ii (fun h => ?_) (fun h3 => and_ii (fun h => ?_) (fun h4 => and_ii (fun h => ?_) (fun h5 => ?_)))
  · repeat' (first | refine and_ii ?_ ?_ | refine imp_i (fun _ => ?_))
    all_goals exact hno (by (simp only [i_lt, i_le, i_eq, l_lt, l_le, l_eq, Int32.toInt_toInt64, Int32.reduceToInt, Int64.reduceToInt, ne_eq, Classical.not_not] at *; omega)) _
  · repeat' (first | refine and_ii ?_ ?_ | refine imp_i (fun _ => ?_))
    all_goals exact hno (by (simp only [i_lt, i_le, i_eq, l_lt, l_le, l_eq, Int32.toInt_toInt64, Int32.reduceToInt, Int64.reduceToInt, ne_eq, Classical.not_not] at *; omega)) _
  · repeat' (first | refine and_ii ?_ ?_ | refine imp_i (fun _ => ?_))
    all_goals exact hno (by (simp only [i_lt, i_le, i_eq, l_lt, l_le, l_eq, Int32.toInt_toInt64, Int32.reduceToInt, Int64.reduceToInt, ne_eq, Classical.not_not] at *; omega)) _
  have hx : 0 ≤ v.toInt ∧ 12 ≤ nd v.toInt.toNat ∧ nd v.toInt.toNat ≤ 18 ∧ 0 ≤ x.toInt ∧ x.toInt < sN S 28 := by (simp only [i_lt, i_le, i_eq, l_lt, l_le, l_eq, Int32.toInt_toInt64, Int32.reduceToInt, Int64.reduceToInt, ne_eq, Classical.not_not] at *; omega)
  clear h1 h2 h3 h4 h5
  refine and_ii (fun h => ?_) (fun h6 => and_ii (fun h => ?_) (fun h7 => ?_))
  · refine m_goes_2 hL ⟨_, rfl, ?_⟩
    refine r_X12_card (fun n => n == 10 || n == 19 || n == 70 || n == 79 || n == 102 || n == 113 || n == 131 || n == 169) 60 ?_
    simp only [cd_X12_card, cf_X12_card, wp, wq, wpI, cdF, w_CI, w_CL, w_CN, w_LI, w_LL, w_LA, w_SI, w_SL, w_SA, w_INC, w_II, w_IId, w_LLb, w_LLd, w_LS, w_I1, w_L1, w_I2L, w_L2I, w_CMP, w_DUP, w_POP, w_DUP2, w_IF, w_IC, w_GO, w_NUL, w_ACN, prs, w_GF, w_PF, w_GS, w_IAL, w_LEN, w_LAL, w_ZAL, w_AAL, w_IAS, w_LAS, w_ZAS, w_AAS, w_RI, w_RL, w_RA, w_NEW, w_NA, w_MNA, w_OI, w_THR, w_CV, w_CS, w_CN9, w_CI9, w_MX, w_cont, lget, sto1, sto2, wideV, vo, vo_rv, isR, isR_rv, rv, fget, fput, cats, Value.category, List.headD_cons, List.getD_cons_zero, List.getD_cons_succ, List.drop_succ_cons, List.drop_zero, List.take_succ_cons, List.take_zero, List.reverse_cons, List.reverse_nil, List.nil_append, List.cons_append, List.length_cons, List.length_nil, cond_true, cond_false, and_true, true_and, Nat.zero_add, Nat.add_zero, Nat.reduceAdd, Nat.reduceLT, Nat.reduceLeDiff, Nat.reduceEqDiff, Nat.reduceBEq, Nat.reduceSub, ↓reduceIte, Int32.reduceOfNat, Int64.reduceOfNat, reduceCtorEq, Nat.le_refl, Nat.zero_le, Bool.false_eq_true, beq_self_eq_true, Fin.isValue, Fin.val_zero, Fin.val_one, Fin.reduceFinMk, Fin.val_two, Nat.reduceMod, Bool.or_false, Bool.or_true, Bool.true_or, Bool.false_or, not_true_eq_false, not_false_eq_true, true_or, or_true, implies_true, false_implies, true_implies, Int32.reduceLT, Int32.reduceLE, ↓w_TAB3, ↓w_TAB4, ↓w_TAB5, ↓w_TAB7, ↓w_TAB10, ↓w_LK2, ↓w_LK6, false_and, and_false, i1z, i2z, iz1, im0, im1, l0z, hasK_uI, hasK_uL, hasK_uR, hasK_uZ, hasK_sRow, mR_uI, mR_uL, mR_uZ, mR_sRow, mI_uL, mI_uR, mI_uZ, mL_uI, mL_uR, mL_uZ, mL_sRow, LF.hk hL, layF, LF.r hL, refF, ne_eq, not_false_eq_true, Option.some.injEq, Sum.inl.injEq, Sum.inr.injEq, Prod.mk.injEq, exists_eq_left, exists_eq_left']
    exact Qm_2 hR (gat_2 hx (by (simp only [i_lt, i_le, i_eq, l_lt, l_le, l_eq, Int32.toInt_toInt64, Int32.reduceToInt, Int64.reduceToInt, ne_eq, Classical.not_not] at *; omega)))
  · refine m_goes_2 hL ⟨_, rfl, ?_⟩
    refine r_X12_card (fun n => n == 10 || n == 19 || n == 70 || n == 79 || n == 102 || n == 113 || n == 131 || n == 169) 60 ?_
    simp only [cd_X12_card, cf_X12_card, wp, wq, wpI, cdF, w_CI, w_CL, w_CN, w_LI, w_LL, w_LA, w_SI, w_SL, w_SA, w_INC, w_II, w_IId, w_LLb, w_LLd, w_LS, w_I1, w_L1, w_I2L, w_L2I, w_CMP, w_DUP, w_POP, w_DUP2, w_IF, w_IC, w_GO, w_NUL, w_ACN, prs, w_GF, w_PF, w_GS, w_IAL, w_LEN, w_LAL, w_ZAL, w_AAL, w_IAS, w_LAS, w_ZAS, w_AAS, w_RI, w_RL, w_RA, w_NEW, w_NA, w_MNA, w_OI, w_THR, w_CV, w_CS, w_CN9, w_CI9, w_MX, w_cont, lget, sto1, sto2, wideV, vo, vo_rv, isR, isR_rv, rv, fget, fput, cats, Value.category, List.headD_cons, List.getD_cons_zero, List.getD_cons_succ, List.drop_succ_cons, List.drop_zero, List.take_succ_cons, List.take_zero, List.reverse_cons, List.reverse_nil, List.nil_append, List.cons_append, List.length_cons, List.length_nil, cond_true, cond_false, and_true, true_and, Nat.zero_add, Nat.add_zero, Nat.reduceAdd, Nat.reduceLT, Nat.reduceLeDiff, Nat.reduceEqDiff, Nat.reduceBEq, Nat.reduceSub, ↓reduceIte, Int32.reduceOfNat, Int64.reduceOfNat, reduceCtorEq, Nat.le_refl, Nat.zero_le, Bool.false_eq_true, beq_self_eq_true, Fin.isValue, Fin.val_zero, Fin.val_one, Fin.reduceFinMk, Fin.val_two, Nat.reduceMod, Bool.or_false, Bool.or_true, Bool.true_or, Bool.false_or, not_true_eq_false, not_false_eq_true, true_or, or_true, implies_true, false_implies, true_implies, Int32.reduceLT, Int32.reduceLE, ↓w_TAB3, ↓w_TAB4, ↓w_TAB5, ↓w_TAB7, ↓w_TAB10, ↓w_LK2, ↓w_LK6, false_and, and_false, i1z, i2z, iz1, im0, im1, l0z, hasK_uI, hasK_uL, hasK_uR, hasK_uZ, hasK_sRow, mR_uI, mR_uL, mR_uZ, mR_sRow, mI_uL, mI_uR, mI_uZ, mL_uI, mL_uR, mL_uZ, mL_sRow, LF.hk hL, layF, LF.r hL, refF, ne_eq, not_false_eq_true, Option.some.injEq, Sum.inl.injEq, Sum.inr.injEq, Prod.mk.injEq, exists_eq_left, exists_eq_left']
    exact Qm_2 hR (gat_2 hx (by (simp only [i_lt, i_le, i_eq, l_lt, l_le, l_eq, Int32.toInt_toInt64, Int32.reduceToInt, Int64.reduceToInt, ne_eq, Classical.not_not] at *; omega)))
  have hq : sN S 4 = 0 ∧ sN S 34 < 100 := by (simp only [i_lt, i_le, i_eq, l_lt, l_le, l_eq, Int32.toInt_toInt64, Int32.reduceToInt, Int64.reduceToInt, ne_eq, Classical.not_not] at *; omega)
  clear h6 h7
  refine m_goes_0 hL ⟨_, rfl, ?_⟩
  unfold o_card
  rw [gat_0 hx hq]
  have ev : v = lI (v.toInt.toNat : Nat) := by rw [show ((v.toInt.toNat : Nat) : Int) = v.toInt by omega]; exact lI_of v
  have h18 := lt18 hx.2.2.1
  have r0 := RM_code (v := 0) hR
  have i0 : loS M (uI M 495 3 0) := loS_uI (loS_rfl M) (by omega)
  have z0 : mI (uI M 495 3 0) 495 3 = 0 := by rw [mI_uI, if_pos ⟨rfl, rfl⟩]
  clear hno hL hN hI hLl hA hC hP hRr hD hT hZ hK hn
  generalize uI M 495 3 0 = Mz at r0 i0 z0 ⊢
  have l0 := r0.1
  have n0 := r0.2.1
  unfold mNn at n0
  have e19 : (19 : Int32) * nI (sN S 34) = nI (19 * sN S 34) := nI_mul (a := 19) (by omega) (by omega) (by omega)
  refine r_X12_card (fun n => n == 10 || n == 19 || n == 70 || n == 79 || n == 102 || n == 113 || n == 131 || n == 169) 60 ?_
  simp only [cd_X12_card, cf_X12_card, wp, wq, wpI, cdF, w_CI, w_CL, w_CN, w_LI, w_LL, w_LA, w_SI, w_SL, w_SA, w_INC, w_II, w_IId, w_LLb, w_LLd, w_LS, w_I1, w_L1, w_I2L, w_L2I, w_CMP, w_DUP, w_POP, w_DUP2, w_IF, w_IC, w_GO, w_NUL, w_ACN, prs, w_GF, w_PF, w_GS, w_IAL, w_LEN, w_LAL, w_ZAL, w_AAL, w_IAS, w_LAS, w_ZAS, w_AAS, w_RI, w_RL, w_RA, w_NEW, w_NA, w_MNA, w_OI, w_THR, w_CV, w_CS, w_CN9, w_CI9, w_MX, w_cont, lget, sto1, sto2, wideV, vo, vo_rv, isR, isR_rv, rv, fget, fput, cats, Value.category, List.headD_cons, List.getD_cons_zero, List.getD_cons_succ, List.drop_succ_cons, List.drop_zero, List.take_succ_cons, List.take_zero, List.reverse_cons, List.reverse_nil, List.nil_append, List.cons_append, List.length_cons, List.length_nil, cond_true, cond_false, and_true, true_and, Nat.zero_add, Nat.add_zero, Nat.reduceAdd, Nat.reduceLT, Nat.reduceLeDiff, Nat.reduceEqDiff, Nat.reduceBEq, Nat.reduceSub, ↓reduceIte, Int32.reduceOfNat, Int64.reduceOfNat, reduceCtorEq, Nat.le_refl, Nat.zero_le, Bool.false_eq_true, beq_self_eq_true, Fin.isValue, Fin.val_zero, Fin.val_one, Fin.reduceFinMk, Fin.val_two, Nat.reduceMod, Bool.or_false, Bool.or_true, Bool.true_or, Bool.false_or, not_true_eq_false, not_false_eq_true, true_or, or_true, implies_true, false_implies, true_implies, Int32.reduceLT, Int32.reduceLE, ↓w_TAB3, ↓w_TAB4, ↓w_TAB5, ↓w_TAB7, ↓w_TAB10, ↓w_LK2, ↓w_LK6, false_and, and_false, i1z, i2z, iz1, im0, im1, l0z, i1z]
  refine m_width (by omega) ⟨_, rfl, ?_⟩
  generalize hVV : v.toInt.toNat = V at *
  refine r_X12_card (fun n => n == 10 || n == 19 || n == 70 || n == 79 || n == 102 || n == 113 || n == 131 || n == 169) 60 ?_
  simp only [cd_X12_card, cf_X12_card, wp, wq, wpI, cdF, w_CI, w_CL, w_CN, w_LI, w_LL, w_LA, w_SI, w_SL, w_SA, w_INC, w_II, w_IId, w_LLb, w_LLd, w_LS, w_I1, w_L1, w_I2L, w_L2I, w_CMP, w_DUP, w_POP, w_DUP2, w_IF, w_IC, w_GO, w_NUL, w_ACN, prs, w_GF, w_PF, w_GS, w_IAL, w_LEN, w_LAL, w_ZAL, w_AAL, w_IAS, w_LAS, w_ZAS, w_AAS, w_RI, w_RL, w_RA, w_NEW, w_NA, w_MNA, w_OI, w_THR, w_CV, w_CS, w_CN9, w_CI9, w_MX, w_cont, lget, sto1, sto2, wideV, vo, vo_rv, isR, isR_rv, rv, fget, fput, cats, Value.category, List.headD_cons, List.getD_cons_zero, List.getD_cons_succ, List.drop_succ_cons, List.drop_zero, List.take_succ_cons, List.take_zero, List.reverse_cons, List.reverse_nil, List.nil_append, List.cons_append, List.length_cons, List.length_nil, cond_true, cond_false, and_true, true_and, Nat.zero_add, Nat.add_zero, Nat.reduceAdd, Nat.reduceLT, Nat.reduceLeDiff, Nat.reduceEqDiff, Nat.reduceBEq, Nat.reduceSub, ↓reduceIte, Int32.reduceOfNat, Int64.reduceOfNat, reduceCtorEq, Nat.le_refl, Nat.zero_le, Bool.false_eq_true, beq_self_eq_true, Fin.isValue, Fin.val_zero, Fin.val_one, Fin.reduceFinMk, Fin.val_two, Nat.reduceMod, Bool.or_false, Bool.or_true, Bool.true_or, Bool.false_or, not_true_eq_false, not_false_eq_true, true_or, or_true, implies_true, false_implies, true_implies, Int32.reduceLT, Int32.reduceLE, ↓w_TAB3, ↓w_TAB4, ↓w_TAB5, ↓w_TAB7, ↓w_TAB10, ↓w_LK2, ↓w_LK6, false_and, and_false, i1z, i2z, iz1, im0, im1, l0z, hasK_uI, hasK_uL, hasK_uR, hasK_uZ, hasK_sRow, mR_uI, mR_uL, mR_uZ, mR_sRow, mI_uL, mI_uR, mI_uZ, mL_uI, mL_uR, mL_uZ, mL_sRow, LF.hg l0, layF, LF.r l0, refF, ne_eq, not_false_eq_true, Option.some.injEq, Sum.inl.injEq, Sum.inr.injEq, Prod.mk.injEq, exists_eq_left, exists_eq_left', n0, e19]
  refine m_setDigits (v := V) (p := 19 * sN S 34) (n := nd V) (N := 1900) ev rfl rfl (by rw [l0.hk]; rfl) (by omega) (by omega) (by omega) ⟨rfl, ?_⟩
  have hc18 := fun i hi => (hj.2.2.2.2.2.2.2.1.1 i hi).2.1
  obtain ⟨-, hN, hI, hLl, hA, hC, hP, hRr, hD, hT, hZ, hK⟩ := r0
  have hC1 := mC_dgR (n := nd V) (p := 19 * sN S 34) (g := dgt 10 (nd V) V) hC (fun i hi => by have := hc18 i hi; omega) (Nat.le_refl _)
  have hrow : ∀ j, j < nd V → mI (dgR Mz 512 (19 * sN S 34) (nd V) (dgt 10 (nd V) V)) 512 (19 * sN S 34 + j) = nI (dgt 10 (nd V) V j) := fun j hj => by
    unfold dgR
    rw [mI_sRow, if_pos rfl, if_pos (by omega), Nat.add_sub_cancel_left]
  have rd : RM S (dgR Mz 512 (19 * sN S 34) (nd V) (dgt 10 (nd V) V)) := by
    unfold dgR at hC1 ⊢
    exact ⟨l0, (by repeat (first | exact hN | refine mNn_uI ?_ (by omega) | refine mNn_uI ?_ | refine mNn_uL ?_ (by omega) | refine mNn_uL ?_ | refine mNn_uR ?_ (by omega) | refine mNn_uR ?_ | refine mNn_sRow ?_ (by omega) | refine mNn_sRow ?_ | refine mNn_uZ ?_)), (by repeat (first | exact hI | refine mIi_uI ?_ (by omega) | refine mIi_uI ?_ | refine mIi_uL ?_ (by omega) | refine mIi_uL ?_ | refine mIi_uR ?_ (by omega) | refine mIi_uR ?_ | refine mIi_sRow ?_ (by omega) | refine mIi_sRow ?_ | refine mIi_uZ ?_)), hLl, (by repeat (first | exact hA | refine mA_uI ?_ (by omega) | refine mA_uI ?_ | refine mA_uL ?_ (by omega) | refine mA_uL ?_ | refine mA_uR ?_ (by omega) | refine mA_uR ?_ | refine mA_sRow ?_ (by omega) | refine mA_sRow ?_ | refine mA_uZ ?_)), hC1, (by repeat (first | exact hP | refine mP_uI ?_ (by omega) | refine mP_uI ?_ | refine mP_uL ?_ (by omega) | refine mP_uL ?_ | refine mP_uR ?_ (by omega) | refine mP_uR ?_ | refine mP_sRow ?_ (by omega) | refine mP_sRow ?_ | refine mP_uZ ?_)), (by repeat (first | exact hRr | refine mRr_uI ?_ (by omega) | refine mRr_uI ?_ | refine mRr_uL ?_ (by omega) | refine mRr_uL ?_ | refine mRr_uR ?_ (by omega) | refine mRr_uR ?_ | refine mRr_sRow ?_ (by omega) | refine mRr_sRow ?_ | refine mRr_uZ ?_)), (by repeat (first | exact hD | refine msgM_uI ?_ (by omega) | refine msgM_uI ?_ | refine msgM_uL ?_ (by omega) | refine msgM_uL ?_ | refine msgM_uR ?_ (by omega) | refine msgM_uR ?_ | refine msgM_sRow ?_ (by omega) | refine msgM_sRow ?_ | refine msgM_uZ ?_)), (by repeat (first | exact hT | refine BYM_uI ?_ (by omega) | refine BYM_uI ?_ | refine BYM_uL ?_ (by omega) | refine BYM_uL ?_ | refine BYM_uR ?_ (by omega) | refine BYM_uR ?_ | refine BYM_sRow ?_ (by omega) | refine BYM_sRow ?_ | refine BYM_uZ ?_)), (by repeat (first | exact hZ | refine BYM_uI ?_ (by omega) | refine BYM_uI ?_ | refine BYM_uL ?_ (by omega) | refine BYM_uL ?_ | refine BYM_uR ?_ (by omega) | refine BYM_uR ?_ | refine BYM_sRow ?_ (by omega) | refine BYM_sRow ?_ | refine BYM_uZ ?_)), (by repeat (first | exact hK | refine mK_uI ?_ (by omega) | refine mK_uI ?_ | refine mK_uL ?_ (by omega) | refine mK_uL ?_ | refine mK_uR ?_ (by omega) | refine mK_uR ?_ | refine mK_sRow ?_ (by omega) | refine mK_sRow ?_ | refine mK_uZ ?_))⟩
  have id0 : loS M (dgR Mz 512 (19 * sN S 34) (nd V) (dgt 10 (nd V) V)) := by unfold dgR; exact loS_sRow i0 (by omega)
  have zd : mI (dgR Mz 512 (19 * sN S 34) (nd V) (dgt 10 (nd V) V)) 495 3 = 0 := by unfold dgR; rw [mI_nr (by omega)]; exact z0
  clear hN hI hLl hA hC hP hRr hD hT hZ hK hC1 l0 n0 i0 z0
  generalize dgR Mz 512 (19 * sN S 34) (nd V) (dgt 10 (nd V) V) = Md at *
  obtain ⟨hL, hN, hI, hLl, hA, hC, hP, hRr, hD, hT, hZ, hK⟩ := id rd
  have hn := hN
  unfold mNn at hn
  have hdg : ∀ i, i < nd V → dgt 10 (nd V) V i < 10 := fun i _ => dgt_lt (by omega)
  refine r_X12_card (fun n => n == 10 || n == 19 || n == 70 || n == 79 || n == 102 || n == 113 || n == 131 || n == 169) 60 ?_
  simp only [cd_X12_card, cf_X12_card, wp, wq, wpI, cdF, w_CI, w_CL, w_CN, w_LI, w_LL, w_LA, w_SI, w_SL, w_SA, w_INC, w_II, w_IId, w_LLb, w_LLd, w_LS, w_I1, w_L1, w_I2L, w_L2I, w_CMP, w_DUP, w_POP, w_DUP2, w_IF, w_IC, w_GO, w_NUL, w_ACN, prs, w_GF, w_PF, w_GS, w_IAL, w_LEN, w_LAL, w_ZAL, w_AAL, w_IAS, w_LAS, w_ZAS, w_AAS, w_RI, w_RL, w_RA, w_NEW, w_NA, w_MNA, w_OI, w_THR, w_CV, w_CS, w_CN9, w_CI9, w_MX, w_cont, lget, sto1, sto2, wideV, vo, vo_rv, isR, isR_rv, rv, fget, fput, cats, Value.category, List.headD_cons, List.getD_cons_zero, List.getD_cons_succ, List.drop_succ_cons, List.drop_zero, List.take_succ_cons, List.take_zero, List.reverse_cons, List.reverse_nil, List.nil_append, List.cons_append, List.length_cons, List.length_nil, cond_true, cond_false, and_true, true_and, Nat.zero_add, Nat.add_zero, Nat.reduceAdd, Nat.reduceLT, Nat.reduceLeDiff, Nat.reduceEqDiff, Nat.reduceBEq, Nat.reduceSub, ↓reduceIte, Int32.reduceOfNat, Int64.reduceOfNat, reduceCtorEq, Nat.le_refl, Nat.zero_le, Bool.false_eq_true, beq_self_eq_true, Fin.isValue, Fin.val_zero, Fin.val_one, Fin.reduceFinMk, Fin.val_two, Nat.reduceMod, Bool.or_false, Bool.or_true, Bool.true_or, Bool.false_or, not_true_eq_false, not_false_eq_true, true_or, or_true, implies_true, false_implies, true_implies, Int32.reduceLT, Int32.reduceLE, ↓w_TAB3, ↓w_TAB4, ↓w_TAB5, ↓w_TAB7, ↓w_TAB10, ↓w_LK2, ↓w_LK6, false_and, and_false, i1z, i2z, iz1, im0, im1, l0z, hasK_uI, hasK_uL, hasK_uR, hasK_uZ, hasK_sRow, mR_uI, mR_uL, mR_uZ, mR_sRow, mI_uL, mI_uR, mI_uZ, mL_uI, mL_uR, mL_uZ, mL_sRow, LF.hk hL, layF, LF.r hL, refF, ne_eq, not_false_eq_true, Option.some.injEq, Sum.inl.injEq, Sum.inr.injEq, Prod.mk.injEq, exists_eq_left, exists_eq_left']
  refine m_isGood (g := dgt 10 (nd V) V) (p := 19 * sN S 34) (n := nd V) (N := 1900) (by rw [hL.hk]; rfl) (by omega) (by omega) hrow hdg rfl rfl ⟨_, rfl, ?_⟩
  rw [lsum_card (by omega)]
  have hend : ∀ a : Int, ∀ y : Int32, y = wdI a → QmI M (okV a S) (some (.int y)) Md := fun a y e => ⟨by rw [e]; rfl, zd, rd, id0⟩
  refine r_X12_card (fun n => n == 10 || n == 19 || n == 70 || n == 79 || n == 102 || n == 113 || n == 131 || n == 169) 60 ?_
  simp only [cd_X12_card, cf_X12_card, wp, wq, wpI, cdF, w_CI, w_CL, w_CN, w_LI, w_LL, w_LA, w_SI, w_SL, w_SA, w_INC, w_II, w_IId, w_LLb, w_LLd, w_LS, w_I1, w_L1, w_I2L, w_L2I, w_CMP, w_DUP, w_POP, w_DUP2, w_IF, w_IC, w_GO, w_NUL, w_ACN, prs, w_GF, w_PF, w_GS, w_IAL, w_LEN, w_LAL, w_ZAL, w_AAL, w_IAS, w_LAS, w_ZAS, w_AAS, w_RI, w_RL, w_RA, w_NEW, w_NA, w_MNA, w_OI, w_THR, w_CV, w_CS, w_CN9, w_CI9, w_MX, w_cont, lget, sto1, sto2, wideV, vo, vo_rv, isR, isR_rv, rv, fget, fput, cats, Value.category, List.headD_cons, List.getD_cons_zero, List.getD_cons_succ, List.drop_succ_cons, List.drop_zero, List.take_succ_cons, List.take_zero, List.reverse_cons, List.reverse_nil, List.nil_append, List.cons_append, List.length_cons, List.length_nil, cond_true, cond_false, and_true, true_and, Nat.zero_add, Nat.add_zero, Nat.reduceAdd, Nat.reduceLT, Nat.reduceLeDiff, Nat.reduceEqDiff, Nat.reduceBEq, Nat.reduceSub, ↓reduceIte, Int32.reduceOfNat, Int64.reduceOfNat, reduceCtorEq, Nat.le_refl, Nat.zero_le, Bool.false_eq_true, beq_self_eq_true, Fin.isValue, Fin.val_zero, Fin.val_one, Fin.reduceFinMk, Fin.val_two, Nat.reduceMod, Bool.or_false, Bool.or_true, Bool.true_or, Bool.false_or, not_true_eq_false, not_false_eq_true, true_or, or_true, implies_true, false_implies, true_implies, Int32.reduceLT, Int32.reduceLE, ↓w_TAB3, ↓w_TAB4, ↓w_TAB5, ↓w_TAB7, ↓w_TAB10, ↓w_LK2, ↓w_LK6, false_and, and_false, i1z, i2z, iz1, im0, im1, l0z, hasK_uI, hasK_uL, hasK_uR, hasK_uZ, hasK_sRow, mR_uI, mR_uL, mR_uZ, mR_sRow, mI_uL, mI_uR, mI_uZ, mL_uI, mL_uR, mL_uZ, mL_sRow, LF.hk hL, layF, LF.r hL, refF, ne_eq, not_false_eq_true, Option.some.injEq, Sum.inl.injEq, Sum.inr.injEq, Prod.mk.injEq, exists_eq_left, exists_eq_left', b2i_0]
  refine and_ii (fun h => ?_) (fun h => ?_)
  rotate_left
  · rw [if_pos (by simpa using h)]
    exact hend _ _ rfl
  rw [if_neg (by simpa using h)]
  refine m_routed (g := dgt 10 (nd V) V) (p := 19 * sN S 34) (n := nd V) (N := 1900) hL (by rw [hL.hk]; rfl) (by omega) (by omega) hrow hdg (rt_M hN hI hj) (rt_of hj) rfl rfl ⟨_, rfl, ?_⟩
  have eb : bst (sI S) (fun d => vl (dgt 10 (nd V) V) d) (nd V) (sN S 24) = bst (sI S) (fun d => V / 10 ^ (nd V - d)) (nd V) (sN S 24) := by
    refine bst_congr (sN S 24) (fun i hi => ?_)
    have := rt_of hj i hi
    exact ⟨Iff.rfl, vl_dgt (by omega) (lt_nd V)⟩
  rw [eb]
  have hbr := (bst_le (K := nd V) (ld := fun d => V / 10 ^ (nd V - d)) (rt_of hj) (sN S 24) (Nat.le_refl _)).2
  have hbr : rtN S V ≤ 6 := hbr
  have er : (bst (sI S) (fun d => V / 10 ^ (nd V - d)) (nd V) (sN S 24)).1 = rtN S V := rfl
  rw [er]
  have trt := nI_toInt (n := rtN S V) (by omega)
  have trm : (nI (rtN S V) - 1).toInt = rtN S V - 1 := by rw [i_sub] <;> rw [trt] <;> simp <;> omega
  have cx := tnc hx.2.2.2.1
  have cx2 : x.toNatClampNeg = x.toInt.toNat := by omega
  have hj7 := hj.2.1.2.2.2.1 x.toInt.toNat (by omega)
  have t507 := nI_toInt (n := sI S 507 x.toInt.toNat) (by omega)
  have hia := hI.2.2.2.1 x.toInt.toNat (by omega)
  refine r_X12_card (fun n => n == 10 || n == 19 || n == 70 || n == 79 || n == 102 || n == 113 || n == 131 || n == 169) 60 ?_
  simp only [cd_X12_card, cf_X12_card, wp, wq, wpI, cdF, w_CI, w_CL, w_CN, w_LI, w_LL, w_LA, w_SI, w_SL, w_SA, w_INC, w_II, w_IId, w_LLb, w_LLd, w_LS, w_I1, w_L1, w_I2L, w_L2I, w_CMP, w_DUP, w_POP, w_DUP2, w_IF, w_IC, w_GO, w_NUL, w_ACN, prs, w_GF, w_PF, w_GS, w_IAL, w_LEN, w_LAL, w_ZAL, w_AAL, w_IAS, w_LAS, w_ZAS, w_AAS, w_RI, w_RL, w_RA, w_NEW, w_NA, w_MNA, w_OI, w_THR, w_CV, w_CS, w_CN9, w_CI9, w_MX, w_cont, lget, sto1, sto2, wideV, vo, vo_rv, isR, isR_rv, rv, fget, fput, cats, Value.category, List.headD_cons, List.getD_cons_zero, List.getD_cons_succ, List.drop_succ_cons, List.drop_zero, List.take_succ_cons, List.take_zero, List.reverse_cons, List.reverse_nil, List.nil_append, List.cons_append, List.length_cons, List.length_nil, cond_true, cond_false, and_true, true_and, Nat.zero_add, Nat.add_zero, Nat.reduceAdd, Nat.reduceLT, Nat.reduceLeDiff, Nat.reduceEqDiff, Nat.reduceBEq, Nat.reduceSub, ↓reduceIte, Int32.reduceOfNat, Int64.reduceOfNat, reduceCtorEq, Nat.le_refl, Nat.zero_le, Bool.false_eq_true, beq_self_eq_true, Fin.isValue, Fin.val_zero, Fin.val_one, Fin.reduceFinMk, Fin.val_two, Nat.reduceMod, Bool.or_false, Bool.or_true, Bool.true_or, Bool.false_or, not_true_eq_false, not_false_eq_true, true_or, or_true, implies_true, false_implies, true_implies, Int32.reduceLT, Int32.reduceLE, ↓w_TAB3, ↓w_TAB4, ↓w_TAB5, ↓w_TAB7, ↓w_TAB10, ↓w_LK2, ↓w_LK6, false_and, and_false, i1z, i2z, iz1, im0, im1, l0z, hasK_uI, hasK_uL, hasK_uR, hasK_uZ, hasK_sRow, mR_uI, mR_uL, mR_uZ, mR_sRow, mI_uL, mI_uR, mI_uZ, mL_uI, mL_uR, mL_uZ, mL_sRow, LF.hk hL, layF, LF.r hL, refF, ne_eq, not_false_eq_true, Option.some.injEq, Sum.inl.injEq, Sum.inr.injEq, Prod.mk.injEq, exists_eq_left, exists_eq_left', cx2, hia]
  refine ⟨vp_in_i (by omega), and_ii (fun h1 => ?_) (fun h1 => and_ii (fun h2 => ?_) (fun h2 => ?_))⟩
  rotate_left
  · have e1 : ¬ rtN S V = 0 := by (simp only [i_lt, i_le, i_eq, l_lt, l_le, l_eq, Int32.toInt_toInt64, Int32.reduceToInt, Int64.reduceToInt, ne_eq, Classical.not_not] at *; omega)
    rw [if_neg e1, if_pos (by (simp only [i_lt, i_le, i_eq, l_lt, l_le, l_eq, Int32.toInt_toInt64, Int32.reduceToInt, Int64.reduceToInt, ne_eq, Classical.not_not] at *; omega))]
    exact hend _ _ rfl
  · have e1 : rtN S V = 0 := by (simp only [i_lt, i_le, i_eq, l_lt, l_le, l_eq, Int32.toInt_toInt64, Int32.reduceToInt, Int64.reduceToInt, ne_eq, Classical.not_not] at *; omega)
    rw [if_pos e1]
    exact hend _ _ rfl
  have e1 : rtN S V = sI S 507 x.toInt.toNat + 1 := by (simp only [i_lt, i_le, i_eq, l_lt, l_le, l_eq, Int32.toInt_toInt64, Int32.reduceToInt, Int64.reduceToInt, ne_eq, Classical.not_not] at *; omega)
  rw [if_neg (by omega), if_neg (by omega)]
  refine m_cardOf (crd := sC S) (K := sN S 34) (g := dgt 10 (nd V) V) (p := 19 * sN S 34) (n := nd V) (N := 1900) hL (by rw [hL.hk]; rfl) (by omega) (by omega) hrow hdg hn.2.2.2.2.2.1 (by omega) hC (fun i hi => by have := hc18 i hi; omega) ?_ rfl rfl ⟨_, rfl, ?_⟩
  · intro a b ha hb h1 h2
    rw [cdP_iff] at h1 h2
    exact hj.2.2.2.2.2.2.2.1.2 a b ha hb ((of_decide_eq_true h1).trans (of_decide_eq_true h2).symm)
  have hFe : fsn (cdP (sC S) (dgt 10 (nd V) V) (nd V)) (sN S 34) = fCd S V := fsn_congr (fun k _ => cdP_iff)
  rw [hFe]
  unfold fdC
  have hFl : fCd S V ≤ sN S 34 := fsn_le
  by_cases e : fCd S V < sN S 34
  · simp only [if_pos e]
    have hm : ¬ nI (fCd S V) < 0 := nI_pos (by omega)
    refine r_X12_card (fun n => n == 10 || n == 19 || n == 70 || n == 79 || n == 102 || n == 113 || n == 131 || n == 169) 60 ?_
    simp only [cd_X12_card, cf_X12_card, wp, wq, wpI, cdF, w_CI, w_CL, w_CN, w_LI, w_LL, w_LA, w_SI, w_SL, w_SA, w_INC, w_II, w_IId, w_LLb, w_LLd, w_LS, w_I1, w_L1, w_I2L, w_L2I, w_CMP, w_DUP, w_POP, w_DUP2, w_IF, w_IC, w_GO, w_NUL, w_ACN, prs, w_GF, w_PF, w_GS, w_IAL, w_LEN, w_LAL, w_ZAL, w_AAL, w_IAS, w_LAS, w_ZAS, w_AAS, w_RI, w_RL, w_RA, w_NEW, w_NA, w_MNA, w_OI, w_THR, w_CV, w_CS, w_CN9, w_CI9, w_MX, w_cont, lget, sto1, sto2, wideV, vo, vo_rv, isR, isR_rv, rv, fget, fput, cats, Value.category, List.headD_cons, List.getD_cons_zero, List.getD_cons_succ, List.drop_succ_cons, List.drop_zero, List.take_succ_cons, List.take_zero, List.reverse_cons, List.reverse_nil, List.nil_append, List.cons_append, List.length_cons, List.length_nil, cond_true, cond_false, and_true, true_and, Nat.zero_add, Nat.add_zero, Nat.reduceAdd, Nat.reduceLT, Nat.reduceLeDiff, Nat.reduceEqDiff, Nat.reduceBEq, Nat.reduceSub, ↓reduceIte, Int32.reduceOfNat, Int64.reduceOfNat, reduceCtorEq, Nat.le_refl, Nat.zero_le, Bool.false_eq_true, beq_self_eq_true, Fin.isValue, Fin.val_zero, Fin.val_one, Fin.reduceFinMk, Fin.val_two, Nat.reduceMod, Bool.or_false, Bool.or_true, Bool.true_or, Bool.false_or, not_true_eq_false, not_false_eq_true, true_or, or_true, implies_true, false_implies, true_implies, Int32.reduceLT, Int32.reduceLE, ↓w_TAB3, ↓w_TAB4, ↓w_TAB5, ↓w_TAB7, ↓w_TAB10, ↓w_LK2, ↓w_LK6, false_and, and_false, i1z, i2z, iz1, im0, im1, l0z, hasK_uI, hasK_uL, hasK_uR, hasK_uZ, hasK_sRow, mR_uI, mR_uL, mR_uZ, mR_sRow, mI_uL, mI_uR, mI_uZ, mL_uI, mL_uR, mL_uZ, mL_sRow, LF.hk hL, layF, LF.r hL, refF, ne_eq, not_false_eq_true, Option.some.injEq, Sum.inl.injEq, Sum.inr.injEq, Prod.mk.injEq, exists_eq_left, exists_eq_left', hm]
    exact hend _ _ rfl
  · simp only [if_neg e]
    have hm : (-1 : Int32) < 0 := by decide
    have ex := w2i hx.2.2.2.1
    refine r_X12_card (fun n => n == 10 || n == 19 || n == 70 || n == 79 || n == 102 || n == 113 || n == 131 || n == 169) 60 ?_
    simp only [cd_X12_card, cf_X12_card, wp, wq, wpI, cdF, w_CI, w_CL, w_CN, w_LI, w_LL, w_LA, w_SI, w_SL, w_SA, w_INC, w_II, w_IId, w_LLb, w_LLd, w_LS, w_I1, w_L1, w_I2L, w_L2I, w_CMP, w_DUP, w_POP, w_DUP2, w_IF, w_IC, w_GO, w_NUL, w_ACN, prs, w_GF, w_PF, w_GS, w_IAL, w_LEN, w_LAL, w_ZAL, w_AAL, w_IAS, w_LAS, w_ZAS, w_AAS, w_RI, w_RL, w_RA, w_NEW, w_NA, w_MNA, w_OI, w_THR, w_CV, w_CS, w_CN9, w_CI9, w_MX, w_cont, lget, sto1, sto2, wideV, vo, vo_rv, isR, isR_rv, rv, fget, fput, cats, Value.category, List.headD_cons, List.getD_cons_zero, List.getD_cons_succ, List.drop_succ_cons, List.drop_zero, List.take_succ_cons, List.take_zero, List.reverse_cons, List.reverse_nil, List.nil_append, List.cons_append, List.length_cons, List.length_nil, cond_true, cond_false, and_true, true_and, Nat.zero_add, Nat.add_zero, Nat.reduceAdd, Nat.reduceLT, Nat.reduceLeDiff, Nat.reduceEqDiff, Nat.reduceBEq, Nat.reduceSub, ↓reduceIte, Int32.reduceOfNat, Int64.reduceOfNat, reduceCtorEq, Nat.le_refl, Nat.zero_le, Bool.false_eq_true, beq_self_eq_true, Fin.isValue, Fin.val_zero, Fin.val_one, Fin.reduceFinMk, Fin.val_two, Nat.reduceMod, Bool.or_false, Bool.or_true, Bool.true_or, Bool.false_or, not_true_eq_false, not_false_eq_true, true_or, or_true, implies_true, false_implies, true_implies, Int32.reduceLT, Int32.reduceLE, ↓w_TAB3, ↓w_TAB4, ↓w_TAB5, ↓w_TAB7, ↓w_TAB10, ↓w_LK2, ↓w_LK6, false_and, and_false, i1z, i2z, iz1, im0, im1, l0z, hasK_uI, hasK_uL, hasK_uR, hasK_uZ, hasK_sRow, mR_uI, mR_uL, mR_uZ, mR_sRow, mI_uL, mI_uR, mI_uZ, mL_uI, mL_uR, mL_uZ, mL_sRow, LF.hk hL, layF, LF.r hL, refF, ne_eq, not_false_eq_true, Option.some.injEq, Sum.inl.injEq, Sum.inr.injEq, Prod.mk.injEq, exists_eq_left, exists_eq_left', hm, hn, c34, mI_uI, nI_1]
    refine ⟨vp_in_nI (by omega) (by omega), vp_in_nI (by omega) (by omega), ?_⟩
    refine ⟨congrArg _ (congrArg _ (nI_pred _)), by simp [mI_uI, zd]; rfl, ⟨hL, mNn_34y ((by repeat (first | exact hN | refine mNn_uI ?_ (by omega) | refine mNn_uI ?_ | refine mNn_uL ?_ (by omega) | refine mNn_uL ?_ | refine mNn_uR ?_ (by omega) | refine mNn_uR ?_ | refine mNn_sRow ?_ (by omega) | refine mNn_sRow ?_ | refine mNn_uZ ?_))) rfl, mIi_uI (mIi_set ((by repeat (first | exact hI | refine mIi_uI ?_ (by omega) | refine mIi_uI ?_ | refine mIi_uL ?_ (by omega) | refine mIi_uL ?_ | refine mIi_uR ?_ (by omega) | refine mIi_uR ?_ | refine mIi_sRow ?_ (by omega) | refine mIi_sRow ?_ | refine mIi_uZ ?_))) ex) (by omega), hLl, (by repeat (first | exact hA | refine mA_uI ?_ (by omega) | refine mA_uI ?_ | refine mA_uL ?_ (by omega) | refine mA_uL ?_ | refine mA_uR ?_ (by omega) | refine mA_uR ?_ | refine mA_sRow ?_ (by omega) | refine mA_sRow ?_ | refine mA_uZ ?_)), mC_uI (mC_uI (mC_add hC hrow) (by omega)) (by omega), (by repeat (first | exact hP | refine mP_uI ?_ (by omega) | refine mP_uI ?_ | refine mP_uL ?_ (by omega) | refine mP_uL ?_ | refine mP_uR ?_ (by omega) | refine mP_uR ?_ | refine mP_sRow ?_ (by omega) | refine mP_sRow ?_ | refine mP_uZ ?_)), (by repeat (first | exact hRr | refine mRr_uI ?_ (by omega) | refine mRr_uI ?_ | refine mRr_uL ?_ (by omega) | refine mRr_uL ?_ | refine mRr_uR ?_ (by omega) | refine mRr_uR ?_ | refine mRr_sRow ?_ (by omega) | refine mRr_sRow ?_ | refine mRr_uZ ?_)), (by repeat (first | exact hD | refine msgM_uI ?_ (by omega) | refine msgM_uI ?_ | refine msgM_uL ?_ (by omega) | refine msgM_uL ?_ | refine msgM_uR ?_ (by omega) | refine msgM_uR ?_ | refine msgM_sRow ?_ (by omega) | refine msgM_sRow ?_ | refine msgM_uZ ?_)), (by repeat (first | exact hT | refine BYM_uI ?_ (by omega) | refine BYM_uI ?_ | refine BYM_uL ?_ (by omega) | refine BYM_uL ?_ | refine BYM_uR ?_ (by omega) | refine BYM_uR ?_ | refine BYM_sRow ?_ (by omega) | refine BYM_sRow ?_ | refine BYM_uZ ?_)), (by repeat (first | exact hZ | refine BYM_uI ?_ (by omega) | refine BYM_uI ?_ | refine BYM_uL ?_ (by omega) | refine BYM_uL ?_ | refine BYM_uR ?_ (by omega) | refine BYM_uR ?_ | refine BYM_sRow ?_ (by omega) | refine BYM_sRow ?_ | refine BYM_uZ ?_)), (by repeat (first | exact hK | refine mK_uI ?_ (by omega) | refine mK_uI ?_ | refine mK_uL ?_ (by omega) | refine mK_uL ?_ | refine mK_uR ?_ (by omega) | refine mK_uR ?_ | refine mK_sRow ?_ (by omega) | refine mK_sRow ?_ | refine mK_uZ ?_))⟩, loS_uI (loS_uI (loS_uI id0 (by omega)) (by omega)) (by omega)⟩
end CR3
