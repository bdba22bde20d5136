/-! THE JOURNAL, AND WHETHER THE SWITCH RUNS -/
section JOU
variable {G : En} {M : Mem} {Q : Option Value → Mem → Prop} {X : String → Mem → Prop} {n : Nat → Nat} {k : Nat} {S : Sw}
/-- the counters are small -/
def smN (n : Nat → Nat) : Prop := n 4 ≤ 1 ∧ n 6 ≤ 1 ∧ n 7 ≤ 1001 ∧ n 8 ≤ 30 ∧ n 9 ≤ 100 ∧ n 10 ≤ 10000 ∧ n 5 ≤ 100 ∧ (n 7 = 1 → n 6 = 1)
theorem smN_of {t : Nat} (h : Jv t S) : smN (sN S) := by have := h.1; unfold jS at this; unfold smN; omega
theorem c_isRunning (hL : LF M) (hN : cN n M) (hs : smN n) (hQ : Q (some (.int (b2i (n 4 = 1 ∧ n 6 = 0)))) M) : Ct G (MT 167) [.ref 0] M Q X := by
  unfold cN at hN
  unfold smN at hs
  have t4 := nI_toInt (n := n 4) (by omega)
  have t6 := nI_toInt (n := n 6) (by omega)
  refine Ct.go (L0 := [some (.ref 0)]) (by decide +kernel) rfl rfl ?_
  refine r_X11_isRunning (fun _ => false) 40 ?_
  simp only [cd_X11_isRunning, cf_X11_isRunning, wp, wq, wpI, cdF, w_CI, w_CL, w_CN, w_LI, w_LL, w_LA, w_SI, w_SL, w_SA, w_INC, w_II, w_IId, w_LLb, w_LLd, w_LS, w_I1, w_L1, w_I2L, w_L2I, w_CMP, w_DUP, w_POP, w_DUP2, w_IF, w_IC, w_GO, w_NUL, w_ACN, prs, w_GF, w_PF, w_GS, w_IAL, w_LEN, w_LAL, w_ZAL, w_AAL, w_IAS, w_LAS, w_ZAS, w_AAS, w_RI, w_RL, w_RA, w_NEW, w_NA, w_MNA, w_OI, w_THR, w_CV, w_CS, w_CN9, w_CI9, w_MX, w_cont, lget, sto1, sto2, wideV, vo, vo_rv, isR, isR_rv, rv, fget, fput, cats, Value.category, List.headD_cons, List.getD_cons_zero, List.getD_cons_succ, List.drop_succ_cons, List.drop_zero, List.take_succ_cons, List.take_zero, List.reverse_cons, List.reverse_nil, List.nil_append, List.cons_append, List.length_cons, List.length_nil, cond_true, cond_false, and_true, true_and, Nat.zero_add, Nat.add_zero, Nat.reduceAdd, Nat.reduceLT, Nat.reduceLeDiff, Nat.reduceEqDiff, Nat.reduceBEq, Nat.reduceSub, ↓reduceIte, Int32.reduceOfNat, Int64.reduceOfNat, reduceCtorEq, Nat.le_refl, Nat.zero_le, Bool.false_eq_true, beq_self_eq_true, Fin.isValue, Fin.val_zero, Fin.val_one, Fin.reduceFinMk, Fin.val_two, Nat.reduceMod, Bool.or_false, Bool.or_true, Bool.true_or, Bool.false_or, not_true_eq_false, not_false_eq_true, true_or, or_true, implies_true, false_implies, true_implies, Int32.reduceLT, Int32.reduceLE, ↓w_TAB3, ↓w_TAB4, ↓w_TAB5, ↓w_TAB7, ↓w_TAB10, ↓w_LK2, ↓w_LK6, false_and, and_false, i1z, i2z, iz1, im0, im1, l0z, hasK_uI, hasK_uL, hasK_uR, hasK_uZ, hasK_sRow, mR_uI, mR_uL, mR_uZ, mR_sRow, mI_uL, mI_uR, mI_uZ, mL_uI, mL_uR, mL_uZ, mL_sRow, LF.hk hL, layF, LF.r hL, refF, ne_eq, not_false_eq_true, Option.some.injEq, Sum.inl.injEq, Sum.inr.injEq, Prod.mk.injEq, exists_eq_left, exists_eq_left', hN]
  repeat' (first | refine and_ii ?_ ?_ | refine imp_i (fun _ => ?_))
  · rw [b2i_f (by (simp only [i_lt, i_le, i_eq, l_lt, l_le, l_eq, Int32.toInt_toInt64, Int32.reduceToInt, Int64.reduceToInt, ne_eq, Classical.not_not] at *; omega))] at hQ; exact hQ
  · rw [b2i_f (by (simp only [i_lt, i_le, i_eq, l_lt, l_le, l_eq, Int32.toInt_toInt64, Int32.reduceToInt, Int64.reduceToInt, ne_eq, Classical.not_not] at *; omega))] at hQ; exact hQ
  · rw [b2i_t (by (simp only [i_lt, i_le, i_eq, l_lt, l_le, l_eq, Int32.toInt_toInt64, Int32.reduceToInt, Int64.reduceToInt, ne_eq, Classical.not_not] at *; omega))] at hQ; exact hQ
theorem m_isOpen (hL : LF M) (hN : mNn n M) (hs : smN n) (hQ : Q (some (.int (b2i (n 4 = 1 ∧ n 6 = 0)))) M) : Ct G (MT 182) [.ref 495] M Q X := by
  unfold mNn at hN
  unfold smN at hs
  have t4 := nI_toInt (n := n 4) (by omega)
  have t6 := nI_toInt (n := n 6) (by omega)
  refine Ct.go (L0 := [some (.ref 495)]) (by decide +kernel) rfl rfl ?_
  refine r_X12_isOpen (fun _ => false) 40 ?_
  simp only [cd_X12_isOpen, cf_X12_isOpen, wp, wq, wpI, cdF, w_CI, w_CL, w_CN, w_LI, w_LL, w_LA, w_SI, w_SL, w_SA, w_INC, w_II, w_IId, w_LLb, w_LLd, w_LS, w_I1, w_L1, w_I2L, w_L2I, w_CMP, w_DUP, w_POP, w_DUP2, w_IF, w_IC, w_GO, w_NUL, w_ACN, prs, w_GF, w_PF, w_GS, w_IAL, w_LEN, w_LAL, w_ZAL, w_AAL, w_IAS, w_LAS, w_ZAS, w_AAS, w_RI, w_RL, w_RA, w_NEW, w_NA, w_MNA, w_OI, w_THR, w_CV, w_CS, w_CN9, w_CI9, w_MX, w_cont, lget, sto1, sto2, wideV, vo, vo_rv, isR, isR_rv, rv, fget, fput, cats, Value.category, List.headD_cons, List.getD_cons_zero, List.getD_cons_succ, List.drop_succ_cons, List.drop_zero, List.take_succ_cons, List.take_zero, List.reverse_cons, List.reverse_nil, List.nil_append, List.cons_append, List.length_cons, List.length_nil, cond_true, cond_false, and_true, true_and, Nat.zero_add, Nat.add_zero, Nat.reduceAdd, Nat.reduceLT, Nat.reduceLeDiff, Nat.reduceEqDiff, Nat.reduceBEq, Nat.reduceSub, ↓reduceIte, Int32.reduceOfNat, Int64.reduceOfNat, reduceCtorEq, Nat.le_refl, Nat.zero_le, Bool.false_eq_true, beq_self_eq_true, Fin.isValue, Fin.val_zero, Fin.val_one, Fin.reduceFinMk, Fin.val_two, Nat.reduceMod, Bool.or_false, Bool.or_true, Bool.true_or, Bool.false_or, not_true_eq_false, not_false_eq_true, true_or, or_true, implies_true, false_implies, true_implies, Int32.reduceLT, Int32.reduceLE, ↓w_TAB3, ↓w_TAB4, ↓w_TAB5, ↓w_TAB7, ↓w_TAB10, ↓w_LK2, ↓w_LK6, false_and, and_false, i1z, i2z, iz1, im0, im1, l0z, hasK_uI, hasK_uL, hasK_uR, hasK_uZ, hasK_sRow, mR_uI, mR_uL, mR_uZ, mR_sRow, mI_uL, mI_uR, mI_uZ, mL_uI, mL_uR, mL_uZ, mL_sRow, LF.hk hL, layF, LF.r hL, refF, ne_eq, not_false_eq_true, Option.some.injEq, Sum.inl.injEq, Sum.inr.injEq, Prod.mk.injEq, exists_eq_left, exists_eq_left', hN]
  repeat' (first | refine and_ii ?_ ?_ | refine imp_i (fun _ => ?_))
  · rw [b2i_f (by (simp only [i_lt, i_le, i_eq, l_lt, l_le, l_eq, Int32.toInt_toInt64, Int32.reduceToInt, Int64.reduceToInt, ne_eq, Classical.not_not] at *; omega))] at hQ; exact hQ
  · rw [b2i_f (by (simp only [i_lt, i_le, i_eq, l_lt, l_le, l_eq, Int32.toInt_toInt64, Int32.reduceToInt, Int64.reduceToInt, ne_eq, Classical.not_not] at *; omega))] at hQ; exact hQ
  · rw [b2i_t (by (simp only [i_lt, i_le, i_eq, l_lt, l_le, l_eq, Int32.toInt_toInt64, Int32.reduceToInt, Int64.reduceToInt, ne_eq, Classical.not_not] at *; omega))] at hQ; exact hQ
theorem c_permit_p {p : Prop} [Decidable p] (h1 : p → Q none M) (h2 : ¬ p → X xIS (uZ M)) : Ct G (MT 166) [.int (b2i p)] M Q X := c_permit (fun h => h1 (by rw [ne_eq, b2i_0] at h; exact Classical.not_not.mp h)) (fun h => h2 (b2i_0.mp h))
/-- goes with two conditions -/
theorem m_goes_p {p q : Prop} [Decidable p] [Decidable q] (hL : LF M) (h1 : ¬ p → Q (some (.int 0)) (uI M 495 3 1)) (h2 : p → ¬ q → Q (some (.int 0)) (uI M 495 3 2)) (h3 : p → q → Q (some (.int 1)) (uI M 495 3 0)) : Ct G (MT 181) [.ref 495, .int (b2i p), .int (b2i q)] M Q X := by
  by_cases hp : p
  · by_cases hq : q
    · rw [b2i_t hp, b2i_t hq]; exact m_goes_0 hL (h3 hp hq)
    · rw [b2i_t hp, b2i_f hq]; exact m_goes_2 hL (h2 hp hq)
  · rw [b2i_f hp]; exact m_goes_1 hL (h1 hp)
theorem m_goes_0p {q : Prop} [Decidable q] (hL : LF M) (h1 : Q (some (.int 0)) (uI M 495 3 1)) : Ct G (MT 181) [.ref 495, .int 0, .int (b2i q)] M Q X := m_goes_1 hL h1
theorem m_goes_1p {q : Prop} [Decidable q] (hL : LF M) (h2 : ¬ q → Q (some (.int 0)) (uI M 495 3 2)) (h3 : q → Q (some (.int 1)) (uI M 495 3 0)) : Ct G (MT 181) [.ref 495, .int 1, .int (b2i q)] M Q X := by
  by_cases hq : q
  · rw [b2i_t hq]; exact m_goes_0 hL (h3 hq)
  · rw [b2i_f hq]; exact m_goes_2 hL (h2 hq)
theorem c_hasRoom (hL : LF M) (hN : cN n M) (hs : smN n) (hQ : Q (some (.int (b2i (n 9 < n 8)))) M) : Ct G (MT 51) [.ref 431] M Q X := by
  unfold cN at hN
  unfold smN at hs
  have t8 := nI_toInt (n := n 8) (by omega)
  have t9 := nI_toInt (n := n 9) (by omega)
  refine Ct.go (L0 := [some (.ref 431)]) (by decide +kernel) rfl rfl ?_
  refine r_X5_hasRoom (fun _ => false) 40 ?_
  simp only [cd_X5_hasRoom, cf_X5_hasRoom, wp, wq, wpI, cdF, w_CI, w_CL, w_CN, w_LI, w_LL, w_LA, w_SI, w_SL, w_SA, w_INC, w_II, w_IId, w_LLb, w_LLd, w_LS, w_I1, w_L1, w_I2L, w_L2I, w_CMP, w_DUP, w_POP, w_DUP2, w_IF, w_IC, w_GO, w_NUL, w_ACN, prs, w_GF, w_PF, w_GS, w_IAL, w_LEN, w_LAL, w_ZAL, w_AAL, w_IAS, w_LAS, w_ZAS, w_AAS, w_RI, w_RL, w_RA, w_NEW, w_NA, w_MNA, w_OI, w_THR, w_CV, w_CS, w_CN9, w_CI9, w_MX, w_cont, lget, sto1, sto2, wideV, vo, vo_rv, isR, isR_rv, rv, fget, fput, cats, Value.category, List.headD_cons, List.getD_cons_zero, List.getD_cons_succ, List.drop_succ_cons, List.drop_zero, List.take_succ_cons, List.take_zero, List.reverse_cons, List.reverse_nil, List.nil_append, List.cons_append, List.length_cons, List.length_nil, cond_true, cond_false, and_true, true_and, Nat.zero_add, Nat.add_zero, Nat.reduceAdd, Nat.reduceLT, Nat.reduceLeDiff, Nat.reduceEqDiff, Nat.reduceBEq, Nat.reduceSub, ↓reduceIte, Int32.reduceOfNat, Int64.reduceOfNat, reduceCtorEq, Nat.le_refl, Nat.zero_le, Bool.false_eq_true, beq_self_eq_true, Fin.isValue, Fin.val_zero, Fin.val_one, Fin.reduceFinMk, Fin.val_two, Nat.reduceMod, Bool.or_false, Bool.or_true, Bool.true_or, Bool.false_or, not_true_eq_false, not_false_eq_true, true_or, or_true, implies_true, false_implies, true_implies, Int32.reduceLT, Int32.reduceLE, ↓w_TAB3, ↓w_TAB4, ↓w_TAB5, ↓w_TAB7, ↓w_TAB10, ↓w_LK2, ↓w_LK6, false_and, and_false, i1z, i2z, iz1, im0, im1, l0z, hasK_uI, hasK_uL, hasK_uR, hasK_uZ, hasK_sRow, mR_uI, mR_uL, mR_uZ, mR_sRow, mI_uL, mI_uR, mI_uZ, mL_uI, mL_uR, mL_uZ, mL_sRow, LF.hk hL, layF, LF.r hL, refF, ne_eq, not_false_eq_true, Option.some.injEq, Sum.inl.injEq, Sum.inr.injEq, Prod.mk.injEq, exists_eq_left, exists_eq_left', hN]
  repeat' (first | refine and_ii ?_ ?_ | refine imp_i (fun _ => ?_))
  · rw [b2i_f (by (simp only [i_lt, i_le, i_eq, l_lt, l_le, l_eq, Int32.toInt_toInt64, Int32.reduceToInt, Int64.reduceToInt, ne_eq, Classical.not_not] at *; omega))] at hQ; exact hQ
  · rw [b2i_t (by (simp only [i_lt, i_le, i_eq, l_lt, l_le, l_eq, Int32.toInt_toInt64, Int32.reduceToInt, Int64.reduceToInt, ne_eq, Classical.not_not] at *; omega))] at hQ; exact hQ
/-- M' is M but for the ints at a -/
def rE (a : Nat) (M M' : Mem) : Prop := ∃ f, M' = sRow M a f
theorem rE_0 {a : Nat} : rE a M M := ⟨mI M a, sRow_id.symm⟩
theorem rE_u {a j : Nat} {v : Int32} {M' : Mem} (h : rE a M M') : rE a M (uI M' a j v) := by
  obtain ⟨f, rfl⟩ := h
  exact ⟨_, uI_sRow⟩
theorem rE_t {a : Nat} {M' M'' : Mem} (h : rE a M M') (h' : rE a M' M'') : rE a M M'' := by
  obtain ⟨f, rfl⟩ := h
  obtain ⟨g, rfl⟩ := h'
  exact ⟨g, sRow_sRow⟩
/-- the class's counters in the journal -/
theorem c_spend (hL : LF M) (hN : cN n M) (hs : n 7 ≤ 1001) (hk : k ≤ 100) (h7 : n 7 = 0 ∨ k < n 7) (hQ : ∀ M', cN (spd n k) M' → rE 431 M M' → Q none M') : Ct G (MT 54) [.ref 431, .int (nI k)] M Q X := by
  have hn := hN
  unfold cN at hn
  have t7 := nI_toInt (n := n 7) (by omega)
  have tm : (nI (n 7) - 1).toInt = n 7 - 1 := by rw [i_sub] <;> rw [t7] <;> simp <;> omega
  have e10 : nI (n 10) + nI k = nI (n 10 + k) := nI_add _ _
  refine Ct.go (L0 := [some (.ref 431), some (.int (nI k))]) (by decide +kernel) rfl rfl ?_
  refine r_X5_spend (fun n => n == 28) 40 ?_
  simp only [cd_X5_spend, cf_X5_spend, wp, wq, wpI, cdF, w_CI, w_CL, w_CN, w_LI, w_LL, w_LA, w_SI, w_SL, w_SA, w_INC, w_II, w_IId, w_LLb, w_LLd, w_LS, w_I1, w_L1, w_I2L, w_L2I, w_CMP, w_DUP, w_POP, w_DUP2, w_IF, w_IC, w_GO, w_NUL, w_ACN, prs, w_GF, w_PF, w_GS, w_IAL, w_LEN, w_LAL, w_ZAL, w_AAL, w_IAS, w_LAS, w_ZAS, w_AAS, w_RI, w_RL, w_RA, w_NEW, w_NA, w_MNA, w_OI, w_THR, w_CV, w_CS, w_CN9, w_CI9, w_MX, w_cont, lget, sto1, sto2, wideV, vo, vo_rv, isR, isR_rv, rv, fget, fput, cats, Value.category, List.headD_cons, List.getD_cons_zero, List.getD_cons_succ, List.drop_succ_cons, List.drop_zero, List.take_succ_cons, List.take_zero, List.reverse_cons, List.reverse_nil, List.nil_append, List.cons_append, List.length_cons, List.length_nil, cond_true, cond_false, and_true, true_and, Nat.zero_add, Nat.add_zero, Nat.reduceAdd, Nat.reduceLT, Nat.reduceLeDiff, Nat.reduceEqDiff, Nat.reduceBEq, Nat.reduceSub, ↓reduceIte, Int32.reduceOfNat, Int64.reduceOfNat, reduceCtorEq, Nat.le_refl, Nat.zero_le, Bool.false_eq_true, beq_self_eq_true, Fin.isValue, Fin.val_zero, Fin.val_one, Fin.reduceFinMk, Fin.val_two, Nat.reduceMod, Bool.or_false, Bool.or_true, Bool.true_or, Bool.false_or, not_true_eq_false, not_false_eq_true, true_or, or_true, implies_true, false_implies, true_implies, Int32.reduceLT, Int32.reduceLE, ↓w_TAB3, ↓w_TAB4, ↓w_TAB5, ↓w_TAB7, ↓w_TAB10, ↓w_LK2, ↓w_LK6, false_and, and_false, i1z, i2z, iz1, im0, im1, l0z, hasK_uI, hasK_uL, hasK_uR, hasK_uZ, hasK_sRow, mR_uI, mR_uL, mR_uZ, mR_sRow, mI_uL, mI_uR, mI_uZ, mL_uI, mL_uR, mL_uZ, mL_sRow, LF.hk hL, layF, LF.r hL, refF, ne_eq, not_false_eq_true, Option.some.injEq, Sum.inl.injEq, Sum.inr.injEq, Prod.mk.injEq, exists_eq_left, exists_eq_left', mI_uI, hn, e10]
  have hN1 : cN (up1 n 10 (n 10 + k)) (uI M 431 2 (nI (n 10 + k))) := cN_10y hN rfl
  refine and_ii (fun h => ?_) (fun h => ?_)
  · have e : n 7 = 0 := by (simp only [i_lt, i_le, i_eq, l_lt, l_le, l_eq, Int32.toInt_toInt64, Int32.reduceToInt, Int64.reduceToInt, ne_eq, Classical.not_not] at *; omega)
    refine r_X5_spend (fun n => n == 28) 40 ?_
    simp only [cd_X5_spend, cf_X5_spend, wp, wq, wpI, cdF, w_CI, w_CL, w_CN, w_LI, w_LL, w_LA, w_SI, w_SL, w_SA, w_INC, w_II, w_IId, w_LLb, w_LLd, w_LS, w_I1, w_L1, w_I2L, w_L2I, w_CMP, w_DUP, w_POP, w_DUP2, w_IF, w_IC, w_GO, w_NUL, w_ACN, prs, w_GF, w_PF, w_GS, w_IAL, w_LEN, w_LAL, w_ZAL, w_AAL, w_IAS, w_LAS, w_ZAS, w_AAS, w_RI, w_RL, w_RA, w_NEW, w_NA, w_MNA, w_OI, w_THR, w_CV, w_CS, w_CN9, w_CI9, w_MX, w_cont, lget, sto1, sto2, wideV, vo, vo_rv, isR, isR_rv, rv, fget, fput, cats, Value.category, List.headD_cons, List.getD_cons_zero, List.getD_cons_succ, List.drop_succ_cons, List.drop_zero, List.take_succ_cons, List.take_zero, List.reverse_cons, List.reverse_nil, List.nil_append, List.cons_append, List.length_cons, List.length_nil, cond_true, cond_false, and_true, true_and, Nat.zero_add, Nat.add_zero, Nat.reduceAdd, Nat.reduceLT, Nat.reduceLeDiff, Nat.reduceEqDiff, Nat.reduceBEq, Nat.reduceSub, ↓reduceIte, Int32.reduceOfNat, Int64.reduceOfNat, reduceCtorEq, Nat.le_refl, Nat.zero_le, Bool.false_eq_true, beq_self_eq_true, Fin.isValue, Fin.val_zero, Fin.val_one, Fin.reduceFinMk, Fin.val_two, Nat.reduceMod, Bool.or_false, Bool.or_true, Bool.true_or, Bool.false_or, not_true_eq_false, not_false_eq_true, true_or, or_true, implies_true, false_implies, true_implies, Int32.reduceLT, Int32.reduceLE, ↓w_TAB3, ↓w_TAB4, ↓w_TAB5, ↓w_TAB7, ↓w_TAB10, ↓w_LK2, ↓w_LK6, false_and, and_false, i1z, i2z, iz1, im0, im1, l0z]
    refine hQ _ ?_ (rE_u rE_0)
    unfold spd
    rw [if_pos e]
    exact hN1
  · have e : n 7 ≠ 0 := by (simp only [i_lt, i_le, i_eq, l_lt, l_le, l_eq, Int32.toInt_toInt64, Int32.reduceToInt, Int64.reduceToInt, ne_eq, Classical.not_not] at *; omega)
    have tk := nI_toInt (n := k) (by omega)
    have tnk := nI_toInt (n := n 7 - k) (by omega)
    have tm2 : (nI (n 7 - k) - 1).toInt = (n 7 - k : Nat) - 1 := by rw [i_sub] <;> rw [tnk] <;> simp <;> omega
    have ew : nI (n 7) - 1 - nI k = nI (n 7 - k) - 1 := by
      rw [i_eq, tm2, i_sub] <;> rw [tm, tk] <;> omega
    have hN2 : cN (up1 (up1 n 10 (n 10 + k)) 7 (n 7 - k)) (uI (uI M 431 2 (nI (n 10 + k))) 431 3 (nI (n 7 - k) - 1)) := cN_7y hN1 rfl
    rw [ew]
    refine Ct.go (L0 := [some (.ref 431), some (.int (nI (n 7 - k) - 1))]) (by decide +kernel) rfl rfl ?_
    refine r_X5_failAfter (fun _ => false) 40 ?_
    simp only [cd_X5_failAfter, cf_X5_failAfter, wp, wq, wpI, cdF, w_CI, w_CL, w_CN, w_LI, w_LL, w_LA, w_SI, w_SL, w_SA, w_INC, w_II, w_IId, w_LLb, w_LLd, w_LS, w_I1, w_L1, w_I2L, w_L2I, w_CMP, w_DUP, w_POP, w_DUP2, w_IF, w_IC, w_GO, w_NUL, w_ACN, prs, w_GF, w_PF, w_GS, w_IAL, w_LEN, w_LAL, w_ZAL, w_AAL, w_IAS, w_LAS, w_ZAS, w_AAS, w_RI, w_RL, w_RA, w_NEW, w_NA, w_MNA, w_OI, w_THR, w_CV, w_CS, w_CN9, w_CI9, w_MX, w_cont, lget, sto1, sto2, wideV, vo, vo_rv, isR, isR_rv, rv, fget, fput, cats, Value.category, List.headD_cons, List.getD_cons_zero, List.getD_cons_succ, List.drop_succ_cons, List.drop_zero, List.take_succ_cons, List.take_zero, List.reverse_cons, List.reverse_nil, List.nil_append, List.cons_append, List.length_cons, List.length_nil, cond_true, cond_false, and_true, true_and, Nat.zero_add, Nat.add_zero, Nat.reduceAdd, Nat.reduceLT, Nat.reduceLeDiff, Nat.reduceEqDiff, Nat.reduceBEq, Nat.reduceSub, ↓reduceIte, Int32.reduceOfNat, Int64.reduceOfNat, reduceCtorEq, Nat.le_refl, Nat.zero_le, Bool.false_eq_true, beq_self_eq_true, Fin.isValue, Fin.val_zero, Fin.val_one, Fin.reduceFinMk, Fin.val_two, Nat.reduceMod, Bool.or_false, Bool.or_true, Bool.true_or, Bool.false_or, not_true_eq_false, not_false_eq_true, true_or, or_true, implies_true, false_implies, true_implies, Int32.reduceLT, Int32.reduceLE, ↓w_TAB3, ↓w_TAB4, ↓w_TAB5, ↓w_TAB7, ↓w_TAB10, ↓w_LK2, ↓w_LK6, false_and, and_false, i1z, i2z, iz1, im0, im1, l0z, hasK_uI, hasK_uL, hasK_uR, hasK_uZ, hasK_sRow, mR_uI, mR_uL, mR_uZ, mR_sRow, mI_uL, mI_uR, mI_uZ, mL_uI, mL_uR, mL_uZ, mL_sRow, LF.hk hL, layF, LF.r hL, refF, ne_eq, not_false_eq_true, Option.some.injEq, Sum.inl.injEq, Sum.inr.injEq, Prod.mk.injEq, exists_eq_left, exists_eq_left']
    refine and_ii (fun h2 => ?_) (fun h2 => ?_)
    · refine r_X5_spend (fun n => n == 28) 40 ?_
      simp only [cd_X5_spend, cf_X5_spend, wp, wq, wpI, cdF, w_CI, w_CL, w_CN, w_LI, w_LL, w_LA, w_SI, w_SL, w_SA, w_INC, w_II, w_IId, w_LLb, w_LLd, w_LS, w_I1, w_L1, w_I2L, w_L2I, w_CMP, w_DUP, w_POP, w_DUP2, w_IF, w_IC, w_GO, w_NUL, w_ACN, prs, w_GF, w_PF, w_GS, w_IAL, w_LEN, w_LAL, w_ZAL, w_AAL, w_IAS, w_LAS, w_ZAS, w_AAS, w_RI, w_RL, w_RA, w_NEW, w_NA, w_MNA, w_OI, w_THR, w_CV, w_CS, w_CN9, w_CI9, w_MX, w_cont, lget, sto1, sto2, wideV, vo, vo_rv, isR, isR_rv, rv, fget, fput, cats, Value.category, List.headD_cons, List.getD_cons_zero, List.getD_cons_succ, List.drop_succ_cons, List.drop_zero, List.take_succ_cons, List.take_zero, List.reverse_cons, List.reverse_nil, List.nil_append, List.cons_append, List.length_cons, List.length_nil, cond_true, cond_false, and_true, true_and, Nat.zero_add, Nat.add_zero, Nat.reduceAdd, Nat.reduceLT, Nat.reduceLeDiff, Nat.reduceEqDiff, Nat.reduceBEq, Nat.reduceSub, ↓reduceIte, Int32.reduceOfNat, Int64.reduceOfNat, reduceCtorEq, Nat.le_refl, Nat.zero_le, Bool.false_eq_true, beq_self_eq_true, Fin.isValue, Fin.val_zero, Fin.val_one, Fin.reduceFinMk, Fin.val_two, Nat.reduceMod, Bool.or_false, Bool.or_true, Bool.true_or, Bool.false_or, not_true_eq_false, not_false_eq_true, true_or, or_true, implies_true, false_implies, true_implies, Int32.reduceLT, Int32.reduceLE, ↓w_TAB3, ↓w_TAB4, ↓w_TAB5, ↓w_TAB7, ↓w_TAB10, ↓w_LK2, ↓w_LK6, false_and, and_false, i1z, i2z, iz1, im0, im1, l0z]
      have e2 : ¬ n 7 - k = 1 := by (simp only [i_lt, i_le, i_eq, l_lt, l_le, l_eq, Int32.toInt_toInt64, Int32.reduceToInt, Int64.reduceToInt, ne_eq, Classical.not_not] at *; omega)
      refine hQ _ ?_ (rE_u (rE_u (rE_u rE_0)))
      unfold spd
      rw [if_neg e, if_neg e2]
      exact cN_6y hN2 rfl
    · refine r_X5_spend (fun n => n == 28) 40 ?_
      simp only [cd_X5_spend, cf_X5_spend, wp, wq, wpI, cdF, w_CI, w_CL, w_CN, w_LI, w_LL, w_LA, w_SI, w_SL, w_SA, w_INC, w_II, w_IId, w_LLb, w_LLd, w_LS, w_I1, w_L1, w_I2L, w_L2I, w_CMP, w_DUP, w_POP, w_DUP2, w_IF, w_IC, w_GO, w_NUL, w_ACN, prs, w_GF, w_PF, w_GS, w_IAL, w_LEN, w_LAL, w_ZAL, w_AAL, w_IAS, w_LAS, w_ZAS, w_AAS, w_RI, w_RL, w_RA, w_NEW, w_NA, w_MNA, w_OI, w_THR, w_CV, w_CS, w_CN9, w_CI9, w_MX, w_cont, lget, sto1, sto2, wideV, vo, vo_rv, isR, isR_rv, rv, fget, fput, cats, Value.category, List.headD_cons, List.getD_cons_zero, List.getD_cons_succ, List.drop_succ_cons, List.drop_zero, List.take_succ_cons, List.take_zero, List.reverse_cons, List.reverse_nil, List.nil_append, List.cons_append, List.length_cons, List.length_nil, cond_true, cond_false, and_true, true_and, Nat.zero_add, Nat.add_zero, Nat.reduceAdd, Nat.reduceLT, Nat.reduceLeDiff, Nat.reduceEqDiff, Nat.reduceBEq, Nat.reduceSub, ↓reduceIte, Int32.reduceOfNat, Int64.reduceOfNat, reduceCtorEq, Nat.le_refl, Nat.zero_le, Bool.false_eq_true, beq_self_eq_true, Fin.isValue, Fin.val_zero, Fin.val_one, Fin.reduceFinMk, Fin.val_two, Nat.reduceMod, Bool.or_false, Bool.or_true, Bool.true_or, Bool.false_or, not_true_eq_false, not_false_eq_true, true_or, or_true, implies_true, false_implies, true_implies, Int32.reduceLT, Int32.reduceLE, ↓w_TAB3, ↓w_TAB4, ↓w_TAB5, ↓w_TAB7, ↓w_TAB10, ↓w_LK2, ↓w_LK6, false_and, and_false, i1z, i2z, iz1, im0, im1, l0z]
      have e2 : n 7 - k = 1 := by (simp only [i_lt, i_le, i_eq, l_lt, l_le, l_eq, Int32.toInt_toInt64, Int32.reduceToInt, Int64.reduceToInt, ne_eq, Classical.not_not] at *; omega)
      refine hQ _ ?_ (rE_u (rE_u (rE_u rE_0)))
      unfold spd
      rw [if_neg e, if_pos e2]
      exact cN_6y hN2 rfl
theorem spd_6 (h : n 6 ≤ 1) : spd n k 6 ≤ 1 := by
  unfold spd
  split
  · simpa [up1] using h
  · simp only [up1, ↓reduceIte]
    split <;> omega
theorem nI_01 {x : Nat} (h : x ≤ 1) : nI x = 0 ∨ nI x = 1 := by
  rcases (show x = 0 ∨ x = 1 by omega) with q | q <;> rw [q]
  · left; rfl
  · right; rfl
theorem c_writeOne (hL : LF M) (hN : cN n M) (hs : smN n) (h7 : n 7 ≠ 1) (hQ : ∀ M', cN (wr1 n) M' → rE 431 M M' → Q (some (.int (nI (wr1 n 6)))) M') : Ct G (MT 52) [.ref 431] M Q X := by
  have hn := hN
  unfold cN at hn
  unfold smN at hs
  refine Ct.go (L0 := [some (.ref 431)]) (by decide +kernel) rfl rfl ?_
  refine r_X5_writeOne (fun n => n == 15) 40 ?_
  simp only [cd_X5_writeOne, cf_X5_writeOne, wp, wq, wpI, cdF, w_CI, w_CL, w_CN, w_LI, w_LL, w_LA, w_SI, w_SL, w_SA, w_INC, w_II, w_IId, w_LLb, w_LLd, w_LS, w_I1, w_L1, w_I2L, w_L2I, w_CMP, w_DUP, w_POP, w_DUP2, w_IF, w_IC, w_GO, w_NUL, w_ACN, prs, w_GF, w_PF, w_GS, w_IAL, w_LEN, w_LAL, w_ZAL, w_AAL, w_IAS, w_LAS, w_ZAS, w_AAS, w_RI, w_RL, w_RA, w_NEW, w_NA, w_MNA, w_OI, w_THR, w_CV, w_CS, w_CN9, w_CI9, w_MX, w_cont, lget, sto1, sto2, wideV, vo, vo_rv, isR, isR_rv, rv, fget, fput, cats, Value.category, List.headD_cons, List.getD_cons_zero, List.getD_cons_succ, List.drop_succ_cons, List.drop_zero, List.take_succ_cons, List.take_zero, List.reverse_cons, List.reverse_nil, List.nil_append, List.cons_append, List.length_cons, List.length_nil, cond_true, cond_false, and_true, true_and, Nat.zero_add, Nat.add_zero, Nat.reduceAdd, Nat.reduceLT, Nat.reduceLeDiff, Nat.reduceEqDiff, Nat.reduceBEq, Nat.reduceSub, ↓reduceIte, Int32.reduceOfNat, Int64.reduceOfNat, reduceCtorEq, Nat.le_refl, Nat.zero_le, Bool.false_eq_true, beq_self_eq_true, Fin.isValue, Fin.val_zero, Fin.val_one, Fin.reduceFinMk, Fin.val_two, Nat.reduceMod, Bool.or_false, Bool.or_true, Bool.true_or, Bool.false_or, not_true_eq_false, not_false_eq_true, true_or, or_true, implies_true, false_implies, true_implies, Int32.reduceLT, Int32.reduceLE, ↓w_TAB3, ↓w_TAB4, ↓w_TAB5, ↓w_TAB7, ↓w_TAB10, ↓w_LK2, ↓w_LK6, false_and, and_false, i1z, i2z, iz1, im0, im1, l0z, hasK_uI, hasK_uL, hasK_uR, hasK_uZ, hasK_sRow, mR_uI, mR_uL, mR_uZ, mR_sRow, mI_uL, mI_uR, mI_uZ, mL_uI, mL_uR, mL_uZ, mL_sRow, LF.hk hL, layF, LF.r hL, refF, ne_eq, not_false_eq_true, Option.some.injEq, Sum.inl.injEq, Sum.inr.injEq, Prod.mk.injEq, exists_eq_left, exists_eq_left', mI_uI, hn, nI_1]
  have hN1 : cN (up1 n 9 (n 9 + 1)) (uI M 431 1 (nI (n 9 + 1))) := cN_9y hN rfl
  refine c_spend (k := 1) (n := up1 n 9 (n 9 + 1)) (M := uI M 431 1 (nI (n 9 + 1))) hL hN1 ?_ (by omega) ?_ (fun M' hf he => ⟨rfl, ?_⟩)
  · simp [up1]; omega
  · simp [up1]; omega
  · have hf' := hf
    unfold cN at hf'
    have hL' : LF M' := by obtain ⟨f, rfl⟩ := he; exact hL
    refine r_X5_writeOne (fun n => n == 15) 40 ?_
    simp only [cd_X5_writeOne, cf_X5_writeOne, wp, wq, wpI, cdF, w_CI, w_CL, w_CN, w_LI, w_LL, w_LA, w_SI, w_SL, w_SA, w_INC, w_II, w_IId, w_LLb, w_LLd, w_LS, w_I1, w_L1, w_I2L, w_L2I, w_CMP, w_DUP, w_POP, w_DUP2, w_IF, w_IC, w_GO, w_NUL, w_ACN, prs, w_GF, w_PF, w_GS, w_IAL, w_LEN, w_LAL, w_ZAL, w_AAL, w_IAS, w_LAS, w_ZAS, w_AAS, w_RI, w_RL, w_RA, w_NEW, w_NA, w_MNA, w_OI, w_THR, w_CV, w_CS, w_CN9, w_CI9, w_MX, w_cont, lget, sto1, sto2, wideV, vo, vo_rv, isR, isR_rv, rv, fget, fput, cats, Value.category, List.headD_cons, List.getD_cons_zero, List.getD_cons_succ, List.drop_succ_cons, List.drop_zero, List.take_succ_cons, List.take_zero, List.reverse_cons, List.reverse_nil, List.nil_append, List.cons_append, List.length_cons, List.length_nil, cond_true, cond_false, and_true, true_and, Nat.zero_add, Nat.add_zero, Nat.reduceAdd, Nat.reduceLT, Nat.reduceLeDiff, Nat.reduceEqDiff, Nat.reduceBEq, Nat.reduceSub, ↓reduceIte, Int32.reduceOfNat, Int64.reduceOfNat, reduceCtorEq, Nat.le_refl, Nat.zero_le, Bool.false_eq_true, beq_self_eq_true, Fin.isValue, Fin.val_zero, Fin.val_one, Fin.reduceFinMk, Fin.val_two, Nat.reduceMod, Bool.or_false, Bool.or_true, Bool.true_or, Bool.false_or, not_true_eq_false, not_false_eq_true, true_or, or_true, implies_true, false_implies, true_implies, Int32.reduceLT, Int32.reduceLE, ↓w_TAB3, ↓w_TAB4, ↓w_TAB5, ↓w_TAB7, ↓w_TAB10, ↓w_LK2, ↓w_LK6, false_and, and_false, i1z, i2z, iz1, im0, im1, l0z, LF.hk hL', layF, hf']
    refine ⟨nI_01 (spd_6 ?_), hQ M' hf (rE_t (rE_u rE_0) he)⟩
    simp [up1]; omega
/-- the state with other counters -/
theorem RC_n {w o c} {n' : Nat → Nat} {M' : Mem} (h : RC w o c S M) (hn : cN n' M') (he : rE 431 M M') (h34 : n' 34 = sN S 34) (h39 : n' 39 = sN S 39) (h55 : n' 55 = sN S 55) (h60 : sN S 39 ≤ 60) : RC w o c (wN S n') M' := by
  obtain ⟨f, rfl⟩ := he
  obtain ⟨hL, hN, hI, hLl, hF, hS, hA, hC, hP, hRr, hD, hT, hZ⟩ := h
  refine ⟨hL, hn, cI_sRow hI (by omega), hLl, cF_sRow hF (by omega), ?_, cA_sRow hA (by omega), ?_, ?_, ?_, msgC_sRow hD (by omega), BYL_sRow hT (by omega), BYL_sRow hZ (by omega)⟩
  · show cS (n' 39) (sP S) _; rw [h39]; exact hS
  · show cC (n' 34) (sC S) _; rw [h34]; exact hC
  · show cP w (n' 39) (sP S) _; rw [h39]; exact cP_sRow hP h60 (by omega)
  · show cR o (n' 55) (sR S) _; rw [h55]; exact cR_sRow hRr (by omega)
theorem hiS_rE {M1 M' : Mem} {a : Nat} (h : hiS M M1) (he : rE a M1 M') (ha : a < 495) : hiS M M' := by
  obtain ⟨f, rfl⟩ := he
  exact hiS_sRow h ha
/-- the reference's counters: M' is M but for those -/
def rN (M M' : Mem) : Prop := ∃ f, M' = sRow M 495 f ∧ ∀ j, 64 ≤ j → f j = mI M 495 j
theorem rN_0 : rN M M := ⟨mI M 495, sRow_id.symm, fun _ _ => rfl⟩
theorem rN_u {j : Nat} {v : Int32} {M' : Mem} (h : rN M M') (hj : j < 64) : rN M (uI M' 495 j v) := by
  obtain ⟨f, rfl, hf⟩ := h
  refine ⟨_, uI_sRow, fun k hk => ?_⟩
  rw [if_neg (by omega)]
  exact hf k hk
theorem rN_t {M' M'' : Mem} (h : rN M M') (h' : rN M' M'') : rN M M'' := by
  obtain ⟨f, rfl, hf⟩ := h
  obtain ⟨g, rfl, hg⟩ := h'
  refine ⟨g, sRow_sRow, fun k hk => ?_⟩
  rw [hg k hk, mI_sRow, if_pos rfl, hf k hk]
theorem rN_L {M' : Mem} (h : rN M M') (hL : LF M) : LF M' := by obtain ⟨f, rfl, -⟩ := h; exact hL
theorem RM_n {n' : Nat → Nat} {M' : Mem} (h : RM S M) (hn : mNn n' M') (he : rN M M') (h34 : n' 34 = sN S 34) (h39 : n' 39 = sN S 39) (h55 : n' 55 = sN S 55) : RM (wN S n') M' := by
  obtain ⟨f, rfl, hf⟩ := he
  obtain ⟨hL, hN, hI, hLl, hA, hC, hP, hRr, hD, hT, hZ, hK⟩ := h
  refine ⟨hL, hn, mIi_sRow hI (by omega), hLl, mA_sRow hA (by omega), ?_, ?_, ?_, ?_, ?_, ?_, mK_sRow hK (by omega)⟩
  · show mC (n' 34) (sC S) _; rw [h34]; exact mC_sRow hC (by omega)
  · show mP (n' 39) (sP S) _; rw [h39]; exact mP_sRow hP (by omega)
  · show mRr (n' 55) (sR S) _; rw [h55]; exact mRr_sRow hRr (by omega)
  · refine ⟨by rw [mI_sRow, if_pos rfl, hf 64 (by omega)]; exact hD.1, fun s hs => ⟨fun hp => ⟨by rw [mI_nr (by omega)]; exact ((hD.2 s hs).1 hp).1, fun i hi => by rw [mI_nr (by omega)]; exact ((hD.2 s hs).1 hp).2 i hi⟩, fun hp => by rw [mI_nr (by omega)]; exact (hD.2 s hs).2 hp⟩⟩
  · exact ⟨by rw [mI_sRow, if_pos rfl, hf 74 (by omega)]; exact hT.1, fun i hi => by rw [mI_nr (by omega)]; exact hT.2 i hi⟩
  · exact ⟨by rw [mI_sRow, if_pos rfl, hf 78 (by omega)]; exact hZ.1, fun i hi => by rw [mI_nr (by omega)]; exact hZ.2 i hi⟩
theorem loS_rN {M1 M' : Mem} (h : loS M M1) (he : rN M1 M') : loS M M' := by
  obtain ⟨f, rfl, -⟩ := he
  exact loS_sRow h (by omega)
/-- the reference spends a block -/
theorem m_spend (hL : LF M) (hN : mNn n M) (hs : n 7 ≤ 1001) (h7 : n 7 ≠ 1) (h6 : n 6 = 0) (hQ : ∀ M', mNn (spd n 1) M' → rN M M' → mI M' 495 3 = mI M 495 3 → Q (some (.int (b2i (spd n 1 6 = 0)))) M') : Ct G (MT 246) [.ref 495] M Q X := by
  have hn := hN
  unfold mNn at hn
  have t7 := nI_toInt (n := n 7) (by omega)
  have tm : (nI (n 7) - 1).toInt = n 7 - 1 := by rw [i_sub] <;> rw [t7] <;> simp <;> omega
  have e0 : nI (n 7) - 1 - 0 = nI (n 7) - 1 := by rw [i_eq, i_sub] <;> rw [tm] <;> simp <;> omega
  refine Ct.go (L0 := [some (.ref 495)]) (by decide +kernel) rfl rfl ?_
  refine r_X12_spend (fun _ => false) 60 ?_
  simp only [cd_X12_spend, cf_X12_spend, wp, wq, wpI, cdF, w_CI, w_CL, w_CN, w_LI, w_LL, w_LA, w_SI, w_SL, w_SA, w_INC, w_II, w_IId, w_LLb, w_LLd, w_LS, w_I1, w_L1, w_I2L, w_L2I, w_CMP, w_DUP, w_POP, w_DUP2, w_IF, w_IC, w_GO, w_NUL, w_ACN, prs, w_GF, w_PF, w_GS, w_IAL, w_LEN, w_LAL, w_ZAL, w_AAL, w_IAS, w_LAS, w_ZAS, w_AAS, w_RI, w_RL, w_RA, w_NEW, w_NA, w_MNA, w_OI, w_THR, w_CV, w_CS, w_CN9, w_CI9, w_MX, w_cont, lget, sto1, sto2, wideV, vo, vo_rv, isR, isR_rv, rv, fget, fput, cats, Value.category, List.headD_cons, List.getD_cons_zero, List.getD_cons_succ, List.drop_succ_cons, List.drop_zero, List.take_succ_cons, List.take_zero, List.reverse_cons, List.reverse_nil, List.nil_append, List.cons_append, List.length_cons, List.length_nil, cond_true, cond_false, and_true, true_and, Nat.zero_add, Nat.add_zero, Nat.reduceAdd, Nat.reduceLT, Nat.reduceLeDiff, Nat.reduceEqDiff, Nat.reduceBEq, Nat.reduceSub, ↓reduceIte, Int32.reduceOfNat, Int64.reduceOfNat, reduceCtorEq, Nat.le_refl, Nat.zero_le, Bool.false_eq_true, beq_self_eq_true, Fin.isValue, Fin.val_zero, Fin.val_one, Fin.reduceFinMk, Fin.val_two, Nat.reduceMod, Bool.or_false, Bool.or_true, Bool.true_or, Bool.false_or, not_true_eq_false, not_false_eq_true, true_or, or_true, implies_true, false_implies, true_implies, Int32.reduceLT, Int32.reduceLE, ↓w_TAB3, ↓w_TAB4, ↓w_TAB5, ↓w_TAB7, ↓w_TAB10, ↓w_LK2, ↓w_LK6, false_and, and_false, i1z, i2z, iz1, im0, im1, l0z, hasK_uI, hasK_uL, hasK_uR, hasK_uZ, hasK_sRow, mR_uI, mR_uL, mR_uZ, mR_sRow, mI_uL, mI_uR, mI_uZ, mL_uI, mL_uR, mL_uZ, mL_sRow, LF.hk hL, layF, LF.r hL, refF, ne_eq, not_false_eq_true, Option.some.injEq, Sum.inl.injEq, Sum.inr.injEq, Prod.mk.injEq, exists_eq_left, exists_eq_left', mI_uI, hn, nI_1, e0]
  have hN1 : mNn (up1 n 10 (n 10 + 1)) (uI M 495 10 (nI (n 10 + 1))) := mNn_10y hN rfl
  have hc : ∀ a b, mI (uI (uI (uI M 495 10 (nI (n 10 + 1))) 495 7 a) 495 6 b) 495 3 = mI M 495 3 := fun a b => by simp [mI_uI]
  refine and_ii (fun h => ?_) (fun h => ?_)
  · have e : n 7 = 0 := by (simp only [i_lt, i_le, i_eq, l_lt, l_le, l_eq, Int32.toInt_toInt64, Int32.reduceToInt, Int64.reduceToInt, ne_eq, Classical.not_not] at *; omega)
    refine and_ii (fun h2 => ?_) (fun h2 => ?_)
    · have hN2 : mNn (up1 (up1 n 10 (n 10 + 1)) 7 (n 7)) (uI (uI M 495 10 (nI (n 10 + 1))) 495 7 (nI (n 7) - 1)) := mNn_7y hN1 rfl
      have hN3 := mNn_6y (v := 0) (y := 0) hN2 rfl
      have en : up1 (up1 (up1 n 10 (n 10 + 1)) 7 (n 7)) 6 0 = spd n 1 := by
        unfold spd
        rw [if_pos e]
        funext j
        unfold up1
        by_cases q : j = 6
        · subst q; simp [h6]
        · by_cases q2 : j = 7
          · subst q2; simp
          · simp [q, q2]
      rw [en] at hN3
      have := hQ _ hN3 (rN_u (rN_u (rN_u rN_0 (by omega)) (by omega)) (by omega)) (hc _ _)
      rw [b2i_t (by rw [← en]; simp [up1])] at this
      exact this
    · exfalso; (simp only [i_lt, i_le, i_eq, l_lt, l_le, l_eq, Int32.toInt_toInt64, Int32.reduceToInt, Int64.reduceToInt, ne_eq, Classical.not_not] at *; omega)
  · have e : n 7 ≠ 0 := by (simp only [i_lt, i_le, i_eq, l_lt, l_le, l_eq, Int32.toInt_toInt64, Int32.reduceToInt, Int64.reduceToInt, ne_eq, Classical.not_not] at *; omega)
    have tnk := nI_toInt (n := n 7 - 1) (by omega)
    have tm2 : (nI (n 7 - 1) - 1).toInt = (n 7 - 1 : Nat) - 1 := by rw [i_sub] <;> rw [tnk] <;> simp <;> omega
    have ew : nI (n 7) - 1 - 1 = nI (n 7 - 1) - 1 := by
      rw [i_eq, tm2, i_sub] <;> rw [tm] <;> simp <;> omega
    have hN2 : mNn (up1 (up1 n 10 (n 10 + 1)) 7 (n 7 - 1)) (uI (uI M 495 10 (nI (n 10 + 1))) 495 7 (nI (n 7 - 1) - 1)) := mNn_7y hN1 rfl
    rw [ew]
    refine and_ii (fun h2 => ?_) (fun h2 => ?_)
    · have e2 : ¬ n 7 - 1 = 1 := by (simp only [i_lt, i_le, i_eq, l_lt, l_le, l_eq, Int32.toInt_toInt64, Int32.reduceToInt, Int64.reduceToInt, ne_eq, Classical.not_not] at *; omega)
      have hN3 := mNn_6y (v := 0) (y := 0) hN2 rfl
      have en : up1 (up1 (up1 n 10 (n 10 + 1)) 7 (n 7 - 1)) 6 0 = spd n 1 := by unfold spd; rw [if_neg e, if_neg e2]
      rw [en] at hN3
      have := hQ _ hN3 (rN_u (rN_u (rN_u rN_0 (by omega)) (by omega)) (by omega)) (hc _ _)
      rw [b2i_t (by rw [← en]; simp [up1])] at this
      exact this
    · have e2 : n 7 - 1 = 1 := by (simp only [i_lt, i_le, i_eq, l_lt, l_le, l_eq, Int32.toInt_toInt64, Int32.reduceToInt, Int64.reduceToInt, ne_eq, Classical.not_not] at *; omega)
      have hN3 := mNn_6y (v := 1) (y := 1) hN2 rfl
      have en : up1 (up1 (up1 n 10 (n 10 + 1)) 7 (n 7 - 1)) 6 1 = spd n 1 := by unfold spd; rw [if_neg e, if_pos e2]
      rw [en] at hN3
      have := hQ _ hN3 (rN_u (rN_u (rN_u rN_0 (by omega)) (by omega)) (by omega)) (hc _ _)
      rw [b2i_f (by rw [← en]; simp [up1])] at this
      exact this
theorem m_writes (hL : LF M) (hN : mNn n M) (hs : smN n) (h7 : n 7 ≠ 1) (h6 : n 6 = 0) (h1 : n 9 = n 8 → Q (some (.int 0)) M) (h2 : n 9 ≠ n 8 → ∀ M', mNn (wr1 n) M' → rN M M' → mI M' 495 3 = mI M 495 3 → Q (some (.int 1)) M') : Ct G (MT 266) [.ref 495] M Q X := by
  have hn := hN
  unfold mNn at hn
  unfold smN at hs
  have t8 := nI_toInt (n := n 8) (by omega)
  have t9 := nI_toInt (n := n 9) (by omega)
  refine Ct.go (L0 := [some (.ref 495), none]) (by decide +kernel) rfl rfl ?_
  refine r_X12_writes (fun n => n == 27) 60 ?_
  simp only [cd_X12_writes, cf_X12_writes, wp, wq, wpI, cdF, w_CI, w_CL, w_CN, w_LI, w_LL, w_LA, w_SI, w_SL, w_SA, w_INC, w_II, w_IId, w_LLb, w_LLd, w_LS, w_I1, w_L1, w_I2L, w_L2I, w_CMP, w_DUP, w_POP, w_DUP2, w_IF, w_IC, w_GO, w_NUL, w_ACN, prs, w_GF, w_PF, w_GS, w_IAL, w_LEN, w_LAL, w_ZAL, w_AAL, w_IAS, w_LAS, w_ZAS, w_AAS, w_RI, w_RL, w_RA, w_NEW, w_NA, w_MNA, w_OI, w_THR, w_CV, w_CS, w_CN9, w_CI9, w_MX, w_cont, lget, sto1, sto2, wideV, vo, vo_rv, isR, isR_rv, rv, fget, fput, cats, Value.category, List.headD_cons, List.getD_cons_zero, List.getD_cons_succ, List.drop_succ_cons, List.drop_zero, List.take_succ_cons, List.take_zero, List.reverse_cons, List.reverse_nil, List.nil_append, List.cons_append, List.length_cons, List.length_nil, cond_true, cond_false, and_true, true_and, Nat.zero_add, Nat.add_zero, Nat.reduceAdd, Nat.reduceLT, Nat.reduceLeDiff, Nat.reduceEqDiff, Nat.reduceBEq, Nat.reduceSub, ↓reduceIte, Int32.reduceOfNat, Int64.reduceOfNat, reduceCtorEq, Nat.le_refl, Nat.zero_le, Bool.false_eq_true, beq_self_eq_true, Fin.isValue, Fin.val_zero, Fin.val_one, Fin.reduceFinMk, Fin.val_two, Nat.reduceMod, Bool.or_false, Bool.or_true, Bool.true_or, Bool.false_or, not_true_eq_false, not_false_eq_true, true_or, or_true, implies_true, false_implies, true_implies, Int32.reduceLT, Int32.reduceLE, ↓w_TAB3, ↓w_TAB4, ↓w_TAB5, ↓w_TAB7, ↓w_TAB10, ↓w_LK2, ↓w_LK6, false_and, and_false, i1z, i2z, iz1, im0, im1, l0z, hasK_uI, hasK_uL, hasK_uR, hasK_uZ, hasK_sRow, mR_uI, mR_uL, mR_uZ, mR_sRow, mI_uL, mI_uR, mI_uZ, mL_uI, mL_uR, mL_uZ, mL_sRow, LF.hk hL, layF, LF.r hL, refF, ne_eq, not_false_eq_true, Option.some.injEq, Sum.inl.injEq, Sum.inr.injEq, Prod.mk.injEq, exists_eq_left, exists_eq_left', mI_uI, hn, nI_1]
  refine and_ii (fun h => ?_) (fun h => h1 (by (simp only [i_lt, i_le, i_eq, l_lt, l_le, l_eq, Int32.toInt_toInt64, Int32.reduceToInt, Int64.reduceToInt, ne_eq, Classical.not_not] at *; omega)))
  have hN1 : mNn (up1 n 9 (n 9 + 1)) (uI M 495 9 (nI (n 9 + 1))) := mNn_9y hN rfl
  refine m_spend (n := up1 n 9 (n 9 + 1)) (M := uI M 495 9 (nI (n 9 + 1))) hL hN1 ?_ ?_ ?_ (fun M' q1 q2 q3 => ⟨_, rfl, ?_⟩)
  · simp [up1]; omega
  · simpa [up1] using h7
  · simpa [up1] using h6
  · refine r_X12_writes (fun n => n == 27) 60 ?_
    simp only [cd_X12_writes, cf_X12_writes, wp, wq, wpI, cdF, w_CI, w_CL, w_CN, w_LI, w_LL, w_LA, w_SI, w_SL, w_SA, w_INC, w_II, w_IId, w_LLb, w_LLd, w_LS, w_I1, w_L1, w_I2L, w_L2I, w_CMP, w_DUP, w_POP, w_DUP2, w_IF, w_IC, w_GO, w_NUL, w_ACN, prs, w_GF, w_PF, w_GS, w_IAL, w_LEN, w_LAL, w_ZAL, w_AAL, w_IAS, w_LAS, w_ZAS, w_AAS, w_RI, w_RL, w_RA, w_NEW, w_NA, w_MNA, w_OI, w_THR, w_CV, w_CS, w_CN9, w_CI9, w_MX, w_cont, lget, sto1, sto2, wideV, vo, vo_rv, isR, isR_rv, rv, fget, fput, cats, Value.category, List.headD_cons, List.getD_cons_zero, List.getD_cons_succ, List.drop_succ_cons, List.drop_zero, List.take_succ_cons, List.take_zero, List.reverse_cons, List.reverse_nil, List.nil_append, List.cons_append, List.length_cons, List.length_nil, cond_true, cond_false, and_true, true_and, Nat.zero_add, Nat.add_zero, Nat.reduceAdd, Nat.reduceLT, Nat.reduceLeDiff, Nat.reduceEqDiff, Nat.reduceBEq, Nat.reduceSub, ↓reduceIte, Int32.reduceOfNat, Int64.reduceOfNat, reduceCtorEq, Nat.le_refl, Nat.zero_le, Bool.false_eq_true, beq_self_eq_true, Fin.isValue, Fin.val_zero, Fin.val_one, Fin.reduceFinMk, Fin.val_two, Nat.reduceMod, Bool.or_false, Bool.or_true, Bool.true_or, Bool.false_or, not_true_eq_false, not_false_eq_true, true_or, or_true, implies_true, false_implies, true_implies, Int32.reduceLT, Int32.reduceLE, ↓w_TAB3, ↓w_TAB4, ↓w_TAB5, ↓w_TAB7, ↓w_TAB10, ↓w_LK2, ↓w_LK6, false_and, and_false, i1z, i2z, iz1, im0, im1, l0z]
    refine h2 (by (simp only [i_lt, i_le, i_eq, l_lt, l_le, l_eq, Int32.toInt_toInt64, Int32.reduceToInt, Int64.reduceToInt, ne_eq, Classical.not_not] at *; omega)) M' q1 (rN_t (rN_u rN_0 (by omega)) q2) ?_
    rw [q3]
    simp [mI_uI]
end JOU
