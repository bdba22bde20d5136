/-! PaymentSwitch: its small helpers -/
def nd (n : Nat) : Nat := if n < 10 then 1 else nd (n / 10) + 1
termination_by n
decreasing_by omega
theorem nd_lt {n : Nat} (h : n < 10) : nd n = 1 := by rw [nd, if_pos h]
theorem nd_ge {n : Nat} (h : ¬ n < 10) : nd n = nd (n / 10) + 1 := by rw [nd, if_neg h]
theorem nd_pos (n : Nat) : 1 ≤ nd n := by
  by_cases h : n < 10
  · rw [nd_lt h]; omega
  · rw [nd_ge h]; omega
theorem nd_le : ∀ (k n : Nat), n < 10 ^ (k + 1) → nd n ≤ k + 1
  | 0, n, h => by rw [nd_lt (by simpa using h)]; omega
  | k + 1, n, h => by
    by_cases h1 : n < 10
    · rw [nd_lt h1]; omega
    · rw [nd_ge h1]
      have := nd_le k (n / 10) (by rw [Nat.pow_succ] at h; omega)
      omega
section HLP
variable {G : En} {M : Mem} {Q : Option Value → Mem → Prop} {X : String → Mem → Prop}
theorem c_isWithin {v a b : Int64} (hQ : Q (some (.int (b2i (a ≤ v ∧ v ≤ b)))) M) : Ct G (MT 170) [.long v, .long a, .long b] M Q X := by
  refine Ct.go (L0 := [some (.long v), none, some (.long a), none, some (.long b), none]) (by decide +kernel) rfl rfl ?_
  refine r_X11_isWithin (fun _ => false) 20 ?_
  simp only [cd_X11_isWithin, cf_X11_isWithin, wp, wpI, cdF, w_CI, w_CL, w_CN, w_LI, w_LL, w_LA, w_SI, w_SL, w_SA, w_INC, w_II, w_IId, w_LLb, w_LLd, w_LS, w_I1, w_L1, w_I2L, w_L2I, w_CMP, w_DUP, w_POP, w_DUP2, w_IF, w_IC, w_GO, w_NUL, w_ACN, w_sw, w_TAB, w_lk, w_LOOK, prs, w_GF, w_PF, w_GS, w_IAL, w_LEN, w_LAL, w_ZAL, w_AAL, w_IAS, w_LAS, w_ZAS, w_AAS, w_RI, w_RL, w_RA, w_NEW, w_NA, w_MNA, w_OI, w_THR, w_CV, w_CS, w_CN9, w_CI9, w_MX, w_cont, lget, sto1, sto2, wideV, vo, vo_rv, isR, isR_rv, rv, fget, fput, cats, Value.category, List.headD_cons, List.getD_cons_zero, List.getD_cons_succ, List.drop_succ_cons, List.drop_zero, List.take_succ_cons, List.take_zero, List.reverse_cons, List.reverse_nil, List.nil_append, List.cons_append, List.length_cons, List.length_nil, cond_true, cond_false, and_true, true_and, Nat.zero_add, Nat.add_zero, Nat.reduceAdd, Nat.reduceLT, Nat.reduceLeDiff, Nat.reduceEqDiff, Nat.reduceBEq, Nat.reduceSub, ↓reduceIte, Int32.reduceOfNat, Int64.reduceOfNat, reduceCtorEq, Nat.le_refl, Nat.zero_le, Bool.false_eq_true, beq_self_eq_true, Fin.isValue, Fin.val_zero, Fin.val_one, Fin.reduceFinMk, Fin.val_two, Nat.reduceMod, cmp_lt, cmp_gt, cmp_ge, cmp_le, cmp_eq]
  refine ⟨fun h => ?_, fun h => ⟨fun h2 => ?_, fun h2 => ?_⟩⟩ <;> simp only [l_le, l_lt] at *
  · rw [b2i_f (by omega)] at hQ
    exact ⟨by simp, hQ⟩
  · rw [b2i_f (by omega)] at hQ
    exact ⟨by simp, hQ⟩
  · rw [b2i_t (by omega)] at hQ
    exact ⟨by simp, hQ⟩
theorem c_demand {b : Int32} (h1 : b ≠ 0 → Q none M) (h2 : b = 0 → X "java/lang/IllegalArgumentException" (uZ M)) : Ct G (MT 165) [.int b] M Q X := by
  refine Ct.go (L0 := [some (.int b)]) (by decide +kernel) rfl rfl ?_
  refine r_X11_demand (fun _ => false) 20 ?_
  simp only [cd_X11_demand, cf_X11_demand, wp, wpI, cdF, w_CI, w_CL, w_CN, w_LI, w_LL, w_LA, w_SI, w_SL, w_SA, w_INC, w_II, w_IId, w_LLb, w_LLd, w_LS, w_I1, w_L1, w_I2L, w_L2I, w_CMP, w_DUP, w_POP, w_DUP2, w_IF, w_IC, w_GO, w_NUL, w_ACN, w_sw, w_TAB, w_lk, w_LOOK, prs, w_GF, w_PF, w_GS, w_IAL, w_LEN, w_LAL, w_ZAL, w_AAL, w_IAS, w_LAS, w_ZAS, w_AAS, w_RI, w_RL, w_RA, w_NEW, w_NA, w_MNA, w_OI, w_THR, w_CV, w_CS, w_CN9, w_CI9, w_MX, w_cont, lget, sto1, sto2, wideV, vo, vo_rv, isR, isR_rv, rv, fget, fput, cats, Value.category, List.headD_cons, List.getD_cons_zero, List.getD_cons_succ, List.drop_succ_cons, List.drop_zero, List.take_succ_cons, List.take_zero, List.reverse_cons, List.reverse_nil, List.nil_append, List.cons_append, List.length_cons, List.length_nil, cond_true, cond_false, and_true, true_and, Nat.zero_add, Nat.add_zero, Nat.reduceAdd, Nat.reduceLT, Nat.reduceLeDiff, Nat.reduceEqDiff, Nat.reduceBEq, Nat.reduceSub, ↓reduceIte, Int32.reduceOfNat, Int64.reduceOfNat, reduceCtorEq, Nat.le_refl, Nat.zero_le, Bool.false_eq_true, beq_self_eq_true, Fin.isValue, Fin.val_zero, Fin.val_one, Fin.reduceFinMk, Fin.val_two, Nat.reduceMod, xName]
  exact ⟨h1, fun h => h2 (Classical.not_not.mp h)⟩
theorem c_permit {b : Int32} (h1 : b ≠ 0 → Q none M) (h2 : b = 0 → X "java/lang/IllegalStateException" (uZ M)) : Ct G (MT 166) [.int b] M Q X := by
  refine Ct.go (L0 := [some (.int b)]) (by decide +kernel) rfl rfl ?_
  refine r_X11_permit (fun _ => false) 20 ?_
  simp only [cd_X11_permit, cf_X11_permit, wp, wpI, cdF, w_CI, w_CL, w_CN, w_LI, w_LL, w_LA, w_SI, w_SL, w_SA, w_INC, w_II, w_IId, w_LLb, w_LLd, w_LS, w_I1, w_L1, w_I2L, w_L2I, w_CMP, w_DUP, w_POP, w_DUP2, w_IF, w_IC, w_GO, w_NUL, w_ACN, w_sw, w_TAB, w_lk, w_LOOK, prs, w_GF, w_PF, w_GS, w_IAL, w_LEN, w_LAL, w_ZAL, w_AAL, w_IAS, w_LAS, w_ZAS, w_AAS, w_RI, w_RL, w_RA, w_NEW, w_NA, w_MNA, w_OI, w_THR, w_CV, w_CS, w_CN9, w_CI9, w_MX, w_cont, lget, sto1, sto2, wideV, vo, vo_rv, isR, isR_rv, rv, fget, fput, cats, Value.category, List.headD_cons, List.getD_cons_zero, List.getD_cons_succ, List.drop_succ_cons, List.drop_zero, List.take_succ_cons, List.take_zero, List.reverse_cons, List.reverse_nil, List.nil_append, List.cons_append, List.length_cons, List.length_nil, cond_true, cond_false, and_true, true_and, Nat.zero_add, Nat.add_zero, Nat.reduceAdd, Nat.reduceLT, Nat.reduceLeDiff, Nat.reduceEqDiff, Nat.reduceBEq, Nat.reduceSub, ↓reduceIte, Int32.reduceOfNat, Int64.reduceOfNat, reduceCtorEq, Nat.le_refl, Nat.zero_le, Bool.false_eq_true, beq_self_eq_true, Fin.isValue, Fin.val_zero, Fin.val_one, Fin.reduceFinMk, Fin.val_two, Nat.reduceMod, xName]
  exact ⟨h1, fun h => h2 (Classical.not_not.mp h)⟩
theorem lp_digitCount {v : Int64} {kc ks : Nat} : ∀ (r n : Nat) (rest : Int64), rest.toInt = r → n + (if r = 0 then 0 else nd r) ≤ 19 → Q (some (.int (nI (n + (if r = 0 then 0 else nd r))))) M → Go G (MT 174) Q X 8 [some (.long v), none, some (.int (nI n)), some (.long rest), none] [] M kc ks := by
  intro r
  induction r using Nat.strongRecOn with
  | ind r ih =>
    intro n rest hr hn hQ
    refine r_X11_digitCount (fun n => n == 8) 20 ?_
    simp only [cd_X11_digitCount, cf_X11_digitCount, wp, wpI, cdF, w_CI, w_CL, w_CN, w_LI, w_LL, w_LA, w_SI, w_SL, w_SA, w_INC, w_II, w_IId, w_LLb, w_LLd, w_LS, w_I1, w_L1, w_I2L, w_L2I, w_CMP, w_DUP, w_POP, w_DUP2, w_IF, w_IC, w_GO, w_NUL, w_ACN, w_sw, w_TAB, w_lk, w_LOOK, prs, w_GF, w_PF, w_GS, w_IAL, w_LEN, w_LAL, w_ZAL, w_AAL, w_IAS, w_LAS, w_ZAS, w_AAS, w_RI, w_RL, w_RA, w_NEW, w_NA, w_MNA, w_OI, w_THR, w_CV, w_CS, w_CN9, w_CI9, w_MX, w_cont, lget, sto1, sto2, wideV, vo, vo_rv, isR, isR_rv, rv, fget, fput, cats, Value.category, List.headD_cons, List.getD_cons_zero, List.getD_cons_succ, List.drop_succ_cons, List.drop_zero, List.take_succ_cons, List.take_zero, List.reverse_cons, List.reverse_nil, List.nil_append, List.cons_append, List.length_cons, List.length_nil, cond_true, cond_false, and_true, true_and, Nat.zero_add, Nat.add_zero, Nat.reduceAdd, Nat.reduceLT, Nat.reduceLeDiff, Nat.reduceEqDiff, Nat.reduceBEq, Nat.reduceSub, ↓reduceIte, Int32.reduceOfNat, Int64.reduceOfNat, reduceCtorEq, Nat.le_refl, Nat.zero_le, Bool.false_eq_true, beq_self_eq_true, Fin.isValue, Fin.val_zero, Fin.val_one, Fin.reduceFinMk, Fin.val_two, Nat.reduceMod, cmp_le]
    refine ⟨fun h => ?_, fun h => ⟨fun h2 => ?_, fun h2 => ?_⟩⟩
    · rw [l_le] at h
      have h0 : r = 0 := by simp at h; omega
      subst h0
      simpa using hQ
    · exfalso
      rw [l_le] at h
      have h0 : r ≠ 0 := by intro q; subst q; simp at h; omega
      have h3 := nd_pos r
      rw [if_neg h0] at hn
      rw [i_le, nI_toInt (by omega)] at h2
      simp at h2
      omega
    · rw [l_le] at h
      have h0 : r ≠ 0 := by intro q; subst q; simp at h; omega
      rw [if_neg h0] at hn hQ
      refine ⟨by simp, ?_⟩
      rw [show nI n + 1 = nI (n + 1) from nI_1 n]
      have hd : (rest / 10).toInt = ((r / 10 : Nat) : Int) := by
        rw [l_div (by omega) (by simp), hr]
        simp
      by_cases h9 : r < 10
      · rw [nd_lt h9] at hn hQ
        exact ih (r / 10) (by omega) (n + 1) _ hd (by rw [if_pos (by omega)]; omega) (by rw [if_pos (by omega)]; exact hQ)
      · rw [nd_ge h9] at hn hQ
        exact ih (r / 10) (by omega) (n + 1) _ hd (by rw [if_neg (by omega)]; omega) (by rw [if_neg (by omega), show n + 1 + nd (r / 10) = n + (nd (r / 10) + 1) by omega]; exact hQ)
theorem c_digitCount {v : Int64} (h0 : 0 ≤ v) (hQ : Q (some (.int (nI (nd v.toInt.toNat)))) M) : Ct G (MT 174) [.long v] M Q X := by
  have hv : 0 ≤ v.toInt := by rw [l_le] at h0; simpa using h0
  have hb := l_bnd v
  refine Ct.go (L0 := [some (.long v), none, none, none, none]) (by decide +kernel) rfl rfl ?_
  refine r_X11_digitCount (fun n => n == 8) 20 ?_
  simp only [cd_X11_digitCount, cf_X11_digitCount, wp, wpI, cdF, w_CI, w_CL, w_CN, w_LI, w_LL, w_LA, w_SI, w_SL, w_SA, w_INC, w_II, w_IId, w_LLb, w_LLd, w_LS, w_I1, w_L1, w_I2L, w_L2I, w_CMP, w_DUP, w_POP, w_DUP2, w_IF, w_IC, w_GO, w_NUL, w_ACN, w_sw, w_TAB, w_lk, w_LOOK, prs, w_GF, w_PF, w_GS, w_IAL, w_LEN, w_LAL, w_ZAL, w_AAL, w_IAS, w_LAS, w_ZAS, w_AAS, w_RI, w_RL, w_RA, w_NEW, w_NA, w_MNA, w_OI, w_THR, w_CV, w_CS, w_CN9, w_CI9, w_MX, w_cont, lget, sto1, sto2, wideV, vo, vo_rv, isR, isR_rv, rv, fget, fput, cats, Value.category, List.headD_cons, List.getD_cons_zero, List.getD_cons_succ, List.drop_succ_cons, List.drop_zero, List.take_succ_cons, List.take_zero, List.reverse_cons, List.reverse_nil, List.nil_append, List.cons_append, List.length_cons, List.length_nil, cond_true, cond_false, and_true, true_and, Nat.zero_add, Nat.add_zero, Nat.reduceAdd, Nat.reduceLT, Nat.reduceLeDiff, Nat.reduceEqDiff, Nat.reduceBEq, Nat.reduceSub, ↓reduceIte, Int32.reduceOfNat, Int64.reduceOfNat, reduceCtorEq, Nat.le_refl, Nat.zero_le, Bool.false_eq_true, beq_self_eq_true, Fin.isValue, Fin.val_zero, Fin.val_one, Fin.reduceFinMk, Fin.val_two, Nat.reduceMod]
  refine ⟨by simp, ?_⟩
  have hd : (v / 10).toInt = ((v.toInt.toNat / 10 : Nat) : Int) := by
    rw [l_div hv (by simp)]
    simp
    omega
  have h19 := nd_le 18 v.toInt.toNat (by omega)
  refine lp_digitCount (v.toInt.toNat / 10) 1 _ hd ?_ ?_
  · by_cases h9 : v.toInt.toNat < 10
    · rw [if_pos (by omega)]; omega
    · rw [if_neg (by omega)]; rw [nd_ge h9] at h19; omega
  · by_cases h9 : v.toInt.toNat < 10
    · rw [if_pos (by omega)]; rw [nd_lt h9] at hQ; exact hQ
    · rw [if_neg (by omega)]; rw [nd_ge h9] at hQ; rw [Nat.add_comm]; exact hQ
theorem c_shares {x y : Int32} (hx : 0 ≤ x.toInt ∧ x.toInt < 1000000) (hy : 0 < y.toInt ∧ y.toInt < 1000) (hQ : ∀ r : Int32, r.toInt = (x.toInt + y.toInt - 1) / y.toInt → Q (some (.int r)) M) : Ct G (MT 177) [.int x, .int y] M Q X := by
  refine Ct.go (L0 := [some (.int x), some (.int y)]) (by decide +kernel) rfl rfl ?_
  refine r_X11_shares (fun _ => false) 20 ?_
  simp only [cd_X11_shares, cf_X11_shares, wp, wpI, cdF, w_CI, w_CL, w_CN, w_LI, w_LL, w_LA, w_SI, w_SL, w_SA, w_INC, w_II, w_IId, w_LLb, w_LLd, w_LS, w_I1, w_L1, w_I2L, w_L2I, w_CMP, w_DUP, w_POP, w_DUP2, w_IF, w_IC, w_GO, w_NUL, w_ACN, w_sw, w_TAB, w_lk, w_LOOK, prs, w_GF, w_PF, w_GS, w_IAL, w_LEN, w_LAL, w_ZAL, w_AAL, w_IAS, w_LAS, w_ZAS, w_AAS, w_RI, w_RL, w_RA, w_NEW, w_NA, w_MNA, w_OI, w_THR, w_CV, w_CS, w_CN9, w_CI9, w_MX, w_cont, lget, sto1, sto2, wideV, vo, vo_rv, isR, isR_rv, rv, fget, fput, cats, Value.category, List.headD_cons, List.getD_cons_zero, List.getD_cons_succ, List.drop_succ_cons, List.drop_zero, List.take_succ_cons, List.take_zero, List.reverse_cons, List.reverse_nil, List.nil_append, List.cons_append, List.length_cons, List.length_nil, cond_true, cond_false, and_true, true_and, Nat.zero_add, Nat.add_zero, Nat.reduceAdd, Nat.reduceLT, Nat.reduceLeDiff, Nat.reduceEqDiff, Nat.reduceBEq, Nat.reduceSub, ↓reduceIte, Int32.reduceOfNat, Int64.reduceOfNat, reduceCtorEq, Nat.le_refl, Nat.zero_le, Bool.false_eq_true, beq_self_eq_true, Fin.isValue, Fin.val_zero, Fin.val_one, Fin.reduceFinMk, Fin.val_two, Nat.reduceMod]
  refine ⟨fun h => ?_, fun h => ⟨fun q => ?_, ?_⟩⟩
  · exfalso; rw [i_le] at h; simp at h; omega
  · rw [q] at hy; simp at hy
  · apply hQ
    have e1 : (x + y).toInt = x.toInt + y.toInt := i_add (by omega)
    have e2 : (x + y - 1).toInt = x.toInt + y.toInt - 1 := by rw [i_sub] <;> rw [e1] <;> simp <;> omega
    rw [i_div (by rw [e2]; omega) (by omega), e2]
theorem c_fits_neg {s : Int32} {v : Int64} (h : v.toInt < 0) (hQ : Q (some (.int 0)) M) : Ct G (MT 173) [.int s, .long v] M Q X := by
  refine Ct.go (L0 := [some (.int s), some (.long v), none]) (by decide +kernel) rfl rfl ?_
  refine r_X11_fits (fun _ => false) 20 ?_
  simp only [cd_X11_fits, cf_X11_fits, wp, wpI, cdF, w_CI, w_CL, w_CN, w_LI, w_LL, w_LA, w_SI, w_SL, w_SA, w_INC, w_II, w_IId, w_LLb, w_LLd, w_LS, w_I1, w_L1, w_I2L, w_L2I, w_CMP, w_DUP, w_POP, w_DUP2, w_IF, w_IC, w_GO, w_NUL, w_ACN, w_sw, w_TAB, w_lk, w_LOOK, prs, w_GF, w_PF, w_GS, w_IAL, w_LEN, w_LAL, w_ZAL, w_AAL, w_IAS, w_LAS, w_ZAS, w_AAS, w_RI, w_RL, w_RA, w_NEW, w_NA, w_MNA, w_OI, w_THR, w_CV, w_CS, w_CN9, w_CI9, w_MX, w_cont, lget, sto1, sto2, wideV, vo, vo_rv, isR, isR_rv, rv, fget, fput, cats, Value.category, List.headD_cons, List.getD_cons_zero, List.getD_cons_succ, List.drop_succ_cons, List.drop_zero, List.take_succ_cons, List.take_zero, List.reverse_cons, List.reverse_nil, List.nil_append, List.cons_append, List.length_cons, List.length_nil, cond_true, cond_false, and_true, true_and, Nat.zero_add, Nat.add_zero, Nat.reduceAdd, Nat.reduceLT, Nat.reduceLeDiff, Nat.reduceEqDiff, Nat.reduceBEq, Nat.reduceSub, ↓reduceIte, Int32.reduceOfNat, Int64.reduceOfNat, reduceCtorEq, Nat.le_refl, Nat.zero_le, Bool.false_eq_true, beq_self_eq_true, Fin.isValue, Fin.val_zero, Fin.val_one, Fin.reduceFinMk, Fin.val_two, Nat.reduceMod, cmp_lt]
  refine ⟨fun _ => ⟨by simp, hQ⟩, fun q => ?_⟩
  exfalso
  rw [l_lt] at q
  simp at q
  omega
theorem lp_slotOf {f : Int32} {kc ks : Nat} : ∀ (m i : Nat), m + i = 16 → (∀ j, j < i → stV 0 j ≠ f) → (∀ i, i < 16 → stV 0 i = f → (∀ j, j < i → stV 0 j ≠ f) → Q (some (.int (nI i))) M) → ((∀ j, j < 16 → stV 0 j ≠ f) → Q (some (.int (-1))) M) → Go G (MT 171) Q X 2 [some (.int f), some (.int (nI i))] [] M kc ks := by
  intro m
  induction m with
  | zero =>
    intro i hi hp h1 h2
    refine r_X11_slotOf (fun n => n == 2) 20 ?_
    simp only [cd_X11_slotOf, cf_X11_slotOf, wp, wpI, cdF, w_CI, w_CL, w_CN, w_LI, w_LL, w_LA, w_SI, w_SL, w_SA, w_INC, w_II, w_IId, w_LLb, w_LLd, w_LS, w_I1, w_L1, w_I2L, w_L2I, w_CMP, w_DUP, w_POP, w_DUP2, w_IF, w_IC, w_GO, w_NUL, w_ACN, w_sw, w_TAB, w_lk, w_LOOK, prs, w_GF, w_PF, w_GS, w_IAL, w_LEN, w_LAL, w_ZAL, w_AAL, w_IAS, w_LAS, w_ZAS, w_AAS, w_RI, w_RL, w_RA, w_NEW, w_NA, w_MNA, w_OI, w_THR, w_CV, w_CS, w_CN9, w_CI9, w_MX, w_cont, lget, sto1, sto2, wideV, vo, vo_rv, isR, isR_rv, rv, fget, fput, cats, Value.category, List.headD_cons, List.getD_cons_zero, List.getD_cons_succ, List.drop_succ_cons, List.drop_zero, List.take_succ_cons, List.take_zero, List.reverse_cons, List.reverse_nil, List.nil_append, List.cons_append, List.length_cons, List.length_nil, cond_true, cond_false, and_true, true_and, Nat.zero_add, Nat.add_zero, Nat.reduceAdd, Nat.reduceLT, Nat.reduceLeDiff, Nat.reduceEqDiff, Nat.reduceBEq, Nat.reduceSub, ↓reduceIte, Int32.reduceOfNat, Int64.reduceOfNat, reduceCtorEq, Nat.le_refl, Nat.zero_le, Bool.false_eq_true, beq_self_eq_true, Fin.isValue, Fin.val_zero, Fin.val_one, Fin.reduceFinMk, Fin.val_two, Nat.reduceMod]
    refine ⟨fun _ => h2 (fun j hj => hp j (by omega)), fun q => ?_⟩
    exfalso
    exact q (nI_le (show 16 ≤ i by omega) (by omega))
  | succ m ih =>
    intro i hi hp h1 h2
    refine r_X11_slotOf (fun n => n == 2) 20 ?_
    simp only [cd_X11_slotOf, cf_X11_slotOf, wp, wpI, cdF, w_CI, w_CL, w_CN, w_LI, w_LL, w_LA, w_SI, w_SL, w_SA, w_INC, w_II, w_IId, w_LLb, w_LLd, w_LS, w_I1, w_L1, w_I2L, w_L2I, w_CMP, w_DUP, w_POP, w_DUP2, w_IF, w_IC, w_GO, w_NUL, w_ACN, w_sw, w_TAB, w_lk, w_LOOK, prs, w_GF, w_PF, w_GS, w_IAL, w_LEN, w_LAL, w_ZAL, w_AAL, w_IAS, w_LAS, w_ZAS, w_AAS, w_RI, w_RL, w_RA, w_NEW, w_NA, w_MNA, w_OI, w_THR, w_CV, w_CS, w_CN9, w_CI9, w_MX, w_cont, lget, sto1, sto2, wideV, vo, vo_rv, isR, isR_rv, rv, fget, fput, cats, Value.category, List.headD_cons, List.getD_cons_zero, List.getD_cons_succ, List.drop_succ_cons, List.drop_zero, List.take_succ_cons, List.take_zero, List.reverse_cons, List.reverse_nil, List.nil_append, List.cons_append, List.length_cons, List.length_nil, cond_true, cond_false, and_true, true_and, Nat.zero_add, Nat.add_zero, Nat.reduceAdd, Nat.reduceLT, Nat.reduceLeDiff, Nat.reduceEqDiff, Nat.reduceBEq, Nat.reduceSub, ↓reduceIte, Int32.reduceOfNat, Int64.reduceOfNat, reduceCtorEq, Nat.le_refl, Nat.zero_le, Bool.false_eq_true, beq_self_eq_true, Fin.isValue, Fin.val_zero, Fin.val_one, Fin.reduceFinMk, Fin.val_two, Nat.reduceMod]
    refine ⟨fun q => ?_, fun _ => ⟨vp_in_nI (show i < 16 by omega) (by omega), ?_⟩⟩
    · exfalso
      exact nI_ge (show i < 16 by omega) (by omega) q
    · rw [nI_clamp (by omega)]
      refine ⟨fun q => ?_, fun q => ?_⟩
      · rw [nI_1]
        refine ih (i + 1) (by omega) (fun j hj => ?_) h1 h2
        by_cases hji : j = i
        · subst hji; exact q
        · exact hp j (by omega)
      · exact h1 i (by omega) (Classical.not_not.mp q) hp
end HLP
