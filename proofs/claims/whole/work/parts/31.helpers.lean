/-! PaymentSwitch: its small helpers -/
def nd (n : Nat) : Nat := if n < 10 then 1 else nd (n / 10) + 1
termination_by n
decreasing_by omega
theorem nd_lt {n : Nat} (h : n < 10) : nd n = 1 := by rw [nd, if_pos h]
theorem nd_ge {n : Nat} (h : ¬ n < 10) : nd n = nd (n / 10) + 1 := by rw [nd, if_neg h]
theorem nd_pos (n : Nat) : 1 ≤ nd n := by
  by_cases h : n < 10
  · rw [nd_lt h]; omega
  · rw [nd_ge h]; omega
theorem nd_le : ∀ (k n : Nat), n < 10 ^ (k + 1) → nd n ≤ k + 1
  | 0, n, h => by rw [nd_lt (by simpa using h)]; omega
  | k + 1, n, h => by
    by_cases h1 : n < 10
    · rw [nd_lt h1]; omega
    · rw [nd_ge h1]
      have := nd_le k (n / 10) (by rw [Nat.pow_succ] at h; omega)
      omega
section HLP
variable {G : En} {M : Mem} {Q : Option Value → Mem → Prop} {X : String → Mem → Prop}
theorem c_isWithin {v a b : Int64} (hQ : Q (some (.int (b2i (a ≤ v ∧ v ≤ b)))) M) : Ct G (MT 170) [.long v, .long a, .long b] M Q X := by
  refine Ct.go (L0 := [some (.long v), none, some (.long a), none, some (.long b), none]) (by decide +kernel) rfl rfl ?_
  refine r_X11_isWithin (fun _ => false) 20 ?_
  simp only [cd_X11_isWithin, cf_X11_isWithin, wp, wq, wpI, cdF, w_CI, w_CL, w_CN, w_LI, w_LL, w_LA, w_SI, w_SL, w_SA, w_INC, w_II, w_IId, w_LLb, w_LLd, w_LS, w_I1, w_L1, w_I2L, w_L2I, w_CMP, w_DUP, w_POP, w_DUP2, w_IF, w_IC, w_GO, w_NUL, w_ACN, w_sw, w_TAB, w_lk, w_LOOK, prs, w_GF, w_PF, w_GS, w_IAL, w_LEN, w_LAL, w_ZAL, w_AAL, w_IAS, w_LAS, w_ZAS, w_AAS, w_RI, w_RL, w_RA, w_NEW, w_NA, w_MNA, w_OI, w_THR, w_CV, w_CS, w_CN9, w_CI9, w_MX, w_cont, lget, sto1, sto2, wideV, vo, vo_rv, isR, isR_rv, rv, fget, fput, cats, Value.category, List.headD_cons, List.getD_cons_zero, List.getD_cons_succ, List.drop_succ_cons, List.drop_zero, List.take_succ_cons, List.take_zero, List.reverse_cons, List.reverse_nil, List.nil_append, List.cons_append, List.length_cons, List.length_nil, cond_true, cond_false, and_true, true_and, Nat.zero_add, Nat.add_zero, Nat.reduceAdd, Nat.reduceLT, Nat.reduceLeDiff, Nat.reduceEqDiff, Nat.reduceBEq, Nat.reduceSub, ↓reduceIte, Int32.reduceOfNat, Int64.reduceOfNat, reduceCtorEq, Nat.le_refl, Nat.zero_le, Bool.false_eq_true, beq_self_eq_true, Fin.isValue, Fin.val_zero, Fin.val_one, Fin.reduceFinMk, Fin.val_two, Nat.reduceMod, cmp_lt, cmp_gt, cmp_ge, cmp_le, cmp_eq]
  refine ⟨fun h => ?_, fun h => ⟨fun h2 => ?_, fun h2 => ?_⟩⟩ <;> simp only [l_le, l_lt] at *
  · rw [b2i_f (by omega)] at hQ
    exact ⟨by simp, hQ⟩
  · rw [b2i_f (by omega)] at hQ
    exact ⟨by simp, hQ⟩
  · rw [b2i_t (by omega)] at hQ
    exact ⟨by simp, hQ⟩
theorem c_demand {b : Int32} (h1 : b ≠ 0 → Q none M) (h2 : b = 0 → X "java/lang/IllegalArgumentException" (uZ M)) : Ct G (MT 165) [.int b] M Q X := by
  refine Ct.go (L0 := [some (.int b)]) (by decide +kernel) rfl rfl ?_
  refine r_X11_demand (fun _ => false) 20 ?_
  simp only [cd_X11_demand, cf_X11_demand, wp, wq, wpI, cdF, w_CI, w_CL, w_CN, w_LI, w_LL, w_LA, w_SI, w_SL, w_SA, w_INC, w_II, w_IId, w_LLb, w_LLd, w_LS, w_I1, w_L1, w_I2L, w_L2I, w_CMP, w_DUP, w_POP, w_DUP2, w_IF, w_IC, w_GO, w_NUL, w_ACN, w_sw, w_TAB, w_lk, w_LOOK, prs, w_GF, w_PF, w_GS, w_IAL, w_LEN, w_LAL, w_ZAL, w_AAL, w_IAS, w_LAS, w_ZAS, w_AAS, w_RI, w_RL, w_RA, w_NEW, w_NA, w_MNA, w_OI, w_THR, w_CV, w_CS, w_CN9, w_CI9, w_MX, w_cont, lget, sto1, sto2, wideV, vo, vo_rv, isR, isR_rv, rv, fget, fput, cats, Value.category, List.headD_cons, List.getD_cons_zero, List.getD_cons_succ, List.drop_succ_cons, List.drop_zero, List.take_succ_cons, List.take_zero, List.reverse_cons, List.reverse_nil, List.nil_append, List.cons_append, List.length_cons, List.length_nil, cond_true, cond_false, and_true, true_and, Nat.zero_add, Nat.add_zero, Nat.reduceAdd, Nat.reduceLT, Nat.reduceLeDiff, Nat.reduceEqDiff, Nat.reduceBEq, Nat.reduceSub, ↓reduceIte, Int32.reduceOfNat, Int64.reduceOfNat, reduceCtorEq, Nat.le_refl, Nat.zero_le, Bool.false_eq_true, beq_self_eq_true, Fin.isValue, Fin.val_zero, Fin.val_one, Fin.reduceFinMk, Fin.val_two, Nat.reduceMod, xName]
  exact ⟨h1, fun h => h2 (Classical.not_not.mp h)⟩
theorem c_permit {b : Int32} (h1 : b ≠ 0 → Q none M) (h2 : b = 0 → X "java/lang/IllegalStateException" (uZ M)) : Ct G (MT 166) [.int b] M Q X := by
  refine Ct.go (L0 := [some (.int b)]) (by decide +kernel) rfl rfl ?_
  refine r_X11_permit (fun _ => false) 20 ?_
  simp only [cd_X11_permit, cf_X11_permit, wp, wq, wpI, cdF, w_CI, w_CL, w_CN, w_LI, w_LL, w_LA, w_SI, w_SL, w_SA, w_INC, w_II, w_IId, w_LLb, w_LLd, w_LS, w_I1, w_L1, w_I2L, w_L2I, w_CMP, w_DUP, w_POP, w_DUP2, w_IF, w_IC, w_GO, w_NUL, w_ACN, w_sw, w_TAB, w_lk, w_LOOK, prs, w_GF, w_PF, w_GS, w_IAL, w_LEN, w_LAL, w_ZAL, w_AAL, w_IAS, w_LAS, w_ZAS, w_AAS, w_RI, w_RL, w_RA, w_NEW, w_NA, w_MNA, w_OI, w_THR, w_CV, w_CS, w_CN9, w_CI9, w_MX, w_cont, lget, sto1, sto2, wideV, vo, vo_rv, isR, isR_rv, rv, fget, fput, cats, Value.category, List.headD_cons, List.getD_cons_zero, List.getD_cons_succ, List.drop_succ_cons, List.drop_zero, List.take_succ_cons, List.take_zero, List.reverse_cons, List.reverse_nil, List.nil_append, List.cons_append, List.length_cons, List.length_nil, cond_true, cond_false, and_true, true_and, Nat.zero_add, Nat.add_zero, Nat.reduceAdd, Nat.reduceLT, Nat.reduceLeDiff, Nat.reduceEqDiff, Nat.reduceBEq, Nat.reduceSub, ↓reduceIte, Int32.reduceOfNat, Int64.reduceOfNat, reduceCtorEq, Nat.le_refl, Nat.zero_le, Bool.false_eq_true, beq_self_eq_true, Fin.isValue, Fin.val_zero, Fin.val_one, Fin.reduceFinMk, Fin.val_two, Nat.reduceMod, xName]
  exact ⟨h1, fun h => h2 (Classical.not_not.mp h)⟩
end HLP
