/-! Bytes -/
/-- the Bytes at a, whose row is at b, of n places -/
def BY (M : Mem) (a b n : Nat) : Prop := hasK M a (.inr 3) ∧ mR M a 0 = some b ∧ hasK M b (.inl (.int, n)) ∧ n < 2147483648
section BYT
variable {G : En} {M : Mem} {Q : Option Value → Mem → Prop} {X : String → Mem → Prop} {a b n l : Nat}
theorem BY.ne (h : BY M a b n) : a ≠ b := hasK_ne h.1 h.2.2.1 (by simp)
theorem c_by_clear (h : BY M a b n) (hQ : Q none (uI M a 1 0)) : Ct G (MT 30) [.ref a] M Q X := by
  refine Ct.go (L0 := [some (.ref a)]) (by decide +kernel) rfl rfl ?_
  refine r_X3_clear (fun _ => false) 10 ?_
  simp only [cd_X3_clear, cf_X3_clear, wp, wq, wpI, cdF, w_CI, w_CL, w_CN, w_LI, w_LL, w_LA, w_SI, w_SL, w_SA, w_INC, w_II, w_IId, w_LLb, w_LLd, w_LS, w_I1, w_L1, w_I2L, w_L2I, w_CMP, w_DUP, w_POP, w_DUP2, w_IF, w_IC, w_GO, w_NUL, w_ACN, w_sw, w_TAB, w_lk, w_LOOK, prs, w_GF, w_PF, w_GS, w_IAL, w_LEN, w_LAL, w_ZAL, w_AAL, w_IAS, w_LAS, w_ZAS, w_AAS, w_RI, w_RL, w_RA, w_NEW, w_NA, w_MNA, w_OI, w_THR, w_CV, w_CS, w_CN9, w_CI9, w_MX, w_cont, lget, sto1, sto2, wideV, vo, vo_rv, isR, isR_rv, rv, fget, fput, cats, Value.category, List.headD_cons, List.getD_cons_zero, List.getD_cons_succ, List.drop_succ_cons, List.drop_zero, List.take_succ_cons, List.take_zero, List.reverse_cons, List.reverse_nil, List.nil_append, List.cons_append, List.length_cons, List.length_nil, cond_true, cond_false, and_true, true_and, Nat.zero_add, Nat.add_zero, Nat.reduceAdd, Nat.reduceLT, Nat.reduceLeDiff, Nat.reduceEqDiff, Nat.reduceBEq, Nat.reduceSub, ↓reduceIte, Int32.reduceOfNat, Int64.reduceOfNat, reduceCtorEq, Nat.le_refl, Nat.zero_le, Bool.false_eq_true, beq_self_eq_true, Fin.isValue, Fin.val_zero, Fin.val_one, Fin.reduceFinMk, Fin.val_two, Nat.reduceMod, h.1]
  exact hQ
theorem c_by_add {x : Int32} (h : BY M a b n) (hl : mI M a 1 = nI l) (hln : l < n) (hQ : Q none (uI (uI M b l (x &&& 255)) a 1 (nI (l + 1)))) : Ct G (MT 31) [.ref a, .int x] M Q X := by
  have hn := h.2.2.2
  refine Ct.go (L0 := [some (.ref a), some (.int x)]) (by decide +kernel) rfl rfl ?_
  refine r_X3_add (fun _ => false) 40 ?_
  simp only [cd_X3_add, cf_X3_add, wp, wq, wpI, cdF, w_CI, w_CL, w_CN, w_LI, w_LL, w_LA, w_SI, w_SL, w_SA, w_INC, w_II, w_IId, w_LLb, w_LLd, w_LS, w_I1, w_L1, w_I2L, w_L2I, w_CMP, w_DUP, w_POP, w_DUP2, w_IF, w_IC, w_GO, w_NUL, w_ACN, w_sw, w_TAB, w_lk, w_LOOK, prs, w_GF, w_PF, w_GS, w_IAL, w_LEN, w_LAL, w_ZAL, w_AAL, w_IAS, w_LAS, w_ZAS, w_AAS, w_RI, w_RL, w_RA, w_NEW, w_NA, w_MNA, w_OI, w_THR, w_CV, w_CS, w_CN9, w_CI9, w_MX, w_cont, lget, sto1, sto2, wideV, vo, vo_rv, isR, isR_rv, rv, fget, fput, cats, Value.category, List.headD_cons, List.getD_cons_zero, List.getD_cons_succ, List.drop_succ_cons, List.drop_zero, List.take_succ_cons, List.take_zero, List.reverse_cons, List.reverse_nil, List.nil_append, List.cons_append, List.length_cons, List.length_nil, cond_true, cond_false, and_true, true_and, Nat.zero_add, Nat.add_zero, Nat.reduceAdd, Nat.reduceLT, Nat.reduceLeDiff, Nat.reduceEqDiff, Nat.reduceBEq, Nat.reduceSub, ↓reduceIte, Int32.reduceOfNat, Int64.reduceOfNat, reduceCtorEq, Nat.le_refl, Nat.zero_le, Bool.false_eq_true, beq_self_eq_true, Fin.isValue, Fin.val_zero, Fin.val_one, Fin.reduceFinMk, Fin.val_two, Nat.reduceMod, h.1, h.2.1, hasK_uI, mR_uI, hl]
  refine ⟨_, _, ⟨h.2.2.1, Or.inl rfl⟩, fun q => ?_, fun _ => ⟨n, h.2.2.1, vp_in_nI hln hn, ?_⟩⟩
  · exfalso
    exact nI_ge hln hn q
  · rw [nI_clamp (by omega), mI_uI, if_neg (fun q => h.ne q.1), hl, nI_1]
    exact hQ
theorem c_by_full {x : Int32} (h : BY M a b n) (hl : mI M a 1 = nI n) (hQ : Q none M) : Ct G (MT 31) [.ref a, .int x] M Q X := by
  have hn := h.2.2.2
  refine Ct.go (L0 := [some (.ref a), some (.int x)]) (by decide +kernel) rfl rfl ?_
  refine r_X3_add (fun _ => false) 40 ?_
  simp only [cd_X3_add, cf_X3_add, wp, wq, wpI, cdF, w_CI, w_CL, w_CN, w_LI, w_LL, w_LA, w_SI, w_SL, w_SA, w_INC, w_II, w_IId, w_LLb, w_LLd, w_LS, w_I1, w_L1, w_I2L, w_L2I, w_CMP, w_DUP, w_POP, w_DUP2, w_IF, w_IC, w_GO, w_NUL, w_ACN, w_sw, w_TAB, w_lk, w_LOOK, prs, w_GF, w_PF, w_GS, w_IAL, w_LEN, w_LAL, w_ZAL, w_AAL, w_IAS, w_LAS, w_ZAS, w_AAS, w_RI, w_RL, w_RA, w_NEW, w_NA, w_MNA, w_OI, w_THR, w_CV, w_CS, w_CN9, w_CI9, w_MX, w_cont, lget, sto1, sto2, wideV, vo, vo_rv, isR, isR_rv, rv, fget, fput, cats, Value.category, List.headD_cons, List.getD_cons_zero, List.getD_cons_succ, List.drop_succ_cons, List.drop_zero, List.take_succ_cons, List.take_zero, List.reverse_cons, List.reverse_nil, List.nil_append, List.cons_append, List.length_cons, List.length_nil, cond_true, cond_false, and_true, true_and, Nat.zero_add, Nat.add_zero, Nat.reduceAdd, Nat.reduceLT, Nat.reduceLeDiff, Nat.reduceEqDiff, Nat.reduceBEq, Nat.reduceSub, ↓reduceIte, Int32.reduceOfNat, Int64.reduceOfNat, reduceCtorEq, Nat.le_refl, Nat.zero_le, Bool.false_eq_true, beq_self_eq_true, Fin.isValue, Fin.val_zero, Fin.val_one, Fin.reduceFinMk, Fin.val_two, Nat.reduceMod, h.1, h.2.1, hasK_uI, mR_uI, hl]
  refine ⟨_, _, ⟨h.2.2.1, Or.inl rfl⟩, fun _ => hQ, fun q => ?_⟩
  exact absurd (nI_le (Nat.le_refl n) hn) q
theorem c_by_at {i : Int32} (h : BY M a b n) (hl : mI M a 1 = nI l) (hln : l ≤ n) (hQ : Q (some (.int (if 0 ≤ i.toInt ∧ i.toInt < l then mI M b i.toInt.toNat else 0))) M) : Ct G (MT 33) [.ref a, .int i] M Q X := by
  have hn := h.2.2.2
  have hlt : (nI l).toInt = l := nI_toInt (by omega)
  refine Ct.go (L0 := [some (.ref a), some (.int i)]) (by decide +kernel) rfl rfl ?_
  refine r_X3_at (fun _ => false) 40 ?_
  simp only [cd_X3_at, cf_X3_at, wp, wq, wpI, cdF, w_CI, w_CL, w_CN, w_LI, w_LL, w_LA, w_SI, w_SL, w_SA, w_INC, w_II, w_IId, w_LLb, w_LLd, w_LS, w_I1, w_L1, w_I2L, w_L2I, w_CMP, w_DUP, w_POP, w_DUP2, w_IF, w_IC, w_GO, w_NUL, w_ACN, w_sw, w_TAB, w_lk, w_LOOK, prs, w_GF, w_PF, w_GS, w_IAL, w_LEN, w_LAL, w_ZAL, w_AAL, w_IAS, w_LAS, w_ZAS, w_AAS, w_RI, w_RL, w_RA, w_NEW, w_NA, w_MNA, w_OI, w_THR, w_CV, w_CS, w_CN9, w_CI9, w_MX, w_cont, lget, sto1, sto2, wideV, vo, vo_rv, isR, isR_rv, rv, fget, fput, cats, Value.category, List.headD_cons, List.getD_cons_zero, List.getD_cons_succ, List.drop_succ_cons, List.drop_zero, List.take_succ_cons, List.take_zero, List.reverse_cons, List.reverse_nil, List.nil_append, List.cons_append, List.length_cons, List.length_nil, cond_true, cond_false, and_true, true_and, Nat.zero_add, Nat.add_zero, Nat.reduceAdd, Nat.reduceLT, Nat.reduceLeDiff, Nat.reduceEqDiff, Nat.reduceBEq, Nat.reduceSub, ↓reduceIte, Int32.reduceOfNat, Int64.reduceOfNat, reduceCtorEq, Nat.le_refl, Nat.zero_le, Bool.false_eq_true, beq_self_eq_true, Fin.isValue, Fin.val_zero, Fin.val_one, Fin.reduceFinMk, Fin.val_two, Nat.reduceMod, h.1, h.2.1, hl]
  refine ⟨fun q => ?_, fun q => ⟨fun q2 => ?_, fun q2 => ⟨n, h.2.2.1, ?_, ?_⟩⟩⟩
  · rw [i_lt] at q
    rw [if_neg (by simp at q; omega)] at hQ
    exact hQ
  · rw [i_le, hlt] at q2
    rw [if_neg (by omega)] at hQ
    exact hQ
  · rw [i_lt] at q
    rw [i_le, hlt] at q2
    simp at q
    exact vp_in_i ⟨by omega, by omega⟩
  · rw [i_lt] at q
    rw [i_le, hlt] at q2
    simp at q
    rw [if_pos ⟨by omega, by omega⟩] at hQ
    exact hQ
end BYT
