/-! shares, fits, slotOf -/
section HLP
variable {G : En} {M : Mem} {Q : Option Value → Mem → Prop} {X : String → Mem → Prop}
theorem c_shares {x y : Int32} (hx : 0 ≤ x.toInt ∧ x.toInt < 1000000) (hy : 0 < y.toInt ∧ y.toInt < 1000) (hQ : ∀ r : Int32, r.toInt = (x.toInt + y.toInt - 1) / y.toInt → Q (some (.int r)) M) : Ct G (MT 177) [.int x, .int y] M Q X := by
  refine Ct.go (L0 := [some (.int x), some (.int y)]) (by decide +kernel) rfl rfl ?_
  refine r_X11_shares (fun _ => false) 20 ?_
  simp only [cd_X11_shares, cf_X11_shares, wp, wq, wpI, cdF, w_CI, w_CL, w_CN, w_LI, w_LL, w_LA, w_SI, w_SL, w_SA, w_INC, w_II, w_IId, w_LLb, w_LLd, w_LS, w_I1, w_L1, w_I2L, w_L2I, w_CMP, w_DUP, w_POP, w_DUP2, w_IF, w_IC, w_GO, w_NUL, w_ACN, w_sw, w_TAB, w_lk, w_LOOK, prs, w_GF, w_PF, w_GS, w_IAL, w_LEN, w_LAL, w_ZAL, w_AAL, w_IAS, w_LAS, w_ZAS, w_AAS, w_RI, w_RL, w_RA, w_NEW, w_NA, w_MNA, w_OI, w_THR, w_CV, w_CS, w_CN9, w_CI9, w_MX, w_cont, lget, sto1, sto2, wideV, vo, vo_rv, isR, isR_rv, rv, fget, fput, cats, Value.category, List.headD_cons, List.getD_cons_zero, List.getD_cons_succ, List.drop_succ_cons, List.drop_zero, List.take_succ_cons, List.take_zero, List.reverse_cons, List.reverse_nil, List.nil_append, List.cons_append, List.length_cons, List.length_nil, cond_true, cond_false, and_true, true_and, Nat.zero_add, Nat.add_zero, Nat.reduceAdd, Nat.reduceLT, Nat.reduceLeDiff, Nat.reduceEqDiff, Nat.reduceBEq, Nat.reduceSub, ↓reduceIte, Int32.reduceOfNat, Int64.reduceOfNat, reduceCtorEq, Nat.le_refl, Nat.zero_le, Bool.false_eq_true, beq_self_eq_true, Fin.isValue, Fin.val_zero, Fin.val_one, Fin.reduceFinMk, Fin.val_two, Nat.reduceMod]
  refine ⟨fun h => ?_, fun h => ⟨fun q => ?_, ?_⟩⟩
  · exfalso; rw [i_le] at h; simp at h; omega
  · rw [q] at hy; simp at hy
  · apply hQ
    have e1 : (x + y).toInt = x.toInt + y.toInt := i_add (by omega)
    have e2 : (x + y - 1).toInt = x.toInt + y.toInt - 1 := by rw [i_sub] <;> rw [e1] <;> simp <;> omega
    rw [i_div (by rw [e2]; omega) (by omega), e2]
theorem c_fits_neg {s : Int32} {v : Int64} (h : v.toInt < 0) (hQ : Q (some (.int 0)) M) : Ct G (MT 173) [.int s, .long v] M Q X := by
  refine Ct.go (L0 := [some (.int s), some (.long v), none]) (by decide +kernel) rfl rfl ?_
  refine r_X11_fits (fun n => n == 10) 20 ?_
  simp only [cd_X11_fits, cf_X11_fits, wp, wq, wpI, cdF, w_CI, w_CL, w_CN, w_LI, w_LL, w_LA, w_SI, w_SL, w_SA, w_INC, w_II, w_IId, w_LLb, w_LLd, w_LS, w_I1, w_L1, w_I2L, w_L2I, w_CMP, w_DUP, w_POP, w_DUP2, w_IF, w_IC, w_GO, w_NUL, w_ACN, w_sw, w_TAB, w_lk, w_LOOK, prs, w_GF, w_PF, w_GS, w_IAL, w_LEN, w_LAL, w_ZAL, w_AAL, w_IAS, w_LAS, w_ZAS, w_AAS, w_RI, w_RL, w_RA, w_NEW, w_NA, w_MNA, w_OI, w_THR, w_CV, w_CS, w_CN9, w_CI9, w_MX, w_cont, lget, sto1, sto2, wideV, vo, vo_rv, isR, isR_rv, rv, fget, fput, cats, Value.category, List.headD_cons, List.getD_cons_zero, List.getD_cons_succ, List.drop_succ_cons, List.drop_zero, List.take_succ_cons, List.take_zero, List.reverse_cons, List.reverse_nil, List.nil_append, List.cons_append, List.length_cons, List.length_nil, cond_true, cond_false, and_true, true_and, Nat.zero_add, Nat.add_zero, Nat.reduceAdd, Nat.reduceLT, Nat.reduceLeDiff, Nat.reduceEqDiff, Nat.reduceBEq, Nat.reduceSub, ↓reduceIte, Int32.reduceOfNat, Int64.reduceOfNat, reduceCtorEq, Nat.le_refl, Nat.zero_le, Bool.false_eq_true, beq_self_eq_true, Fin.isValue, Fin.val_zero, Fin.val_one, Fin.reduceFinMk, Fin.val_two, Nat.reduceMod, cmp_lt]
  refine ⟨fun _ => ⟨by simp, hQ⟩, fun q => ?_⟩
  exfalso
  rw [l_lt] at q
  simp at q
  omega
theorem lp_slotOf {f : Int32} {kc ks : Nat} : ∀ (m i : Nat), m + i = 16 → (∀ j, j < i → stV 0 j ≠ f) → (∀ i, i < 16 → stV 0 i = f → (∀ j, j < i → stV 0 j ≠ f) → Q (some (.int (nI i))) M) → ((∀ j, j < 16 → stV 0 j ≠ f) → Q (some (.int (-1))) M) → Go G (MT 171) Q X 2 [some (.int f), some (.int (nI i))] [] M kc ks := by
  intro m
  induction m with
  | zero =>
    intro i hi hp h1 h2
    refine r_X11_slotOf (fun n => n == 2) 20 ?_
    simp only [cd_X11_slotOf, cf_X11_slotOf, wp, wq, wpI, cdF, w_CI, w_CL, w_CN, w_LI, w_LL, w_LA, w_SI, w_SL, w_SA, w_INC, w_II, w_IId, w_LLb, w_LLd, w_LS, w_I1, w_L1, w_I2L, w_L2I, w_CMP, w_DUP, w_POP, w_DUP2, w_IF, w_IC, w_GO, w_NUL, w_ACN, w_sw, w_TAB, w_lk, w_LOOK, prs, w_GF, w_PF, w_GS, w_IAL, w_LEN, w_LAL, w_ZAL, w_AAL, w_IAS, w_LAS, w_ZAS, w_AAS, w_RI, w_RL, w_RA, w_NEW, w_NA, w_MNA, w_OI, w_THR, w_CV, w_CS, w_CN9, w_CI9, w_MX, w_cont, lget, sto1, sto2, wideV, vo, vo_rv, isR, isR_rv, rv, fget, fput, cats, Value.category, List.headD_cons, List.getD_cons_zero, List.getD_cons_succ, List.drop_succ_cons, List.drop_zero, List.take_succ_cons, List.take_zero, List.reverse_cons, List.reverse_nil, List.nil_append, List.cons_append, List.length_cons, List.length_nil, cond_true, cond_false, and_true, true_and, Nat.zero_add, Nat.add_zero, Nat.reduceAdd, Nat.reduceLT, Nat.reduceLeDiff, Nat.reduceEqDiff, Nat.reduceBEq, Nat.reduceSub, ↓reduceIte, Int32.reduceOfNat, Int64.reduceOfNat, reduceCtorEq, Nat.le_refl, Nat.zero_le, Bool.false_eq_true, beq_self_eq_true, Fin.isValue, Fin.val_zero, Fin.val_one, Fin.reduceFinMk, Fin.val_two, Nat.reduceMod]
    refine ⟨fun _ => h2 (fun j hj => hp j (by omega)), fun q => ?_⟩
    exfalso
    exact q (nI_le (show 16 ≤ i by omega) (by omega))
  | succ m ih =>
    intro i hi hp h1 h2
    refine r_X11_slotOf (fun n => n == 2) 20 ?_
    simp only [cd_X11_slotOf, cf_X11_slotOf, wp, wq, wpI, cdF, w_CI, w_CL, w_CN, w_LI, w_LL, w_LA, w_SI, w_SL, w_SA, w_INC, w_II, w_IId, w_LLb, w_LLd, w_LS, w_I1, w_L1, w_I2L, w_L2I, w_CMP, w_DUP, w_POP, w_DUP2, w_IF, w_IC, w_GO, w_NUL, w_ACN, w_sw, w_TAB, w_lk, w_LOOK, prs, w_GF, w_PF, w_GS, w_IAL, w_LEN, w_LAL, w_ZAL, w_AAL, w_IAS, w_LAS, w_ZAS, w_AAS, w_RI, w_RL, w_RA, w_NEW, w_NA, w_MNA, w_OI, w_THR, w_CV, w_CS, w_CN9, w_CI9, w_MX, w_cont, lget, sto1, sto2, wideV, vo, vo_rv, isR, isR_rv, rv, fget, fput, cats, Value.category, List.headD_cons, List.getD_cons_zero, List.getD_cons_succ, List.drop_succ_cons, List.drop_zero, List.take_succ_cons, List.take_zero, List.reverse_cons, List.reverse_nil, List.nil_append, List.cons_append, List.length_cons, List.length_nil, cond_true, cond_false, and_true, true_and, Nat.zero_add, Nat.add_zero, Nat.reduceAdd, Nat.reduceLT, Nat.reduceLeDiff, Nat.reduceEqDiff, Nat.reduceBEq, Nat.reduceSub, ↓reduceIte, Int32.reduceOfNat, Int64.reduceOfNat, reduceCtorEq, Nat.le_refl, Nat.zero_le, Bool.false_eq_true, beq_self_eq_true, Fin.isValue, Fin.val_zero, Fin.val_one, Fin.reduceFinMk, Fin.val_two, Nat.reduceMod]
    refine ⟨fun q => ?_, fun _ => ⟨vp_in_nI (N := 16) (by omega) (by omega), ?_⟩⟩
    · exfalso
      exact nI_ge (show i < 16 by omega) (by omega) q
    · rw [nI_clamp (by omega)]
      refine ⟨fun q => ?_, fun q => ?_⟩
      · rw [nI_1]
        refine ih (i + 1) (by omega) (fun j hj => ?_) h1 h2
        by_cases hji : j = i
        · subst hji; exact q
        · exact hp j (by omega)
      · exact h1 i (by omega) (Classical.not_not.mp q) hp
end HLP
