/-! digitCount -/
section HLP
variable {G : En} {M : Mem} {Q : Option Value → Mem → Prop} {X : String → Mem → Prop}
theorem lp_digitCount {v : Int64} {kc ks : Nat} : ∀ (r n : Nat) (rest : Int64), rest.toInt = r → n + (if r = 0 then 0 else nd r) ≤ 19 → Q (some (.int (nI (n + (if r = 0 then 0 else nd r))))) M → Go G (MT 174) Q X 8 [some (.long v), none, some (.int (nI n)), some (.long rest), none] [] M kc ks := by
  intro r
  induction r using Nat.strongRecOn with
  | ind r ih =>
    intro n rest hr hn hQ
    refine r_X11_digitCount (fun n => n == 8) 20 ?_
    simp only [cd_X11_digitCount, cf_X11_digitCount, wp, wq, wpI, cdF, w_CI, w_CL, w_CN, w_LI, w_LL, w_LA, w_SI, w_SL, w_SA, w_INC, w_II, w_IId, w_LLb, w_LLd, w_LS, w_I1, w_L1, w_I2L, w_L2I, w_CMP, w_DUP, w_POP, w_DUP2, w_IF, w_IC, w_GO, w_NUL, w_ACN, w_sw, w_TAB, w_lk, w_LOOK, prs, w_GF, w_PF, w_GS, w_IAL, w_LEN, w_LAL, w_ZAL, w_AAL, w_IAS, w_LAS, w_ZAS, w_AAS, w_RI, w_RL, w_RA, w_NEW, w_NA, w_MNA, w_OI, w_THR, w_CV, w_CS, w_CN9, w_CI9, w_MX, w_cont, lget, sto1, sto2, wideV, vo, vo_rv, isR, isR_rv, rv, fget, fput, cats, Value.category, List.headD_cons, List.getD_cons_zero, List.getD_cons_succ, List.drop_succ_cons, List.drop_zero, List.take_succ_cons, List.take_zero, List.reverse_cons, List.reverse_nil, List.nil_append, List.cons_append, List.length_cons, List.length_nil, cond_true, cond_false, and_true, true_and, Nat.zero_add, Nat.add_zero, Nat.reduceAdd, Nat.reduceLT, Nat.reduceLeDiff, Nat.reduceEqDiff, Nat.reduceBEq, Nat.reduceSub, ↓reduceIte, Int32.reduceOfNat, Int64.reduceOfNat, reduceCtorEq, Nat.le_refl, Nat.zero_le, Bool.false_eq_true, beq_self_eq_true, Fin.isValue, Fin.val_zero, Fin.val_one, Fin.reduceFinMk, Fin.val_two, Nat.reduceMod, cmp_le]
    refine ⟨fun h => ?_, fun h => ⟨fun h2 => ?_, fun h2 => ?_⟩⟩
    · rw [l_le] at h
      have h0 : r = 0 := by simp at h; omega
      subst h0
      simpa using hQ
    · exfalso
      rw [l_le] at h
      have h0 : r ≠ 0 := by intro q; subst q; simp at h; omega
      have h3 := nd_pos r
      rw [if_neg h0] at hn
      rw [i_le, nI_toInt (by omega)] at h2
      simp at h2
      omega
    · rw [l_le] at h
      have h0 : r ≠ 0 := by intro q; subst q; simp at h; omega
      rw [if_neg h0] at hn hQ
      refine ⟨by simp, ?_⟩
      rw [show nI n + 1 = nI (n + 1) from nI_1 n]
      have hd : (rest / 10).toInt = ((r / 10 : Nat) : Int) := by
        rw [l_div (by omega) (by simp), hr]
        simp
      by_cases h9 : r < 10
      · rw [nd_lt h9] at hn hQ
        exact ih (r / 10) (by omega) (n + 1) _ hd (by rw [if_pos (by omega)]; omega) (by rw [if_pos (by omega)]; exact hQ)
      · rw [nd_ge h9] at hn hQ
        exact ih (r / 10) (by omega) (n + 1) _ hd (by rw [if_neg (by omega)]; omega) (by rw [if_neg (by omega), show n + 1 + nd (r / 10) = n + (nd (r / 10) + 1) by omega]; exact hQ)
theorem c_digitCount {v : Int64} (h0 : 0 ≤ v) (hQ : Q (some (.int (nI (nd v.toInt.toNat)))) M) : Ct G (MT 174) [.long v] M Q X := by
  have hv : 0 ≤ v.toInt := by rw [l_le] at h0; simpa using h0
  have hb := l_bnd v
  refine Ct.go (L0 := [some (.long v), none, none, none, none]) (by decide +kernel) rfl rfl ?_
  refine r_X11_digitCount (fun n => n == 8) 20 ?_
  simp only [cd_X11_digitCount, cf_X11_digitCount, wp, wq, wpI, cdF, w_CI, w_CL, w_CN, w_LI, w_LL, w_LA, w_SI, w_SL, w_SA, w_INC, w_II, w_IId, w_LLb, w_LLd, w_LS, w_I1, w_L1, w_I2L, w_L2I, w_CMP, w_DUP, w_POP, w_DUP2, w_IF, w_IC, w_GO, w_NUL, w_ACN, w_sw, w_TAB, w_lk, w_LOOK, prs, w_GF, w_PF, w_GS, w_IAL, w_LEN, w_LAL, w_ZAL, w_AAL, w_IAS, w_LAS, w_ZAS, w_AAS, w_RI, w_RL, w_RA, w_NEW, w_NA, w_MNA, w_OI, w_THR, w_CV, w_CS, w_CN9, w_CI9, w_MX, w_cont, lget, sto1, sto2, wideV, vo, vo_rv, isR, isR_rv, rv, fget, fput, cats, Value.category, List.headD_cons, List.getD_cons_zero, List.getD_cons_succ, List.drop_succ_cons, List.drop_zero, List.take_succ_cons, List.take_zero, List.reverse_cons, List.reverse_nil, List.nil_append, List.cons_append, List.length_cons, List.length_nil, cond_true, cond_false, and_true, true_and, Nat.zero_add, Nat.add_zero, Nat.reduceAdd, Nat.reduceLT, Nat.reduceLeDiff, Nat.reduceEqDiff, Nat.reduceBEq, Nat.reduceSub, ↓reduceIte, Int32.reduceOfNat, Int64.reduceOfNat, reduceCtorEq, Nat.le_refl, Nat.zero_le, Bool.false_eq_true, beq_self_eq_true, Fin.isValue, Fin.val_zero, Fin.val_one, Fin.reduceFinMk, Fin.val_two, Nat.reduceMod]
  refine ⟨by simp, ?_⟩
  have hd : (v / 10).toInt = ((v.toInt.toNat / 10 : Nat) : Int) := by
    rw [l_div hv (by simp), show (10 : Int64).toInt = 10 from rfl]
    omega
  have h19 := nd_le 18 v.toInt.toNat (by omega)
  refine lp_digitCount (v.toInt.toNat / 10) 1 _ hd ?_ ?_
  · by_cases h9 : v.toInt.toNat < 10
    · rw [if_pos (by omega)]; omega
    · rw [if_neg (by omega)]; rw [nd_ge h9] at h19; omega
  · by_cases h9 : v.toInt.toNat < 10
    · rw [if_pos (by omega)]; rw [nd_lt h9] at hQ; exact hQ
    · rw [if_neg (by omega)]; rw [nd_ge h9] at hQ; rw [Nat.add_comm]; exact hQ
end HLP
