/-! THE DRAFT: the reference -/
section DRM
variable {G : En} {M : Mem} {Q : Option Value → Mem → Prop} {X : String → Mem → Prop} {S : Sw} {t a s n r N p k b c : Nat} {m : Msg} {f : Nat → Nat}
theorem lp_width {v : Int64} {kc ks : Nat} : ∀ (r n : Nat) (rest : Int64), rest.toInt = r → Q (some (.int (nI (n + (if r = 0 then 0 else nd r))))) M → Go G (MT 183) Q X 8 [some (.long v), none, some (.int (nI n)), some (.long rest), none] [] M kc ks := by
  intro r
  induction r using Nat.strongRecOn with
  | ind r ih =>
    intro n rest hr hQ
    refine r_X12_width (fun n => n == 8) 20 ?_
    simp only [cd_X12_width, cf_X12_width, wp, wq, wpI, cdF, w_CI, w_CL, w_CN, w_LI, w_LL, w_LA, w_SI, w_SL, w_SA, w_INC, w_II, w_IId, w_LLb, w_LLd, w_LS, w_I1, w_L1, w_I2L, w_L2I, w_CMP, w_DUP, w_POP, w_DUP2, w_IF, w_IC, w_GO, w_NUL, w_ACN, prs, w_GF, w_PF, w_GS, w_IAL, w_LEN, w_LAL, w_ZAL, w_AAL, w_IAS, w_LAS, w_ZAS, w_AAS, w_RI, w_RL, w_RA, w_NEW, w_NA, w_MNA, w_OI, w_THR, w_CV, w_CS, w_CN9, w_CI9, w_MX, w_cont, lget, sto1, sto2, wideV, vo, vo_rv, isR, isR_rv, rv, fget, fput, cats, Value.category, List.headD_cons, List.getD_cons_zero, List.getD_cons_succ, List.drop_succ_cons, List.drop_zero, List.take_succ_cons, List.take_zero, List.reverse_cons, List.reverse_nil, List.nil_append, List.cons_append, List.length_cons, List.length_nil, cond_true, cond_false, and_true, true_and, Nat.zero_add, Nat.add_zero, Nat.reduceAdd, Nat.reduceLT, Nat.reduceLeDiff, Nat.reduceEqDiff, Nat.reduceBEq, Nat.reduceSub, ↓reduceIte, Int32.reduceOfNat, Int64.reduceOfNat, reduceCtorEq, Nat.le_refl, Nat.zero_le, Bool.false_eq_true, beq_self_eq_true, Fin.isValue, Fin.val_zero, Fin.val_one, Fin.reduceFinMk, Fin.val_two, Nat.reduceMod, Bool.or_false, Bool.or_true, Bool.true_or, Bool.false_or, not_true_eq_false, not_false_eq_true, true_or, or_true, implies_true, false_implies, true_implies, Int32.reduceLT, Int32.reduceLE, ↓w_TAB3, ↓w_TAB4, ↓w_TAB5, ↓w_TAB7, ↓w_TAB10, ↓w_LK2, ↓w_LK6, false_and, and_false, i1z, i2z, iz1, im0, im1, l0z, cmp_le]
    refine and_ii (fun h => ?_) (fun h => ?_)
    · have h0 : r = 0 := by (simp only [i_lt, i_le, i_eq, l_lt, l_le, l_eq, Int32.toInt_toInt64, Int32.reduceToInt, Int64.reduceToInt, ne_eq, Classical.not_not] at *; omega)
      subst h0
      simpa using hQ
    · have h0 : r ≠ 0 := by intro q; subst q; (simp only [i_lt, i_le, i_eq, l_lt, l_le, l_eq, Int32.toInt_toInt64, Int32.reduceToInt, Int64.reduceToInt, ne_eq, Classical.not_not] at *; omega)
      rw [if_neg h0] at hQ
      rw [show nI n + 1 = nI (n + 1) from nI_1 n]
      have hd : (rest / 10).toInt = ((r / 10 : Nat) : Int) := by
        rw [l_div (by omega) (by simp), hr]
        simp
      by_cases h9 : r < 10
      · rw [nd_lt h9] at hQ
        exact ih (r / 10) (by omega) (n + 1) _ hd (by rw [if_pos (by omega)]; exact hQ)
      · rw [nd_ge h9] at hQ
        exact ih (r / 10) (by omega) (n + 1) _ hd (by rw [if_neg (by omega), show n + 1 + nd (r / 10) = n + (nd (r / 10) + 1) by omega]; exact hQ)
theorem m_width {v : Int64} (h0 : 0 ≤ v.toInt) (hQ : Q (some (.int (nI (nd v.toInt.toNat)))) M) : Ct G (MT 183) [.long v] M Q X := by
  have hb := l_bnd v
  refine Ct.go (L0 := [some (.long v), none, none, none, none]) (by decide +kernel) rfl rfl ?_
  refine r_X12_width (fun n => n == 8) 20 ?_
  simp only [cd_X12_width, cf_X12_width, wp, wq, wpI, cdF, w_CI, w_CL, w_CN, w_LI, w_LL, w_LA, w_SI, w_SL, w_SA, w_INC, w_II, w_IId, w_LLb, w_LLd, w_LS, w_I1, w_L1, w_I2L, w_L2I, w_CMP, w_DUP, w_POP, w_DUP2, w_IF, w_IC, w_GO, w_NUL, w_ACN, prs, w_GF, w_PF, w_GS, w_IAL, w_LEN, w_LAL, w_ZAL, w_AAL, w_IAS, w_LAS, w_ZAS, w_AAS, w_RI, w_RL, w_RA, w_NEW, w_NA, w_MNA, w_OI, w_THR, w_CV, w_CS, w_CN9, w_CI9, w_MX, w_cont, lget, sto1, sto2, wideV, vo, vo_rv, isR, isR_rv, rv, fget, fput, cats, Value.category, List.headD_cons, List.getD_cons_zero, List.getD_cons_succ, List.drop_succ_cons, List.drop_zero, List.take_succ_cons, List.take_zero, List.reverse_cons, List.reverse_nil, List.nil_append, List.cons_append, List.length_cons, List.length_nil, cond_true, cond_false, and_true, true_and, Nat.zero_add, Nat.add_zero, Nat.reduceAdd, Nat.reduceLT, Nat.reduceLeDiff, Nat.reduceEqDiff, Nat.reduceBEq, Nat.reduceSub, ↓reduceIte, Int32.reduceOfNat, Int64.reduceOfNat, reduceCtorEq, Nat.le_refl, Nat.zero_le, Bool.false_eq_true, beq_self_eq_true, Fin.isValue, Fin.val_zero, Fin.val_one, Fin.reduceFinMk, Fin.val_two, Nat.reduceMod, Bool.or_false, Bool.or_true, Bool.true_or, Bool.false_or, not_true_eq_false, not_false_eq_true, true_or, or_true, implies_true, false_implies, true_implies, Int32.reduceLT, Int32.reduceLE, ↓w_TAB3, ↓w_TAB4, ↓w_TAB5, ↓w_TAB7, ↓w_TAB10, ↓w_LK2, ↓w_LK6, false_and, and_false, i1z, i2z, iz1, im0, im1, l0z]
  have hd : (v / 10).toInt = ((v.toInt.toNat / 10 : Nat) : Int) := by
    rw [l_div h0 (by simp), show (10 : Int64).toInt = 10 from rfl]
    omega
  refine lp_width (v.toInt.toNat / 10) 1 _ hd ?_
  by_cases h9 : v.toInt.toNat < 10
  · rw [if_pos (by omega)]; rw [nd_lt h9] at hQ; exact hQ
  · rw [if_neg (by omega)]; rw [nd_ge h9] at hQ; rw [Nat.add_comm]; exact hQ
theorem m_fits {v : Int64} (hn : n < 100) (hQ : Q (some (.int (b2i (0 ≤ v.toInt ∧ nd v.toInt.toNat ≤ n)))) M) : Ct G (MT 184) [.long v, .int (nI n)] M Q X := by
  have tn := nI_toInt (n := n) (by omega)
  refine Ct.go (L0 := [some (.long v), none, some (.int (nI n))]) (by decide +kernel) rfl rfl ?_
  refine r_X12_fits (fun n => n == 10) 20 ?_
  simp only [cd_X12_fits, cf_X12_fits, wp, wq, wpI, cdF, w_CI, w_CL, w_CN, w_LI, w_LL, w_LA, w_SI, w_SL, w_SA, w_INC, w_II, w_IId, w_LLb, w_LLd, w_LS, w_I1, w_L1, w_I2L, w_L2I, w_CMP, w_DUP, w_POP, w_DUP2, w_IF, w_IC, w_GO, w_NUL, w_ACN, prs, w_GF, w_PF, w_GS, w_IAL, w_LEN, w_LAL, w_ZAL, w_AAL, w_IAS, w_LAS, w_ZAS, w_AAS, w_RI, w_RL, w_RA, w_NEW, w_NA, w_MNA, w_OI, w_THR, w_CV, w_CS, w_CN9, w_CI9, w_MX, w_cont, lget, sto1, sto2, wideV, vo, vo_rv, isR, isR_rv, rv, fget, fput, cats, Value.category, List.headD_cons, List.getD_cons_zero, List.getD_cons_succ, List.drop_succ_cons, List.drop_zero, List.take_succ_cons, List.take_zero, List.reverse_cons, List.reverse_nil, List.nil_append, List.cons_append, List.length_cons, List.length_nil, cond_true, cond_false, and_true, true_and, Nat.zero_add, Nat.add_zero, Nat.reduceAdd, Nat.reduceLT, Nat.reduceLeDiff, Nat.reduceEqDiff, Nat.reduceBEq, Nat.reduceSub, ↓reduceIte, Int32.reduceOfNat, Int64.reduceOfNat, reduceCtorEq, Nat.le_refl, Nat.zero_le, Bool.false_eq_true, beq_self_eq_true, Fin.isValue, Fin.val_zero, Fin.val_one, Fin.reduceFinMk, Fin.val_two, Nat.reduceMod, Bool.or_false, Bool.or_true, Bool.true_or, Bool.false_or, not_true_eq_false, not_false_eq_true, true_or, or_true, implies_true, false_implies, true_implies, Int32.reduceLT, Int32.reduceLE, ↓w_TAB3, ↓w_TAB4, ↓w_TAB5, ↓w_TAB7, ↓w_TAB10, ↓w_LK2, ↓w_LK6, false_and, and_false, i1z, i2z, iz1, im0, im1, l0z, cmp_lt]
  refine and_ii (fun q => ?_) (fun q => ?_)
  · rw [b2i_f (by (simp only [i_lt, i_le, i_eq, l_lt, l_le, l_eq, Int32.toInt_toInt64, Int32.reduceToInt, Int64.reduceToInt, ne_eq, Classical.not_not] at *; omega))] at hQ; exact hQ
  · have h0 : 0 ≤ v.toInt := by (simp only [i_lt, i_le, i_eq, l_lt, l_le, l_eq, Int32.toInt_toInt64, Int32.reduceToInt, Int64.reduceToInt, ne_eq, Classical.not_not] at *; omega)
    have hb := (l_bnd v).2
    have h19 := nd_le 18 v.toInt.toNat (by omega)
    have tw := nI_toInt (n := nd v.toInt.toNat) (by omega)
    refine m_width h0 ⟨_, rfl, ?_⟩
    refine r_X12_fits (fun n => n == 10) 20 ?_
    simp only [cd_X12_fits, cf_X12_fits, wp, wq, wpI, cdF, w_CI, w_CL, w_CN, w_LI, w_LL, w_LA, w_SI, w_SL, w_SA, w_INC, w_II, w_IId, w_LLb, w_LLd, w_LS, w_I1, w_L1, w_I2L, w_L2I, w_CMP, w_DUP, w_POP, w_DUP2, w_IF, w_IC, w_GO, w_NUL, w_ACN, prs, w_GF, w_PF, w_GS, w_IAL, w_LEN, w_LAL, w_ZAL, w_AAL, w_IAS, w_LAS, w_ZAS, w_AAS, w_RI, w_RL, w_RA, w_NEW, w_NA, w_MNA, w_OI, w_THR, w_CV, w_CS, w_CN9, w_CI9, w_MX, w_cont, lget, sto1, sto2, wideV, vo, vo_rv, isR, isR_rv, rv, fget, fput, cats, Value.category, List.headD_cons, List.getD_cons_zero, List.getD_cons_succ, List.drop_succ_cons, List.drop_zero, List.take_succ_cons, List.take_zero, List.reverse_cons, List.reverse_nil, List.nil_append, List.cons_append, List.length_cons, List.length_nil, cond_true, cond_false, and_true, true_and, Nat.zero_add, Nat.add_zero, Nat.reduceAdd, Nat.reduceLT, Nat.reduceLeDiff, Nat.reduceEqDiff, Nat.reduceBEq, Nat.reduceSub, ↓reduceIte, Int32.reduceOfNat, Int64.reduceOfNat, reduceCtorEq, Nat.le_refl, Nat.zero_le, Bool.false_eq_true, beq_self_eq_true, Fin.isValue, Fin.val_zero, Fin.val_one, Fin.reduceFinMk, Fin.val_two, Nat.reduceMod, Bool.or_false, Bool.or_true, Bool.true_or, Bool.false_or, not_true_eq_false, not_false_eq_true, true_or, or_true, implies_true, false_implies, true_implies, Int32.reduceLT, Int32.reduceLE, ↓w_TAB3, ↓w_TAB4, ↓w_TAB5, ↓w_TAB7, ↓w_TAB10, ↓w_LK2, ↓w_LK6, false_and, and_false, i1z, i2z, iz1, im0, im1, l0z]
    refine and_ii (fun q2 => ?_) (fun q2 => ?_)
    · rw [b2i_f (by (simp only [i_lt, i_le, i_eq, l_lt, l_le, l_eq, Int32.toInt_toInt64, Int32.reduceToInt, Int64.reduceToInt, ne_eq, Classical.not_not] at *; omega))] at hQ; exact hQ
    · rw [b2i_t (by (simp only [i_lt, i_le, i_eq, l_lt, l_le, l_eq, Int32.toInt_toInt64, Int32.reduceToInt, Int64.reduceToInt, ne_eq, Classical.not_not] at *; omega))] at hQ; exact hQ
/-- the n digits of v, from the place p on -/
def dgR (M : Mem) (r p n : Nat) (f : Nat → Nat) : Mem := sRow M r (fun i => if p ≤ i ∧ i < p + n then nI (f (i - p)) else mI M r i)
theorem lp_setDigits {v : Nat} {kc ks : Nat} (w : Int64) (hk0 : hasK M r (.inl (.int, N))) (hN : p + n ≤ N) (hN2 : N < 2147483648) (hv : v < 9223372036854775808) (hQ : Q none (dgR M r p n (dgt 10 n v))) : ∀ k, k ≤ n → Go G (MT 185) Q X 9 [some (.ref r), some (.int (nI p)), some (.long w), none, some (.int (nI n)), some (.long (lI (v / 10 ^ (n - k) : Nat))), none, some (.int (nI k - 1))] [] (sRow M r (fun i => if p + k ≤ i ∧ i < p + n then nI (dgt 10 n v (i - p)) else mI M r i)) kc ks := by
  intro k
  induction k with
  | zero =>
    intro hk
    refine r_X12_setDigits (fun n => n == 9) 40 ?_
    simp only [cd_X12_setDigits, cf_X12_setDigits, wp, wq, wpI, cdF, w_CI, w_CL, w_CN, w_LI, w_LL, w_LA, w_SI, w_SL, w_SA, w_INC, w_II, w_IId, w_LLb, w_LLd, w_LS, w_I1, w_L1, w_I2L, w_L2I, w_CMP, w_DUP, w_POP, w_DUP2, w_IF, w_IC, w_GO, w_NUL, w_ACN, prs, w_GF, w_PF, w_GS, w_IAL, w_LEN, w_LAL, w_ZAL, w_AAL, w_IAS, w_LAS, w_ZAS, w_AAS, w_RI, w_RL, w_RA, w_NEW, w_NA, w_MNA, w_OI, w_THR, w_CV, w_CS, w_CN9, w_CI9, w_MX, w_cont, lget, sto1, sto2, wideV, vo, vo_rv, isR, isR_rv, rv, fget, fput, cats, Value.category, List.headD_cons, List.getD_cons_zero, List.getD_cons_succ, List.drop_succ_cons, List.drop_zero, List.take_succ_cons, List.take_zero, List.reverse_cons, List.reverse_nil, List.nil_append, List.cons_append, List.length_cons, List.length_nil, cond_true, cond_false, and_true, true_and, Nat.zero_add, Nat.add_zero, Nat.reduceAdd, Nat.reduceLT, Nat.reduceLeDiff, Nat.reduceEqDiff, Nat.reduceBEq, Nat.reduceSub, ↓reduceIte, Int32.reduceOfNat, Int64.reduceOfNat, reduceCtorEq, Nat.le_refl, Nat.zero_le, Bool.false_eq_true, beq_self_eq_true, Fin.isValue, Fin.val_zero, Fin.val_one, Fin.reduceFinMk, Fin.val_two, Nat.reduceMod, Bool.or_false, Bool.or_true, Bool.true_or, Bool.false_or, not_true_eq_false, not_false_eq_true, true_or, or_true, implies_true, false_implies, true_implies, Int32.reduceLT, Int32.reduceLE, ↓w_TAB3, ↓w_TAB4, ↓w_TAB5, ↓w_TAB7, ↓w_TAB10, ↓w_LK2, ↓w_LK6, false_and, and_false, i1z, i2z, iz1, im0, im1, l0z]
    exact ⟨fun _ => by simpa [dgR] using hQ, fun q => absurd (by decide) q⟩
  | succ k ih =>
    intro hk
    have hle : v / 10 ^ (n - (k + 1)) ≤ v := Nat.div_le_self _ _
    have ep : nI p + nI k = nI (p + k) := nI_add p k
    refine r_X12_setDigits (fun n => n == 9) 40 ?_
    simp only [cd_X12_setDigits, cf_X12_setDigits, wp, wq, wpI, cdF, w_CI, w_CL, w_CN, w_LI, w_LL, w_LA, w_SI, w_SL, w_SA, w_INC, w_II, w_IId, w_LLb, w_LLd, w_LS, w_I1, w_L1, w_I2L, w_L2I, w_CMP, w_DUP, w_POP, w_DUP2, w_IF, w_IC, w_GO, w_NUL, w_ACN, prs, w_GF, w_PF, w_GS, w_IAL, w_LEN, w_LAL, w_ZAL, w_AAL, w_IAS, w_LAS, w_ZAS, w_AAS, w_RI, w_RL, w_RA, w_NEW, w_NA, w_MNA, w_OI, w_THR, w_CV, w_CS, w_CN9, w_CI9, w_MX, w_cont, lget, sto1, sto2, wideV, vo, vo_rv, isR, isR_rv, rv, fget, fput, cats, Value.category, List.headD_cons, List.getD_cons_zero, List.getD_cons_succ, List.drop_succ_cons, List.drop_zero, List.take_succ_cons, List.take_zero, List.reverse_cons, List.reverse_nil, List.nil_append, List.cons_append, List.length_cons, List.length_nil, cond_true, cond_false, and_true, true_and, Nat.zero_add, Nat.add_zero, Nat.reduceAdd, Nat.reduceLT, Nat.reduceLeDiff, Nat.reduceEqDiff, Nat.reduceBEq, Nat.reduceSub, ↓reduceIte, Int32.reduceOfNat, Int64.reduceOfNat, reduceCtorEq, Nat.le_refl, Nat.zero_le, Bool.false_eq_true, beq_self_eq_true, Fin.isValue, Fin.val_zero, Fin.val_one, Fin.reduceFinMk, Fin.val_two, Nat.reduceMod, Bool.or_false, Bool.or_true, Bool.true_or, Bool.false_or, not_true_eq_false, not_false_eq_true, true_or, or_true, implies_true, false_implies, true_implies, Int32.reduceLT, Int32.reduceLE, ↓w_TAB3, ↓w_TAB4, ↓w_TAB5, ↓w_TAB7, ↓w_TAB10, ↓w_LK2, ↓w_LK6, false_and, and_false, i1z, i2z, iz1, im0, im1, l0z, hasK_sRow, nI_pred, ep, nI_clamp (show p + k < 2 ^ 31 by omega)]
    refine ⟨fun q => absurd q (nI_pos (by omega)), fun _ => ⟨_, hk0, vp_in_nI (by omega) (by omega), ?_⟩⟩
    have e3 : (v / 10 ^ (n - (k + 1))) / 10 = v / 10 ^ (n - k) := by
      rw [show n - k = n - (k + 1) + 1 by omega, Nat.pow_succ, ← Nat.div_div_eq_div_mul]
    have e4 : (v / 10 ^ (n - (k + 1))) % 10 = dgt 10 n v k := by
      unfold dgt; rw [show n - 1 - k = n - (k + 1) by omega]
    generalize v / 10 ^ (n - (k + 1)) = q at *
    have e0 := lI_rem (x := (q : Int)) (y := (10 : Nat)) (by omega) (by unfold fL; omega) (by omega) (by unfold fL; omega)
    have e2 := lI_div (x := (q : Int)) (y := (10 : Nat)) (by omega) (by unfold fL; omega) (by omega) (by unfold fL; omega)
    rw [← Int.natCast_emod, e4] at e0
    rw [← Int.natCast_ediv, e3] at e2
    rw [show lI ((10 : Nat) : Int) = (10 : Int64) from rfl] at e0 e2
    have hd : dgt 10 n v k < 10 := dgt_lt (by omega)
    rw [e0, e2, lI_i32 (by omega), uI_sRow, sRow_congr (g := fun i => if p + k ≤ i ∧ i < p + n then nI (dgt 10 n v (i - p)) else mI M r i) (fun i => ?_), show nI k + -1 = nI k - 1 from (Int32.sub_eq_add_neg _ _).symm]
    · exact ih (by omega)
    · by_cases q : i = p + k
      · subst q; rw [if_pos rfl, if_pos (by omega), Nat.add_sub_cancel_left]
      · rw [if_neg q]
        by_cases q2 : p + (k + 1) ≤ i ∧ i < p + n
        · rw [if_pos q2, if_pos (by omega)]
        · rw [if_neg q2, if_neg (by omega)]
theorem m_setDigits {v : Nat} {x : Int64} {y z : Int32} (hx : x = lI v) (hy : y = nI p) (hz : z = nI n) (hk0 : hasK M r (.inl (.int, N))) (hN : p + n ≤ N) (hN2 : N < 2147483648) (hv : v < 9223372036854775808) (hQ : Q none (dgR M r p n (dgt 10 n v))) : Ct G (MT 185) [.ref r, .int y, .long x, .int z] M Q X := by
  subst hx hy hz
  refine Ct.go (L0 := [some (.ref r), some (.int (nI p)), some (.long (lI v)), none, some (.int (nI n)), none, none, none]) (by decide +kernel) rfl rfl ?_
  refine r_X12_setDigits (fun n => n == 9) 40 ?_
  simp only [cd_X12_setDigits, cf_X12_setDigits, wp, wq, wpI, cdF, w_CI, w_CL, w_CN, w_LI, w_LL, w_LA, w_SI, w_SL, w_SA, w_INC, w_II, w_IId, w_LLb, w_LLd, w_LS, w_I1, w_L1, w_I2L, w_L2I, w_CMP, w_DUP, w_POP, w_DUP2, w_IF, w_IC, w_GO, w_NUL, w_ACN, prs, w_GF, w_PF, w_GS, w_IAL, w_LEN, w_LAL, w_ZAL, w_AAL, w_IAS, w_LAS, w_ZAS, w_AAS, w_RI, w_RL, w_RA, w_NEW, w_NA, w_MNA, w_OI, w_THR, w_CV, w_CS, w_CN9, w_CI9, w_MX, w_cont, lget, sto1, sto2, wideV, vo, vo_rv, isR, isR_rv, rv, fget, fput, cats, Value.category, List.headD_cons, List.getD_cons_zero, List.getD_cons_succ, List.drop_succ_cons, List.drop_zero, List.take_succ_cons, List.take_zero, List.reverse_cons, List.reverse_nil, List.nil_append, List.cons_append, List.length_cons, List.length_nil, cond_true, cond_false, and_true, true_and, Nat.zero_add, Nat.add_zero, Nat.reduceAdd, Nat.reduceLT, Nat.reduceLeDiff, Nat.reduceEqDiff, Nat.reduceBEq, Nat.reduceSub, ↓reduceIte, Int32.reduceOfNat, Int64.reduceOfNat, reduceCtorEq, Nat.le_refl, Nat.zero_le, Bool.false_eq_true, beq_self_eq_true, Fin.isValue, Fin.val_zero, Fin.val_one, Fin.reduceFinMk, Fin.val_two, Nat.reduceMod, Bool.or_false, Bool.or_true, Bool.true_or, Bool.false_or, not_true_eq_false, not_false_eq_true, true_or, or_true, implies_true, false_implies, true_implies, Int32.reduceLT, Int32.reduceLE, ↓w_TAB3, ↓w_TAB4, ↓w_TAB5, ↓w_TAB7, ↓w_TAB10, ↓w_LK2, ↓w_LK6, false_and, and_false, i1z, i2z, iz1, im0, im1, l0z]
  have := lp_setDigits (G := G) (X := X) (kc := 0) (ks := 0) (lI v) hk0 hN hN2 hv hQ n (Nat.le_refl n)
  rw [Nat.sub_self, Nat.pow_zero, Nat.div_one, sRow_congr (g := mI M r) (fun i => if_neg (by omega)), sRow_id] at this
  exact this
def fdI (x : Int) (i : Nat) : Int32 := match slI x with
  | some s => if s < i then nI s else -1
  | none => -1
theorem lp_fieldOf {x : Int32} {kc ks : Nat} (hL : LF M) (hK : mK M) (hQ : Q (some (.int (fdI x.toInt 16))) M) : ∀ (m i : Nat), m + i = 16 → Go G (MT 199) Q X 4 [some (.ref 495), some (.int x), some (.int (fdI x.toInt i)), some (.int (nI i))] [] M kc ks := by
  have hf : ∀ s, s < 16 → fnF s ≤ 95 := fun s _ => by unfold fnF; split <;> omega
  intro m
  induction m with
  | zero =>
    intro i hi
    have hi : i = 16 := by omega
    subst hi
    refine r_X12_fieldOf (fun n => n == 4) 40 ?_
    simp only [cd_X12_fieldOf, cf_X12_fieldOf, wp, wq, wpI, cdF, w_CI, w_CL, w_CN, w_LI, w_LL, w_LA, w_SI, w_SL, w_SA, w_INC, w_II, w_IId, w_LLb, w_LLd, w_LS, w_I1, w_L1, w_I2L, w_L2I, w_CMP, w_DUP, w_POP, w_DUP2, w_IF, w_IC, w_GO, w_NUL, w_ACN, prs, w_GF, w_PF, w_GS, w_IAL, w_LEN, w_LAL, w_ZAL, w_AAL, w_IAS, w_LAS, w_ZAS, w_AAS, w_RI, w_RL, w_RA, w_NEW, w_NA, w_MNA, w_OI, w_THR, w_CV, w_CS, w_CN9, w_CI9, w_MX, w_cont, lget, sto1, sto2, wideV, vo, vo_rv, isR, isR_rv, rv, fget, fput, cats, Value.category, List.headD_cons, List.getD_cons_zero, List.getD_cons_succ, List.drop_succ_cons, List.drop_zero, List.take_succ_cons, List.take_zero, List.reverse_cons, List.reverse_nil, List.nil_append, List.cons_append, List.length_cons, List.length_nil, cond_true, cond_false, and_true, true_and, Nat.zero_add, Nat.add_zero, Nat.reduceAdd, Nat.reduceLT, Nat.reduceLeDiff, Nat.reduceEqDiff, Nat.reduceBEq, Nat.reduceSub, ↓reduceIte, Int32.reduceOfNat, Int64.reduceOfNat, reduceCtorEq, Nat.le_refl, Nat.zero_le, Bool.false_eq_true, beq_self_eq_true, Fin.isValue, Fin.val_zero, Fin.val_one, Fin.reduceFinMk, Fin.val_two, Nat.reduceMod, Bool.or_false, Bool.or_true, Bool.true_or, Bool.false_or, not_true_eq_false, not_false_eq_true, true_or, or_true, implies_true, false_implies, true_implies, Int32.reduceLT, Int32.reduceLE, ↓w_TAB3, ↓w_TAB4, ↓w_TAB5, ↓w_TAB7, ↓w_TAB10, ↓w_LK2, ↓w_LK6, false_and, and_false, i1z, i2z, iz1, im0, im1, l0z, hasK_uI, hasK_uL, hasK_uR, hasK_uZ, hasK_sRow, mR_uI, mR_uL, mR_uZ, mR_sRow, mI_uL, mI_uR, mI_uZ, mL_uI, mL_uR, mL_uZ, mL_sRow, LF.hk hL, layF, LF.r hL, refF, ne_eq, not_false_eq_true, Option.some.injEq, Sum.inl.injEq, Sum.inr.injEq, Prod.mk.injEq, exists_eq_left, exists_eq_left']
    exact ⟨fun _ => hQ, fun q => absurd (by decide) q⟩
  | succ m ih =>
    intro i hi
    have ci := nI_clamp (n := i) (by omega)
    have ti := nI_toInt (n := i) (by omega)
    have tf := nI_toInt (n := fnF i) (by have := hf i (by omega); omega)
    refine r_X12_fieldOf (fun n => n == 4) 40 ?_
    simp only [cd_X12_fieldOf, cf_X12_fieldOf, wp, wq, wpI, cdF, w_CI, w_CL, w_CN, w_LI, w_LL, w_LA, w_SI, w_SL, w_SA, w_INC, w_II, w_IId, w_LLb, w_LLd, w_LS, w_I1, w_L1, w_I2L, w_L2I, w_CMP, w_DUP, w_POP, w_DUP2, w_IF, w_IC, w_GO, w_NUL, w_ACN, prs, w_GF, w_PF, w_GS, w_IAL, w_LEN, w_LAL, w_ZAL, w_AAL, w_IAS, w_LAS, w_ZAS, w_AAS, w_RI, w_RL, w_RA, w_NEW, w_NA, w_MNA, w_OI, w_THR, w_CV, w_CS, w_CN9, w_CI9, w_MX, w_cont, lget, sto1, sto2, wideV, vo, vo_rv, isR, isR_rv, rv, fget, fput, cats, Value.category, List.headD_cons, List.getD_cons_zero, List.getD_cons_succ, List.drop_succ_cons, List.drop_zero, List.take_succ_cons, List.take_zero, List.reverse_cons, List.reverse_nil, List.nil_append, List.cons_append, List.length_cons, List.length_nil, cond_true, cond_false, and_true, true_and, Nat.zero_add, Nat.add_zero, Nat.reduceAdd, Nat.reduceLT, Nat.reduceLeDiff, Nat.reduceEqDiff, Nat.reduceBEq, Nat.reduceSub, ↓reduceIte, Int32.reduceOfNat, Int64.reduceOfNat, reduceCtorEq, Nat.le_refl, Nat.zero_le, Bool.false_eq_true, beq_self_eq_true, Fin.isValue, Fin.val_zero, Fin.val_one, Fin.reduceFinMk, Fin.val_two, Nat.reduceMod, Bool.or_false, Bool.or_true, Bool.true_or, Bool.false_or, not_true_eq_false, not_false_eq_true, true_or, or_true, implies_true, false_implies, true_implies, Int32.reduceLT, Int32.reduceLE, ↓w_TAB3, ↓w_TAB4, ↓w_TAB5, ↓w_TAB7, ↓w_TAB10, ↓w_LK2, ↓w_LK6, false_and, and_false, i1z, i2z, iz1, im0, im1, l0z, hasK_uI, hasK_uL, hasK_uR, hasK_uZ, hasK_sRow, mR_uI, mR_uL, mR_uZ, mR_sRow, mI_uL, mI_uR, mI_uZ, mL_uI, mL_uR, mL_uZ, mL_sRow, LF.hk hL, layF, LF.r hL, refF, ne_eq, not_false_eq_true, Option.some.injEq, Sum.inl.injEq, Sum.inr.injEq, Prod.mk.injEq, exists_eq_left, exists_eq_left', ci, (hK i (by omega)).1, nI_1]
    refine and_ii (fun q => ?_) (fun _ => ⟨vp_in_nI (by omega) (by omega), and_ii (fun q => ?_) (fun q => ?_)⟩)
    · exfalso; (simp only [i_lt, i_le, i_eq, l_lt, l_le, l_eq, Int32.toInt_toInt64, Int32.reduceToInt, Int64.reduceToInt, ne_eq, Classical.not_not] at *; omega)
    · have e : fdI x.toInt (i + 1) = fdI x.toInt i := by
        unfold fdI
        cases e : slI x.toInt with
        | none => rfl
        | some s =>
          have hs := slI_lt e
          by_cases es : s = i
          · subst es
            exfalso
            exact q (by rw [i_eq, tf]; exact hs.2)
          · simp only
            by_cases q2 : s < i
            · rw [if_pos q2, if_pos (by omega)]
            · rw [if_neg q2, if_neg (by omega)]
      rw [← e]
      exact ih (i + 1) (by omega)
    · have q := Classical.not_not.mp q
      have e : fdI x.toInt (i + 1) = nI i := by
        unfold fdI
        have : slI x.toInt = some i := by
          unfold slI
          rw [← q, tf, if_neg (by omega), Int.toNat_natCast]
          exact slF_fn ⟨i, by omega⟩
        rw [this]
        simp
      rw [← e]
      exact ih (i + 1) (by omega)
theorem m_fieldOf {x : Int32} (hL : LF M) (hK : mK M) (h1 : ∀ s, slI x.toInt = some s → Q (some (.int (nI s))) M) (h2 : slI x.toInt = none → Q (some (.int (-1))) M) : Ct G (MT 199) [.ref 495, .int x] M Q X := by
  refine Ct.go (L0 := [some (.ref 495), some (.int x), none, none]) (by decide +kernel) rfl rfl ?_
  refine r_X12_fieldOf (fun n => n == 4) 40 ?_
  simp only [cd_X12_fieldOf, cf_X12_fieldOf, wp, wq, wpI, cdF, w_CI, w_CL, w_CN, w_LI, w_LL, w_LA, w_SI, w_SL, w_SA, w_INC, w_II, w_IId, w_LLb, w_LLd, w_LS, w_I1, w_L1, w_I2L, w_L2I, w_CMP, w_DUP, w_POP, w_DUP2, w_IF, w_IC, w_GO, w_NUL, w_ACN, prs, w_GF, w_PF, w_GS, w_IAL, w_LEN, w_LAL, w_ZAL, w_AAL, w_IAS, w_LAS, w_ZAS, w_AAS, w_RI, w_RL, w_RA, w_NEW, w_NA, w_MNA, w_OI, w_THR, w_CV, w_CS, w_CN9, w_CI9, w_MX, w_cont, lget, sto1, sto2, wideV, vo, vo_rv, isR, isR_rv, rv, fget, fput, cats, Value.category, List.headD_cons, List.getD_cons_zero, List.getD_cons_succ, List.drop_succ_cons, List.drop_zero, List.take_succ_cons, List.take_zero, List.reverse_cons, List.reverse_nil, List.nil_append, List.cons_append, List.length_cons, List.length_nil, cond_true, cond_false, and_true, true_and, Nat.zero_add, Nat.add_zero, Nat.reduceAdd, Nat.reduceLT, Nat.reduceLeDiff, Nat.reduceEqDiff, Nat.reduceBEq, Nat.reduceSub, ↓reduceIte, Int32.reduceOfNat, Int64.reduceOfNat, reduceCtorEq, Nat.le_refl, Nat.zero_le, Bool.false_eq_true, beq_self_eq_true, Fin.isValue, Fin.val_zero, Fin.val_one, Fin.reduceFinMk, Fin.val_two, Nat.reduceMod, Bool.or_false, Bool.or_true, Bool.true_or, Bool.false_or, not_true_eq_false, not_false_eq_true, true_or, or_true, implies_true, false_implies, true_implies, Int32.reduceLT, Int32.reduceLE, ↓w_TAB3, ↓w_TAB4, ↓w_TAB5, ↓w_TAB7, ↓w_TAB10, ↓w_LK2, ↓w_LK6, false_and, and_false, i1z, i2z, iz1, im0, im1, l0z]
  have e : fdI x.toInt 0 = -1 := by unfold fdI; split <;> simp
  have := lp_fieldOf (G := G) (Q := Q) (X := X) (x := x) (kc := 0) (ks := 0) hL hK ?_ 16 0 rfl
  · rw [e] at this
    exact this
  · unfold fdI
    cases e : slI x.toInt with
    | none => exact h2 e
    | some s =>
      simp only
      rw [if_pos (slI_lt e).1]
      exact h1 s e
theorem lp_clear {kc ks : Nat} (hk0 : hasK M r (.inl (.int, 16))) (hQ : Q none (sRow M r (fun i => if i < 16 then -1 else mI M r i))) : ∀ (m i : Nat), m + i = 16 → Go G (MT 180) Q X 2 [some (.ref r), some (.int (nI i))] [] (sRow M r (fun j => if j < i then -1 else mI M r j)) kc ks := by
  intro m
  induction m with
  | zero =>
    intro i hi
    have hi : i = 16 := by omega
    subst hi
    refine r_X12_clear (fun n => n == 2) 40 ?_
    simp only [cd_X12_clear, cf_X12_clear, wp, wq, wpI, cdF, w_CI, w_CL, w_CN, w_LI, w_LL, w_LA, w_SI, w_SL, w_SA, w_INC, w_II, w_IId, w_LLb, w_LLd, w_LS, w_I1, w_L1, w_I2L, w_L2I, w_CMP, w_DUP, w_POP, w_DUP2, w_IF, w_IC, w_GO, w_NUL, w_ACN, prs, w_GF, w_PF, w_GS, w_IAL, w_LEN, w_LAL, w_ZAL, w_AAL, w_IAS, w_LAS, w_ZAS, w_AAS, w_RI, w_RL, w_RA, w_NEW, w_NA, w_MNA, w_OI, w_THR, w_CV, w_CS, w_CN9, w_CI9, w_MX, w_cont, lget, sto1, sto2, wideV, vo, vo_rv, isR, isR_rv, rv, fget, fput, cats, Value.category, List.headD_cons, List.getD_cons_zero, List.getD_cons_succ, List.drop_succ_cons, List.drop_zero, List.take_succ_cons, List.take_zero, List.reverse_cons, List.reverse_nil, List.nil_append, List.cons_append, List.length_cons, List.length_nil, cond_true, cond_false, and_true, true_and, Nat.zero_add, Nat.add_zero, Nat.reduceAdd, Nat.reduceLT, Nat.reduceLeDiff, Nat.reduceEqDiff, Nat.reduceBEq, Nat.reduceSub, ↓reduceIte, Int32.reduceOfNat, Int64.reduceOfNat, reduceCtorEq, Nat.le_refl, Nat.zero_le, Bool.false_eq_true, beq_self_eq_true, Fin.isValue, Fin.val_zero, Fin.val_one, Fin.reduceFinMk, Fin.val_two, Nat.reduceMod, Bool.or_false, Bool.or_true, Bool.true_or, Bool.false_or, not_true_eq_false, not_false_eq_true, true_or, or_true, implies_true, false_implies, true_implies, Int32.reduceLT, Int32.reduceLE, ↓w_TAB3, ↓w_TAB4, ↓w_TAB5, ↓w_TAB7, ↓w_TAB10, ↓w_LK2, ↓w_LK6, false_and, and_false, i1z, i2z, iz1, im0, im1, l0z]
    exact ⟨fun _ => hQ, fun q => absurd (by decide) q⟩
  | succ m ih =>
    intro i hi
    have ti := nI_toInt (n := i) (by omega)
    refine r_X12_clear (fun n => n == 2) 40 ?_
    simp only [cd_X12_clear, cf_X12_clear, wp, wq, wpI, cdF, w_CI, w_CL, w_CN, w_LI, w_LL, w_LA, w_SI, w_SL, w_SA, w_INC, w_II, w_IId, w_LLb, w_LLd, w_LS, w_I1, w_L1, w_I2L, w_L2I, w_CMP, w_DUP, w_POP, w_DUP2, w_IF, w_IC, w_GO, w_NUL, w_ACN, prs, w_GF, w_PF, w_GS, w_IAL, w_LEN, w_LAL, w_ZAL, w_AAL, w_IAS, w_LAS, w_ZAS, w_AAS, w_RI, w_RL, w_RA, w_NEW, w_NA, w_MNA, w_OI, w_THR, w_CV, w_CS, w_CN9, w_CI9, w_MX, w_cont, lget, sto1, sto2, wideV, vo, vo_rv, isR, isR_rv, rv, fget, fput, cats, Value.category, List.headD_cons, List.getD_cons_zero, List.getD_cons_succ, List.drop_succ_cons, List.drop_zero, List.take_succ_cons, List.take_zero, List.reverse_cons, List.reverse_nil, List.nil_append, List.cons_append, List.length_cons, List.length_nil, cond_true, cond_false, and_true, true_and, Nat.zero_add, Nat.add_zero, Nat.reduceAdd, Nat.reduceLT, Nat.reduceLeDiff, Nat.reduceEqDiff, Nat.reduceBEq, Nat.reduceSub, ↓reduceIte, Int32.reduceOfNat, Int64.reduceOfNat, reduceCtorEq, Nat.le_refl, Nat.zero_le, Bool.false_eq_true, beq_self_eq_true, Fin.isValue, Fin.val_zero, Fin.val_one, Fin.reduceFinMk, Fin.val_two, Nat.reduceMod, Bool.or_false, Bool.or_true, Bool.true_or, Bool.false_or, not_true_eq_false, not_false_eq_true, true_or, or_true, implies_true, false_implies, true_implies, Int32.reduceLT, Int32.reduceLE, ↓w_TAB3, ↓w_TAB4, ↓w_TAB5, ↓w_TAB7, ↓w_TAB10, ↓w_LK2, ↓w_LK6, false_and, and_false, i1z, i2z, iz1, im0, im1, l0z, hasK_sRow, nI_clamp (show i < 2 ^ 31 by omega), nI_1]
    refine and_ii (fun q => ?_) (fun _ => ⟨_, hk0, vp_in_nI (by omega) (by omega), ?_⟩)
    · exfalso; (simp only [i_lt, i_le, i_eq, l_lt, l_le, l_eq, Int32.toInt_toInt64, Int32.reduceToInt, Int64.reduceToInt, ne_eq, Classical.not_not] at *; omega)
    · rw [uI_sRow, sRow_congr (g := fun j => if j < i + 1 then -1 else mI M r j) (fun j => ?_)]
      · exact ih (i + 1) (by omega)
      · by_cases q : j = i
        · subst q; rw [if_pos rfl, if_pos (by omega)]
        · rw [if_neg q]
          by_cases q2 : j < i
          · rw [if_pos q2, if_pos (by omega)]
          · rw [if_neg q2, if_neg (by omega)]
theorem m_clear (hk0 : hasK M r (.inl (.int, 16))) (hQ : Q none (sRow M r (fun i => if i < 16 then -1 else mI M r i))) : Ct G (MT 180) [.ref r] M Q X := by
  refine Ct.go (L0 := [some (.ref r), none]) (by decide +kernel) rfl rfl ?_
  refine r_X12_clear (fun n => n == 2) 40 ?_
  simp only [cd_X12_clear, cf_X12_clear, wp, wq, wpI, cdF, w_CI, w_CL, w_CN, w_LI, w_LL, w_LA, w_SI, w_SL, w_SA, w_INC, w_II, w_IId, w_LLb, w_LLd, w_LS, w_I1, w_L1, w_I2L, w_L2I, w_CMP, w_DUP, w_POP, w_DUP2, w_IF, w_IC, w_GO, w_NUL, w_ACN, prs, w_GF, w_PF, w_GS, w_IAL, w_LEN, w_LAL, w_ZAL, w_AAL, w_IAS, w_LAS, w_ZAS, w_AAS, w_RI, w_RL, w_RA, w_NEW, w_NA, w_MNA, w_OI, w_THR, w_CV, w_CS, w_CN9, w_CI9, w_MX, w_cont, lget, sto1, sto2, wideV, vo, vo_rv, isR, isR_rv, rv, fget, fput, cats, Value.category, List.headD_cons, List.getD_cons_zero, List.getD_cons_succ, List.drop_succ_cons, List.drop_zero, List.take_succ_cons, List.take_zero, List.reverse_cons, List.reverse_nil, List.nil_append, List.cons_append, List.length_cons, List.length_nil, cond_true, cond_false, and_true, true_and, Nat.zero_add, Nat.add_zero, Nat.reduceAdd, Nat.reduceLT, Nat.reduceLeDiff, Nat.reduceEqDiff, Nat.reduceBEq, Nat.reduceSub, ↓reduceIte, Int32.reduceOfNat, Int64.reduceOfNat, reduceCtorEq, Nat.le_refl, Nat.zero_le, Bool.false_eq_true, beq_self_eq_true, Fin.isValue, Fin.val_zero, Fin.val_one, Fin.reduceFinMk, Fin.val_two, Nat.reduceMod, Bool.or_false, Bool.or_true, Bool.true_or, Bool.false_or, not_true_eq_false, not_false_eq_true, true_or, or_true, implies_true, false_implies, true_implies, Int32.reduceLT, Int32.reduceLE, ↓w_TAB3, ↓w_TAB4, ↓w_TAB5, ↓w_TAB7, ↓w_TAB10, ↓w_LK2, ↓w_LK6, false_and, and_false, i1z, i2z, iz1, im0, im1, l0z]
  have := lp_clear (G := G) (X := X) (kc := 0) (ks := 0) hk0 hQ 16 0 rfl
  rw [sRow_congr (g := mI M r) (fun i => if_neg (by omega)), sRow_id] at this
  exact this
end DRM
