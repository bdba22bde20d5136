/-! cutoff: the reference -/
section CUM
variable {G : En} {M M0 Mz M' : Mem} {Q : Option Value → Mem → Prop} {X : String → Mem → Prop} {S : Sw} {t a j k v i np T N A B d f g : Nat} {x y : Int32} {z : Int64} {u : Int} {p : Py} {L : Nat → Nat → Int}
def cpI (M : Mem) (f t : Nat) : Mem := uI (uL (uI (uI (uI (uL (uL (uI (uI (uI (uI (uI (uI M 516 t (mI M 516 f)) 517 t (mI M 517 f)) 520 t (mI M 520 f)) 521 t (mI M 521 f)) 522 t (mI M 522 f)) 523 t (mI M 523 f)) 524 t (mL M 524 f)) 525 t (mL M 525 f)) 526 t (mI M 526 f)) 527 t (mI M 527 f)) 528 t (mI M 528 f)) 529 t (mL M 529 f)) 530 t (mI M 530 f)
/-- k places of the row b, from n * f on, copied to n * t -/
def cpR (M : Mem) (b n f t k : Nat) : Mem := sRow M b (fun i => if n * t ≤ i ∧ i < n * t + k then mI M b (n * f + (i - n * t)) else mI M b i)
def cpM (M : Mem) (f t : Nat) : Mem := cpR (cpR (cpI M f t) 519 19 f t 19) 518 12 f t 12
theorem cpR_0 : cpR M a N f g 0 = M := by
  unfold cpR
  rw [sRow_congr (g := mI M a) (fun i => if_neg (by omega)), sRow_id]
theorem cpR_s (hfg : g ≤ f) (hk : k < N) : uI (cpR M a N f g k) a (N * g + k) (mI M a (N * f + k)) = cpR M a N f g (k + 1) := by
  unfold cpR
  rw [uI_sRow]
  refine sRow_congr (fun i => ?_)
  by_cases q : i = N * g + k
  · subst q; rw [if_pos rfl, if_pos (by omega), Nat.add_sub_cancel_left]
  · rw [if_neg q]
    by_cases q2 : N * g ≤ i ∧ i < N * g + k
    · rw [if_pos q2, if_pos (by omega)]
    · rw [if_neg q2, if_neg (by omega)]
theorem cpR_v (hfg : g ≤ f) (hk : k < N) : mI (cpR M a N f g k) a (N * f + k) = mI M a (N * f + k) := by
  unfold cpR
  rw [mI_sRow, if_pos rfl, if_neg]
  intro q
  by_cases e : g = f
  · subst e; omega
  · have : N * (g + 1) ≤ N * f := Nat.mul_le_mul_left N (by omega)
    rw [Nat.mul_add, Nat.mul_one] at this
    omega
theorem lp_cp1 (hL : LF M) (hf : f < 61) (hfg : g ≤ f) (hQ : Go G (MT 276) Q X 192 [some (.ref 495), some (.int (nI f)), some (.int (nI g)), none] [] (cpR M 519 19 f g 19) 0 0) : ∀ (m k : Nat), m + k = 19 → Go G (MT 276) Q X 158 [some (.ref 495), some (.int (nI f)), some (.int (nI g)), some (.int (nI k))] [] (cpR M 519 19 f g k) 0 0 := by
  have e1 : (19 : Int32) * nI f = nI (19 * f) := nI_mul (a := 19) (by omega) (by omega) (by omega)
  have e2 : (19 : Int32) * nI g = nI (19 * g) := nI_mul (a := 19) (by omega) (by omega) (by omega)
  intro m
  induction m with
  | zero =>
    intro k hk
    have hk : k = 19 := by omega
    subst hk
    refine r_X12_copyPayment (fun n => n == 158 || n == 192) 60 ?_
    simp only [cd_X12_copyPayment, cf_X12_copyPayment, wp, wq, wpI, cdF, w_CI, w_CL, w_CN, w_LI, w_LL, w_LA, w_SI, w_SL, w_SA, w_INC, w_II, w_IId, w_LLb, w_LLd, w_LS, w_I1, w_L1, w_I2L, w_L2I, w_CMP, w_DUP, w_POP, w_DUP2, w_IF, w_IC, w_GO, w_NUL, w_ACN, prs, w_GF, w_PF, w_GS, w_IAL, w_LEN, w_LAL, w_ZAL, w_AAL, w_IAS, w_LAS, w_ZAS, w_AAS, w_RI, w_RL, w_RA, w_NEW, w_NA, w_MNA, w_OI, w_THR, w_CV, w_CS, w_CN9, w_CI9, w_MX, w_cont, lget, sto1, sto2, wideV, vo, vo_rv, isR, isR_rv, rv, fget, fput, cats, Value.category, List.headD_cons, List.getD_cons_zero, List.getD_cons_succ, List.drop_succ_cons, List.drop_zero, List.take_succ_cons, List.take_zero, List.reverse_cons, List.reverse_nil, List.nil_append, List.cons_append, List.length_cons, List.length_nil, cond_true, cond_false, and_true, true_and, Nat.zero_add, Nat.add_zero, Nat.reduceAdd, Nat.reduceLT, Nat.reduceLeDiff, Nat.reduceEqDiff, Nat.reduceBEq, Nat.reduceSub, ↓reduceIte, Int32.reduceOfNat, Int64.reduceOfNat, reduceCtorEq, Nat.le_refl, Nat.zero_le, Bool.false_eq_true, beq_self_eq_true, Fin.isValue, Fin.val_zero, Fin.val_one, Fin.reduceFinMk, Fin.val_two, Nat.reduceMod, Bool.or_false, Bool.or_true, Bool.true_or, Bool.false_or, not_true_eq_false, not_false_eq_true, true_or, or_true, implies_true, false_implies, true_implies, Int32.reduceLT, Int32.reduceLE, ↓w_TAB3, ↓w_TAB4, ↓w_TAB5, ↓w_TAB7, ↓w_TAB10, ↓w_LK2, ↓w_LK6, false_and, and_false, i1z, i2z, iz1, im0, im1, l0z]
    refine ⟨fun _ => Go.less hQ (fun k v h => ?_), fun q => absurd (by decide) q⟩
    rcases k with _ | _ | _ | _ | k <;> simp at h ⊢ <;> exact h
  | succ m ih =>
    intro k hk
    have tk := nI_toInt (n := k) (by omega)
    have hLk : LF (cpR M 519 19 f g k) := hL
    have ih' := ih (k + 1) (by omega)
    have e3 : nI (19 * f) + nI k = nI (19 * f + k) := nI_add _ _
    have e4 : nI (19 * g) + nI k = nI (19 * g + k) := nI_add _ _
    have c3 := nI_clamp (n := 19 * f + k) (by omega)
    have c4 := nI_clamp (n := 19 * g + k) (by omega)
    have hv := cpR_v (M := M) (a := 519) (N := 19) (k := k) hfg (by omega)
    have hs := cpR_s (M := M) (a := 519) (N := 19) (k := k) hfg (by omega)
    generalize cpR M 519 19 f g k = Mk at *
    refine r_X12_copyPayment (fun n => n == 158 || n == 192) 60 ?_
    simp only [cd_X12_copyPayment, cf_X12_copyPayment, wp, wq, wpI, cdF, w_CI, w_CL, w_CN, w_LI, w_LL, w_LA, w_SI, w_SL, w_SA, w_INC, w_II, w_IId, w_LLb, w_LLd, w_LS, w_I1, w_L1, w_I2L, w_L2I, w_CMP, w_DUP, w_POP, w_DUP2, w_IF, w_IC, w_GO, w_NUL, w_ACN, prs, w_GF, w_PF, w_GS, w_IAL, w_LEN, w_LAL, w_ZAL, w_AAL, w_IAS, w_LAS, w_ZAS, w_AAS, w_RI, w_RL, w_RA, w_NEW, w_NA, w_MNA, w_OI, w_THR, w_CV, w_CS, w_CN9, w_CI9, w_MX, w_cont, lget, sto1, sto2, wideV, vo, vo_rv, isR, isR_rv, rv, fget, fput, cats, Value.category, List.headD_cons, List.getD_cons_zero, List.getD_cons_succ, List.drop_succ_cons, List.drop_zero, List.take_succ_cons, List.take_zero, List.reverse_cons, List.reverse_nil, List.nil_append, List.cons_append, List.length_cons, List.length_nil, cond_true, cond_false, and_true, true_and, Nat.zero_add, Nat.add_zero, Nat.reduceAdd, Nat.reduceLT, Nat.reduceLeDiff, Nat.reduceEqDiff, Nat.reduceBEq, Nat.reduceSub, ↓reduceIte, Int32.reduceOfNat, Int64.reduceOfNat, reduceCtorEq, Nat.le_refl, Nat.zero_le, Bool.false_eq_true, beq_self_eq_true, Fin.isValue, Fin.val_zero, Fin.val_one, Fin.reduceFinMk, Fin.val_two, Nat.reduceMod, Bool.or_false, Bool.or_true, Bool.true_or, Bool.false_or, not_true_eq_false, not_false_eq_true, true_or, or_true, implies_true, false_implies, true_implies, Int32.reduceLT, Int32.reduceLE, ↓w_TAB3, ↓w_TAB4, ↓w_TAB5, ↓w_TAB7, ↓w_TAB10, ↓w_LK2, ↓w_LK6, false_and, and_false, i1z, i2z, iz1, im0, im1, l0z, hasK_uI, hasK_uL, hasK_uR, hasK_uZ, hasK_sRow, mR_uI, mR_uL, mR_uZ, mR_sRow, mI_uL, mI_uR, mI_uZ, mL_uI, mL_uR, mL_uZ, mL_sRow, LF.hg hLk, layF, LF.r hLk, refF, ne_eq, not_false_eq_true, Option.some.injEq, Sum.inl.injEq, Sum.inr.injEq, Prod.mk.injEq, exists_eq_left, exists_eq_left', e1, e2, e3, e4, c3, c4, hv, nI_1]
    refine and_ii (fun q => ?_) (fun _ => ⟨vp_in_nI (by omega) (by omega), vp_in_nI (by omega) (by omega), ?_⟩)
    · exfalso; (simp only [i_lt, i_le, i_eq, l_lt, l_le, l_eq, Int32.toInt_toInt64, Int32.reduceToInt, Int64.reduceToInt, ne_eq, Classical.not_not] at *; omega)
    · rw [hs]; exact ih'
theorem lp_cp2 (hL : LF M) (hf : f < 61) (hfg : g ≤ f) (hQ : Q none (cpR M 518 12 f g 12)) : ∀ (m k : Nat), m + k = 12 → Go G (MT 276) Q X 194 [some (.ref 495), some (.int (nI f)), some (.int (nI g)), some (.int (nI k))] [] (cpR M 518 12 f g k) 0 0 := by
  have e1 : (12 : Int32) * nI f = nI (12 * f) := nI_mul (a := 12) (by omega) (by omega) (by omega)
  have e2 : (12 : Int32) * nI g = nI (12 * g) := nI_mul (a := 12) (by omega) (by omega) (by omega)
  intro m
  induction m with
  | zero =>
    intro k hk
    have hk : k = 12 := by omega
    subst hk
    refine r_X12_copyPayment (fun n => n == 194) 60 ?_
    simp only [cd_X12_copyPayment, cf_X12_copyPayment, wp, wq, wpI, cdF, w_CI, w_CL, w_CN, w_LI, w_LL, w_LA, w_SI, w_SL, w_SA, w_INC, w_II, w_IId, w_LLb, w_LLd, w_LS, w_I1, w_L1, w_I2L, w_L2I, w_CMP, w_DUP, w_POP, w_DUP2, w_IF, w_IC, w_GO, w_NUL, w_ACN, prs, w_GF, w_PF, w_GS, w_IAL, w_LEN, w_LAL, w_ZAL, w_AAL, w_IAS, w_LAS, w_ZAS, w_AAS, w_RI, w_RL, w_RA, w_NEW, w_NA, w_MNA, w_OI, w_THR, w_CV, w_CS, w_CN9, w_CI9, w_MX, w_cont, lget, sto1, sto2, wideV, vo, vo_rv, isR, isR_rv, rv, fget, fput, cats, Value.category, List.headD_cons, List.getD_cons_zero, List.getD_cons_succ, List.drop_succ_cons, List.drop_zero, List.take_succ_cons, List.take_zero, List.reverse_cons, List.reverse_nil, List.nil_append, List.cons_append, List.length_cons, List.length_nil, cond_true, cond_false, and_true, true_and, Nat.zero_add, Nat.add_zero, Nat.reduceAdd, Nat.reduceLT, Nat.reduceLeDiff, Nat.reduceEqDiff, Nat.reduceBEq, Nat.reduceSub, ↓reduceIte, Int32.reduceOfNat, Int64.reduceOfNat, reduceCtorEq, Nat.le_refl, Nat.zero_le, Bool.false_eq_true, beq_self_eq_true, Fin.isValue, Fin.val_zero, Fin.val_one, Fin.reduceFinMk, Fin.val_two, Nat.reduceMod, Bool.or_false, Bool.or_true, Bool.true_or, Bool.false_or, not_true_eq_false, not_false_eq_true, true_or, or_true, implies_true, false_implies, true_implies, Int32.reduceLT, Int32.reduceLE, ↓w_TAB3, ↓w_TAB4, ↓w_TAB5, ↓w_TAB7, ↓w_TAB10, ↓w_LK2, ↓w_LK6, false_and, and_false, i1z, i2z, iz1, im0, im1, l0z]
    exact ⟨fun _ => hQ, fun q => absurd (by decide) q⟩
  | succ m ih =>
    intro k hk
    have tk := nI_toInt (n := k) (by omega)
    have hLk : LF (cpR M 518 12 f g k) := hL
    have ih' := ih (k + 1) (by omega)
    have e3 : nI (12 * f) + nI k = nI (12 * f + k) := nI_add _ _
    have e4 : nI (12 * g) + nI k = nI (12 * g + k) := nI_add _ _
    have c3 := nI_clamp (n := 12 * f + k) (by omega)
    have c4 := nI_clamp (n := 12 * g + k) (by omega)
    have hv := cpR_v (M := M) (a := 518) (N := 12) (k := k) hfg (by omega)
    have hs := cpR_s (M := M) (a := 518) (N := 12) (k := k) hfg (by omega)
    generalize cpR M 518 12 f g k = Mk at *
    refine r_X12_copyPayment (fun n => n == 194) 60 ?_
    simp only [cd_X12_copyPayment, cf_X12_copyPayment, wp, wq, wpI, cdF, w_CI, w_CL, w_CN, w_LI, w_LL, w_LA, w_SI, w_SL, w_SA, w_INC, w_II, w_IId, w_LLb, w_LLd, w_LS, w_I1, w_L1, w_I2L, w_L2I, w_CMP, w_DUP, w_POP, w_DUP2, w_IF, w_IC, w_GO, w_NUL, w_ACN, prs, w_GF, w_PF, w_GS, w_IAL, w_LEN, w_LAL, w_ZAL, w_AAL, w_IAS, w_LAS, w_ZAS, w_AAS, w_RI, w_RL, w_RA, w_NEW, w_NA, w_MNA, w_OI, w_THR, w_CV, w_CS, w_CN9, w_CI9, w_MX, w_cont, lget, sto1, sto2, wideV, vo, vo_rv, isR, isR_rv, rv, fget, fput, cats, Value.category, List.headD_cons, List.getD_cons_zero, List.getD_cons_succ, List.drop_succ_cons, List.drop_zero, List.take_succ_cons, List.take_zero, List.reverse_cons, List.reverse_nil, List.nil_append, List.cons_append, List.length_cons, List.length_nil, cond_true, cond_false, and_true, true_and, Nat.zero_add, Nat.add_zero, Nat.reduceAdd, Nat.reduceLT, Nat.reduceLeDiff, Nat.reduceEqDiff, Nat.reduceBEq, Nat.reduceSub, ↓reduceIte, Int32.reduceOfNat, Int64.reduceOfNat, reduceCtorEq, Nat.le_refl, Nat.zero_le, Bool.false_eq_true, beq_self_eq_true, Fin.isValue, Fin.val_zero, Fin.val_one, Fin.reduceFinMk, Fin.val_two, Nat.reduceMod, Bool.or_false, Bool.or_true, Bool.true_or, Bool.false_or, not_true_eq_false, not_false_eq_true, true_or, or_true, implies_true, false_implies, true_implies, Int32.reduceLT, Int32.reduceLE, ↓w_TAB3, ↓w_TAB4, ↓w_TAB5, ↓w_TAB7, ↓w_TAB10, ↓w_LK2, ↓w_LK6, false_and, and_false, i1z, i2z, iz1, im0, im1, l0z, hasK_uI, hasK_uL, hasK_uR, hasK_uZ, hasK_sRow, mR_uI, mR_uL, mR_uZ, mR_sRow, mI_uL, mI_uR, mI_uZ, mL_uI, mL_uR, mL_uZ, mL_sRow, LF.hg hLk, layF, LF.r hLk, refF, ne_eq, not_false_eq_true, Option.some.injEq, Sum.inl.injEq, Sum.inr.injEq, Prod.mk.injEq, exists_eq_left, exists_eq_left', e1, e2, e3, e4, c3, c4, hv, nI_1]
    refine and_ii (fun q => ?_) (fun _ => ⟨vp_in_nI (by omega) (by omega), vp_in_nI (by omega) (by omega), ?_⟩)
    · exfalso; (simp only [i_lt, i_le, i_eq, l_lt, l_le, l_eq, Int32.toInt_toInt64, Int32.reduceToInt, Int64.reduceToInt, ne_eq, Classical.not_not] at *; omega)
    · rw [hs]; exact ih'
set_option maxRecDepth 20000 in
theorem m_copy (hL : LF M) (hf : f < 61) (hfg : g ≤ f) (hx : x = nI f) (hy : y = nI g) (hQ : Q none (cpM M f g)) : Ct G (MT 276) [.ref 495, .int x, .int y] M Q X := by
  subst hx hy
  have cf := nI_clamp (n := f) (by omega)
  have cg := nI_clamp (n := g) (by omega)
  have vf := vp_in_nI (n := f) (N := 61) (by omega) (by omega)
  have vg := vp_in_nI (n := g) (N := 61) (by omega) (by omega)
  refine Ct.go (L0 := [some (.ref 495), some (.int (nI f)), some (.int (nI g)), none]) (by decide +kernel) rfl rfl ?_
  refine r_X12_copyPayment (fun n => n == 158) 250 ?_
  simp only [cd_X12_copyPayment, cf_X12_copyPayment, wp, wq, wpI, cdF, w_CI, w_CL, w_CN, w_LI, w_LL, w_LA, w_SI, w_SL, w_SA, w_INC, w_II, w_IId, w_LLb, w_LLd, w_LS, w_I1, w_L1, w_I2L, w_L2I, w_CMP, w_DUP, w_POP, w_DUP2, w_IF, w_IC, w_GO, w_NUL, w_ACN, prs, w_GF, w_PF, w_GS, w_IAL, w_LEN, w_LAL, w_ZAL, w_AAL, w_IAS, w_LAS, w_ZAS, w_AAS, w_RI, w_RL, w_RA, w_NEW, w_NA, w_MNA, w_OI, w_THR, w_CV, w_CS, w_CN9, w_CI9, w_MX, w_cont, lget, sto1, sto2, wideV, vo, vo_rv, isR, isR_rv, rv, fget, fput, cats, Value.category, List.headD_cons, List.getD_cons_zero, List.getD_cons_succ, List.drop_succ_cons, List.drop_zero, List.take_succ_cons, List.take_zero, List.reverse_cons, List.reverse_nil, List.nil_append, List.cons_append, List.length_cons, List.length_nil, cond_true, cond_false, and_true, true_and, Nat.zero_add, Nat.add_zero, Nat.reduceAdd, Nat.reduceLT, Nat.reduceLeDiff, Nat.reduceEqDiff, Nat.reduceBEq, Nat.reduceSub, ↓reduceIte, Int32.reduceOfNat, Int64.reduceOfNat, reduceCtorEq, Nat.le_refl, Nat.zero_le, Bool.false_eq_true, beq_self_eq_true, Fin.isValue, Fin.val_zero, Fin.val_one, Fin.reduceFinMk, Fin.val_two, Nat.reduceMod, Bool.or_false, Bool.or_true, Bool.true_or, Bool.false_or, not_true_eq_false, not_false_eq_true, true_or, or_true, implies_true, false_implies, true_implies, Int32.reduceLT, Int32.reduceLE, ↓w_TAB3, ↓w_TAB4, ↓w_TAB5, ↓w_TAB7, ↓w_TAB10, ↓w_LK2, ↓w_LK6, false_and, and_false, i1z, i2z, iz1, im0, im1, l0z, hasK_uI, hasK_uL, hasK_uR, hasK_uZ, hasK_sRow, mR_uI, mR_uL, mR_uZ, mR_sRow, mI_uL, mI_uR, mI_uZ, mL_uI, mL_uR, mL_uZ, mL_sRow, LF.hk hL, layF, LF.r hL, refF, ne_eq, not_false_eq_true, Option.some.injEq, Sum.inl.injEq, Sum.inr.injEq, Prod.mk.injEq, exists_eq_left, exists_eq_left', cf, cg, mI_uI, mI_uL, mL_uL, mL_uI]
  refine ⟨vf, vg, vf, vg, vf, vg, vf, vg, vf, vg, vf, vg, vf, vg, vf, vg, vf, vg, vf, vg, vf, vg, vf, vg, vf, vg, ?_⟩
  have h1 := lp_cp1 (G := G) (Q := Q) (X := X) (M := cpI M f g) hL hf hfg ?_ 19 0 (by omega)
  · rw [cpR_0] at h1
    exact h1
  · refine r_X12_copyPayment (fun n => n == 194) 60 ?_
    simp only [cd_X12_copyPayment, cf_X12_copyPayment, wp, wq, wpI, cdF, w_CI, w_CL, w_CN, w_LI, w_LL, w_LA, w_SI, w_SL, w_SA, w_INC, w_II, w_IId, w_LLb, w_LLd, w_LS, w_I1, w_L1, w_I2L, w_L2I, w_CMP, w_DUP, w_POP, w_DUP2, w_IF, w_IC, w_GO, w_NUL, w_ACN, prs, w_GF, w_PF, w_GS, w_IAL, w_LEN, w_LAL, w_ZAL, w_AAL, w_IAS, w_LAS, w_ZAS, w_AAS, w_RI, w_RL, w_RA, w_NEW, w_NA, w_MNA, w_OI, w_THR, w_CV, w_CS, w_CN9, w_CI9, w_MX, w_cont, lget, sto1, sto2, wideV, vo, vo_rv, isR, isR_rv, rv, fget, fput, cats, Value.category, List.headD_cons, List.getD_cons_zero, List.getD_cons_succ, List.drop_succ_cons, List.drop_zero, List.take_succ_cons, List.take_zero, List.reverse_cons, List.reverse_nil, List.nil_append, List.cons_append, List.length_cons, List.length_nil, cond_true, cond_false, and_true, true_and, Nat.zero_add, Nat.add_zero, Nat.reduceAdd, Nat.reduceLT, Nat.reduceLeDiff, Nat.reduceEqDiff, Nat.reduceBEq, Nat.reduceSub, ↓reduceIte, Int32.reduceOfNat, Int64.reduceOfNat, reduceCtorEq, Nat.le_refl, Nat.zero_le, Bool.false_eq_true, beq_self_eq_true, Fin.isValue, Fin.val_zero, Fin.val_one, Fin.reduceFinMk, Fin.val_two, Nat.reduceMod, Bool.or_false, Bool.or_true, Bool.true_or, Bool.false_or, not_true_eq_false, not_false_eq_true, true_or, or_true, implies_true, false_implies, true_implies, Int32.reduceLT, Int32.reduceLE, ↓w_TAB3, ↓w_TAB4, ↓w_TAB5, ↓w_TAB7, ↓w_TAB10, ↓w_LK2, ↓w_LK6, false_and, and_false, i1z, i2z, iz1, im0, im1, l0z]
    have h2 := lp_cp2 (G := G) (Q := Q) (X := X) (M := cpR (cpI M f g) 519 19 f g 19) hL hf hfg hQ 12 0 (by omega)
    rw [cpR_0] at h2
    exact h2
theorem payM_cp (h : payM M f p) (h44 : qI p 44 ≤ 19) : payM (cpM M f g) g p := by
  have e1 : ∀ b, b ≠ 518 → b ≠ 519 → mI (cpM M f g) b g = mI (cpI M f g) b g := fun b h1 h2 => by
    unfold cpM cpR
    rw [mI_nr h1, mI_nr h2]
  have e2 : mL (cpM M f g) = mL (cpI M f g) := rfl
  have e3 : ∀ j, j < 19 → mI (cpM M f g) 519 (19 * g + j) = mI M 519 (19 * f + j) := fun j hj => by
    unfold cpM cpR
    rw [mI_nr (by omega), mI_sRow, if_pos rfl, if_pos (by omega), Nat.add_sub_cancel_left]
    unfold cpI
    simp [mI_uI, mI_uL]
  have e4 : ∀ j, j < 12 → mI (cpM M f g) 518 (12 * g + j) = mI M 518 (12 * f + j) := fun j hj => by
    unfold cpM cpR
    rw [mI_sRow, if_pos rfl, if_pos (by omega), Nat.add_sub_cancel_left, mI_nr (by omega)]
    unfold cpI
    simp [mI_uI, mI_uL]
  unfold payM at *
  obtain ⟨a1, a2, a3, a4, a5, a6, a7, a8, a9, a10, a11, a12, a13, a14, a15⟩ := h
  refine ⟨?_, ?_, ?_, ?_, ?_, ?_, ?_, ?_, ?_, ?_, ?_, ?_, ?_, fun j hj => ?_, fun j hj => ?_⟩
  · rw [e1 _ (by omega) (by omega)]; unfold cpI; simp [mI_uI, mI_uL, a1]
  · rw [e1 _ (by omega) (by omega)]; unfold cpI; simp [mI_uI, mI_uL, a2]
  · rw [e1 _ (by omega) (by omega)]; unfold cpI; simp [mI_uI, mI_uL, a3]
  · rw [e1 _ (by omega) (by omega)]; unfold cpI; simp [mI_uI, mI_uL, a4]
  · rw [e1 _ (by omega) (by omega)]; unfold cpI; simp [mI_uI, mI_uL, a5]
  · rw [e1 _ (by omega) (by omega)]; unfold cpI; simp [mI_uI, mI_uL, a6]
  · rw [e1 _ (by omega) (by omega)]; unfold cpI; simp [mI_uI, mI_uL, a7]
  · rw [e1 _ (by omega) (by omega)]; unfold cpI; simp [mI_uI, mI_uL, a8]
  · rw [e1 _ (by omega) (by omega)]; unfold cpI; simp [mI_uI, mI_uL, a9]
  · rw [e2]; unfold cpI; simp [mL_uI, mL_uL, a10]
  · rw [e2]; unfold cpI; simp [mL_uI, mL_uL, a11]
  · rw [e2]; unfold cpI; simp [mL_uI, mL_uL, a12]
  · rw [e1 _ (by omega) (by omega)]; unfold cpI; simp [mI_uI, mI_uL, a13]
  · rw [e3 j (by omega)]; exact a14 j hj
  · rw [e4 j hj]; exact a15 j hj
theorem payM_cpo (h : payM M i p) (hi : i ≠ g) (h44 : qI p 44 ≤ 19) : payM (cpM M f g) i p := by
  have h1 : payM (cpI M f g) i p := payM_oI (payM_oL (payM_oI (payM_oI (payM_oI (payM_oL (payM_oL (payM_oI (payM_oI (payM_oI (payM_oI (payM_oI (payM_oI h hi (by omega)) hi (by omega)) hi (by omega)) hi (by omega)) hi (by omega)) hi (by omega)) hi) hi) hi (by omega)) hi (by omega)) hi (by omega)) hi) hi (by omega)
  have e1 : ∀ b k, b ≠ 518 → b ≠ 519 → mI (cpM M f g) b k = mI (cpI M f g) b k := fun b k h1 h2 => by
    unfold cpM cpR
    rw [mI_nr h1, mI_nr h2]
  have e3 : ∀ j, j < 19 → mI (cpM M f g) 519 (19 * i + j) = mI (cpI M f g) 519 (19 * i + j) := fun j hj => by
    unfold cpM cpR
    rw [mI_nr (by omega), mI_sRow, if_pos rfl, if_neg (by omega)]
  have e4 : ∀ j, j < 12 → mI (cpM M f g) 518 (12 * i + j) = mI (cpI M f g) 518 (12 * i + j) := fun j hj => by
    unfold cpM cpR
    rw [mI_sRow, if_pos rfl, if_neg (by omega), mI_nr (by omega)]
  have e2 : mL (cpM M f g) = mL (cpI M f g) := rfl
  generalize cpI M f g = Mc at *
  unfold payM at *
  obtain ⟨a1, a2, a3, a4, a5, a6, a7, a8, a9, a10, a11, a12, a13, a14, a15⟩ := h1
  rw [e2]
  refine ⟨?_, ?_, ?_, ?_, ?_, ?_, ?_, ?_, ?_, a10, a11, a12, ?_, fun j hj => ?_, fun j hj => ?_⟩
  · rw [e1 _ _ (by omega) (by omega)]; exact a1
  · rw [e1 _ _ (by omega) (by omega)]; exact a2
  · rw [e1 _ _ (by omega) (by omega)]; exact a3
  · rw [e1 _ _ (by omega) (by omega)]; exact a4
  · rw [e1 _ _ (by omega) (by omega)]; exact a5
  · rw [e1 _ _ (by omega) (by omega)]; exact a6
  · rw [e1 _ _ (by omega) (by omega)]; exact a7
  · rw [e1 _ _ (by omega) (by omega)]; exact a8
  · rw [e1 _ _ (by omega) (by omega)]; exact a9
  · rw [e1 _ _ (by omega) (by omega)]; exact a13
  · rw [e3 j (by omega)]; exact a14 j hj
  · rw [e4 j hj]; exact a15 j hj
/-- RM, without the payments -/
def RX (S : Sw) (M : Mem) : Prop := LF M ∧ mNn (sN S) M ∧ mIi (sI S) M ∧ mLl (sL S) M ∧ mA (sQ S) M ∧ mC (sN S 34) (sC S) M ∧ mRr (sN S 55) (sR S) M ∧ msgM M 64 540 539 (sD S) ∧ BYM M 74 545 (sT S) ∧ BYM M 78 547 (sZ S) ∧ mK M
theorem RX_of (h : RM S M) : RX S M := ⟨h.1, h.2.1, h.2.2.1, h.2.2.2.1, h.2.2.2.2.1, h.2.2.2.2.2.1, h.2.2.2.2.2.2.2.1, h.2.2.2.2.2.2.2.2.1, h.2.2.2.2.2.2.2.2.2.1, h.2.2.2.2.2.2.2.2.2.2.1, h.2.2.2.2.2.2.2.2.2.2.2⟩
theorem RM_of (h : RX S M) (hp : mP (sN S 39) (sP S) M) : RM S M := ⟨h.1, h.2.1, h.2.2.1, h.2.2.2.1, h.2.2.2.2.1, h.2.2.2.2.2.1, hp, h.2.2.2.2.2.2.1, h.2.2.2.2.2.2.2.1, h.2.2.2.2.2.2.2.2.1, h.2.2.2.2.2.2.2.2.2.1, h.2.2.2.2.2.2.2.2.2.2⟩
theorem RX_uI (h : RX S M) (ha : 516 ≤ a ∧ a ≤ 530) : RX S (uI M a j y) := by
  obtain ⟨hL, hN, hI, hLl, hA, hC, hRr, hD, hT, hZ, hK⟩ := h
  exact ⟨hL, mNn_uI hN (by omega), mIi_uI hI (by omega), hLl, mA_uI hA (by omega), mC_uI hC (by omega), mRr_uI hRr (by omega), msgM_uI hD (by omega), BYM_uI hT (by omega), BYM_uI hZ (by omega), mK_uI hK (by omega)⟩
theorem RX_uL (h : RX S M) (ha : 516 ≤ a ∧ a ≤ 530) : RX S (uL M a j z) := by
  obtain ⟨hL, hN, hI, hLl, hA, hC, hRr, hD, hT, hZ, hK⟩ := h
  exact ⟨hL, hN, hI, mLl_uL hLl (by omega), hA, hC, hRr, hD, hT, hZ, hK⟩
theorem RX_sRow {f : Nat → Int32} (h : RX S M) (ha : 516 ≤ a ∧ a ≤ 530) : RX S (sRow M a f) := by
  obtain ⟨hL, hN, hI, hLl, hA, hC, hRr, hD, hT, hZ, hK⟩ := h
  exact ⟨hL, mNn_sRow hN (by omega), mIi_sRow hI (by omega), hLl, mA_sRow hA (by omega), mC_sRow hC (by omega), mRr_sRow hRr (by omega), msgM_sRow hD (by omega), BYM_sRow hT (by omega), BYM_sRow hZ (by omega), mK_sRow hK (by omega)⟩
theorem RX_cp (h : RX S M) : RX S (cpM M f g) :=
  RX_sRow (RX_sRow (RX_uI (RX_uL (RX_uI (RX_uI (RX_uI (RX_uL (RX_uL (RX_uI (RX_uI (RX_uI (RX_uI (RX_uI (RX_uI h (by omega)) (by omega)) (by omega)) (by omega)) (by omega)) (by omega)) (by omega)) (by omega)) (by omega)) (by omega)) (by omega)) (by omega)) (by omega)) (by omega)) (by omega)
theorem loS_cp (h : loS M0 M) : loS M0 (cpM M f g) := by
  unfold cpM cpR cpI
  exact loS_sRow (loS_sRow (loS_uI (loS_uL (loS_uI (loS_uI (loS_uI (loS_uL (loS_uL (loS_uI (loS_uI (loS_uI (loS_uI (loS_uI (loS_uI h (by omega)) (by omega)) (by omega)) (by omega)) (by omega)) (by omega)) (by omega)) (by omega)) (by omega)) (by omega)) (by omega)) (by omega)) (by omega)) (by omega)) (by omega)
theorem o5_cp : o5 M (cpM M f g) := fun j => by
  unfold cpM cpR
  rw [mI_nr (by omega), mI_nr (by omega)]
  unfold cpI
  simp [mI_uI, mI_uL]
theorem m_isForg (hL : LF M) (h11 : mI M 495 11 = nI (sN S 11)) (h15 : mI M 495 15 = nI (sN S 15)) (hj : Jv t S) (hk : k < 61) (hp : payM M k p) (hb : qI p 47 ≤ 3 ∧ qI p 52 ≤ 4 ∧ qI p 51 ≤ 1005001) (hx : x = nI k) (hQ : Q (some (.int (b2i (ovr S p = true)))) M) : Ct G (MT 275) [.ref 495, .int x] M Q X := by
  subst hx
  have hs := hj.1
  unfold jS at hs
  unfold payM at hp
  have ck := nI_clamp (n := k) (by omega)
  have hv := vp_in_nI (n := k) (N := 61) (by omega) (by omega)
  have t15 := nI_toInt (n := sN S 15) (by omega)
  have t11 := nI_toInt (n := sN S 11) (by omega)
  have t51 := nI_toInt (n := qI p 51) (by omega)
  have t47 := nI_toInt (n := qI p 47) (by omega)
  have t52 := nI_toInt (n := qI p 52) (by omega)
  have tm : (nI (qI p 51) - 1).toInt = qI p 51 - 1 := by rw [i_sub] <;> rw [t51] <;> simp <;> omega
  have td : (nI (sN S 11) - (nI (qI p 51) - 1)).toInt = sN S 11 - (qI p 51 - 1) := by rw [i_sub] <;> rw [t11, tm] <;> omega
  have hov : (ovr S p = true) ↔ (if qI p 47 = 3 ∧ qI p 52 = 0 then ((sN S 15 : Int) < (sN S 11 : Int) - ((qI p 51 : Int) - 1)) else (qI p 47 = 2 ∨ 2 < qI p 52)) := by
    unfold ovr
    by_cases e : qI p 47 = 3 ∧ qI p 52 = 0
    · rw [if_pos e, if_pos e, decide_eq_true_iff]
    · rw [if_neg e, if_neg e, decide_eq_true_iff]
  have hne : ∀ e : ¬ (qI p 47 = 3 ∧ qI p 52 = 0), Go G (MT 275) Q X 43 [some (.ref 495), some (.int (nI k))] [] M 0 0 := fun e => by
    rw [if_neg e] at hov
    refine r_X12_isForgotten (fun _ => false) 60 ?_
    simp only [cd_X12_isForgotten, cf_X12_isForgotten, wp, wq, wpI, cdF, w_CI, w_CL, w_CN, w_LI, w_LL, w_LA, w_SI, w_SL, w_SA, w_INC, w_II, w_IId, w_LLb, w_LLd, w_LS, w_I1, w_L1, w_I2L, w_L2I, w_CMP, w_DUP, w_POP, w_DUP2, w_IF, w_IC, w_GO, w_NUL, w_ACN, prs, w_GF, w_PF, w_GS, w_IAL, w_LEN, w_LAL, w_ZAL, w_AAL, w_IAS, w_LAS, w_ZAS, w_AAS, w_RI, w_RL, w_RA, w_NEW, w_NA, w_MNA, w_OI, w_THR, w_CV, w_CS, w_CN9, w_CI9, w_MX, w_cont, lget, sto1, sto2, wideV, vo, vo_rv, isR, isR_rv, rv, fget, fput, cats, Value.category, List.headD_cons, List.getD_cons_zero, List.getD_cons_succ, List.drop_succ_cons, List.drop_zero, List.take_succ_cons, List.take_zero, List.reverse_cons, List.reverse_nil, List.nil_append, List.cons_append, List.length_cons, List.length_nil, cond_true, cond_false, and_true, true_and, Nat.zero_add, Nat.add_zero, Nat.reduceAdd, Nat.reduceLT, Nat.reduceLeDiff, Nat.reduceEqDiff, Nat.reduceBEq, Nat.reduceSub, ↓reduceIte, Int32.reduceOfNat, Int64.reduceOfNat, reduceCtorEq, Nat.le_refl, Nat.zero_le, Bool.false_eq_true, beq_self_eq_true, Fin.isValue, Fin.val_zero, Fin.val_one, Fin.reduceFinMk, Fin.val_two, Nat.reduceMod, Bool.or_false, Bool.or_true, Bool.true_or, Bool.false_or, not_true_eq_false, not_false_eq_true, true_or, or_true, implies_true, false_implies, true_implies, Int32.reduceLT, Int32.reduceLE, ↓w_TAB3, ↓w_TAB4, ↓w_TAB5, ↓w_TAB7, ↓w_TAB10, ↓w_LK2, ↓w_LK6, false_and, and_false, i1z, i2z, iz1, im0, im1, l0z, hasK_uI, hasK_uL, hasK_uR, hasK_uZ, hasK_sRow, mR_uI, mR_uL, mR_uZ, mR_sRow, mI_uL, mI_uR, mI_uZ, mL_uI, mL_uR, mL_uZ, mL_sRow, LF.hk hL, layF, LF.r hL, refF, ne_eq, not_false_eq_true, Option.some.injEq, Sum.inl.injEq, Sum.inr.injEq, Prod.mk.injEq, exists_eq_left, exists_eq_left', ck, hp]
    refine ⟨hv, and_ii (fun q => ?_) (fun q => ⟨hv, and_ii (fun q2 => ?_) (fun q2 => ?_)⟩)⟩
    · rw [b2i_t (by rw [hov]; (simp only [i_lt, i_le, i_eq, l_lt, l_le, l_eq, Int32.toInt_toInt64, Int32.reduceToInt, Int64.reduceToInt, ne_eq, Classical.not_not] at *; omega))] at hQ; exact hQ
    · rw [b2i_f (by rw [hov]; (simp only [i_lt, i_le, i_eq, l_lt, l_le, l_eq, Int32.toInt_toInt64, Int32.reduceToInt, Int64.reduceToInt, ne_eq, Classical.not_not] at *; omega))] at hQ; exact hQ
    · rw [b2i_t (by rw [hov]; (simp only [i_lt, i_le, i_eq, l_lt, l_le, l_eq, Int32.toInt_toInt64, Int32.reduceToInt, Int64.reduceToInt, ne_eq, Classical.not_not] at *; omega))] at hQ; exact hQ
  refine Ct.go (L0 := [some (.ref 495), some (.int (nI k))]) (by decide +kernel) rfl rfl ?_
  refine r_X12_isForgotten (fun n => n == 43) 60 ?_
  simp only [cd_X12_isForgotten, cf_X12_isForgotten, wp, wq, wpI, cdF, w_CI, w_CL, w_CN, w_LI, w_LL, w_LA, w_SI, w_SL, w_SA, w_INC, w_II, w_IId, w_LLb, w_LLd, w_LS, w_I1, w_L1, w_I2L, w_L2I, w_CMP, w_DUP, w_POP, w_DUP2, w_IF, w_IC, w_GO, w_NUL, w_ACN, prs, w_GF, w_PF, w_GS, w_IAL, w_LEN, w_LAL, w_ZAL, w_AAL, w_IAS, w_LAS, w_ZAS, w_AAS, w_RI, w_RL, w_RA, w_NEW, w_NA, w_MNA, w_OI, w_THR, w_CV, w_CS, w_CN9, w_CI9, w_MX, w_cont, lget, sto1, sto2, wideV, vo, vo_rv, isR, isR_rv, rv, fget, fput, cats, Value.category, List.headD_cons, List.getD_cons_zero, List.getD_cons_succ, List.drop_succ_cons, List.drop_zero, List.take_succ_cons, List.take_zero, List.reverse_cons, List.reverse_nil, List.nil_append, List.cons_append, List.length_cons, List.length_nil, cond_true, cond_false, and_true, true_and, Nat.zero_add, Nat.add_zero, Nat.reduceAdd, Nat.reduceLT, Nat.reduceLeDiff, Nat.reduceEqDiff, Nat.reduceBEq, Nat.reduceSub, ↓reduceIte, Int32.reduceOfNat, Int64.reduceOfNat, reduceCtorEq, Nat.le_refl, Nat.zero_le, Bool.false_eq_true, beq_self_eq_true, Fin.isValue, Fin.val_zero, Fin.val_one, Fin.reduceFinMk, Fin.val_two, Nat.reduceMod, Bool.or_false, Bool.or_true, Bool.true_or, Bool.false_or, not_true_eq_false, not_false_eq_true, true_or, or_true, implies_true, false_implies, true_implies, Int32.reduceLT, Int32.reduceLE, ↓w_TAB3, ↓w_TAB4, ↓w_TAB5, ↓w_TAB7, ↓w_TAB10, ↓w_LK2, ↓w_LK6, false_and, and_false, i1z, i2z, iz1, im0, im1, l0z, hasK_uI, hasK_uL, hasK_uR, hasK_uZ, hasK_sRow, mR_uI, mR_uL, mR_uZ, mR_sRow, mI_uL, mI_uR, mI_uZ, mL_uI, mL_uR, mL_uZ, mL_sRow, LF.hk hL, layF, LF.r hL, refF, ne_eq, not_false_eq_true, Option.some.injEq, Sum.inl.injEq, Sum.inr.injEq, Prod.mk.injEq, exists_eq_left, exists_eq_left', ck, hp, h11, h15]
  refine ⟨hv, and_ii (fun q => hne (by (simp only [i_lt, i_le, i_eq, l_lt, l_le, l_eq, Int32.toInt_toInt64, Int32.reduceToInt, Int64.reduceToInt, ne_eq, Classical.not_not] at *; omega))) (fun q => ⟨hv, and_ii (fun q2 => hne (by (simp only [i_lt, i_le, i_eq, l_lt, l_le, l_eq, Int32.toInt_toInt64, Int32.reduceToInt, Int64.reduceToInt, ne_eq, Classical.not_not] at *; omega))) (fun q2 => ⟨hv, ?_⟩)⟩)⟩
  rw [if_pos (by (simp only [i_lt, i_le, i_eq, l_lt, l_le, l_eq, Int32.toInt_toInt64, Int32.reduceToInt, Int64.reduceToInt, ne_eq, Classical.not_not] at *; omega))] at hov
  refine and_ii (fun q => ?_) (fun q => ?_)
  · rw [b2i_f (by rw [hov]; (simp only [i_lt, i_le, i_eq, l_lt, l_le, l_eq, Int32.toInt_toInt64, Int32.reduceToInt, Int64.reduceToInt, ne_eq, Classical.not_not] at *; omega))] at hQ; exact hQ
  · rw [b2i_t (by rw [hov]; (simp only [i_lt, i_le, i_eq, l_lt, l_le, l_eq, Int32.toInt_toInt64, Int32.reduceToInt, Int64.reduceToInt, ne_eq, Classical.not_not] at *; omega))] at hQ; exact hQ
theorem lp_msettle {l : Option Value} (hQ : ∀ M', RM (wL S (stk (sL S) 0 13)) M' → loS M0 M' → o5 Mz M' → Go G (MT 277) Q X 71 [some (.ref 495), none, l] [] M' 0 0) : ∀ (m k : Nat), m + k = 13 → ∀ Mk, RM (wL S (stk (sL S) 0 k)) Mk → loS M0 Mk → o5 Mz Mk → Go G (MT 277) Q X 37 [some (.ref 495), some (.int (nI k)), l] [] Mk 0 0 := by
  intro m
  induction m with
  | zero =>
    intro k hk Mk r1 i1 g1
    have hk : k = 13 := by omega
    subst hk
    refine r_X12_cutoff (fun n => n == 37 || n == 71 || n == 5 || n == 29 || n == 88 || n == 97) 60 ?_
    simp only [cd_X12_cutoff, cf_X12_cutoff, wp, wq, wpI, cdF, w_CI, w_CL, w_CN, w_LI, w_LL, w_LA, w_SI, w_SL, w_SA, w_INC, w_II, w_IId, w_LLb, w_LLd, w_LS, w_I1, w_L1, w_I2L, w_L2I, w_CMP, w_DUP, w_POP, w_DUP2, w_IF, w_IC, w_GO, w_NUL, w_ACN, prs, w_GF, w_PF, w_GS, w_IAL, w_LEN, w_LAL, w_ZAL, w_AAL, w_IAS, w_LAS, w_ZAS, w_AAS, w_RI, w_RL, w_RA, w_NEW, w_NA, w_MNA, w_OI, w_THR, w_CV, w_CS, w_CN9, w_CI9, w_MX, w_cont, lget, sto1, sto2, wideV, vo, vo_rv, isR, isR_rv, rv, fget, fput, cats, Value.category, List.headD_cons, List.getD_cons_zero, List.getD_cons_succ, List.drop_succ_cons, List.drop_zero, List.take_succ_cons, List.take_zero, List.reverse_cons, List.reverse_nil, List.nil_append, List.cons_append, List.length_cons, List.length_nil, cond_true, cond_false, and_true, true_and, Nat.zero_add, Nat.add_zero, Nat.reduceAdd, Nat.reduceLT, Nat.reduceLeDiff, Nat.reduceEqDiff, Nat.reduceBEq, Nat.reduceSub, ↓reduceIte, Int32.reduceOfNat, Int64.reduceOfNat, reduceCtorEq, Nat.le_refl, Nat.zero_le, Bool.false_eq_true, beq_self_eq_true, Fin.isValue, Fin.val_zero, Fin.val_one, Fin.reduceFinMk, Fin.val_two, Nat.reduceMod, Bool.or_false, Bool.or_true, Bool.true_or, Bool.false_or, not_true_eq_false, not_false_eq_true, true_or, or_true, implies_true, false_implies, true_implies, Int32.reduceLT, Int32.reduceLE, ↓w_TAB3, ↓w_TAB4, ↓w_TAB5, ↓w_TAB7, ↓w_TAB10, ↓w_LK2, ↓w_LK6, false_and, and_false, i1z, i2z, iz1, im0, im1, l0z]
    refine ⟨fun _ => Go.less (hQ Mk r1 i1 g1) (fun k v h => ?_), fun q => absurd (by decide) q⟩
    rcases k with _ | _ | _ | k <;> simp at h ⊢ <;> exact h
  | succ m ih =>
    intro k hk Mk r1 i1 g1
    have hL := r1.1
    have hLl : mLl (stk (sL S) 0 k) Mk := r1.2.2.2.1
    have ck := nI_clamp (n := k) (by omega)
    have tk := nI_toInt (n := k) (by omega)
    have m1 := (hLl.1 k (by omega)).1
    have m2 := (hLl.1 k (by omega)).2
    have hv := vp_in_nI (n := k) (N := 13) (by omega) (by omega)
    have ss := stk_s (L := sL S) (d := 0) (k := k)
    rw [Nat.zero_add] at ss
    refine r_X12_cutoff (fun n => n == 37 || n == 71 || n == 5 || n == 29 || n == 88 || n == 97) 60 ?_
    simp only [cd_X12_cutoff, cf_X12_cutoff, wp, wq, wpI, cdF, w_CI, w_CL, w_CN, w_LI, w_LL, w_LA, w_SI, w_SL, w_SA, w_INC, w_II, w_IId, w_LLb, w_LLd, w_LS, w_I1, w_L1, w_I2L, w_L2I, w_CMP, w_DUP, w_POP, w_DUP2, w_IF, w_IC, w_GO, w_NUL, w_ACN, prs, w_GF, w_PF, w_GS, w_IAL, w_LEN, w_LAL, w_ZAL, w_AAL, w_IAS, w_LAS, w_ZAS, w_AAS, w_RI, w_RL, w_RA, w_NEW, w_NA, w_MNA, w_OI, w_THR, w_CV, w_CS, w_CN9, w_CI9, w_MX, w_cont, lget, sto1, sto2, wideV, vo, vo_rv, isR, isR_rv, rv, fget, fput, cats, Value.category, List.headD_cons, List.getD_cons_zero, List.getD_cons_succ, List.drop_succ_cons, List.drop_zero, List.take_succ_cons, List.take_zero, List.reverse_cons, List.reverse_nil, List.nil_append, List.cons_append, List.length_cons, List.length_nil, cond_true, cond_false, and_true, true_and, Nat.zero_add, Nat.add_zero, Nat.reduceAdd, Nat.reduceLT, Nat.reduceLeDiff, Nat.reduceEqDiff, Nat.reduceBEq, Nat.reduceSub, ↓reduceIte, Int32.reduceOfNat, Int64.reduceOfNat, reduceCtorEq, Nat.le_refl, Nat.zero_le, Bool.false_eq_true, beq_self_eq_true, Fin.isValue, Fin.val_zero, Fin.val_one, Fin.reduceFinMk, Fin.val_two, Nat.reduceMod, Bool.or_false, Bool.or_true, Bool.true_or, Bool.false_or, not_true_eq_false, not_false_eq_true, true_or, or_true, implies_true, false_implies, true_implies, Int32.reduceLT, Int32.reduceLE, ↓w_TAB3, ↓w_TAB4, ↓w_TAB5, ↓w_TAB7, ↓w_TAB10, ↓w_LK2, ↓w_LK6, false_and, and_false, i1z, i2z, iz1, im0, im1, l0z, hasK_uI, hasK_uL, hasK_uR, hasK_uZ, hasK_sRow, mR_uI, mR_uL, mR_uZ, mR_sRow, mI_uL, mI_uR, mI_uZ, mL_uI, mL_uR, mL_uZ, mL_sRow, LF.hk hL, layF, LF.r hL, refF, ne_eq, not_false_eq_true, Option.some.injEq, Sum.inl.injEq, Sum.inr.injEq, Prod.mk.injEq, exists_eq_left, exists_eq_left', ck, m1, m2, mL_uL, lI_add, nI_1]
    refine and_ii (fun q => ?_) (fun _ => ⟨hv, hv, hv, hv, ?_⟩)
    · exfalso; (simp only [i_lt, i_le, i_eq, l_lt, l_le, l_eq, Int32.toInt_toInt64, Int32.reduceToInt, Int64.reduceToInt, ne_eq, Classical.not_not] at *; omega)
    · refine ih (k + 1) (by omega) _ ?_ (loS_uL (loS_uL i1 (by omega)) (by omega)) (o5_L (o5_L g1))
      rw [← ss]
      obtain ⟨-, hN, hI, -, hA, hC, hP, hRr, hD, hT, hZ, hK⟩ := r1
      exact ⟨hL, (by repeat (first | exact hN | refine mNn_uI ?_ (by omega) | refine mNn_uI ?_ | refine mNn_uL ?_ (by omega) | refine mNn_uL ?_ | refine mNn_uR ?_ (by omega) | refine mNn_uR ?_ | refine mNn_sRow ?_ (by omega) | refine mNn_sRow ?_ | refine mNn_uZ ?_)), (by repeat (first | exact hI | refine mIi_uI ?_ (by omega) | refine mIi_uI ?_ | refine mIi_uL ?_ (by omega) | refine mIi_uL ?_ | refine mIi_uR ?_ (by omega) | refine mIi_uR ?_ | refine mIi_sRow ?_ (by omega) | refine mIi_sRow ?_ | refine mIi_uZ ?_)), mLl_set (mLl_set hLl rfl) rfl, (by repeat (first | exact hA | refine mA_uI ?_ (by omega) | refine mA_uI ?_ | refine mA_uL ?_ (by omega) | refine mA_uL ?_ | refine mA_uR ?_ (by omega) | refine mA_uR ?_ | refine mA_sRow ?_ (by omega) | refine mA_sRow ?_ | refine mA_uZ ?_)), (by repeat (first | exact hC | refine mC_uI ?_ (by omega) | refine mC_uI ?_ | refine mC_uL ?_ (by omega) | refine mC_uL ?_ | refine mC_uR ?_ (by omega) | refine mC_uR ?_ | refine mC_sRow ?_ (by omega) | refine mC_sRow ?_ | refine mC_uZ ?_)), (by repeat (first | exact hP | refine mP_uI ?_ (by omega) | refine mP_uI ?_ | refine mP_uL ?_ (by omega) | refine mP_uL ?_ | refine mP_uR ?_ (by omega) | refine mP_uR ?_ | refine mP_sRow ?_ (by omega) | refine mP_sRow ?_ | refine mP_uZ ?_)), (by repeat (first | exact hRr | refine mRr_uI ?_ (by omega) | refine mRr_uI ?_ | refine mRr_uL ?_ (by omega) | refine mRr_uL ?_ | refine mRr_uR ?_ (by omega) | refine mRr_uR ?_ | refine mRr_sRow ?_ (by omega) | refine mRr_sRow ?_ | refine mRr_uZ ?_)), (by repeat (first | exact hD | refine msgM_uI ?_ (by omega) | refine msgM_uI ?_ | refine msgM_uL ?_ (by omega) | refine msgM_uL ?_ | refine msgM_uR ?_ (by omega) | refine msgM_uR ?_ | refine msgM_sRow ?_ (by omega) | refine msgM_sRow ?_ | refine msgM_uZ ?_)), (by repeat (first | exact hT | refine BYM_uI ?_ (by omega) | refine BYM_uI ?_ | refine BYM_uL ?_ (by omega) | refine BYM_uL ?_ | refine BYM_uR ?_ (by omega) | refine BYM_uR ?_ | refine BYM_sRow ?_ (by omega) | refine BYM_sRow ?_ | refine BYM_uZ ?_)), (by repeat (first | exact hZ | refine BYM_uI ?_ (by omega) | refine BYM_uI ?_ | refine BYM_uL ?_ (by omega) | refine BYM_uL ?_ | refine BYM_uR ?_ (by omega) | refine BYM_uR ?_ | refine BYM_sRow ?_ (by omega) | refine BYM_sRow ?_ | refine BYM_uZ ?_)), (by repeat (first | exact hK | refine mK_uI ?_ (by omega) | refine mK_uI ?_ | refine mK_uL ?_ (by omega) | refine mK_uL ?_ | refine mK_uR ?_ (by omega) | refine mK_uR ?_ | refine mK_sRow ?_ (by omega) | refine mK_sRow ?_ | refine mK_uZ ?_))⟩
def fgM (pay : Nat → Py) (xs : List Nat) (i np : Nat) (M : Mem) : Prop := (∀ j, j < xs.length → payM M j (pay (xs.getD j 0))) ∧ ∀ j, i ≤ j → j < np → payM M j (pay j)
theorem lp_mforget {S1 : Sw} (hj : Jv t S) (h39 : sN S 39 ≤ 60) (e39 : sN S1 39 = sN S 39) (e11 : sN S1 11 = sN S 11) (e15 : sN S1 15 = sN S 15) (hQ : ∀ M', RX S1 M' → fgM (sP S) (stay S (sN S 39)) (sN S 39) (sN S 39) M' → loS M0 M' → o5 Mz M' → Go G (MT 277) Q X 106 [some (.ref 495), some (.int (nI (stay S (sN S 39)).length)), none] [] M' 0 0) : ∀ (m i : Nat), m + i = sN S 39 → ∀ Mi, RX S1 Mi → fgM (sP S) (stay S i) i (sN S 39) Mi → loS M0 Mi → o5 Mz Mi → Go G (MT 277) Q X 75 [some (.ref 495), some (.int (nI (stay S i).length)), some (.int (nI i))] [] Mi 0 0 := by
  intro m
  induction m with
  | zero =>
    intro i hi Mi r1 g1 i1 o1
    have hi : i = sN S 39 := by omega
    subst hi
    have hL := r1.1
    have hn := r1.2.1
    unfold mNn at hn
    have hn' : mI Mi 495 39 = nI (sN S 39) := by rw [← e39]; exact hn.2.2.2.2.2.2.2.2.2.2.1
    refine r_X12_cutoff (fun n => n == 75 || n == 106 || n == 5 || n == 29 || n == 88 || n == 97) 60 ?_
    simp only [cd_X12_cutoff, cf_X12_cutoff, wp, wq, wpI, cdF, w_CI, w_CL, w_CN, w_LI, w_LL, w_LA, w_SI, w_SL, w_SA, w_INC, w_II, w_IId, w_LLb, w_LLd, w_LS, w_I1, w_L1, w_I2L, w_L2I, w_CMP, w_DUP, w_POP, w_DUP2, w_IF, w_IC, w_GO, w_NUL, w_ACN, prs, w_GF, w_PF, w_GS, w_IAL, w_LEN, w_LAL, w_ZAL, w_AAL, w_IAS, w_LAS, w_ZAS, w_AAS, w_RI, w_RL, w_RA, w_NEW, w_NA, w_MNA, w_OI, w_THR, w_CV, w_CS, w_CN9, w_CI9, w_MX, w_cont, lget, sto1, sto2, wideV, vo, vo_rv, isR, isR_rv, rv, fget, fput, cats, Value.category, List.headD_cons, List.getD_cons_zero, List.getD_cons_succ, List.drop_succ_cons, List.drop_zero, List.take_succ_cons, List.take_zero, List.reverse_cons, List.reverse_nil, List.nil_append, List.cons_append, List.length_cons, List.length_nil, cond_true, cond_false, and_true, true_and, Nat.zero_add, Nat.add_zero, Nat.reduceAdd, Nat.reduceLT, Nat.reduceLeDiff, Nat.reduceEqDiff, Nat.reduceBEq, Nat.reduceSub, ↓reduceIte, Int32.reduceOfNat, Int64.reduceOfNat, reduceCtorEq, Nat.le_refl, Nat.zero_le, Bool.false_eq_true, beq_self_eq_true, Fin.isValue, Fin.val_zero, Fin.val_one, Fin.reduceFinMk, Fin.val_two, Nat.reduceMod, Bool.or_false, Bool.or_true, Bool.true_or, Bool.false_or, not_true_eq_false, not_false_eq_true, true_or, or_true, implies_true, false_implies, true_implies, Int32.reduceLT, Int32.reduceLE, ↓w_TAB3, ↓w_TAB4, ↓w_TAB5, ↓w_TAB7, ↓w_TAB10, ↓w_LK2, ↓w_LK6, false_and, and_false, i1z, i2z, iz1, im0, im1, l0z, hasK_uI, hasK_uL, hasK_uR, hasK_uZ, hasK_sRow, mR_uI, mR_uL, mR_uZ, mR_sRow, mI_uL, mI_uR, mI_uZ, mL_uI, mL_uR, mL_uZ, mL_sRow, LF.hk hL, layF, LF.r hL, refF, ne_eq, not_false_eq_true, Option.some.injEq, Sum.inl.injEq, Sum.inr.injEq, Prod.mk.injEq, exists_eq_left, exists_eq_left', hn']
    refine ⟨fun _ => Go.less (hQ Mi r1 g1 i1 o1) (fun k v h => ?_), fun q => absurd (nI_le (Nat.le_refl _) (by omega)) q⟩
    rcases k with _ | _ | _ | k <;> simp at h ⊢ <;> exact h
  | succ m ih =>
    intro i hi Mi r1 g1 i1 o1
    have hL := r1.1
    have hn := r1.2.1
    unfold mNn at hn
    have hn' : mI Mi 495 39 = nI (sN S 39) := by rw [← e39]; exact hn.2.2.2.2.2.2.2.2.2.2.1
    have h11' : mI Mi 495 11 = nI (sN S 11) := by rw [← e11]; exact hn.2.2.2.2.2.2.2.2.2.2.2.2.1
    have h15' : mI Mi 495 15 = nI (sN S 15) := by rw [← e15]; exact hn.2.2.2.2.2.2.2.2.1
    have ti := nI_toInt (n := i) (by omega)
    have tN := nI_toInt (n := sN S 39) (by omega)
    have hp := g1.2 i (Nat.le_refl i) (by omega)
    have ho := fun j (h : j < sN S 39) => hj.2.2.2.1 j h
    have hb : qI (sP S i) 47 ≤ 3 ∧ qI (sP S i) 52 ≤ 4 ∧ qI (sP S i) 51 ≤ 1005001 := by
      obtain ⟨b1, c2, c3, c4, c5, c6, c7, c8, c9⟩ := ho i (by omega)
      omega
    have h44 : ∀ j, j < sN S 39 → qI (sP S j) 44 ≤ 19 := fun j h => (ho j h).1.2.2.2.2.2.1
    have hsl : (stay S i).length ≤ i := stay_len
    have hss := stay_succ (S := S) (n := i)
    refine r_X12_cutoff (fun n => n == 75 || n == 106 || n == 5 || n == 29 || n == 88 || n == 97) 60 ?_
    simp only [cd_X12_cutoff, cf_X12_cutoff, wp, wq, wpI, cdF, w_CI, w_CL, w_CN, w_LI, w_LL, w_LA, w_SI, w_SL, w_SA, w_INC, w_II, w_IId, w_LLb, w_LLd, w_LS, w_I1, w_L1, w_I2L, w_L2I, w_CMP, w_DUP, w_POP, w_DUP2, w_IF, w_IC, w_GO, w_NUL, w_ACN, prs, w_GF, w_PF, w_GS, w_IAL, w_LEN, w_LAL, w_ZAL, w_AAL, w_IAS, w_LAS, w_ZAS, w_AAS, w_RI, w_RL, w_RA, w_NEW, w_NA, w_MNA, w_OI, w_THR, w_CV, w_CS, w_CN9, w_CI9, w_MX, w_cont, lget, sto1, sto2, wideV, vo, vo_rv, isR, isR_rv, rv, fget, fput, cats, Value.category, List.headD_cons, List.getD_cons_zero, List.getD_cons_succ, List.drop_succ_cons, List.drop_zero, List.take_succ_cons, List.take_zero, List.reverse_cons, List.reverse_nil, List.nil_append, List.cons_append, List.length_cons, List.length_nil, cond_true, cond_false, and_true, true_and, Nat.zero_add, Nat.add_zero, Nat.reduceAdd, Nat.reduceLT, Nat.reduceLeDiff, Nat.reduceEqDiff, Nat.reduceBEq, Nat.reduceSub, ↓reduceIte, Int32.reduceOfNat, Int64.reduceOfNat, reduceCtorEq, Nat.le_refl, Nat.zero_le, Bool.false_eq_true, beq_self_eq_true, Fin.isValue, Fin.val_zero, Fin.val_one, Fin.reduceFinMk, Fin.val_two, Nat.reduceMod, Bool.or_false, Bool.or_true, Bool.true_or, Bool.false_or, not_true_eq_false, not_false_eq_true, true_or, or_true, implies_true, false_implies, true_implies, Int32.reduceLT, Int32.reduceLE, ↓w_TAB3, ↓w_TAB4, ↓w_TAB5, ↓w_TAB7, ↓w_TAB10, ↓w_LK2, ↓w_LK6, false_and, and_false, i1z, i2z, iz1, im0, im1, l0z, hasK_uI, hasK_uL, hasK_uR, hasK_uZ, hasK_sRow, mR_uI, mR_uL, mR_uZ, mR_sRow, mI_uL, mI_uR, mI_uZ, mL_uI, mL_uR, mL_uZ, mL_sRow, LF.hk hL, layF, LF.r hL, refF, ne_eq, not_false_eq_true, Option.some.injEq, Sum.inl.injEq, Sum.inr.injEq, Prod.mk.injEq, exists_eq_left, exists_eq_left', hn']
    refine and_ii (fun q => ?_) (fun _ => ?_)
    · exfalso; (simp only [i_lt, i_le, i_eq, l_lt, l_le, l_eq, Int32.toInt_toInt64, Int32.reduceToInt, Int64.reduceToInt, ne_eq, Classical.not_not] at *; omega)
    refine m_isForg hL h11' h15' hj (by omega) hp hb rfl ⟨_, rfl, ?_⟩
    by_cases e : ovr S (sP S i) = true
    · rw [b2i_t e]
      rw [if_pos e, List.append_nil] at hss
      refine r_X12_cutoff (fun n => n == 75 || n == 106 || n == 5 || n == 29 || n == 88 || n == 97) 60 ?_
      simp only [cd_X12_cutoff, cf_X12_cutoff, wp, wq, wpI, cdF, w_CI, w_CL, w_CN, w_LI, w_LL, w_LA, w_SI, w_SL, w_SA, w_INC, w_II, w_IId, w_LLb, w_LLd, w_LS, w_I1, w_L1, w_I2L, w_L2I, w_CMP, w_DUP, w_POP, w_DUP2, w_IF, w_IC, w_GO, w_NUL, w_ACN, prs, w_GF, w_PF, w_GS, w_IAL, w_LEN, w_LAL, w_ZAL, w_AAL, w_IAS, w_LAS, w_ZAS, w_AAS, w_RI, w_RL, w_RA, w_NEW, w_NA, w_MNA, w_OI, w_THR, w_CV, w_CS, w_CN9, w_CI9, w_MX, w_cont, lget, sto1, sto2, wideV, vo, vo_rv, isR, isR_rv, rv, fget, fput, cats, Value.category, List.headD_cons, List.getD_cons_zero, List.getD_cons_succ, List.drop_succ_cons, List.drop_zero, List.take_succ_cons, List.take_zero, List.reverse_cons, List.reverse_nil, List.nil_append, List.cons_append, List.length_cons, List.length_nil, cond_true, cond_false, and_true, true_and, Nat.zero_add, Nat.add_zero, Nat.reduceAdd, Nat.reduceLT, Nat.reduceLeDiff, Nat.reduceEqDiff, Nat.reduceBEq, Nat.reduceSub, ↓reduceIte, Int32.reduceOfNat, Int64.reduceOfNat, reduceCtorEq, Nat.le_refl, Nat.zero_le, Bool.false_eq_true, beq_self_eq_true, Fin.isValue, Fin.val_zero, Fin.val_one, Fin.reduceFinMk, Fin.val_two, Nat.reduceMod, Bool.or_false, Bool.or_true, Bool.true_or, Bool.false_or, not_true_eq_false, not_false_eq_true, true_or, or_true, implies_true, false_implies, true_implies, Int32.reduceLT, Int32.reduceLE, ↓w_TAB3, ↓w_TAB4, ↓w_TAB5, ↓w_TAB7, ↓w_TAB10, ↓w_LK2, ↓w_LK6, false_and, and_false, i1z, i2z, iz1, im0, im1, l0z, i1z, nI_1]
      have := ih (i + 1) (by omega) Mi r1 (by rw [hss]; exact ⟨g1.1, fun j h1 h2 => g1.2 j (by omega) h2⟩) i1 o1
      rw [hss] at this
      exact this
    · rw [b2i_f e]
      rw [if_neg e] at hss
      refine r_X12_cutoff (fun n => n == 75 || n == 106 || n == 5 || n == 29 || n == 88 || n == 97) 60 ?_
      simp only [cd_X12_cutoff, cf_X12_cutoff, wp, wq, wpI, cdF, w_CI, w_CL, w_CN, w_LI, w_LL, w_LA, w_SI, w_SL, w_SA, w_INC, w_II, w_IId, w_LLb, w_LLd, w_LS, w_I1, w_L1, w_I2L, w_L2I, w_CMP, w_DUP, w_POP, w_DUP2, w_IF, w_IC, w_GO, w_NUL, w_ACN, prs, w_GF, w_PF, w_GS, w_IAL, w_LEN, w_LAL, w_ZAL, w_AAL, w_IAS, w_LAS, w_ZAS, w_AAS, w_RI, w_RL, w_RA, w_NEW, w_NA, w_MNA, w_OI, w_THR, w_CV, w_CS, w_CN9, w_CI9, w_MX, w_cont, lget, sto1, sto2, wideV, vo, vo_rv, isR, isR_rv, rv, fget, fput, cats, Value.category, List.headD_cons, List.getD_cons_zero, List.getD_cons_succ, List.drop_succ_cons, List.drop_zero, List.take_succ_cons, List.take_zero, List.reverse_cons, List.reverse_nil, List.nil_append, List.cons_append, List.length_cons, List.length_nil, cond_true, cond_false, and_true, true_and, Nat.zero_add, Nat.add_zero, Nat.reduceAdd, Nat.reduceLT, Nat.reduceLeDiff, Nat.reduceEqDiff, Nat.reduceBEq, Nat.reduceSub, ↓reduceIte, Int32.reduceOfNat, Int64.reduceOfNat, reduceCtorEq, Nat.le_refl, Nat.zero_le, Bool.false_eq_true, beq_self_eq_true, Fin.isValue, Fin.val_zero, Fin.val_one, Fin.reduceFinMk, Fin.val_two, Nat.reduceMod, Bool.or_false, Bool.or_true, Bool.true_or, Bool.false_or, not_true_eq_false, not_false_eq_true, true_or, or_true, implies_true, false_implies, true_implies, Int32.reduceLT, Int32.reduceLE, ↓w_TAB3, ↓w_TAB4, ↓w_TAB5, ↓w_TAB7, ↓w_TAB10, ↓w_LK2, ↓w_LK6, false_and, and_false, i1z, i2z, iz1, im0, im1, l0z, hasK_uI, hasK_uL, hasK_uR, hasK_uZ, hasK_sRow, mR_uI, mR_uL, mR_uZ, mR_sRow, mI_uL, mI_uR, mI_uZ, mL_uI, mL_uR, mL_uZ, mL_sRow, LF.hk hL, layF, LF.r hL, refF, ne_eq, not_false_eq_true, Option.some.injEq, Sum.inl.injEq, Sum.inr.injEq, Prod.mk.injEq, exists_eq_left, exists_eq_left', eq_self]
      refine m_copy hL (by omega) hsl rfl rfl ⟨rfl, ?_⟩
      have hlen : (stay S (i + 1)).length = (stay S i).length + 1 := by rw [hss]; simp
      have g4 : fgM (sP S) (stay S (i + 1)) (i + 1) (sN S 39) (cpM Mi i (stay S i).length) := by
        rw [hss]
        have hm := fun j (h : j < (stay S i).length) => (stay_mem (S := S) (n := i) h).1
        generalize stay S i = xs at *
        refine ⟨fun j hj2 => ?_, fun j h1 h2 => payM_cpo (g1.2 j (by omega) h2) (by omega) (h44 j h2)⟩
        have hj2 : j < xs.length + 1 := by simpa using hj2
        by_cases e1 : j = xs.length
        · rw [gD_r (by omega), e1, Nat.sub_self]
          exact payM_cp hp (h44 i (by omega))
        · rw [gD_l (by omega)]
          have := hm j (by omega)
          exact payM_cpo (g1.1 j (by omega)) e1 (h44 _ (by omega))
      have := ih (i + 1) (by omega) _ (RX_cp r1) g4 (loS_cp i1) (fun j => (o5_cp j).trans (o1 j))
      rw [hlen] at this
      refine r_X12_cutoff (fun n => n == 75 || n == 106 || n == 5 || n == 29 || n == 88 || n == 97) 60 ?_
      simp only [cd_X12_cutoff, cf_X12_cutoff, wp, wq, wpI, cdF, w_CI, w_CL, w_CN, w_LI, w_LL, w_LA, w_SI, w_SL, w_SA, w_INC, w_II, w_IId, w_LLb, w_LLd, w_LS, w_I1, w_L1, w_I2L, w_L2I, w_CMP, w_DUP, w_POP, w_DUP2, w_IF, w_IC, w_GO, w_NUL, w_ACN, prs, w_GF, w_PF, w_GS, w_IAL, w_LEN, w_LAL, w_ZAL, w_AAL, w_IAS, w_LAS, w_ZAS, w_AAS, w_RI, w_RL, w_RA, w_NEW, w_NA, w_MNA, w_OI, w_THR, w_CV, w_CS, w_CN9, w_CI9, w_MX, w_cont, lget, sto1, sto2, wideV, vo, vo_rv, isR, isR_rv, rv, fget, fput, cats, Value.category, List.headD_cons, List.getD_cons_zero, List.getD_cons_succ, List.drop_succ_cons, List.drop_zero, List.take_succ_cons, List.take_zero, List.reverse_cons, List.reverse_nil, List.nil_append, List.cons_append, List.length_cons, List.length_nil, cond_true, cond_false, and_true, true_and, Nat.zero_add, Nat.add_zero, Nat.reduceAdd, Nat.reduceLT, Nat.reduceLeDiff, Nat.reduceEqDiff, Nat.reduceBEq, Nat.reduceSub, ↓reduceIte, Int32.reduceOfNat, Int64.reduceOfNat, reduceCtorEq, Nat.le_refl, Nat.zero_le, Bool.false_eq_true, beq_self_eq_true, Fin.isValue, Fin.val_zero, Fin.val_one, Fin.reduceFinMk, Fin.val_two, Nat.reduceMod, Bool.or_false, Bool.or_true, Bool.true_or, Bool.false_or, not_true_eq_false, not_false_eq_true, true_or, or_true, implies_true, false_implies, true_implies, Int32.reduceLT, Int32.reduceLE, ↓w_TAB3, ↓w_TAB4, ↓w_TAB5, ↓w_TAB7, ↓w_TAB10, ↓w_LK2, ↓w_LK6, false_and, and_false, i1z, i2z, iz1, im0, im1, l0z, nI_1]
      exact this
theorem stk_13 : stk L 0 13 = stl L := by
  funext b i
  unfold stk stl
  simp
theorem m_cutoff (hR : RM S M) (hj : Jv t S) : Ct G (MT 277) [.ref 495] M (QmI1 M (o_cutoff S)) X := by
  obtain ⟨hL, hN, hI, hLl, hA, hC, hP, hRr, hD, hT, hZ, hK⟩ := id hR
  have hs := hj.1
  have hn := hN
  unfold mNn at hn
  unfold jS at hs
  have h39 : sN S 39 ≤ 60 := by omega
  refine Ct.go (L0 := [some (.ref 495), none, none]) (by decide +kernel) rfl rfl ?_
  refine r_X12_cutoff (fun n => n == 5 || n == 29 || n == 88 || n == 97) 60 ?_
  simp only [cd_X12_cutoff, cf_X12_cutoff, wp, wq, wpI, cdF, w_CI, w_CL, w_CN, w_LI, w_LL, w_LA, w_SI, w_SL, w_SA, w_INC, w_II, w_IId, w_LLb, w_LLd, w_LS, w_I1, w_L1, w_I2L, w_L2I, w_CMP, w_DUP, w_POP, w_DUP2, w_IF, w_IC, w_GO, w_NUL, w_ACN, prs, w_GF, w_PF, w_GS, w_IAL, w_LEN, w_LAL, w_ZAL, w_AAL, w_IAS, w_LAS, w_ZAS, w_AAS, w_RI, w_RL, w_RA, w_NEW, w_NA, w_MNA, w_OI, w_THR, w_CV, w_CS, w_CN9, w_CI9, w_MX, w_cont, lget, sto1, sto2, wideV, vo, vo_rv, isR, isR_rv, rv, fget, fput, cats, Value.category, List.headD_cons, List.getD_cons_zero, List.getD_cons_succ, List.drop_succ_cons, List.drop_zero, List.take_succ_cons, List.take_zero, List.reverse_cons, List.reverse_nil, List.nil_append, List.cons_append, List.length_cons, List.length_nil, cond_true, cond_false, and_true, true_and, Nat.zero_add, Nat.add_zero, Nat.reduceAdd, Nat.reduceLT, Nat.reduceLeDiff, Nat.reduceEqDiff, Nat.reduceBEq, Nat.reduceSub, ↓reduceIte, Int32.reduceOfNat, Int64.reduceOfNat, reduceCtorEq, Nat.le_refl, Nat.zero_le, Bool.false_eq_true, beq_self_eq_true, Fin.isValue, Fin.val_zero, Fin.val_one, Fin.reduceFinMk, Fin.val_two, Nat.reduceMod, Bool.or_false, Bool.or_true, Bool.true_or, Bool.false_or, not_true_eq_false, not_false_eq_true, true_or, or_true, implies_true, false_implies, true_implies, Int32.reduceLT, Int32.reduceLE, ↓w_TAB3, ↓w_TAB4, ↓w_TAB5, ↓w_TAB7, ↓w_TAB10, ↓w_LK2, ↓w_LK6, false_and, and_false, i1z, i2z, iz1, im0, im1, l0z, hasK_uI, hasK_uL, hasK_uR, hasK_uZ, hasK_sRow, mR_uI, mR_uL, mR_uZ, mR_sRow, mI_uL, mI_uR, mI_uZ, mL_uI, mL_uR, mL_uZ, mL_sRow, LF.hk hL, layF, LF.r hL, refF, ne_eq, not_false_eq_true, Option.some.injEq, Sum.inl.injEq, Sum.inr.injEq, Prod.mk.injEq, exists_eq_left, exists_eq_left']
  refine m_isOpen hL hN (smN_of hj) ⟨_, rfl, ?_⟩
  by_cases h2 : sN S 4 = 1 ∧ sN S 6 = 0
  rotate_left
  · rw [b2i_f h2]
    refine r_X12_cutoff (fun n => n == 25 || n == 5 || n == 29 || n == 88 || n == 97) 60 ?_
    simp only [cd_X12_cutoff, cf_X12_cutoff, wp, wq, wpI, cdF, w_CI, w_CL, w_CN, w_LI, w_LL, w_LA, w_SI, w_SL, w_SA, w_INC, w_II, w_IId, w_LLb, w_LLd, w_LS, w_I1, w_L1, w_I2L, w_L2I, w_CMP, w_DUP, w_POP, w_DUP2, w_IF, w_IC, w_GO, w_NUL, w_ACN, prs, w_GF, w_PF, w_GS, w_IAL, w_LEN, w_LAL, w_ZAL, w_AAL, w_IAS, w_LAS, w_ZAS, w_AAS, w_RI, w_RL, w_RA, w_NEW, w_NA, w_MNA, w_OI, w_THR, w_CV, w_CS, w_CN9, w_CI9, w_MX, w_cont, lget, sto1, sto2, wideV, vo, vo_rv, isR, isR_rv, rv, fget, fput, cats, Value.category, List.headD_cons, List.getD_cons_zero, List.getD_cons_succ, List.drop_succ_cons, List.drop_zero, List.take_succ_cons, List.take_zero, List.reverse_cons, List.reverse_nil, List.nil_append, List.cons_append, List.length_cons, List.length_nil, cond_true, cond_false, and_true, true_and, Nat.zero_add, Nat.add_zero, Nat.reduceAdd, Nat.reduceLT, Nat.reduceLeDiff, Nat.reduceEqDiff, Nat.reduceBEq, Nat.reduceSub, ↓reduceIte, Int32.reduceOfNat, Int64.reduceOfNat, reduceCtorEq, Nat.le_refl, Nat.zero_le, Bool.false_eq_true, beq_self_eq_true, Fin.isValue, Fin.val_zero, Fin.val_one, Fin.reduceFinMk, Fin.val_two, Nat.reduceMod, Bool.or_false, Bool.or_true, Bool.true_or, Bool.false_or, not_true_eq_false, not_false_eq_true, true_or, or_true, implies_true, false_implies, true_implies, Int32.reduceLT, Int32.reduceLE, ↓w_TAB3, ↓w_TAB4, ↓w_TAB5, ↓w_TAB7, ↓w_TAB10, ↓w_LK2, ↓w_LK6, false_and, and_false, i1z, i2z, iz1, im0, im1, l0z, hasK_uI, hasK_uL, hasK_uR, hasK_uZ, hasK_sRow, mR_uI, mR_uL, mR_uZ, mR_sRow, mI_uL, mI_uR, mI_uZ, mL_uI, mL_uR, mL_uZ, mL_sRow, LF.hk hL, layF, LF.r hL, refF, ne_eq, not_false_eq_true, Option.some.injEq, Sum.inl.injEq, Sum.inr.injEq, Prod.mk.injEq, exists_eq_left, exists_eq_left', mI_uI, eq_self]
    exact Qm1_2 hR (gat_2 trivial h2)
  unfold o_cutoff
  rw [gat_0 trivial h2, b2i_t h2]
  refine r_X12_cutoff (fun n => n == 5 || n == 29 || n == 88 || n == 97) 60 ?_
  simp only [cd_X12_cutoff, cf_X12_cutoff, wp, wq, wpI, cdF, w_CI, w_CL, w_CN, w_LI, w_LL, w_LA, w_SI, w_SL, w_SA, w_INC, w_II, w_IId, w_LLb, w_LLd, w_LS, w_I1, w_L1, w_I2L, w_L2I, w_CMP, w_DUP, w_POP, w_DUP2, w_IF, w_IC, w_GO, w_NUL, w_ACN, prs, w_GF, w_PF, w_GS, w_IAL, w_LEN, w_LAL, w_ZAL, w_AAL, w_IAS, w_LAS, w_ZAS, w_AAS, w_RI, w_RL, w_RA, w_NEW, w_NA, w_MNA, w_OI, w_THR, w_CV, w_CS, w_CN9, w_CI9, w_MX, w_cont, lget, sto1, sto2, wideV, vo, vo_rv, isR, isR_rv, rv, fget, fput, cats, Value.category, List.headD_cons, List.getD_cons_zero, List.getD_cons_succ, List.drop_succ_cons, List.drop_zero, List.take_succ_cons, List.take_zero, List.reverse_cons, List.reverse_nil, List.nil_append, List.cons_append, List.length_cons, List.length_nil, cond_true, cond_false, and_true, true_and, Nat.zero_add, Nat.add_zero, Nat.reduceAdd, Nat.reduceLT, Nat.reduceLeDiff, Nat.reduceEqDiff, Nat.reduceBEq, Nat.reduceSub, ↓reduceIte, Int32.reduceOfNat, Int64.reduceOfNat, reduceCtorEq, Nat.le_refl, Nat.zero_le, Bool.false_eq_true, beq_self_eq_true, Fin.isValue, Fin.val_zero, Fin.val_one, Fin.reduceFinMk, Fin.val_two, Nat.reduceMod, Bool.or_false, Bool.or_true, Bool.true_or, Bool.false_or, not_true_eq_false, not_false_eq_true, true_or, or_true, implies_true, false_implies, true_implies, Int32.reduceLT, Int32.reduceLE, ↓w_TAB3, ↓w_TAB4, ↓w_TAB5, ↓w_TAB7, ↓w_TAB10, ↓w_LK2, ↓w_LK6, false_and, and_false, i1z, i2z, iz1, im0, im1, l0z, hasK_uI, hasK_uL, hasK_uR, hasK_uZ, hasK_sRow, mR_uI, mR_uL, mR_uZ, mR_sRow, mI_uL, mI_uR, mI_uZ, mL_uI, mL_uR, mL_uZ, mL_sRow, LF.hk hL, layF, LF.r hL, refF, ne_eq, not_false_eq_true, Option.some.injEq, Sum.inl.injEq, Sum.inr.injEq, Prod.mk.injEq, exists_eq_left, exists_eq_left', mI_uI, i1z]
  have r0 := RM_code (v := 0) hR
  have i0 : loS M (uI M 495 3 0) := loS_uI (loS_rfl M) (by omega)
  have z0 : mI (uI M 495 3 0) 495 3 = 0 := by rw [mI_uI, if_pos ⟨rfl, rfl⟩]
  clear hL hN hI hLl hA hC hP hRr hD hT hZ hK hn
  generalize uI M 495 3 0 = Mz at r0 i0 z0 ⊢
  have l0 := r0.1
  refine m_writes (n := sN S) l0 r0.2.1 (smN_of hj) (by omega) h2.2 (fun h8 => ⟨_, rfl, ?_⟩) (fun h8 M1 n1 e1 z1 => ⟨_, rfl, ?_⟩)
  · refine r_X12_cutoff (fun n => n == 37 || n == 5 || n == 29 || n == 88 || n == 97) 60 ?_
    simp only [cd_X12_cutoff, cf_X12_cutoff, wp, wq, wpI, cdF, w_CI, w_CL, w_CN, w_LI, w_LL, w_LA, w_SI, w_SL, w_SA, w_INC, w_II, w_IId, w_LLb, w_LLd, w_LS, w_I1, w_L1, w_I2L, w_L2I, w_CMP, w_DUP, w_POP, w_DUP2, w_IF, w_IC, w_GO, w_NUL, w_ACN, prs, w_GF, w_PF, w_GS, w_IAL, w_LEN, w_LAL, w_ZAL, w_AAL, w_IAS, w_LAS, w_ZAS, w_AAS, w_RI, w_RL, w_RA, w_NEW, w_NA, w_MNA, w_OI, w_THR, w_CV, w_CS, w_CN9, w_CI9, w_MX, w_cont, lget, sto1, sto2, wideV, vo, vo_rv, isR, isR_rv, rv, fget, fput, cats, Value.category, List.headD_cons, List.getD_cons_zero, List.getD_cons_succ, List.drop_succ_cons, List.drop_zero, List.take_succ_cons, List.take_zero, List.reverse_cons, List.reverse_nil, List.nil_append, List.cons_append, List.length_cons, List.length_nil, cond_true, cond_false, and_true, true_and, Nat.zero_add, Nat.add_zero, Nat.reduceAdd, Nat.reduceLT, Nat.reduceLeDiff, Nat.reduceEqDiff, Nat.reduceBEq, Nat.reduceSub, ↓reduceIte, Int32.reduceOfNat, Int64.reduceOfNat, reduceCtorEq, Nat.le_refl, Nat.zero_le, Bool.false_eq_true, beq_self_eq_true, Fin.isValue, Fin.val_zero, Fin.val_one, Fin.reduceFinMk, Fin.val_two, Nat.reduceMod, Bool.or_false, Bool.or_true, Bool.true_or, Bool.false_or, not_true_eq_false, not_false_eq_true, true_or, or_true, implies_true, false_implies, true_implies, Int32.reduceLT, Int32.reduceLE, ↓w_TAB3, ↓w_TAB4, ↓w_TAB5, ↓w_TAB7, ↓w_TAB10, ↓w_LK2, ↓w_LK6, false_and, and_false, i1z, i2z, iz1, im0, im1, l0z, eq_self]
    rw [if_pos h8]
    exact ⟨rfl, by rw [z0]; rfl, r0, i0⟩
  rw [if_neg h8]
  have r1 := RM_n r0 n1 e1 (wr1_ne (by omega)) (wr1_ne (by omega)) (wr1_ne (by omega))
  have i1 := loS_rN i0 e1
  have z1' : mI M1 495 3 = 0 := z1.trans z0
  have e6 : mI M1 495 6 = nI (wr1 (sN S) 6) := by
    unfold mNn at n1
    exact n1.2.2.2.2.2.2.2.2.2.2.2.2.2.2.2.2.2.2.1
  have w39 : wr1 (sN S) 39 = sN S 39 := wr1_ne (by omega)
  have hl := stay_len (S := S) (n := sN S 39)
  refine r_X12_cutoff (fun n => n == 37 || n == 5 || n == 29 || n == 88 || n == 97) 60 ?_
  simp only [cd_X12_cutoff, cf_X12_cutoff, wp, wq, wpI, cdF, w_CI, w_CL, w_CN, w_LI, w_LL, w_LA, w_SI, w_SL, w_SA, w_INC, w_II, w_IId, w_LLb, w_LLd, w_LS, w_I1, w_L1, w_I2L, w_L2I, w_CMP, w_DUP, w_POP, w_DUP2, w_IF, w_IC, w_GO, w_NUL, w_ACN, prs, w_GF, w_PF, w_GS, w_IAL, w_LEN, w_LAL, w_ZAL, w_AAL, w_IAS, w_LAS, w_ZAS, w_AAS, w_RI, w_RL, w_RA, w_NEW, w_NA, w_MNA, w_OI, w_THR, w_CV, w_CS, w_CN9, w_CI9, w_MX, w_cont, lget, sto1, sto2, wideV, vo, vo_rv, isR, isR_rv, rv, fget, fput, cats, Value.category, List.headD_cons, List.getD_cons_zero, List.getD_cons_succ, List.drop_succ_cons, List.drop_zero, List.take_succ_cons, List.take_zero, List.reverse_cons, List.reverse_nil, List.nil_append, List.cons_append, List.length_cons, List.length_nil, cond_true, cond_false, and_true, true_and, Nat.zero_add, Nat.add_zero, Nat.reduceAdd, Nat.reduceLT, Nat.reduceLeDiff, Nat.reduceEqDiff, Nat.reduceBEq, Nat.reduceSub, ↓reduceIte, Int32.reduceOfNat, Int64.reduceOfNat, reduceCtorEq, Nat.le_refl, Nat.zero_le, Bool.false_eq_true, beq_self_eq_true, Fin.isValue, Fin.val_zero, Fin.val_one, Fin.reduceFinMk, Fin.val_two, Nat.reduceMod, Bool.or_false, Bool.or_true, Bool.true_or, Bool.false_or, not_true_eq_false, not_false_eq_true, true_or, or_true, implies_true, false_implies, true_implies, Int32.reduceLT, Int32.reduceLE, ↓w_TAB3, ↓w_TAB4, ↓w_TAB5, ↓w_TAB7, ↓w_TAB10, ↓w_LK2, ↓w_LK6, false_and, and_false, i1z, i2z, iz1, im0, im1, l0z, i1z]
  refine lp_msettle (S := wN S (wr1 (sN S))) (M0 := M) (Mz := M1) ?_ 13 0 (by omega) M1 (by rw [stk_0]; exact r1) i1 o5_0
  intro M2 r2 i2 g2
  rw [stk_13] at r2
  have hp2 : mP (wr1 (sN S) 39) (sP S) M2 := r2.2.2.2.2.2.2.1
  rw [w39] at hp2
  refine r_X12_cutoff (fun n => n == 75 || n == 5 || n == 29 || n == 88 || n == 97) 60 ?_
  simp only [cd_X12_cutoff, cf_X12_cutoff, wp, wq, wpI, cdF, w_CI, w_CL, w_CN, w_LI, w_LL, w_LA, w_SI, w_SL, w_SA, w_INC, w_II, w_IId, w_LLb, w_LLd, w_LS, w_I1, w_L1, w_I2L, w_L2I, w_CMP, w_DUP, w_POP, w_DUP2, w_IF, w_IC, w_GO, w_NUL, w_ACN, prs, w_GF, w_PF, w_GS, w_IAL, w_LEN, w_LAL, w_ZAL, w_AAL, w_IAS, w_LAS, w_ZAS, w_AAS, w_RI, w_RL, w_RA, w_NEW, w_NA, w_MNA, w_OI, w_THR, w_CV, w_CS, w_CN9, w_CI9, w_MX, w_cont, lget, sto1, sto2, wideV, vo, vo_rv, isR, isR_rv, rv, fget, fput, cats, Value.category, List.headD_cons, List.getD_cons_zero, List.getD_cons_succ, List.drop_succ_cons, List.drop_zero, List.take_succ_cons, List.take_zero, List.reverse_cons, List.reverse_nil, List.nil_append, List.cons_append, List.length_cons, List.length_nil, cond_true, cond_false, and_true, true_and, Nat.zero_add, Nat.add_zero, Nat.reduceAdd, Nat.reduceLT, Nat.reduceLeDiff, Nat.reduceEqDiff, Nat.reduceBEq, Nat.reduceSub, ↓reduceIte, Int32.reduceOfNat, Int64.reduceOfNat, reduceCtorEq, Nat.le_refl, Nat.zero_le, Bool.false_eq_true, beq_self_eq_true, Fin.isValue, Fin.val_zero, Fin.val_one, Fin.reduceFinMk, Fin.val_two, Nat.reduceMod, Bool.or_false, Bool.or_true, Bool.true_or, Bool.false_or, not_true_eq_false, not_false_eq_true, true_or, or_true, implies_true, false_implies, true_implies, Int32.reduceLT, Int32.reduceLE, ↓w_TAB3, ↓w_TAB4, ↓w_TAB5, ↓w_TAB7, ↓w_TAB10, ↓w_LK2, ↓w_LK6, false_and, and_false, i1z, i2z, iz1, im0, im1, l0z]
  refine lp_mforget (S := S) (S1 := wL (wN S (wr1 (sN S))) (stl (sL S))) (M0 := M) (Mz := M1) hj h39 w39 (wr1_ne (by omega)) (wr1_ne (by omega)) ?_ (sN S 39) 0 (by omega) M2 (RX_of r2) ⟨fun j h => by simp [stay] at h, fun j _ h => hp2 j h⟩ i2 g2
  intro M3 r3 g3 i3 o3
  have l3 := r3.1
  have n3 := r3.2.1
  have n3' := n3
  unfold mNn at n3'
  have hn3 : mI M3 495 39 = nI (sN S 39) := by rw [← w39]; exact n3'.2.2.2.2.2.2.2.2.2.2.1
  have e63 : mI M3 495 6 = nI (wr1 (sN S) 6) := by rw [o3]; exact e6
  have z3 : mI M3 495 3 = 0 := by rw [o3]; exact z1'
  have es : nI (sN S 39) - nI (stay S (sN S 39)).length = nI (sN S 39 - (stay S (sN S 39)).length) := nI_sub hl (by omega)
  generalize hK : (stay S (sN S 39)).length = K at *
  have wK : up1 (wr1 (sN S)) 39 K = wr1 (up1 (sN S) 39 K) := by
    unfold wr1 spd
    by_cases e7 : sN S 7 = 0
    · rw [if_pos (show up1 (sN S) 9 (sN S 9 + 1) 7 = 0 from e7), if_pos (show up1 (up1 (sN S) 39 K) 9 (up1 (sN S) 39 K 9 + 1) 7 = 0 from e7)]
      funext j
      simp only [up1]
      by_cases q : j = 39
      · subst q; simp
      · simp [q]
    · rw [if_neg (show ¬ up1 (sN S) 9 (sN S 9 + 1) 7 = 0 from e7), if_neg (show ¬ up1 (up1 (sN S) 39 K) 9 (up1 (sN S) 39 K 9 + 1) 7 = 0 from e7)]
      funext j
      simp only [up1]
      by_cases q : j = 39
      · subst q; simp
      · simp [q]
  have e66 : wr1 (up1 (sN S) 39 K) 6 = wr1 (sN S) 6 := by rw [← wK]; rfl
  have rf : RM (wP (wL (wN S (wr1 (up1 (sN S) 39 K))) (stl (sL S))) (fun i => sP S ((stay S (sN S 39)).getD i 0))) (uI M3 495 39 (nI K)) := by
    obtain ⟨hL, hN, hI, hLl, hA, hC, hRr, hD, hT, hZ, hKk⟩ := r3
    have hN' : mNn (wr1 (up1 (sN S) 39 K)) (uI M3 495 39 (nI K)) := by rw [← wK]; exact mNn_39y hN rfl
    have w34 : wr1 (up1 (sN S) 39 K) 34 = wr1 (sN S) 34 := by rw [← wK]; rfl
    have w55 : wr1 (up1 (sN S) 39 K) 55 = wr1 (sN S) 55 := by rw [← wK]; rfl
    have wk9 : wr1 (up1 (sN S) 39 K) 39 = K := by rw [← wK]; rfl
    refine ⟨hL, hN', (by repeat (first | exact hI | refine mIi_uI ?_ (by omega) | refine mIi_uI ?_ | refine mIi_uL ?_ (by omega) | refine mIi_uL ?_ | refine mIi_uR ?_ (by omega) | refine mIi_uR ?_ | refine mIi_sRow ?_ (by omega) | refine mIi_sRow ?_ | refine mIi_uZ ?_)), hLl, (by repeat (first | exact hA | refine mA_uI ?_ (by omega) | refine mA_uI ?_ | refine mA_uL ?_ (by omega) | refine mA_uL ?_ | refine mA_uR ?_ (by omega) | refine mA_uR ?_ | refine mA_sRow ?_ (by omega) | refine mA_sRow ?_ | refine mA_uZ ?_)), ?_, ?_, ?_, (by repeat (first | exact hD | refine msgM_uI ?_ (by omega) | refine msgM_uI ?_ | refine msgM_uL ?_ (by omega) | refine msgM_uL ?_ | refine msgM_uR ?_ (by omega) | refine msgM_uR ?_ | refine msgM_sRow ?_ (by omega) | refine msgM_sRow ?_ | refine msgM_uZ ?_)), (by repeat (first | exact hT | refine BYM_uI ?_ (by omega) | refine BYM_uI ?_ | refine BYM_uL ?_ (by omega) | refine BYM_uL ?_ | refine BYM_uR ?_ (by omega) | refine BYM_uR ?_ | refine BYM_sRow ?_ (by omega) | refine BYM_sRow ?_ | refine BYM_uZ ?_)), (by repeat (first | exact hZ | refine BYM_uI ?_ (by omega) | refine BYM_uI ?_ | refine BYM_uL ?_ (by omega) | refine BYM_uL ?_ | refine BYM_uR ?_ (by omega) | refine BYM_uR ?_ | refine BYM_sRow ?_ (by omega) | refine BYM_sRow ?_ | refine BYM_uZ ?_)), (by repeat (first | exact hKk | refine mK_uI ?_ (by omega) | refine mK_uI ?_ | refine mK_uL ?_ (by omega) | refine mK_uL ?_ | refine mK_uR ?_ (by omega) | refine mK_uR ?_ | refine mK_sRow ?_ (by omega) | refine mK_sRow ?_ | refine mK_uZ ?_))⟩
    · show mC (wr1 (up1 (sN S) 39 K) 34) (sC S) _
      rw [w34]; exact (by repeat (first | exact hC | refine mC_uI ?_ (by omega) | refine mC_uI ?_ | refine mC_uL ?_ (by omega) | refine mC_uL ?_ | refine mC_uR ?_ (by omega) | refine mC_uR ?_ | refine mC_sRow ?_ (by omega) | refine mC_sRow ?_ | refine mC_uZ ?_))
    · show mP (wr1 (up1 (sN S) 39 K) 39) (fun i => sP S ((stay S (sN S 39)).getD i 0)) _
      rw [wk9]
      have g31 : mP K (fun i => sP S ((stay S (sN S 39)).getD i 0)) M3 := fun j hj2 => g3.1 j (by rw [hK]; exact hj2)
      exact (by repeat (first | exact g31 | refine mP_uI ?_ (by omega) | refine mP_uI ?_ | refine mP_uL ?_ (by omega) | refine mP_uL ?_ | refine mP_uR ?_ (by omega) | refine mP_uR ?_ | refine mP_sRow ?_ (by omega) | refine mP_sRow ?_ | refine mP_uZ ?_))
    · show mRr (wr1 (up1 (sN S) 39 K) 55) (sR S) _
      rw [w55]; exact (by repeat (first | exact hRr | refine mRr_uI ?_ (by omega) | refine mRr_uI ?_ | refine mRr_uL ?_ (by omega) | refine mRr_uL ?_ | refine mRr_uR ?_ (by omega) | refine mRr_uR ?_ | refine mRr_sRow ?_ (by omega) | refine mRr_sRow ?_ | refine mRr_uZ ?_))
  have zf : mI (uI M3 495 39 (nI K)) 495 3 = 0 := by rw [mI_ne (by omega)]; exact z3
  have lf : loS M (uI M3 495 39 (nI K)) := loS_uI i3 (by omega)
  have ev : ((sN S 39 : Int) - K) = ((sN S 39 - K : Nat) : Int) := by omega
  rw [ev]
  refine r_X12_cutoff (fun n => n == 5 || n == 29 || n == 88 || n == 97) 60 ?_
  simp only [cd_X12_cutoff, cf_X12_cutoff, wp, wq, wpI, cdF, w_CI, w_CL, w_CN, w_LI, w_LL, w_LA, w_SI, w_SL, w_SA, w_INC, w_II, w_IId, w_LLb, w_LLd, w_LS, w_I1, w_L1, w_I2L, w_L2I, w_CMP, w_DUP, w_POP, w_DUP2, w_IF, w_IC, w_GO, w_NUL, w_ACN, prs, w_GF, w_PF, w_GS, w_IAL, w_LEN, w_LAL, w_ZAL, w_AAL, w_IAS, w_LAS, w_ZAS, w_AAS, w_RI, w_RL, w_RA, w_NEW, w_NA, w_MNA, w_OI, w_THR, w_CV, w_CS, w_CN9, w_CI9, w_MX, w_cont, lget, sto1, sto2, wideV, vo, vo_rv, isR, isR_rv, rv, fget, fput, cats, Value.category, List.headD_cons, List.getD_cons_zero, List.getD_cons_succ, List.drop_succ_cons, List.drop_zero, List.take_succ_cons, List.take_zero, List.reverse_cons, List.reverse_nil, List.nil_append, List.cons_append, List.length_cons, List.length_nil, cond_true, cond_false, and_true, true_and, Nat.zero_add, Nat.add_zero, Nat.reduceAdd, Nat.reduceLT, Nat.reduceLeDiff, Nat.reduceEqDiff, Nat.reduceBEq, Nat.reduceSub, ↓reduceIte, Int32.reduceOfNat, Int64.reduceOfNat, reduceCtorEq, Nat.le_refl, Nat.zero_le, Bool.false_eq_true, beq_self_eq_true, Fin.isValue, Fin.val_zero, Fin.val_one, Fin.reduceFinMk, Fin.val_two, Nat.reduceMod, Bool.or_false, Bool.or_true, Bool.true_or, Bool.false_or, not_true_eq_false, not_false_eq_true, true_or, or_true, implies_true, false_implies, true_implies, Int32.reduceLT, Int32.reduceLE, ↓w_TAB3, ↓w_TAB4, ↓w_TAB5, ↓w_TAB7, ↓w_TAB10, ↓w_LK2, ↓w_LK6, false_and, and_false, i1z, i2z, iz1, im0, im1, l0z, hasK_uI, hasK_uL, hasK_uR, hasK_uZ, hasK_sRow, mR_uI, mR_uL, mR_uZ, mR_sRow, mI_uL, mI_uR, mI_uZ, mL_uI, mL_uR, mL_uZ, mL_sRow, LF.hg l3, layF, LF.r l3, refF, ne_eq, not_false_eq_true, Option.some.injEq, Sum.inl.injEq, Sum.inr.injEq, Prod.mk.injEq, exists_eq_left, exists_eq_left', hn3, es, mI_uI, e63]
  rcases wr6 hj with q6 | q6
  · rw [q6]
    refine and_ii (fun _ => ?_) (fun q => absurd rfl q)
    exact ⟨by show some (Value.int (nI (sN S 39 - K))) = some (Value.int (wdI (if wr1 (up1 (sN S) 39 K) 6 = 1 then -3 else ((sN S 39 - K : Nat) : Int)))); rw [e66, q6]; rfl, by rw [zf]; rfl, rf, lf⟩
  · rw [q6]
    refine and_ii (fun q => absurd q (by decide)) (fun _ => ?_)
    exact ⟨by show some (Value.int (-3)) = some (Value.int (wdI (if wr1 (up1 (sN S) 39 K) 6 = 1 then -3 else ((sN S 39 - K : Nat) : Int)))); rw [e66, q6]; rfl, by rw [zf]; rfl, rf, lf⟩
end CUM
