/-! READING: the reference, maps and fields; fault -/
section RM3
variable {G : En} {M M0 Mz M' : Mem} {Q : Option Value → Mem → Prop} {X : String → Mem → Prop} {S : Sw} {a b j k v i n s th ty r p N T : Nat} {x y z : Int32} {t : List Nat} {e : Nat × Nat}
/-- the sizes, where the fields of th have been seen -/
def szS (M : Mem) (th : Nat) : Prop := ∀ s, s < 16 → (pb th s = 1 → mI M 542 s = 0) ∧ (pb th s = 0 → mI M 542 s = -1)
/-- the bit's word -/
theorem bit_w (h0 : tpN M t) (hk : 1 ≤ k ∧ k < 128) : (nI (t.getD (2 + k / 8) 0) >>> ((7 - (nI k - nI (k / 8) * 8)) &&& 31)) &&& 1 = nI (btM t (k + 1)) ∧ nI k / 8 = nI (k / 8) := by
  have e2 : nI k / 8 = nI (k / 8) := nI_div (b := 8) (by omega) (by omega) (by omega)
  have e4 : nI k - nI (k / 8) * 8 = nI (k % 8) := by rw [← e2]; exact nI_rem (b := 8) (by omega) (by omega) (by omega)
  have e5 : (7 : Int32) - nI (k % 8) = nI (7 - k % 8) := nI_sub (a := 7) (by omega) (by omega)
  have hb := getD_256 (i := 2 + k / 8) h0.2.2.1
  refine ⟨?_, e2⟩
  rw [e4, e5, nI_shr (by omega) (by omega), show (1 : Int32) = nI 1 from rfl, nI_and, and1]
  unfold btM
  rw [show k + 1 - 1 = k by omega]
theorem lp_mapsB {W : Int32} {wd : Nat} (h0 : tpN M0 t) (hwd : wd = 8 ∨ wd = 16) (hW : W = nI wd) (hlen : 2 + wd ≤ t.length) (hQ : ∀ M' (l : Int32), bdN M0 M' e → mI M' 495 79 = nI 2 → Go G (MT 218) Q X 168 [some (.ref 495), some (.int W), some (.int l), none, none] [] M' 0 0) : ∀ (m k : Nat) (l : Int32) (l' : Option Value), m + k = 8 * wd → 1 ≤ k → ∀ M, bdN M0 M e → mI M 495 79 = nI 2 → Go G (MT 218) Q X 73 [some (.ref 495), some (.int W), some (.int l), some (.int (nI k)), l'] [] M 0 0 := by
  subst hW
  have e8 : (8 : Int32) * nI wd = nI (8 * wd) := nI_mul (a := 8) (by omega) (by omega) (by omega)
  have t8 := nI_toInt (n := 8 * wd) (by omega)
  have i8 : ((8 : Int32) = 0) = False := eq_false (by decide)
  have hln := h0.2.2.1.1
  intro m
  induction m with
  | zero =>
    intro k l l' hk h1 M hb ha
    have hk : k = 8 * wd := by omega
    subst hk
    have := hQ M l hb ha
    refine r_X12_takeMaps (fun n => n == 73 || n == 168 || n == 23 || n == 68 || n == 116 || n == 137 || n == 190) 60 ?_
    simp only [cd_X12_takeMaps, cf_X12_takeMaps, wp, wq, wpI, cdF, w_CI, w_CL, w_CN, w_LI, w_LL, w_LA, w_SI, w_SL, w_SA, w_INC, w_II, w_IId, w_LLb, w_LLd, w_LS, w_I1, w_L1, w_I2L, w_L2I, w_CMP, w_DUP, w_POP, w_DUP2, w_IF, w_IC, w_GO, w_NUL, w_ACN, prs, w_GF, w_PF, w_GS, w_IAL, w_LEN, w_LAL, w_ZAL, w_AAL, w_IAS, w_LAS, w_ZAS, w_AAS, w_RI, w_RL, w_RA, w_NEW, w_NA, w_MNA, w_OI, w_THR, w_CV, w_CS, w_CN9, w_CI9, w_MX, w_cont, lget, sto1, sto2, wideV, vo, vo_rv, isR, isR_rv, rv, fget, fput, cats, Value.category, List.headD_cons, List.getD_cons_zero, List.getD_cons_succ, List.drop_succ_cons, List.drop_zero, List.take_succ_cons, List.take_zero, List.reverse_cons, List.reverse_nil, List.nil_append, List.cons_append, List.length_cons, List.length_nil, cond_true, cond_false, and_true, true_and, Nat.zero_add, Nat.add_zero, Nat.reduceAdd, Nat.reduceLT, Nat.reduceLeDiff, Nat.reduceEqDiff, Nat.reduceBEq, Nat.reduceSub, ↓reduceIte, Int32.reduceOfNat, Int64.reduceOfNat, reduceCtorEq, Nat.le_refl, Nat.zero_le, Bool.false_eq_true, beq_self_eq_true, Fin.isValue, Fin.val_zero, Fin.val_one, Fin.reduceFinMk, Fin.val_two, Nat.reduceMod, Bool.or_false, Bool.or_true, Bool.true_or, Bool.false_or, not_true_eq_false, not_false_eq_true, true_or, or_true, implies_true, false_implies, true_implies, Int32.reduceLT, Int32.reduceLE, ↓w_TAB3, ↓w_TAB4, ↓w_TAB5, ↓w_TAB7, ↓w_TAB10, ↓w_LK2, ↓w_LK6, false_and, and_false, i1z, i2z, iz1, im0, im1, l0z, e8]
    refine ⟨fun _ => Go.less this (fun k v h => ?_), fun q => absurd (nI_le (Nat.le_refl _) (by omega)) q⟩
    rcases k with _ | _ | _ | _ | _ | k <;> simp at h ⊢ <;> exact h
  | succ m ih =>
    intro k l l' hk h1 M hb ha
    have tk := nI_toInt (n := k) (by omega)
    have hT := h0.go hb.1
    have hL := hT.1
    have hw := bit_w (k := k) hT (by omega)
    have ea : (nI 2) + nI (k / 8) = nI (2 + k / 8) := nI_add _ _
    have ca := nI_clamp (n := 2 + k / 8) (by omega)
    have htp := hT.2.1.2 (2 + k / 8) (by omega)
    have ih' := fun l l' M => ih (k + 1) l l' (by omega) (by omega) M
    have hnx : ∀ (l : Int32) (l' : Option Value) M, bdN M0 M e → mI M 495 79 = nI 2 → Go G (MT 218) Q X 162 [some (.ref 495), some (.int (nI wd)), some (.int l), some (.int (nI k)), l'] [] M 0 0 := fun l l' M hb ha => by
      refine r_X12_takeMaps (fun n => n == 73 || n == 168 || n == 23 || n == 68 || n == 116 || n == 137 || n == 190) 60 ?_
      simp only [cd_X12_takeMaps, cf_X12_takeMaps, wp, wq, wpI, cdF, w_CI, w_CL, w_CN, w_LI, w_LL, w_LA, w_SI, w_SL, w_SA, w_INC, w_II, w_IId, w_LLb, w_LLd, w_LS, w_I1, w_L1, w_I2L, w_L2I, w_CMP, w_DUP, w_POP, w_DUP2, w_IF, w_IC, w_GO, w_NUL, w_ACN, prs, w_GF, w_PF, w_GS, w_IAL, w_LEN, w_LAL, w_ZAL, w_AAL, w_IAS, w_LAS, w_ZAS, w_AAS, w_RI, w_RL, w_RA, w_NEW, w_NA, w_MNA, w_OI, w_THR, w_CV, w_CS, w_CN9, w_CI9, w_MX, w_cont, lget, sto1, sto2, wideV, vo, vo_rv, isR, isR_rv, rv, fget, fput, cats, Value.category, List.headD_cons, List.getD_cons_zero, List.getD_cons_succ, List.drop_succ_cons, List.drop_zero, List.take_succ_cons, List.take_zero, List.reverse_cons, List.reverse_nil, List.nil_append, List.cons_append, List.length_cons, List.length_nil, cond_true, cond_false, and_true, true_and, Nat.zero_add, Nat.add_zero, Nat.reduceAdd, Nat.reduceLT, Nat.reduceLeDiff, Nat.reduceEqDiff, Nat.reduceBEq, Nat.reduceSub, ↓reduceIte, Int32.reduceOfNat, Int64.reduceOfNat, reduceCtorEq, Nat.le_refl, Nat.zero_le, Bool.false_eq_true, beq_self_eq_true, Fin.isValue, Fin.val_zero, Fin.val_one, Fin.reduceFinMk, Fin.val_two, Nat.reduceMod, Bool.or_false, Bool.or_true, Bool.true_or, Bool.false_or, not_true_eq_false, not_false_eq_true, true_or, or_true, implies_true, false_implies, true_implies, Int32.reduceLT, Int32.reduceLE, ↓w_TAB3, ↓w_TAB4, ↓w_TAB5, ↓w_TAB7, ↓w_TAB10, ↓w_LK2, ↓w_LK6, false_and, and_false, i1z, i2z, iz1, im0, im1, l0z, nI_1]
      exact ih' l l' M hb ha
    refine r_X12_takeMaps (fun n => n == 73 || n == 162 || n == 168 || n == 23 || n == 68 || n == 116 || n == 137 || n == 190) 60 ?_
    simp only [cd_X12_takeMaps, cf_X12_takeMaps, wp, wq, wpI, cdF, w_CI, w_CL, w_CN, w_LI, w_LL, w_LA, w_SI, w_SL, w_SA, w_INC, w_II, w_IId, w_LLb, w_LLd, w_LS, w_I1, w_L1, w_I2L, w_L2I, w_CMP, w_DUP, w_POP, w_DUP2, w_IF, w_IC, w_GO, w_NUL, w_ACN, prs, w_GF, w_PF, w_GS, w_IAL, w_LEN, w_LAL, w_ZAL, w_AAL, w_IAS, w_LAS, w_ZAS, w_AAS, w_RI, w_RL, w_RA, w_NEW, w_NA, w_MNA, w_OI, w_THR, w_CV, w_CS, w_CN9, w_CI9, w_MX, w_cont, lget, sto1, sto2, wideV, vo, vo_rv, isR, isR_rv, rv, fget, fput, cats, Value.category, List.headD_cons, List.getD_cons_zero, List.getD_cons_succ, List.drop_succ_cons, List.drop_zero, List.take_succ_cons, List.take_zero, List.reverse_cons, List.reverse_nil, List.nil_append, List.cons_append, List.length_cons, List.length_nil, cond_true, cond_false, and_true, true_and, Nat.zero_add, Nat.add_zero, Nat.reduceAdd, Nat.reduceLT, Nat.reduceLeDiff, Nat.reduceEqDiff, Nat.reduceBEq, Nat.reduceSub, ↓reduceIte, Int32.reduceOfNat, Int64.reduceOfNat, reduceCtorEq, Nat.le_refl, Nat.zero_le, Bool.false_eq_true, beq_self_eq_true, Fin.isValue, Fin.val_zero, Fin.val_one, Fin.reduceFinMk, Fin.val_two, Nat.reduceMod, Bool.or_false, Bool.or_true, Bool.true_or, Bool.false_or, not_true_eq_false, not_false_eq_true, true_or, or_true, implies_true, false_implies, true_implies, Int32.reduceLT, Int32.reduceLE, ↓w_TAB3, ↓w_TAB4, ↓w_TAB5, ↓w_TAB7, ↓w_TAB10, ↓w_LK2, ↓w_LK6, false_and, and_false, i1z, i2z, iz1, im0, im1, l0z, hasK_uI, hasK_uL, hasK_uR, hasK_uZ, hasK_sRow, mR_uI, mR_uL, mR_uZ, mR_sRow, mI_uL, mI_uR, mI_uZ, mL_uI, mL_uR, mL_uZ, mL_sRow, LF.hg hL, layF, LF.r hL, refF, ne_eq, not_false_eq_true, Option.some.injEq, Sum.inl.injEq, Sum.inr.injEq, Prod.mk.injEq, exists_eq_left, exists_eq_left', e8, ha, i8]
    simp only [hw.2]
    simp only [ea, ca, htp]
    rw [hw.1]
    refine and_ii (fun q => ?_) (fun _ => ⟨vp_in_nI (by omega) (by omega), and_ii (fun q => hnx l l' M hb ha) (fun q => ?_)⟩)
    · exfalso; (simp only [i_lt, i_le, i_eq, l_lt, l_le, l_eq, Int32.toInt_toInt64, Int32.reduceToInt, Int64.reduceToInt, ne_eq, Classical.not_not] at *; omega)
    have hk1 : (nI k + 1).toInt = ((k + 1 : Nat) : Int) := by rw [nI_1, nI_toInt (by omega)]
    refine m_fieldOf hL hT.2.2.2 (fun s hsl => ⟨_, rfl, ?_⟩) (fun hsl => ⟨_, rfl, ?_⟩)
    · have hs := (slI_lt hsl).1
      have hge : 0 ≤ nI s := by rw [i_le, nI_toInt (by omega)]; simp
      have cs := nI_clamp (n := s) (by omega)
      refine r_X12_takeMaps (fun n => n == 73 || n == 162 || n == 168 || n == 23 || n == 68 || n == 116 || n == 137 || n == 190) 60 ?_
      simp only [cd_X12_takeMaps, cf_X12_takeMaps, wp, wq, wpI, cdF, w_CI, w_CL, w_CN, w_LI, w_LL, w_LA, w_SI, w_SL, w_SA, w_INC, w_II, w_IId, w_LLb, w_LLd, w_LS, w_I1, w_L1, w_I2L, w_L2I, w_CMP, w_DUP, w_POP, w_DUP2, w_IF, w_IC, w_GO, w_NUL, w_ACN, prs, w_GF, w_PF, w_GS, w_IAL, w_LEN, w_LAL, w_ZAL, w_AAL, w_IAS, w_LAS, w_ZAS, w_AAS, w_RI, w_RL, w_RA, w_NEW, w_NA, w_MNA, w_OI, w_THR, w_CV, w_CS, w_CN9, w_CI9, w_MX, w_cont, lget, sto1, sto2, wideV, vo, vo_rv, isR, isR_rv, rv, fget, fput, cats, Value.category, List.headD_cons, List.getD_cons_zero, List.getD_cons_succ, List.drop_succ_cons, List.drop_zero, List.take_succ_cons, List.take_zero, List.reverse_cons, List.reverse_nil, List.nil_append, List.cons_append, List.length_cons, List.length_nil, cond_true, cond_false, and_true, true_and, Nat.zero_add, Nat.add_zero, Nat.reduceAdd, Nat.reduceLT, Nat.reduceLeDiff, Nat.reduceEqDiff, Nat.reduceBEq, Nat.reduceSub, ↓reduceIte, Int32.reduceOfNat, Int64.reduceOfNat, reduceCtorEq, Nat.le_refl, Nat.zero_le, Bool.false_eq_true, beq_self_eq_true, Fin.isValue, Fin.val_zero, Fin.val_one, Fin.reduceFinMk, Fin.val_two, Nat.reduceMod, Bool.or_false, Bool.or_true, Bool.true_or, Bool.false_or, not_true_eq_false, not_false_eq_true, true_or, or_true, implies_true, false_implies, true_implies, Int32.reduceLT, Int32.reduceLE, ↓w_TAB3, ↓w_TAB4, ↓w_TAB5, ↓w_TAB7, ↓w_TAB10, ↓w_LK2, ↓w_LK6, false_and, and_false, i1z, i2z, iz1, im0, im1, l0z, hasK_uI, hasK_uL, hasK_uR, hasK_uZ, hasK_sRow, mR_uI, mR_uL, mR_uZ, mR_sRow, mI_uL, mI_uR, mI_uZ, mL_uI, mL_uR, mL_uZ, mL_sRow, LF.hg hL, layF, LF.r hL, refF, ne_eq, not_false_eq_true, Option.some.injEq, Sum.inl.injEq, Sum.inr.injEq, Prod.mk.injEq, exists_eq_left, exists_eq_left', hge, cs]
      refine ⟨vp_in_nI hs (by omega), ?_⟩
      have hb2 : bdN M0 (uI M 542 s 0) e := ⟨rdN_u hb.1 (by omega), by rw [mI_ne (by omega)]; exact hb.2.1, by rw [mI_ne (by omega)]; exact hb.2.2.1, hb.2.2.2⟩
      have ha2 : mI (uI M 542 s 0) 495 79 = nI 2 := by rw [mI_ne (by omega)]; exact ha
      exact and_ii (fun _ => hnx _ _ _ hb2 ha2) (fun _ => hnx _ _ _ hb2 ha2)
    · have hge : ¬ (0 : Int32) ≤ -1 := by decide
      refine r_X12_takeMaps (fun n => n == 73 || n == 162 || n == 168 || n == 23 || n == 68 || n == 116 || n == 137 || n == 190) 60 ?_
      simp only [cd_X12_takeMaps, cf_X12_takeMaps, wp, wq, wpI, cdF, w_CI, w_CL, w_CN, w_LI, w_LL, w_LA, w_SI, w_SL, w_SA, w_INC, w_II, w_IId, w_LLb, w_LLd, w_LS, w_I1, w_L1, w_I2L, w_L2I, w_CMP, w_DUP, w_POP, w_DUP2, w_IF, w_IC, w_GO, w_NUL, w_ACN, prs, w_GF, w_PF, w_GS, w_IAL, w_LEN, w_LAL, w_ZAL, w_AAL, w_IAS, w_LAS, w_ZAS, w_AAS, w_RI, w_RL, w_RA, w_NEW, w_NA, w_MNA, w_OI, w_THR, w_CV, w_CS, w_CN9, w_CI9, w_MX, w_cont, lget, sto1, sto2, wideV, vo, vo_rv, isR, isR_rv, rv, fget, fput, cats, Value.category, List.headD_cons, List.getD_cons_zero, List.getD_cons_succ, List.drop_succ_cons, List.drop_zero, List.take_succ_cons, List.take_zero, List.reverse_cons, List.reverse_nil, List.nil_append, List.cons_append, List.length_cons, List.length_nil, cond_true, cond_false, and_true, true_and, Nat.zero_add, Nat.add_zero, Nat.reduceAdd, Nat.reduceLT, Nat.reduceLeDiff, Nat.reduceEqDiff, Nat.reduceBEq, Nat.reduceSub, ↓reduceIte, Int32.reduceOfNat, Int64.reduceOfNat, reduceCtorEq, Nat.le_refl, Nat.zero_le, Bool.false_eq_true, beq_self_eq_true, Fin.isValue, Fin.val_zero, Fin.val_one, Fin.reduceFinMk, Fin.val_two, Nat.reduceMod, Bool.or_false, Bool.or_true, Bool.true_or, Bool.false_or, not_true_eq_false, not_false_eq_true, true_or, or_true, implies_true, false_implies, true_implies, Int32.reduceLT, Int32.reduceLE, ↓w_TAB3, ↓w_TAB4, ↓w_TAB5, ↓w_TAB7, ↓w_TAB10, ↓w_LK2, ↓w_LK6, false_and, and_false, i1z, i2z, iz1, im0, im1, l0z, hasK_uI, hasK_uL, hasK_uR, hasK_uZ, hasK_sRow, mR_uI, mR_uL, mR_uZ, mR_sRow, mI_uL, mI_uR, mI_uZ, mL_uI, mL_uR, mL_uZ, mL_sRow, LF.hg hL, layF, LF.r hL, refF, ne_eq, not_false_eq_true, Option.some.injEq, Sum.inl.injEq, Sum.inr.injEq, Prod.mk.injEq, exists_eq_left, exists_eq_left', hge, ha, i8]
      refine m_fails2 hb h0.1 ⟨rfl, ?_⟩
      refine r_X12_takeMaps (fun n => n == 73 || n == 162 || n == 168 || n == 23 || n == 68 || n == 116 || n == 137 || n == 190) 60 ?_
      simp only [cd_X12_takeMaps, cf_X12_takeMaps, wp, wq, wpI, cdF, w_CI, w_CL, w_CN, w_LI, w_LL, w_LA, w_SI, w_SL, w_SA, w_INC, w_II, w_IId, w_LLb, w_LLd, w_LS, w_I1, w_L1, w_I2L, w_L2I, w_CMP, w_DUP, w_POP, w_DUP2, w_IF, w_IC, w_GO, w_NUL, w_ACN, prs, w_GF, w_PF, w_GS, w_IAL, w_LEN, w_LAL, w_ZAL, w_AAL, w_IAS, w_LAS, w_ZAS, w_AAS, w_RI, w_RL, w_RA, w_NEW, w_NA, w_MNA, w_OI, w_THR, w_CV, w_CS, w_CN9, w_CI9, w_MX, w_cont, lget, sto1, sto2, wideV, vo, vo_rv, isR, isR_rv, rv, fget, fput, cats, Value.category, List.headD_cons, List.getD_cons_zero, List.getD_cons_succ, List.drop_succ_cons, List.drop_zero, List.take_succ_cons, List.take_zero, List.reverse_cons, List.reverse_nil, List.nil_append, List.cons_append, List.length_cons, List.length_nil, cond_true, cond_false, and_true, true_and, Nat.zero_add, Nat.add_zero, Nat.reduceAdd, Nat.reduceLT, Nat.reduceLeDiff, Nat.reduceEqDiff, Nat.reduceBEq, Nat.reduceSub, ↓reduceIte, Int32.reduceOfNat, Int64.reduceOfNat, reduceCtorEq, Nat.le_refl, Nat.zero_le, Bool.false_eq_true, beq_self_eq_true, Fin.isValue, Fin.val_zero, Fin.val_one, Fin.reduceFinMk, Fin.val_two, Nat.reduceMod, Bool.or_false, Bool.or_true, Bool.true_or, Bool.false_or, not_true_eq_false, not_false_eq_true, true_or, or_true, implies_true, false_implies, true_implies, Int32.reduceLT, Int32.reduceLE, ↓w_TAB3, ↓w_TAB4, ↓w_TAB5, ↓w_TAB7, ↓w_TAB10, ↓w_LK2, ↓w_LK6, false_and, and_false, i1z, i2z, iz1, im0, im1, l0z]
      exact hnx _ _ M hb ha
theorem lp_mapsN {wd : Nat} (h0 : tpN M0 t) (hwd : wd = 8 ∨ wd = 16) (hlen : 2 + wd ≤ t.length) (hQ1 : ∀ M' (l : Nat), l < 1000 → (l = 0 ↔ thM t (8 * wd + 1) 16 < 2048) → rnO M0 M' 2 → szS M' (thM t (8 * wd + 1) 16) → mI M' 495 67 = nI ty → scM t (8 * wd - 1) 2 = none → Go G (MT 218) Q X 168 [some (.ref 495), some (.int (nI wd)), some (.int (nI l)), none, none] [] M' 0 0) (hQ2 : ∀ k, scM t (8 * wd - 1) 2 = some k → ∀ M' (l : Int32), bdN M0 M' (4, 2 + (k - 1) / 8) → mI M' 495 79 = nI 2 → Go G (MT 218) Q X 168 [some (.ref 495), some (.int (nI wd)), some (.int l), none, none] [] M' 0 0) : ∀ (m k l : Nat) (l' : Option Value), m + k = 8 * wd → 1 ≤ k → l ≤ k → (l = 0 ↔ thM t (k + 1) 16 < 2048) → scM t (8 * wd - 1) 2 = scM t m (k + 1) → ∀ M, rnO M0 M 2 → szS M (thM t (k + 1) 16) → mI M 495 67 = nI ty → Go G (MT 218) Q X 73 [some (.ref 495), some (.int (nI wd)), some (.int (nI l)), some (.int (nI k)), l'] [] M 0 0 := by
  have e8 : (8 : Int32) * nI wd = nI (8 * wd) := nI_mul (a := 8) (by omega) (by omega) (by omega)
  have t8 := nI_toInt (n := 8 * wd) (by omega)
  have i8 : ((8 : Int32) = 0) = False := eq_false (by decide)
  have hln := h0.2.2.1.1
  intro m
  induction m with
  | zero =>
    intro k l l' hk h1 hl hl2 hsc M h hz hty
    have hk : k = 8 * wd := by omega
    subst hk
    rw [scM] at hsc
    have := hQ1 M l (by omega) hl2 h hz hty hsc
    refine r_X12_takeMaps (fun n => n == 73 || n == 168 || n == 23 || n == 68 || n == 116 || n == 137 || n == 190) 60 ?_
    simp only [cd_X12_takeMaps, cf_X12_takeMaps, wp, wq, wpI, cdF, w_CI, w_CL, w_CN, w_LI, w_LL, w_LA, w_SI, w_SL, w_SA, w_INC, w_II, w_IId, w_LLb, w_LLd, w_LS, w_I1, w_L1, w_I2L, w_L2I, w_CMP, w_DUP, w_POP, w_DUP2, w_IF, w_IC, w_GO, w_NUL, w_ACN, prs, w_GF, w_PF, w_GS, w_IAL, w_LEN, w_LAL, w_ZAL, w_AAL, w_IAS, w_LAS, w_ZAS, w_AAS, w_RI, w_RL, w_RA, w_NEW, w_NA, w_MNA, w_OI, w_THR, w_CV, w_CS, w_CN9, w_CI9, w_MX, w_cont, lget, sto1, sto2, wideV, vo, vo_rv, isR, isR_rv, rv, fget, fput, cats, Value.category, List.headD_cons, List.getD_cons_zero, List.getD_cons_succ, List.drop_succ_cons, List.drop_zero, List.take_succ_cons, List.take_zero, List.reverse_cons, List.reverse_nil, List.nil_append, List.cons_append, List.length_cons, List.length_nil, cond_true, cond_false, and_true, true_and, Nat.zero_add, Nat.add_zero, Nat.reduceAdd, Nat.reduceLT, Nat.reduceLeDiff, Nat.reduceEqDiff, Nat.reduceBEq, Nat.reduceSub, ↓reduceIte, Int32.reduceOfNat, Int64.reduceOfNat, reduceCtorEq, Nat.le_refl, Nat.zero_le, Bool.false_eq_true, beq_self_eq_true, Fin.isValue, Fin.val_zero, Fin.val_one, Fin.reduceFinMk, Fin.val_two, Nat.reduceMod, Bool.or_false, Bool.or_true, Bool.true_or, Bool.false_or, not_true_eq_false, not_false_eq_true, true_or, or_true, implies_true, false_implies, true_implies, Int32.reduceLT, Int32.reduceLE, ↓w_TAB3, ↓w_TAB4, ↓w_TAB5, ↓w_TAB7, ↓w_TAB10, ↓w_LK2, ↓w_LK6, false_and, and_false, i1z, i2z, iz1, im0, im1, l0z, e8]
    refine ⟨fun _ => Go.less this (fun k v h => ?_), fun q => absurd (nI_le (Nat.le_refl _) (by omega)) q⟩
    rcases k with _ | _ | _ | _ | _ | k <;> simp at h ⊢ <;> exact h
  | succ m ih =>
    intro k l l' hk h1 hl hl2 hsc M h hz hty
    have tk := nI_toInt (n := k) (by omega)
    have hT := h0.go h.1
    have hL := hT.1
    have ha := h.2.2.2
    have hw := bit_w (k := k) hT (by omega)
    have ea : (nI 2) + nI (k / 8) = nI (2 + k / 8) := nI_add _ _
    have ca := nI_clamp (n := 2 + k / 8) (by omega)
    have htp := hT.2.1.2 (2 + k / 8) (by omega)
    have tb := nI_toInt (n := btM t (k + 1)) (by unfold btM; omega)
    rw [scM] at hsc
    have hnx : ∀ (l : Nat) (l' : Option Value) M, l ≤ k + 1 → (l = 0 ↔ thM t (k + 1 + 1) 16 < 2048) → scM t (8 * wd - 1) 2 = scM t m (k + 1 + 1) → rnO M0 M 2 → szS M (thM t (k + 1 + 1) 16) → mI M 495 67 = nI ty → Go G (MT 218) Q X 162 [some (.ref 495), some (.int (nI wd)), some (.int (nI l)), some (.int (nI k)), l'] [] M 0 0 := fun l l' M c1 c2 c3 c4 c5 c6 => by
      refine r_X12_takeMaps (fun n => n == 73 || n == 168 || n == 23 || n == 68 || n == 116 || n == 137 || n == 190) 60 ?_
      simp only [cd_X12_takeMaps, cf_X12_takeMaps, wp, wq, wpI, cdF, w_CI, w_CL, w_CN, w_LI, w_LL, w_LA, w_SI, w_SL, w_SA, w_INC, w_II, w_IId, w_LLb, w_LLd, w_LS, w_I1, w_L1, w_I2L, w_L2I, w_CMP, w_DUP, w_POP, w_DUP2, w_IF, w_IC, w_GO, w_NUL, w_ACN, prs, w_GF, w_PF, w_GS, w_IAL, w_LEN, w_LAL, w_ZAL, w_AAL, w_IAS, w_LAS, w_ZAS, w_AAS, w_RI, w_RL, w_RA, w_NEW, w_NA, w_MNA, w_OI, w_THR, w_CV, w_CS, w_CN9, w_CI9, w_MX, w_cont, lget, sto1, sto2, wideV, vo, vo_rv, isR, isR_rv, rv, fget, fput, cats, Value.category, List.headD_cons, List.getD_cons_zero, List.getD_cons_succ, List.drop_succ_cons, List.drop_zero, List.take_succ_cons, List.take_zero, List.reverse_cons, List.reverse_nil, List.nil_append, List.cons_append, List.length_cons, List.length_nil, cond_true, cond_false, and_true, true_and, Nat.zero_add, Nat.add_zero, Nat.reduceAdd, Nat.reduceLT, Nat.reduceLeDiff, Nat.reduceEqDiff, Nat.reduceBEq, Nat.reduceSub, ↓reduceIte, Int32.reduceOfNat, Int64.reduceOfNat, reduceCtorEq, Nat.le_refl, Nat.zero_le, Bool.false_eq_true, beq_self_eq_true, Fin.isValue, Fin.val_zero, Fin.val_one, Fin.reduceFinMk, Fin.val_two, Nat.reduceMod, Bool.or_false, Bool.or_true, Bool.true_or, Bool.false_or, not_true_eq_false, not_false_eq_true, true_or, or_true, implies_true, false_implies, true_implies, Int32.reduceLT, Int32.reduceLE, ↓w_TAB3, ↓w_TAB4, ↓w_TAB5, ↓w_TAB7, ↓w_TAB10, ↓w_LK2, ↓w_LK6, false_and, and_false, i1z, i2z, iz1, im0, im1, l0z, nI_1]
      exact ih (k + 1) l l' (by omega) (by omega) c1 c2 c3 M c4 c5 c6
    refine r_X12_takeMaps (fun n => n == 73 || n == 162 || n == 168 || n == 23 || n == 68 || n == 116 || n == 137 || n == 190) 60 ?_
    simp only [cd_X12_takeMaps, cf_X12_takeMaps, wp, wq, wpI, cdF, w_CI, w_CL, w_CN, w_LI, w_LL, w_LA, w_SI, w_SL, w_SA, w_INC, w_II, w_IId, w_LLb, w_LLd, w_LS, w_I1, w_L1, w_I2L, w_L2I, w_CMP, w_DUP, w_POP, w_DUP2, w_IF, w_IC, w_GO, w_NUL, w_ACN, prs, w_GF, w_PF, w_GS, w_IAL, w_LEN, w_LAL, w_ZAL, w_AAL, w_IAS, w_LAS, w_ZAS, w_AAS, w_RI, w_RL, w_RA, w_NEW, w_NA, w_MNA, w_OI, w_THR, w_CV, w_CS, w_CN9, w_CI9, w_MX, w_cont, lget, sto1, sto2, wideV, vo, vo_rv, isR, isR_rv, rv, fget, fput, cats, Value.category, List.headD_cons, List.getD_cons_zero, List.getD_cons_succ, List.drop_succ_cons, List.drop_zero, List.take_succ_cons, List.take_zero, List.reverse_cons, List.reverse_nil, List.nil_append, List.cons_append, List.length_cons, List.length_nil, cond_true, cond_false, and_true, true_and, Nat.zero_add, Nat.add_zero, Nat.reduceAdd, Nat.reduceLT, Nat.reduceLeDiff, Nat.reduceEqDiff, Nat.reduceBEq, Nat.reduceSub, ↓reduceIte, Int32.reduceOfNat, Int64.reduceOfNat, reduceCtorEq, Nat.le_refl, Nat.zero_le, Bool.false_eq_true, beq_self_eq_true, Fin.isValue, Fin.val_zero, Fin.val_one, Fin.reduceFinMk, Fin.val_two, Nat.reduceMod, Bool.or_false, Bool.or_true, Bool.true_or, Bool.false_or, not_true_eq_false, not_false_eq_true, true_or, or_true, implies_true, false_implies, true_implies, Int32.reduceLT, Int32.reduceLE, ↓w_TAB3, ↓w_TAB4, ↓w_TAB5, ↓w_TAB7, ↓w_TAB10, ↓w_LK2, ↓w_LK6, false_and, and_false, i1z, i2z, iz1, im0, im1, l0z, hasK_uI, hasK_uL, hasK_uR, hasK_uZ, hasK_sRow, mR_uI, mR_uL, mR_uZ, mR_sRow, mI_uL, mI_uR, mI_uZ, mL_uI, mL_uR, mL_uZ, mL_sRow, LF.hg hL, layF, LF.r hL, refF, ne_eq, not_false_eq_true, Option.some.injEq, Sum.inl.injEq, Sum.inr.injEq, Prod.mk.injEq, exists_eq_left, exists_eq_left', e8, ha, i8]
    simp only [hw.2]
    simp only [ea, ca, htp]
    rw [hw.1]
    refine and_ii (fun q => ?_) (fun _ => ⟨vp_in_nI (by omega) (by omega), and_ii (fun q => ?_) (fun q => ?_)⟩)
    · exfalso; (simp only [i_lt, i_le, i_eq, l_lt, l_le, l_eq, Int32.toInt_toInt64, Int32.reduceToInt, Int64.reduceToInt, ne_eq, Classical.not_not] at *; omega)
    · have hb1 : ¬ btM t (k + 1) = 1 := by (simp only [i_lt, i_le, i_eq, l_lt, l_le, l_eq, Int32.toInt_toInt64, Int32.reduceToInt, Int64.reduceToInt, ne_eq, Classical.not_not] at *; omega)
      have e := thM_no hb1
      rw [if_neg (fun q2 => hb1 q2.1)] at hsc
      exact hnx l l' M (by omega) (by rw [e]; exact hl2) hsc h (by rw [e]; exact hz) hty
    have hb1 : btM t (k + 1) = 1 := by (simp only [i_lt, i_le, i_eq, l_lt, l_le, l_eq, Int32.toInt_toInt64, Int32.reduceToInt, Int64.reduceToInt, ne_eq, Classical.not_not] at *; omega)
    have hk1 : (nI k + 1).toInt = ((k + 1 : Nat) : Int) := by rw [nI_1, nI_toInt (by omega)]
    refine m_fieldOf hL hT.2.2.2 (fun s hsl => ⟨_, rfl, ?_⟩) (fun hsl => ⟨_, rfl, ?_⟩)
    · have hsl : slF (k + 1) = some s := by
        unfold slI at hsl
        rw [hk1, if_neg (by omega), Int.toNat_natCast] at hsl
        exact hsl
      have hs := slF_lt hsl
      have hge : 0 ≤ nI s := by rw [i_le, nI_toInt (by omega)]; simp
      have cs := nI_clamp (n := s) (by omega)
      have e := thM_yes hb1 hsl
      rw [if_neg (by rw [hsl]; simp)] at hsc
      refine r_X12_takeMaps (fun n => n == 73 || n == 162 || n == 168 || n == 23 || n == 68 || n == 116 || n == 137 || n == 190) 60 ?_
      simp only [cd_X12_takeMaps, cf_X12_takeMaps, wp, wq, wpI, cdF, w_CI, w_CL, w_CN, w_LI, w_LL, w_LA, w_SI, w_SL, w_SA, w_INC, w_II, w_IId, w_LLb, w_LLd, w_LS, w_I1, w_L1, w_I2L, w_L2I, w_CMP, w_DUP, w_POP, w_DUP2, w_IF, w_IC, w_GO, w_NUL, w_ACN, prs, w_GF, w_PF, w_GS, w_IAL, w_LEN, w_LAL, w_ZAL, w_AAL, w_IAS, w_LAS, w_ZAS, w_AAS, w_RI, w_RL, w_RA, w_NEW, w_NA, w_MNA, w_OI, w_THR, w_CV, w_CS, w_CN9, w_CI9, w_MX, w_cont, lget, sto1, sto2, wideV, vo, vo_rv, isR, isR_rv, rv, fget, fput, cats, Value.category, List.headD_cons, List.getD_cons_zero, List.getD_cons_succ, List.drop_succ_cons, List.drop_zero, List.take_succ_cons, List.take_zero, List.reverse_cons, List.reverse_nil, List.nil_append, List.cons_append, List.length_cons, List.length_nil, cond_true, cond_false, and_true, true_and, Nat.zero_add, Nat.add_zero, Nat.reduceAdd, Nat.reduceLT, Nat.reduceLeDiff, Nat.reduceEqDiff, Nat.reduceBEq, Nat.reduceSub, ↓reduceIte, Int32.reduceOfNat, Int64.reduceOfNat, reduceCtorEq, Nat.le_refl, Nat.zero_le, Bool.false_eq_true, beq_self_eq_true, Fin.isValue, Fin.val_zero, Fin.val_one, Fin.reduceFinMk, Fin.val_two, Nat.reduceMod, Bool.or_false, Bool.or_true, Bool.true_or, Bool.false_or, not_true_eq_false, not_false_eq_true, true_or, or_true, implies_true, false_implies, true_implies, Int32.reduceLT, Int32.reduceLE, ↓w_TAB3, ↓w_TAB4, ↓w_TAB5, ↓w_TAB7, ↓w_TAB10, ↓w_LK2, ↓w_LK6, false_and, and_false, i1z, i2z, iz1, im0, im1, l0z, hasK_uI, hasK_uL, hasK_uR, hasK_uZ, hasK_sRow, mR_uI, mR_uL, mR_uZ, mR_sRow, mI_uL, mI_uR, mI_uZ, mL_uI, mL_uR, mL_uZ, mL_sRow, LF.hg hL, layF, LF.r hL, refF, ne_eq, not_false_eq_true, Option.some.injEq, Sum.inl.injEq, Sum.inr.injEq, Prod.mk.injEq, exists_eq_left, exists_eq_left', hge, cs]
      refine ⟨vp_in_nI hs.1 (by omega), ?_⟩
      have h2 : rnO M0 (uI M 542 s 0) 2 := ⟨rdN_u h.1 (by omega), by rw [mI_ne (by omega)]; exact h.2.1, by rw [mI_ne (by omega)]; exact h.2.2.1, by rw [mI_ne (by omega)]; exact ha⟩
      have hz2 : szS (uI M 542 s 0) (thM t (k + 1 + 1) 16) := fun s' hs' => by
        rw [e, setB_pb]
        by_cases es : s' = s
        · subst es
          rw [if_pos rfl, mI_uI, if_pos ⟨rfl, rfl⟩]
          exact ⟨fun _ => rfl, fun q => by omega⟩
        · rw [if_neg es, mI_ne (by omega)]
          exact hz s' hs'
      have h3 := setB_2048 (x := thM t (k + 1) 16) (s := s) thM_16 hs.1
      have h64 := fn_64 hs.1
      rw [hs.2] at h64
      have hty2 : mI (uI M 542 s 0) 495 67 = nI ty := by rw [mI_ne (by omega)]; exact hty
      refine and_ii (fun q3 => ?_) (fun q3 => ?_)
      · have e0 : nI l + 0 = nI l := nI_add l 0
        rw [e0]
        refine hnx l _ _ (by omega) ?_ hsc h2 hz2 hty2
        rw [e, ← Nat.not_le, h3]
        have : ¬ 11 ≤ s := by (simp only [i_lt, i_le, i_eq, l_lt, l_le, l_eq, Int32.toInt_toInt64, Int32.reduceToInt, Int64.reduceToInt, ne_eq, Classical.not_not] at *; omega)
        rw [hl2]
        omega
      · rw [nI_1]
        refine hnx (l + 1) _ _ (by omega) ?_ hsc h2 hz2 hty2
        rw [e, ← Nat.not_le, h3]
        have : 11 ≤ s := by (simp only [i_lt, i_le, i_eq, l_lt, l_le, l_eq, Int32.toInt_toInt64, Int32.reduceToInt, Int64.reduceToInt, ne_eq, Classical.not_not] at *; omega)
        omega
    · have hsl : slF (k + 1) = none := by
        unfold slI at hsl
        rw [hk1, if_neg (by omega), Int.toNat_natCast] at hsl
        exact hsl
      rw [if_pos ⟨hb1, by rw [hsl]; rfl⟩] at hsc
      have hge : ¬ (0 : Int32) ≤ -1 := by decide
      refine r_X12_takeMaps (fun n => n == 73 || n == 162 || n == 168 || n == 23 || n == 68 || n == 116 || n == 137 || n == 190) 60 ?_
      simp only [cd_X12_takeMaps, cf_X12_takeMaps, wp, wq, wpI, cdF, w_CI, w_CL, w_CN, w_LI, w_LL, w_LA, w_SI, w_SL, w_SA, w_INC, w_II, w_IId, w_LLb, w_LLd, w_LS, w_I1, w_L1, w_I2L, w_L2I, w_CMP, w_DUP, w_POP, w_DUP2, w_IF, w_IC, w_GO, w_NUL, w_ACN, prs, w_GF, w_PF, w_GS, w_IAL, w_LEN, w_LAL, w_ZAL, w_AAL, w_IAS, w_LAS, w_ZAS, w_AAS, w_RI, w_RL, w_RA, w_NEW, w_NA, w_MNA, w_OI, w_THR, w_CV, w_CS, w_CN9, w_CI9, w_MX, w_cont, lget, sto1, sto2, wideV, vo, vo_rv, isR, isR_rv, rv, fget, fput, cats, Value.category, List.headD_cons, List.getD_cons_zero, List.getD_cons_succ, List.drop_succ_cons, List.drop_zero, List.take_succ_cons, List.take_zero, List.reverse_cons, List.reverse_nil, List.nil_append, List.cons_append, List.length_cons, List.length_nil, cond_true, cond_false, and_true, true_and, Nat.zero_add, Nat.add_zero, Nat.reduceAdd, Nat.reduceLT, Nat.reduceLeDiff, Nat.reduceEqDiff, Nat.reduceBEq, Nat.reduceSub, ↓reduceIte, Int32.reduceOfNat, Int64.reduceOfNat, reduceCtorEq, Nat.le_refl, Nat.zero_le, Bool.false_eq_true, beq_self_eq_true, Fin.isValue, Fin.val_zero, Fin.val_one, Fin.reduceFinMk, Fin.val_two, Nat.reduceMod, Bool.or_false, Bool.or_true, Bool.true_or, Bool.false_or, not_true_eq_false, not_false_eq_true, true_or, or_true, implies_true, false_implies, true_implies, Int32.reduceLT, Int32.reduceLE, ↓w_TAB3, ↓w_TAB4, ↓w_TAB5, ↓w_TAB7, ↓w_TAB10, ↓w_LK2, ↓w_LK6, false_and, and_false, i1z, i2z, iz1, im0, im1, l0z, hasK_uI, hasK_uL, hasK_uR, hasK_uZ, hasK_sRow, mR_uI, mR_uL, mR_uZ, mR_sRow, mI_uL, mI_uR, mI_uZ, mL_uI, mL_uR, mL_uZ, mL_sRow, LF.hg hL, layF, LF.r hL, refF, ne_eq, not_false_eq_true, Option.some.injEq, Sum.inl.injEq, Sum.inr.injEq, Prod.mk.injEq, exists_eq_left, exists_eq_left', hge, ha, i8]
      simp only [hw.2]
      simp only [ea]
      refine m_fails (e := (4, 2 + k / 8)) h.1 h0.1 h.2.1 rfl rfl (by simp) (fun M' hb ho => ⟨rfl, ?_⟩)
      have ha' : mI M' 495 79 = nI 2 := by rw [ho _ _ (by omega)]; exact ha
      refine r_X12_takeMaps (fun n => n == 73 || n == 162 || n == 168 || n == 23 || n == 68 || n == 116 || n == 137 || n == 190) 60 ?_
      simp only [cd_X12_takeMaps, cf_X12_takeMaps, wp, wq, wpI, cdF, w_CI, w_CL, w_CN, w_LI, w_LL, w_LA, w_SI, w_SL, w_SA, w_INC, w_II, w_IId, w_LLb, w_LLd, w_LS, w_I1, w_L1, w_I2L, w_L2I, w_CMP, w_DUP, w_POP, w_DUP2, w_IF, w_IC, w_GO, w_NUL, w_ACN, prs, w_GF, w_PF, w_GS, w_IAL, w_LEN, w_LAL, w_ZAL, w_AAL, w_IAS, w_LAS, w_ZAS, w_AAS, w_RI, w_RL, w_RA, w_NEW, w_NA, w_MNA, w_OI, w_THR, w_CV, w_CS, w_CN9, w_CI9, w_MX, w_cont, lget, sto1, sto2, wideV, vo, vo_rv, isR, isR_rv, rv, fget, fput, cats, Value.category, List.headD_cons, List.getD_cons_zero, List.getD_cons_succ, List.drop_succ_cons, List.drop_zero, List.take_succ_cons, List.take_zero, List.reverse_cons, List.reverse_nil, List.nil_append, List.cons_append, List.length_cons, List.length_nil, cond_true, cond_false, and_true, true_and, Nat.zero_add, Nat.add_zero, Nat.reduceAdd, Nat.reduceLT, Nat.reduceLeDiff, Nat.reduceEqDiff, Nat.reduceBEq, Nat.reduceSub, ↓reduceIte, Int32.reduceOfNat, Int64.reduceOfNat, reduceCtorEq, Nat.le_refl, Nat.zero_le, Bool.false_eq_true, beq_self_eq_true, Fin.isValue, Fin.val_zero, Fin.val_one, Fin.reduceFinMk, Fin.val_two, Nat.reduceMod, Bool.or_false, Bool.or_true, Bool.true_or, Bool.false_or, not_true_eq_false, not_false_eq_true, true_or, or_true, implies_true, false_implies, true_implies, Int32.reduceLT, Int32.reduceLE, ↓w_TAB3, ↓w_TAB4, ↓w_TAB5, ↓w_TAB7, ↓w_TAB10, ↓w_LK2, ↓w_LK6, false_and, and_false, i1z, i2z, iz1, im0, im1, l0z]
      refine r_X12_takeMaps (fun n => n == 73 || n == 168 || n == 23 || n == 68 || n == 116 || n == 137 || n == 190) 60 ?_
      simp only [cd_X12_takeMaps, cf_X12_takeMaps, wp, wq, wpI, cdF, w_CI, w_CL, w_CN, w_LI, w_LL, w_LA, w_SI, w_SL, w_SA, w_INC, w_II, w_IId, w_LLb, w_LLd, w_LS, w_I1, w_L1, w_I2L, w_L2I, w_CMP, w_DUP, w_POP, w_DUP2, w_IF, w_IC, w_GO, w_NUL, w_ACN, prs, w_GF, w_PF, w_GS, w_IAL, w_LEN, w_LAL, w_ZAL, w_AAL, w_IAS, w_LAS, w_ZAS, w_AAS, w_RI, w_RL, w_RA, w_NEW, w_NA, w_MNA, w_OI, w_THR, w_CV, w_CS, w_CN9, w_CI9, w_MX, w_cont, lget, sto1, sto2, wideV, vo, vo_rv, isR, isR_rv, rv, fget, fput, cats, Value.category, List.headD_cons, List.getD_cons_zero, List.getD_cons_succ, List.drop_succ_cons, List.drop_zero, List.take_succ_cons, List.take_zero, List.reverse_cons, List.reverse_nil, List.nil_append, List.cons_append, List.length_cons, List.length_nil, cond_true, cond_false, and_true, true_and, Nat.zero_add, Nat.add_zero, Nat.reduceAdd, Nat.reduceLT, Nat.reduceLeDiff, Nat.reduceEqDiff, Nat.reduceBEq, Nat.reduceSub, ↓reduceIte, Int32.reduceOfNat, Int64.reduceOfNat, reduceCtorEq, Nat.le_refl, Nat.zero_le, Bool.false_eq_true, beq_self_eq_true, Fin.isValue, Fin.val_zero, Fin.val_one, Fin.reduceFinMk, Fin.val_two, Nat.reduceMod, Bool.or_false, Bool.or_true, Bool.true_or, Bool.false_or, not_true_eq_false, not_false_eq_true, true_or, or_true, implies_true, false_implies, true_implies, Int32.reduceLT, Int32.reduceLE, ↓w_TAB3, ↓w_TAB4, ↓w_TAB5, ↓w_TAB7, ↓w_TAB10, ↓w_LK2, ↓w_LK6, false_and, and_false, i1z, i2z, iz1, im0, im1, l0z, nI_1]
      exact lp_mapsB (e := (4, 2 + k / 8)) (wd := wd) h0 hwd rfl hlen (fun M2 l2 hb2 ha2 => hQ2 (k + 1) hsc M2 l2 (by rw [show k + 1 - 1 = k by omega]; exact hb2) ha2) m (k + 1) _ _ (by omega) (by omega) M' hb ha'
theorem m_takeMaps (h0 : tpN M0 t) (h : rnO M0 M 2) (hz : szS M 0) (hty : mI M 495 67 = nI ty) (h1 : chM t = none → ∀ M', rnO M0 M' (if twM t = 1 then 18 else 10) → szS M' (thR t) → mI M' 495 67 = nI ty → Q none M') (h2 : ∀ e, chM t = some e → ∀ M', bdN M0 M' e → Q none M') : Ct G (MT 218) [.ref 495] M Q X := by
  have hT := h0.go h.1
  have hL := hT.1
  have hsz := hT.2.1.1
  have hln := h0.2.2.1.1
  have tl := nI_toInt (n := t.length) (by omega)
  have e28 : nI 2 + 8 = nI 10 := nI_add 2 8
  have t10 := nI_toInt (n := 10) (by omega)
  have hTw : twM t ≤ 1 := by unfold twM btM; omega
  have c2 := nI_clamp (n := 2) (by omega)
  refine Ct.go (L0 := [some (.ref 495), none, none, none, none]) (by decide +kernel) rfl rfl ?_
  refine r_X12_takeMaps (fun n => n == 45 || n == 23 || n == 68 || n == 116 || n == 137 || n == 190) 60 ?_
  simp only [cd_X12_takeMaps, cf_X12_takeMaps, wp, wq, wpI, cdF, w_CI, w_CL, w_CN, w_LI, w_LL, w_LA, w_SI, w_SL, w_SA, w_INC, w_II, w_IId, w_LLb, w_LLd, w_LS, w_I1, w_L1, w_I2L, w_L2I, w_CMP, w_DUP, w_POP, w_DUP2, w_IF, w_IC, w_GO, w_NUL, w_ACN, prs, w_GF, w_PF, w_GS, w_IAL, w_LEN, w_LAL, w_ZAL, w_AAL, w_IAS, w_LAS, w_ZAS, w_AAS, w_RI, w_RL, w_RA, w_NEW, w_NA, w_MNA, w_OI, w_THR, w_CV, w_CS, w_CN9, w_CI9, w_MX, w_cont, lget, sto1, sto2, wideV, vo, vo_rv, isR, isR_rv, rv, fget, fput, cats, Value.category, List.headD_cons, List.getD_cons_zero, List.getD_cons_succ, List.drop_succ_cons, List.drop_zero, List.take_succ_cons, List.take_zero, List.reverse_cons, List.reverse_nil, List.nil_append, List.cons_append, List.length_cons, List.length_nil, cond_true, cond_false, and_true, true_and, Nat.zero_add, Nat.add_zero, Nat.reduceAdd, Nat.reduceLT, Nat.reduceLeDiff, Nat.reduceEqDiff, Nat.reduceBEq, Nat.reduceSub, ↓reduceIte, Int32.reduceOfNat, Int64.reduceOfNat, reduceCtorEq, Nat.le_refl, Nat.zero_le, Bool.false_eq_true, beq_self_eq_true, Fin.isValue, Fin.val_zero, Fin.val_one, Fin.reduceFinMk, Fin.val_two, Nat.reduceMod, Bool.or_false, Bool.or_true, Bool.true_or, Bool.false_or, not_true_eq_false, not_false_eq_true, true_or, or_true, implies_true, false_implies, true_implies, Int32.reduceLT, Int32.reduceLE, ↓w_TAB3, ↓w_TAB4, ↓w_TAB5, ↓w_TAB7, ↓w_TAB10, ↓w_LK2, ↓w_LK6, false_and, and_false, i1z, i2z, iz1, im0, im1, l0z, hasK_uI, hasK_uL, hasK_uR, hasK_uZ, hasK_sRow, mR_uI, mR_uL, mR_uZ, mR_sRow, mI_uL, mI_uR, mI_uZ, mL_uI, mL_uR, mL_uZ, mL_sRow, LF.hg hL, layF, LF.r hL, refF, ne_eq, not_false_eq_true, Option.some.injEq, Sum.inl.injEq, Sum.inr.injEq, Prod.mk.injEq, exists_eq_left, exists_eq_left', h.2.2.2, hsz, e28, c2]
  refine and_ii (fun q => ?_) (fun q => ?_)
  rotate_left
  · refine m_fails (e := (1, t.length)) h.1 h0.1 h.2.1 rfl rfl (by simp) (fun M' hb _ => ⟨rfl, ?_⟩)
    refine r_X12_takeMaps (fun n => n == 23 || n == 68 || n == 116 || n == 137 || n == 190) 60 ?_
    simp only [cd_X12_takeMaps, cf_X12_takeMaps, wp, wq, wpI, cdF, w_CI, w_CL, w_CN, w_LI, w_LL, w_LA, w_SI, w_SL, w_SA, w_INC, w_II, w_IId, w_LLb, w_LLd, w_LS, w_I1, w_L1, w_I2L, w_L2I, w_CMP, w_DUP, w_POP, w_DUP2, w_IF, w_IC, w_GO, w_NUL, w_ACN, prs, w_GF, w_PF, w_GS, w_IAL, w_LEN, w_LAL, w_ZAL, w_AAL, w_IAS, w_LAS, w_ZAS, w_AAS, w_RI, w_RL, w_RA, w_NEW, w_NA, w_MNA, w_OI, w_THR, w_CV, w_CS, w_CN9, w_CI9, w_MX, w_cont, lget, sto1, sto2, wideV, vo, vo_rv, isR, isR_rv, rv, fget, fput, cats, Value.category, List.headD_cons, List.getD_cons_zero, List.getD_cons_succ, List.drop_succ_cons, List.drop_zero, List.take_succ_cons, List.take_zero, List.reverse_cons, List.reverse_nil, List.nil_append, List.cons_append, List.length_cons, List.length_nil, cond_true, cond_false, and_true, true_and, Nat.zero_add, Nat.add_zero, Nat.reduceAdd, Nat.reduceLT, Nat.reduceLeDiff, Nat.reduceEqDiff, Nat.reduceBEq, Nat.reduceSub, ↓reduceIte, Int32.reduceOfNat, Int64.reduceOfNat, reduceCtorEq, Nat.le_refl, Nat.zero_le, Bool.false_eq_true, beq_self_eq_true, Fin.isValue, Fin.val_zero, Fin.val_one, Fin.reduceFinMk, Fin.val_two, Nat.reduceMod, Bool.or_false, Bool.or_true, Bool.true_or, Bool.false_or, not_true_eq_false, not_false_eq_true, true_or, or_true, implies_true, false_implies, true_implies, Int32.reduceLT, Int32.reduceLE, ↓w_TAB3, ↓w_TAB4, ↓w_TAB5, ↓w_TAB7, ↓w_TAB10, ↓w_LK2, ↓w_LK6, false_and, and_false, i1z, i2z, iz1, im0, im1, l0z]
    exact h2 _ (by unfold chM; rw [if_pos (by (simp only [i_lt, i_le, i_eq, l_lt, l_le, l_eq, Int32.toInt_toInt64, Int32.reduceToInt, Int64.reduceToInt, ne_eq, Classical.not_not] at *; omega))]) M' hb
  have hl10 : 10 ≤ t.length := by (simp only [i_lt, i_le, i_eq, l_lt, l_le, l_eq, Int32.toInt_toInt64, Int32.reduceToInt, Int64.reduceToInt, ne_eq, Classical.not_not] at *; omega)
  have htp := hT.2.1.2 2 (by omega)
  have hb := getD_256 (i := 2) h0.2.2.1
  have tb := nI_toInt (n := t.getD 2 0) (by omega)
  have htw : twM t = 1 ↔ 127 < t.getD 2 0 := by
    unfold twM btM
    show t.getD 2 0 / 128 % 2 = 1 ↔ _
    omega
  have hmain : ∀ wd : Nat, (wd = if twM t = 1 then 16 else 8) → Go G (MT 218) Q X 45 [some (.ref 495), none, none, none, none] [.int (nI wd)] M 0 0 := fun wd ewd => by
    have hwd : wd = 8 ∨ wd = 16 := by rw [ewd]; split <;> omega
    have ew : nI 2 + nI wd = nI (2 + wd) := nI_add _ _
    have tw := nI_toInt (n := 2 + wd) (by omega)
    refine r_X12_takeMaps (fun n => n == 73 || n == 23 || n == 68 || n == 116 || n == 137 || n == 190) 60 ?_
    simp only [cd_X12_takeMaps, cf_X12_takeMaps, wp, wq, wpI, cdF, w_CI, w_CL, w_CN, w_LI, w_LL, w_LA, w_SI, w_SL, w_SA, w_INC, w_II, w_IId, w_LLb, w_LLd, w_LS, w_I1, w_L1, w_I2L, w_L2I, w_CMP, w_DUP, w_POP, w_DUP2, w_IF, w_IC, w_GO, w_NUL, w_ACN, prs, w_GF, w_PF, w_GS, w_IAL, w_LEN, w_LAL, w_ZAL, w_AAL, w_IAS, w_LAS, w_ZAS, w_AAS, w_RI, w_RL, w_RA, w_NEW, w_NA, w_MNA, w_OI, w_THR, w_CV, w_CS, w_CN9, w_CI9, w_MX, w_cont, lget, sto1, sto2, wideV, vo, vo_rv, isR, isR_rv, rv, fget, fput, cats, Value.category, List.headD_cons, List.getD_cons_zero, List.getD_cons_succ, List.drop_succ_cons, List.drop_zero, List.take_succ_cons, List.take_zero, List.reverse_cons, List.reverse_nil, List.nil_append, List.cons_append, List.length_cons, List.length_nil, cond_true, cond_false, and_true, true_and, Nat.zero_add, Nat.add_zero, Nat.reduceAdd, Nat.reduceLT, Nat.reduceLeDiff, Nat.reduceEqDiff, Nat.reduceBEq, Nat.reduceSub, ↓reduceIte, Int32.reduceOfNat, Int64.reduceOfNat, reduceCtorEq, Nat.le_refl, Nat.zero_le, Bool.false_eq_true, beq_self_eq_true, Fin.isValue, Fin.val_zero, Fin.val_one, Fin.reduceFinMk, Fin.val_two, Nat.reduceMod, Bool.or_false, Bool.or_true, Bool.true_or, Bool.false_or, not_true_eq_false, not_false_eq_true, true_or, or_true, implies_true, false_implies, true_implies, Int32.reduceLT, Int32.reduceLE, ↓w_TAB3, ↓w_TAB4, ↓w_TAB5, ↓w_TAB7, ↓w_TAB10, ↓w_LK2, ↓w_LK6, false_and, and_false, i1z, i2z, iz1, im0, im1, l0z, hasK_uI, hasK_uL, hasK_uR, hasK_uZ, hasK_sRow, mR_uI, mR_uL, mR_uZ, mR_sRow, mI_uL, mI_uR, mI_uZ, mL_uI, mL_uR, mL_uZ, mL_sRow, LF.hg hL, layF, LF.r hL, refF, ne_eq, not_false_eq_true, Option.some.injEq, Sum.inl.injEq, Sum.inr.injEq, Prod.mk.injEq, exists_eq_left, exists_eq_left', h.2.2.2, hsz, ew]
    refine and_ii (fun q2 => ?_) (fun q2 => ?_)
    rotate_left
    · refine m_fails (e := (1, t.length)) h.1 h0.1 h.2.1 rfl rfl (by simp) (fun M' hb _ => ⟨rfl, ?_⟩)
      refine r_X12_takeMaps (fun n => n == 23 || n == 68 || n == 116 || n == 137 || n == 190) 60 ?_
      simp only [cd_X12_takeMaps, cf_X12_takeMaps, wp, wq, wpI, cdF, w_CI, w_CL, w_CN, w_LI, w_LL, w_LA, w_SI, w_SL, w_SA, w_INC, w_II, w_IId, w_LLb, w_LLd, w_LS, w_I1, w_L1, w_I2L, w_L2I, w_CMP, w_DUP, w_POP, w_DUP2, w_IF, w_IC, w_GO, w_NUL, w_ACN, prs, w_GF, w_PF, w_GS, w_IAL, w_LEN, w_LAL, w_ZAL, w_AAL, w_IAS, w_LAS, w_ZAS, w_AAS, w_RI, w_RL, w_RA, w_NEW, w_NA, w_MNA, w_OI, w_THR, w_CV, w_CS, w_CN9, w_CI9, w_MX, w_cont, lget, sto1, sto2, wideV, vo, vo_rv, isR, isR_rv, rv, fget, fput, cats, Value.category, List.headD_cons, List.getD_cons_zero, List.getD_cons_succ, List.drop_succ_cons, List.drop_zero, List.take_succ_cons, List.take_zero, List.reverse_cons, List.reverse_nil, List.nil_append, List.cons_append, List.length_cons, List.length_nil, cond_true, cond_false, and_true, true_and, Nat.zero_add, Nat.add_zero, Nat.reduceAdd, Nat.reduceLT, Nat.reduceLeDiff, Nat.reduceEqDiff, Nat.reduceBEq, Nat.reduceSub, ↓reduceIte, Int32.reduceOfNat, Int64.reduceOfNat, reduceCtorEq, Nat.le_refl, Nat.zero_le, Bool.false_eq_true, beq_self_eq_true, Fin.isValue, Fin.val_zero, Fin.val_one, Fin.reduceFinMk, Fin.val_two, Nat.reduceMod, Bool.or_false, Bool.or_true, Bool.true_or, Bool.false_or, not_true_eq_false, not_false_eq_true, true_or, or_true, implies_true, false_implies, true_implies, Int32.reduceLT, Int32.reduceLE, ↓w_TAB3, ↓w_TAB4, ↓w_TAB5, ↓w_TAB7, ↓w_TAB10, ↓w_LK2, ↓w_LK6, false_and, and_false, i1z, i2z, iz1, im0, im1, l0z]
      refine h2 _ ?_ M' hb
      unfold chM
      rw [if_neg (by omega)]
      by_cases e1 : twM t = 1
      · rw [if_pos e1] at ewd
        rw [if_pos ⟨e1, by (simp only [i_lt, i_le, i_eq, l_lt, l_le, l_eq, Int32.toInt_toInt64, Int32.reduceToInt, Int64.reduceToInt, ne_eq, Classical.not_not] at *; omega)⟩]
      · rw [if_neg e1] at ewd
        exfalso; (simp only [i_lt, i_le, i_eq, l_lt, l_le, l_eq, Int32.toInt_toInt64, Int32.reduceToInt, Int64.reduceToInt, ne_eq, Classical.not_not] at *; omega)
    have hlen : 2 + wd ≤ t.length := by (simp only [i_lt, i_le, i_eq, l_lt, l_le, l_eq, Int32.toInt_toInt64, Int32.reduceToInt, Int64.reduceToInt, ne_eq, Classical.not_not] at *; omega)
    have hch : chM t = ((scM t (8 * wd - 1) 2).map (fun k => (4, 2 + (k - 1) / 8))).or (if twM t = 1 ∧ thM t 129 16 < 2048 then some (4, 10) else none) := by
      unfold chM
      rw [if_neg (by omega), if_neg (fun q3 => by rw [if_pos q3.1] at ewd; omega)]
      by_cases e1 : twM t = 1
      · rw [if_pos e1] at ewd; rw [if_pos e1, ewd]
      · rw [if_neg e1] at ewd; rw [if_neg e1, ewd]
    have t2 : thM t 2 16 = 0 := pb_ext thM_16 (by omega) (fun s hs => by
      rw [pb_thM, pb_0, if_neg]
      intro q
      have : ∀ s : Fin 16, 2 ≤ fnF s.val := by decide
      have := this ⟨s, hs⟩
      simp only at this
      omega)
    have hth : thM t (8 * wd + 1) 16 = thR t := by
      unfold thR
      by_cases e1 : twM t = 1
      · rw [if_pos e1] at ewd; rw [if_pos e1, ewd]
      · rw [if_neg e1] at ewd; rw [if_neg e1, ewd]
    -- the end of a bad map
    have hbadend : ∀ e M' (l : Int32), chM t = some e → bdN M0 M' e → mI M' 495 79 = nI 2 → Go G (MT 218) Q X 168 [some (.ref 495), some (.int (nI wd)), some (.int l), none, none] [] M' 0 0 := fun e M' l hc hb ha => by
      have hLb := rdN_L hb.1 h0.1
      have h190 : ∀ M2, bdN M0 M2 e → Go G (MT 218) Q X 190 [some (.ref 495), some (.int (nI wd)), some (.int l), none, none] [] M2 0 0 := fun M2 hb2 => by
        have hL2 := rdN_L hb2.1 h0.1
        refine r_X12_takeMaps (fun n => n == 23 || n == 68 || n == 116 || n == 137 || n == 190) 60 ?_
        simp only [cd_X12_takeMaps, cf_X12_takeMaps, wp, wq, wpI, cdF, w_CI, w_CL, w_CN, w_LI, w_LL, w_LA, w_SI, w_SL, w_SA, w_INC, w_II, w_IId, w_LLb, w_LLd, w_LS, w_I1, w_L1, w_I2L, w_L2I, w_CMP, w_DUP, w_POP, w_DUP2, w_IF, w_IC, w_GO, w_NUL, w_ACN, prs, w_GF, w_PF, w_GS, w_IAL, w_LEN, w_LAL, w_ZAL, w_AAL, w_IAS, w_LAS, w_ZAS, w_AAS, w_RI, w_RL, w_RA, w_NEW, w_NA, w_MNA, w_OI, w_THR, w_CV, w_CS, w_CN9, w_CI9, w_MX, w_cont, lget, sto1, sto2, wideV, vo, vo_rv, isR, isR_rv, rv, fget, fput, cats, Value.category, List.headD_cons, List.getD_cons_zero, List.getD_cons_succ, List.drop_succ_cons, List.drop_zero, List.take_succ_cons, List.take_zero, List.reverse_cons, List.reverse_nil, List.nil_append, List.cons_append, List.length_cons, List.length_nil, cond_true, cond_false, and_true, true_and, Nat.zero_add, Nat.add_zero, Nat.reduceAdd, Nat.reduceLT, Nat.reduceLeDiff, Nat.reduceEqDiff, Nat.reduceBEq, Nat.reduceSub, ↓reduceIte, Int32.reduceOfNat, Int64.reduceOfNat, reduceCtorEq, Nat.le_refl, Nat.zero_le, Bool.false_eq_true, beq_self_eq_true, Fin.isValue, Fin.val_zero, Fin.val_one, Fin.reduceFinMk, Fin.val_two, Nat.reduceMod, Bool.or_false, Bool.or_true, Bool.true_or, Bool.false_or, not_true_eq_false, not_false_eq_true, true_or, or_true, implies_true, false_implies, true_implies, Int32.reduceLT, Int32.reduceLE, ↓w_TAB3, ↓w_TAB4, ↓w_TAB5, ↓w_TAB7, ↓w_TAB10, ↓w_LK2, ↓w_LK6, false_and, and_false, i1z, i2z, iz1, im0, im1, l0z, hasK_uI, hasK_uL, hasK_uR, hasK_uZ, hasK_sRow, mR_uI, mR_uL, mR_uZ, mR_sRow, mI_uL, mI_uR, mI_uZ, mL_uI, mL_uR, mL_uZ, mL_sRow, LF.hg hL2, layF, LF.r hL2, refF, ne_eq, not_false_eq_true, Option.some.injEq, Sum.inl.injEq, Sum.inr.injEq, Prod.mk.injEq, exists_eq_left, exists_eq_left']
        exact h2 e hc _ ⟨rdN_u hb2.1 (by omega), by rw [mI_ne (by omega)]; exact hb2.2.1, by rw [mI_ne (by omega)]; exact hb2.2.2.1, hb2.2.2.2⟩
      refine r_X12_takeMaps (fun n => n == 190 || n == 23 || n == 68 || n == 116 || n == 137 || n == 190) 60 ?_
      simp only [cd_X12_takeMaps, cf_X12_takeMaps, wp, wq, wpI, cdF, w_CI, w_CL, w_CN, w_LI, w_LL, w_LA, w_SI, w_SL, w_SA, w_INC, w_II, w_IId, w_LLb, w_LLd, w_LS, w_I1, w_L1, w_I2L, w_L2I, w_CMP, w_DUP, w_POP, w_DUP2, w_IF, w_IC, w_GO, w_NUL, w_ACN, prs, w_GF, w_PF, w_GS, w_IAL, w_LEN, w_LAL, w_ZAL, w_AAL, w_IAS, w_LAS, w_ZAS, w_AAS, w_RI, w_RL, w_RA, w_NEW, w_NA, w_MNA, w_OI, w_THR, w_CV, w_CS, w_CN9, w_CI9, w_MX, w_cont, lget, sto1, sto2, wideV, vo, vo_rv, isR, isR_rv, rv, fget, fput, cats, Value.category, List.headD_cons, List.getD_cons_zero, List.getD_cons_succ, List.drop_succ_cons, List.drop_zero, List.take_succ_cons, List.take_zero, List.reverse_cons, List.reverse_nil, List.nil_append, List.cons_append, List.length_cons, List.length_nil, cond_true, cond_false, and_true, true_and, Nat.zero_add, Nat.add_zero, Nat.reduceAdd, Nat.reduceLT, Nat.reduceLeDiff, Nat.reduceEqDiff, Nat.reduceBEq, Nat.reduceSub, ↓reduceIte, Int32.reduceOfNat, Int64.reduceOfNat, reduceCtorEq, Nat.le_refl, Nat.zero_le, Bool.false_eq_true, beq_self_eq_true, Fin.isValue, Fin.val_zero, Fin.val_one, Fin.reduceFinMk, Fin.val_two, Nat.reduceMod, Bool.or_false, Bool.or_true, Bool.true_or, Bool.false_or, not_true_eq_false, not_false_eq_true, true_or, or_true, implies_true, false_implies, true_implies, Int32.reduceLT, Int32.reduceLE, ↓w_TAB3, ↓w_TAB4, ↓w_TAB5, ↓w_TAB7, ↓w_TAB10, ↓w_LK2, ↓w_LK6, false_and, and_false, i1z, i2z, iz1, im0, im1, l0z, hasK_uI, hasK_uL, hasK_uR, hasK_uZ, hasK_sRow, mR_uI, mR_uL, mR_uZ, mR_sRow, mI_uL, mI_uR, mI_uZ, mL_uI, mL_uR, mL_uZ, mL_sRow, LF.hg hLb, layF, LF.r hLb, refF, ne_eq, not_false_eq_true, Option.some.injEq, Sum.inl.injEq, Sum.inr.injEq, Prod.mk.injEq, exists_eq_left, exists_eq_left', ha]
      refine and_ii (fun _ => h190 M' hb) (fun _ => and_ii (fun _ => h190 M' hb) (fun _ => ?_))
      refine m_fails2 hb h0.1 ⟨rfl, ?_⟩
      exact h190 M' hb
    have lp := lp_mapsN (G := G) (Q := Q) (X := X) (M0 := M0) (t := t) (ty := ty) (wd := wd) h0 hwd hlen ?_ (fun k hsc M' l hb ha => hbadend _ M' l (by rw [hch, hsc]; rfl) hb ha) (8 * wd - 1) 1 0 none (by omega) (by omega) (by omega) (by rw [t2]; omega) rfl M h (by rw [t2]; exact hz) hty
    · exact lp
    · intro M2 l hl hl0 r2 z2 ty2 hsc
      rw [hsc] at hch
      rw [hth] at hl0 z2
      have hL2 := rdN_L r2.1 h0.1
      have tl0 := nI_toInt (n := l) (by omega)
      have tww := nI_toInt (n := wd) (by omega)
      have ew2 : nI 2 + nI wd = nI (if twM t = 1 then 18 else 10) := by
        rw [nI_add]
        congr 1
        rw [ewd]; split <;> omega
      have hok : ∀ q : ¬ (twM t = 1 ∧ thM t 129 16 < 2048), Go G (MT 218) Q X 190 [some (.ref 495), some (.int (nI wd)), some (.int (nI l)), none, none] [] M2 0 0 := fun q => by
        rw [if_neg q] at hch
        refine r_X12_takeMaps (fun n => n == 23 || n == 68 || n == 116 || n == 137 || n == 190) 60 ?_
        simp only [cd_X12_takeMaps, cf_X12_takeMaps, wp, wq, wpI, cdF, w_CI, w_CL, w_CN, w_LI, w_LL, w_LA, w_SI, w_SL, w_SA, w_INC, w_II, w_IId, w_LLb, w_LLd, w_LS, w_I1, w_L1, w_I2L, w_L2I, w_CMP, w_DUP, w_POP, w_DUP2, w_IF, w_IC, w_GO, w_NUL, w_ACN, prs, w_GF, w_PF, w_GS, w_IAL, w_LEN, w_LAL, w_ZAL, w_AAL, w_IAS, w_LAS, w_ZAS, w_AAS, w_RI, w_RL, w_RA, w_NEW, w_NA, w_MNA, w_OI, w_THR, w_CV, w_CS, w_CN9, w_CI9, w_MX, w_cont, lget, sto1, sto2, wideV, vo, vo_rv, isR, isR_rv, rv, fget, fput, cats, Value.category, List.headD_cons, List.getD_cons_zero, List.getD_cons_succ, List.drop_succ_cons, List.drop_zero, List.take_succ_cons, List.take_zero, List.reverse_cons, List.reverse_nil, List.nil_append, List.cons_append, List.length_cons, List.length_nil, cond_true, cond_false, and_true, true_and, Nat.zero_add, Nat.add_zero, Nat.reduceAdd, Nat.reduceLT, Nat.reduceLeDiff, Nat.reduceEqDiff, Nat.reduceBEq, Nat.reduceSub, ↓reduceIte, Int32.reduceOfNat, Int64.reduceOfNat, reduceCtorEq, Nat.le_refl, Nat.zero_le, Bool.false_eq_true, beq_self_eq_true, Fin.isValue, Fin.val_zero, Fin.val_one, Fin.reduceFinMk, Fin.val_two, Nat.reduceMod, Bool.or_false, Bool.or_true, Bool.true_or, Bool.false_or, not_true_eq_false, not_false_eq_true, true_or, or_true, implies_true, false_implies, true_implies, Int32.reduceLT, Int32.reduceLE, ↓w_TAB3, ↓w_TAB4, ↓w_TAB5, ↓w_TAB7, ↓w_TAB10, ↓w_LK2, ↓w_LK6, false_and, and_false, i1z, i2z, iz1, im0, im1, l0z, hasK_uI, hasK_uL, hasK_uR, hasK_uZ, hasK_sRow, mR_uI, mR_uL, mR_uZ, mR_sRow, mI_uL, mI_uR, mI_uZ, mL_uI, mL_uR, mL_uZ, mL_sRow, LF.hg hL2, layF, LF.r hL2, refF, ne_eq, not_false_eq_true, Option.some.injEq, Sum.inl.injEq, Sum.inr.injEq, Prod.mk.injEq, exists_eq_left, exists_eq_left', r2.2.2.2, ew2]
        exact h1 hch _ ⟨rdN_u r2.1 (by omega), by rw [mI_ne (by omega)]; exact r2.2.1, by rw [mI_ne (by omega)]; exact r2.2.2.1, by rw [mI_uI, if_pos ⟨rfl, rfl⟩]⟩ (fun s hs => by rw [mI_ne (by omega)]; exact z2 s hs) (by rw [mI_ne (by omega)]; exact ty2)
      have hthr : twM t = 1 → thR t = thM t 129 16 := fun q => by unfold thR; rw [if_pos q]
      refine r_X12_takeMaps (fun n => n == 190 || n == 23 || n == 68 || n == 116 || n == 137 || n == 190) 60 ?_
      simp only [cd_X12_takeMaps, cf_X12_takeMaps, wp, wq, wpI, cdF, w_CI, w_CL, w_CN, w_LI, w_LL, w_LA, w_SI, w_SL, w_SA, w_INC, w_II, w_IId, w_LLb, w_LLd, w_LS, w_I1, w_L1, w_I2L, w_L2I, w_CMP, w_DUP, w_POP, w_DUP2, w_IF, w_IC, w_GO, w_NUL, w_ACN, prs, w_GF, w_PF, w_GS, w_IAL, w_LEN, w_LAL, w_ZAL, w_AAL, w_IAS, w_LAS, w_ZAS, w_AAS, w_RI, w_RL, w_RA, w_NEW, w_NA, w_MNA, w_OI, w_THR, w_CV, w_CS, w_CN9, w_CI9, w_MX, w_cont, lget, sto1, sto2, wideV, vo, vo_rv, isR, isR_rv, rv, fget, fput, cats, Value.category, List.headD_cons, List.getD_cons_zero, List.getD_cons_succ, List.drop_succ_cons, List.drop_zero, List.take_succ_cons, List.take_zero, List.reverse_cons, List.reverse_nil, List.nil_append, List.cons_append, List.length_cons, List.length_nil, cond_true, cond_false, and_true, true_and, Nat.zero_add, Nat.add_zero, Nat.reduceAdd, Nat.reduceLT, Nat.reduceLeDiff, Nat.reduceEqDiff, Nat.reduceBEq, Nat.reduceSub, ↓reduceIte, Int32.reduceOfNat, Int64.reduceOfNat, reduceCtorEq, Nat.le_refl, Nat.zero_le, Bool.false_eq_true, beq_self_eq_true, Fin.isValue, Fin.val_zero, Fin.val_one, Fin.reduceFinMk, Fin.val_two, Nat.reduceMod, Bool.or_false, Bool.or_true, Bool.true_or, Bool.false_or, not_true_eq_false, not_false_eq_true, true_or, or_true, implies_true, false_implies, true_implies, Int32.reduceLT, Int32.reduceLE, ↓w_TAB3, ↓w_TAB4, ↓w_TAB5, ↓w_TAB7, ↓w_TAB10, ↓w_LK2, ↓w_LK6, false_and, and_false, i1z, i2z, iz1, im0, im1, l0z, hasK_uI, hasK_uL, hasK_uR, hasK_uZ, hasK_sRow, mR_uI, mR_uL, mR_uZ, mR_sRow, mI_uL, mI_uR, mI_uZ, mL_uI, mL_uR, mL_uZ, mL_sRow, LF.hg hL2, layF, LF.r hL2, refF, ne_eq, not_false_eq_true, Option.some.injEq, Sum.inl.injEq, Sum.inr.injEq, Prod.mk.injEq, exists_eq_left, exists_eq_left', r2.2.2.2]
      refine and_ii (fun q3 => hok (fun q4 => ?_)) (fun q3 => and_ii (fun q4 => hok (fun q5 => ?_)) (fun q4 => ?_))
      · rw [if_pos q4.1] at ewd; rw [ewd] at q3; exact q3 rfl
      · rw [hthr q5.1] at hl0
        have : l = 0 := hl0.mpr q5.2
        rw [this] at q4; exact q4 rfl
      · have e16 : wd = 16 := by (simp only [i_lt, i_le, i_eq, l_lt, l_le, l_eq, Int32.toInt_toInt64, Int32.reduceToInt, Int64.reduceToInt, ne_eq, Classical.not_not] at *; omega)
        have e1 : twM t = 1 := by
          apply Classical.byContradiction
          intro q; rw [if_neg q] at ewd; omega
        have el : l = 0 := by (simp only [i_lt, i_le, i_eq, l_lt, l_le, l_eq, Int32.toInt_toInt64, Int32.reduceToInt, Int64.reduceToInt, ne_eq, Classical.not_not] at *; omega)
        rw [hthr e1] at hl0
        rw [if_pos ⟨e1, hl0.mp el⟩] at hch
        refine m_fails (e := (4, 10)) r2.1 h0.1 r2.2.1 rfl e28 (by simp) (fun M' hb ho => ⟨rfl, ?_⟩)
        have hLb := rdN_L hb.1 h0.1
        refine r_X12_takeMaps (fun n => n == 23 || n == 68 || n == 116 || n == 137 || n == 190) 60 ?_
        simp only [cd_X12_takeMaps, cf_X12_takeMaps, wp, wq, wpI, cdF, w_CI, w_CL, w_CN, w_LI, w_LL, w_LA, w_SI, w_SL, w_SA, w_INC, w_II, w_IId, w_LLb, w_LLd, w_LS, w_I1, w_L1, w_I2L, w_L2I, w_CMP, w_DUP, w_POP, w_DUP2, w_IF, w_IC, w_GO, w_NUL, w_ACN, prs, w_GF, w_PF, w_GS, w_IAL, w_LEN, w_LAL, w_ZAL, w_AAL, w_IAS, w_LAS, w_ZAS, w_AAS, w_RI, w_RL, w_RA, w_NEW, w_NA, w_MNA, w_OI, w_THR, w_CV, w_CS, w_CN9, w_CI9, w_MX, w_cont, lget, sto1, sto2, wideV, vo, vo_rv, isR, isR_rv, rv, fget, fput, cats, Value.category, List.headD_cons, List.getD_cons_zero, List.getD_cons_succ, List.drop_succ_cons, List.drop_zero, List.take_succ_cons, List.take_zero, List.reverse_cons, List.reverse_nil, List.nil_append, List.cons_append, List.length_cons, List.length_nil, cond_true, cond_false, and_true, true_and, Nat.zero_add, Nat.add_zero, Nat.reduceAdd, Nat.reduceLT, Nat.reduceLeDiff, Nat.reduceEqDiff, Nat.reduceBEq, Nat.reduceSub, ↓reduceIte, Int32.reduceOfNat, Int64.reduceOfNat, reduceCtorEq, Nat.le_refl, Nat.zero_le, Bool.false_eq_true, beq_self_eq_true, Fin.isValue, Fin.val_zero, Fin.val_one, Fin.reduceFinMk, Fin.val_two, Nat.reduceMod, Bool.or_false, Bool.or_true, Bool.true_or, Bool.false_or, not_true_eq_false, not_false_eq_true, true_or, or_true, implies_true, false_implies, true_implies, Int32.reduceLT, Int32.reduceLE, ↓w_TAB3, ↓w_TAB4, ↓w_TAB5, ↓w_TAB7, ↓w_TAB10, ↓w_LK2, ↓w_LK6, false_and, and_false, i1z, i2z, iz1, im0, im1, l0z, hasK_uI, hasK_uL, hasK_uR, hasK_uZ, hasK_sRow, mR_uI, mR_uL, mR_uZ, mR_sRow, mI_uL, mI_uR, mI_uZ, mL_uI, mL_uR, mL_uZ, mL_sRow, LF.hg hLb, layF, LF.r hLb, refF, ne_eq, not_false_eq_true, Option.some.injEq, Sum.inl.injEq, Sum.inr.injEq, Prod.mk.injEq, exists_eq_left, exists_eq_left']
        exact h2 _ hch _ ⟨rdN_u hb.1 (by omega), by rw [mI_ne (by omega)]; exact hb.2.1, by rw [mI_ne (by omega)]; exact hb.2.2.1, hb.2.2.2⟩
  simp only [htp]
  refine ⟨vp_in_nI (by omega) (by omega), and_ii (fun q3 => hmain 8 ?_) (fun q3 => hmain 16 ?_)⟩
  · rw [if_neg (by rw [htw]; (simp only [i_lt, i_le, i_eq, l_lt, l_le, l_eq, Int32.toInt_toInt64, Int32.reduceToInt, Int64.reduceToInt, ne_eq, Classical.not_not] at *; omega))]
  · rw [if_pos (by rw [htw]; (simp only [i_lt, i_le, i_eq, l_lt, l_le, l_eq, Int32.toInt_toInt64, Int32.reduceToInt, Int64.reduceToInt, ne_eq, Classical.not_not] at *; omega))]
/-- the fields below s with all their signs; those above are only named -/
def rsF (M : Mem) (ty th s : Nat) (ln : Nat → Nat) (sg : Nat → Nat → Nat) : Prop := mI M 495 67 = nI ty ∧ ∀ s', s' < 16 → (pb th s' = 0 → mI M 542 s' = -1) ∧ (pb th s' = 1 → (s' < s → mI M 542 s' = nI (ln s') ∧ 1 ≤ ln s' ∧ ln s' ≤ 42 ∧ ∀ i, i < ln s' → mI M 541 (42 * s' + i) = nI (sg s' i)) ∧ (s ≤ s' → mI M 542 s' = 0))
theorem frm (hs : s < 16) : ∃ F, ((if ltF s then 2 else 0) + (if ldF s = 0 then 0 else 1) : Nat) = F ∧ F ≤ 3 ∧ (F % 2 = 1 ↔ ¬ ldF s = 0) ∧ (F < 2 ↔ ¬ ltF s = true) ∧ (¬ ldF s = 0 → (F = 1 ↔ ldF s = 2) ∧ (ldF s = 2 ∨ ldF s = 3)) := by
  refine ⟨_, rfl, ?_⟩
  have h : ∀ s : Fin 16, ((if ltF s.val then 2 else 0) + (if ldF s.val = 0 then 0 else 1)) ≤ 3 ∧ ((((if ltF s.val then 2 else 0) + (if ldF s.val = 0 then 0 else 1)) % 2 = 1) ↔ ¬ ldF s.val = 0) ∧ ((((if ltF s.val then 2 else 0) + (if ldF s.val = 0 then 0 else 1)) < 2) ↔ ¬ ltF s.val = true) ∧ (¬ ldF s.val = 0 → ((((if ltF s.val then 2 else 0) + (if ldF s.val = 0 then 0 else 1)) = 1) ↔ ldF s.val = 2) ∧ (ldF s.val = 2 ∨ ldF s.val = 3)) := by decide
  exact h ⟨s, hs⟩
set_option maxRecDepth 20000 in
theorem m_takeField (h0 : tpN M0 t) (h : rnO M0 M a) (ha : a ≤ 400) (hs : s < 16) (hx : x = nI s) (h1 : chF t s a = none → ∀ M', rnO M0 M' (a2 t s a) → mI M' 542 s = nI (lnR t s a) → (∀ i, i < lnR t s a → mI M' 541 (42 * s + i) = nI (sgs t s (a1 s a) (lnR t s a) i)) → (∀ j, j ≠ s → mI M' 542 j = mI M 542 j) → (∀ j, (j < 42 * s ∨ 42 * s + 42 ≤ j) → mI M' 541 j = mI M 541 j) → mI M' 495 67 = mI M 495 67 → Q none M') (h2 : ∀ e, chF t s a = some e → ∀ M', bdN M0 M' e → Q none M') : Ct G (MT 219) [.ref 495, .int x] M Q X := by
  subst hx
  have hT := h0.go h.1
  have hL := hT.1
  have cs := nI_clamp (n := s) (by omega)
  have hk := hT.2.2.2 s hs
  obtain ⟨F, eF, hF3, hF1, hF2, hF4⟩ := frm hs
  have hk0 := hk.2.2
  rw [eF] at hk0
  have hk1 := hk.2.1
  have hz : szF s ≤ 42 := by unfold szF; split <;> omega
  have tz := nI_toInt (n := szF s) (by omega)
  have tF := nI_toInt (n := F) (by omega)
  have tF2 := nI_toInt (n := F % 2) (by omega)
  have er : nI F - nI F / 2 * 2 = nI (F % 2) := nI_rem (b := 2) (by omega) (by omega) (by omega)
  have hv := vp_in_nI (n := s) (N := 16) hs (by omega)
  have k541 : hasK M0 541 (.inl (.int, 672)) := by rw [h0.1.hk]; rfl
  have k548 : hasK M0 548 (.inl (.int, 4)) := by rw [h0.1.hk]; rfl
  have e42 : (42 : Int32) * nI s = nI (42 * s) := nI_mul (a := 42) (by omega) (by omega) (by omega)
  have hcf : chF t s a = (chN t s a).or (chS t s (lnR t s a) (a1 s a)) := rfl
  -- the signs
  have hsig : ∀ (M1 : Mem) (l l' : Option Value), chN t s a = none → lnR t s a ≤ szF s → 1 ≤ lnR t s a → rnO M0 M1 (a1 s a) → (∀ j, mI M1 542 j = mI M 542 j) → (∀ j, mI M1 541 j = mI M 541 j) → mI M1 495 67 = mI M 495 67 → Go G (MT 219) Q X 133 [some (.ref 495), some (.int (nI s)), some (.int (nI (lnR t s a))), l, l'] [] M1 0 0 := fun M1 l l' hcn hle hge r1 o1 o2 o3 => by
    rw [hcn] at hcf
    have hcf : chF t s a = chS t s (lnR t s a) (a1 s a) := by rw [hcf]; rfl
    have hL1 := rdN_L r1.1 h0.1
    have hT1 := h0.go r1.1
    have hkk := (hT1.2.2.2 s hs).2.2
    rw [eF] at hkk
    have hkk' : mI (uI M1 542 s (nI (lnR t s a))) 498 s = nI F := by rw [mI_ne (by omega)]; exact hkk
    have r2 : rnO M0 (uI M1 542 s (nI (lnR t s a))) (a1 s a) := ⟨rdN_u r1.1 (by omega), by rw [mI_ne (by omega)]; exact r1.2.1, by rw [mI_ne (by omega)]; exact r1.2.2.1, by rw [mI_ne (by omega)]; exact r1.2.2.2⟩
    have p1 : mI (uI M1 542 s (nI (lnR t s a))) 542 s = nI (lnR t s a) := by rw [mI_uI, if_pos ⟨rfl, rfl⟩]
    have p2 : ∀ j, j ≠ s → mI (uI M1 542 s (nI (lnR t s a))) 542 j = mI M 542 j := fun j hj => by rw [mI_ne (by omega)]; exact o1 j
    have p3 : ∀ j, mI (uI M1 542 s (nI (lnR t s a))) 541 j = mI M 541 j := fun j => by rw [mI_ne (by omega)]; exact o2 j
    have p4 : mI (uI M1 542 s (nI (lnR t s a))) 495 67 = mI M 495 67 := by rw [mI_ne (by omega)]; exact o3
    have ha1 : a1 s a ≤ 410 := by
      have : ldF s ≤ 3 := by unfold ldF; split <;> omega
      unfold a1; omega
    refine r_X12_takeField (fun n => n == 52 || n == 132 || n == 163 || n == 179) 60 ?_
    simp only [cd_X12_takeField, cf_X12_takeField, wp, wq, wpI, cdF, w_CI, w_CL, w_CN, w_LI, w_LL, w_LA, w_SI, w_SL, w_SA, w_INC, w_II, w_IId, w_LLb, w_LLd, w_LS, w_I1, w_L1, w_I2L, w_L2I, w_CMP, w_DUP, w_POP, w_DUP2, w_IF, w_IC, w_GO, w_NUL, w_ACN, prs, w_GF, w_PF, w_GS, w_IAL, w_LEN, w_LAL, w_ZAL, w_AAL, w_IAS, w_LAS, w_ZAS, w_AAS, w_RI, w_RL, w_RA, w_NEW, w_NA, w_MNA, w_OI, w_THR, w_CV, w_CS, w_CN9, w_CI9, w_MX, w_cont, lget, sto1, sto2, wideV, vo, vo_rv, isR, isR_rv, rv, fget, fput, cats, Value.category, List.headD_cons, List.getD_cons_zero, List.getD_cons_succ, List.drop_succ_cons, List.drop_zero, List.take_succ_cons, List.take_zero, List.reverse_cons, List.reverse_nil, List.nil_append, List.cons_append, List.length_cons, List.length_nil, cond_true, cond_false, and_true, true_and, Nat.zero_add, Nat.add_zero, Nat.reduceAdd, Nat.reduceLT, Nat.reduceLeDiff, Nat.reduceEqDiff, Nat.reduceBEq, Nat.reduceSub, ↓reduceIte, Int32.reduceOfNat, Int64.reduceOfNat, reduceCtorEq, Nat.le_refl, Nat.zero_le, Bool.false_eq_true, beq_self_eq_true, Fin.isValue, Fin.val_zero, Fin.val_one, Fin.reduceFinMk, Fin.val_two, Nat.reduceMod, Bool.or_false, Bool.or_true, Bool.true_or, Bool.false_or, not_true_eq_false, not_false_eq_true, true_or, or_true, implies_true, false_implies, true_implies, Int32.reduceLT, Int32.reduceLE, ↓w_TAB3, ↓w_TAB4, ↓w_TAB5, ↓w_TAB7, ↓w_TAB10, ↓w_LK2, ↓w_LK6, false_and, and_false, i1z, i2z, iz1, im0, im1, l0z, hasK_uI, hasK_uL, hasK_uR, hasK_uZ, hasK_sRow, mR_uI, mR_uL, mR_uZ, mR_sRow, mI_uL, mI_uR, mI_uZ, mL_uI, mL_uR, mL_uZ, mL_sRow, LF.hg hL1, layF, LF.r hL1, refF, ne_eq, not_false_eq_true, Option.some.injEq, Sum.inl.injEq, Sum.inr.injEq, Prod.mk.injEq, exists_eq_left, exists_eq_left', cs, hkk', e42]
    refine ⟨hv, hv, ?_⟩
    have hL2 := rdN_L r2.1 h0.1
    generalize uI M1 542 s (nI (lnR t s a)) = M2 at *
    refine and_ii (fun q => ?_) (fun q => ?_)
    · have hlt : ltF s = true := by
        apply Classical.byContradiction
        intro q2
        have := hF2.mpr q2
        (simp only [i_lt, i_le, i_eq, l_lt, l_le, l_eq, Int32.toInt_toInt64, Int32.reduceToInt, Int64.reduceToInt, ne_eq, Classical.not_not] at *; omega)
      have hcs : chS t s (lnR t s a) (a1 s a) = chL t (lnR t s a) (a1 s a) := by unfold chS; rw [if_pos hlt]
      refine m_takeL (a := a1 s a) (n := lnR t s a) (r := 541) (p := 42 * s) h0 r2 (by omega) (by omega) rfl k541 (by omega) rfl rfl (fun q3 M3 r3 row3 o4 => ⟨rfl, ?_⟩) (fun e q3 M' hb => ⟨rfl, ?_⟩)
      · refine r_X12_takeField (fun n => n == 52 || n == 132 || n == 163 || n == 179) 60 ?_
        simp only [cd_X12_takeField, cf_X12_takeField, wp, wq, wpI, cdF, w_CI, w_CL, w_CN, w_LI, w_LL, w_LA, w_SI, w_SL, w_SA, w_INC, w_II, w_IId, w_LLb, w_LLd, w_LS, w_I1, w_L1, w_I2L, w_L2I, w_CMP, w_DUP, w_POP, w_DUP2, w_IF, w_IC, w_GO, w_NUL, w_ACN, prs, w_GF, w_PF, w_GS, w_IAL, w_LEN, w_LAL, w_ZAL, w_AAL, w_IAS, w_LAS, w_ZAS, w_AAS, w_RI, w_RL, w_RA, w_NEW, w_NA, w_MNA, w_OI, w_THR, w_CV, w_CS, w_CN9, w_CI9, w_MX, w_cont, lget, sto1, sto2, wideV, vo, vo_rv, isR, isR_rv, rv, fget, fput, cats, Value.category, List.headD_cons, List.getD_cons_zero, List.getD_cons_succ, List.drop_succ_cons, List.drop_zero, List.take_succ_cons, List.take_zero, List.reverse_cons, List.reverse_nil, List.nil_append, List.cons_append, List.length_cons, List.length_nil, cond_true, cond_false, and_true, true_and, Nat.zero_add, Nat.add_zero, Nat.reduceAdd, Nat.reduceLT, Nat.reduceLeDiff, Nat.reduceEqDiff, Nat.reduceBEq, Nat.reduceSub, ↓reduceIte, Int32.reduceOfNat, Int64.reduceOfNat, reduceCtorEq, Nat.le_refl, Nat.zero_le, Bool.false_eq_true, beq_self_eq_true, Fin.isValue, Fin.val_zero, Fin.val_one, Fin.reduceFinMk, Fin.val_two, Nat.reduceMod, Bool.or_false, Bool.or_true, Bool.true_or, Bool.false_or, not_true_eq_false, not_false_eq_true, true_or, or_true, implies_true, false_implies, true_implies, Int32.reduceLT, Int32.reduceLE, ↓w_TAB3, ↓w_TAB4, ↓w_TAB5, ↓w_TAB7, ↓w_TAB10, ↓w_LK2, ↓w_LK6, false_and, and_false, i1z, i2z, iz1, im0, im1, l0z]
        refine h1 (by rw [hcf, hcs, q3]) M3 ?_ ?_ ?_ ?_ ?_ ?_
        · unfold a2 avF; rw [if_pos hlt]; exact r3
        · rw [o4 _ _ (by omega) (by omega)]; exact p1
        · unfold sgs; rw [if_pos hlt]; exact row3
        · intro j hj; rw [o4 _ _ (by omega) (by omega)]; exact p2 j hj
        · intro j hj; rw [o4 _ _ (by omega) (by omega)]; exact p3 j
        · rw [o4 _ _ (by omega) (by omega)]; exact p4
      · refine r_X12_takeField (fun n => n == 52 || n == 132 || n == 163 || n == 179) 60 ?_
        simp only [cd_X12_takeField, cf_X12_takeField, wp, wq, wpI, cdF, w_CI, w_CL, w_CN, w_LI, w_LL, w_LA, w_SI, w_SL, w_SA, w_INC, w_II, w_IId, w_LLb, w_LLd, w_LS, w_I1, w_L1, w_I2L, w_L2I, w_CMP, w_DUP, w_POP, w_DUP2, w_IF, w_IC, w_GO, w_NUL, w_ACN, prs, w_GF, w_PF, w_GS, w_IAL, w_LEN, w_LAL, w_ZAL, w_AAL, w_IAS, w_LAS, w_ZAS, w_AAS, w_RI, w_RL, w_RA, w_NEW, w_NA, w_MNA, w_OI, w_THR, w_CV, w_CS, w_CN9, w_CI9, w_MX, w_cont, lget, sto1, sto2, wideV, vo, vo_rv, isR, isR_rv, rv, fget, fput, cats, Value.category, List.headD_cons, List.getD_cons_zero, List.getD_cons_succ, List.drop_succ_cons, List.drop_zero, List.take_succ_cons, List.take_zero, List.reverse_cons, List.reverse_nil, List.nil_append, List.cons_append, List.length_cons, List.length_nil, cond_true, cond_false, and_true, true_and, Nat.zero_add, Nat.add_zero, Nat.reduceAdd, Nat.reduceLT, Nat.reduceLeDiff, Nat.reduceEqDiff, Nat.reduceBEq, Nat.reduceSub, ↓reduceIte, Int32.reduceOfNat, Int64.reduceOfNat, reduceCtorEq, Nat.le_refl, Nat.zero_le, Bool.false_eq_true, beq_self_eq_true, Fin.isValue, Fin.val_zero, Fin.val_one, Fin.reduceFinMk, Fin.val_two, Nat.reduceMod, Bool.or_false, Bool.or_true, Bool.true_or, Bool.false_or, not_true_eq_false, not_false_eq_true, true_or, or_true, implies_true, false_implies, true_implies, Int32.reduceLT, Int32.reduceLE, ↓w_TAB3, ↓w_TAB4, ↓w_TAB5, ↓w_TAB7, ↓w_TAB10, ↓w_LK2, ↓w_LK6, false_and, and_false, i1z, i2z, iz1, im0, im1, l0z]
        exact h2 e (by rw [hcf, hcs, q3]) M' hb
    · have hlt : ¬ ltF s = true := hF2.mp (by (simp only [i_lt, i_le, i_eq, l_lt, l_le, l_eq, Int32.toInt_toInt64, Int32.reduceToInt, Int64.reduceToInt, ne_eq, Classical.not_not] at *; omega))
      have hcs : chS t s (lnR t s a) (a1 s a) = chD t (lnR t s a) (a1 s a) := by unfold chS; rw [if_neg hlt]
      refine m_takeD (a := a1 s a) (n := lnR t s a) (r := 541) (p := 42 * s) h0 r2 (by omega) (by omega) (Or.inl rfl) k541 (by omega) rfl rfl (fun q3 M3 r3 row3 o4 => ⟨rfl, ?_⟩) (fun e q3 M' hb => ⟨rfl, ?_⟩)
      · refine r_X12_takeField (fun n => n == 52 || n == 132 || n == 163 || n == 179) 60 ?_
        simp only [cd_X12_takeField, cf_X12_takeField, wp, wq, wpI, cdF, w_CI, w_CL, w_CN, w_LI, w_LL, w_LA, w_SI, w_SL, w_SA, w_INC, w_II, w_IId, w_LLb, w_LLd, w_LS, w_I1, w_L1, w_I2L, w_L2I, w_CMP, w_DUP, w_POP, w_DUP2, w_IF, w_IC, w_GO, w_NUL, w_ACN, prs, w_GF, w_PF, w_GS, w_IAL, w_LEN, w_LAL, w_ZAL, w_AAL, w_IAS, w_LAS, w_ZAS, w_AAS, w_RI, w_RL, w_RA, w_NEW, w_NA, w_MNA, w_OI, w_THR, w_CV, w_CS, w_CN9, w_CI9, w_MX, w_cont, lget, sto1, sto2, wideV, vo, vo_rv, isR, isR_rv, rv, fget, fput, cats, Value.category, List.headD_cons, List.getD_cons_zero, List.getD_cons_succ, List.drop_succ_cons, List.drop_zero, List.take_succ_cons, List.take_zero, List.reverse_cons, List.reverse_nil, List.nil_append, List.cons_append, List.length_cons, List.length_nil, cond_true, cond_false, and_true, true_and, Nat.zero_add, Nat.add_zero, Nat.reduceAdd, Nat.reduceLT, Nat.reduceLeDiff, Nat.reduceEqDiff, Nat.reduceBEq, Nat.reduceSub, ↓reduceIte, Int32.reduceOfNat, Int64.reduceOfNat, reduceCtorEq, Nat.le_refl, Nat.zero_le, Bool.false_eq_true, beq_self_eq_true, Fin.isValue, Fin.val_zero, Fin.val_one, Fin.reduceFinMk, Fin.val_two, Nat.reduceMod, Bool.or_false, Bool.or_true, Bool.true_or, Bool.false_or, not_true_eq_false, not_false_eq_true, true_or, or_true, implies_true, false_implies, true_implies, Int32.reduceLT, Int32.reduceLE, ↓w_TAB3, ↓w_TAB4, ↓w_TAB5, ↓w_TAB7, ↓w_TAB10, ↓w_LK2, ↓w_LK6, false_and, and_false, i1z, i2z, iz1, im0, im1, l0z]
        try (refine r_X12_takeField (fun n => n == 52 || n == 132 || n == 163 || n == 179) 60 ?_; simp only [cd_X12_takeField, cf_X12_takeField, wp, wq, wpI, cdF, w_CI, w_CL, w_CN, w_LI, w_LL, w_LA, w_SI, w_SL, w_SA, w_INC, w_II, w_IId, w_LLb, w_LLd, w_LS, w_I1, w_L1, w_I2L, w_L2I, w_CMP, w_DUP, w_POP, w_DUP2, w_IF, w_IC, w_GO, w_NUL, w_ACN, prs, w_GF, w_PF, w_GS, w_IAL, w_LEN, w_LAL, w_ZAL, w_AAL, w_IAS, w_LAS, w_ZAS, w_AAS, w_RI, w_RL, w_RA, w_NEW, w_NA, w_MNA, w_OI, w_THR, w_CV, w_CS, w_CN9, w_CI9, w_MX, w_cont, lget, sto1, sto2, wideV, vo, vo_rv, isR, isR_rv, rv, fget, fput, cats, Value.category, List.headD_cons, List.getD_cons_zero, List.getD_cons_succ, List.drop_succ_cons, List.drop_zero, List.take_succ_cons, List.take_zero, List.reverse_cons, List.reverse_nil, List.nil_append, List.cons_append, List.length_cons, List.length_nil, cond_true, cond_false, and_true, true_and, Nat.zero_add, Nat.add_zero, Nat.reduceAdd, Nat.reduceLT, Nat.reduceLeDiff, Nat.reduceEqDiff, Nat.reduceBEq, Nat.reduceSub, ↓reduceIte, Int32.reduceOfNat, Int64.reduceOfNat, reduceCtorEq, Nat.le_refl, Nat.zero_le, Bool.false_eq_true, beq_self_eq_true, Fin.isValue, Fin.val_zero, Fin.val_one, Fin.reduceFinMk, Fin.val_two, Nat.reduceMod, Bool.or_false, Bool.or_true, Bool.true_or, Bool.false_or, not_true_eq_false, not_false_eq_true, true_or, or_true, implies_true, false_implies, true_implies, Int32.reduceLT, Int32.reduceLE, ↓w_TAB3, ↓w_TAB4, ↓w_TAB5, ↓w_TAB7, ↓w_TAB10, ↓w_LK2, ↓w_LK6, false_and, and_false, i1z, i2z, iz1, im0, im1, l0z])
        refine h1 (by rw [hcf, hcs, q3]) M3 ?_ ?_ ?_ ?_ ?_ ?_
        · unfold a2 avF; rw [if_neg hlt]; exact r3
        · rw [o4 _ _ (by omega) (by omega)]; exact p1
        · unfold sgs; rw [if_neg hlt]; exact row3
        · intro j hj; rw [o4 _ _ (by omega) (by omega)]; exact p2 j hj
        · intro j hj; rw [o4 _ _ (by omega) (by omega)]; exact p3 j
        · rw [o4 _ _ (by omega) (by omega)]; exact p4
      · refine r_X12_takeField (fun n => n == 52 || n == 132 || n == 163 || n == 179) 60 ?_
        simp only [cd_X12_takeField, cf_X12_takeField, wp, wq, wpI, cdF, w_CI, w_CL, w_CN, w_LI, w_LL, w_LA, w_SI, w_SL, w_SA, w_INC, w_II, w_IId, w_LLb, w_LLd, w_LS, w_I1, w_L1, w_I2L, w_L2I, w_CMP, w_DUP, w_POP, w_DUP2, w_IF, w_IC, w_GO, w_NUL, w_ACN, prs, w_GF, w_PF, w_GS, w_IAL, w_LEN, w_LAL, w_ZAL, w_AAL, w_IAS, w_LAS, w_ZAS, w_AAS, w_RI, w_RL, w_RA, w_NEW, w_NA, w_MNA, w_OI, w_THR, w_CV, w_CS, w_CN9, w_CI9, w_MX, w_cont, lget, sto1, sto2, wideV, vo, vo_rv, isR, isR_rv, rv, fget, fput, cats, Value.category, List.headD_cons, List.getD_cons_zero, List.getD_cons_succ, List.drop_succ_cons, List.drop_zero, List.take_succ_cons, List.take_zero, List.reverse_cons, List.reverse_nil, List.nil_append, List.cons_append, List.length_cons, List.length_nil, cond_true, cond_false, and_true, true_and, Nat.zero_add, Nat.add_zero, Nat.reduceAdd, Nat.reduceLT, Nat.reduceLeDiff, Nat.reduceEqDiff, Nat.reduceBEq, Nat.reduceSub, ↓reduceIte, Int32.reduceOfNat, Int64.reduceOfNat, reduceCtorEq, Nat.le_refl, Nat.zero_le, Bool.false_eq_true, beq_self_eq_true, Fin.isValue, Fin.val_zero, Fin.val_one, Fin.reduceFinMk, Fin.val_two, Nat.reduceMod, Bool.or_false, Bool.or_true, Bool.true_or, Bool.false_or, not_true_eq_false, not_false_eq_true, true_or, or_true, implies_true, false_implies, true_implies, Int32.reduceLT, Int32.reduceLE, ↓w_TAB3, ↓w_TAB4, ↓w_TAB5, ↓w_TAB7, ↓w_TAB10, ↓w_LK2, ↓w_LK6, false_and, and_false, i1z, i2z, iz1, im0, im1, l0z]
        try (refine r_X12_takeField (fun n => n == 52 || n == 132 || n == 163 || n == 179) 60 ?_; simp only [cd_X12_takeField, cf_X12_takeField, wp, wq, wpI, cdF, w_CI, w_CL, w_CN, w_LI, w_LL, w_LA, w_SI, w_SL, w_SA, w_INC, w_II, w_IId, w_LLb, w_LLd, w_LS, w_I1, w_L1, w_I2L, w_L2I, w_CMP, w_DUP, w_POP, w_DUP2, w_IF, w_IC, w_GO, w_NUL, w_ACN, prs, w_GF, w_PF, w_GS, w_IAL, w_LEN, w_LAL, w_ZAL, w_AAL, w_IAS, w_LAS, w_ZAS, w_AAS, w_RI, w_RL, w_RA, w_NEW, w_NA, w_MNA, w_OI, w_THR, w_CV, w_CS, w_CN9, w_CI9, w_MX, w_cont, lget, sto1, sto2, wideV, vo, vo_rv, isR, isR_rv, rv, fget, fput, cats, Value.category, List.headD_cons, List.getD_cons_zero, List.getD_cons_succ, List.drop_succ_cons, List.drop_zero, List.take_succ_cons, List.take_zero, List.reverse_cons, List.reverse_nil, List.nil_append, List.cons_append, List.length_cons, List.length_nil, cond_true, cond_false, and_true, true_and, Nat.zero_add, Nat.add_zero, Nat.reduceAdd, Nat.reduceLT, Nat.reduceLeDiff, Nat.reduceEqDiff, Nat.reduceBEq, Nat.reduceSub, ↓reduceIte, Int32.reduceOfNat, Int64.reduceOfNat, reduceCtorEq, Nat.le_refl, Nat.zero_le, Bool.false_eq_true, beq_self_eq_true, Fin.isValue, Fin.val_zero, Fin.val_one, Fin.reduceFinMk, Fin.val_two, Nat.reduceMod, Bool.or_false, Bool.or_true, Bool.true_or, Bool.false_or, not_true_eq_false, not_false_eq_true, true_or, or_true, implies_true, false_implies, true_implies, Int32.reduceLT, Int32.reduceLE, ↓w_TAB3, ↓w_TAB4, ↓w_TAB5, ↓w_TAB7, ↓w_TAB10, ↓w_LK2, ↓w_LK6, false_and, and_false, i1z, i2z, iz1, im0, im1, l0z])
        exact h2 e (by rw [hcf, hcs, q3]) M' hb
  refine Ct.go (L0 := [some (.ref 495), some (.int (nI s)), none, none, none]) (by decide +kernel) rfl rfl ?_
  by_cases e0 : ldF s = 0
  · have hf2 : ¬ F % 2 = 1 := fun q => hF1.mp q e0
    have hne : (nI (F % 2) = 1) = False := eq_false (fun q => by (simp only [i_lt, i_le, i_eq, l_lt, l_le, l_eq, Int32.toInt_toInt64, Int32.reduceToInt, Int64.reduceToInt, ne_eq, Classical.not_not] at *; omega))
    have hlr : lnR t s a = szF s := by unfold lnR; rw [if_pos e0]
    refine r_X12_takeField (fun n => n == 133 || n == 52 || n == 132 || n == 163 || n == 179) 60 ?_
    simp only [cd_X12_takeField, cf_X12_takeField, wp, wq, wpI, cdF, w_CI, w_CL, w_CN, w_LI, w_LL, w_LA, w_SI, w_SL, w_SA, w_INC, w_II, w_IId, w_LLb, w_LLd, w_LS, w_I1, w_L1, w_I2L, w_L2I, w_CMP, w_DUP, w_POP, w_DUP2, w_IF, w_IC, w_GO, w_NUL, w_ACN, prs, w_GF, w_PF, w_GS, w_IAL, w_LEN, w_LAL, w_ZAL, w_AAL, w_IAS, w_LAS, w_ZAS, w_AAS, w_RI, w_RL, w_RA, w_NEW, w_NA, w_MNA, w_OI, w_THR, w_CV, w_CS, w_CN9, w_CI9, w_MX, w_cont, lget, sto1, sto2, wideV, vo, vo_rv, isR, isR_rv, rv, fget, fput, cats, Value.category, List.headD_cons, List.getD_cons_zero, List.getD_cons_succ, List.drop_succ_cons, List.drop_zero, List.take_succ_cons, List.take_zero, List.reverse_cons, List.reverse_nil, List.nil_append, List.cons_append, List.length_cons, List.length_nil, cond_true, cond_false, and_true, true_and, Nat.zero_add, Nat.add_zero, Nat.reduceAdd, Nat.reduceLT, Nat.reduceLeDiff, Nat.reduceEqDiff, Nat.reduceBEq, Nat.reduceSub, ↓reduceIte, Int32.reduceOfNat, Int64.reduceOfNat, reduceCtorEq, Nat.le_refl, Nat.zero_le, Bool.false_eq_true, beq_self_eq_true, Fin.isValue, Fin.val_zero, Fin.val_one, Fin.reduceFinMk, Fin.val_two, Nat.reduceMod, Bool.or_false, Bool.or_true, Bool.true_or, Bool.false_or, not_true_eq_false, not_false_eq_true, true_or, or_true, implies_true, false_implies, true_implies, Int32.reduceLT, Int32.reduceLE, ↓w_TAB3, ↓w_TAB4, ↓w_TAB5, ↓w_TAB7, ↓w_TAB10, ↓w_LK2, ↓w_LK6, false_and, and_false, i1z, i2z, iz1, im0, im1, l0z, hasK_uI, hasK_uL, hasK_uR, hasK_uZ, hasK_sRow, mR_uI, mR_uL, mR_uZ, mR_sRow, mI_uL, mI_uR, mI_uZ, mL_uI, mL_uR, mL_uZ, mL_sRow, LF.hk hL, layF, LF.r hL, refF, ne_eq, not_false_eq_true, Option.some.injEq, Sum.inl.injEq, Sum.inr.injEq, Prod.mk.injEq, exists_eq_left, exists_eq_left', cs, hk1, hk0, i2z]
    simp only [er, hne, not_false_eq_true, true_implies, false_implies, and_true, true_and, not_true_eq_false]
    refine ⟨hv, hv, ?_⟩
    have := hsig M none none (by unfold chN; rw [if_pos e0]) (by omega) (by rw [hlr]; exact szF_pos) (by unfold a1; rw [e0]; exact h) (fun _ => rfl) (fun _ => rfl) rfl
    rw [hlr] at this
    exact this
  · have hf2 : F % 2 = 1 := hF1.mpr e0
    have hf4 := hF4 e0
    have heq : (nI (F % 2) = 1) = True := eq_true (by rw [hf2]; rfl)
    have hcn0 : chN t s a = (chD t (ldF s) a).or (if lnR t s a < 1 ∨ szF s < lnR t s a then some (5, a) else none) := by unfold chN; rw [if_neg e0]
    have el : vl (dig t a (ldF s)) (ldF s) = lnR t s a := by unfold lnR; rw [if_neg e0]
    have hrest : ∀ (w : Nat), w = ldF s → Go G (MT 219) Q X 39 [some (.ref 495), some (.int (nI s)), some (.int (nI (szF s))), some (.int (nI a)), none] [.int (nI w)] M 0 0 := fun w ew => by
      refine r_X12_takeField (fun n => n == 52 || n == 132 || n == 163 || n == 179) 60 ?_
      simp only [cd_X12_takeField, cf_X12_takeField, wp, wq, wpI, cdF, w_CI, w_CL, w_CN, w_LI, w_LL, w_LA, w_SI, w_SL, w_SA, w_INC, w_II, w_IId, w_LLb, w_LLd, w_LS, w_I1, w_L1, w_I2L, w_L2I, w_CMP, w_DUP, w_POP, w_DUP2, w_IF, w_IC, w_GO, w_NUL, w_ACN, prs, w_GF, w_PF, w_GS, w_IAL, w_LEN, w_LAL, w_ZAL, w_AAL, w_IAS, w_LAS, w_ZAS, w_AAS, w_RI, w_RL, w_RA, w_NEW, w_NA, w_MNA, w_OI, w_THR, w_CV, w_CS, w_CN9, w_CI9, w_MX, w_cont, lget, sto1, sto2, wideV, vo, vo_rv, isR, isR_rv, rv, fget, fput, cats, Value.category, List.headD_cons, List.getD_cons_zero, List.getD_cons_succ, List.drop_succ_cons, List.drop_zero, List.take_succ_cons, List.take_zero, List.reverse_cons, List.reverse_nil, List.nil_append, List.cons_append, List.length_cons, List.length_nil, cond_true, cond_false, and_true, true_and, Nat.zero_add, Nat.add_zero, Nat.reduceAdd, Nat.reduceLT, Nat.reduceLeDiff, Nat.reduceEqDiff, Nat.reduceBEq, Nat.reduceSub, ↓reduceIte, Int32.reduceOfNat, Int64.reduceOfNat, reduceCtorEq, Nat.le_refl, Nat.zero_le, Bool.false_eq_true, beq_self_eq_true, Fin.isValue, Fin.val_zero, Fin.val_one, Fin.reduceFinMk, Fin.val_two, Nat.reduceMod, Bool.or_false, Bool.or_true, Bool.true_or, Bool.false_or, not_true_eq_false, not_false_eq_true, true_or, or_true, implies_true, false_implies, true_implies, Int32.reduceLT, Int32.reduceLE, ↓w_TAB3, ↓w_TAB4, ↓w_TAB5, ↓w_TAB7, ↓w_TAB10, ↓w_LK2, ↓w_LK6, false_and, and_false, i1z, i2z, iz1, im0, im1, l0z, hasK_uI, hasK_uL, hasK_uR, hasK_uZ, hasK_sRow, mR_uI, mR_uL, mR_uZ, mR_sRow, mI_uL, mI_uR, mI_uZ, mL_uI, mL_uR, mL_uZ, mL_sRow, LF.hk hL, layF, LF.r hL, refF, ne_eq, not_false_eq_true, Option.some.injEq, Sum.inl.injEq, Sum.inr.injEq, Prod.mk.injEq, exists_eq_left, exists_eq_left']
      refine m_takeD (a := a) (n := w) (r := 548) (p := 0) h0 h (by omega) (by omega) (Or.inr rfl) k548 (by omega) rfl rfl (fun q3 M1 r1 row1 o1 => ⟨rfl, ?_⟩) (fun e q3 M' hb => ⟨rfl, ?_⟩)
      rotate_left
      · have hLb := rdN_L hb.1 h0.1
        have hpos : ¬ nI e.1 ≤ 0 := by rw [i_le, nI_toInt (by have := hb.2.2.2; omega)]; have := hb.2.2.2; simp; omega
        refine r_X12_takeField (fun n => n == 133 || n == 52 || n == 132 || n == 163 || n == 179) 60 ?_
        simp only [cd_X12_takeField, cf_X12_takeField, wp, wq, wpI, cdF, w_CI, w_CL, w_CN, w_LI, w_LL, w_LA, w_SI, w_SL, w_SA, w_INC, w_II, w_IId, w_LLb, w_LLd, w_LS, w_I1, w_L1, w_I2L, w_L2I, w_CMP, w_DUP, w_POP, w_DUP2, w_IF, w_IC, w_GO, w_NUL, w_ACN, prs, w_GF, w_PF, w_GS, w_IAL, w_LEN, w_LAL, w_ZAL, w_AAL, w_IAS, w_LAS, w_ZAS, w_AAS, w_RI, w_RL, w_RA, w_NEW, w_NA, w_MNA, w_OI, w_THR, w_CV, w_CS, w_CN9, w_CI9, w_MX, w_cont, lget, sto1, sto2, wideV, vo, vo_rv, isR, isR_rv, rv, fget, fput, cats, Value.category, List.headD_cons, List.getD_cons_zero, List.getD_cons_succ, List.drop_succ_cons, List.drop_zero, List.take_succ_cons, List.take_zero, List.reverse_cons, List.reverse_nil, List.nil_append, List.cons_append, List.length_cons, List.length_nil, cond_true, cond_false, and_true, true_and, Nat.zero_add, Nat.add_zero, Nat.reduceAdd, Nat.reduceLT, Nat.reduceLeDiff, Nat.reduceEqDiff, Nat.reduceBEq, Nat.reduceSub, ↓reduceIte, Int32.reduceOfNat, Int64.reduceOfNat, reduceCtorEq, Nat.le_refl, Nat.zero_le, Bool.false_eq_true, beq_self_eq_true, Fin.isValue, Fin.val_zero, Fin.val_one, Fin.reduceFinMk, Fin.val_two, Nat.reduceMod, Bool.or_false, Bool.or_true, Bool.true_or, Bool.false_or, not_true_eq_false, not_false_eq_true, true_or, or_true, implies_true, false_implies, true_implies, Int32.reduceLT, Int32.reduceLE, ↓w_TAB3, ↓w_TAB4, ↓w_TAB5, ↓w_TAB7, ↓w_TAB10, ↓w_LK2, ↓w_LK6, false_and, and_false, i1z, i2z, iz1, im0, im1, l0z, hasK_uI, hasK_uL, hasK_uR, hasK_uZ, hasK_sRow, mR_uI, mR_uL, mR_uZ, mR_sRow, mI_uL, mI_uR, mI_uZ, mL_uI, mL_uR, mL_uZ, mL_sRow, LF.hg hLb, layF, LF.r hLb, refF, ne_eq, not_false_eq_true, Option.some.injEq, Sum.inl.injEq, Sum.inr.injEq, Prod.mk.injEq, exists_eq_left, exists_eq_left', hb.2.1, hpos]
        rw [ew] at q3
        refine h2 e ?_ M' hb
        rw [hcf, hcn0, q3]
        rfl
      have hL1 := rdN_L r1.1 h0.1
      have hT1 := h0.go r1.1
      have hk1' := (hT1.2.2.2 s hs).2.1
      have le0 : ((0 : Int32) ≤ 0) = True := eq_true (by decide)
      have z0 := row1 0 (by omega)
      have z1 := row1 1 (by omega)
      simp only [Nat.zero_add] at z0 z1
      rw [ew] at q3
      rw [q3] at hcn0
      have hcn0 : chN t s a = if lnR t s a < 1 ∨ szF s < lnR t s a then some (5, a) else none := by rw [hcn0]; rfl
      have hln : lnR t s a < 1000 := by
        rw [← el]
        have h1 : vl (dig t a (ldF s)) (ldF s) < 10 ^ ldF s := vl_lt (fun i hi => dig_lt q3 hi)
        have h2 : 10 ^ ldF s ≤ 10 ^ 3 := Nat.pow_le_pow_right (by omega) (by omega)
        omega
      have tln := nI_toInt (n := lnR t s a) (by omega)
      have hd : ∀ i, i < ldF s → dig t a (ldF s) i < 10 := fun i hi => dig_lt q3 hi
      have hnum : ∀ l : Option Value, Go G (MT 219) Q X 111 [some (.ref 495), some (.int (nI s)), some (.int (nI (szF s))), some (.int (nI a)), l] [.int (nI (lnR t s a))] M1 0 0 := fun l => by
        have hbad : ∀ q : lnR t s a < 1 ∨ szF s < lnR t s a, Go G (MT 219) Q X 126 [some (.ref 495), some (.int (nI s)), some (.int (nI (lnR t s a))), some (.int (nI a)), l] [] M1 0 0 := fun q => by
          refine r_X12_takeField (fun n => n == 52 || n == 132 || n == 163 || n == 179) 60 ?_
          simp only [cd_X12_takeField, cf_X12_takeField, wp, wq, wpI, cdF, w_CI, w_CL, w_CN, w_LI, w_LL, w_LA, w_SI, w_SL, w_SA, w_INC, w_II, w_IId, w_LLb, w_LLd, w_LS, w_I1, w_L1, w_I2L, w_L2I, w_CMP, w_DUP, w_POP, w_DUP2, w_IF, w_IC, w_GO, w_NUL, w_ACN, prs, w_GF, w_PF, w_GS, w_IAL, w_LEN, w_LAL, w_ZAL, w_AAL, w_IAS, w_LAS, w_ZAS, w_AAS, w_RI, w_RL, w_RA, w_NEW, w_NA, w_MNA, w_OI, w_THR, w_CV, w_CS, w_CN9, w_CI9, w_MX, w_cont, lget, sto1, sto2, wideV, vo, vo_rv, isR, isR_rv, rv, fget, fput, cats, Value.category, List.headD_cons, List.getD_cons_zero, List.getD_cons_succ, List.drop_succ_cons, List.drop_zero, List.take_succ_cons, List.take_zero, List.reverse_cons, List.reverse_nil, List.nil_append, List.cons_append, List.length_cons, List.length_nil, cond_true, cond_false, and_true, true_and, Nat.zero_add, Nat.add_zero, Nat.reduceAdd, Nat.reduceLT, Nat.reduceLeDiff, Nat.reduceEqDiff, Nat.reduceBEq, Nat.reduceSub, ↓reduceIte, Int32.reduceOfNat, Int64.reduceOfNat, reduceCtorEq, Nat.le_refl, Nat.zero_le, Bool.false_eq_true, beq_self_eq_true, Fin.isValue, Fin.val_zero, Fin.val_one, Fin.reduceFinMk, Fin.val_two, Nat.reduceMod, Bool.or_false, Bool.or_true, Bool.true_or, Bool.false_or, not_true_eq_false, not_false_eq_true, true_or, or_true, implies_true, false_implies, true_implies, Int32.reduceLT, Int32.reduceLE, ↓w_TAB3, ↓w_TAB4, ↓w_TAB5, ↓w_TAB7, ↓w_TAB10, ↓w_LK2, ↓w_LK6, false_and, and_false, i1z, i2z, iz1, im0, im1, l0z, hasK_uI, hasK_uL, hasK_uR, hasK_uZ, hasK_sRow, mR_uI, mR_uL, mR_uZ, mR_sRow, mI_uL, mI_uR, mI_uZ, mL_uI, mL_uR, mL_uZ, mL_sRow, LF.hg hL1, layF, LF.r hL1, refF, ne_eq, not_false_eq_true, Option.some.injEq, Sum.inl.injEq, Sum.inr.injEq, Prod.mk.injEq, exists_eq_left, exists_eq_left']
          refine m_fails (e := (5, a)) r1.1 h0.1 r1.2.1 rfl rfl (by simp) (fun M' hb _ => ⟨rfl, ?_⟩)
          refine r_X12_takeField (fun n => n == 52 || n == 132 || n == 163 || n == 179) 60 ?_
          simp only [cd_X12_takeField, cf_X12_takeField, wp, wq, wpI, cdF, w_CI, w_CL, w_CN, w_LI, w_LL, w_LA, w_SI, w_SL, w_SA, w_INC, w_II, w_IId, w_LLb, w_LLd, w_LS, w_I1, w_L1, w_I2L, w_L2I, w_CMP, w_DUP, w_POP, w_DUP2, w_IF, w_IC, w_GO, w_NUL, w_ACN, prs, w_GF, w_PF, w_GS, w_IAL, w_LEN, w_LAL, w_ZAL, w_AAL, w_IAS, w_LAS, w_ZAS, w_AAS, w_RI, w_RL, w_RA, w_NEW, w_NA, w_MNA, w_OI, w_THR, w_CV, w_CS, w_CN9, w_CI9, w_MX, w_cont, lget, sto1, sto2, wideV, vo, vo_rv, isR, isR_rv, rv, fget, fput, cats, Value.category, List.headD_cons, List.getD_cons_zero, List.getD_cons_succ, List.drop_succ_cons, List.drop_zero, List.take_succ_cons, List.take_zero, List.reverse_cons, List.reverse_nil, List.nil_append, List.cons_append, List.length_cons, List.length_nil, cond_true, cond_false, and_true, true_and, Nat.zero_add, Nat.add_zero, Nat.reduceAdd, Nat.reduceLT, Nat.reduceLeDiff, Nat.reduceEqDiff, Nat.reduceBEq, Nat.reduceSub, ↓reduceIte, Int32.reduceOfNat, Int64.reduceOfNat, reduceCtorEq, Nat.le_refl, Nat.zero_le, Bool.false_eq_true, beq_self_eq_true, Fin.isValue, Fin.val_zero, Fin.val_one, Fin.reduceFinMk, Fin.val_two, Nat.reduceMod, Bool.or_false, Bool.or_true, Bool.true_or, Bool.false_or, not_true_eq_false, not_false_eq_true, true_or, or_true, implies_true, false_implies, true_implies, Int32.reduceLT, Int32.reduceLE, ↓w_TAB3, ↓w_TAB4, ↓w_TAB5, ↓w_TAB7, ↓w_TAB10, ↓w_LK2, ↓w_LK6, false_and, and_false, i1z, i2z, iz1, im0, im1, l0z]
          refine h2 (5, a) ?_ M' hb
          rw [hcf, hcn0, if_pos q]
          rfl
        refine r_X12_takeField (fun n => n == 126 || n == 133 || n == 52 || n == 132 || n == 163 || n == 179) 60 ?_
        simp only [cd_X12_takeField, cf_X12_takeField, wp, wq, wpI, cdF, w_CI, w_CL, w_CN, w_LI, w_LL, w_LA, w_SI, w_SL, w_SA, w_INC, w_II, w_IId, w_LLb, w_LLd, w_LS, w_I1, w_L1, w_I2L, w_L2I, w_CMP, w_DUP, w_POP, w_DUP2, w_IF, w_IC, w_GO, w_NUL, w_ACN, prs, w_GF, w_PF, w_GS, w_IAL, w_LEN, w_LAL, w_ZAL, w_AAL, w_IAS, w_LAS, w_ZAS, w_AAS, w_RI, w_RL, w_RA, w_NEW, w_NA, w_MNA, w_OI, w_THR, w_CV, w_CS, w_CN9, w_CI9, w_MX, w_cont, lget, sto1, sto2, wideV, vo, vo_rv, isR, isR_rv, rv, fget, fput, cats, Value.category, List.headD_cons, List.getD_cons_zero, List.getD_cons_succ, List.drop_succ_cons, List.drop_zero, List.take_succ_cons, List.take_zero, List.reverse_cons, List.reverse_nil, List.nil_append, List.cons_append, List.length_cons, List.length_nil, cond_true, cond_false, and_true, true_and, Nat.zero_add, Nat.add_zero, Nat.reduceAdd, Nat.reduceLT, Nat.reduceLeDiff, Nat.reduceEqDiff, Nat.reduceBEq, Nat.reduceSub, ↓reduceIte, Int32.reduceOfNat, Int64.reduceOfNat, reduceCtorEq, Nat.le_refl, Nat.zero_le, Bool.false_eq_true, beq_self_eq_true, Fin.isValue, Fin.val_zero, Fin.val_one, Fin.reduceFinMk, Fin.val_two, Nat.reduceMod, Bool.or_false, Bool.or_true, Bool.true_or, Bool.false_or, not_true_eq_false, not_false_eq_true, true_or, or_true, implies_true, false_implies, true_implies, Int32.reduceLT, Int32.reduceLE, ↓w_TAB3, ↓w_TAB4, ↓w_TAB5, ↓w_TAB7, ↓w_TAB10, ↓w_LK2, ↓w_LK6, false_and, and_false, i1z, i2z, iz1, im0, im1, l0z, hasK_uI, hasK_uL, hasK_uR, hasK_uZ, hasK_sRow, mR_uI, mR_uL, mR_uZ, mR_sRow, mI_uL, mI_uR, mI_uZ, mL_uI, mL_uR, mL_uZ, mL_sRow, LF.hg hL1, layF, LF.r hL1, refF, ne_eq, not_false_eq_true, Option.some.injEq, Sum.inl.injEq, Sum.inr.injEq, Prod.mk.injEq, exists_eq_left, exists_eq_left', cs, hk1']
        refine and_ii (fun q => hbad (by (simp only [i_lt, i_le, i_eq, l_lt, l_le, l_eq, Int32.toInt_toInt64, Int32.reduceToInt, Int64.reduceToInt, ne_eq, Classical.not_not] at *; omega))) (fun q => ⟨hv, and_ii (fun q2 => ?_) (fun q2 => hbad (by (simp only [i_lt, i_le, i_eq, l_lt, l_le, l_eq, Int32.toInt_toInt64, Int32.reduceToInt, Int64.reduceToInt, ne_eq, Classical.not_not] at *; omega)))⟩)
        refine hsig M1 _ _ (by rw [hcn0, if_neg (by (simp only [i_lt, i_le, i_eq, l_lt, l_le, l_eq, Int32.toInt_toInt64, Int32.reduceToInt, Int64.reduceToInt, ne_eq, Classical.not_not] at *; omega))]) (by (simp only [i_lt, i_le, i_eq, l_lt, l_le, l_eq, Int32.toInt_toInt64, Int32.reduceToInt, Int64.reduceToInt, ne_eq, Classical.not_not] at *; omega)) (by (simp only [i_lt, i_le, i_eq, l_lt, l_le, l_eq, Int32.toInt_toInt64, Int32.reduceToInt, Int64.reduceToInt, ne_eq, Classical.not_not] at *; omega)) ?_ (fun j => o1 _ _ (by omega) (by omega)) (fun j => o1 _ _ (by omega) (by omega)) (o1 _ _ (by omega) (by omega))
        unfold a1; rw [← ew]; exact r1
      rcases hf4.2 with e2 | e2
      · have hw2 : w = 2 := by omega
        subst hw2
        have en : (10 : Int32) * nI (dig t a 2 0) + nI (dig t a 2 1) = nI (lnR t s a) := by
          have d0 := hd 0 (by omega)
          have d1 := hd 1 (by omega)
          rw [e2] at d0 d1
          rw [show (10 : Int32) = nI 10 from rfl, nI_mul (by omega) (by omega) (by omega), nI_add, ← el, e2]
          congr 1
          simp only [vl]
          omega
        have n22 : nI 2 = (2 : Int32) := rfl
        refine r_X12_takeField (fun n => n == 111 || n == 52 || n == 132 || n == 163 || n == 179) 60 ?_
        simp only [cd_X12_takeField, cf_X12_takeField, wp, wq, wpI, cdF, w_CI, w_CL, w_CN, w_LI, w_LL, w_LA, w_SI, w_SL, w_SA, w_INC, w_II, w_IId, w_LLb, w_LLd, w_LS, w_I1, w_L1, w_I2L, w_L2I, w_CMP, w_DUP, w_POP, w_DUP2, w_IF, w_IC, w_GO, w_NUL, w_ACN, prs, w_GF, w_PF, w_GS, w_IAL, w_LEN, w_LAL, w_ZAL, w_AAL, w_IAS, w_LAS, w_ZAS, w_AAS, w_RI, w_RL, w_RA, w_NEW, w_NA, w_MNA, w_OI, w_THR, w_CV, w_CS, w_CN9, w_CI9, w_MX, w_cont, lget, sto1, sto2, wideV, vo, vo_rv, isR, isR_rv, rv, fget, fput, cats, Value.category, List.headD_cons, List.getD_cons_zero, List.getD_cons_succ, List.drop_succ_cons, List.drop_zero, List.take_succ_cons, List.take_zero, List.reverse_cons, List.reverse_nil, List.nil_append, List.cons_append, List.length_cons, List.length_nil, cond_true, cond_false, and_true, true_and, Nat.zero_add, Nat.add_zero, Nat.reduceAdd, Nat.reduceLT, Nat.reduceLeDiff, Nat.reduceEqDiff, Nat.reduceBEq, Nat.reduceSub, ↓reduceIte, Int32.reduceOfNat, Int64.reduceOfNat, reduceCtorEq, Nat.le_refl, Nat.zero_le, Bool.false_eq_true, beq_self_eq_true, Fin.isValue, Fin.val_zero, Fin.val_one, Fin.reduceFinMk, Fin.val_two, Nat.reduceMod, Bool.or_false, Bool.or_true, Bool.true_or, Bool.false_or, not_true_eq_false, not_false_eq_true, true_or, or_true, implies_true, false_implies, true_implies, Int32.reduceLT, Int32.reduceLE, ↓w_TAB3, ↓w_TAB4, ↓w_TAB5, ↓w_TAB7, ↓w_TAB10, ↓w_LK2, ↓w_LK6, false_and, and_false, i1z, i2z, iz1, im0, im1, l0z, hasK_uI, hasK_uL, hasK_uR, hasK_uZ, hasK_sRow, mR_uI, mR_uL, mR_uZ, mR_sRow, mI_uL, mI_uR, mI_uZ, mL_uI, mL_uR, mL_uZ, mL_sRow, LF.hg hL1, layF, LF.r hL1, refF, ne_eq, not_false_eq_true, Option.some.injEq, Sum.inl.injEq, Sum.inr.injEq, Prod.mk.injEq, exists_eq_left, exists_eq_left', r1.2.1, le0, z0, z1, n22, eq_self]
        refine ⟨vp_in_i (by simp), vp_in_i (by simp), ?_⟩
        simp only [show Int32.toNatClampNeg 0 = 0 from rfl, show Int32.toNatClampNeg 1 = 1 from rfl, z0, z1, en]
        exact hnum _
      · have hw3 : w = 3 := by omega
        subst hw3
        have z2 := row1 2 (by omega)
        simp only [Nat.zero_add] at z2
        have en : (100 : Int32) * nI (dig t a 3 0) + 10 * nI (dig t a 3 1) + nI (dig t a 3 2) = nI (lnR t s a) := by
          have d0 := hd 0 (by omega)
          have d1 := hd 1 (by omega)
          have d2 := hd 2 (by omega)
          rw [e2] at d0 d1 d2
          rw [show (100 : Int32) = nI 100 from rfl, show (10 : Int32) = nI 10 from rfl, nI_mul (by omega) (by omega) (by omega), nI_mul (by omega) (by omega) (by omega), nI_add, nI_add, ← el, e2]
          congr 1
          simp only [vl]
          omega
        have n32 : (nI 3 = 2) = False := eq_false (by decide)
        refine r_X12_takeField (fun n => n == 111 || n == 52 || n == 132 || n == 163 || n == 179) 60 ?_
        simp only [cd_X12_takeField, cf_X12_takeField, wp, wq, wpI, cdF, w_CI, w_CL, w_CN, w_LI, w_LL, w_LA, w_SI, w_SL, w_SA, w_INC, w_II, w_IId, w_LLb, w_LLd, w_LS, w_I1, w_L1, w_I2L, w_L2I, w_CMP, w_DUP, w_POP, w_DUP2, w_IF, w_IC, w_GO, w_NUL, w_ACN, prs, w_GF, w_PF, w_GS, w_IAL, w_LEN, w_LAL, w_ZAL, w_AAL, w_IAS, w_LAS, w_ZAS, w_AAS, w_RI, w_RL, w_RA, w_NEW, w_NA, w_MNA, w_OI, w_THR, w_CV, w_CS, w_CN9, w_CI9, w_MX, w_cont, lget, sto1, sto2, wideV, vo, vo_rv, isR, isR_rv, rv, fget, fput, cats, Value.category, List.headD_cons, List.getD_cons_zero, List.getD_cons_succ, List.drop_succ_cons, List.drop_zero, List.take_succ_cons, List.take_zero, List.reverse_cons, List.reverse_nil, List.nil_append, List.cons_append, List.length_cons, List.length_nil, cond_true, cond_false, and_true, true_and, Nat.zero_add, Nat.add_zero, Nat.reduceAdd, Nat.reduceLT, Nat.reduceLeDiff, Nat.reduceEqDiff, Nat.reduceBEq, Nat.reduceSub, ↓reduceIte, Int32.reduceOfNat, Int64.reduceOfNat, reduceCtorEq, Nat.le_refl, Nat.zero_le, Bool.false_eq_true, beq_self_eq_true, Fin.isValue, Fin.val_zero, Fin.val_one, Fin.reduceFinMk, Fin.val_two, Nat.reduceMod, Bool.or_false, Bool.or_true, Bool.true_or, Bool.false_or, not_true_eq_false, not_false_eq_true, true_or, or_true, implies_true, false_implies, true_implies, Int32.reduceLT, Int32.reduceLE, ↓w_TAB3, ↓w_TAB4, ↓w_TAB5, ↓w_TAB7, ↓w_TAB10, ↓w_LK2, ↓w_LK6, false_and, and_false, i1z, i2z, iz1, im0, im1, l0z, hasK_uI, hasK_uL, hasK_uR, hasK_uZ, hasK_sRow, mR_uI, mR_uL, mR_uZ, mR_sRow, mI_uL, mI_uR, mI_uZ, mL_uI, mL_uR, mL_uZ, mL_sRow, LF.hg hL1, layF, LF.r hL1, refF, ne_eq, not_false_eq_true, Option.some.injEq, Sum.inl.injEq, Sum.inr.injEq, Prod.mk.injEq, exists_eq_left, exists_eq_left', r1.2.1, le0, z0, z1, z2, n32]
        refine ⟨vp_in_i (by simp), vp_in_i (by simp), vp_in_i (by simp), ?_⟩
        simp only [show Int32.toNatClampNeg 0 = 0 from rfl, show Int32.toNatClampNeg 1 = 1 from rfl, show Int32.toNatClampNeg 2 = 2 from rfl, z0, z1, z2, en]
        exact hnum _
    refine r_X12_takeField (fun n => n == 39 || n == 52 || n == 132 || n == 163 || n == 179) 60 ?_
    simp only [cd_X12_takeField, cf_X12_takeField, wp, wq, wpI, cdF, w_CI, w_CL, w_CN, w_LI, w_LL, w_LA, w_SI, w_SL, w_SA, w_INC, w_II, w_IId, w_LLb, w_LLd, w_LS, w_I1, w_L1, w_I2L, w_L2I, w_CMP, w_DUP, w_POP, w_DUP2, w_IF, w_IC, w_GO, w_NUL, w_ACN, prs, w_GF, w_PF, w_GS, w_IAL, w_LEN, w_LAL, w_ZAL, w_AAL, w_IAS, w_LAS, w_ZAS, w_AAS, w_RI, w_RL, w_RA, w_NEW, w_NA, w_MNA, w_OI, w_THR, w_CV, w_CS, w_CN9, w_CI9, w_MX, w_cont, lget, sto1, sto2, wideV, vo, vo_rv, isR, isR_rv, rv, fget, fput, cats, Value.category, List.headD_cons, List.getD_cons_zero, List.getD_cons_succ, List.drop_succ_cons, List.drop_zero, List.take_succ_cons, List.take_zero, List.reverse_cons, List.reverse_nil, List.nil_append, List.cons_append, List.length_cons, List.length_nil, cond_true, cond_false, and_true, true_and, Nat.zero_add, Nat.add_zero, Nat.reduceAdd, Nat.reduceLT, Nat.reduceLeDiff, Nat.reduceEqDiff, Nat.reduceBEq, Nat.reduceSub, ↓reduceIte, Int32.reduceOfNat, Int64.reduceOfNat, reduceCtorEq, Nat.le_refl, Nat.zero_le, Bool.false_eq_true, beq_self_eq_true, Fin.isValue, Fin.val_zero, Fin.val_one, Fin.reduceFinMk, Fin.val_two, Nat.reduceMod, Bool.or_false, Bool.or_true, Bool.true_or, Bool.false_or, not_true_eq_false, not_false_eq_true, true_or, or_true, implies_true, false_implies, true_implies, Int32.reduceLT, Int32.reduceLE, ↓w_TAB3, ↓w_TAB4, ↓w_TAB5, ↓w_TAB7, ↓w_TAB10, ↓w_LK2, ↓w_LK6, false_and, and_false, i1z, i2z, iz1, im0, im1, l0z, hasK_uI, hasK_uL, hasK_uR, hasK_uZ, hasK_sRow, mR_uI, mR_uL, mR_uZ, mR_sRow, mI_uL, mI_uR, mI_uZ, mL_uI, mL_uR, mL_uZ, mL_sRow, LF.hk hL, layF, LF.r hL, refF, ne_eq, not_false_eq_true, Option.some.injEq, Sum.inl.injEq, Sum.inr.injEq, Prod.mk.injEq, exists_eq_left, exists_eq_left', cs, hk1, hk0, i2z, h.2.2.2]
    simp only [er, heq, not_true_eq_false, not_false_eq_true, false_implies, true_implies, true_and]
    refine ⟨hv, hv, hv, and_ii (fun q => ?_) (fun q => ?_)⟩
    · have hF1' : ¬ F = 1 := fun q2 => q (by rw [q2]; rfl)
      have : ldF s = 3 := by
        rcases hf4.2 with e2 | e2
        · exact absurd (hf4.1.mpr e2) hF1'
        · exact e2
      exact hrest 3 this.symm
    · have hF1' : F = 1 := by (simp only [i_lt, i_le, i_eq, l_lt, l_le, l_eq, Int32.toInt_toInt64, Int32.reduceToInt, Int64.reduceToInt, ne_eq, Classical.not_not] at *; omega)
      exact hrest 2 (hf4.1.mp hF1').symm
end RM3
