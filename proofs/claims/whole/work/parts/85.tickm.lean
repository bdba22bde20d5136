/-! ticks: the reference -/
section TKM
variable {G : En} {M M0 Mz M' : Mem} {Q : Option Value → Mem → Prop} {X : String → Mem → Prop} {S : Sw} {t a j k v i np T : Nat} {x y : Int32} {z : Int64} {u : Int} {p : Py} {l : Option Value}
theorem m_ends (h : RN S k p M) (hi : loS M0 M) (h49 : fL (qL p 49)) (hT : sN S 11 = T) (hy : y = nI k) (hQ : ∀ M', RN S k (ends p T) M' → loS M0 M' → o5 M M' → Q none M') : Ct G (MT 259) [.ref 495, .int y] M Q X := by
  subst hy
  have hL := h.L
  have hk := h.2.1
  have h60 := h.2.2
  have hn : mNn (sN S) M := h.1.2.1
  unfold mNn at hn
  rw [hT] at hn
  have e49 := h.pm.2.2.2.2.2.2.2.2.2.2.1
  have ck := nI_clamp (n := k) (by omega)
  have hv := vp_in_nI (n := k) (N := 61) (by omega) (by omega)
  have r1 := RN_L48 (x := 0) (z := 0) h rfl
  have r2 := RN_I50 (v := 0) (y := 0) r1 rfl
  have tl : (lI (qL p 49) ≤ 0) ↔ ¬ 0 < qL p 49 := by rw [l_le, lI_toInt h49]; simp
  refine Ct.go (L0 := [some (.ref 495), some (.int (nI k))]) (by decide +kernel) rfl rfl ?_
  by_cases q : 0 < qL p 49
  · have r3 := RN_I47 (v := 3) (y := 3) r2 rfl
    have r4 := RN_I51 (v := T + 1) (y := nI T) r3 (nI_pred _).symm
    refine r_X12_ends (fun _ => false) 60 ?_
    simp only [cd_X12_ends, cf_X12_ends, wp, wq, wpI, cdF, w_CI, w_CL, w_CN, w_LI, w_LL, w_LA, w_SI, w_SL, w_SA, w_INC, w_II, w_IId, w_LLb, w_LLd, w_LS, w_I1, w_L1, w_I2L, w_L2I, w_CMP, w_DUP, w_POP, w_DUP2, w_IF, w_IC, w_GO, w_NUL, w_ACN, prs, w_GF, w_PF, w_GS, w_IAL, w_LEN, w_LAL, w_ZAL, w_AAL, w_IAS, w_LAS, w_ZAS, w_AAS, w_RI, w_RL, w_RA, w_NEW, w_NA, w_MNA, w_OI, w_THR, w_CV, w_CS, w_CN9, w_CI9, w_MX, w_cont, lget, sto1, sto2, wideV, vo, vo_rv, isR, isR_rv, rv, fget, fput, cats, Value.category, List.headD_cons, List.getD_cons_zero, List.getD_cons_succ, List.drop_succ_cons, List.drop_zero, List.take_succ_cons, List.take_zero, List.reverse_cons, List.reverse_nil, List.nil_append, List.cons_append, List.length_cons, List.length_nil, cond_true, cond_false, and_true, true_and, Nat.zero_add, Nat.add_zero, Nat.reduceAdd, Nat.reduceLT, Nat.reduceLeDiff, Nat.reduceEqDiff, Nat.reduceBEq, Nat.reduceSub, ↓reduceIte, Int32.reduceOfNat, Int64.reduceOfNat, reduceCtorEq, Nat.le_refl, Nat.zero_le, Bool.false_eq_true, beq_self_eq_true, Fin.isValue, Fin.val_zero, Fin.val_one, Fin.reduceFinMk, Fin.val_two, Nat.reduceMod, Bool.or_false, Bool.or_true, Bool.true_or, Bool.false_or, not_true_eq_false, not_false_eq_true, true_or, or_true, implies_true, false_implies, true_implies, Int32.reduceLT, Int32.reduceLE, ↓w_TAB3, ↓w_TAB4, ↓w_TAB5, ↓w_TAB7, ↓w_TAB10, ↓w_LK2, ↓w_LK6, false_and, and_false, i1z, i2z, iz1, im0, im1, l0z, hasK_uI, hasK_uL, hasK_uR, hasK_uZ, hasK_sRow, mR_uI, mR_uL, mR_uZ, mR_sRow, mI_uL, mI_uR, mI_uZ, mL_uI, mL_uR, mL_uZ, mL_sRow, LF.hk hL, layF, LF.r hL, refF, ne_eq, not_false_eq_true, Option.some.injEq, Sum.inl.injEq, Sum.inr.injEq, Prod.mk.injEq, exists_eq_left, exists_eq_left', ck, e49, cmp_le, tl, hn, q, mL_uL, mL_uI, mI_uI, mI_uL]
    refine ⟨hv, hv, hv, hv, hv, hv, hQ _ ?_ (loS_uI (loS_uI (loS_uI (loS_uL hi (by omega)) (by omega)) (by omega)) (by omega)) (o5_I (o5_I (o5_I (o5_L o5_0) (by omega)) (by omega)) (by omega))⟩
    unfold ends
    rw [if_pos q, if_pos q]
    exact r4
  · have r3 := RN_I47 (v := 2) (y := 2) r2 rfl
    have r4 := RN_I51 (v := 0) (y := -1) r3 rfl
    refine r_X12_ends (fun _ => false) 60 ?_
    simp only [cd_X12_ends, cf_X12_ends, wp, wq, wpI, cdF, w_CI, w_CL, w_CN, w_LI, w_LL, w_LA, w_SI, w_SL, w_SA, w_INC, w_II, w_IId, w_LLb, w_LLd, w_LS, w_I1, w_L1, w_I2L, w_L2I, w_CMP, w_DUP, w_POP, w_DUP2, w_IF, w_IC, w_GO, w_NUL, w_ACN, prs, w_GF, w_PF, w_GS, w_IAL, w_LEN, w_LAL, w_ZAL, w_AAL, w_IAS, w_LAS, w_ZAS, w_AAS, w_RI, w_RL, w_RA, w_NEW, w_NA, w_MNA, w_OI, w_THR, w_CV, w_CS, w_CN9, w_CI9, w_MX, w_cont, lget, sto1, sto2, wideV, vo, vo_rv, isR, isR_rv, rv, fget, fput, cats, Value.category, List.headD_cons, List.getD_cons_zero, List.getD_cons_succ, List.drop_succ_cons, List.drop_zero, List.take_succ_cons, List.take_zero, List.reverse_cons, List.reverse_nil, List.nil_append, List.cons_append, List.length_cons, List.length_nil, cond_true, cond_false, and_true, true_and, Nat.zero_add, Nat.add_zero, Nat.reduceAdd, Nat.reduceLT, Nat.reduceLeDiff, Nat.reduceEqDiff, Nat.reduceBEq, Nat.reduceSub, ↓reduceIte, Int32.reduceOfNat, Int64.reduceOfNat, reduceCtorEq, Nat.le_refl, Nat.zero_le, Bool.false_eq_true, beq_self_eq_true, Fin.isValue, Fin.val_zero, Fin.val_one, Fin.reduceFinMk, Fin.val_two, Nat.reduceMod, Bool.or_false, Bool.or_true, Bool.true_or, Bool.false_or, not_true_eq_false, not_false_eq_true, true_or, or_true, implies_true, false_implies, true_implies, Int32.reduceLT, Int32.reduceLE, ↓w_TAB3, ↓w_TAB4, ↓w_TAB5, ↓w_TAB7, ↓w_TAB10, ↓w_LK2, ↓w_LK6, false_and, and_false, i1z, i2z, iz1, im0, im1, l0z, hasK_uI, hasK_uL, hasK_uR, hasK_uZ, hasK_sRow, mR_uI, mR_uL, mR_uZ, mR_sRow, mI_uL, mI_uR, mI_uZ, mL_uI, mL_uR, mL_uZ, mL_sRow, LF.hk hL, layF, LF.r hL, refF, ne_eq, not_false_eq_true, Option.some.injEq, Sum.inl.injEq, Sum.inr.injEq, Prod.mk.injEq, exists_eq_left, exists_eq_left', ck, e49, cmp_le, tl, hn, q, mL_uL, mL_uI, mI_uI, mI_uL]
    refine ⟨hv, hv, hv, hv, hv, hv, hQ _ ?_ (loS_uI (loS_uI (loS_uI (loS_uL hi (by omega)) (by omega)) (by omega)) (by omega)) (o5_I (o5_I (o5_I (o5_L o5_0) (by omega)) (by omega)) (by omega))⟩
    unfold ends
    rw [if_neg q, if_neg q]
    exact r4
theorem lp_tick (hN39 : sN S 39 ≤ 60) (hT : sN S 11 = T) (hT2 : T ≤ 1000000) (hl : ∀ i, i < sN S 39 → lapK (sP S i) ∧ (qI (sP S i) 47 = 1 → T ≤ qI (sP S i) 50)) (hQ : ∀ M', RM (lapI S T (sN S 39)) M' → loS M0 M' → o5 Mz M' → Q none M') : ∀ (m i : Nat), m + i = sN S 39 → ∀ Mi, RM (lapI S T i) Mi → loS M0 Mi → o5 Mz Mi → ∀ l, Go G (MT 267) Q X 12 [some (.ref 495), some (.int (nI i)), l] [] Mi 0 0 := by
  intro m
  induction m with
  | zero =>
    intro i hi Mi r1 i1 g1 l
    have hi : i = sN S 39 := by omega
    have hL := r1.1
    have hn := r1.2.1
    unfold mNn at hn
    have h39 : mI Mi 495 39 = nI (sN S 39) := hn.2.2.2.2.2.2.2.2.2.2.1
    subst hi
    refine r_X12_tick (fun n => n == 12 || n == 58 || n == 111) 60 ?_
    simp only [cd_X12_tick, cf_X12_tick, wp, wq, wpI, cdF, w_CI, w_CL, w_CN, w_LI, w_LL, w_LA, w_SI, w_SL, w_SA, w_INC, w_II, w_IId, w_LLb, w_LLd, w_LS, w_I1, w_L1, w_I2L, w_L2I, w_CMP, w_DUP, w_POP, w_DUP2, w_IF, w_IC, w_GO, w_NUL, w_ACN, prs, w_GF, w_PF, w_GS, w_IAL, w_LEN, w_LAL, w_ZAL, w_AAL, w_IAS, w_LAS, w_ZAS, w_AAS, w_RI, w_RL, w_RA, w_NEW, w_NA, w_MNA, w_OI, w_THR, w_CV, w_CS, w_CN9, w_CI9, w_MX, w_cont, lget, sto1, sto2, wideV, vo, vo_rv, isR, isR_rv, rv, fget, fput, cats, Value.category, List.headD_cons, List.getD_cons_zero, List.getD_cons_succ, List.drop_succ_cons, List.drop_zero, List.take_succ_cons, List.take_zero, List.reverse_cons, List.reverse_nil, List.nil_append, List.cons_append, List.length_cons, List.length_nil, cond_true, cond_false, and_true, true_and, Nat.zero_add, Nat.add_zero, Nat.reduceAdd, Nat.reduceLT, Nat.reduceLeDiff, Nat.reduceEqDiff, Nat.reduceBEq, Nat.reduceSub, ↓reduceIte, Int32.reduceOfNat, Int64.reduceOfNat, reduceCtorEq, Nat.le_refl, Nat.zero_le, Bool.false_eq_true, beq_self_eq_true, Fin.isValue, Fin.val_zero, Fin.val_one, Fin.reduceFinMk, Fin.val_two, Nat.reduceMod, Bool.or_false, Bool.or_true, Bool.true_or, Bool.false_or, not_true_eq_false, not_false_eq_true, true_or, or_true, implies_true, false_implies, true_implies, Int32.reduceLT, Int32.reduceLE, ↓w_TAB3, ↓w_TAB4, ↓w_TAB5, ↓w_TAB7, ↓w_TAB10, ↓w_LK2, ↓w_LK6, false_and, and_false, i1z, i2z, iz1, im0, im1, l0z, hasK_uI, hasK_uL, hasK_uR, hasK_uZ, hasK_sRow, mR_uI, mR_uL, mR_uZ, mR_sRow, mI_uL, mI_uR, mI_uZ, mL_uI, mL_uR, mL_uZ, mL_sRow, LF.hk hL, layF, LF.r hL, refF, ne_eq, not_false_eq_true, Option.some.injEq, Sum.inl.injEq, Sum.inr.injEq, Prod.mk.injEq, exists_eq_left, exists_eq_left', h39]
    exact ⟨fun _ => hQ Mi r1 i1 g1, fun q => absurd (nI_le (Nat.le_refl _) (by omega)) q⟩
  | succ m ih =>
    intro i hi Mi r1 i1 g1 l
    have hL := r1.1
    have hn := r1.2.1
    unfold mNn at hn
    have h39 : mI Mi 495 39 = nI (sN S 39) := hn.2.2.2.2.2.2.2.2.2.2.1
    have h11 : mI Mi 495 11 = nI T := by rw [hn.2.2.2.2.2.2.2.2.2.2.2.2.1]; show nI (sN S 11) = _; rw [hT]
    have ti := nI_toInt (n := i) (by omega)
    have tN := nI_toInt (n := sN S 39) (by omega)
    have tT := nI_toInt (n := T) (by omega)
    have ci := nI_clamp (n := i) (by omega)
    have hv := vp_in_nI (n := i) (N := 61) (by omega) (by omega)
    have hpe : sP (lapI S T i) i = sP S i := if_neg (by omega)
    have rn := RN_of (S := lapI S T i) (k := i) (p := sP S i) r1 (by show i < sN S 39; omega) hN39 hpe
    obtain ⟨⟨l1, l2, l3, l4, l5, l6, l7, l8, l9⟩, l10⟩ := hl i (by omega)
    have hstep : lapS (lapI S T i) i T = lapI S T (i + 1) := lapI_s
    unfold lapS at hstep
    rw [hpe] at hstep
    generalize hpp : sP S i = p at *
    have hpm := rn.pm
    unfold payM at hpm
    have t47 := nI_toInt (n := qI p 47) (by omega)
    have t50 := nI_toInt (n := qI p 50) (by omega)
    have f49 : fL (qL p 49) := by unfold fL; omega
    -- the second half
    have hhalf : ∀ (p1 : Py) (M1 : Mem) (l2 : Option Value), RN (lapI S T i) i p1 M1 → loS M0 M1 → o5 Mz M1 → p1 = lapA p T → Go G (MT 267) Q X 58 [some (.ref 495), some (.int (nI i)), l2] [] M1 0 0 := fun p1 M1 l2' r2 i2 g2 e1 => by
      have a52 : qI p1 52 = qI p 52 := by rw [e1]; exact qI_lapA (by omega)
      have a54 : qI p1 54 = qI p 54 := by rw [e1]; exact qI_lapA (by omega)
      have a45 : qI p1 45 = qI p 45 := by rw [e1]; exact qI_lapA (by omega)
      have a53 : qL p1 53 = qL p 53 := by rw [e1]; exact qL_lapA (by omega)
      have hL1 := r2.L
      have hpm1 := r2.pm
      unfold payM at hpm1
      have h11' : mI M1 495 11 = nI T := by
        have := r2.1.2.1
        unfold mNn at this
        rw [this.2.2.2.2.2.2.2.2.2.2.2.2.1]; show nI (sN S 11) = _; rw [hT]
      have t54 := nI_toInt (n := qI p1 54) (by omega)
      have tm : (nI (qI p1 54) - 1).toInt = qI p1 54 - 1 := by rw [i_sub] <;> rw [t54] <;> simp <;> omega
      have t52 := nI_toInt (n := qI p1 52) (by omega)
      have hB : lapB p T = true ↔ ((qI p 52 = 1 ∨ qI p 52 = 2) ∧ qI p 54 ≤ T) := by unfold lapB; exact decide_eq_true_iff
      have hgo : ∀ (S1 : Sw) (p2 : Py) (M2 : Mem), RN S1 i p2 M2 → loS M0 M2 → o5 Mz M2 → wk S1 i p2 = lapI S T (i + 1) → Go G (MT 267) Q X 111 [some (.ref 495), some (.int (nI i)), l2'] [] M2 0 0 := fun S1 p2 M2 r3 i3 g3 es => by
        have r4 := r3.1
        rw [es] at r4
        refine r_X12_tick (fun n => n == 12 || n == 58 || n == 111) 60 ?_
        simp only [cd_X12_tick, cf_X12_tick, wp, wq, wpI, cdF, w_CI, w_CL, w_CN, w_LI, w_LL, w_LA, w_SI, w_SL, w_SA, w_INC, w_II, w_IId, w_LLb, w_LLd, w_LS, w_I1, w_L1, w_I2L, w_L2I, w_CMP, w_DUP, w_POP, w_DUP2, w_IF, w_IC, w_GO, w_NUL, w_ACN, prs, w_GF, w_PF, w_GS, w_IAL, w_LEN, w_LAL, w_ZAL, w_AAL, w_IAS, w_LAS, w_ZAS, w_AAS, w_RI, w_RL, w_RA, w_NEW, w_NA, w_MNA, w_OI, w_THR, w_CV, w_CS, w_CN9, w_CI9, w_MX, w_cont, lget, sto1, sto2, wideV, vo, vo_rv, isR, isR_rv, rv, fget, fput, cats, Value.category, List.headD_cons, List.getD_cons_zero, List.getD_cons_succ, List.drop_succ_cons, List.drop_zero, List.take_succ_cons, List.take_zero, List.reverse_cons, List.reverse_nil, List.nil_append, List.cons_append, List.length_cons, List.length_nil, cond_true, cond_false, and_true, true_and, Nat.zero_add, Nat.add_zero, Nat.reduceAdd, Nat.reduceLT, Nat.reduceLeDiff, Nat.reduceEqDiff, Nat.reduceBEq, Nat.reduceSub, ↓reduceIte, Int32.reduceOfNat, Int64.reduceOfNat, reduceCtorEq, Nat.le_refl, Nat.zero_le, Bool.false_eq_true, beq_self_eq_true, Fin.isValue, Fin.val_zero, Fin.val_one, Fin.reduceFinMk, Fin.val_two, Nat.reduceMod, Bool.or_false, Bool.or_true, Bool.true_or, Bool.false_or, not_true_eq_false, not_false_eq_true, true_or, or_true, implies_true, false_implies, true_implies, Int32.reduceLT, Int32.reduceLE, ↓w_TAB3, ↓w_TAB4, ↓w_TAB5, ↓w_TAB7, ↓w_TAB10, ↓w_LK2, ↓w_LK6, false_and, and_false, i1z, i2z, iz1, im0, im1, l0z, nI_1]
        exact ih (i + 1) (by omega) M2 r4 i3 g3 _
      have hnot : ¬ lapB p T = true → Go G (MT 267) Q X 111 [some (.ref 495), some (.int (nI i)), l2'] [] M1 0 0 := fun hb => by
        refine hgo _ p1 M1 r2 i2 g2 ?_
        rw [← hstep, if_neg (fun q => hb q.1)]
        unfold lapP
        rw [if_neg hb, e1]
      have hyes : ∀ (won : Bool) (y : Int32), lapB p T = true → won = decide (qI p 52 = 1) → y = nI won.toNat → Ct G (MT 271) [.ref 495, .int (nI i), .int y] M1 (fun v' M' => v' = none ∧ Go G (MT 267) Q X 111 [some (.ref 495), some (.int (nI i)), l2'] [] M' 0 0) X := fun won y hb ew ey => by
        have hb' := hB.mp hb
        have c45 : qI p 45 ≠ 0 := l9 (by omega)
        refine m_closes (won := won) r2 i2 (by omega) (by omega) rfl ey (fun M2 r3 i3 g3 => ⟨rfl, ?_⟩)
        refine hgo _ _ M2 r3 i3 (fun j => (g3 j).trans (g2 j)) ?_
        rw [← hstep]
        unfold lapP
        rw [if_pos hb, ← e1, ← ew, a45, a53]
        cases won
        · have e2 : qI p 52 = 2 := by have := of_decide_eq_false ew.symm; omega
          simp only [if_pos (show lapB p T = true ∧ qI p 52 = 2 from ⟨hb, e2⟩)]
          rfl
        · have e2 : qI p 52 = 1 := of_decide_eq_true ew.symm
          simp only [if_neg (show ¬ (lapB p T = true ∧ qI p 52 = 2) by omega)]
          rfl
      have hdl : ∀ (q52 : qI p 52 = 1 ∨ qI p 52 = 2), Go G (MT 267) Q X 78 [some (.ref 495), some (.int (nI i)), l2'] [] M1 0 0 := fun q52 => by
        refine r_X12_tick (fun n => n == 111 || n == 58 || n == 111) 60 ?_
        simp only [cd_X12_tick, cf_X12_tick, wp, wq, wpI, cdF, w_CI, w_CL, w_CN, w_LI, w_LL, w_LA, w_SI, w_SL, w_SA, w_INC, w_II, w_IId, w_LLb, w_LLd, w_LS, w_I1, w_L1, w_I2L, w_L2I, w_CMP, w_DUP, w_POP, w_DUP2, w_IF, w_IC, w_GO, w_NUL, w_ACN, prs, w_GF, w_PF, w_GS, w_IAL, w_LEN, w_LAL, w_ZAL, w_AAL, w_IAS, w_LAS, w_ZAS, w_AAS, w_RI, w_RL, w_RA, w_NEW, w_NA, w_MNA, w_OI, w_THR, w_CV, w_CS, w_CN9, w_CI9, w_MX, w_cont, lget, sto1, sto2, wideV, vo, vo_rv, isR, isR_rv, rv, fget, fput, cats, Value.category, List.headD_cons, List.getD_cons_zero, List.getD_cons_succ, List.drop_succ_cons, List.drop_zero, List.take_succ_cons, List.take_zero, List.reverse_cons, List.reverse_nil, List.nil_append, List.cons_append, List.length_cons, List.length_nil, cond_true, cond_false, and_true, true_and, Nat.zero_add, Nat.add_zero, Nat.reduceAdd, Nat.reduceLT, Nat.reduceLeDiff, Nat.reduceEqDiff, Nat.reduceBEq, Nat.reduceSub, ↓reduceIte, Int32.reduceOfNat, Int64.reduceOfNat, reduceCtorEq, Nat.le_refl, Nat.zero_le, Bool.false_eq_true, beq_self_eq_true, Fin.isValue, Fin.val_zero, Fin.val_one, Fin.reduceFinMk, Fin.val_two, Nat.reduceMod, Bool.or_false, Bool.or_true, Bool.true_or, Bool.false_or, not_true_eq_false, not_false_eq_true, true_or, or_true, implies_true, false_implies, true_implies, Int32.reduceLT, Int32.reduceLE, ↓w_TAB3, ↓w_TAB4, ↓w_TAB5, ↓w_TAB7, ↓w_TAB10, ↓w_LK2, ↓w_LK6, false_and, and_false, i1z, i2z, iz1, im0, im1, l0z, hasK_uI, hasK_uL, hasK_uR, hasK_uZ, hasK_sRow, mR_uI, mR_uL, mR_uZ, mR_sRow, mI_uL, mI_uR, mI_uZ, mL_uI, mL_uR, mL_uZ, mL_sRow, LF.hg hL1, layF, LF.r hL1, refF, ne_eq, not_false_eq_true, Option.some.injEq, Sum.inl.injEq, Sum.inr.injEq, Prod.mk.injEq, exists_eq_left, exists_eq_left', ci, hpm1, h11']
        refine ⟨hv, and_ii (fun q => hnot (by rw [hB]; (simp only [i_lt, i_le, i_eq, l_lt, l_le, l_eq, Int32.toInt_toInt64, Int32.reduceToInt, Int64.reduceToInt, ne_eq, Classical.not_not] at *; omega))) (fun q2 => ⟨hv, and_ii (fun q3 => ?_) (fun q3 => ?_)⟩)⟩
        · refine hyes false 0 ?_ ?_ rfl
          · rw [hB]; (simp only [i_lt, i_le, i_eq, l_lt, l_le, l_eq, Int32.toInt_toInt64, Int32.reduceToInt, Int64.reduceToInt, ne_eq, Classical.not_not] at *; omega)
          · symm; exact decide_eq_false (by (simp only [i_lt, i_le, i_eq, l_lt, l_le, l_eq, Int32.toInt_toInt64, Int32.reduceToInt, Int64.reduceToInt, ne_eq, Classical.not_not] at *; omega))
        · refine hyes true 1 ?_ ?_ rfl
          · rw [hB]; (simp only [i_lt, i_le, i_eq, l_lt, l_le, l_eq, Int32.toInt_toInt64, Int32.reduceToInt, Int64.reduceToInt, ne_eq, Classical.not_not] at *; omega)
          · symm; exact decide_eq_true (by (simp only [i_lt, i_le, i_eq, l_lt, l_le, l_eq, Int32.toInt_toInt64, Int32.reduceToInt, Int64.reduceToInt, ne_eq, Classical.not_not] at *; omega))
      refine r_X12_tick (fun n => n == 78 || n == 111 || n == 58 || n == 111) 60 ?_
      simp only [cd_X12_tick, cf_X12_tick, wp, wq, wpI, cdF, w_CI, w_CL, w_CN, w_LI, w_LL, w_LA, w_SI, w_SL, w_SA, w_INC, w_II, w_IId, w_LLb, w_LLd, w_LS, w_I1, w_L1, w_I2L, w_L2I, w_CMP, w_DUP, w_POP, w_DUP2, w_IF, w_IC, w_GO, w_NUL, w_ACN, prs, w_GF, w_PF, w_GS, w_IAL, w_LEN, w_LAL, w_ZAL, w_AAL, w_IAS, w_LAS, w_ZAS, w_AAS, w_RI, w_RL, w_RA, w_NEW, w_NA, w_MNA, w_OI, w_THR, w_CV, w_CS, w_CN9, w_CI9, w_MX, w_cont, lget, sto1, sto2, wideV, vo, vo_rv, isR, isR_rv, rv, fget, fput, cats, Value.category, List.headD_cons, List.getD_cons_zero, List.getD_cons_succ, List.drop_succ_cons, List.drop_zero, List.take_succ_cons, List.take_zero, List.reverse_cons, List.reverse_nil, List.nil_append, List.cons_append, List.length_cons, List.length_nil, cond_true, cond_false, and_true, true_and, Nat.zero_add, Nat.add_zero, Nat.reduceAdd, Nat.reduceLT, Nat.reduceLeDiff, Nat.reduceEqDiff, Nat.reduceBEq, Nat.reduceSub, ↓reduceIte, Int32.reduceOfNat, Int64.reduceOfNat, reduceCtorEq, Nat.le_refl, Nat.zero_le, Bool.false_eq_true, beq_self_eq_true, Fin.isValue, Fin.val_zero, Fin.val_one, Fin.reduceFinMk, Fin.val_two, Nat.reduceMod, Bool.or_false, Bool.or_true, Bool.true_or, Bool.false_or, not_true_eq_false, not_false_eq_true, true_or, or_true, implies_true, false_implies, true_implies, Int32.reduceLT, Int32.reduceLE, ↓w_TAB3, ↓w_TAB4, ↓w_TAB5, ↓w_TAB7, ↓w_TAB10, ↓w_LK2, ↓w_LK6, false_and, and_false, i1z, i2z, iz1, im0, im1, l0z, hasK_uI, hasK_uL, hasK_uR, hasK_uZ, hasK_sRow, mR_uI, mR_uL, mR_uZ, mR_sRow, mI_uL, mI_uR, mI_uZ, mL_uI, mL_uR, mL_uZ, mL_sRow, LF.hg hL1, layF, LF.r hL1, refF, ne_eq, not_false_eq_true, Option.some.injEq, Sum.inl.injEq, Sum.inr.injEq, Prod.mk.injEq, exists_eq_left, exists_eq_left', ci, hpm1]
      refine ⟨hv, and_ii (fun q => hdl (by (simp only [i_lt, i_le, i_eq, l_lt, l_le, l_eq, Int32.toInt_toInt64, Int32.reduceToInt, Int64.reduceToInt, ne_eq, Classical.not_not] at *; omega))) (fun q1 => ⟨hv, and_ii (fun q => hnot (by rw [hB]; (simp only [i_lt, i_le, i_eq, l_lt, l_le, l_eq, Int32.toInt_toInt64, Int32.reduceToInt, Int64.reduceToInt, ne_eq, Classical.not_not] at *; omega))) (fun q2 => hdl (by (simp only [i_lt, i_le, i_eq, l_lt, l_le, l_eq, Int32.toInt_toInt64, Int32.reduceToInt, Int64.reduceToInt, ne_eq, Classical.not_not] at *; omega)))⟩)⟩
    have hsame : ∀ (q : ¬ (qI p 47 = 1 ∧ qI p 50 ≤ T)) (l2 : Option Value), Go G (MT 267) Q X 58 [some (.ref 495), some (.int (nI i)), l2] [] Mi 0 0 := fun q l2' => by
      refine hhalf p Mi l2' rn i1 g1 ?_
      unfold lapA; rw [if_neg q]
    refine r_X12_tick (fun n => n == 12 || n == 58 || n == 58 || n == 111) 60 ?_
    simp only [cd_X12_tick, cf_X12_tick, wp, wq, wpI, cdF, w_CI, w_CL, w_CN, w_LI, w_LL, w_LA, w_SI, w_SL, w_SA, w_INC, w_II, w_IId, w_LLb, w_LLd, w_LS, w_I1, w_L1, w_I2L, w_L2I, w_CMP, w_DUP, w_POP, w_DUP2, w_IF, w_IC, w_GO, w_NUL, w_ACN, prs, w_GF, w_PF, w_GS, w_IAL, w_LEN, w_LAL, w_ZAL, w_AAL, w_IAS, w_LAS, w_ZAS, w_AAS, w_RI, w_RL, w_RA, w_NEW, w_NA, w_MNA, w_OI, w_THR, w_CV, w_CS, w_CN9, w_CI9, w_MX, w_cont, lget, sto1, sto2, wideV, vo, vo_rv, isR, isR_rv, rv, fget, fput, cats, Value.category, List.headD_cons, List.getD_cons_zero, List.getD_cons_succ, List.drop_succ_cons, List.drop_zero, List.take_succ_cons, List.take_zero, List.reverse_cons, List.reverse_nil, List.nil_append, List.cons_append, List.length_cons, List.length_nil, cond_true, cond_false, and_true, true_and, Nat.zero_add, Nat.add_zero, Nat.reduceAdd, Nat.reduceLT, Nat.reduceLeDiff, Nat.reduceEqDiff, Nat.reduceBEq, Nat.reduceSub, ↓reduceIte, Int32.reduceOfNat, Int64.reduceOfNat, reduceCtorEq, Nat.le_refl, Nat.zero_le, Bool.false_eq_true, beq_self_eq_true, Fin.isValue, Fin.val_zero, Fin.val_one, Fin.reduceFinMk, Fin.val_two, Nat.reduceMod, Bool.or_false, Bool.or_true, Bool.true_or, Bool.false_or, not_true_eq_false, not_false_eq_true, true_or, or_true, implies_true, false_implies, true_implies, Int32.reduceLT, Int32.reduceLE, ↓w_TAB3, ↓w_TAB4, ↓w_TAB5, ↓w_TAB7, ↓w_TAB10, ↓w_LK2, ↓w_LK6, false_and, and_false, i1z, i2z, iz1, im0, im1, l0z, hasK_uI, hasK_uL, hasK_uR, hasK_uZ, hasK_sRow, mR_uI, mR_uL, mR_uZ, mR_sRow, mI_uL, mI_uR, mI_uZ, mL_uI, mL_uR, mL_uZ, mL_sRow, LF.hk hL, layF, LF.r hL, refF, ne_eq, not_false_eq_true, Option.some.injEq, Sum.inl.injEq, Sum.inr.injEq, Prod.mk.injEq, exists_eq_left, exists_eq_left', h39, h11, ci, hpm, i1z, eq_self]
    refine and_ii (fun q => ?_) (fun _ => ⟨hv, and_ii (fun q => hsame (by (simp only [i_lt, i_le, i_eq, l_lt, l_le, l_eq, Int32.toInt_toInt64, Int32.reduceToInt, Int64.reduceToInt, ne_eq, Classical.not_not] at *; omega)) _) (fun q1 => ⟨hv, and_ii (fun q => hsame ?_ _) (fun q2 => ?_)⟩)⟩)
    · exfalso; (simp only [i_lt, i_le, i_eq, l_lt, l_le, l_eq, Int32.toInt_toInt64, Int32.reduceToInt, Int64.reduceToInt, ne_eq, Classical.not_not] at *; omega)
    · have h50 : ¬ qI p 50 = T := fun e => q (by rw [e])
      have e47 : qI p 47 = 1 := by (simp only [i_lt, i_le, i_eq, l_lt, l_le, l_eq, Int32.toInt_toInt64, Int32.reduceToInt, Int64.reduceToInt, ne_eq, Classical.not_not] at *; omega)
      have := l10 e47
      omega
    · have e47 : qI p 47 = 1 := by (simp only [i_lt, i_le, i_eq, l_lt, l_le, l_eq, Int32.toInt_toInt64, Int32.reduceToInt, Int64.reduceToInt, ne_eq, Classical.not_not] at *; omega)
      have e50 : qI p 50 = T := by (simp only [i_lt, i_le, i_eq, l_lt, l_le, l_eq, Int32.toInt_toInt64, Int32.reduceToInt, Int64.reduceToInt, ne_eq, Classical.not_not] at *; omega)
      refine m_ends (T := T) rn i1 f49 hT rfl (fun M1 r2 i2 g2 => ⟨rfl, ?_⟩)
      refine hhalf _ M1 _ r2 i2 (fun j => (g2 j).trans (g1 j)) ?_
      unfold lapA
      rw [if_pos ⟨e47, by omega⟩, e50]
theorem m_tick (hR : RM S M) (hi : loS M0 M) (hN39 : sN S 39 ≤ 60) (hT2 : sN S 11 + 1 ≤ 1000000) (hl : ∀ i, i < sN S 39 → lapK (sP S i) ∧ (qI (sP S i) 47 = 1 → sN S 11 + 1 ≤ qI (sP S i) 50)) (hQ : ∀ M', RM (lapI (wN S (up1 (sN S) 11 (sN S 11 + 1))) (sN S 11 + 1) (sN S 39)) M' → loS M0 M' → (∀ j, j ≠ 11 → mI M' 495 j = mI M 495 j) → Q none M') : Ct G (MT 267) [.ref 495] M Q X := by
  obtain ⟨hL, hN, hI, hLl, hA, hC, hP, hRr, hD, hT, hZ, hK⟩ := id hR
  have hn := hN
  unfold mNn at hn
  have hN1 : mNn (up1 (sN S) 11 (sN S 11 + 1)) (uI M 495 11 (nI (sN S 11 + 1))) := mNn_11y hN rfl
  have r1 : RM (wN S (up1 (sN S) 11 (sN S 11 + 1))) (uI M 495 11 (nI (sN S 11 + 1))) := ⟨hL, hN1, (by repeat (first | exact hI | refine mIi_uI ?_ (by omega) | refine mIi_uI ?_ | refine mIi_uL ?_ (by omega) | refine mIi_uL ?_ | refine mIi_uR ?_ (by omega) | refine mIi_uR ?_ | refine mIi_sRow ?_ (by omega) | refine mIi_sRow ?_ | refine mIi_uZ ?_)), hLl, (by repeat (first | exact hA | refine mA_uI ?_ (by omega) | refine mA_uI ?_ | refine mA_uL ?_ (by omega) | refine mA_uL ?_ | refine mA_uR ?_ (by omega) | refine mA_uR ?_ | refine mA_sRow ?_ (by omega) | refine mA_sRow ?_ | refine mA_uZ ?_)), (by repeat (first | exact hC | refine mC_uI ?_ (by omega) | refine mC_uI ?_ | refine mC_uL ?_ (by omega) | refine mC_uL ?_ | refine mC_uR ?_ (by omega) | refine mC_uR ?_ | refine mC_sRow ?_ (by omega) | refine mC_sRow ?_ | refine mC_uZ ?_)), (by repeat (first | exact hP | refine mP_uI ?_ (by omega) | refine mP_uI ?_ | refine mP_uL ?_ (by omega) | refine mP_uL ?_ | refine mP_uR ?_ (by omega) | refine mP_uR ?_ | refine mP_sRow ?_ (by omega) | refine mP_sRow ?_ | refine mP_uZ ?_)), (by repeat (first | exact hRr | refine mRr_uI ?_ (by omega) | refine mRr_uI ?_ | refine mRr_uL ?_ (by omega) | refine mRr_uL ?_ | refine mRr_uR ?_ (by omega) | refine mRr_uR ?_ | refine mRr_sRow ?_ (by omega) | refine mRr_sRow ?_ | refine mRr_uZ ?_)), (by repeat (first | exact hD | refine msgM_uI ?_ (by omega) | refine msgM_uI ?_ | refine msgM_uL ?_ (by omega) | refine msgM_uL ?_ | refine msgM_uR ?_ (by omega) | refine msgM_uR ?_ | refine msgM_sRow ?_ (by omega) | refine msgM_sRow ?_ | refine msgM_uZ ?_)), (by repeat (first | exact hT | refine BYM_uI ?_ (by omega) | refine BYM_uI ?_ | refine BYM_uL ?_ (by omega) | refine BYM_uL ?_ | refine BYM_uR ?_ (by omega) | refine BYM_uR ?_ | refine BYM_sRow ?_ (by omega) | refine BYM_sRow ?_ | refine BYM_uZ ?_)), (by repeat (first | exact hZ | refine BYM_uI ?_ (by omega) | refine BYM_uI ?_ | refine BYM_uL ?_ (by omega) | refine BYM_uL ?_ | refine BYM_uR ?_ (by omega) | refine BYM_uR ?_ | refine BYM_sRow ?_ (by omega) | refine BYM_sRow ?_ | refine BYM_uZ ?_)), (by repeat (first | exact hK | refine mK_uI ?_ (by omega) | refine mK_uI ?_ | refine mK_uL ?_ (by omega) | refine mK_uL ?_ | refine mK_uR ?_ (by omega) | refine mK_uR ?_ | refine mK_sRow ?_ (by omega) | refine mK_sRow ?_ | refine mK_uZ ?_))⟩
  refine Ct.go (L0 := [some (.ref 495), none, none]) (by decide +kernel) rfl rfl ?_
  refine r_X12_tick (fun n => n == 12 || n == 58 || n == 111) 60 ?_
  simp only [cd_X12_tick, cf_X12_tick, wp, wq, wpI, cdF, w_CI, w_CL, w_CN, w_LI, w_LL, w_LA, w_SI, w_SL, w_SA, w_INC, w_II, w_IId, w_LLb, w_LLd, w_LS, w_I1, w_L1, w_I2L, w_L2I, w_CMP, w_DUP, w_POP, w_DUP2, w_IF, w_IC, w_GO, w_NUL, w_ACN, prs, w_GF, w_PF, w_GS, w_IAL, w_LEN, w_LAL, w_ZAL, w_AAL, w_IAS, w_LAS, w_ZAS, w_AAS, w_RI, w_RL, w_RA, w_NEW, w_NA, w_MNA, w_OI, w_THR, w_CV, w_CS, w_CN9, w_CI9, w_MX, w_cont, lget, sto1, sto2, wideV, vo, vo_rv, isR, isR_rv, rv, fget, fput, cats, Value.category, List.headD_cons, List.getD_cons_zero, List.getD_cons_succ, List.drop_succ_cons, List.drop_zero, List.take_succ_cons, List.take_zero, List.reverse_cons, List.reverse_nil, List.nil_append, List.cons_append, List.length_cons, List.length_nil, cond_true, cond_false, and_true, true_and, Nat.zero_add, Nat.add_zero, Nat.reduceAdd, Nat.reduceLT, Nat.reduceLeDiff, Nat.reduceEqDiff, Nat.reduceBEq, Nat.reduceSub, ↓reduceIte, Int32.reduceOfNat, Int64.reduceOfNat, reduceCtorEq, Nat.le_refl, Nat.zero_le, Bool.false_eq_true, beq_self_eq_true, Fin.isValue, Fin.val_zero, Fin.val_one, Fin.reduceFinMk, Fin.val_two, Nat.reduceMod, Bool.or_false, Bool.or_true, Bool.true_or, Bool.false_or, not_true_eq_false, not_false_eq_true, true_or, or_true, implies_true, false_implies, true_implies, Int32.reduceLT, Int32.reduceLE, ↓w_TAB3, ↓w_TAB4, ↓w_TAB5, ↓w_TAB7, ↓w_TAB10, ↓w_LK2, ↓w_LK6, false_and, and_false, i1z, i2z, iz1, im0, im1, l0z, hasK_uI, hasK_uL, hasK_uR, hasK_uZ, hasK_sRow, mR_uI, mR_uL, mR_uZ, mR_sRow, mI_uL, mI_uR, mI_uZ, mL_uI, mL_uR, mL_uZ, mL_sRow, LF.hk hL, layF, LF.r hL, refF, ne_eq, not_false_eq_true, Option.some.injEq, Sum.inl.injEq, Sum.inr.injEq, Prod.mk.injEq, exists_eq_left, exists_eq_left', hn, nI_1]
  refine lp_tick (S := wN S (up1 (sN S) 11 (sN S 11 + 1))) (T := sN S 11 + 1) (M0 := M0) (Mz := uI M 495 11 (nI (sN S 11 + 1))) hN39 rfl hT2 hl ?_ (sN S 39) 0 (by show sN S 39 + 0 = sN S 39; omega) _ (by rw [lapI_0]; exact r1) (loS_uI hi (by omega)) o5_0 _
  intro M1 r2 i2 g2
  exact hQ M1 r2 i2 (fun j hj => by rw [g2, mI_ne (by omega)])
/-! a tick behind ticks -/
theorem lapP_lapP (hk : lapK p) : lapP (lapP p T) (T + 1) = lapP p (T + 1) := by
  obtain ⟨l1, l2, l3, l4, l5, l6, l7, l8, l9⟩ := hk
  have hB : ∀ (p : Py) (u : Nat), lapB p u = true ↔ ((qI p 52 = 1 ∨ qI p 52 = 2) ∧ qI p 54 ≤ u) := fun p u => by unfold lapB; exact decide_eq_true_iff
  by_cases b : lapB p T = true
  · have b' := (hB p T).mp b
    have n47 : qI p 47 ≠ 1 := fun e => by have := (l8 e).2.2; omega
    have a1 : lapA p T = p := if_neg (fun q => n47 q.1)
    have a2 : lapA p (T + 1) = p := if_neg (fun q => n47 q.1)
    have e1 : lapP p T = clsP p (decide (qI p 52 = 1)) := by unfold lapP; rw [if_pos b, a1]
    have e2 : lapP p (T + 1) = clsP p (decide (qI p 52 = 1)) := by unfold lapP; rw [if_pos ((hB _ _).mpr ⟨b'.1, by omega⟩), a2]
    rw [e1, e2]
    have n52 : qI (clsP p (decide (qI p 52 = 1))) 52 = 3 ∨ qI (clsP p (decide (qI p 52 = 1))) 52 = 4 := by
      by_cases e : qI p 52 = 1
      · rw [decide_eq_true e]; exact Or.inl rfl
      · rw [decide_eq_false e]; exact Or.inr rfl
    have n47' : qI (clsP p (decide (qI p 52 = 1))) 47 ≠ 1 := n47
    generalize clsP p (decide (qI p 52 = 1)) = p2 at *
    unfold lapP
    rw [if_neg (fun q => by have := (hB _ _).mp q; omega)]
    exact if_neg (fun q => n47' q.1)
  · have e1 : lapP p T = lapA p T := by unfold lapP; rw [if_neg b]
    rw [e1]
    have a52 : qI (lapA p T) 52 = qI p 52 := qI_lapA (by omega)
    have a54 : qI (lapA p T) 54 = qI p 54 := qI_lapA (by omega)
    have eB : lapB (lapA p T) (T + 1) = lapB p (T + 1) := by unfold lapB; rw [a52, a54]
    have eA : lapA (lapA p T) (T + 1) = lapA p (T + 1) := by
      by_cases q : qI p 47 = 1 ∧ qI p 50 ≤ T
      · have e2 : lapA p T = ends p (qI p 50) := if_pos q
        have e3 : lapA p (T + 1) = ends p (qI p 50) := if_pos ⟨q.1, by omega⟩
        rw [e2, e3]
        refine if_neg (fun q2 => ?_)
        have h1 := q2.1
        rw [qI_ends] at h1
        simp at h1
        split at h1 <;> omega
      · have e2 : lapA p T = p := if_neg q
        rw [e2]
    unfold lapP
    rw [eB, eA, a52]
theorem lq_lap (hk : lapK p) : lq a (T + 1) p = lq a T p + lq a (T + 1) (lapP p T) := by
  obtain ⟨l1, l2, l3, l4, l5, l6, l7, l8, l9⟩ := hk
  have hB : ∀ (p : Py) (u : Nat), lapB p u = true ↔ ((qI p 52 = 1 ∨ qI p 52 = 2) ∧ qI p 54 ≤ u) := fun p u => by unfold lapB; exact decide_eq_true_iff
  by_cases b : lapB p T = true
  · have b' := (hB p T).mp b
    have n52 : qI (lapP p T) 52 = 3 ∨ qI (lapP p T) 52 = 4 := by
      unfold lapP
      rw [if_pos b]
      by_cases e : qI p 52 = 1
      · rw [decide_eq_true e]; exact Or.inl rfl
      · rw [decide_eq_false e]; exact Or.inr rfl
    have e2 : lq a (T + 1) (lapP p T) = 0 := by unfold lq; rw [if_neg (by omega)]
    have e3 : lq a (T + 1) p = lq a T p := by
      unfold lq
      have := (hB p (T + 1)).mpr ⟨b'.1, by omega⟩
      rw [b, this]
    rw [e2, e3]; omega
  · have e1 : lapP p T = lapA p T := by unfold lapP; rw [if_neg b]
    have e2 : lq a T p = 0 := by unfold lq; rw [if_neg (fun q => b q.1.1)]
    have a52 : qI (lapA p T) 52 = qI p 52 := qI_lapA (by omega)
    have a54 : qI (lapA p T) 54 = qI p 54 := qI_lapA (by omega)
    have a45 : qI (lapA p T) 45 = qI p 45 := qI_lapA (by omega)
    have a53 : qL (lapA p T) 53 = qL p 53 := qL_lapA (by omega)
    have eB : lapB (lapA p T) (T + 1) = lapB p (T + 1) := by unfold lapB; rw [a52, a54]
    have e3 : lq a (T + 1) (lapP p T) = lq a (T + 1) p := by rw [e1]; unfold lq; rw [eB, a52, a45, a53]
    rw [e2, e3]; omega
theorem lapL_lap {pay : Nat → Py} {L : Nat → Nat → Int} (hk : ∀ i, i < np → lapK (pay i)) : lapL (fun j => if j < np then lapP (pay j) T else pay j) (T + 1) (lapL pay T L np) np = lapL pay (T + 1) L np := by
  funext b a
  by_cases e : b = 509
  · subst e
    rw [lapL_509, lapL_509, lapL_509]
    have h1 : sumF (fun i => lq a (T + 1) (pay i)) np = sumF (fun i => lq a T (pay i) + lq a (T + 1) (if i < np then lapP (pay i) T else pay i)) np := sumF_congr (fun i hi => by
      show lq a (T + 1) (pay i) = lq a T (pay i) + lq a (T + 1) (if i < np then lapP (pay i) T else pay i)
      rw [if_pos hi]
      exact lq_lap (hk i hi))
    rw [h1, sumF_add]
    omega
  · rw [lapL_ne e, lapL_ne e, lapL_ne e]
def tkS (S : Sw) (k : Nat) : Sw := if k = 0 then S else lapI (wN S (up1 (sN S) 11 (sN S 11 + k))) (sN S 11 + k) (sN S 39)
theorem tkS_s (hk : ∀ i, i < sN S 39 → lapK (sP S i)) : lapI (wN (tkS S k) (up1 (sN (tkS S k)) 11 (sN (tkS S k) 11 + 1))) (sN (tkS S k) 11 + 1) (sN (tkS S k) 39) = tkS S (k + 1) := by
  unfold tkS
  rw [if_neg (show ¬ k + 1 = 0 by omega)]
  by_cases e : k = 0
  · subst e
    rw [if_pos rfl]
  · rw [if_neg e]
    generalize hT : sN S 11 + k = T
    have e11 : sN (lapI (wN S (up1 (sN S) 11 T)) T (sN S 39)) 11 = T := rfl
    have e39 : sN (lapI (wN S (up1 (sN S) 11 T)) T (sN S 39)) 39 = sN S 39 := rfl
    rw [e11, e39, show sN S 11 + (k + 1) = T + 1 by omega]
    have eN : up1 (sN (lapI (wN S (up1 (sN S) 11 T)) T (sN S 39))) 11 (T + 1) = up1 (sN S) 11 (T + 1) := up1_up1
    rw [eN]
    unfold lapI
    have e1 : lapL (fun j => if j < sN S 39 then lapP (sP S j) T else sP S j) (T + 1) (lapL (sP S) T (sL S) (sN S 39)) (sN S 39) = lapL (sP S) (T + 1) (sL S) (sN S 39) := lapL_lap hk
    have e2 : (fun j => if j < sN S 39 then lapP ((fun j => if j < sN S 39 then lapP (sP S j) T else sP S j) j) (T + 1) else (fun j => if j < sN S 39 then lapP (sP S j) T else sP S j) j) = (fun j => if j < sN S 39 then lapP (sP S j) (T + 1) else sP S j) := by
      funext j
      by_cases q : j < sN S 39
      · simp only [if_pos q]
        exact lapP_lapP (hk j q)
      · simp only [if_neg q]
    show wP (wL (wN S (up1 (sN S) 11 (T + 1))) (lapL (fun j => if j < sN S 39 then lapP (sP S j) T else sP S j) (T + 1) (lapL (sP S) T (sL S) (sN S 39)) (sN S 39))) (fun j => if j < sN S 39 then lapP ((fun j => if j < sN S 39 then lapP (sP S j) T else sP S j) j) (T + 1) else (fun j => if j < sN S 39 then lapP (sP S j) T else sP S j) j) = _
    rw [e1, e2]
    rfl
theorem tkS_N : sN (tkS S k) 39 = sN S 39 ∧ sN (tkS S k) 11 = sN S 11 + k ∧ (∀ j, j ≠ 11 → sN (tkS S k) j = sN S j) := by
  unfold tkS
  by_cases e : k = 0
  · rw [if_pos e, e]; exact ⟨rfl, rfl, fun _ _ => rfl⟩
  · rw [if_neg e]; exact ⟨rfl, rfl, fun j hj => if_neg hj⟩
theorem lapK_lap (h : lapK p) : lapK (lapP p T) := by
  obtain ⟨l1, l2, l3, l4, l5, l6, l7, l8, l9⟩ := h
  have e45 : qI (lapP p T) 45 = qI p 45 := qI_lapP (by omega)
  have e49 : qL (lapP p T) 49 = qL p 49 := by rw [qL_lapP]; exact qL_lapA (by omega)
  have e47 : qI (lapP p T) 47 = qI (lapA p T) 47 := by unfold lapP; split <;> rfl
  have e50 : qI (lapP p T) 50 = qI (lapA p T) 50 := by unfold lapP; split <;> rfl
  have e51 : qI (lapP p T) 51 = qI (lapA p T) 51 := by unfold lapP; split <;> rfl
  have e52 : qI (lapP p T) 52 = qI p 52 ∨ ((qI (lapP p T) 52 = 3 ∨ qI (lapP p T) 52 = 4) ∧ qI p 52 ≠ 0) := by
    unfold lapP
    by_cases b : lapB p T = true
    · rw [if_pos b]
      right
      have : qI p 52 ≠ 0 := by
        unfold lapB at b
        have := of_decide_eq_true b
        omega
      refine ⟨?_, this⟩
      by_cases e : qI p 52 = 1
      · rw [decide_eq_true e]; exact Or.inl rfl
      · rw [decide_eq_false e]; exact Or.inr rfl
    · rw [if_neg b]; left; exact qI_lapA (by omega)
  have e54 : qI (lapP p T) 54 ≤ 1005001 := by
    unfold lapP
    split
    · show 0 ≤ 1005001; omega
    · rw [qI_lapA (by omega)]; exact l5
  by_cases q : qI p 47 = 1 ∧ qI p 50 ≤ T
  · have ea : lapA p T = ends p (qI p 50) := if_pos q
    rw [ea] at e47 e50 e51
    rw [qI_ends] at e47 e50 e51
    simp at e47 e50 e51
    have n47 : qI (lapP p T) 47 = 3 ∨ qI (lapP p T) 47 = 2 := by rw [e47]; split <;> omega
    exact ⟨by omega, by omega, by omega, by omega, e54, by omega, by omega, fun e => by omega, fun e => by omega⟩
  · have ea : lapA p T = p := if_neg q
    rw [ea] at e47 e50 e51
    exact ⟨by omega, by omega, by omega, by omega, e54, by omega, by omega, fun e => by have := l8 (by omega); omega, fun e => by omega⟩
theorem tk_ok (hk : ∀ i, i < sN S 39 → lapK (sP S i) ∧ (qI (sP S i) 47 = 1 → sN S 11 + 1 ≤ qI (sP S i) 50)) : ∀ i, i < sN S 39 → lapK (sP (tkS S k) i) ∧ (qI (sP (tkS S k) i) 47 = 1 → sN S 11 + k + 1 ≤ qI (sP (tkS S k) i) 50) := fun i hi => by
  unfold tkS
  by_cases e : k = 0
  · rw [if_pos e, e]; exact hk i hi
  · rw [if_neg e]
    have e1 : sP (lapI (wN S (up1 (sN S) 11 (sN S 11 + k))) (sN S 11 + k) (sN S 39)) i = lapP (sP S i) (sN S 11 + k) := if_pos hi
    rw [e1]
    refine ⟨lapK_lap (hk i hi).1, fun q => ?_⟩
    have e47 : qI (lapP (sP S i) (sN S 11 + k)) 47 = qI (lapA (sP S i) (sN S 11 + k)) 47 := by unfold lapP; split <;> rfl
    have e50 : qI (lapP (sP S i) (sN S 11 + k)) 50 = qI (lapA (sP S i) (sN S 11 + k)) 50 := by unfold lapP; split <;> rfl
    by_cases q2 : qI (sP S i) 47 = 1 ∧ qI (sP S i) 50 ≤ sN S 11 + k
    · have ea : lapA (sP S i) (sN S 11 + k) = ends (sP S i) (qI (sP S i) 50) := if_pos q2
      rw [e47, ea, qI_ends] at q
      simp at q
      split at q <;> omega
    · have ea : lapA (sP S i) (sN S 11 + k) = sP S i := if_neg q2
      rw [e50, ea]
      rw [e47, ea] at q
      omega
theorem lp_ticks {n : Nat} (hn : n ≤ 1000) (h39 : sN S 39 ≤ 60) (hT : sN S 11 + n ≤ 1000000) (hk : ∀ i, i < sN S 39 → lapK (sP S i) ∧ (qI (sP S i) 47 = 1 → sN S 11 + 1 ≤ qI (sP S i) 50)) (hQ : ∀ M', RM (tkS S n) M' → loS M0 M' → (∀ j, j ≠ 11 → mI M' 495 j = mI Mz 495 j) → Go G (MT 268) Q X 77 [some (.ref 495), some (.int (nI n)), some (.int (nI n))] [] M' 0 0) : ∀ (m k : Nat), m + k = n → ∀ Mk, RM (tkS S k) Mk → loS M0 Mk → (∀ j, j ≠ 11 → mI Mk 495 j = mI Mz 495 j) → Go G (MT 268) Q X 62 [some (.ref 495), some (.int (nI n)), some (.int (nI k))] [] Mk 0 0 := by
  have tn := nI_toInt (n := n) (by omega)
  intro m
  induction m with
  | zero =>
    intro k hk2 Mk r1 i1 g1
    have hk2 : k = n := by omega
    subst hk2
    have := hQ Mk r1 i1 g1
    refine r_X12_ticks (fun n => n == 62 || n == 77 || n == 22 || n == 45 || n == 54 || n == 71) 60 ?_
    simp only [cd_X12_ticks, cf_X12_ticks, wp, wq, wpI, cdF, w_CI, w_CL, w_CN, w_LI, w_LL, w_LA, w_SI, w_SL, w_SA, w_INC, w_II, w_IId, w_LLb, w_LLd, w_LS, w_I1, w_L1, w_I2L, w_L2I, w_CMP, w_DUP, w_POP, w_DUP2, w_IF, w_IC, w_GO, w_NUL, w_ACN, prs, w_GF, w_PF, w_GS, w_IAL, w_LEN, w_LAL, w_ZAL, w_AAL, w_IAS, w_LAS, w_ZAS, w_AAS, w_RI, w_RL, w_RA, w_NEW, w_NA, w_MNA, w_OI, w_THR, w_CV, w_CS, w_CN9, w_CI9, w_MX, w_cont, lget, sto1, sto2, wideV, vo, vo_rv, isR, isR_rv, rv, fget, fput, cats, Value.category, List.headD_cons, List.getD_cons_zero, List.getD_cons_succ, List.drop_succ_cons, List.drop_zero, List.take_succ_cons, List.take_zero, List.reverse_cons, List.reverse_nil, List.nil_append, List.cons_append, List.length_cons, List.length_nil, cond_true, cond_false, and_true, true_and, Nat.zero_add, Nat.add_zero, Nat.reduceAdd, Nat.reduceLT, Nat.reduceLeDiff, Nat.reduceEqDiff, Nat.reduceBEq, Nat.reduceSub, ↓reduceIte, Int32.reduceOfNat, Int64.reduceOfNat, reduceCtorEq, Nat.le_refl, Nat.zero_le, Bool.false_eq_true, beq_self_eq_true, Fin.isValue, Fin.val_zero, Fin.val_one, Fin.reduceFinMk, Fin.val_two, Nat.reduceMod, Bool.or_false, Bool.or_true, Bool.true_or, Bool.false_or, not_true_eq_false, not_false_eq_true, true_or, or_true, implies_true, false_implies, true_implies, Int32.reduceLT, Int32.reduceLE, ↓w_TAB3, ↓w_TAB4, ↓w_TAB5, ↓w_TAB7, ↓w_TAB10, ↓w_LK2, ↓w_LK6, false_and, and_false, i1z, i2z, iz1, im0, im1, l0z]
    exact ⟨fun _ => this, fun q => absurd (nI_le (Nat.le_refl k) (by omega)) q⟩
  | succ m ih =>
    intro k hk2 Mk r1 i1 g1
    have tk := nI_toInt (n := k) (by omega)
    have hL := r1.1
    have e := tkS_N (S := S) (k := k)
    have hok := tk_ok (k := k) hk
    refine r_X12_ticks (fun n => n == 62 || n == 77 || n == 22 || n == 45 || n == 54 || n == 71) 60 ?_
    simp only [cd_X12_ticks, cf_X12_ticks, wp, wq, wpI, cdF, w_CI, w_CL, w_CN, w_LI, w_LL, w_LA, w_SI, w_SL, w_SA, w_INC, w_II, w_IId, w_LLb, w_LLd, w_LS, w_I1, w_L1, w_I2L, w_L2I, w_CMP, w_DUP, w_POP, w_DUP2, w_IF, w_IC, w_GO, w_NUL, w_ACN, prs, w_GF, w_PF, w_GS, w_IAL, w_LEN, w_LAL, w_ZAL, w_AAL, w_IAS, w_LAS, w_ZAS, w_AAS, w_RI, w_RL, w_RA, w_NEW, w_NA, w_MNA, w_OI, w_THR, w_CV, w_CS, w_CN9, w_CI9, w_MX, w_cont, lget, sto1, sto2, wideV, vo, vo_rv, isR, isR_rv, rv, fget, fput, cats, Value.category, List.headD_cons, List.getD_cons_zero, List.getD_cons_succ, List.drop_succ_cons, List.drop_zero, List.take_succ_cons, List.take_zero, List.reverse_cons, List.reverse_nil, List.nil_append, List.cons_append, List.length_cons, List.length_nil, cond_true, cond_false, and_true, true_and, Nat.zero_add, Nat.add_zero, Nat.reduceAdd, Nat.reduceLT, Nat.reduceLeDiff, Nat.reduceEqDiff, Nat.reduceBEq, Nat.reduceSub, ↓reduceIte, Int32.reduceOfNat, Int64.reduceOfNat, reduceCtorEq, Nat.le_refl, Nat.zero_le, Bool.false_eq_true, beq_self_eq_true, Fin.isValue, Fin.val_zero, Fin.val_one, Fin.reduceFinMk, Fin.val_two, Nat.reduceMod, Bool.or_false, Bool.or_true, Bool.true_or, Bool.false_or, not_true_eq_false, not_false_eq_true, true_or, or_true, implies_true, false_implies, true_implies, Int32.reduceLT, Int32.reduceLE, ↓w_TAB3, ↓w_TAB4, ↓w_TAB5, ↓w_TAB7, ↓w_TAB10, ↓w_LK2, ↓w_LK6, false_and, and_false, i1z, i2z, iz1, im0, im1, l0z, hasK_uI, hasK_uL, hasK_uR, hasK_uZ, hasK_sRow, mR_uI, mR_uL, mR_uZ, mR_sRow, mI_uL, mI_uR, mI_uZ, mL_uI, mL_uR, mL_uZ, mL_sRow, LF.hk hL, layF, LF.r hL, refF, ne_eq, not_false_eq_true, Option.some.injEq, Sum.inl.injEq, Sum.inr.injEq, Prod.mk.injEq, exists_eq_left, exists_eq_left']
    refine and_ii (fun q => ?_) (fun _ => ?_)
    · exfalso; (simp only [i_lt, i_le, i_eq, l_lt, l_le, l_eq, Int32.toInt_toInt64, Int32.reduceToInt, Int64.reduceToInt, ne_eq, Classical.not_not] at *; omega)
    refine m_tick (S := tkS S k) r1 i1 (by omega) (by omega) (fun i hi => by rw [e.1] at hi; rw [e.2.1]; exact hok i hi) (fun M2 r2 i2 g2 => ⟨rfl, ?_⟩)
    rw [tkS_s (fun i hi => (hk i hi).1)] at r2
    refine r_X12_ticks (fun n => n == 62 || n == 77 || n == 22 || n == 45 || n == 54 || n == 71) 60 ?_
    simp only [cd_X12_ticks, cf_X12_ticks, wp, wq, wpI, cdF, w_CI, w_CL, w_CN, w_LI, w_LL, w_LA, w_SI, w_SL, w_SA, w_INC, w_II, w_IId, w_LLb, w_LLd, w_LS, w_I1, w_L1, w_I2L, w_L2I, w_CMP, w_DUP, w_POP, w_DUP2, w_IF, w_IC, w_GO, w_NUL, w_ACN, prs, w_GF, w_PF, w_GS, w_IAL, w_LEN, w_LAL, w_ZAL, w_AAL, w_IAS, w_LAS, w_ZAS, w_AAS, w_RI, w_RL, w_RA, w_NEW, w_NA, w_MNA, w_OI, w_THR, w_CV, w_CS, w_CN9, w_CI9, w_MX, w_cont, lget, sto1, sto2, wideV, vo, vo_rv, isR, isR_rv, rv, fget, fput, cats, Value.category, List.headD_cons, List.getD_cons_zero, List.getD_cons_succ, List.drop_succ_cons, List.drop_zero, List.take_succ_cons, List.take_zero, List.reverse_cons, List.reverse_nil, List.nil_append, List.cons_append, List.length_cons, List.length_nil, cond_true, cond_false, and_true, true_and, Nat.zero_add, Nat.add_zero, Nat.reduceAdd, Nat.reduceLT, Nat.reduceLeDiff, Nat.reduceEqDiff, Nat.reduceBEq, Nat.reduceSub, ↓reduceIte, Int32.reduceOfNat, Int64.reduceOfNat, reduceCtorEq, Nat.le_refl, Nat.zero_le, Bool.false_eq_true, beq_self_eq_true, Fin.isValue, Fin.val_zero, Fin.val_one, Fin.reduceFinMk, Fin.val_two, Nat.reduceMod, Bool.or_false, Bool.or_true, Bool.true_or, Bool.false_or, not_true_eq_false, not_false_eq_true, true_or, or_true, implies_true, false_implies, true_implies, Int32.reduceLT, Int32.reduceLE, ↓w_TAB3, ↓w_TAB4, ↓w_TAB5, ↓w_TAB7, ↓w_TAB10, ↓w_LK2, ↓w_LK6, false_and, and_false, i1z, i2z, iz1, im0, im1, l0z, nI_1]
    exact ih (k + 1) (by omega) M2 r2 i2 (fun j hj => by rw [g2 j hj, g1 j hj])
theorem wr1_11 {n : Nat → Nat} {v : Nat} : up1 (wr1 n) 11 v = wr1 (up1 n 11 v) := by
  unfold wr1 spd
  by_cases e7 : n 7 = 0
  · rw [if_pos (show up1 n 9 (n 9 + 1) 7 = 0 from e7), if_pos (show up1 (up1 n 11 v) 9 (up1 n 11 v 9 + 1) 7 = 0 from e7)]
    funext j
    simp only [up1]
    by_cases q : j = 11
    · subst q; simp
    · simp [q]
  · rw [if_neg (show ¬ up1 n 9 (n 9 + 1) 7 = 0 from e7), if_neg (show ¬ up1 (up1 n 11 v) 9 (up1 n 11 v 9 + 1) 7 = 0 from e7)]
    funext j
    simp only [up1]
    by_cases q : j = 11
    · subst q; simp
    · simp [q]
theorem m_ticks (hR : RM S M) (hj : Jv t S) : Ct G (MT 268) [.ref 495, .int x] M (QmI M (o_ticks S x.toInt)) X := by
  obtain ⟨hL, hN, hI, hLl, hA, hC, hP, hRr, hD, hT, hZ, hK⟩ := id hR
  have hs := hj.1
  have hn := hN
  unfold mNn at hn
  unfold jS at hs
  have t11 := nI_toInt (n := sN S 11) (by omega)
  have c11 := nI_clamp (n := sN S 11) (by omega)
  have h39 : sN S 39 ≤ 60 := by omega
  have bx := i_bnd x
  refine Ct.go (L0 := [some (.ref 495), some (.int x), none]) (by decide +kernel) rfl rfl ?_
  have hno : ∀ q : ¬ (1 ≤ x.toInt ∧ x.toInt ≤ 1000), Go G (MT 268) (QmI M (o_ticks S x.toInt)) X 18 [some (.ref 495), some (.int x), none] [.int 0, .ref 495] M 0 0 := fun q => by
    refine r_X12_ticks (fun n => n == 22 || n == 45 || n == 54 || n == 71) 60 ?_
    simp only [cd_X12_ticks, cf_X12_ticks, wp, wq, wpI, cdF, w_CI, w_CL, w_CN, w_LI, w_LL, w_LA, w_SI, w_SL, w_SA, w_INC, w_II, w_IId, w_LLb, w_LLd, w_LS, w_I1, w_L1, w_I2L, w_L2I, w_CMP, w_DUP, w_POP, w_DUP2, w_IF, w_IC, w_GO, w_NUL, w_ACN, prs, w_GF, w_PF, w_GS, w_IAL, w_LEN, w_LAL, w_ZAL, w_AAL, w_IAS, w_LAS, w_ZAS, w_AAS, w_RI, w_RL, w_RA, w_NEW, w_NA, w_MNA, w_OI, w_THR, w_CV, w_CS, w_CN9, w_CI9, w_MX, w_cont, lget, sto1, sto2, wideV, vo, vo_rv, isR, isR_rv, rv, fget, fput, cats, Value.category, List.headD_cons, List.getD_cons_zero, List.getD_cons_succ, List.drop_succ_cons, List.drop_zero, List.take_succ_cons, List.take_zero, List.reverse_cons, List.reverse_nil, List.nil_append, List.cons_append, List.length_cons, List.length_nil, cond_true, cond_false, and_true, true_and, Nat.zero_add, Nat.add_zero, Nat.reduceAdd, Nat.reduceLT, Nat.reduceLeDiff, Nat.reduceEqDiff, Nat.reduceBEq, Nat.reduceSub, ↓reduceIte, Int32.reduceOfNat, Int64.reduceOfNat, reduceCtorEq, Nat.le_refl, Nat.zero_le, Bool.false_eq_true, beq_self_eq_true, Fin.isValue, Fin.val_zero, Fin.val_one, Fin.reduceFinMk, Fin.val_two, Nat.reduceMod, Bool.or_false, Bool.or_true, Bool.true_or, Bool.false_or, not_true_eq_false, not_false_eq_true, true_or, or_true, implies_true, false_implies, true_implies, Int32.reduceLT, Int32.reduceLE, ↓w_TAB3, ↓w_TAB4, ↓w_TAB5, ↓w_TAB7, ↓w_TAB10, ↓w_LK2, ↓w_LK6, false_and, and_false, i1z, i2z, iz1, im0, im1, l0z, hasK_uI, hasK_uL, hasK_uR, hasK_uZ, hasK_sRow, mR_uI, mR_uL, mR_uZ, mR_sRow, mI_uL, mI_uR, mI_uZ, mL_uI, mL_uR, mL_uZ, mL_sRow, LF.hk hL, layF, LF.r hL, refF, ne_eq, not_false_eq_true, Option.some.injEq, Sum.inl.injEq, Sum.inr.injEq, Prod.mk.injEq, exists_eq_left, exists_eq_left']
    refine m_isOpen hL hN (smN_of hj) ⟨_, rfl, ?_⟩
    refine r_X12_ticks (fun n => n == 22 || n == 45 || n == 54 || n == 71) 60 ?_
    simp only [cd_X12_ticks, cf_X12_ticks, wp, wq, wpI, cdF, w_CI, w_CL, w_CN, w_LI, w_LL, w_LA, w_SI, w_SL, w_SA, w_INC, w_II, w_IId, w_LLb, w_LLd, w_LS, w_I1, w_L1, w_I2L, w_L2I, w_CMP, w_DUP, w_POP, w_DUP2, w_IF, w_IC, w_GO, w_NUL, w_ACN, prs, w_GF, w_PF, w_GS, w_IAL, w_LEN, w_LAL, w_ZAL, w_AAL, w_IAS, w_LAS, w_ZAS, w_AAS, w_RI, w_RL, w_RA, w_NEW, w_NA, w_MNA, w_OI, w_THR, w_CV, w_CS, w_CN9, w_CI9, w_MX, w_cont, lget, sto1, sto2, wideV, vo, vo_rv, isR, isR_rv, rv, fget, fput, cats, Value.category, List.headD_cons, List.getD_cons_zero, List.getD_cons_succ, List.drop_succ_cons, List.drop_zero, List.take_succ_cons, List.take_zero, List.reverse_cons, List.reverse_nil, List.nil_append, List.cons_append, List.length_cons, List.length_nil, cond_true, cond_false, and_true, true_and, Nat.zero_add, Nat.add_zero, Nat.reduceAdd, Nat.reduceLT, Nat.reduceLeDiff, Nat.reduceEqDiff, Nat.reduceBEq, Nat.reduceSub, ↓reduceIte, Int32.reduceOfNat, Int64.reduceOfNat, reduceCtorEq, Nat.le_refl, Nat.zero_le, Bool.false_eq_true, beq_self_eq_true, Fin.isValue, Fin.val_zero, Fin.val_one, Fin.reduceFinMk, Fin.val_two, Nat.reduceMod, Bool.or_false, Bool.or_true, Bool.true_or, Bool.false_or, not_true_eq_false, not_false_eq_true, true_or, or_true, implies_true, false_implies, true_implies, Int32.reduceLT, Int32.reduceLE, ↓w_TAB3, ↓w_TAB4, ↓w_TAB5, ↓w_TAB7, ↓w_TAB10, ↓w_LK2, ↓w_LK6, false_and, and_false, i1z, i2z, iz1, im0, im1, l0z, hasK_uI, hasK_uL, hasK_uR, hasK_uZ, hasK_sRow, mR_uI, mR_uL, mR_uZ, mR_sRow, mI_uL, mI_uR, mI_uZ, mL_uI, mL_uR, mL_uZ, mL_sRow, LF.hk hL, layF, LF.r hL, refF, ne_eq, not_false_eq_true, Option.some.injEq, Sum.inl.injEq, Sum.inr.injEq, Prod.mk.injEq, exists_eq_left, exists_eq_left', hn, b2i_0]
    repeat' (first | refine and_ii ?_ ?_ | refine imp_i (fun _ => ?_))
    all_goals refine m_goes_1 hL ⟨_, rfl, ?_⟩
    all_goals (refine r_X12_ticks (fun n => n == 22 || n == 45 || n == 54 || n == 71) 60 ?_; simp only [cd_X12_ticks, cf_X12_ticks, wp, wq, wpI, cdF, w_CI, w_CL, w_CN, w_LI, w_LL, w_LA, w_SI, w_SL, w_SA, w_INC, w_II, w_IId, w_LLb, w_LLd, w_LS, w_I1, w_L1, w_I2L, w_L2I, w_CMP, w_DUP, w_POP, w_DUP2, w_IF, w_IC, w_GO, w_NUL, w_ACN, prs, w_GF, w_PF, w_GS, w_IAL, w_LEN, w_LAL, w_ZAL, w_AAL, w_IAS, w_LAS, w_ZAS, w_AAS, w_RI, w_RL, w_RA, w_NEW, w_NA, w_MNA, w_OI, w_THR, w_CV, w_CS, w_CN9, w_CI9, w_MX, w_cont, lget, sto1, sto2, wideV, vo, vo_rv, isR, isR_rv, rv, fget, fput, cats, Value.category, List.headD_cons, List.getD_cons_zero, List.getD_cons_succ, List.drop_succ_cons, List.drop_zero, List.take_succ_cons, List.take_zero, List.reverse_cons, List.reverse_nil, List.nil_append, List.cons_append, List.length_cons, List.length_nil, cond_true, cond_false, and_true, true_and, Nat.zero_add, Nat.add_zero, Nat.reduceAdd, Nat.reduceLT, Nat.reduceLeDiff, Nat.reduceEqDiff, Nat.reduceBEq, Nat.reduceSub, ↓reduceIte, Int32.reduceOfNat, Int64.reduceOfNat, reduceCtorEq, Nat.le_refl, Nat.zero_le, Bool.false_eq_true, beq_self_eq_true, Fin.isValue, Fin.val_zero, Fin.val_one, Fin.reduceFinMk, Fin.val_two, Nat.reduceMod, Bool.or_false, Bool.or_true, Bool.true_or, Bool.false_or, not_true_eq_false, not_false_eq_true, true_or, or_true, implies_true, false_implies, true_implies, Int32.reduceLT, Int32.reduceLE, ↓w_TAB3, ↓w_TAB4, ↓w_TAB5, ↓w_TAB7, ↓w_TAB10, ↓w_LK2, ↓w_LK6, false_and, and_false, i1z, i2z, iz1, im0, im1, l0z, hasK_uI, hasK_uL, hasK_uR, hasK_uZ, hasK_sRow, mR_uI, mR_uL, mR_uZ, mR_sRow, mI_uL, mI_uR, mI_uZ, mL_uI, mL_uR, mL_uZ, mL_sRow, LF.hk hL, layF, LF.r hL, refF, ne_eq, not_false_eq_true, Option.some.injEq, Sum.inl.injEq, Sum.inr.injEq, Prod.mk.injEq, exists_eq_left, exists_eq_left'])
    all_goals exact Qm_1 hR (gat_1 q)
  have hyes : ∀ q : 1 ≤ x.toInt ∧ x.toInt ≤ 1000, Go G (MT 268) (QmI M (o_ticks S x.toInt)) X 18 [some (.ref 495), some (.int x), none] [.int 1, .ref 495] M 0 0 := fun hx => by
    have ta : (nI (sN S 11) + x).toInt = sN S 11 + x.toInt := by rw [i_add] <;> rw [t11]; omega
    refine r_X12_ticks (fun n => n == 22 || n == 45 || n == 54 || n == 71) 60 ?_
    simp only [cd_X12_ticks, cf_X12_ticks, wp, wq, wpI, cdF, w_CI, w_CL, w_CN, w_LI, w_LL, w_LA, w_SI, w_SL, w_SA, w_INC, w_II, w_IId, w_LLb, w_LLd, w_LS, w_I1, w_L1, w_I2L, w_L2I, w_CMP, w_DUP, w_POP, w_DUP2, w_IF, w_IC, w_GO, w_NUL, w_ACN, prs, w_GF, w_PF, w_GS, w_IAL, w_LEN, w_LAL, w_ZAL, w_AAL, w_IAS, w_LAS, w_ZAS, w_AAS, w_RI, w_RL, w_RA, w_NEW, w_NA, w_MNA, w_OI, w_THR, w_CV, w_CS, w_CN9, w_CI9, w_MX, w_cont, lget, sto1, sto2, wideV, vo, vo_rv, isR, isR_rv, rv, fget, fput, cats, Value.category, List.headD_cons, List.getD_cons_zero, List.getD_cons_succ, List.drop_succ_cons, List.drop_zero, List.take_succ_cons, List.take_zero, List.reverse_cons, List.reverse_nil, List.nil_append, List.cons_append, List.length_cons, List.length_nil, cond_true, cond_false, and_true, true_and, Nat.zero_add, Nat.add_zero, Nat.reduceAdd, Nat.reduceLT, Nat.reduceLeDiff, Nat.reduceEqDiff, Nat.reduceBEq, Nat.reduceSub, ↓reduceIte, Int32.reduceOfNat, Int64.reduceOfNat, reduceCtorEq, Nat.le_refl, Nat.zero_le, Bool.false_eq_true, beq_self_eq_true, Fin.isValue, Fin.val_zero, Fin.val_one, Fin.reduceFinMk, Fin.val_two, Nat.reduceMod, Bool.or_false, Bool.or_true, Bool.true_or, Bool.false_or, not_true_eq_false, not_false_eq_true, true_or, or_true, implies_true, false_implies, true_implies, Int32.reduceLT, Int32.reduceLE, ↓w_TAB3, ↓w_TAB4, ↓w_TAB5, ↓w_TAB7, ↓w_TAB10, ↓w_LK2, ↓w_LK6, false_and, and_false, i1z, i2z, iz1, im0, im1, l0z, hasK_uI, hasK_uL, hasK_uR, hasK_uZ, hasK_sRow, mR_uI, mR_uL, mR_uZ, mR_sRow, mI_uL, mI_uR, mI_uZ, mL_uI, mL_uR, mL_uZ, mL_sRow, LF.hk hL, layF, LF.r hL, refF, ne_eq, not_false_eq_true, Option.some.injEq, Sum.inl.injEq, Sum.inr.injEq, Prod.mk.injEq, exists_eq_left, exists_eq_left']
    refine m_isOpen hL hN (smN_of hj) ⟨_, rfl, ?_⟩
    refine r_X12_ticks (fun n => n == 22 || n == 45 || n == 54 || n == 71) 60 ?_
    simp only [cd_X12_ticks, cf_X12_ticks, wp, wq, wpI, cdF, w_CI, w_CL, w_CN, w_LI, w_LL, w_LA, w_SI, w_SL, w_SA, w_INC, w_II, w_IId, w_LLb, w_LLd, w_LS, w_I1, w_L1, w_I2L, w_L2I, w_CMP, w_DUP, w_POP, w_DUP2, w_IF, w_IC, w_GO, w_NUL, w_ACN, prs, w_GF, w_PF, w_GS, w_IAL, w_LEN, w_LAL, w_ZAL, w_AAL, w_IAS, w_LAS, w_ZAS, w_AAS, w_RI, w_RL, w_RA, w_NEW, w_NA, w_MNA, w_OI, w_THR, w_CV, w_CS, w_CN9, w_CI9, w_MX, w_cont, lget, sto1, sto2, wideV, vo, vo_rv, isR, isR_rv, rv, fget, fput, cats, Value.category, List.headD_cons, List.getD_cons_zero, List.getD_cons_succ, List.drop_succ_cons, List.drop_zero, List.take_succ_cons, List.take_zero, List.reverse_cons, List.reverse_nil, List.nil_append, List.cons_append, List.length_cons, List.length_nil, cond_true, cond_false, and_true, true_and, Nat.zero_add, Nat.add_zero, Nat.reduceAdd, Nat.reduceLT, Nat.reduceLeDiff, Nat.reduceEqDiff, Nat.reduceBEq, Nat.reduceSub, ↓reduceIte, Int32.reduceOfNat, Int64.reduceOfNat, reduceCtorEq, Nat.le_refl, Nat.zero_le, Bool.false_eq_true, beq_self_eq_true, Fin.isValue, Fin.val_zero, Fin.val_one, Fin.reduceFinMk, Fin.val_two, Nat.reduceMod, Bool.or_false, Bool.or_true, Bool.true_or, Bool.false_or, not_true_eq_false, not_false_eq_true, true_or, or_true, implies_true, false_implies, true_implies, Int32.reduceLT, Int32.reduceLE, ↓w_TAB3, ↓w_TAB4, ↓w_TAB5, ↓w_TAB7, ↓w_TAB10, ↓w_LK2, ↓w_LK6, false_and, and_false, i1z, i2z, iz1, im0, im1, l0z, hasK_uI, hasK_uL, hasK_uR, hasK_uZ, hasK_sRow, mR_uI, mR_uL, mR_uZ, mR_sRow, mI_uL, mI_uR, mI_uZ, mL_uI, mL_uR, mL_uZ, mL_sRow, LF.hk hL, layF, LF.r hL, refF, ne_eq, not_false_eq_true, Option.some.injEq, Sum.inl.injEq, Sum.inr.injEq, Prod.mk.injEq, exists_eq_left, exists_eq_left', hn, b2i_0]
    refine and_ii (fun h => ?_) (fun h1 => and_ii (fun h => ?_) (fun h2 => ?_))
    · refine m_goes_2 hL ⟨_, rfl, ?_⟩
      refine r_X12_ticks (fun n => n == 22 || n == 45 || n == 54 || n == 71) 60 ?_
      simp only [cd_X12_ticks, cf_X12_ticks, wp, wq, wpI, cdF, w_CI, w_CL, w_CN, w_LI, w_LL, w_LA, w_SI, w_SL, w_SA, w_INC, w_II, w_IId, w_LLb, w_LLd, w_LS, w_I1, w_L1, w_I2L, w_L2I, w_CMP, w_DUP, w_POP, w_DUP2, w_IF, w_IC, w_GO, w_NUL, w_ACN, prs, w_GF, w_PF, w_GS, w_IAL, w_LEN, w_LAL, w_ZAL, w_AAL, w_IAS, w_LAS, w_ZAS, w_AAS, w_RI, w_RL, w_RA, w_NEW, w_NA, w_MNA, w_OI, w_THR, w_CV, w_CS, w_CN9, w_CI9, w_MX, w_cont, lget, sto1, sto2, wideV, vo, vo_rv, isR, isR_rv, rv, fget, fput, cats, Value.category, List.headD_cons, List.getD_cons_zero, List.getD_cons_succ, List.drop_succ_cons, List.drop_zero, List.take_succ_cons, List.take_zero, List.reverse_cons, List.reverse_nil, List.nil_append, List.cons_append, List.length_cons, List.length_nil, cond_true, cond_false, and_true, true_and, Nat.zero_add, Nat.add_zero, Nat.reduceAdd, Nat.reduceLT, Nat.reduceLeDiff, Nat.reduceEqDiff, Nat.reduceBEq, Nat.reduceSub, ↓reduceIte, Int32.reduceOfNat, Int64.reduceOfNat, reduceCtorEq, Nat.le_refl, Nat.zero_le, Bool.false_eq_true, beq_self_eq_true, Fin.isValue, Fin.val_zero, Fin.val_one, Fin.reduceFinMk, Fin.val_two, Nat.reduceMod, Bool.or_false, Bool.or_true, Bool.true_or, Bool.false_or, not_true_eq_false, not_false_eq_true, true_or, or_true, implies_true, false_implies, true_implies, Int32.reduceLT, Int32.reduceLE, ↓w_TAB3, ↓w_TAB4, ↓w_TAB5, ↓w_TAB7, ↓w_TAB10, ↓w_LK2, ↓w_LK6, false_and, and_false, i1z, i2z, iz1, im0, im1, l0z, hasK_uI, hasK_uL, hasK_uR, hasK_uZ, hasK_sRow, mR_uI, mR_uL, mR_uZ, mR_sRow, mI_uL, mI_uR, mI_uZ, mL_uI, mL_uR, mL_uZ, mL_sRow, LF.hk hL, layF, LF.r hL, refF, ne_eq, not_false_eq_true, Option.some.injEq, Sum.inl.injEq, Sum.inr.injEq, Prod.mk.injEq, exists_eq_left, exists_eq_left']
      exact Qm_2 hR (gat_2 hx (fun q => h q.1))
    · refine m_goes_2 hL ⟨_, rfl, ?_⟩
      refine r_X12_ticks (fun n => n == 22 || n == 45 || n == 54 || n == 71) 60 ?_
      simp only [cd_X12_ticks, cf_X12_ticks, wp, wq, wpI, cdF, w_CI, w_CL, w_CN, w_LI, w_LL, w_LA, w_SI, w_SL, w_SA, w_INC, w_II, w_IId, w_LLb, w_LLd, w_LS, w_I1, w_L1, w_I2L, w_L2I, w_CMP, w_DUP, w_POP, w_DUP2, w_IF, w_IC, w_GO, w_NUL, w_ACN, prs, w_GF, w_PF, w_GS, w_IAL, w_LEN, w_LAL, w_ZAL, w_AAL, w_IAS, w_LAS, w_ZAS, w_AAS, w_RI, w_RL, w_RA, w_NEW, w_NA, w_MNA, w_OI, w_THR, w_CV, w_CS, w_CN9, w_CI9, w_MX, w_cont, lget, sto1, sto2, wideV, vo, vo_rv, isR, isR_rv, rv, fget, fput, cats, Value.category, List.headD_cons, List.getD_cons_zero, List.getD_cons_succ, List.drop_succ_cons, List.drop_zero, List.take_succ_cons, List.take_zero, List.reverse_cons, List.reverse_nil, List.nil_append, List.cons_append, List.length_cons, List.length_nil, cond_true, cond_false, and_true, true_and, Nat.zero_add, Nat.add_zero, Nat.reduceAdd, Nat.reduceLT, Nat.reduceLeDiff, Nat.reduceEqDiff, Nat.reduceBEq, Nat.reduceSub, ↓reduceIte, Int32.reduceOfNat, Int64.reduceOfNat, reduceCtorEq, Nat.le_refl, Nat.zero_le, Bool.false_eq_true, beq_self_eq_true, Fin.isValue, Fin.val_zero, Fin.val_one, Fin.reduceFinMk, Fin.val_two, Nat.reduceMod, Bool.or_false, Bool.or_true, Bool.true_or, Bool.false_or, not_true_eq_false, not_false_eq_true, true_or, or_true, implies_true, false_implies, true_implies, Int32.reduceLT, Int32.reduceLE, ↓w_TAB3, ↓w_TAB4, ↓w_TAB5, ↓w_TAB7, ↓w_TAB10, ↓w_LK2, ↓w_LK6, false_and, and_false, i1z, i2z, iz1, im0, im1, l0z, hasK_uI, hasK_uL, hasK_uR, hasK_uZ, hasK_sRow, mR_uI, mR_uL, mR_uZ, mR_sRow, mI_uL, mI_uR, mI_uZ, mL_uI, mL_uR, mL_uZ, mL_sRow, LF.hk hL, layF, LF.r hL, refF, ne_eq, not_false_eq_true, Option.some.injEq, Sum.inl.injEq, Sum.inr.injEq, Prod.mk.injEq, exists_eq_left, exists_eq_left']
      exact Qm_2 hR (gat_2 hx (by (simp only [i_lt, i_le, i_eq, l_lt, l_le, l_eq, Int32.toInt_toInt64, Int32.reduceToInt, Int64.reduceToInt, ne_eq, Classical.not_not] at *; omega)))
    have hup := Classical.not_not.mp h1
    have hq : (sN S 4 = 1 ∧ sN S 6 = 0) ∧ (sN S 11 : Int) + x.toInt ≤ 1000000 := ⟨hup, by (simp only [i_lt, i_le, i_eq, l_lt, l_le, l_eq, Int32.toInt_toInt64, Int32.reduceToInt, Int64.reduceToInt, ne_eq, Classical.not_not] at *; omega)⟩
    refine m_goes_0 hL ⟨_, rfl, ?_⟩
    unfold o_ticks
    rw [gat_0 hx hq]
    have r0 := RM_code (v := 0) hR
    have i0 : loS M (uI M 495 3 0) := loS_uI (loS_rfl M) (by omega)
    have z0 : mI (uI M 495 3 0) 495 3 = 0 := by rw [mI_uI, if_pos ⟨rfl, rfl⟩]
    clear hno hL hN hI hLl hA hC hP hRr hD hT hZ hK hn
    generalize uI M 495 3 0 = Mz at r0 i0 z0 ⊢
    have l0 := r0.1
    refine r_X12_ticks (fun n => n == 22 || n == 45 || n == 54 || n == 71) 60 ?_
    simp only [cd_X12_ticks, cf_X12_ticks, wp, wq, wpI, cdF, w_CI, w_CL, w_CN, w_LI, w_LL, w_LA, w_SI, w_SL, w_SA, w_INC, w_II, w_IId, w_LLb, w_LLd, w_LS, w_I1, w_L1, w_I2L, w_L2I, w_CMP, w_DUP, w_POP, w_DUP2, w_IF, w_IC, w_GO, w_NUL, w_ACN, prs, w_GF, w_PF, w_GS, w_IAL, w_LEN, w_LAL, w_ZAL, w_AAL, w_IAS, w_LAS, w_ZAS, w_AAS, w_RI, w_RL, w_RA, w_NEW, w_NA, w_MNA, w_OI, w_THR, w_CV, w_CS, w_CN9, w_CI9, w_MX, w_cont, lget, sto1, sto2, wideV, vo, vo_rv, isR, isR_rv, rv, fget, fput, cats, Value.category, List.headD_cons, List.getD_cons_zero, List.getD_cons_succ, List.drop_succ_cons, List.drop_zero, List.take_succ_cons, List.take_zero, List.reverse_cons, List.reverse_nil, List.nil_append, List.cons_append, List.length_cons, List.length_nil, cond_true, cond_false, and_true, true_and, Nat.zero_add, Nat.add_zero, Nat.reduceAdd, Nat.reduceLT, Nat.reduceLeDiff, Nat.reduceEqDiff, Nat.reduceBEq, Nat.reduceSub, ↓reduceIte, Int32.reduceOfNat, Int64.reduceOfNat, reduceCtorEq, Nat.le_refl, Nat.zero_le, Bool.false_eq_true, beq_self_eq_true, Fin.isValue, Fin.val_zero, Fin.val_one, Fin.reduceFinMk, Fin.val_two, Nat.reduceMod, Bool.or_false, Bool.or_true, Bool.true_or, Bool.false_or, not_true_eq_false, not_false_eq_true, true_or, or_true, implies_true, false_implies, true_implies, Int32.reduceLT, Int32.reduceLE, ↓w_TAB3, ↓w_TAB4, ↓w_TAB5, ↓w_TAB7, ↓w_TAB10, ↓w_LK2, ↓w_LK6, false_and, and_false, i1z, i2z, iz1, im0, im1, l0z, hasK_uI, hasK_uL, hasK_uR, hasK_uZ, hasK_sRow, mR_uI, mR_uL, mR_uZ, mR_sRow, mI_uL, mI_uR, mI_uZ, mL_uI, mL_uR, mL_uZ, mL_sRow, LF.hg l0, layF, LF.r l0, refF, ne_eq, not_false_eq_true, Option.some.injEq, Sum.inl.injEq, Sum.inr.injEq, Prod.mk.injEq, exists_eq_left, exists_eq_left', i1z]
    refine m_writes (n := sN S) l0 r0.2.1 (smN_of hj) (by omega) hup.2 (fun h8 => ⟨_, rfl, ?_⟩) (fun h8 M1 n1 e1 z1 => ⟨_, rfl, ?_⟩)
    · refine r_X12_ticks (fun n => n == 22 || n == 45 || n == 54 || n == 71) 60 ?_
      simp only [cd_X12_ticks, cf_X12_ticks, wp, wq, wpI, cdF, w_CI, w_CL, w_CN, w_LI, w_LL, w_LA, w_SI, w_SL, w_SA, w_INC, w_II, w_IId, w_LLb, w_LLd, w_LS, w_I1, w_L1, w_I2L, w_L2I, w_CMP, w_DUP, w_POP, w_DUP2, w_IF, w_IC, w_GO, w_NUL, w_ACN, prs, w_GF, w_PF, w_GS, w_IAL, w_LEN, w_LAL, w_ZAL, w_AAL, w_IAS, w_LAS, w_ZAS, w_AAS, w_RI, w_RL, w_RA, w_NEW, w_NA, w_MNA, w_OI, w_THR, w_CV, w_CS, w_CN9, w_CI9, w_MX, w_cont, lget, sto1, sto2, wideV, vo, vo_rv, isR, isR_rv, rv, fget, fput, cats, Value.category, List.headD_cons, List.getD_cons_zero, List.getD_cons_succ, List.drop_succ_cons, List.drop_zero, List.take_succ_cons, List.take_zero, List.reverse_cons, List.reverse_nil, List.nil_append, List.cons_append, List.length_cons, List.length_nil, cond_true, cond_false, and_true, true_and, Nat.zero_add, Nat.add_zero, Nat.reduceAdd, Nat.reduceLT, Nat.reduceLeDiff, Nat.reduceEqDiff, Nat.reduceBEq, Nat.reduceSub, ↓reduceIte, Int32.reduceOfNat, Int64.reduceOfNat, reduceCtorEq, Nat.le_refl, Nat.zero_le, Bool.false_eq_true, beq_self_eq_true, Fin.isValue, Fin.val_zero, Fin.val_one, Fin.reduceFinMk, Fin.val_two, Nat.reduceMod, Bool.or_false, Bool.or_true, Bool.true_or, Bool.false_or, not_true_eq_false, not_false_eq_true, true_or, or_true, implies_true, false_implies, true_implies, Int32.reduceLT, Int32.reduceLE, ↓w_TAB3, ↓w_TAB4, ↓w_TAB5, ↓w_TAB7, ↓w_TAB10, ↓w_LK2, ↓w_LK6, false_and, and_false, i1z, i2z, iz1, im0, im1, l0z]
      rw [if_pos h8]
      exact ⟨rfl, z0, r0, i0⟩
    rw [if_neg h8]
    have r1 := RM_n r0 n1 e1 (wr1_ne (by omega)) (wr1_ne (by omega)) (wr1_ne (by omega))
    have i1 := loS_rN i0 e1
    have ex : x = nI x.toInt.toNat := w2i (by omega)
    have w11 : wr1 (sN S) 11 = sN S 11 := wr1_ne (by omega)
    have w39 : wr1 (sN S) 39 = sN S 39 := wr1_ne (by omega)
    have z1' : mI M1 495 3 = 0 := z1.trans z0
    have e6 : mI M1 495 6 = nI (wr1 (sN S) 6) := by
      unfold mNn at n1
      exact n1.2.2.2.2.2.2.2.2.2.2.2.2.2.2.2.2.2.2.1
    rw [ex]
    have hxn : x.toInt = ((x.toInt.toNat : Nat) : Int) := by omega
    generalize hnn : x.toInt.toNat = n at *
    refine r_X12_ticks (fun n => n == 62 || n == 22 || n == 45 || n == 54 || n == 71) 60 ?_
    simp only [cd_X12_ticks, cf_X12_ticks, wp, wq, wpI, cdF, w_CI, w_CL, w_CN, w_LI, w_LL, w_LA, w_SI, w_SL, w_SA, w_INC, w_II, w_IId, w_LLb, w_LLd, w_LS, w_I1, w_L1, w_I2L, w_L2I, w_CMP, w_DUP, w_POP, w_DUP2, w_IF, w_IC, w_GO, w_NUL, w_ACN, prs, w_GF, w_PF, w_GS, w_IAL, w_LEN, w_LAL, w_ZAL, w_AAL, w_IAS, w_LAS, w_ZAS, w_AAS, w_RI, w_RL, w_RA, w_NEW, w_NA, w_MNA, w_OI, w_THR, w_CV, w_CS, w_CN9, w_CI9, w_MX, w_cont, lget, sto1, sto2, wideV, vo, vo_rv, isR, isR_rv, rv, fget, fput, cats, Value.category, List.headD_cons, List.getD_cons_zero, List.getD_cons_succ, List.drop_succ_cons, List.drop_zero, List.take_succ_cons, List.take_zero, List.reverse_cons, List.reverse_nil, List.nil_append, List.cons_append, List.length_cons, List.length_nil, cond_true, cond_false, and_true, true_and, Nat.zero_add, Nat.add_zero, Nat.reduceAdd, Nat.reduceLT, Nat.reduceLeDiff, Nat.reduceEqDiff, Nat.reduceBEq, Nat.reduceSub, ↓reduceIte, Int32.reduceOfNat, Int64.reduceOfNat, reduceCtorEq, Nat.le_refl, Nat.zero_le, Bool.false_eq_true, beq_self_eq_true, Fin.isValue, Fin.val_zero, Fin.val_one, Fin.reduceFinMk, Fin.val_two, Nat.reduceMod, Bool.or_false, Bool.or_true, Bool.true_or, Bool.false_or, not_true_eq_false, not_false_eq_true, true_or, or_true, implies_true, false_implies, true_implies, Int32.reduceLT, Int32.reduceLE, ↓w_TAB3, ↓w_TAB4, ↓w_TAB5, ↓w_TAB7, ↓w_TAB10, ↓w_LK2, ↓w_LK6, false_and, and_false, i1z, i2z, iz1, im0, im1, l0z, i1z]
    refine lp_ticks (S := wN S (wr1 (sN S))) (n := n) (M0 := M) (Mz := M1) (by omega) (by show wr1 (sN S) 39 ≤ 60; omega) (by show wr1 (sN S) 11 + n ≤ 1000000; omega) (fun i hi => ?_) ?_ n 0 (by omega) M1 r1 i1 (fun _ _ => rfl)
    · have hi : i < sN S 39 := by have hi : i < wr1 (sN S) 39 := hi; omega
      have ho := hj.2.2.2.1 i hi
      refine ⟨lapK_of ho (by omega), fun q => ?_⟩
      show wr1 (sN S) 11 + 1 ≤ _
      rw [w11]
      exact (ho.2.2.2.1 q).2.1
    · intro M2 r2 i2 g2
      have l2 := r2.1
      have n2 := r2.2.1
      unfold mNn at n2
      have e6' : mI M2 495 6 = nI (wr1 (sN S) 6) := by rw [g2 6 (by omega)]; exact e6
      have z2 : mI M2 495 3 = 0 := by rw [g2 3 (by omega)]; exact z1'
      have e11' : mI M2 495 11 = nI (sN S 11 + n) := by
        rw [n2.2.2.2.2.2.2.2.2.2.2.2.2.1, (tkS_N).2.1]
        show nI (wr1 (sN S) 11 + n) = _
        rw [w11]
      have es : tkS (wN S (wr1 (sN S))) n = wP (wL (wN S (wr1 (up1 (sN S) 11 (sN S 11 + n)))) (lapL (sP S) (sN S 11 + n) (sL S) (sN S 39))) (fun j => if j < sN S 39 then lapP (sP S j) (sN S 11 + n) else sP S j) := by
        unfold tkS
        rw [if_neg (by omega)]
        have a1 : sN (wN S (wr1 (sN S))) 11 = sN S 11 := w11
        have a2 : sN (wN S (wr1 (sN S))) 39 = sN S 39 := w39
        rw [a1, a2]
        have a3 : up1 (sN (wN S (wr1 (sN S)))) 11 (sN S 11 + n) = wr1 (up1 (sN S) 11 (sN S 11 + n)) := by
          exact wr1_11
        rw [a3]
        rfl
      rw [es] at r2
      have rf : RM (wP (wL (wN S (wr1 (up1 (sN S) 11 (sN S 11 + n)))) (lapL (sP S) (sN S 11 + n) (sL S) (sN S 39))) (fun i => lapP (sP S i) (sN S 11 + n))) M2 := by
        obtain ⟨a1, a2, a3, a4, a5, a6, a7, a8, a9, a10, a11, a12⟩ := r2
        refine ⟨a1, a2, a3, a4, a5, a6, ?_, a8, a9, a10, a11, a12⟩
        have e39 : wr1 (up1 (sN S) 11 (sN S 11 + n)) 39 = sN S 39 := wr1_ne (by omega)
        have a7 : mP (wr1 (up1 (sN S) 11 (sN S 11 + n)) 39) (fun j => if j < sN S 39 then lapP (sP S j) (sN S 11 + n) else sP S j) M2 := a7
        show mP (wr1 (up1 (sN S) 11 (sN S 11 + n)) 39) (fun i => lapP (sP S i) (sN S 11 + n)) M2
        rw [e39] at a7 ⊢
        intro i hi
        have h1 := a7 i hi
        simp only [if_pos hi] at h1
        exact h1
      have e66 : wr1 (up1 (sN S) 11 (sN S 11 + n)) 6 = wr1 (sN S) 6 := by rw [← wr1_11]; rfl
      rw [nI_toInt (n := n) (by omega)]
      have etn : ((n : Int)).toNat = n := Int.toNat_natCast n
      rw [etn]
      refine r_X12_ticks (fun n => n == 22 || n == 45 || n == 54 || n == 71) 60 ?_
      simp only [cd_X12_ticks, cf_X12_ticks, wp, wq, wpI, cdF, w_CI, w_CL, w_CN, w_LI, w_LL, w_LA, w_SI, w_SL, w_SA, w_INC, w_II, w_IId, w_LLb, w_LLd, w_LS, w_I1, w_L1, w_I2L, w_L2I, w_CMP, w_DUP, w_POP, w_DUP2, w_IF, w_IC, w_GO, w_NUL, w_ACN, prs, w_GF, w_PF, w_GS, w_IAL, w_LEN, w_LAL, w_ZAL, w_AAL, w_IAS, w_LAS, w_ZAS, w_AAS, w_RI, w_RL, w_RA, w_NEW, w_NA, w_MNA, w_OI, w_THR, w_CV, w_CS, w_CN9, w_CI9, w_MX, w_cont, lget, sto1, sto2, wideV, vo, vo_rv, isR, isR_rv, rv, fget, fput, cats, Value.category, List.headD_cons, List.getD_cons_zero, List.getD_cons_succ, List.drop_succ_cons, List.drop_zero, List.take_succ_cons, List.take_zero, List.reverse_cons, List.reverse_nil, List.nil_append, List.cons_append, List.length_cons, List.length_nil, cond_true, cond_false, and_true, true_and, Nat.zero_add, Nat.add_zero, Nat.reduceAdd, Nat.reduceLT, Nat.reduceLeDiff, Nat.reduceEqDiff, Nat.reduceBEq, Nat.reduceSub, ↓reduceIte, Int32.reduceOfNat, Int64.reduceOfNat, reduceCtorEq, Nat.le_refl, Nat.zero_le, Bool.false_eq_true, beq_self_eq_true, Fin.isValue, Fin.val_zero, Fin.val_one, Fin.reduceFinMk, Fin.val_two, Nat.reduceMod, Bool.or_false, Bool.or_true, Bool.true_or, Bool.false_or, not_true_eq_false, not_false_eq_true, true_or, or_true, implies_true, false_implies, true_implies, Int32.reduceLT, Int32.reduceLE, ↓w_TAB3, ↓w_TAB4, ↓w_TAB5, ↓w_TAB7, ↓w_TAB10, ↓w_LK2, ↓w_LK6, false_and, and_false, i1z, i2z, iz1, im0, im1, l0z, hasK_uI, hasK_uL, hasK_uR, hasK_uZ, hasK_sRow, mR_uI, mR_uL, mR_uZ, mR_sRow, mI_uL, mI_uR, mI_uZ, mL_uI, mL_uR, mL_uZ, mL_sRow, LF.hg l2, layF, LF.r l2, refF, ne_eq, not_false_eq_true, Option.some.injEq, Sum.inl.injEq, Sum.inr.injEq, Prod.mk.injEq, exists_eq_left, exists_eq_left', e6', e11']
      rcases wr6 hj with q6 | q6
      · rw [q6]
        refine and_ii (fun _ => ?_) (fun q => absurd rfl q)
        exact ⟨by show some (Value.int (nI (sN S 11 + n))) = some (Value.int (wdI (if wr1 (up1 (sN S) 11 (sN S 11 + n)) 6 = 1 then -3 else (sN S 11 : Int) + (n : Int)))); rw [e66, q6]; rfl, z2, rf, i2⟩
      · rw [q6]
        refine and_ii (fun q => absurd q (by decide)) (fun _ => ?_)
        exact ⟨by show some (Value.int (-3)) = some (Value.int (wdI (if wr1 (up1 (sN S) 11 (sN S 11 + n)) 6 = 1 then -3 else (sN S 11 : Int) + (n : Int)))); rw [e66, q6]; rfl, z2, rf, i2⟩
  refine r_X12_ticks (fun n => n == 18 || n == 22 || n == 45 || n == 54 || n == 71) 60 ?_
  simp only [cd_X12_ticks, cf_X12_ticks, wp, wq, wpI, cdF, w_CI, w_CL, w_CN, w_LI, w_LL, w_LA, w_SI, w_SL, w_SA, w_INC, w_II, w_IId, w_LLb, w_LLd, w_LS, w_I1, w_L1, w_I2L, w_L2I, w_CMP, w_DUP, w_POP, w_DUP2, w_IF, w_IC, w_GO, w_NUL, w_ACN, prs, w_GF, w_PF, w_GS, w_IAL, w_LEN, w_LAL, w_ZAL, w_AAL, w_IAS, w_LAS, w_ZAS, w_AAS, w_RI, w_RL, w_RA, w_NEW, w_NA, w_MNA, w_OI, w_THR, w_CV, w_CS, w_CN9, w_CI9, w_MX, w_cont, lget, sto1, sto2, wideV, vo, vo_rv, isR, isR_rv, rv, fget, fput, cats, Value.category, List.headD_cons, List.getD_cons_zero, List.getD_cons_succ, List.drop_succ_cons, List.drop_zero, List.take_succ_cons, List.take_zero, List.reverse_cons, List.reverse_nil, List.nil_append, List.cons_append, List.length_cons, List.length_nil, cond_true, cond_false, and_true, true_and, Nat.zero_add, Nat.add_zero, Nat.reduceAdd, Nat.reduceLT, Nat.reduceLeDiff, Nat.reduceEqDiff, Nat.reduceBEq, Nat.reduceSub, ↓reduceIte, Int32.reduceOfNat, Int64.reduceOfNat, reduceCtorEq, Nat.le_refl, Nat.zero_le, Bool.false_eq_true, beq_self_eq_true, Fin.isValue, Fin.val_zero, Fin.val_one, Fin.reduceFinMk, Fin.val_two, Nat.reduceMod, Bool.or_false, Bool.or_true, Bool.true_or, Bool.false_or, not_true_eq_false, not_false_eq_true, true_or, or_true, implies_true, false_implies, true_implies, Int32.reduceLT, Int32.reduceLE, ↓w_TAB3, ↓w_TAB4, ↓w_TAB5, ↓w_TAB7, ↓w_TAB10, ↓w_LK2, ↓w_LK6, false_and, and_false, i1z, i2z, iz1, im0, im1, l0z, hasK_uI, hasK_uL, hasK_uR, hasK_uZ, hasK_sRow, mR_uI, mR_uL, mR_uZ, mR_sRow, mI_uL, mI_uR, mI_uZ, mL_uI, mL_uR, mL_uZ, mL_sRow, LF.hk hL, layF, LF.r hL, refF, ne_eq, not_false_eq_true, Option.some.injEq, Sum.inl.injEq, Sum.inr.injEq, Prod.mk.injEq, exists_eq_left, exists_eq_left']
  exact and_ii (fun h => hno (by (simp only [i_lt, i_le, i_eq, l_lt, l_le, l_eq, Int32.toInt_toInt64, Int32.reduceToInt, Int64.reduceToInt, ne_eq, Classical.not_not] at *; omega))) (fun h1 => and_ii (fun h => hno (by (simp only [i_lt, i_le, i_eq, l_lt, l_le, l_eq, Int32.toInt_toInt64, Int32.reduceToInt, Int64.reduceToInt, ne_eq, Classical.not_not] at *; omega))) (fun h2 => hyes (by (simp only [i_lt, i_le, i_eq, l_lt, l_le, l_eq, Int32.toInt_toInt64, Int32.reduceToInt, Int64.reduceToInt, ne_eq, Classical.not_not] at *; omega))))
end TKM
