/-! A MESSAGE IS WRITTEN: the reference's fields -/
section SM2
variable {G : En} {M M0 : Mem} {Q : Option Value → Mem → Prop} {X : String → Mem → Prop} {e r p s n N v k : Nat} {m : Msg} {f : Nat → Nat} {xs : List Nat}
theorem frm_c : ∀ s : Fin 16, (ltF s.val = false ∧ ldF s.val = 0) ∨ (ltF s.val = false ∧ ldF s.val = 2) ∨ (ltF s.val = true ∧ ldF s.val = 0) ∨ (ltF s.val = true ∧ ldF s.val = 3) := by decide
theorem pk_2 : pk 2 (dgt 10 2 n) ((2 + 1) / 2) = [16 * (n / 10 % 10) + n % 10] := by
  show [16 * hf 2 (dgt 10 2 n) 0 + hf 2 (dgt 10 2 n) 1] = _
  simp [hf, dgt]
theorem pk_3 (h : n < 1000) : pk 3 (dgt 10 3 n) ((3 + 1) / 2) = [n / 100, 16 * (n / 10 % 10) + n % 10] := by
  show [16 * hf 3 (dgt 10 3 n) 0 + hf 3 (dgt 10 3 n) 1, 16 * hf 3 (dgt 10 3 n) 2 + hf 3 (dgt 10 3 n) 3] = _
  simp [hf, dgt]
  omega
theorem m_writeField (hL : LF M0) (hK : mK M0) (h : nW M0 e xs M) (he : e ≠ 495 ∧ e ≠ 548 ∧ r ≠ e ∧ r ≠ 495 ∧ r ≠ 548) (he2 : 498 < e) (hke : hasK M0 e (.inl (.int, N))) (hkr : hasK M0 r (.inl (.int, 672))) (hN2 : N < 2147483648) (hs : s < 16) (hn42 : n ≤ 42) (hl : xs.length + 2 + n ≤ N) (hfb : ∀ i, i < n → f i < (if ltF s then 36 else 10)) (hrow : ∀ i, i < n → mI M0 r (42 * s + i) = nI (f i)) (hQ : ∀ M', nW M0 e (xs ++ fdB s n f) M' → Q none M') : Ct G (MT 212) [.ref 495, .int (nI s), .ref r, .int (nI n), .ref e] M Q X := by
  have hk := hK s hs
  have cs := nI_clamp (n := s) (by omega)
  have hrowM : ∀ M1 ys, nW M0 e ys M1 → ∀ i, i < n → mI M1 r (42 * s + i) = nI (f i) := fun M1 ys h1 i hi => by rw [h1.i (by omega) (by omega)]; exact hrow i hi
  have hfm : ∀ M1 ys, nW M0 e ys M1 → mI M1 498 s = nI ((if ltF s then 2 else 0) + (if ldF s = 0 then 0 else 1)) := fun M1 ys h1 => by rw [h1.i (by omega) (by omega)]; exact hk.2.2
  have hLM := h.L hL
  have e2 : ((2 : Int32) = 0) = False := i2z
  have e42 : (42 : Int32) * nI s = nI (42 * s) := by
    rw [i_eq, i_mul] <;> rw [nI_toInt (n := s) (by omega)] <;> first | (rw [nI_toInt (by omega)]; simp) | (simp; omega)
  have h548 : hasK M0 548 (.inl (.int, 4)) := by rw [hL.hk]; rfl
  have en := nI_lI (n := n) (by omega)
  -- the second half: the signs
  have tail : ∀ M1, nW M0 e (xs ++ lnB s n) M1 → ∀ L5, Go G (MT 212) Q X 54 [some (.ref 495), some (.int (nI s)), some (.ref r), some (.int (nI n)), some (.ref e), L5, none] [] M1 0 0 := by
    intro M1 h1 L5
    have hLM1 := h1.L hL
    have hfm1 := hfm M1 _ h1
    have hlb : (lnB s n).length ≤ 2 := by
      unfold lnB
      split
      · simp
      · split <;> simp
    refine Go.less (L' := [some (.ref 495), some (.int (nI s)), some (.ref r), some (.int (nI n)), some (.ref e), none, none]) ?_ (fun i v h => ?_)
    · cases q : ltF s
      · have hfb' : ∀ i, i < n → f i < 16 := fun i hi => by have := hfb i hi; rw [q] at this; simp at this; omega
        have hc : ¬ (2 : Int32) ≤ nI ((if ltF s = true then 2 else 0) + if ldF s = 0 then 0 else 1) := by
          by_cases q3 : ldF s = 0
          · rw [if_pos q3, q]; decide
          · rw [if_neg q3, q]; decide
        refine r_X12_writeField (fun n => n == 80 || n == 41 || n == 54 || n == 76) 60 ?_
        simp only [cd_X12_writeField, cf_X12_writeField, wp, wq, wpI, cdF, w_CI, w_CL, w_CN, w_LI, w_LL, w_LA, w_SI, w_SL, w_SA, w_INC, w_II, w_IId, w_LLb, w_LLd, w_LS, w_I1, w_L1, w_I2L, w_L2I, w_CMP, w_DUP, w_POP, w_DUP2, w_IF, w_IC, w_GO, w_NUL, w_ACN, prs, w_GF, w_PF, w_GS, w_IAL, w_LEN, w_LAL, w_ZAL, w_AAL, w_IAS, w_LAS, w_ZAS, w_AAS, w_RI, w_RL, w_RA, w_NEW, w_NA, w_MNA, w_OI, w_THR, w_CV, w_CS, w_CN9, w_CI9, w_MX, w_cont, lget, sto1, sto2, wideV, vo, vo_rv, isR, isR_rv, rv, fget, fput, cats, Value.category, List.headD_cons, List.getD_cons_zero, List.getD_cons_succ, List.drop_succ_cons, List.drop_zero, List.take_succ_cons, List.take_zero, List.reverse_cons, List.reverse_nil, List.nil_append, List.cons_append, List.length_cons, List.length_nil, cond_true, cond_false, and_true, true_and, Nat.zero_add, Nat.add_zero, Nat.reduceAdd, Nat.reduceLT, Nat.reduceLeDiff, Nat.reduceEqDiff, Nat.reduceBEq, Nat.reduceSub, ↓reduceIte, Int32.reduceOfNat, Int64.reduceOfNat, reduceCtorEq, Nat.le_refl, Nat.zero_le, Bool.false_eq_true, beq_self_eq_true, Fin.isValue, Fin.val_zero, Fin.val_one, Fin.reduceFinMk, Fin.val_two, Nat.reduceMod, Bool.or_false, Bool.or_true, Bool.true_or, Bool.false_or, not_true_eq_false, not_false_eq_true, true_or, or_true, implies_true, false_implies, true_implies, Int32.reduceLT, Int32.reduceLE, ↓w_TAB3, ↓w_TAB4, ↓w_TAB5, ↓w_TAB7, ↓w_TAB10, ↓w_LK2, ↓w_LK6, false_and, and_false, i1z, i2z, iz1, im0, im1, l0z, LF.hk hLM1, layF, LF.r hLM1, refF, ne_eq, not_false_eq_true, Option.some.injEq, Sum.inl.injEq, Prod.mk.injEq, exists_eq_left, exists_eq_left', cs, hfm1, hc, e42]
        refine ⟨vp_in_nI hs (by omega), ?_⟩
        refine m_pack hL h1 ⟨he.1, he.2.1, he.2.2.1, he.2.2.2.1⟩ hke ⟨672, hkr, by omega, by omega⟩ hN2 (by rw [List.length_append]; omega) hfb' (hrowM M1 _ h1) rfl rfl (fun M2 h2 _ => ⟨rfl, ?_⟩)
        refine r_X12_writeField (fun n => n == 80 || n == 41 || n == 54 || n == 76) 60 ?_
        simp only [cd_X12_writeField, cf_X12_writeField, wp, wq, wpI, cdF, w_CI, w_CL, w_CN, w_LI, w_LL, w_LA, w_SI, w_SL, w_SA, w_INC, w_II, w_IId, w_LLb, w_LLd, w_LS, w_I1, w_L1, w_I2L, w_L2I, w_CMP, w_DUP, w_POP, w_DUP2, w_IF, w_IC, w_GO, w_NUL, w_ACN, prs, w_GF, w_PF, w_GS, w_IAL, w_LEN, w_LAL, w_ZAL, w_AAL, w_IAS, w_LAS, w_ZAS, w_AAS, w_RI, w_RL, w_RA, w_NEW, w_NA, w_MNA, w_OI, w_THR, w_CV, w_CS, w_CN9, w_CI9, w_MX, w_cont, lget, sto1, sto2, wideV, vo, vo_rv, isR, isR_rv, rv, fget, fput, cats, Value.category, List.headD_cons, List.getD_cons_zero, List.getD_cons_succ, List.drop_succ_cons, List.drop_zero, List.take_succ_cons, List.take_zero, List.reverse_cons, List.reverse_nil, List.nil_append, List.cons_append, List.length_cons, List.length_nil, cond_true, cond_false, and_true, true_and, Nat.zero_add, Nat.add_zero, Nat.reduceAdd, Nat.reduceLT, Nat.reduceLeDiff, Nat.reduceEqDiff, Nat.reduceBEq, Nat.reduceSub, ↓reduceIte, Int32.reduceOfNat, Int64.reduceOfNat, reduceCtorEq, Nat.le_refl, Nat.zero_le, Bool.false_eq_true, beq_self_eq_true, Fin.isValue, Fin.val_zero, Fin.val_one, Fin.reduceFinMk, Fin.val_two, Nat.reduceMod, Bool.or_false, Bool.or_true, Bool.true_or, Bool.false_or, not_true_eq_false, not_false_eq_true, true_or, or_true, implies_true, false_implies, true_implies, Int32.reduceLT, Int32.reduceLE, ↓w_TAB3, ↓w_TAB4, ↓w_TAB5, ↓w_TAB7, ↓w_TAB10, ↓w_LK2, ↓w_LK6, false_and, and_false, i1z, i2z, iz1, im0, im1, l0z]
        refine hQ M2 ?_
        unfold fdB
        rw [q, if_neg (by simp), ← List.append_assoc]
        exact h2
      · have hfb' : ∀ i, i < n → f i < 36 := fun i hi => by have := hfb i hi; rw [q] at this; simpa using this
        have hc : (2 : Int32) ≤ nI ((if ltF s = true then 2 else 0) + if ldF s = 0 then 0 else 1) := by
          by_cases q3 : ldF s = 0
          · rw [if_pos q3, q]; decide
          · rw [if_neg q3, q]; decide
        refine r_X12_writeField (fun n => n == 80 || n == 41 || n == 54 || n == 76) 60 ?_
        simp only [cd_X12_writeField, cf_X12_writeField, wp, wq, wpI, cdF, w_CI, w_CL, w_CN, w_LI, w_LL, w_LA, w_SI, w_SL, w_SA, w_INC, w_II, w_IId, w_LLb, w_LLd, w_LS, w_I1, w_L1, w_I2L, w_L2I, w_CMP, w_DUP, w_POP, w_DUP2, w_IF, w_IC, w_GO, w_NUL, w_ACN, prs, w_GF, w_PF, w_GS, w_IAL, w_LEN, w_LAL, w_ZAL, w_AAL, w_IAS, w_LAS, w_ZAS, w_AAS, w_RI, w_RL, w_RA, w_NEW, w_NA, w_MNA, w_OI, w_THR, w_CV, w_CS, w_CN9, w_CI9, w_MX, w_cont, lget, sto1, sto2, wideV, vo, vo_rv, isR, isR_rv, rv, fget, fput, cats, Value.category, List.headD_cons, List.getD_cons_zero, List.getD_cons_succ, List.drop_succ_cons, List.drop_zero, List.take_succ_cons, List.take_zero, List.reverse_cons, List.reverse_nil, List.nil_append, List.cons_append, List.length_cons, List.length_nil, cond_true, cond_false, and_true, true_and, Nat.zero_add, Nat.add_zero, Nat.reduceAdd, Nat.reduceLT, Nat.reduceLeDiff, Nat.reduceEqDiff, Nat.reduceBEq, Nat.reduceSub, ↓reduceIte, Int32.reduceOfNat, Int64.reduceOfNat, reduceCtorEq, Nat.le_refl, Nat.zero_le, Bool.false_eq_true, beq_self_eq_true, Fin.isValue, Fin.val_zero, Fin.val_one, Fin.reduceFinMk, Fin.val_two, Nat.reduceMod, Bool.or_false, Bool.or_true, Bool.true_or, Bool.false_or, not_true_eq_false, not_false_eq_true, true_or, or_true, implies_true, false_implies, true_implies, Int32.reduceLT, Int32.reduceLE, ↓w_TAB3, ↓w_TAB4, ↓w_TAB5, ↓w_TAB7, ↓w_TAB10, ↓w_LK2, ↓w_LK6, false_and, and_false, i1z, i2z, iz1, im0, im1, l0z, LF.hk hLM1, layF, LF.r hLM1, refF, ne_eq, not_false_eq_true, Option.some.injEq, Sum.inl.injEq, Prod.mk.injEq, exists_eq_left, exists_eq_left', cs, hfm1, hc, e42]
        refine ⟨vp_in_nI hs (by omega), ?_⟩
        refine lp_letters (xs := xs ++ lnB s n) hL ⟨he.1, he.2.1, he.2.2.1, he.2.2.2.1⟩ hke hkr hs hn42 hN2 (by rw [List.length_append]; omega) hfb' M1 (hrowM M1 _ h1) (fun M2 h2 _ => ?_) n 0 (by omega) M1 (by rw [show ltL f 0 = [] from rfl, List.append_nil]; exact h1) oth_rfl
        refine hQ M2 ?_
        unfold fdB
        rw [q, if_pos rfl, ← List.append_assoc]
        exact h2
    · rcases i with _ | _ | _ | _ | _ | _ | _ | i <;> simp at h ⊢ <;> exact h
  have hfm0 := hfm M xs h
  refine Ct.go (L0 := [some (.ref 495), some (.int (nI s)), some (.ref r), some (.int (nI n)), some (.ref e), none, none]) (by decide +kernel) rfl rfl ?_
  rcases frm_c ⟨s, hs⟩ with ⟨q1, q2⟩ | ⟨q1, q2⟩ | ⟨q1, q2⟩ | ⟨q1, q2⟩
  · simp only at q1 q2
    rw [q1, q2] at hfm0
    have hlb : lnB s n = [] := by unfold lnB; rw [q2]; rfl
    refine r_X12_writeField (fun n => n == 54 || n == 80 || n == 41 || n == 54 || n == 76) 60 ?_
    simp only [cd_X12_writeField, cf_X12_writeField, wp, wq, wpI, cdF, w_CI, w_CL, w_CN, w_LI, w_LL, w_LA, w_SI, w_SL, w_SA, w_INC, w_II, w_IId, w_LLb, w_LLd, w_LS, w_I1, w_L1, w_I2L, w_L2I, w_CMP, w_DUP, w_POP, w_DUP2, w_IF, w_IC, w_GO, w_NUL, w_ACN, prs, w_GF, w_PF, w_GS, w_IAL, w_LEN, w_LAL, w_ZAL, w_AAL, w_IAS, w_LAS, w_ZAS, w_AAS, w_RI, w_RL, w_RA, w_NEW, w_NA, w_MNA, w_OI, w_THR, w_CV, w_CS, w_CN9, w_CI9, w_MX, w_cont, lget, sto1, sto2, wideV, vo, vo_rv, isR, isR_rv, rv, fget, fput, cats, Value.category, List.headD_cons, List.getD_cons_zero, List.getD_cons_succ, List.drop_succ_cons, List.drop_zero, List.take_succ_cons, List.take_zero, List.reverse_cons, List.reverse_nil, List.nil_append, List.cons_append, List.length_cons, List.length_nil, cond_true, cond_false, and_true, true_and, Nat.zero_add, Nat.add_zero, Nat.reduceAdd, Nat.reduceLT, Nat.reduceLeDiff, Nat.reduceEqDiff, Nat.reduceBEq, Nat.reduceSub, ↓reduceIte, Int32.reduceOfNat, Int64.reduceOfNat, reduceCtorEq, Nat.le_refl, Nat.zero_le, Bool.false_eq_true, beq_self_eq_true, Fin.isValue, Fin.val_zero, Fin.val_one, Fin.reduceFinMk, Fin.val_two, Nat.reduceMod, Bool.or_false, Bool.or_true, Bool.true_or, Bool.false_or, not_true_eq_false, not_false_eq_true, true_or, or_true, implies_true, false_implies, true_implies, Int32.reduceLT, Int32.reduceLE, ↓w_TAB3, ↓w_TAB4, ↓w_TAB5, ↓w_TAB7, ↓w_TAB10, ↓w_LK2, ↓w_LK6, false_and, and_false, i1z, i2z, iz1, im0, im1, l0z, LF.hk hLM, layF, LF.r hLM, refF, ne_eq, not_false_eq_true, Option.some.injEq, Sum.inl.injEq, Prod.mk.injEq, exists_eq_left, exists_eq_left', cs, hfm0]
    refine ⟨vp_in_nI hs (by omega), and_ii (fun _ => ?_) (fun q => absurd (by decide) q)⟩
    exact tail M (by rw [hlb, List.append_nil]; exact h) none
  · simp only at q1 q2
    rw [q1, q2] at hfm0
    have hlb : lnB s n = pk 2 (dgt 10 2 n) ((2 + 1) / 2) := by unfold lnB; rw [q2]; rw [pk_2]; rfl
    refine r_X12_writeField (fun n => n == 54 || n == 80 || n == 41 || n == 54 || n == 76) 60 ?_
    simp only [cd_X12_writeField, cf_X12_writeField, wp, wq, wpI, cdF, w_CI, w_CL, w_CN, w_LI, w_LL, w_LA, w_SI, w_SL, w_SA, w_INC, w_II, w_IId, w_LLb, w_LLd, w_LS, w_I1, w_L1, w_I2L, w_L2I, w_CMP, w_DUP, w_POP, w_DUP2, w_IF, w_IC, w_GO, w_NUL, w_ACN, prs, w_GF, w_PF, w_GS, w_IAL, w_LEN, w_LAL, w_ZAL, w_AAL, w_IAS, w_LAS, w_ZAS, w_AAS, w_RI, w_RL, w_RA, w_NEW, w_NA, w_MNA, w_OI, w_THR, w_CV, w_CS, w_CN9, w_CI9, w_MX, w_cont, lget, sto1, sto2, wideV, vo, vo_rv, isR, isR_rv, rv, fget, fput, cats, Value.category, List.headD_cons, List.getD_cons_zero, List.getD_cons_succ, List.drop_succ_cons, List.drop_zero, List.take_succ_cons, List.take_zero, List.reverse_cons, List.reverse_nil, List.nil_append, List.cons_append, List.length_cons, List.length_nil, cond_true, cond_false, and_true, true_and, Nat.zero_add, Nat.add_zero, Nat.reduceAdd, Nat.reduceLT, Nat.reduceLeDiff, Nat.reduceEqDiff, Nat.reduceBEq, Nat.reduceSub, ↓reduceIte, Int32.reduceOfNat, Int64.reduceOfNat, reduceCtorEq, Nat.le_refl, Nat.zero_le, Bool.false_eq_true, beq_self_eq_true, Fin.isValue, Fin.val_zero, Fin.val_one, Fin.reduceFinMk, Fin.val_two, Nat.reduceMod, Bool.or_false, Bool.or_true, Bool.true_or, Bool.false_or, not_true_eq_false, not_false_eq_true, true_or, or_true, implies_true, false_implies, true_implies, Int32.reduceLT, Int32.reduceLE, ↓w_TAB3, ↓w_TAB4, ↓w_TAB5, ↓w_TAB7, ↓w_TAB10, ↓w_LK2, ↓w_LK6, false_and, and_false, i1z, i2z, iz1, im0, im1, l0z, LF.hk hLM, layF, LF.r hLM, refF, ne_eq, not_false_eq_true, Option.some.injEq, Sum.inl.injEq, Prod.mk.injEq, exists_eq_left, exists_eq_left', cs, hfm0]
    refine ⟨vp_in_nI hs (by omega), and_ii (fun q => absurd (by decide) q) (fun _ => ⟨vp_in_nI hs (by omega), ?_⟩)⟩
    refine and_ii (fun q => absurd rfl q) (fun _ => ?_)
    refine m_setDigits (p := 0) (n := 2) (N := 4) en rfl rfl (by rw [hLM.hk]; rfl) (by omega) (by omega) (by omega) ⟨rfl, ?_⟩
    have hM2 : nW M0 e xs (dgR M 548 0 2 (dgt 10 2 n)) := nW_few h he.2.1
    have hrw : ∀ i, i < 2 → mI (dgR M 548 0 2 (dgt 10 2 n)) 548 (0 + i) = nI (dgt 10 2 n i) := fun i hi => by
      unfold dgR
      rw [mI_sRow, if_pos rfl, if_pos (by omega)]
      congr 2
      omega
    have hLM2 := hM2.L hL
    generalize dgR M 548 0 2 (dgt 10 2 n) = M2 at hM2 hrw hLM2 ⊢
    refine r_X12_writeField (fun n => n == 54 || n == 80 || n == 41 || n == 54 || n == 76) 60 ?_
    simp only [cd_X12_writeField, cf_X12_writeField, wp, wq, wpI, cdF, w_CI, w_CL, w_CN, w_LI, w_LL, w_LA, w_SI, w_SL, w_SA, w_INC, w_II, w_IId, w_LLb, w_LLd, w_LS, w_I1, w_L1, w_I2L, w_L2I, w_CMP, w_DUP, w_POP, w_DUP2, w_IF, w_IC, w_GO, w_NUL, w_ACN, prs, w_GF, w_PF, w_GS, w_IAL, w_LEN, w_LAL, w_ZAL, w_AAL, w_IAS, w_LAS, w_ZAS, w_AAS, w_RI, w_RL, w_RA, w_NEW, w_NA, w_MNA, w_OI, w_THR, w_CV, w_CS, w_CN9, w_CI9, w_MX, w_cont, lget, sto1, sto2, wideV, vo, vo_rv, isR, isR_rv, rv, fget, fput, cats, Value.category, List.headD_cons, List.getD_cons_zero, List.getD_cons_succ, List.drop_succ_cons, List.drop_zero, List.take_succ_cons, List.take_zero, List.reverse_cons, List.reverse_nil, List.nil_append, List.cons_append, List.length_cons, List.length_nil, cond_true, cond_false, and_true, true_and, Nat.zero_add, Nat.add_zero, Nat.reduceAdd, Nat.reduceLT, Nat.reduceLeDiff, Nat.reduceEqDiff, Nat.reduceBEq, Nat.reduceSub, ↓reduceIte, Int32.reduceOfNat, Int64.reduceOfNat, reduceCtorEq, Nat.le_refl, Nat.zero_le, Bool.false_eq_true, beq_self_eq_true, Fin.isValue, Fin.val_zero, Fin.val_one, Fin.reduceFinMk, Fin.val_two, Nat.reduceMod, Bool.or_false, Bool.or_true, Bool.true_or, Bool.false_or, not_true_eq_false, not_false_eq_true, true_or, or_true, implies_true, false_implies, true_implies, Int32.reduceLT, Int32.reduceLE, ↓w_TAB3, ↓w_TAB4, ↓w_TAB5, ↓w_TAB7, ↓w_TAB10, ↓w_LK2, ↓w_LK6, false_and, and_false, i1z, i2z, iz1, im0, im1, l0z, LF.hk hLM2, layF, LF.r hLM2, refF, ne_eq, not_false_eq_true, Option.some.injEq, Sum.inl.injEq, Prod.mk.injEq, exists_eq_left, exists_eq_left']
    refine m_pack hL hM2 ⟨he.1, he.2.1, fun q => he.2.1 q.symm, by omega⟩ hke ⟨4, h548, by omega, by omega⟩ hN2 (by omega) (fun i _ => Nat.lt_trans (dgt_lt (by omega)) (by omega)) hrw rfl rfl (fun M3 h3 _ => ⟨rfl, ?_⟩)
    rw [← hlb] at h3
    exact tail M3 h3 _
  · simp only at q1 q2
    rw [q1, q2] at hfm0
    have hlb : lnB s n = [] := by unfold lnB; rw [q2]; rfl
    refine r_X12_writeField (fun n => n == 54 || n == 80 || n == 41 || n == 54 || n == 76) 60 ?_
    simp only [cd_X12_writeField, cf_X12_writeField, wp, wq, wpI, cdF, w_CI, w_CL, w_CN, w_LI, w_LL, w_LA, w_SI, w_SL, w_SA, w_INC, w_II, w_IId, w_LLb, w_LLd, w_LS, w_I1, w_L1, w_I2L, w_L2I, w_CMP, w_DUP, w_POP, w_DUP2, w_IF, w_IC, w_GO, w_NUL, w_ACN, prs, w_GF, w_PF, w_GS, w_IAL, w_LEN, w_LAL, w_ZAL, w_AAL, w_IAS, w_LAS, w_ZAS, w_AAS, w_RI, w_RL, w_RA, w_NEW, w_NA, w_MNA, w_OI, w_THR, w_CV, w_CS, w_CN9, w_CI9, w_MX, w_cont, lget, sto1, sto2, wideV, vo, vo_rv, isR, isR_rv, rv, fget, fput, cats, Value.category, List.headD_cons, List.getD_cons_zero, List.getD_cons_succ, List.drop_succ_cons, List.drop_zero, List.take_succ_cons, List.take_zero, List.reverse_cons, List.reverse_nil, List.nil_append, List.cons_append, List.length_cons, List.length_nil, cond_true, cond_false, and_true, true_and, Nat.zero_add, Nat.add_zero, Nat.reduceAdd, Nat.reduceLT, Nat.reduceLeDiff, Nat.reduceEqDiff, Nat.reduceBEq, Nat.reduceSub, ↓reduceIte, Int32.reduceOfNat, Int64.reduceOfNat, reduceCtorEq, Nat.le_refl, Nat.zero_le, Bool.false_eq_true, beq_self_eq_true, Fin.isValue, Fin.val_zero, Fin.val_one, Fin.reduceFinMk, Fin.val_two, Nat.reduceMod, Bool.or_false, Bool.or_true, Bool.true_or, Bool.false_or, not_true_eq_false, not_false_eq_true, true_or, or_true, implies_true, false_implies, true_implies, Int32.reduceLT, Int32.reduceLE, ↓w_TAB3, ↓w_TAB4, ↓w_TAB5, ↓w_TAB7, ↓w_TAB10, ↓w_LK2, ↓w_LK6, false_and, and_false, i1z, i2z, iz1, im0, im1, l0z, LF.hk hLM, layF, LF.r hLM, refF, ne_eq, not_false_eq_true, Option.some.injEq, Sum.inl.injEq, Prod.mk.injEq, exists_eq_left, exists_eq_left', cs, hfm0]
    refine ⟨vp_in_nI hs (by omega), and_ii (fun _ => ?_) (fun q => absurd (by decide) q)⟩
    exact tail M (by rw [hlb, List.append_nil]; exact h) none
  · simp only at q1 q2
    rw [q1, q2] at hfm0
    have hlb : lnB s n = pk 3 (dgt 10 3 n) ((3 + 1) / 2) := by unfold lnB; rw [q2]; rw [pk_3 (by omega)]; rfl
    refine r_X12_writeField (fun n => n == 54 || n == 80 || n == 41 || n == 54 || n == 76) 60 ?_
    simp only [cd_X12_writeField, cf_X12_writeField, wp, wq, wpI, cdF, w_CI, w_CL, w_CN, w_LI, w_LL, w_LA, w_SI, w_SL, w_SA, w_INC, w_II, w_IId, w_LLb, w_LLd, w_LS, w_I1, w_L1, w_I2L, w_L2I, w_CMP, w_DUP, w_POP, w_DUP2, w_IF, w_IC, w_GO, w_NUL, w_ACN, prs, w_GF, w_PF, w_GS, w_IAL, w_LEN, w_LAL, w_ZAL, w_AAL, w_IAS, w_LAS, w_ZAS, w_AAS, w_RI, w_RL, w_RA, w_NEW, w_NA, w_MNA, w_OI, w_THR, w_CV, w_CS, w_CN9, w_CI9, w_MX, w_cont, lget, sto1, sto2, wideV, vo, vo_rv, isR, isR_rv, rv, fget, fput, cats, Value.category, List.headD_cons, List.getD_cons_zero, List.getD_cons_succ, List.drop_succ_cons, List.drop_zero, List.take_succ_cons, List.take_zero, List.reverse_cons, List.reverse_nil, List.nil_append, List.cons_append, List.length_cons, List.length_nil, cond_true, cond_false, and_true, true_and, Nat.zero_add, Nat.add_zero, Nat.reduceAdd, Nat.reduceLT, Nat.reduceLeDiff, Nat.reduceEqDiff, Nat.reduceBEq, Nat.reduceSub, ↓reduceIte, Int32.reduceOfNat, Int64.reduceOfNat, reduceCtorEq, Nat.le_refl, Nat.zero_le, Bool.false_eq_true, beq_self_eq_true, Fin.isValue, Fin.val_zero, Fin.val_one, Fin.reduceFinMk, Fin.val_two, Nat.reduceMod, Bool.or_false, Bool.or_true, Bool.true_or, Bool.false_or, not_true_eq_false, not_false_eq_true, true_or, or_true, implies_true, false_implies, true_implies, Int32.reduceLT, Int32.reduceLE, ↓w_TAB3, ↓w_TAB4, ↓w_TAB5, ↓w_TAB7, ↓w_TAB10, ↓w_LK2, ↓w_LK6, false_and, and_false, i1z, i2z, iz1, im0, im1, l0z, LF.hk hLM, layF, LF.r hLM, refF, ne_eq, not_false_eq_true, Option.some.injEq, Sum.inl.injEq, Prod.mk.injEq, exists_eq_left, exists_eq_left', cs, hfm0]
    refine ⟨vp_in_nI hs (by omega), and_ii (fun q => absurd (by decide) q) (fun _ => ⟨vp_in_nI hs (by omega), ?_⟩)⟩
    refine and_ii (fun _ => ?_) (fun q => absurd (by decide) q)
    refine m_setDigits (p := 0) (n := 3) (N := 4) en rfl rfl (by rw [hLM.hk]; rfl) (by omega) (by omega) (by omega) ⟨rfl, ?_⟩
    have hM2 : nW M0 e xs (dgR M 548 0 3 (dgt 10 3 n)) := nW_few h he.2.1
    have hrw : ∀ i, i < 3 → mI (dgR M 548 0 3 (dgt 10 3 n)) 548 (0 + i) = nI (dgt 10 3 n i) := fun i hi => by
      unfold dgR
      rw [mI_sRow, if_pos rfl, if_pos (by omega)]
      congr 2
      omega
    have hLM2 := hM2.L hL
    generalize dgR M 548 0 3 (dgt 10 3 n) = M2 at hM2 hrw hLM2 ⊢
    refine r_X12_writeField (fun n => n == 54 || n == 80 || n == 41 || n == 54 || n == 76) 60 ?_
    simp only [cd_X12_writeField, cf_X12_writeField, wp, wq, wpI, cdF, w_CI, w_CL, w_CN, w_LI, w_LL, w_LA, w_SI, w_SL, w_SA, w_INC, w_II, w_IId, w_LLb, w_LLd, w_LS, w_I1, w_L1, w_I2L, w_L2I, w_CMP, w_DUP, w_POP, w_DUP2, w_IF, w_IC, w_GO, w_NUL, w_ACN, prs, w_GF, w_PF, w_GS, w_IAL, w_LEN, w_LAL, w_ZAL, w_AAL, w_IAS, w_LAS, w_ZAS, w_AAS, w_RI, w_RL, w_RA, w_NEW, w_NA, w_MNA, w_OI, w_THR, w_CV, w_CS, w_CN9, w_CI9, w_MX, w_cont, lget, sto1, sto2, wideV, vo, vo_rv, isR, isR_rv, rv, fget, fput, cats, Value.category, List.headD_cons, List.getD_cons_zero, List.getD_cons_succ, List.drop_succ_cons, List.drop_zero, List.take_succ_cons, List.take_zero, List.reverse_cons, List.reverse_nil, List.nil_append, List.cons_append, List.length_cons, List.length_nil, cond_true, cond_false, and_true, true_and, Nat.zero_add, Nat.add_zero, Nat.reduceAdd, Nat.reduceLT, Nat.reduceLeDiff, Nat.reduceEqDiff, Nat.reduceBEq, Nat.reduceSub, ↓reduceIte, Int32.reduceOfNat, Int64.reduceOfNat, reduceCtorEq, Nat.le_refl, Nat.zero_le, Bool.false_eq_true, beq_self_eq_true, Fin.isValue, Fin.val_zero, Fin.val_one, Fin.reduceFinMk, Fin.val_two, Nat.reduceMod, Bool.or_false, Bool.or_true, Bool.true_or, Bool.false_or, not_true_eq_false, not_false_eq_true, true_or, or_true, implies_true, false_implies, true_implies, Int32.reduceLT, Int32.reduceLE, ↓w_TAB3, ↓w_TAB4, ↓w_TAB5, ↓w_TAB7, ↓w_TAB10, ↓w_LK2, ↓w_LK6, false_and, and_false, i1z, i2z, iz1, im0, im1, l0z, LF.hk hLM2, layF, LF.r hLM2, refF, ne_eq, not_false_eq_true, Option.some.injEq, Sum.inl.injEq, Prod.mk.injEq, exists_eq_left, exists_eq_left']
    refine m_pack hL hM2 ⟨he.1, he.2.1, fun q => he.2.1 q.symm, by omega⟩ hke ⟨4, h548, by omega, by omega⟩ hN2 (by omega) (fun i _ => Nat.lt_trans (dgt_lt (by omega)) (by omega)) hrw rfl rfl (fun M3 h3 _ => ⟨rfl, ?_⟩)
    rw [← hlb] at h3
    exact tail M3 h3 _
end SM2
