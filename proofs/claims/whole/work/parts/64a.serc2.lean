/-! A MESSAGE IS WRITTEN: maps, lengths, signs -/
section SE2
variable {G : En} {M M0 : Mem} {Q : Option Value → Mem → Prop} {X : String → Mem → Prop} {a d s n N v k th : Nat} {m : Msg} {f : Nat → Nat} {xs : List Nat}
theorem lp_writeMaps (hms : MS M a) (hth : mI M a 1 = nI th) (ht : th < 65536) (hQ : Go G (MT 74) Q X 80 [some (.ref a), some (.ref d), some (.long (fw1 th 16)), none, some (.long (fw2 th 16)), none, none, none] [] M 0 0) : ∀ (m i : Nat), m + i = 16 → Go G (MT 74) Q X 8 [some (.ref a), some (.ref d), some (.long (fw1 th i)), none, some (.long (fw2 th i)), none, some (.int (nI i)), none] [] M 0 0 := by
  have hf : ∀ s, s < 16 → fnF s ≤ 95 := fun s _ => by unfold fnF; split <;> omega
  intro m
  induction m with
  | zero =>
    intro i hi
    have hi : i = 16 := by omega
    subst hi
    refine r_X6_writeMaps (fun n => n == 8 || n == 80 || n == 29 || n == 58 || n == 92 || n == 104 || n == 110) 40 ?_
    simp only [cd_X6_writeMaps, cf_X6_writeMaps, wp, wq, wpI, cdF, w_CI, w_CL, w_CN, w_LI, w_LL, w_LA, w_SI, w_SL, w_SA, w_INC, w_II, w_IId, w_LLb, w_LLd, w_LS, w_I1, w_L1, w_I2L, w_L2I, w_CMP, w_DUP, w_POP, w_DUP2, w_IF, w_IC, w_GO, w_NUL, w_ACN, prs, w_GF, w_PF, w_GS, w_IAL, w_LEN, w_LAL, w_ZAL, w_AAL, w_IAS, w_LAS, w_ZAS, w_AAS, w_RI, w_RL, w_RA, w_NEW, w_NA, w_MNA, w_OI, w_THR, w_CV, w_CS, w_CN9, w_CI9, w_MX, w_cont, lget, sto1, sto2, wideV, vo, vo_rv, isR, isR_rv, rv, fget, fput, cats, Value.category, List.headD_cons, List.getD_cons_zero, List.getD_cons_succ, List.drop_succ_cons, List.drop_zero, List.take_succ_cons, List.take_zero, List.reverse_cons, List.reverse_nil, List.nil_append, List.cons_append, List.length_cons, List.length_nil, cond_true, cond_false, and_true, true_and, Nat.zero_add, Nat.add_zero, Nat.reduceAdd, Nat.reduceLT, Nat.reduceLeDiff, Nat.reduceEqDiff, Nat.reduceBEq, Nat.reduceSub, ↓reduceIte, Int32.reduceOfNat, Int64.reduceOfNat, reduceCtorEq, Nat.le_refl, Nat.zero_le, Bool.false_eq_true, beq_self_eq_true, Fin.isValue, Fin.val_zero, Fin.val_one, Fin.reduceFinMk, Fin.val_two, Nat.reduceMod, Bool.or_false, Bool.or_true, Bool.true_or, Bool.false_or, not_true_eq_false, not_false_eq_true, true_or, or_true, implies_true, false_implies, true_implies, Int32.reduceLT, Int32.reduceLE, ↓w_TAB3, ↓w_TAB4, ↓w_TAB5, ↓w_TAB7, ↓w_TAB10, ↓w_LK2, ↓w_LK6, false_and, and_false, i1z, i2z, iz1, im0, im1, l0z]
    refine ⟨fun _ => Go.less hQ (fun i v h => ?_), fun q => absurd (by decide) q⟩
    rcases i with _ | _ | _ | _ | _ | _ | _ | _ | i <;> simp at h ⊢ <;> exact h
  | succ m ih =>
    intro i hi
    have hi16 : i < 16 := by omega
    have ti := nI_toInt (n := i) (by omega)
    have ci := nI_clamp (n := i) (by omega)
    have tf := nI_toInt (n := fnF i) (by have := hf i hi16; omega)
    have e0 : stV 0 i = nI (fnF i) := st0 ⟨i, hi16⟩
    have hpb := pb_le th i
    have hih := ih (i + 1) (by omega)
    rw [fw1, fw2] at hih
    refine r_X6_writeMaps (fun n => n == 8 || n == 80 || n == 29 || n == 58 || n == 92 || n == 104 || n == 110) 40 ?_
    simp only [cd_X6_writeMaps, cf_X6_writeMaps, wp, wq, wpI, cdF, w_CI, w_CL, w_CN, w_LI, w_LL, w_LA, w_SI, w_SL, w_SA, w_INC, w_II, w_IId, w_LLb, w_LLd, w_LS, w_I1, w_L1, w_I2L, w_L2I, w_CMP, w_DUP, w_POP, w_DUP2, w_IF, w_IC, w_GO, w_NUL, w_ACN, prs, w_GF, w_PF, w_GS, w_IAL, w_LEN, w_LAL, w_ZAL, w_AAL, w_IAS, w_LAS, w_ZAS, w_AAS, w_RI, w_RL, w_RA, w_NEW, w_NA, w_MNA, w_OI, w_THR, w_CV, w_CS, w_CN9, w_CI9, w_MX, w_cont, lget, sto1, sto2, wideV, vo, vo_rv, isR, isR_rv, rv, fget, fput, cats, Value.category, List.headD_cons, List.getD_cons_zero, List.getD_cons_succ, List.drop_succ_cons, List.drop_zero, List.take_succ_cons, List.take_zero, List.reverse_cons, List.reverse_nil, List.nil_append, List.cons_append, List.length_cons, List.length_nil, cond_true, cond_false, and_true, true_and, Nat.zero_add, Nat.add_zero, Nat.reduceAdd, Nat.reduceLT, Nat.reduceLeDiff, Nat.reduceEqDiff, Nat.reduceBEq, Nat.reduceSub, ↓reduceIte, Int32.reduceOfNat, Int64.reduceOfNat, reduceCtorEq, Nat.le_refl, Nat.zero_le, Bool.false_eq_true, beq_self_eq_true, Fin.isValue, Fin.val_zero, Fin.val_one, Fin.reduceFinMk, Fin.val_two, Nat.reduceMod, Bool.or_false, Bool.or_true, Bool.true_or, Bool.false_or, not_true_eq_false, not_false_eq_true, true_or, or_true, implies_true, false_implies, true_implies, Int32.reduceLT, Int32.reduceLE, ↓w_TAB3, ↓w_TAB4, ↓w_TAB5, ↓w_TAB7, ↓w_TAB10, ↓w_LK2, ↓w_LK6, false_and, and_false, i1z, i2z, iz1, im0, im1, l0z, cVal, cLen, ci, e0, hms.1]
    refine and_ii (fun q => ?_) (fun _ => ⟨vp_in_nI (by simpa [stT] using hi16) (by simp [stT]), ?_⟩)
    · exfalso; (simp only [i_lt, i_le, i_eq, l_lt, l_le, l_eq, Int32.toInt_toInt64, Int32.reduceToInt, Int64.reduceToInt, ne_eq, Classical.not_not] at *; omega)
    · refine c_has hms hth ht hi16 ⟨_, rfl, ?_⟩
      by_cases q : pb th i = 1
      · rw [q, show nI 1 = (1 : Int32) from rfl]
        by_cases q2 : fnF i ≤ 64
        · have e2 : ¬ (64 : Int32) < nI (fnF i) := by rw [i_lt, tf]; simp; omega
          rw [if_pos ⟨q, q2⟩, if_neg (fun q3 => q3.2 q2)] at hih
          refine r_X6_writeMaps (fun n => n == 8 || n == 80 || n == 29 || n == 58 || n == 92 || n == 104 || n == 110) 40 ?_
          simp only [cd_X6_writeMaps, cf_X6_writeMaps, wp, wq, wpI, cdF, w_CI, w_CL, w_CN, w_LI, w_LL, w_LA, w_SI, w_SL, w_SA, w_INC, w_II, w_IId, w_LLb, w_LLd, w_LS, w_I1, w_L1, w_I2L, w_L2I, w_CMP, w_DUP, w_POP, w_DUP2, w_IF, w_IC, w_GO, w_NUL, w_ACN, prs, w_GF, w_PF, w_GS, w_IAL, w_LEN, w_LAL, w_ZAL, w_AAL, w_IAS, w_LAS, w_ZAS, w_AAS, w_RI, w_RL, w_RA, w_NEW, w_NA, w_MNA, w_OI, w_THR, w_CV, w_CS, w_CN9, w_CI9, w_MX, w_cont, lget, sto1, sto2, wideV, vo, vo_rv, isR, isR_rv, rv, fget, fput, cats, Value.category, List.headD_cons, List.getD_cons_zero, List.getD_cons_succ, List.drop_succ_cons, List.drop_zero, List.take_succ_cons, List.take_zero, List.reverse_cons, List.reverse_nil, List.nil_append, List.cons_append, List.length_cons, List.length_nil, cond_true, cond_false, and_true, true_and, Nat.zero_add, Nat.add_zero, Nat.reduceAdd, Nat.reduceLT, Nat.reduceLeDiff, Nat.reduceEqDiff, Nat.reduceBEq, Nat.reduceSub, ↓reduceIte, Int32.reduceOfNat, Int64.reduceOfNat, reduceCtorEq, Nat.le_refl, Nat.zero_le, Bool.false_eq_true, beq_self_eq_true, Fin.isValue, Fin.val_zero, Fin.val_one, Fin.reduceFinMk, Fin.val_two, Nat.reduceMod, Bool.or_false, Bool.or_true, Bool.true_or, Bool.false_or, not_true_eq_false, not_false_eq_true, true_or, or_true, implies_true, false_implies, true_implies, Int32.reduceLT, Int32.reduceLE, ↓w_TAB3, ↓w_TAB4, ↓w_TAB5, ↓w_TAB7, ↓w_TAB10, ↓w_LK2, ↓w_LK6, false_and, and_false, i1z, i2z, iz1, im0, im1, l0z, e2, nI_1]
          refine Go.less hih (fun i v h => ?_)
          rcases i with _ | _ | _ | _ | _ | _ | _ | _ | i <;> simp at h ⊢ <;> exact h
        · have e2 : (64 : Int32) < nI (fnF i) := by rw [i_lt, tf]; simp; omega
          rw [if_neg (fun q3 => q2 q3.2), if_pos ⟨q, q2⟩] at hih
          refine r_X6_writeMaps (fun n => n == 8 || n == 80 || n == 29 || n == 58 || n == 92 || n == 104 || n == 110) 40 ?_
          simp only [cd_X6_writeMaps, cf_X6_writeMaps, wp, wq, wpI, cdF, w_CI, w_CL, w_CN, w_LI, w_LL, w_LA, w_SI, w_SL, w_SA, w_INC, w_II, w_IId, w_LLb, w_LLd, w_LS, w_I1, w_L1, w_I2L, w_L2I, w_CMP, w_DUP, w_POP, w_DUP2, w_IF, w_IC, w_GO, w_NUL, w_ACN, prs, w_GF, w_PF, w_GS, w_IAL, w_LEN, w_LAL, w_ZAL, w_AAL, w_IAS, w_LAS, w_ZAS, w_AAS, w_RI, w_RL, w_RA, w_NEW, w_NA, w_MNA, w_OI, w_THR, w_CV, w_CS, w_CN9, w_CI9, w_MX, w_cont, lget, sto1, sto2, wideV, vo, vo_rv, isR, isR_rv, rv, fget, fput, cats, Value.category, List.headD_cons, List.getD_cons_zero, List.getD_cons_succ, List.drop_succ_cons, List.drop_zero, List.take_succ_cons, List.take_zero, List.reverse_cons, List.reverse_nil, List.nil_append, List.cons_append, List.length_cons, List.length_nil, cond_true, cond_false, and_true, true_and, Nat.zero_add, Nat.add_zero, Nat.reduceAdd, Nat.reduceLT, Nat.reduceLeDiff, Nat.reduceEqDiff, Nat.reduceBEq, Nat.reduceSub, ↓reduceIte, Int32.reduceOfNat, Int64.reduceOfNat, reduceCtorEq, Nat.le_refl, Nat.zero_le, Bool.false_eq_true, beq_self_eq_true, Fin.isValue, Fin.val_zero, Fin.val_one, Fin.reduceFinMk, Fin.val_two, Nat.reduceMod, Bool.or_false, Bool.or_true, Bool.true_or, Bool.false_or, not_true_eq_false, not_false_eq_true, true_or, or_true, implies_true, false_implies, true_implies, Int32.reduceLT, Int32.reduceLE, ↓w_TAB3, ↓w_TAB4, ↓w_TAB5, ↓w_TAB7, ↓w_TAB10, ↓w_LK2, ↓w_LK6, false_and, and_false, i1z, i2z, iz1, im0, im1, l0z, e2, hms.1]
          refine c_has hms hth ht hi16 ⟨_, rfl, ?_⟩
          rw [q, show nI 1 = (1 : Int32) from rfl]
          refine r_X6_writeMaps (fun n => n == 8 || n == 80 || n == 29 || n == 58 || n == 92 || n == 104 || n == 110) 40 ?_
          simp only [cd_X6_writeMaps, cf_X6_writeMaps, wp, wq, wpI, cdF, w_CI, w_CL, w_CN, w_LI, w_LL, w_LA, w_SI, w_SL, w_SA, w_INC, w_II, w_IId, w_LLb, w_LLd, w_LS, w_I1, w_L1, w_I2L, w_L2I, w_CMP, w_DUP, w_POP, w_DUP2, w_IF, w_IC, w_GO, w_NUL, w_ACN, prs, w_GF, w_PF, w_GS, w_IAL, w_LEN, w_LAL, w_ZAL, w_AAL, w_IAS, w_LAS, w_ZAS, w_AAS, w_RI, w_RL, w_RA, w_NEW, w_NA, w_MNA, w_OI, w_THR, w_CV, w_CS, w_CN9, w_CI9, w_MX, w_cont, lget, sto1, sto2, wideV, vo, vo_rv, isR, isR_rv, rv, fget, fput, cats, Value.category, List.headD_cons, List.getD_cons_zero, List.getD_cons_succ, List.drop_succ_cons, List.drop_zero, List.take_succ_cons, List.take_zero, List.reverse_cons, List.reverse_nil, List.nil_append, List.cons_append, List.length_cons, List.length_nil, cond_true, cond_false, and_true, true_and, Nat.zero_add, Nat.add_zero, Nat.reduceAdd, Nat.reduceLT, Nat.reduceLeDiff, Nat.reduceEqDiff, Nat.reduceBEq, Nat.reduceSub, ↓reduceIte, Int32.reduceOfNat, Int64.reduceOfNat, reduceCtorEq, Nat.le_refl, Nat.zero_le, Bool.false_eq_true, beq_self_eq_true, Fin.isValue, Fin.val_zero, Fin.val_one, Fin.reduceFinMk, Fin.val_two, Nat.reduceMod, Bool.or_false, Bool.or_true, Bool.true_or, Bool.false_or, not_true_eq_false, not_false_eq_true, true_or, or_true, implies_true, false_implies, true_implies, Int32.reduceLT, Int32.reduceLE, ↓w_TAB3, ↓w_TAB4, ↓w_TAB5, ↓w_TAB7, ↓w_TAB10, ↓w_LK2, ↓w_LK6, false_and, and_false, i1z, i2z, iz1, im0, im1, l0z, nI_1]
          refine Go.less hih (fun i v h => ?_)
          rcases i with _ | _ | _ | _ | _ | _ | _ | _ | i <;> simp at h ⊢ <;> exact h
      · have q0 : pb th i = 0 := by omega
        rw [if_neg (fun q3 => q q3.1), if_neg (fun q3 => q q3.1)] at hih
        rw [q0, show nI 0 = (0 : Int32) from rfl]
        refine r_X6_writeMaps (fun n => n == 8 || n == 80 || n == 29 || n == 58 || n == 92 || n == 104 || n == 110) 40 ?_
        simp only [cd_X6_writeMaps, cf_X6_writeMaps, wp, wq, wpI, cdF, w_CI, w_CL, w_CN, w_LI, w_LL, w_LA, w_SI, w_SL, w_SA, w_INC, w_II, w_IId, w_LLb, w_LLd, w_LS, w_I1, w_L1, w_I2L, w_L2I, w_CMP, w_DUP, w_POP, w_DUP2, w_IF, w_IC, w_GO, w_NUL, w_ACN, prs, w_GF, w_PF, w_GS, w_IAL, w_LEN, w_LAL, w_ZAL, w_AAL, w_IAS, w_LAS, w_ZAS, w_AAS, w_RI, w_RL, w_RA, w_NEW, w_NA, w_MNA, w_OI, w_THR, w_CV, w_CS, w_CN9, w_CI9, w_MX, w_cont, lget, sto1, sto2, wideV, vo, vo_rv, isR, isR_rv, rv, fget, fput, cats, Value.category, List.headD_cons, List.getD_cons_zero, List.getD_cons_succ, List.drop_succ_cons, List.drop_zero, List.take_succ_cons, List.take_zero, List.reverse_cons, List.reverse_nil, List.nil_append, List.cons_append, List.length_cons, List.length_nil, cond_true, cond_false, and_true, true_and, Nat.zero_add, Nat.add_zero, Nat.reduceAdd, Nat.reduceLT, Nat.reduceLeDiff, Nat.reduceEqDiff, Nat.reduceBEq, Nat.reduceSub, ↓reduceIte, Int32.reduceOfNat, Int64.reduceOfNat, reduceCtorEq, Nat.le_refl, Nat.zero_le, Bool.false_eq_true, beq_self_eq_true, Fin.isValue, Fin.val_zero, Fin.val_one, Fin.reduceFinMk, Fin.val_two, Nat.reduceMod, Bool.or_false, Bool.or_true, Bool.true_or, Bool.false_or, not_true_eq_false, not_false_eq_true, true_or, or_true, implies_true, false_implies, true_implies, Int32.reduceLT, Int32.reduceLE, ↓w_TAB3, ↓w_TAB4, ↓w_TAB5, ↓w_TAB7, ↓w_TAB10, ↓w_LK2, ↓w_LK6, false_and, and_false, i1z, i2z, iz1, im0, im1, l0z, hms.1]
        refine c_has hms hth ht hi16 ⟨_, rfl, ?_⟩
        rw [q0, show nI 0 = (0 : Int32) from rfl]
        refine r_X6_writeMaps (fun n => n == 8 || n == 80 || n == 29 || n == 58 || n == 92 || n == 104 || n == 110) 40 ?_
        simp only [cd_X6_writeMaps, cf_X6_writeMaps, wp, wq, wpI, cdF, w_CI, w_CL, w_CN, w_LI, w_LL, w_LA, w_SI, w_SL, w_SA, w_INC, w_II, w_IId, w_LLb, w_LLd, w_LS, w_I1, w_L1, w_I2L, w_L2I, w_CMP, w_DUP, w_POP, w_DUP2, w_IF, w_IC, w_GO, w_NUL, w_ACN, prs, w_GF, w_PF, w_GS, w_IAL, w_LEN, w_LAL, w_ZAL, w_AAL, w_IAS, w_LAS, w_ZAS, w_AAS, w_RI, w_RL, w_RA, w_NEW, w_NA, w_MNA, w_OI, w_THR, w_CV, w_CS, w_CN9, w_CI9, w_MX, w_cont, lget, sto1, sto2, wideV, vo, vo_rv, isR, isR_rv, rv, fget, fput, cats, Value.category, List.headD_cons, List.getD_cons_zero, List.getD_cons_succ, List.drop_succ_cons, List.drop_zero, List.take_succ_cons, List.take_zero, List.reverse_cons, List.reverse_nil, List.nil_append, List.cons_append, List.length_cons, List.length_nil, cond_true, cond_false, and_true, true_and, Nat.zero_add, Nat.add_zero, Nat.reduceAdd, Nat.reduceLT, Nat.reduceLeDiff, Nat.reduceEqDiff, Nat.reduceBEq, Nat.reduceSub, ↓reduceIte, Int32.reduceOfNat, Int64.reduceOfNat, reduceCtorEq, Nat.le_refl, Nat.zero_le, Bool.false_eq_true, beq_self_eq_true, Fin.isValue, Fin.val_zero, Fin.val_one, Fin.reduceFinMk, Fin.val_two, Nat.reduceMod, Bool.or_false, Bool.or_true, Bool.true_or, Bool.false_or, not_true_eq_false, not_false_eq_true, true_or, or_true, implies_true, false_implies, true_implies, Int32.reduceLT, Int32.reduceLE, ↓w_TAB3, ↓w_TAB4, ↓w_TAB5, ↓w_TAB7, ↓w_TAB10, ↓w_LK2, ↓w_LK6, false_and, and_false, i1z, i2z, iz1, im0, im1, l0z, nI_1]
        refine Go.less hih (fun i v h => ?_)
        rcases i with _ | _ | _ | _ | _ | _ | _ | _ | i <;> simp at h ⊢ <;> exact h
theorem mpL_0 {p : Nat → Nat} : mpL p 0 = (List.range 8).map (mpB p 0) := rfl
theorem mpL_1 {p : Nat → Nat} : mpL p 1 = (List.range 8).map (mpB p 1) ++ (List.range 8).map (fun i => mpB p 1 (8 + i)) := rfl
theorem c_writeMaps (h : bW M0 d xs M) (hB : BY M0 d (d + 1) N) (hms : MS M a) (hth : mI M a 1 = nI th) (ht : th < 65536) (hl : xs.length + 16 ≤ N) (hQ : ∀ M', bW M0 d (xs ++ mpL (pb th) (scF th)) M' → Q none M') : Ct G (MT 74) [.ref a, .ref d] M Q X := by
  have hm := maps_ok ht
  have h256 : ∀ c i, c ≤ 1 → mpB (pb th) c i < 256 := fun c i hc => mpB_256 (pb_le th) hc
  refine Ct.go (L0 := [some (.ref a), some (.ref d), none, none, none, none, none, none]) (by decide +kernel) rfl rfl ?_
  refine r_X6_writeMaps (fun n => n == 8 || n == 80 || n == 29 || n == 58 || n == 92 || n == 104 || n == 110) 40 ?_
  simp only [cd_X6_writeMaps, cf_X6_writeMaps, wp, wq, wpI, cdF, w_CI, w_CL, w_CN, w_LI, w_LL, w_LA, w_SI, w_SL, w_SA, w_INC, w_II, w_IId, w_LLb, w_LLd, w_LS, w_I1, w_L1, w_I2L, w_L2I, w_CMP, w_DUP, w_POP, w_DUP2, w_IF, w_IC, w_GO, w_NUL, w_ACN, prs, w_GF, w_PF, w_GS, w_IAL, w_LEN, w_LAL, w_ZAL, w_AAL, w_IAS, w_LAS, w_ZAS, w_AAS, w_RI, w_RL, w_RA, w_NEW, w_NA, w_MNA, w_OI, w_THR, w_CV, w_CS, w_CN9, w_CI9, w_MX, w_cont, lget, sto1, sto2, wideV, vo, vo_rv, isR, isR_rv, rv, fget, fput, cats, Value.category, List.headD_cons, List.getD_cons_zero, List.getD_cons_succ, List.drop_succ_cons, List.drop_zero, List.take_succ_cons, List.take_zero, List.reverse_cons, List.reverse_nil, List.nil_append, List.cons_append, List.length_cons, List.length_nil, cond_true, cond_false, and_true, true_and, Nat.zero_add, Nat.add_zero, Nat.reduceAdd, Nat.reduceLT, Nat.reduceLeDiff, Nat.reduceEqDiff, Nat.reduceBEq, Nat.reduceSub, ↓reduceIte, Int32.reduceOfNat, Int64.reduceOfNat, reduceCtorEq, Nat.le_refl, Nat.zero_le, Bool.false_eq_true, beq_self_eq_true, Fin.isValue, Fin.val_zero, Fin.val_one, Fin.reduceFinMk, Fin.val_two, Nat.reduceMod, Bool.or_false, Bool.or_true, Bool.true_or, Bool.false_or, not_true_eq_false, not_false_eq_true, true_or, or_true, implies_true, false_implies, true_implies, Int32.reduceLT, Int32.reduceLE, ↓w_TAB3, ↓w_TAB4, ↓w_TAB5, ↓w_TAB7, ↓w_TAB10, ↓w_LK2, ↓w_LK6, false_and, and_false, i1z, i2z, iz1, im0, im1, l0z]
  refine lp_writeMaps hms hth ht ?_ 16 0 rfl
  refine r_X6_writeMaps (fun _ => false) 40 ?_
  simp only [cd_X6_writeMaps, cf_X6_writeMaps, wp, wq, wpI, cdF, w_CI, w_CL, w_CN, w_LI, w_LL, w_LA, w_SI, w_SL, w_SA, w_INC, w_II, w_IId, w_LLb, w_LLd, w_LS, w_I1, w_L1, w_I2L, w_L2I, w_CMP, w_DUP, w_POP, w_DUP2, w_IF, w_IC, w_GO, w_NUL, w_ACN, prs, w_GF, w_PF, w_GS, w_IAL, w_LEN, w_LAL, w_ZAL, w_AAL, w_IAS, w_LAS, w_ZAS, w_AAS, w_RI, w_RL, w_RA, w_NEW, w_NA, w_MNA, w_OI, w_THR, w_CV, w_CS, w_CN9, w_CI9, w_MX, w_cont, lget, sto1, sto2, wideV, vo, vo_rv, isR, isR_rv, rv, fget, fput, cats, Value.category, List.headD_cons, List.getD_cons_zero, List.getD_cons_succ, List.drop_succ_cons, List.drop_zero, List.take_succ_cons, List.take_zero, List.reverse_cons, List.reverse_nil, List.nil_append, List.cons_append, List.length_cons, List.length_nil, cond_true, cond_false, and_true, true_and, Nat.zero_add, Nat.add_zero, Nat.reduceAdd, Nat.reduceLT, Nat.reduceLeDiff, Nat.reduceEqDiff, Nat.reduceBEq, Nat.reduceSub, ↓reduceIte, Int32.reduceOfNat, Int64.reduceOfNat, reduceCtorEq, Nat.le_refl, Nat.zero_le, Bool.false_eq_true, beq_self_eq_true, Fin.isValue, Fin.val_zero, Fin.val_one, Fin.reduceFinMk, Fin.val_two, Nat.reduceMod, Bool.or_false, Bool.or_true, Bool.true_or, Bool.false_or, not_true_eq_false, not_false_eq_true, true_or, or_true, implies_true, false_implies, true_implies, Int32.reduceLT, Int32.reduceLE, ↓w_TAB3, ↓w_TAB4, ↓w_TAB5, ↓w_TAB7, ↓w_TAB10, ↓w_LK2, ↓w_LK6, false_and, and_false, i1z, i2z, iz1, im0, im1, l0z, cmp_eq]
  refine and_ii (fun q => ?_) (fun q => ?_)
  · have h2 : ¬ th < 2048 := fun q2 => q (hm.1 q2).1
    have hm := hm.2 h2
    have es : scF th = 1 := by unfold scF; rw [if_pos (by omega)]
    rw [es, mpL_1, ← List.append_assoc] at hQ
    refine c_writeMap h hB (by omega) (B := mpB (pb th) 1) (fun i hi => ⟨hm.2.1 i hi, h256 1 i (by omega)⟩) (fun M1 h1 => ⟨rfl, ?_⟩)
    refine c_writeMap h1 hB (by simp; omega) (B := fun i => mpB (pb th) 1 (8 + i)) (fun i hi => ⟨hm.2.2 i hi, h256 1 _ (by omega)⟩) (fun M2 h3 => ⟨rfl, ?_⟩)
    exact hQ M2 h3
  · have q := Classical.not_not.mp q
    have h2 : th < 2048 := by
      apply Classical.byContradiction
      intro q2
      exact (hm.2 q2).1 q
    have es : scF th = 0 := by unfold scF; rw [if_neg (by omega)]
    rw [es, mpL_0] at hQ
    refine c_writeMap h hB (by omega) (B := mpB (pb th) 0) (fun i hi => ⟨(hm.1 h2).2 i hi, h256 0 i (by omega)⟩) (fun M1 h1 => ⟨rfl, ?_⟩)
    exact hQ M1 h1
theorem c_writeLength {y : Int32} (h : bW M0 d xs M) (hB : BY M0 d (d + 1) N) (hms : MS M a) (hs : s < 16) (hn : mI M (a + 1) s = nI n) (hn42 : n ≤ 42) (hy : y = nI s) (hl : xs.length + 2 ≤ N) (hQ : ∀ M', bW M0 d (xs ++ lnB s n) M' → Q none M') : Ct G (MT 76) [.ref a, .int y, .ref d] M Q X := by
  subst hy
  have e2 : ∀ s : Fin 16, stV 2 s.val = nI (ldF s.val) := by decide
  have e2 : stV 2 s = nI (ldF s) := e2 ⟨s, hs⟩
  have hl3 : ldF s = 0 ∨ ldF s = 2 ∨ ldF s = 3 := by unfold ldF; split <;> simp
  have cs := nI_clamp (show s < 2 ^ 31 by omega)
  have hk : hasK M d (.inr 3) := by rw [h.hk]; exact hB.1
  have e100 : ((100 : Int32) = 0) = False := eq_false (by decide)
  have e10 : ((10 : Int32) = 0) = False := eq_false (by decide)
  have d100 := nI_div (a := n) (b := 100) (by omega) (by omega) (by omega)
  have d10 := nI_div (a := n) (b := 10) (by omega) (by omega) (by omega)
  have r10 := nI_rem (a := n) (b := 10) (by omega) (by omega) (by omega)
  have dr10 := nI_rem (a := n / 10) (b := 10) (by omega) (by omega) (by omega)
  rw [← d10] at dr10
  have hb := nib_o (h := n / 10 % 10) (s := n % 10) (by omega) (by omega)
  have hvp : vp_in (nI s) (stT 2).length := vp_in_nI (by simpa [stT] using hs) (by simp [stT])
  have hbyte : 16 * (n / 10 % 10) + n % 10 < 256 := by omega
  have hw : ((nI n / 10 - nI n / 10 / 10 * 10) <<< ((4 : Int32) &&& 31) ||| (nI n - nI n / 10 * 10)) = nI (16 * (n / 10 % 10) + n % 10) := by
    rw [← hb, ← r10, ← dr10]; rfl
  refine Ct.go (L0 := [some (.ref a), some (.int (nI s)), some (.ref d), none]) (by decide +kernel) rfl rfl ?_
  refine r_X6_writeLength (fun n => n == 24 || n == 50) 60 ?_
  simp only [cd_X6_writeLength, cf_X6_writeLength, wp, wq, wpI, cdF, w_CI, w_CL, w_CN, w_LI, w_LL, w_LA, w_SI, w_SL, w_SA, w_INC, w_II, w_IId, w_LLb, w_LLd, w_LS, w_I1, w_L1, w_I2L, w_L2I, w_CMP, w_DUP, w_POP, w_DUP2, w_IF, w_IC, w_GO, w_NUL, w_ACN, prs, w_GF, w_PF, w_GS, w_IAL, w_LEN, w_LAL, w_ZAL, w_AAL, w_IAS, w_LAS, w_ZAS, w_AAS, w_RI, w_RL, w_RA, w_NEW, w_NA, w_MNA, w_OI, w_THR, w_CV, w_CS, w_CN9, w_CI9, w_MX, w_cont, lget, sto1, sto2, wideV, vo, vo_rv, isR, isR_rv, rv, fget, fput, cats, Value.category, List.headD_cons, List.getD_cons_zero, List.getD_cons_succ, List.drop_succ_cons, List.drop_zero, List.take_succ_cons, List.take_zero, List.reverse_cons, List.reverse_nil, List.nil_append, List.cons_append, List.length_cons, List.length_nil, cond_true, cond_false, and_true, true_and, Nat.zero_add, Nat.add_zero, Nat.reduceAdd, Nat.reduceLT, Nat.reduceLeDiff, Nat.reduceEqDiff, Nat.reduceBEq, Nat.reduceSub, ↓reduceIte, Int32.reduceOfNat, Int64.reduceOfNat, reduceCtorEq, Nat.le_refl, Nat.zero_le, Bool.false_eq_true, beq_self_eq_true, Fin.isValue, Fin.val_zero, Fin.val_one, Fin.reduceFinMk, Fin.val_two, Nat.reduceMod, Bool.or_false, Bool.or_true, Bool.true_or, Bool.false_or, not_true_eq_false, not_false_eq_true, true_or, or_true, implies_true, false_implies, true_implies, Int32.reduceLT, Int32.reduceLE, ↓w_TAB3, ↓w_TAB4, ↓w_TAB5, ↓w_TAB7, ↓w_TAB10, ↓w_LK2, ↓w_LK6, false_and, and_false, i1z, i2z, iz1, im0, im1, l0z, cVal, cLen, cs, e2, hms.1, hms.2.1, hn, e100, e10, hk]
  refine ⟨16, hms.2.2.2.1, vp_in_nI hs (by omega), hvp, ?_⟩
  unfold lnB at hQ
  rcases hl3 with q | q | q
  · rw [q] at hQ ⊢
    refine and_ii (fun _ => ?_) (fun q2 => absurd (by decide) q2)
    refine r_X6_writeLength (fun n => n == 24 || n == 50) 60 ?_
    simp only [cd_X6_writeLength, cf_X6_writeLength, wp, wq, wpI, cdF, w_CI, w_CL, w_CN, w_LI, w_LL, w_LA, w_SI, w_SL, w_SA, w_INC, w_II, w_IId, w_LLb, w_LLd, w_LS, w_I1, w_L1, w_I2L, w_L2I, w_CMP, w_DUP, w_POP, w_DUP2, w_IF, w_IC, w_GO, w_NUL, w_ACN, prs, w_GF, w_PF, w_GS, w_IAL, w_LEN, w_LAL, w_ZAL, w_AAL, w_IAS, w_LAS, w_ZAS, w_AAS, w_RI, w_RL, w_RA, w_NEW, w_NA, w_MNA, w_OI, w_THR, w_CV, w_CS, w_CN9, w_CI9, w_MX, w_cont, lget, sto1, sto2, wideV, vo, vo_rv, isR, isR_rv, rv, fget, fput, cats, Value.category, List.headD_cons, List.getD_cons_zero, List.getD_cons_succ, List.drop_succ_cons, List.drop_zero, List.take_succ_cons, List.take_zero, List.reverse_cons, List.reverse_nil, List.nil_append, List.cons_append, List.length_cons, List.length_nil, cond_true, cond_false, and_true, true_and, Nat.zero_add, Nat.add_zero, Nat.reduceAdd, Nat.reduceLT, Nat.reduceLeDiff, Nat.reduceEqDiff, Nat.reduceBEq, Nat.reduceSub, ↓reduceIte, Int32.reduceOfNat, Int64.reduceOfNat, reduceCtorEq, Nat.le_refl, Nat.zero_le, Bool.false_eq_true, beq_self_eq_true, Fin.isValue, Fin.val_zero, Fin.val_one, Fin.reduceFinMk, Fin.val_two, Nat.reduceMod, Bool.or_false, Bool.or_true, Bool.true_or, Bool.false_or, not_true_eq_false, not_false_eq_true, true_or, or_true, implies_true, false_implies, true_implies, Int32.reduceLT, Int32.reduceLE, ↓w_TAB3, ↓w_TAB4, ↓w_TAB5, ↓w_TAB7, ↓w_TAB10, ↓w_LK2, ↓w_LK6, false_and, and_false, i1z, i2z, iz1, im0, im1, l0z, cVal, cLen, cs, e2, e10, hk, q]
    refine ⟨hvp, and_ii (fun _ => ?_) (fun q2 => absurd (by decide) q2)⟩
    refine r_X6_writeLength (fun n => n == 24 || n == 50) 60 ?_
    simp only [cd_X6_writeLength, cf_X6_writeLength, wp, wq, wpI, cdF, w_CI, w_CL, w_CN, w_LI, w_LL, w_LA, w_SI, w_SL, w_SA, w_INC, w_II, w_IId, w_LLb, w_LLd, w_LS, w_I1, w_L1, w_I2L, w_L2I, w_CMP, w_DUP, w_POP, w_DUP2, w_IF, w_IC, w_GO, w_NUL, w_ACN, prs, w_GF, w_PF, w_GS, w_IAL, w_LEN, w_LAL, w_ZAL, w_AAL, w_IAS, w_LAS, w_ZAS, w_AAS, w_RI, w_RL, w_RA, w_NEW, w_NA, w_MNA, w_OI, w_THR, w_CV, w_CS, w_CN9, w_CI9, w_MX, w_cont, lget, sto1, sto2, wideV, vo, vo_rv, isR, isR_rv, rv, fget, fput, cats, Value.category, List.headD_cons, List.getD_cons_zero, List.getD_cons_succ, List.drop_succ_cons, List.drop_zero, List.take_succ_cons, List.take_zero, List.reverse_cons, List.reverse_nil, List.nil_append, List.cons_append, List.length_cons, List.length_nil, cond_true, cond_false, and_true, true_and, Nat.zero_add, Nat.add_zero, Nat.reduceAdd, Nat.reduceLT, Nat.reduceLeDiff, Nat.reduceEqDiff, Nat.reduceBEq, Nat.reduceSub, ↓reduceIte, Int32.reduceOfNat, Int64.reduceOfNat, reduceCtorEq, Nat.le_refl, Nat.zero_le, Bool.false_eq_true, beq_self_eq_true, Fin.isValue, Fin.val_zero, Fin.val_one, Fin.reduceFinMk, Fin.val_two, Nat.reduceMod, Bool.or_false, Bool.or_true, Bool.true_or, Bool.false_or, not_true_eq_false, not_false_eq_true, true_or, or_true, implies_true, false_implies, true_implies, Int32.reduceLT, Int32.reduceLE, ↓w_TAB3, ↓w_TAB4, ↓w_TAB5, ↓w_TAB7, ↓w_TAB10, ↓w_LK2, ↓w_LK6, false_and, and_false, i1z, i2z, iz1, im0, im1, l0z]
    exact hQ M (by simpa using h)
  · rw [q] at hQ ⊢
    refine and_ii (fun _ => ?_) (fun q2 => absurd (by decide) q2)
    refine r_X6_writeLength (fun n => n == 24 || n == 50) 60 ?_
    simp only [cd_X6_writeLength, cf_X6_writeLength, wp, wq, wpI, cdF, w_CI, w_CL, w_CN, w_LI, w_LL, w_LA, w_SI, w_SL, w_SA, w_INC, w_II, w_IId, w_LLb, w_LLd, w_LS, w_I1, w_L1, w_I2L, w_L2I, w_CMP, w_DUP, w_POP, w_DUP2, w_IF, w_IC, w_GO, w_NUL, w_ACN, prs, w_GF, w_PF, w_GS, w_IAL, w_LEN, w_LAL, w_ZAL, w_AAL, w_IAS, w_LAS, w_ZAS, w_AAS, w_RI, w_RL, w_RA, w_NEW, w_NA, w_MNA, w_OI, w_THR, w_CV, w_CS, w_CN9, w_CI9, w_MX, w_cont, lget, sto1, sto2, wideV, vo, vo_rv, isR, isR_rv, rv, fget, fput, cats, Value.category, List.headD_cons, List.getD_cons_zero, List.getD_cons_succ, List.drop_succ_cons, List.drop_zero, List.take_succ_cons, List.take_zero, List.reverse_cons, List.reverse_nil, List.nil_append, List.cons_append, List.length_cons, List.length_nil, cond_true, cond_false, and_true, true_and, Nat.zero_add, Nat.add_zero, Nat.reduceAdd, Nat.reduceLT, Nat.reduceLeDiff, Nat.reduceEqDiff, Nat.reduceBEq, Nat.reduceSub, ↓reduceIte, Int32.reduceOfNat, Int64.reduceOfNat, reduceCtorEq, Nat.le_refl, Nat.zero_le, Bool.false_eq_true, beq_self_eq_true, Fin.isValue, Fin.val_zero, Fin.val_one, Fin.reduceFinMk, Fin.val_two, Nat.reduceMod, Bool.or_false, Bool.or_true, Bool.true_or, Bool.false_or, not_true_eq_false, not_false_eq_true, true_or, or_true, implies_true, false_implies, true_implies, Int32.reduceLT, Int32.reduceLE, ↓w_TAB3, ↓w_TAB4, ↓w_TAB5, ↓w_TAB7, ↓w_TAB10, ↓w_LK2, ↓w_LK6, false_and, and_false, i1z, i2z, iz1, im0, im1, l0z, cVal, cLen, cs, e2, e10, hk, q]
    refine ⟨hvp, and_ii (fun q2 => absurd q2 (by decide)) (fun _ => ?_)⟩
    refine c_add h hB (by omega) hbyte hw (fun M' h' => ⟨rfl, ?_⟩)
    refine r_X6_writeLength (fun n => n == 24 || n == 50) 60 ?_
    simp only [cd_X6_writeLength, cf_X6_writeLength, wp, wq, wpI, cdF, w_CI, w_CL, w_CN, w_LI, w_LL, w_LA, w_SI, w_SL, w_SA, w_INC, w_II, w_IId, w_LLb, w_LLd, w_LS, w_I1, w_L1, w_I2L, w_L2I, w_CMP, w_DUP, w_POP, w_DUP2, w_IF, w_IC, w_GO, w_NUL, w_ACN, prs, w_GF, w_PF, w_GS, w_IAL, w_LEN, w_LAL, w_ZAL, w_AAL, w_IAS, w_LAS, w_ZAS, w_AAS, w_RI, w_RL, w_RA, w_NEW, w_NA, w_MNA, w_OI, w_THR, w_CV, w_CS, w_CN9, w_CI9, w_MX, w_cont, lget, sto1, sto2, wideV, vo, vo_rv, isR, isR_rv, rv, fget, fput, cats, Value.category, List.headD_cons, List.getD_cons_zero, List.getD_cons_succ, List.drop_succ_cons, List.drop_zero, List.take_succ_cons, List.take_zero, List.reverse_cons, List.reverse_nil, List.nil_append, List.cons_append, List.length_cons, List.length_nil, cond_true, cond_false, and_true, true_and, Nat.zero_add, Nat.add_zero, Nat.reduceAdd, Nat.reduceLT, Nat.reduceLeDiff, Nat.reduceEqDiff, Nat.reduceBEq, Nat.reduceSub, ↓reduceIte, Int32.reduceOfNat, Int64.reduceOfNat, reduceCtorEq, Nat.le_refl, Nat.zero_le, Bool.false_eq_true, beq_self_eq_true, Fin.isValue, Fin.val_zero, Fin.val_one, Fin.reduceFinMk, Fin.val_two, Nat.reduceMod, Bool.or_false, Bool.or_true, Bool.true_or, Bool.false_or, not_true_eq_false, not_false_eq_true, true_or, or_true, implies_true, false_implies, true_implies, Int32.reduceLT, Int32.reduceLE, ↓w_TAB3, ↓w_TAB4, ↓w_TAB5, ↓w_TAB7, ↓w_TAB10, ↓w_LK2, ↓w_LK6, false_and, and_false, i1z, i2z, iz1, im0, im1, l0z]
    exact hQ M' (by simpa using h')
  · rw [q] at hQ ⊢
    refine and_ii (fun q2 => absurd q2 (by decide)) (fun _ => ?_)
    refine c_add (v := n / 100) h hB (by omega) (by omega) d100 (fun M' h' => ⟨rfl, ?_⟩)
    have hk' : hasK M' d (.inr 3) := by rw [h'.hk]; exact hB.1
    refine r_X6_writeLength (fun n => n == 24 || n == 50) 60 ?_
    simp only [cd_X6_writeLength, cf_X6_writeLength, wp, wq, wpI, cdF, w_CI, w_CL, w_CN, w_LI, w_LL, w_LA, w_SI, w_SL, w_SA, w_INC, w_II, w_IId, w_LLb, w_LLd, w_LS, w_I1, w_L1, w_I2L, w_L2I, w_CMP, w_DUP, w_POP, w_DUP2, w_IF, w_IC, w_GO, w_NUL, w_ACN, prs, w_GF, w_PF, w_GS, w_IAL, w_LEN, w_LAL, w_ZAL, w_AAL, w_IAS, w_LAS, w_ZAS, w_AAS, w_RI, w_RL, w_RA, w_NEW, w_NA, w_MNA, w_OI, w_THR, w_CV, w_CS, w_CN9, w_CI9, w_MX, w_cont, lget, sto1, sto2, wideV, vo, vo_rv, isR, isR_rv, rv, fget, fput, cats, Value.category, List.headD_cons, List.getD_cons_zero, List.getD_cons_succ, List.drop_succ_cons, List.drop_zero, List.take_succ_cons, List.take_zero, List.reverse_cons, List.reverse_nil, List.nil_append, List.cons_append, List.length_cons, List.length_nil, cond_true, cond_false, and_true, true_and, Nat.zero_add, Nat.add_zero, Nat.reduceAdd, Nat.reduceLT, Nat.reduceLeDiff, Nat.reduceEqDiff, Nat.reduceBEq, Nat.reduceSub, ↓reduceIte, Int32.reduceOfNat, Int64.reduceOfNat, reduceCtorEq, Nat.le_refl, Nat.zero_le, Bool.false_eq_true, beq_self_eq_true, Fin.isValue, Fin.val_zero, Fin.val_one, Fin.reduceFinMk, Fin.val_two, Nat.reduceMod, Bool.or_false, Bool.or_true, Bool.true_or, Bool.false_or, not_true_eq_false, not_false_eq_true, true_or, or_true, implies_true, false_implies, true_implies, Int32.reduceLT, Int32.reduceLE, ↓w_TAB3, ↓w_TAB4, ↓w_TAB5, ↓w_TAB7, ↓w_TAB10, ↓w_LK2, ↓w_LK6, false_and, and_false, i1z, i2z, iz1, im0, im1, l0z, cVal, cLen, cs, e2, e10, hk', q]
    refine ⟨hvp, and_ii (fun q2 => absurd q2 (by decide)) (fun _ => ?_)⟩
    refine c_add h' hB (by simp; omega) hbyte hw (fun M2 h2 => ⟨rfl, ?_⟩)
    refine r_X6_writeLength (fun n => n == 24 || n == 50) 60 ?_
    simp only [cd_X6_writeLength, cf_X6_writeLength, wp, wq, wpI, cdF, w_CI, w_CL, w_CN, w_LI, w_LL, w_LA, w_SI, w_SL, w_SA, w_INC, w_II, w_IId, w_LLb, w_LLd, w_LS, w_I1, w_L1, w_I2L, w_L2I, w_CMP, w_DUP, w_POP, w_DUP2, w_IF, w_IC, w_GO, w_NUL, w_ACN, prs, w_GF, w_PF, w_GS, w_IAL, w_LEN, w_LAL, w_ZAL, w_AAL, w_IAS, w_LAS, w_ZAS, w_AAS, w_RI, w_RL, w_RA, w_NEW, w_NA, w_MNA, w_OI, w_THR, w_CV, w_CS, w_CN9, w_CI9, w_MX, w_cont, lget, sto1, sto2, wideV, vo, vo_rv, isR, isR_rv, rv, fget, fput, cats, Value.category, List.headD_cons, List.getD_cons_zero, List.getD_cons_succ, List.drop_succ_cons, List.drop_zero, List.take_succ_cons, List.take_zero, List.reverse_cons, List.reverse_nil, List.nil_append, List.cons_append, List.length_cons, List.length_nil, cond_true, cond_false, and_true, true_and, Nat.zero_add, Nat.add_zero, Nat.reduceAdd, Nat.reduceLT, Nat.reduceLeDiff, Nat.reduceEqDiff, Nat.reduceBEq, Nat.reduceSub, ↓reduceIte, Int32.reduceOfNat, Int64.reduceOfNat, reduceCtorEq, Nat.le_refl, Nat.zero_le, Bool.false_eq_true, beq_self_eq_true, Fin.isValue, Fin.val_zero, Fin.val_one, Fin.reduceFinMk, Fin.val_two, Nat.reduceMod, Bool.or_false, Bool.or_true, Bool.true_or, Bool.false_or, not_true_eq_false, not_false_eq_true, true_or, or_true, implies_true, false_implies, true_implies, Int32.reduceLT, Int32.reduceLE, ↓w_TAB3, ↓w_TAB4, ↓w_TAB5, ↓w_TAB7, ↓w_TAB10, ↓w_LK2, ↓w_LK6, false_and, and_false, i1z, i2z, iz1, im0, im1, l0z]
    exact hQ M2 (by simpa using h2)
theorem hf_at {i : Nat} : hf n f (i + n % 2) = f i := by
  unfold hf
  split
  · rename_i q
    rw [q, if_neg (by omega)]
    rfl
  · rw [show n % 2 = 0 by omega]
    rfl
theorem lp_writeSigns (hB : BY M0 d (d + 1) N) (hs : s < 16) (hn42 : n ≤ 42) (hms : MS M0 a) (hda : d + 1 < a ∨ a + 18 < d) (hsg : ∀ i, i < n → mI M0 (a + 3 + s) i = nI (f i)) (hfb : ∀ i, i < n → f i < (if ltF s then 36 else 10)) (hl : xs.length + n ≤ N) (hQ : ∀ M', bW M0 d (xs ++ (if ltF s then ltL f n else pk n f ((n + 1) / 2))) M' → Q none M') : ∀ (m i : Nat), m + i = n → ∀ (M : Mem) (h : Int32), bW M0 d (xs ++ (if ltF s then ltL f i else pk n f ((i + n % 2) / 2))) M → (ltF s = false → (i + n % 2) % 2 = 1 → h = nI (hf n f (i + n % 2 - 1))) → Go G (MT 77) Q X 27 [some (.ref a), some (.int (nI s)), some (.ref d), some (.int (nI n)), some (.int (nI (if ltF s then n % 2 else (i + n % 2) % 2))), some (.int h), some (.int (nI i)), none] [] M 0 0 := by
  intro m
  induction m with
  | zero =>
    intro i hi M h hM hh
    have hi : i = n := by omega
    subst hi
    refine r_X6_writeSigns (fun n => n == 27 || n == 48 || n == 78 || n == 97) 40 ?_
    simp only [cd_X6_writeSigns, cf_X6_writeSigns, wp, wq, wpI, cdF, w_CI, w_CL, w_CN, w_LI, w_LL, w_LA, w_SI, w_SL, w_SA, w_INC, w_II, w_IId, w_LLb, w_LLd, w_LS, w_I1, w_L1, w_I2L, w_L2I, w_CMP, w_DUP, w_POP, w_DUP2, w_IF, w_IC, w_GO, w_NUL, w_ACN, prs, w_GF, w_PF, w_GS, w_IAL, w_LEN, w_LAL, w_ZAL, w_AAL, w_IAS, w_LAS, w_ZAS, w_AAS, w_RI, w_RL, w_RA, w_NEW, w_NA, w_MNA, w_OI, w_THR, w_CV, w_CS, w_CN9, w_CI9, w_MX, w_cont, lget, sto1, sto2, wideV, vo, vo_rv, isR, isR_rv, rv, fget, fput, cats, Value.category, List.headD_cons, List.getD_cons_zero, List.getD_cons_succ, List.drop_succ_cons, List.drop_zero, List.take_succ_cons, List.take_zero, List.reverse_cons, List.reverse_nil, List.nil_append, List.cons_append, List.length_cons, List.length_nil, cond_true, cond_false, and_true, true_and, Nat.zero_add, Nat.add_zero, Nat.reduceAdd, Nat.reduceLT, Nat.reduceLeDiff, Nat.reduceEqDiff, Nat.reduceBEq, Nat.reduceSub, ↓reduceIte, Int32.reduceOfNat, Int64.reduceOfNat, reduceCtorEq, Nat.le_refl, Nat.zero_le, Bool.false_eq_true, beq_self_eq_true, Fin.isValue, Fin.val_zero, Fin.val_one, Fin.reduceFinMk, Fin.val_two, Nat.reduceMod, Bool.or_false, Bool.or_true, Bool.true_or, Bool.false_or, not_true_eq_false, not_false_eq_true, true_or, or_true, implies_true, false_implies, true_implies, Int32.reduceLT, Int32.reduceLE, ↓w_TAB3, ↓w_TAB4, ↓w_TAB5, ↓w_TAB7, ↓w_TAB10, ↓w_LK2, ↓w_LK6, false_and, and_false, i1z, i2z, iz1, im0, im1, l0z]
    refine ⟨fun _ => hQ M ?_, fun q => absurd (nI_le (Nat.le_refl i) (by omega)) q⟩
    rw [show (i + 1) / 2 = (i + i % 2) / 2 by omega]
    exact hM
  | succ m ih =>
    intro i hi M h hM hh
    have hin : i < n := by omega
    have ti := nI_toInt (n := i) (by omega)
    have tn := nI_toInt (n := n) (by omega)
    have ci := nI_clamp (n := i) (by omega)
    have cs := nI_clamp (n := s) (by omega)
    have hk : hasK M d (.inr 3) := by rw [hM.hk]; exact hB.1
    have hms' := hM.ms hms
    have hv : mI M (a + 3 + s) i = nI (f i) := by rw [hM.i (by omega)]; exact hsg i hin
    have hfi := hfb i hin
    have ts := nI_toInt (n := f i) (by split at hfi <;> omega)
    refine r_X6_writeSigns (fun n => n == 27 || n == 48 || n == 78 || n == 97) 60 ?_
    simp only [cd_X6_writeSigns, cf_X6_writeSigns, wp, wq, wpI, cdF, w_CI, w_CL, w_CN, w_LI, w_LL, w_LA, w_SI, w_SL, w_SA, w_INC, w_II, w_IId, w_LLb, w_LLd, w_LS, w_I1, w_L1, w_I2L, w_L2I, w_CMP, w_DUP, w_POP, w_DUP2, w_IF, w_IC, w_GO, w_NUL, w_ACN, prs, w_GF, w_PF, w_GS, w_IAL, w_LEN, w_LAL, w_ZAL, w_AAL, w_IAS, w_LAS, w_ZAS, w_AAS, w_RI, w_RL, w_RA, w_NEW, w_NA, w_MNA, w_OI, w_THR, w_CV, w_CS, w_CN9, w_CI9, w_MX, w_cont, lget, sto1, sto2, wideV, vo, vo_rv, isR, isR_rv, rv, fget, fput, cats, Value.category, List.headD_cons, List.getD_cons_zero, List.getD_cons_succ, List.drop_succ_cons, List.drop_zero, List.take_succ_cons, List.take_zero, List.reverse_cons, List.reverse_nil, List.nil_append, List.cons_append, List.length_cons, List.length_nil, cond_true, cond_false, and_true, true_and, Nat.zero_add, Nat.add_zero, Nat.reduceAdd, Nat.reduceLT, Nat.reduceLeDiff, Nat.reduceEqDiff, Nat.reduceBEq, Nat.reduceSub, ↓reduceIte, Int32.reduceOfNat, Int64.reduceOfNat, reduceCtorEq, Nat.le_refl, Nat.zero_le, Bool.false_eq_true, beq_self_eq_true, Fin.isValue, Fin.val_zero, Fin.val_one, Fin.reduceFinMk, Fin.val_two, Nat.reduceMod, Bool.or_false, Bool.or_true, Bool.true_or, Bool.false_or, not_true_eq_false, not_false_eq_true, true_or, or_true, implies_true, false_implies, true_implies, Int32.reduceLT, Int32.reduceLE, ↓w_TAB3, ↓w_TAB4, ↓w_TAB5, ↓w_TAB7, ↓w_TAB10, ↓w_LK2, ↓w_LK6, false_and, and_false, i1z, i2z, iz1, im0, im1, l0z, hms'.1, hms'.2.2.1, cs, ci, hms'.2.2.2.2.2.1 s hs, hv]
    refine and_ii (fun q => ?_) (fun _ => ⟨_, _, ⟨hms'.2.2.2.2.1, rfl⟩, vp_in_nI hs (by omega), _, hms'.2.2.2.2.2.2 s hs, vp_in_nI (by omega) (by omega), ?_⟩)
    · exfalso; (simp only [i_lt, i_le, i_eq, l_lt, l_le, l_eq, Int32.toInt_toInt64, Int32.reduceToInt, Int64.reduceToInt, ne_eq, Classical.not_not] at *; omega)
    · refine c_isLettered hs ⟨_, rfl, ?_⟩
      by_cases q : ltF s = true
      · rw [b2i_t q]
        rw [if_pos q] at hfi
        simp only [q, if_true] at *
        have ih' := ih (i + 1) (by omega)
        rw [ltL_succ] at ih'
        refine r_X6_writeSigns (fun n => n == 27 || n == 48 || n == 78 || n == 97) 60 ?_
        simp only [cd_X6_writeSigns, cf_X6_writeSigns, wp, wq, wpI, cdF, w_CI, w_CL, w_CN, w_LI, w_LL, w_LA, w_SI, w_SL, w_SA, w_INC, w_II, w_IId, w_LLb, w_LLd, w_LS, w_I1, w_L1, w_I2L, w_L2I, w_CMP, w_DUP, w_POP, w_DUP2, w_IF, w_IC, w_GO, w_NUL, w_ACN, prs, w_GF, w_PF, w_GS, w_IAL, w_LEN, w_LAL, w_ZAL, w_AAL, w_IAS, w_LAS, w_ZAS, w_AAS, w_RI, w_RL, w_RA, w_NEW, w_NA, w_MNA, w_OI, w_THR, w_CV, w_CS, w_CN9, w_CI9, w_MX, w_cont, lget, sto1, sto2, wideV, vo, vo_rv, isR, isR_rv, rv, fget, fput, cats, Value.category, List.headD_cons, List.getD_cons_zero, List.getD_cons_succ, List.drop_succ_cons, List.drop_zero, List.take_succ_cons, List.take_zero, List.reverse_cons, List.reverse_nil, List.nil_append, List.cons_append, List.length_cons, List.length_nil, cond_true, cond_false, and_true, true_and, Nat.zero_add, Nat.add_zero, Nat.reduceAdd, Nat.reduceLT, Nat.reduceLeDiff, Nat.reduceEqDiff, Nat.reduceBEq, Nat.reduceSub, ↓reduceIte, Int32.reduceOfNat, Int64.reduceOfNat, reduceCtorEq, Nat.le_refl, Nat.zero_le, Bool.false_eq_true, beq_self_eq_true, Fin.isValue, Fin.val_zero, Fin.val_one, Fin.reduceFinMk, Fin.val_two, Nat.reduceMod, Bool.or_false, Bool.or_true, Bool.true_or, Bool.false_or, not_true_eq_false, not_false_eq_true, true_or, or_true, implies_true, false_implies, true_implies, Int32.reduceLT, Int32.reduceLE, ↓w_TAB3, ↓w_TAB4, ↓w_TAB5, ↓w_TAB7, ↓w_TAB10, ↓w_LK2, ↓w_LK6, false_and, and_false, i1z, i2z, iz1, im0, im1, l0z, hk]
        have hlt : xs.length + (ltL f i).length < N := by rw [ltL_len]; omega
        refine and_ii (fun q2 => ?_) (fun q2 => ?_)
        · have hb : ¬ f i < 10 := by (simp only [i_lt, i_le, i_eq, l_lt, l_le, l_eq, Int32.toInt_toInt64, Int32.reduceToInt, Int64.reduceToInt, ne_eq, Classical.not_not] at *; omega)
          have ey : (65 : Int32) + nI (f i) - 10 = nI (ltB (f i)) := by
            unfold ltB
            rw [if_neg hb, show (65 : Int32) = nI 65 from rfl, nI_add, i_eq, nI_toInt (by omega), i_sub] <;> rw [nI_toInt (by omega)] <;> simp <;> omega
          refine c_add hM hB (by rw [List.length_append]; exact hlt) (v := ltB (f i)) (by unfold ltB; split <;> omega) ey (fun M' h' => ⟨rfl, ?_⟩)
          refine r_X6_writeSigns (fun n => n == 27 || n == 48 || n == 78 || n == 97) 60 ?_
          simp only [cd_X6_writeSigns, cf_X6_writeSigns, wp, wq, wpI, cdF, w_CI, w_CL, w_CN, w_LI, w_LL, w_LA, w_SI, w_SL, w_SA, w_INC, w_II, w_IId, w_LLb, w_LLd, w_LS, w_I1, w_L1, w_I2L, w_L2I, w_CMP, w_DUP, w_POP, w_DUP2, w_IF, w_IC, w_GO, w_NUL, w_ACN, prs, w_GF, w_PF, w_GS, w_IAL, w_LEN, w_LAL, w_ZAL, w_AAL, w_IAS, w_LAS, w_ZAS, w_AAS, w_RI, w_RL, w_RA, w_NEW, w_NA, w_MNA, w_OI, w_THR, w_CV, w_CS, w_CN9, w_CI9, w_MX, w_cont, lget, sto1, sto2, wideV, vo, vo_rv, isR, isR_rv, rv, fget, fput, cats, Value.category, List.headD_cons, List.getD_cons_zero, List.getD_cons_succ, List.drop_succ_cons, List.drop_zero, List.take_succ_cons, List.take_zero, List.reverse_cons, List.reverse_nil, List.nil_append, List.cons_append, List.length_cons, List.length_nil, cond_true, cond_false, and_true, true_and, Nat.zero_add, Nat.add_zero, Nat.reduceAdd, Nat.reduceLT, Nat.reduceLeDiff, Nat.reduceEqDiff, Nat.reduceBEq, Nat.reduceSub, ↓reduceIte, Int32.reduceOfNat, Int64.reduceOfNat, reduceCtorEq, Nat.le_refl, Nat.zero_le, Bool.false_eq_true, beq_self_eq_true, Fin.isValue, Fin.val_zero, Fin.val_one, Fin.reduceFinMk, Fin.val_two, Nat.reduceMod, Bool.or_false, Bool.or_true, Bool.true_or, Bool.false_or, not_true_eq_false, not_false_eq_true, true_or, or_true, implies_true, false_implies, true_implies, Int32.reduceLT, Int32.reduceLE, ↓w_TAB3, ↓w_TAB4, ↓w_TAB5, ↓w_TAB7, ↓w_TAB10, ↓w_LK2, ↓w_LK6, false_and, and_false, i1z, i2z, iz1, im0, im1, l0z, nI_1]
          refine Go.less (ih' M' h (by rw [← List.append_assoc]; exact h') ?_) (fun i v h => ?_)
          · first | trivial | (intro q3; cases q3) | simp
          · rcases i with _ | _ | _ | _ | _ | _ | _ | _ | i <;> simp at h ⊢ <;> exact h
        · have hb : f i < 10 := by (simp only [i_lt, i_le, i_eq, l_lt, l_le, l_eq, Int32.toInt_toInt64, Int32.reduceToInt, Int64.reduceToInt, ne_eq, Classical.not_not] at *; omega)
          have ey : (48 : Int32) + nI (f i) = nI (ltB (f i)) := by
            unfold ltB
            rw [if_pos hb, show (48 : Int32) = nI 48 from rfl, nI_add]
          refine c_add hM hB (by rw [List.length_append]; exact hlt) (v := ltB (f i)) (by unfold ltB; split <;> omega) ey (fun M' h' => ⟨rfl, ?_⟩)
          refine r_X6_writeSigns (fun n => n == 27 || n == 48 || n == 78 || n == 97) 60 ?_
          simp only [cd_X6_writeSigns, cf_X6_writeSigns, wp, wq, wpI, cdF, w_CI, w_CL, w_CN, w_LI, w_LL, w_LA, w_SI, w_SL, w_SA, w_INC, w_II, w_IId, w_LLb, w_LLd, w_LS, w_I1, w_L1, w_I2L, w_L2I, w_CMP, w_DUP, w_POP, w_DUP2, w_IF, w_IC, w_GO, w_NUL, w_ACN, prs, w_GF, w_PF, w_GS, w_IAL, w_LEN, w_LAL, w_ZAL, w_AAL, w_IAS, w_LAS, w_ZAS, w_AAS, w_RI, w_RL, w_RA, w_NEW, w_NA, w_MNA, w_OI, w_THR, w_CV, w_CS, w_CN9, w_CI9, w_MX, w_cont, lget, sto1, sto2, wideV, vo, vo_rv, isR, isR_rv, rv, fget, fput, cats, Value.category, List.headD_cons, List.getD_cons_zero, List.getD_cons_succ, List.drop_succ_cons, List.drop_zero, List.take_succ_cons, List.take_zero, List.reverse_cons, List.reverse_nil, List.nil_append, List.cons_append, List.length_cons, List.length_nil, cond_true, cond_false, and_true, true_and, Nat.zero_add, Nat.add_zero, Nat.reduceAdd, Nat.reduceLT, Nat.reduceLeDiff, Nat.reduceEqDiff, Nat.reduceBEq, Nat.reduceSub, ↓reduceIte, Int32.reduceOfNat, Int64.reduceOfNat, reduceCtorEq, Nat.le_refl, Nat.zero_le, Bool.false_eq_true, beq_self_eq_true, Fin.isValue, Fin.val_zero, Fin.val_one, Fin.reduceFinMk, Fin.val_two, Nat.reduceMod, Bool.or_false, Bool.or_true, Bool.true_or, Bool.false_or, not_true_eq_false, not_false_eq_true, true_or, or_true, implies_true, false_implies, true_implies, Int32.reduceLT, Int32.reduceLE, ↓w_TAB3, ↓w_TAB4, ↓w_TAB5, ↓w_TAB7, ↓w_TAB10, ↓w_LK2, ↓w_LK6, false_and, and_false, i1z, i2z, iz1, im0, im1, l0z, nI_1]
          refine Go.less (ih' M' h (by rw [← List.append_assoc]; exact h') ?_) (fun i v h => ?_)
          · first | trivial | (intro q3; cases q3) | simp
          · rcases i with _ | _ | _ | _ | _ | _ | _ | _ | i <;> simp at h ⊢ <;> exact h
      · have q' : ltF s = false := by simpa using q
        rw [b2i_f q]
        rw [if_neg q] at hfi
        simp only [q', Bool.false_eq_true, if_false] at *
        have ih' := ih (i + 1) (by omega)
        have hat := hf_at (n := n) (f := f) (i := i)
        rcases (show (i + n % 2) % 2 = 0 ∨ (i + n % 2) % 2 = 1 by omega) with e | e
        · rw [e]
          refine r_X6_writeSigns (fun n => n == 27 || n == 48 || n == 78 || n == 97) 60 ?_
          simp only [cd_X6_writeSigns, cf_X6_writeSigns, wp, wq, wpI, cdF, w_CI, w_CL, w_CN, w_LI, w_LL, w_LA, w_SI, w_SL, w_SA, w_INC, w_II, w_IId, w_LLb, w_LLd, w_LS, w_I1, w_L1, w_I2L, w_L2I, w_CMP, w_DUP, w_POP, w_DUP2, w_IF, w_IC, w_GO, w_NUL, w_ACN, prs, w_GF, w_PF, w_GS, w_IAL, w_LEN, w_LAL, w_ZAL, w_AAL, w_IAS, w_LAS, w_ZAS, w_AAS, w_RI, w_RL, w_RA, w_NEW, w_NA, w_MNA, w_OI, w_THR, w_CV, w_CS, w_CN9, w_CI9, w_MX, w_cont, lget, sto1, sto2, wideV, vo, vo_rv, isR, isR_rv, rv, fget, fput, cats, Value.category, List.headD_cons, List.getD_cons_zero, List.getD_cons_succ, List.drop_succ_cons, List.drop_zero, List.take_succ_cons, List.take_zero, List.reverse_cons, List.reverse_nil, List.nil_append, List.cons_append, List.length_cons, List.length_nil, cond_true, cond_false, and_true, true_and, Nat.zero_add, Nat.add_zero, Nat.reduceAdd, Nat.reduceLT, Nat.reduceLeDiff, Nat.reduceEqDiff, Nat.reduceBEq, Nat.reduceSub, ↓reduceIte, Int32.reduceOfNat, Int64.reduceOfNat, reduceCtorEq, Nat.le_refl, Nat.zero_le, Bool.false_eq_true, beq_self_eq_true, Fin.isValue, Fin.val_zero, Fin.val_one, Fin.reduceFinMk, Fin.val_two, Nat.reduceMod, Bool.or_false, Bool.or_true, Bool.true_or, Bool.false_or, not_true_eq_false, not_false_eq_true, true_or, or_true, implies_true, false_implies, true_implies, Int32.reduceLT, Int32.reduceLE, ↓w_TAB3, ↓w_TAB4, ↓w_TAB5, ↓w_TAB7, ↓w_TAB10, ↓w_LK2, ↓w_LK6, false_and, and_false, i1z, i2z, iz1, im0, im1, l0z, nI_1, show nI 0 = (0 : Int32) from rfl]
          rw [show (i + 1 + n % 2) / 2 = (i + n % 2) / 2 by omega, show (i + 1 + n % 2) % 2 = 1 by omega] at ih'
          refine Go.less (ih' M (nI (f i)) hM (fun _ _ => ?_)) (fun i v h => ?_)
          · rw [show i + 1 + n % 2 - 1 = i + n % 2 by omega, hat]
          · rcases i with _ | _ | _ | _ | _ | _ | _ | _ | i <;> simp at h ⊢ <;> exact h
        · rw [e]
          have hh := hh trivial e
          have hpk : (pk n f ((i + n % 2) / 2)).length = (i + n % 2) / 2 := pk_len _ _ _
          have h1 : hf n f (i + n % 2 - 1) < 10 := hf_lt (b := 10) hfb (by omega) (by omega)
          refine r_X6_writeSigns (fun n => n == 27 || n == 48 || n == 78 || n == 97) 60 ?_
          simp only [cd_X6_writeSigns, cf_X6_writeSigns, wp, wq, wpI, cdF, w_CI, w_CL, w_CN, w_LI, w_LL, w_LA, w_SI, w_SL, w_SA, w_INC, w_II, w_IId, w_LLb, w_LLd, w_LS, w_I1, w_L1, w_I2L, w_L2I, w_CMP, w_DUP, w_POP, w_DUP2, w_IF, w_IC, w_GO, w_NUL, w_ACN, prs, w_GF, w_PF, w_GS, w_IAL, w_LEN, w_LAL, w_ZAL, w_AAL, w_IAS, w_LAS, w_ZAS, w_AAS, w_RI, w_RL, w_RA, w_NEW, w_NA, w_MNA, w_OI, w_THR, w_CV, w_CS, w_CN9, w_CI9, w_MX, w_cont, lget, sto1, sto2, wideV, vo, vo_rv, isR, isR_rv, rv, fget, fput, cats, Value.category, List.headD_cons, List.getD_cons_zero, List.getD_cons_succ, List.drop_succ_cons, List.drop_zero, List.take_succ_cons, List.take_zero, List.reverse_cons, List.reverse_nil, List.nil_append, List.cons_append, List.length_cons, List.length_nil, cond_true, cond_false, and_true, true_and, Nat.zero_add, Nat.add_zero, Nat.reduceAdd, Nat.reduceLT, Nat.reduceLeDiff, Nat.reduceEqDiff, Nat.reduceBEq, Nat.reduceSub, ↓reduceIte, Int32.reduceOfNat, Int64.reduceOfNat, reduceCtorEq, Nat.le_refl, Nat.zero_le, Bool.false_eq_true, beq_self_eq_true, Fin.isValue, Fin.val_zero, Fin.val_one, Fin.reduceFinMk, Fin.val_two, Nat.reduceMod, Bool.or_false, Bool.or_true, Bool.true_or, Bool.false_or, not_true_eq_false, not_false_eq_true, true_or, or_true, implies_true, false_implies, true_implies, Int32.reduceLT, Int32.reduceLE, ↓w_TAB3, ↓w_TAB4, ↓w_TAB5, ↓w_TAB7, ↓w_TAB10, ↓w_LK2, ↓w_LK6, false_and, and_false, i1z, i2z, iz1, im0, im1, l0z, nI_1, show nI 1 = (1 : Int32) from rfl, hk]
          refine c_add hM hB (by rw [List.length_append, hpk]; omega) (v := 16 * hf n f (i + n % 2 - 1) + f i) (by omega) (by rw [hh]; exact nib_o (by omega) (by omega)) (fun M' h' => ⟨rfl, ?_⟩)
          refine r_X6_writeSigns (fun n => n == 27 || n == 48 || n == 78 || n == 97) 60 ?_
          simp only [cd_X6_writeSigns, cf_X6_writeSigns, wp, wq, wpI, cdF, w_CI, w_CL, w_CN, w_LI, w_LL, w_LA, w_SI, w_SL, w_SA, w_INC, w_II, w_IId, w_LLb, w_LLd, w_LS, w_I1, w_L1, w_I2L, w_L2I, w_CMP, w_DUP, w_POP, w_DUP2, w_IF, w_IC, w_GO, w_NUL, w_ACN, prs, w_GF, w_PF, w_GS, w_IAL, w_LEN, w_LAL, w_ZAL, w_AAL, w_IAS, w_LAS, w_ZAS, w_AAS, w_RI, w_RL, w_RA, w_NEW, w_NA, w_MNA, w_OI, w_THR, w_CV, w_CS, w_CN9, w_CI9, w_MX, w_cont, lget, sto1, sto2, wideV, vo, vo_rv, isR, isR_rv, rv, fget, fput, cats, Value.category, List.headD_cons, List.getD_cons_zero, List.getD_cons_succ, List.drop_succ_cons, List.drop_zero, List.take_succ_cons, List.take_zero, List.reverse_cons, List.reverse_nil, List.nil_append, List.cons_append, List.length_cons, List.length_nil, cond_true, cond_false, and_true, true_and, Nat.zero_add, Nat.add_zero, Nat.reduceAdd, Nat.reduceLT, Nat.reduceLeDiff, Nat.reduceEqDiff, Nat.reduceBEq, Nat.reduceSub, ↓reduceIte, Int32.reduceOfNat, Int64.reduceOfNat, reduceCtorEq, Nat.le_refl, Nat.zero_le, Bool.false_eq_true, beq_self_eq_true, Fin.isValue, Fin.val_zero, Fin.val_one, Fin.reduceFinMk, Fin.val_two, Nat.reduceMod, Bool.or_false, Bool.or_true, Bool.true_or, Bool.false_or, not_true_eq_false, not_false_eq_true, true_or, or_true, implies_true, false_implies, true_implies, Int32.reduceLT, Int32.reduceLE, ↓w_TAB3, ↓w_TAB4, ↓w_TAB5, ↓w_TAB7, ↓w_TAB10, ↓w_LK2, ↓w_LK6, false_and, and_false, i1z, i2z, iz1, im0, im1, l0z, nI_1]
          rw [show (i + 1 + n % 2) / 2 = (i + n % 2) / 2 + 1 by omega, show (i + 1 + n % 2) % 2 = 0 by omega, pk_succ, show 2 * ((i + n % 2) / 2) = i + n % 2 - 1 by omega, show i + n % 2 - 1 + 1 = i + n % 2 by omega, hat] at ih'
          refine Go.less (ih' M' h (by rw [← List.append_assoc]; exact h') (fun _ q3 => absurd q3 (by omega))) (fun i v h => ?_)
          rcases i with _ | _ | _ | _ | _ | _ | _ | _ | i <;> simp at h ⊢ <;> exact h
theorem c_writeSigns {y : Int32} (h : bW M0 d xs M) (hB : BY M0 d (d + 1) N) (hms : MS M0 a) (hda : d + 1 < a ∨ a + 18 < d) (hs : s < 16) (hn : mI M (a + 1) s = nI n) (hn42 : n ≤ 42) (hsg : ∀ i, i < n → mI M0 (a + 3 + s) i = nI (f i)) (hfb : ∀ i, i < n → f i < (if ltF s then 36 else 10)) (hy : y = nI s) (hl : xs.length + n ≤ N) (hQ : ∀ M', bW M0 d (xs ++ (if ltF s then ltL f n else pk n f ((n + 1) / 2))) M' → Q none M') : Ct G (MT 77) [.ref a, .int y, .ref d] M Q X := by
  subst hy
  have cs := nI_clamp (n := s) (by omega)
  have hms' := h.ms hms
  have e2 : ((2 : Int32) = 0) = False := i2z
  have hr := nI_rem (a := n) (b := 2) (by omega) (by omega) (by omega)
  rw [show nI 2 = (2 : Int32) from rfl] at hr
  refine Ct.go (L0 := [some (.ref a), some (.int (nI s)), some (.ref d), none, none, none, none, none]) (by decide +kernel) rfl rfl ?_
  refine r_X6_writeSigns (fun n => n == 27 || n == 48 || n == 78 || n == 97) 60 ?_
  simp only [cd_X6_writeSigns, cf_X6_writeSigns, wp, wq, wpI, cdF, w_CI, w_CL, w_CN, w_LI, w_LL, w_LA, w_SI, w_SL, w_SA, w_INC, w_II, w_IId, w_LLb, w_LLd, w_LS, w_I1, w_L1, w_I2L, w_L2I, w_CMP, w_DUP, w_POP, w_DUP2, w_IF, w_IC, w_GO, w_NUL, w_ACN, prs, w_GF, w_PF, w_GS, w_IAL, w_LEN, w_LAL, w_ZAL, w_AAL, w_IAS, w_LAS, w_ZAS, w_AAS, w_RI, w_RL, w_RA, w_NEW, w_NA, w_MNA, w_OI, w_THR, w_CV, w_CS, w_CN9, w_CI9, w_MX, w_cont, lget, sto1, sto2, wideV, vo, vo_rv, isR, isR_rv, rv, fget, fput, cats, Value.category, List.headD_cons, List.getD_cons_zero, List.getD_cons_succ, List.drop_succ_cons, List.drop_zero, List.take_succ_cons, List.take_zero, List.reverse_cons, List.reverse_nil, List.nil_append, List.cons_append, List.length_cons, List.length_nil, cond_true, cond_false, and_true, true_and, Nat.zero_add, Nat.add_zero, Nat.reduceAdd, Nat.reduceLT, Nat.reduceLeDiff, Nat.reduceEqDiff, Nat.reduceBEq, Nat.reduceSub, ↓reduceIte, Int32.reduceOfNat, Int64.reduceOfNat, reduceCtorEq, Nat.le_refl, Nat.zero_le, Bool.false_eq_true, beq_self_eq_true, Fin.isValue, Fin.val_zero, Fin.val_one, Fin.reduceFinMk, Fin.val_two, Nat.reduceMod, Bool.or_false, Bool.or_true, Bool.true_or, Bool.false_or, not_true_eq_false, not_false_eq_true, true_or, or_true, implies_true, false_implies, true_implies, Int32.reduceLT, Int32.reduceLE, ↓w_TAB3, ↓w_TAB4, ↓w_TAB5, ↓w_TAB7, ↓w_TAB10, ↓w_LK2, ↓w_LK6, false_and, and_false, i1z, i2z, iz1, im0, im1, l0z, hms'.1, hms'.2.1, cs, hn, hr]
  have hg : Go G (MT 77) Q X 27 [some (.ref a), some (.int (nI s)), some (.ref d), some (.int (nI n)), some (.int (nI (n % 2))), some (.int 0), some (.int 0), none] [] M 0 0 := by
    have := lp_writeSigns (G := G) (X := X) hB hs hn42 hms hda hsg hfb hl hQ n 0 (by omega) M 0 (by
      have e : pk n f ((0 + n % 2) / 2) = [] := by rw [show (0 + n % 2) / 2 = 0 by omega]; rfl
      have e2 : ltL f 0 = [] := rfl
      rw [e, e2]
      simpa using h) (fun _ q => ?_)
    · rw [show (0 + n % 2) % 2 = n % 2 by omega] at this
      have e3 : (if ltF s = true then n % 2 else n % 2) = n % 2 := by split <;> rfl
      rw [e3] at this
      exact this
    · rw [show 0 + n % 2 - 1 = 0 by omega]
      unfold hf
      rw [if_pos (by omega), if_pos rfl]
      rfl
  refine ⟨16, hms'.2.2.2.1, vp_in_nI hs (by omega), and_ii (fun q => ?_) (fun q => ?_)⟩
  · have q0 : n % 2 = 0 := by
      rcases (show n % 2 = 0 ∨ n % 2 = 1 by omega) with e | e
      · exact e
      · rw [e] at q; exact absurd rfl q
    rw [q0] at hg
    exact hg
  · have q0 : n % 2 = 1 := by
      rcases (show n % 2 = 0 ∨ n % 2 = 1 by omega) with e | e
      · rw [e] at q; exact absurd (by decide) q
      · exact e
    rw [q0] at hg
    exact hg
end SE2
