/-! A MESSAGE IS ASKED: the class -/
section MQ
variable {G : En} {M M0 Mz M' : Mem} {Q : Option Value → Mem → Prop} {X : String → Mem → Prop} {S : Sw} {t a b s n N L th ty tr ac k f : Nat} {x y z u : Int32} {w c : Nat → Nat} {o : Nat} {m : Msg} {g g' : Nat → Nat} {p : Py}
theorem lp_section (h : MS M a) (hlen : mI M (a + 1) s = nI L) (hrow : ∀ i, i < L → mI M (a + 3 + s) i = nI (g i)) (h42 : L ≤ 42) (hs : s < 16) (hf : f + n ≤ L) (hg : ∀ i, i < L → g i < 100) (hQ : Q (some (.long (lI (vl (fun i => g (f + i)) n : Nat)))) M) : ∀ (m k : Nat), m + k = n → Go G (MT 71) Q X 6 [some (.ref a), some (.int (nI s)), some (.int (nI f)), some (.int (nI n)), some (.long (lI (vl (fun i => g (f + i)) k : Nat))), none, some (.int (nI (f + k)))] [] M 0 0 := by
  have cs := nI_clamp (n := s) (by omega)
  have efn : nI f + nI n = nI (f + n) := nI_add _ _
  have tfn := nI_toInt (n := f + n) (by omega)
  have tL := nI_toInt (n := L) (by omega)
  have hv := vp_in_nI (n := s) (N := 16) hs (by omega)
  intro m
  induction m with
  | zero =>
    intro k hk
    have hk : k = n := by omega
    subst hk
    refine r_X6_section (fun n => n == 6) 40 ?_
    simp only [cd_X6_section, cf_X6_section, wp, wq, wpI, cdF, w_CI, w_CL, w_CN, w_LI, w_LL, w_LA, w_SI, w_SL, w_SA, w_INC, w_II, w_IId, w_LLb, w_LLd, w_LS, w_I1, w_L1, w_I2L, w_L2I, w_CMP, w_DUP, w_POP, w_DUP2, w_IF, w_IC, w_GO, w_NUL, w_ACN, prs, w_GF, w_PF, w_GS, w_IAL, w_LEN, w_LAL, w_ZAL, w_AAL, w_IAS, w_LAS, w_ZAS, w_AAS, w_RI, w_RL, w_RA, w_NEW, w_NA, w_MNA, w_OI, w_THR, w_CV, w_CS, w_CN9, w_CI9, w_MX, w_cont, lget, sto1, sto2, wideV, vo, vo_rv, isR, isR_rv, rv, fget, fput, cats, Value.category, List.headD_cons, List.getD_cons_zero, List.getD_cons_succ, List.drop_succ_cons, List.drop_zero, List.take_succ_cons, List.take_zero, List.reverse_cons, List.reverse_nil, List.nil_append, List.cons_append, List.length_cons, List.length_nil, cond_true, cond_false, and_true, true_and, Nat.zero_add, Nat.add_zero, Nat.reduceAdd, Nat.reduceLT, Nat.reduceLeDiff, Nat.reduceEqDiff, Nat.reduceBEq, Nat.reduceSub, ↓reduceIte, Int32.reduceOfNat, Int64.reduceOfNat, reduceCtorEq, Nat.le_refl, Nat.zero_le, Bool.false_eq_true, beq_self_eq_true, Fin.isValue, Fin.val_zero, Fin.val_one, Fin.reduceFinMk, Fin.val_two, Nat.reduceMod, Bool.or_false, Bool.or_true, Bool.true_or, Bool.false_or, not_true_eq_false, not_false_eq_true, true_or, or_true, implies_true, false_implies, true_implies, Int32.reduceLT, Int32.reduceLE, ↓w_TAB3, ↓w_TAB4, ↓w_TAB5, ↓w_TAB7, ↓w_TAB10, ↓w_LK2, ↓w_LK6, false_and, and_false, i1z, i2z, iz1, im0, im1, l0z, efn]
    refine ⟨fun _ => ?_, fun q => absurd (nI_le (Nat.le_refl _) (by omega)) q⟩
    try (refine r_X6_section (fun n => n == 6) 40 ?_; simp only [cd_X6_section, cf_X6_section, wp, wq, wpI, cdF, w_CI, w_CL, w_CN, w_LI, w_LL, w_LA, w_SI, w_SL, w_SA, w_INC, w_II, w_IId, w_LLb, w_LLd, w_LS, w_I1, w_L1, w_I2L, w_L2I, w_CMP, w_DUP, w_POP, w_DUP2, w_IF, w_IC, w_GO, w_NUL, w_ACN, prs, w_GF, w_PF, w_GS, w_IAL, w_LEN, w_LAL, w_ZAL, w_AAL, w_IAS, w_LAS, w_ZAS, w_AAS, w_RI, w_RL, w_RA, w_NEW, w_NA, w_MNA, w_OI, w_THR, w_CV, w_CS, w_CN9, w_CI9, w_MX, w_cont, lget, sto1, sto2, wideV, vo, vo_rv, isR, isR_rv, rv, fget, fput, cats, Value.category, List.headD_cons, List.getD_cons_zero, List.getD_cons_succ, List.drop_succ_cons, List.drop_zero, List.take_succ_cons, List.take_zero, List.reverse_cons, List.reverse_nil, List.nil_append, List.cons_append, List.length_cons, List.length_nil, cond_true, cond_false, and_true, true_and, Nat.zero_add, Nat.add_zero, Nat.reduceAdd, Nat.reduceLT, Nat.reduceLeDiff, Nat.reduceEqDiff, Nat.reduceBEq, Nat.reduceSub, ↓reduceIte, Int32.reduceOfNat, Int64.reduceOfNat, reduceCtorEq, Nat.le_refl, Nat.zero_le, Bool.false_eq_true, beq_self_eq_true, Fin.isValue, Fin.val_zero, Fin.val_one, Fin.reduceFinMk, Fin.val_two, Nat.reduceMod, Bool.or_false, Bool.or_true, Bool.true_or, Bool.false_or, not_true_eq_false, not_false_eq_true, true_or, or_true, implies_true, false_implies, true_implies, Int32.reduceLT, Int32.reduceLE, ↓w_TAB3, ↓w_TAB4, ↓w_TAB5, ↓w_TAB7, ↓w_TAB10, ↓w_LK2, ↓w_LK6, false_and, and_false, i1z, i2z, iz1, im0, im1, l0z])
    exact hQ
  | succ m ih =>
    intro k hk
    have tk := nI_toInt (n := f + k) (by omega)
    have ck := nI_clamp (n := f + k) (by omega)
    have ih' := ih (k + 1) (by omega)
    have hd := hrow (f + k) (by omega)
    have e10 : lI (vl (fun i => g (f + i)) k : Nat) * 10 + (nI (g (f + k))).toInt64 = lI (vl (fun i => g (f + i)) (k + 1) : Nat) := by
      rw [nI_lI (by have := hg (f + k) (by omega); omega), show (10 : Int64) = lI 10 from rfl, lI_mul, lI_add]
      congr 1
    have ek : nI (f + k) + 1 = nI (f + (k + 1)) := by rw [nI_1]; rfl
    refine r_X6_section (fun n => n == 6) 40 ?_
    simp only [cd_X6_section, cf_X6_section, wp, wq, wpI, cdF, w_CI, w_CL, w_CN, w_LI, w_LL, w_LA, w_SI, w_SL, w_SA, w_INC, w_II, w_IId, w_LLb, w_LLd, w_LS, w_I1, w_L1, w_I2L, w_L2I, w_CMP, w_DUP, w_POP, w_DUP2, w_IF, w_IC, w_GO, w_NUL, w_ACN, prs, w_GF, w_PF, w_GS, w_IAL, w_LEN, w_LAL, w_ZAL, w_AAL, w_IAS, w_LAS, w_ZAS, w_AAS, w_RI, w_RL, w_RA, w_NEW, w_NA, w_MNA, w_OI, w_THR, w_CV, w_CS, w_CN9, w_CI9, w_MX, w_cont, lget, sto1, sto2, wideV, vo, vo_rv, isR, isR_rv, rv, fget, fput, cats, Value.category, List.headD_cons, List.getD_cons_zero, List.getD_cons_succ, List.drop_succ_cons, List.drop_zero, List.take_succ_cons, List.take_zero, List.reverse_cons, List.reverse_nil, List.nil_append, List.cons_append, List.length_cons, List.length_nil, cond_true, cond_false, and_true, true_and, Nat.zero_add, Nat.add_zero, Nat.reduceAdd, Nat.reduceLT, Nat.reduceLeDiff, Nat.reduceEqDiff, Nat.reduceBEq, Nat.reduceSub, ↓reduceIte, Int32.reduceOfNat, Int64.reduceOfNat, reduceCtorEq, Nat.le_refl, Nat.zero_le, Bool.false_eq_true, beq_self_eq_true, Fin.isValue, Fin.val_zero, Fin.val_one, Fin.reduceFinMk, Fin.val_two, Nat.reduceMod, Bool.or_false, Bool.or_true, Bool.true_or, Bool.false_or, not_true_eq_false, not_false_eq_true, true_or, or_true, implies_true, false_implies, true_implies, Int32.reduceLT, Int32.reduceLE, ↓w_TAB3, ↓w_TAB4, ↓w_TAB5, ↓w_TAB7, ↓w_TAB10, ↓w_LK2, ↓w_LK6, false_and, and_false, i1z, i2z, iz1, im0, im1, l0z, efn, h.1, h.2.1, h.2.2.1, cs, ck, hlen, h.2.2.2.2.2.1 s hs, hd, e10, ek]
    refine and_ii (fun q => ?_) (fun _ => ⟨_, h.2.2.2.1, hv, and_ii (fun q => ?_) (fun _ => ⟨_, _, ⟨h.2.2.2.2.1, rfl⟩, hv, _, h.2.2.2.2.2.2 s hs, vp_in_nI (by omega) (by omega), ih'⟩)⟩)
    · exfalso; (simp only [i_lt, i_le, i_eq, l_lt, l_le, l_eq, Int32.toInt_toInt64, Int32.reduceToInt, Int64.reduceToInt, ne_eq, Classical.not_not] at *; omega)
    · exfalso; (simp only [i_lt, i_le, i_eq, l_lt, l_le, l_eq, Int32.toInt_toInt64, Int32.reduceToInt, Int64.reduceToInt, ne_eq, Classical.not_not] at *; omega)
theorem c_section (h : MS M a) (hlen : mI M (a + 1) s = nI L) (hrow : ∀ i, i < L → mI M (a + 3 + s) i = nI (g i)) (h42 : L ≤ 42) (hs : s < 16) (hf : f + n ≤ L) (hg : ∀ i, i < L → g i < 100) (hx : x = nI s) (hy : y = nI f) (hz : z = nI n) (hQ : Q (some (.long (lI (vl (fun i => g (f + i)) n : Nat)))) M) : Ct G (MT 71) [.ref a, .int x, .int y, .int z] M Q X := by
  subst hx hy hz
  refine Ct.go (L0 := [some (.ref a), some (.int (nI s)), some (.int (nI f)), some (.int (nI n)), none, none, none]) (by decide +kernel) rfl rfl ?_
  refine r_X6_section (fun n => n == 6) 40 ?_
  simp only [cd_X6_section, cf_X6_section, wp, wq, wpI, cdF, w_CI, w_CL, w_CN, w_LI, w_LL, w_LA, w_SI, w_SL, w_SA, w_INC, w_II, w_IId, w_LLb, w_LLd, w_LS, w_I1, w_L1, w_I2L, w_L2I, w_CMP, w_DUP, w_POP, w_DUP2, w_IF, w_IC, w_GO, w_NUL, w_ACN, prs, w_GF, w_PF, w_GS, w_IAL, w_LEN, w_LAL, w_ZAL, w_AAL, w_IAS, w_LAS, w_ZAS, w_AAS, w_RI, w_RL, w_RA, w_NEW, w_NA, w_MNA, w_OI, w_THR, w_CV, w_CS, w_CN9, w_CI9, w_MX, w_cont, lget, sto1, sto2, wideV, vo, vo_rv, isR, isR_rv, rv, fget, fput, cats, Value.category, List.headD_cons, List.getD_cons_zero, List.getD_cons_succ, List.drop_succ_cons, List.drop_zero, List.take_succ_cons, List.take_zero, List.reverse_cons, List.reverse_nil, List.nil_append, List.cons_append, List.length_cons, List.length_nil, cond_true, cond_false, and_true, true_and, Nat.zero_add, Nat.add_zero, Nat.reduceAdd, Nat.reduceLT, Nat.reduceLeDiff, Nat.reduceEqDiff, Nat.reduceBEq, Nat.reduceSub, ↓reduceIte, Int32.reduceOfNat, Int64.reduceOfNat, reduceCtorEq, Nat.le_refl, Nat.zero_le, Bool.false_eq_true, beq_self_eq_true, Fin.isValue, Fin.val_zero, Fin.val_one, Fin.reduceFinMk, Fin.val_two, Nat.reduceMod, Bool.or_false, Bool.or_true, Bool.true_or, Bool.false_or, not_true_eq_false, not_false_eq_true, true_or, or_true, implies_true, false_implies, true_implies, Int32.reduceLT, Int32.reduceLE, ↓w_TAB3, ↓w_TAB4, ↓w_TAB5, ↓w_TAB7, ↓w_TAB10, ↓w_LK2, ↓w_LK6, false_and, and_false, i1z, i2z, iz1, im0, im1, l0z]
  exact lp_section (g := g) h hlen hrow h42 hs hf hg hQ n 0 (by omega)
/-- a whole field's number -/
theorem c_numOf (h : MS M a) (hm : msgC M a (a + 1) (a + 3) m) (ho : okM m) (hs : s < 16) (hp : pb (gH m) s = 1) (hx : x = nI s) (hQ : Q (some (.long (lI (val m s : Nat)))) M) : Ct G (MT 70) [.ref a, .int x] M Q X := by
  subst hx
  have hms := hm.2.2 s hs hp
  have hof := ho.2.2 s hs hp
  have hz : szF s ≤ 42 := by unfold szF; split <;> omega
  have cs := nI_clamp (n := s) (by omega)
  have h42 : gN m s ≤ 42 := by unfold okF at hof; omega
  have hg : ∀ i, i < gN m s → gS m s i < 100 := fun i hi => by
    have := hof.2.2.2 i hi
    split at this <;> omega
  refine Ct.go (L0 := [some (.ref a), some (.int (nI s))]) (by decide +kernel) rfl rfl ?_
  refine r_X6_numberOf (fun n => n == 12) 40 ?_
  simp only [cd_X6_numberOf, cf_X6_numberOf, wp, wq, wpI, cdF, w_CI, w_CL, w_CN, w_LI, w_LL, w_LA, w_SI, w_SL, w_SA, w_INC, w_II, w_IId, w_LLb, w_LLd, w_LS, w_I1, w_L1, w_I2L, w_L2I, w_CMP, w_DUP, w_POP, w_DUP2, w_IF, w_IC, w_GO, w_NUL, w_ACN, prs, w_GF, w_PF, w_GS, w_IAL, w_LEN, w_LAL, w_ZAL, w_AAL, w_IAS, w_LAS, w_ZAS, w_AAS, w_RI, w_RL, w_RA, w_NEW, w_NA, w_MNA, w_OI, w_THR, w_CV, w_CS, w_CN9, w_CI9, w_MX, w_cont, lget, sto1, sto2, wideV, vo, vo_rv, isR, isR_rv, rv, fget, fput, cats, Value.category, List.headD_cons, List.getD_cons_zero, List.getD_cons_succ, List.drop_succ_cons, List.drop_zero, List.take_succ_cons, List.take_zero, List.reverse_cons, List.reverse_nil, List.nil_append, List.cons_append, List.length_cons, List.length_nil, cond_true, cond_false, and_true, true_and, Nat.zero_add, Nat.add_zero, Nat.reduceAdd, Nat.reduceLT, Nat.reduceLeDiff, Nat.reduceEqDiff, Nat.reduceBEq, Nat.reduceSub, ↓reduceIte, Int32.reduceOfNat, Int64.reduceOfNat, reduceCtorEq, Nat.le_refl, Nat.zero_le, Bool.false_eq_true, beq_self_eq_true, Fin.isValue, Fin.val_zero, Fin.val_one, Fin.reduceFinMk, Fin.val_two, Nat.reduceMod, Bool.or_false, Bool.or_true, Bool.true_or, Bool.false_or, not_true_eq_false, not_false_eq_true, true_or, or_true, implies_true, false_implies, true_implies, Int32.reduceLT, Int32.reduceLE, ↓w_TAB3, ↓w_TAB4, ↓w_TAB5, ↓w_TAB7, ↓w_TAB10, ↓w_LK2, ↓w_LK6, false_and, and_false, i1z, i2z, iz1, im0, im1, l0z, h.1, h.2.1, cs, hms.1]
  refine ⟨_, h.2.2.2.1, vp_in_nI hs (by omega), ?_⟩
  refine c_section (g := gS m s) (f := 0) (n := gN m s) h hms.1 hms.2 h42 hs (by omega) hg rfl rfl rfl ⟨_, rfl, ?_⟩
  simp only [Nat.zero_add]
  refine r_X6_numberOf (fun n => n == 12) 40 ?_
  simp only [cd_X6_numberOf, cf_X6_numberOf, wp, wq, wpI, cdF, w_CI, w_CL, w_CN, w_LI, w_LL, w_LA, w_SI, w_SL, w_SA, w_INC, w_II, w_IId, w_LLb, w_LLd, w_LS, w_I1, w_L1, w_I2L, w_L2I, w_CMP, w_DUP, w_POP, w_DUP2, w_IF, w_IC, w_GO, w_NUL, w_ACN, prs, w_GF, w_PF, w_GS, w_IAL, w_LEN, w_LAL, w_ZAL, w_AAL, w_IAS, w_LAS, w_ZAS, w_AAS, w_RI, w_RL, w_RA, w_NEW, w_NA, w_MNA, w_OI, w_THR, w_CV, w_CS, w_CN9, w_CI9, w_MX, w_cont, lget, sto1, sto2, wideV, vo, vo_rv, isR, isR_rv, rv, fget, fput, cats, Value.category, List.headD_cons, List.getD_cons_zero, List.getD_cons_succ, List.drop_succ_cons, List.drop_zero, List.take_succ_cons, List.take_zero, List.reverse_cons, List.reverse_nil, List.nil_append, List.cons_append, List.length_cons, List.length_nil, cond_true, cond_false, and_true, true_and, Nat.zero_add, Nat.add_zero, Nat.reduceAdd, Nat.reduceLT, Nat.reduceLeDiff, Nat.reduceEqDiff, Nat.reduceBEq, Nat.reduceSub, ↓reduceIte, Int32.reduceOfNat, Int64.reduceOfNat, reduceCtorEq, Nat.le_refl, Nat.zero_le, Bool.false_eq_true, beq_self_eq_true, Fin.isValue, Fin.val_zero, Fin.val_one, Fin.reduceFinMk, Fin.val_two, Nat.reduceMod, Bool.or_false, Bool.or_true, Bool.true_or, Bool.false_or, not_true_eq_false, not_false_eq_true, true_or, or_true, implies_true, false_implies, true_implies, Int32.reduceLT, Int32.reduceLE, ↓w_TAB3, ↓w_TAB4, ↓w_TAB5, ↓w_TAB7, ↓w_TAB10, ↓w_LK2, ↓w_LK6, false_and, and_false, i1z, i2z, iz1, im0, im1, l0z]
  exact hQ
theorem lp_isRow (h : MS M a) (hrow : ∀ i, i < n → mI M (a + 3 + s) i = nI (g i)) (hkb : hasK M b (.inl (.int, N))) (hrb : ∀ i, i < n → mI M b i = nI (g' i)) (hg : ∀ i, i < n → g i < 100 ∧ g' i < 100) (h42 : n ≤ 42) (hN : n ≤ N ∧ N < 1000) (hs : s < 16) (hQ : Q (some (.int (b2i (eqN g' g n = true)))) M) : ∀ (m k : Nat), m + k = n → (∀ j, j < k → g' j = g j) → Go G (MT 69) Q X 21 [some (.ref a), some (.int (nI s)), some (.ref b), some (.int (nI n)), some (.int (nI k))] [] M 0 0 := by
  have cs := nI_clamp (n := s) (by omega)
  have tn := nI_toInt (n := n) (by omega)
  have hv := vp_in_nI (n := s) (N := 16) hs (by omega)
  intro m
  induction m with
  | zero =>
    intro k hk hj
    have hk : k = n := by omega
    subst hk
    rw [b2i_t (eqN_iff.mpr hj)] at hQ
    refine r_X6_isRow (fun n => n == 21) 40 ?_
    simp only [cd_X6_isRow, cf_X6_isRow, wp, wq, wpI, cdF, w_CI, w_CL, w_CN, w_LI, w_LL, w_LA, w_SI, w_SL, w_SA, w_INC, w_II, w_IId, w_LLb, w_LLd, w_LS, w_I1, w_L1, w_I2L, w_L2I, w_CMP, w_DUP, w_POP, w_DUP2, w_IF, w_IC, w_GO, w_NUL, w_ACN, prs, w_GF, w_PF, w_GS, w_IAL, w_LEN, w_LAL, w_ZAL, w_AAL, w_IAS, w_LAS, w_ZAS, w_AAS, w_RI, w_RL, w_RA, w_NEW, w_NA, w_MNA, w_OI, w_THR, w_CV, w_CS, w_CN9, w_CI9, w_MX, w_cont, lget, sto1, sto2, wideV, vo, vo_rv, isR, isR_rv, rv, fget, fput, cats, Value.category, List.headD_cons, List.getD_cons_zero, List.getD_cons_succ, List.drop_succ_cons, List.drop_zero, List.take_succ_cons, List.take_zero, List.reverse_cons, List.reverse_nil, List.nil_append, List.cons_append, List.length_cons, List.length_nil, cond_true, cond_false, and_true, true_and, Nat.zero_add, Nat.add_zero, Nat.reduceAdd, Nat.reduceLT, Nat.reduceLeDiff, Nat.reduceEqDiff, Nat.reduceBEq, Nat.reduceSub, ↓reduceIte, Int32.reduceOfNat, Int64.reduceOfNat, reduceCtorEq, Nat.le_refl, Nat.zero_le, Bool.false_eq_true, beq_self_eq_true, Fin.isValue, Fin.val_zero, Fin.val_one, Fin.reduceFinMk, Fin.val_two, Nat.reduceMod, Bool.or_false, Bool.or_true, Bool.true_or, Bool.false_or, not_true_eq_false, not_false_eq_true, true_or, or_true, implies_true, false_implies, true_implies, Int32.reduceLT, Int32.reduceLE, ↓w_TAB3, ↓w_TAB4, ↓w_TAB5, ↓w_TAB7, ↓w_TAB10, ↓w_LK2, ↓w_LK6, false_and, and_false, i1z, i2z, iz1, im0, im1, l0z]
    refine ⟨fun _ => ?_, fun q => absurd (nI_le (Nat.le_refl _) (by omega)) q⟩
    try (refine r_X6_isRow (fun n => n == 21) 40 ?_; simp only [cd_X6_isRow, cf_X6_isRow, wp, wq, wpI, cdF, w_CI, w_CL, w_CN, w_LI, w_LL, w_LA, w_SI, w_SL, w_SA, w_INC, w_II, w_IId, w_LLb, w_LLd, w_LS, w_I1, w_L1, w_I2L, w_L2I, w_CMP, w_DUP, w_POP, w_DUP2, w_IF, w_IC, w_GO, w_NUL, w_ACN, prs, w_GF, w_PF, w_GS, w_IAL, w_LEN, w_LAL, w_ZAL, w_AAL, w_IAS, w_LAS, w_ZAS, w_AAS, w_RI, w_RL, w_RA, w_NEW, w_NA, w_MNA, w_OI, w_THR, w_CV, w_CS, w_CN9, w_CI9, w_MX, w_cont, lget, sto1, sto2, wideV, vo, vo_rv, isR, isR_rv, rv, fget, fput, cats, Value.category, List.headD_cons, List.getD_cons_zero, List.getD_cons_succ, List.drop_succ_cons, List.drop_zero, List.take_succ_cons, List.take_zero, List.reverse_cons, List.reverse_nil, List.nil_append, List.cons_append, List.length_cons, List.length_nil, cond_true, cond_false, and_true, true_and, Nat.zero_add, Nat.add_zero, Nat.reduceAdd, Nat.reduceLT, Nat.reduceLeDiff, Nat.reduceEqDiff, Nat.reduceBEq, Nat.reduceSub, ↓reduceIte, Int32.reduceOfNat, Int64.reduceOfNat, reduceCtorEq, Nat.le_refl, Nat.zero_le, Bool.false_eq_true, beq_self_eq_true, Fin.isValue, Fin.val_zero, Fin.val_one, Fin.reduceFinMk, Fin.val_two, Nat.reduceMod, Bool.or_false, Bool.or_true, Bool.true_or, Bool.false_or, not_true_eq_false, not_false_eq_true, true_or, or_true, implies_true, false_implies, true_implies, Int32.reduceLT, Int32.reduceLE, ↓w_TAB3, ↓w_TAB4, ↓w_TAB5, ↓w_TAB7, ↓w_TAB10, ↓w_LK2, ↓w_LK6, false_and, and_false, i1z, i2z, iz1, im0, im1, l0z])
    exact hQ
  | succ m ih =>
    intro k hk hj
    have tk := nI_toInt (n := k) (by omega)
    have ck := nI_clamp (n := k) (by omega)
    have ih' := ih (k + 1) (by omega)
    have h1 := hrow k (by omega)
    have h2 := hrb k (by omega)
    have b12 := hg k (by omega)
    have t1 := nI_toInt (n := g k) (by omega)
    have t2 := nI_toInt (n := g' k) (by omega)
    refine r_X6_isRow (fun n => n == 21) 40 ?_
    simp only [cd_X6_isRow, cf_X6_isRow, wp, wq, wpI, cdF, w_CI, w_CL, w_CN, w_LI, w_LL, w_LA, w_SI, w_SL, w_SA, w_INC, w_II, w_IId, w_LLb, w_LLd, w_LS, w_I1, w_L1, w_I2L, w_L2I, w_CMP, w_DUP, w_POP, w_DUP2, w_IF, w_IC, w_GO, w_NUL, w_ACN, prs, w_GF, w_PF, w_GS, w_IAL, w_LEN, w_LAL, w_ZAL, w_AAL, w_IAS, w_LAS, w_ZAS, w_AAS, w_RI, w_RL, w_RA, w_NEW, w_NA, w_MNA, w_OI, w_THR, w_CV, w_CS, w_CN9, w_CI9, w_MX, w_cont, lget, sto1, sto2, wideV, vo, vo_rv, isR, isR_rv, rv, fget, fput, cats, Value.category, List.headD_cons, List.getD_cons_zero, List.getD_cons_succ, List.drop_succ_cons, List.drop_zero, List.take_succ_cons, List.take_zero, List.reverse_cons, List.reverse_nil, List.nil_append, List.cons_append, List.length_cons, List.length_nil, cond_true, cond_false, and_true, true_and, Nat.zero_add, Nat.add_zero, Nat.reduceAdd, Nat.reduceLT, Nat.reduceLeDiff, Nat.reduceEqDiff, Nat.reduceBEq, Nat.reduceSub, ↓reduceIte, Int32.reduceOfNat, Int64.reduceOfNat, reduceCtorEq, Nat.le_refl, Nat.zero_le, Bool.false_eq_true, beq_self_eq_true, Fin.isValue, Fin.val_zero, Fin.val_one, Fin.reduceFinMk, Fin.val_two, Nat.reduceMod, Bool.or_false, Bool.or_true, Bool.true_or, Bool.false_or, not_true_eq_false, not_false_eq_true, true_or, or_true, implies_true, false_implies, true_implies, Int32.reduceLT, Int32.reduceLE, ↓w_TAB3, ↓w_TAB4, ↓w_TAB5, ↓w_TAB7, ↓w_TAB10, ↓w_LK2, ↓w_LK6, false_and, and_false, i1z, i2z, iz1, im0, im1, l0z, h.1, h.2.1, h.2.2.1, cs, ck, h.2.2.2.2.2.1 s hs, h1, h2, nI_1]
    refine and_ii (fun q => ?_) (fun _ => ⟨_, _, ⟨h.2.2.2.2.1, rfl⟩, hv, _, h.2.2.2.2.2.2 s hs, vp_in_nI (by omega) (by omega), _, hkb, vp_in_nI (by omega) (by omega), ?_⟩)
    · exfalso; (simp only [i_lt, i_le, i_eq, l_lt, l_le, l_eq, Int32.toInt_toInt64, Int32.reduceToInt, Int64.reduceToInt, ne_eq, Classical.not_not] at *; omega)
    refine and_ii (fun q => ?_) (fun q => ?_)
    · have e : g k = g' k := by (simp only [i_lt, i_le, i_eq, l_lt, l_le, l_eq, Int32.toInt_toInt64, Int32.reduceToInt, Int64.reduceToInt, ne_eq, Classical.not_not] at *; omega)
      refine (?_ : Go _ _ _ _ _ _ _ _ _ _)
      exact ih' (fun j hj' => by
        by_cases ej : j = k
        · subst ej; exact e.symm
        · exact hj j (by omega))
    · rw [b2i_f (fun e => q (by rw [eqN_iff.mp e k (by omega)]))] at hQ
      exact hQ
theorem c_isRow (h : MS M a) (hlen : mI M (a + 1) s = nI L) (hL : L ≤ 42) (hrow : ∀ i, i < L → mI M (a + 3 + s) i = nI (g i)) (hkb : hasK M b (.inl (.int, N))) (hrb : ∀ i, i < n → mI M b i = nI (g' i)) (hg : ∀ i, i < L → g i < 100) (hg' : ∀ i, i < n → g' i < 100) (hN : n ≤ N ∧ N < 1000) (hs : s < 16) (hx : x = nI s) (hy : y = nI n) (hQ : Q (some (.int (b2i ((decide (n = L) && eqN g' g L) = true)))) M) : Ct G (MT 69) [.ref a, .int x, .ref b, .int y] M Q X := by
  subst hx hy
  have cs := nI_clamp (n := s) (by omega)
  have tn := nI_toInt (n := n) (by omega)
  have tL := nI_toInt (n := L) (by omega)
  have tN := nI_toInt (n := N) (by omega)
  refine Ct.go (L0 := [some (.ref a), some (.int (nI s)), some (.ref b), some (.int (nI n)), none]) (by decide +kernel) rfl rfl ?_
  refine r_X6_isRow (fun n => n == 21) 40 ?_
  simp only [cd_X6_isRow, cf_X6_isRow, wp, wq, wpI, cdF, w_CI, w_CL, w_CN, w_LI, w_LL, w_LA, w_SI, w_SL, w_SA, w_INC, w_II, w_IId, w_LLb, w_LLd, w_LS, w_I1, w_L1, w_I2L, w_L2I, w_CMP, w_DUP, w_POP, w_DUP2, w_IF, w_IC, w_GO, w_NUL, w_ACN, prs, w_GF, w_PF, w_GS, w_IAL, w_LEN, w_LAL, w_ZAL, w_AAL, w_IAS, w_LAS, w_ZAS, w_AAS, w_RI, w_RL, w_RA, w_NEW, w_NA, w_MNA, w_OI, w_THR, w_CV, w_CS, w_CN9, w_CI9, w_MX, w_cont, lget, sto1, sto2, wideV, vo, vo_rv, isR, isR_rv, rv, fget, fput, cats, Value.category, List.headD_cons, List.getD_cons_zero, List.getD_cons_succ, List.drop_succ_cons, List.drop_zero, List.take_succ_cons, List.take_zero, List.reverse_cons, List.reverse_nil, List.nil_append, List.cons_append, List.length_cons, List.length_nil, cond_true, cond_false, and_true, true_and, Nat.zero_add, Nat.add_zero, Nat.reduceAdd, Nat.reduceLT, Nat.reduceLeDiff, Nat.reduceEqDiff, Nat.reduceBEq, Nat.reduceSub, ↓reduceIte, Int32.reduceOfNat, Int64.reduceOfNat, reduceCtorEq, Nat.le_refl, Nat.zero_le, Bool.false_eq_true, beq_self_eq_true, Fin.isValue, Fin.val_zero, Fin.val_one, Fin.reduceFinMk, Fin.val_two, Nat.reduceMod, Bool.or_false, Bool.or_true, Bool.true_or, Bool.false_or, not_true_eq_false, not_false_eq_true, true_or, or_true, implies_true, false_implies, true_implies, Int32.reduceLT, Int32.reduceLE, ↓w_TAB3, ↓w_TAB4, ↓w_TAB5, ↓w_TAB7, ↓w_TAB10, ↓w_LK2, ↓w_LK6, false_and, and_false, i1z, i2z, iz1, im0, im1, l0z, h.1, h.2.1, cs, hlen]
  refine ⟨_, h.2.2.2.1, vp_in_nI hs (by omega), and_ii (fun q => ?_) (fun q => ?_)⟩
  · rw [b2i_f (fun e => by
      rw [Bool.and_eq_true, decide_eq_true_eq] at e
      exact q (by rw [e.1]))] at hQ
    exact hQ
  have e : n = L := by (simp only [i_lt, i_le, i_eq, l_lt, l_le, l_eq, Int32.toInt_toInt64, Int32.reduceToInt, Int64.reduceToInt, ne_eq, Classical.not_not] at *; omega)
  subst e
  refine ⟨_, _, ⟨hkb, Or.inl rfl⟩, and_ii (fun q2 => ?_) (fun q2 => ?_)⟩
  · rw [decide_eq_true rfl, Bool.true_and] at hQ
    exact lp_isRow h hrow hkb hrb (fun i hi => ⟨hg i hi, hg' i hi⟩) (by omega) hN hs hQ n 0 (by omega) (fun j hj => by omega)
  · exfalso
    rw [show (Int32.ofNat N) = nI N from rfl] at q2
    (simp only [i_lt, i_le, i_eq, l_lt, l_le, l_eq, Int32.toInt_toInt64, Int32.reduceToInt, Int64.reduceToInt, ne_eq, Classical.not_not] at *; omega)
theorem lp_copyRow (h : MS M a) (hlen : mI M (a + 1) s = nI n) (hrow : ∀ i, i < n → mI M (a + 3 + s) i = nI (g i)) (hkb : hasK M b (.inl (.int, N))) (h42 : n ≤ 42) (hN : n ≤ N ∧ N < 1000) (hs : s < 16) (hb : b ≠ a + 1 ∧ b ≠ a + 3 + s) (hQ : Q none (sRow M b (fun i => if i < n then nI (g i) else mI M b i))) : ∀ (m k : Nat), m + k = n → Go G (MT 68) Q X 2 [some (.ref a), some (.int (nI s)), some (.ref b), some (.int (nI k))] [] (sRow M b (fun i => if i < k then nI (g i) else mI M b i)) 0 0 := by
  have cs := nI_clamp (n := s) (by omega)
  have tn := nI_toInt (n := n) (by omega)
  have tN := nI_toInt (n := N) (by omega)
  have hv := vp_in_nI (n := s) (N := 16) hs (by omega)
  intro m
  induction m with
  | zero =>
    intro k hk
    have hk : k = n := by omega
    subst hk
    have hl : mI (sRow M b (fun i => if i < k then nI (g i) else mI M b i)) (a + 1) s = nI k := by rw [mI_nr (by omega)]; exact hlen
    refine r_X6_copyRow (fun n => n == 2) 40 ?_
    simp only [cd_X6_copyRow, cf_X6_copyRow, wp, wq, wpI, cdF, w_CI, w_CL, w_CN, w_LI, w_LL, w_LA, w_SI, w_SL, w_SA, w_INC, w_II, w_IId, w_LLb, w_LLd, w_LS, w_I1, w_L1, w_I2L, w_L2I, w_CMP, w_DUP, w_POP, w_DUP2, w_IF, w_IC, w_GO, w_NUL, w_ACN, prs, w_GF, w_PF, w_GS, w_IAL, w_LEN, w_LAL, w_ZAL, w_AAL, w_IAS, w_LAS, w_ZAS, w_AAS, w_RI, w_RL, w_RA, w_NEW, w_NA, w_MNA, w_OI, w_THR, w_CV, w_CS, w_CN9, w_CI9, w_MX, w_cont, lget, sto1, sto2, wideV, vo, vo_rv, isR, isR_rv, rv, fget, fput, cats, Value.category, List.headD_cons, List.getD_cons_zero, List.getD_cons_succ, List.drop_succ_cons, List.drop_zero, List.take_succ_cons, List.take_zero, List.reverse_cons, List.reverse_nil, List.nil_append, List.cons_append, List.length_cons, List.length_nil, cond_true, cond_false, and_true, true_and, Nat.zero_add, Nat.add_zero, Nat.reduceAdd, Nat.reduceLT, Nat.reduceLeDiff, Nat.reduceEqDiff, Nat.reduceBEq, Nat.reduceSub, ↓reduceIte, Int32.reduceOfNat, Int64.reduceOfNat, reduceCtorEq, Nat.le_refl, Nat.zero_le, Bool.false_eq_true, beq_self_eq_true, Fin.isValue, Fin.val_zero, Fin.val_one, Fin.reduceFinMk, Fin.val_two, Nat.reduceMod, Bool.or_false, Bool.or_true, Bool.true_or, Bool.false_or, not_true_eq_false, not_false_eq_true, true_or, or_true, implies_true, false_implies, true_implies, Int32.reduceLT, Int32.reduceLE, ↓w_TAB3, ↓w_TAB4, ↓w_TAB5, ↓w_TAB7, ↓w_TAB10, ↓w_LK2, ↓w_LK6, false_and, and_false, i1z, i2z, iz1, im0, im1, l0z, h.1, h.2.1, cs, hl, hasK_sRow, mR_sRow]
    refine ⟨_, h.2.2.2.1, hv, fun _ => ?_, fun q => absurd (nI_le (Nat.le_refl _) (by omega)) q⟩
    try (refine r_X6_copyRow (fun n => n == 2) 40 ?_; simp only [cd_X6_copyRow, cf_X6_copyRow, wp, wq, wpI, cdF, w_CI, w_CL, w_CN, w_LI, w_LL, w_LA, w_SI, w_SL, w_SA, w_INC, w_II, w_IId, w_LLb, w_LLd, w_LS, w_I1, w_L1, w_I2L, w_L2I, w_CMP, w_DUP, w_POP, w_DUP2, w_IF, w_IC, w_GO, w_NUL, w_ACN, prs, w_GF, w_PF, w_GS, w_IAL, w_LEN, w_LAL, w_ZAL, w_AAL, w_IAS, w_LAS, w_ZAS, w_AAS, w_RI, w_RL, w_RA, w_NEW, w_NA, w_MNA, w_OI, w_THR, w_CV, w_CS, w_CN9, w_CI9, w_MX, w_cont, lget, sto1, sto2, wideV, vo, vo_rv, isR, isR_rv, rv, fget, fput, cats, Value.category, List.headD_cons, List.getD_cons_zero, List.getD_cons_succ, List.drop_succ_cons, List.drop_zero, List.take_succ_cons, List.take_zero, List.reverse_cons, List.reverse_nil, List.nil_append, List.cons_append, List.length_cons, List.length_nil, cond_true, cond_false, and_true, true_and, Nat.zero_add, Nat.add_zero, Nat.reduceAdd, Nat.reduceLT, Nat.reduceLeDiff, Nat.reduceEqDiff, Nat.reduceBEq, Nat.reduceSub, ↓reduceIte, Int32.reduceOfNat, Int64.reduceOfNat, reduceCtorEq, Nat.le_refl, Nat.zero_le, Bool.false_eq_true, beq_self_eq_true, Fin.isValue, Fin.val_zero, Fin.val_one, Fin.reduceFinMk, Fin.val_two, Nat.reduceMod, Bool.or_false, Bool.or_true, Bool.true_or, Bool.false_or, not_true_eq_false, not_false_eq_true, true_or, or_true, implies_true, false_implies, true_implies, Int32.reduceLT, Int32.reduceLE, ↓w_TAB3, ↓w_TAB4, ↓w_TAB5, ↓w_TAB7, ↓w_TAB10, ↓w_LK2, ↓w_LK6, false_and, and_false, i1z, i2z, iz1, im0, im1, l0z])
    exact hQ
  | succ m ih =>
    intro k hk
    have tk := nI_toInt (n := k) (by omega)
    have ck := nI_clamp (n := k) (by omega)
    have ih' := ih (k + 1) (by omega)
    have hl : mI (sRow M b (fun i => if i < k then nI (g i) else mI M b i)) (a + 1) s = nI n := by rw [mI_nr (by omega)]; exact hlen
    have hd : mI (sRow M b (fun i => if i < k then nI (g i) else mI M b i)) (a + 3 + s) k = nI (g k) := by rw [mI_nr (by omega)]; exact hrow k (by omega)
    refine r_X6_copyRow (fun n => n == 2) 40 ?_
    simp only [cd_X6_copyRow, cf_X6_copyRow, wp, wq, wpI, cdF, w_CI, w_CL, w_CN, w_LI, w_LL, w_LA, w_SI, w_SL, w_SA, w_INC, w_II, w_IId, w_LLb, w_LLd, w_LS, w_I1, w_L1, w_I2L, w_L2I, w_CMP, w_DUP, w_POP, w_DUP2, w_IF, w_IC, w_GO, w_NUL, w_ACN, prs, w_GF, w_PF, w_GS, w_IAL, w_LEN, w_LAL, w_ZAL, w_AAL, w_IAS, w_LAS, w_ZAS, w_AAS, w_RI, w_RL, w_RA, w_NEW, w_NA, w_MNA, w_OI, w_THR, w_CV, w_CS, w_CN9, w_CI9, w_MX, w_cont, lget, sto1, sto2, wideV, vo, vo_rv, isR, isR_rv, rv, fget, fput, cats, Value.category, List.headD_cons, List.getD_cons_zero, List.getD_cons_succ, List.drop_succ_cons, List.drop_zero, List.take_succ_cons, List.take_zero, List.reverse_cons, List.reverse_nil, List.nil_append, List.cons_append, List.length_cons, List.length_nil, cond_true, cond_false, and_true, true_and, Nat.zero_add, Nat.add_zero, Nat.reduceAdd, Nat.reduceLT, Nat.reduceLeDiff, Nat.reduceEqDiff, Nat.reduceBEq, Nat.reduceSub, ↓reduceIte, Int32.reduceOfNat, Int64.reduceOfNat, reduceCtorEq, Nat.le_refl, Nat.zero_le, Bool.false_eq_true, beq_self_eq_true, Fin.isValue, Fin.val_zero, Fin.val_one, Fin.reduceFinMk, Fin.val_two, Nat.reduceMod, Bool.or_false, Bool.or_true, Bool.true_or, Bool.false_or, not_true_eq_false, not_false_eq_true, true_or, or_true, implies_true, false_implies, true_implies, Int32.reduceLT, Int32.reduceLE, ↓w_TAB3, ↓w_TAB4, ↓w_TAB5, ↓w_TAB7, ↓w_TAB10, ↓w_LK2, ↓w_LK6, false_and, and_false, i1z, i2z, iz1, im0, im1, l0z, h.1, h.2.1, h.2.2.1, cs, ck, hl, hd, hasK_sRow, mR_sRow, h.2.2.2.2.2.1 s hs, nI_1, uI_sRow]
    refine ⟨_, h.2.2.2.1, hv, and_ii (fun q => ?_) (fun _ => ⟨_, _, ⟨hkb, Or.inl rfl⟩, and_ii (fun q => ?_) (fun _ => ⟨_, _, ⟨h.2.2.2.2.1, rfl⟩, hv, _, h.2.2.2.2.2.2 s hs, vp_in_nI (by omega) (by omega), _, hkb, vp_in_nI (by omega) (by omega), ?_⟩)⟩)⟩
    · exfalso; (simp only [i_lt, i_le, i_eq, l_lt, l_le, l_eq, Int32.toInt_toInt64, Int32.reduceToInt, Int64.reduceToInt, ne_eq, Classical.not_not] at *; omega)
    · exfalso
      rw [show (Int32.ofNat N) = nI N from rfl] at q
      (simp only [i_lt, i_le, i_eq, l_lt, l_le, l_eq, Int32.toInt_toInt64, Int32.reduceToInt, Int64.reduceToInt, ne_eq, Classical.not_not] at *; omega)
    · rw [sRow_congr (g := fun i => if i < k + 1 then nI (g i) else mI M b i) (fun i => ?_)]
      · exact ih'
      · by_cases q : i = k
        · subst q; rw [if_pos rfl, if_pos (by omega)]
        · rw [if_neg q]
          by_cases q2 : i < k
          · rw [if_pos q2, if_pos (by omega)]
          · rw [if_neg q2, if_neg (by omega)]
theorem c_copyRow (h : MS M a) (hlen : mI M (a + 1) s = nI n) (hrow : ∀ i, i < n → mI M (a + 3 + s) i = nI (g i)) (hkb : hasK M b (.inl (.int, N))) (h42 : n ≤ 42) (hN : n ≤ N ∧ N < 1000) (hs : s < 16) (hb : b ≠ a + 1 ∧ b ≠ a + 3 + s) (hx : x = nI s) (hQ : Q none (sRow M b (fun i => if i < n then nI (g i) else mI M b i))) : Ct G (MT 68) [.ref a, .int x, .ref b] M Q X := by
  subst hx
  refine Ct.go (L0 := [some (.ref a), some (.int (nI s)), some (.ref b), none]) (by decide +kernel) rfl rfl ?_
  refine r_X6_copyRow (fun n => n == 2) 40 ?_
  simp only [cd_X6_copyRow, cf_X6_copyRow, wp, wq, wpI, cdF, w_CI, w_CL, w_CN, w_LI, w_LL, w_LA, w_SI, w_SL, w_SA, w_INC, w_II, w_IId, w_LLb, w_LLd, w_LS, w_I1, w_L1, w_I2L, w_L2I, w_CMP, w_DUP, w_POP, w_DUP2, w_IF, w_IC, w_GO, w_NUL, w_ACN, prs, w_GF, w_PF, w_GS, w_IAL, w_LEN, w_LAL, w_ZAL, w_AAL, w_IAS, w_LAS, w_ZAS, w_AAS, w_RI, w_RL, w_RA, w_NEW, w_NA, w_MNA, w_OI, w_THR, w_CV, w_CS, w_CN9, w_CI9, w_MX, w_cont, lget, sto1, sto2, wideV, vo, vo_rv, isR, isR_rv, rv, fget, fput, cats, Value.category, List.headD_cons, List.getD_cons_zero, List.getD_cons_succ, List.drop_succ_cons, List.drop_zero, List.take_succ_cons, List.take_zero, List.reverse_cons, List.reverse_nil, List.nil_append, List.cons_append, List.length_cons, List.length_nil, cond_true, cond_false, and_true, true_and, Nat.zero_add, Nat.add_zero, Nat.reduceAdd, Nat.reduceLT, Nat.reduceLeDiff, Nat.reduceEqDiff, Nat.reduceBEq, Nat.reduceSub, ↓reduceIte, Int32.reduceOfNat, Int64.reduceOfNat, reduceCtorEq, Nat.le_refl, Nat.zero_le, Bool.false_eq_true, beq_self_eq_true, Fin.isValue, Fin.val_zero, Fin.val_one, Fin.reduceFinMk, Fin.val_two, Nat.reduceMod, Bool.or_false, Bool.or_true, Bool.true_or, Bool.false_or, not_true_eq_false, not_false_eq_true, true_or, or_true, implies_true, false_implies, true_implies, Int32.reduceLT, Int32.reduceLE, ↓w_TAB3, ↓w_TAB4, ↓w_TAB5, ↓w_TAB7, ↓w_TAB10, ↓w_LK2, ↓w_LK6, false_and, and_false, i1z, i2z, iz1, im0, im1, l0z]
  have := lp_copyRow (G := G) (X := X) (Q := Q) h hlen hrow hkb h42 hN hs hb hQ n 0 (by omega)
  rw [sRow_congr (g := mI M b) (fun i => if_neg (by omega)), sRow_id] at this
  exact this
theorem c_isAnswer (h : MS M a) (hm : mI M a 0 = nI ty) (hty : ty ≤ 9999) (hQ : Q (some (.int (b2i (ty / 10 % 2 = 1)))) M) : Ct G (MT 42) [.ref a] M Q X := by
  have i10 : ((10 : Int32) = 0) = False := eq_false (by decide)
  have i2z : ((2 : Int32) = 0) = False := eq_false (by decide)
  have e1 : nI ty / 10 = nI (ty / 10) := nI_div (b := 10) (by omega) (by omega) (by omega)
  have e2 : nI (ty / 10) - nI (ty / 10) / 2 * 2 = nI (ty / 10 % 2) := nI_rem (b := 2) (by omega) (by omega) (by omega)
  have t2 := nI_toInt (n := ty / 10 % 2) (by omega)
  refine Ct.go (L0 := [some (.ref a)]) (by decide +kernel) rfl rfl ?_
  refine r_X4_isAnswer (fun _ => false) 40 ?_
  simp only [cd_X4_isAnswer, cf_X4_isAnswer, wp, wq, wpI, cdF, w_CI, w_CL, w_CN, w_LI, w_LL, w_LA, w_SI, w_SL, w_SA, w_INC, w_II, w_IId, w_LLb, w_LLd, w_LS, w_I1, w_L1, w_I2L, w_L2I, w_CMP, w_DUP, w_POP, w_DUP2, w_IF, w_IC, w_GO, w_NUL, w_ACN, prs, w_GF, w_PF, w_GS, w_IAL, w_LEN, w_LAL, w_ZAL, w_AAL, w_IAS, w_LAS, w_ZAS, w_AAS, w_RI, w_RL, w_RA, w_NEW, w_NA, w_MNA, w_OI, w_THR, w_CV, w_CS, w_CN9, w_CI9, w_MX, w_cont, lget, sto1, sto2, wideV, vo, vo_rv, isR, isR_rv, rv, fget, fput, cats, Value.category, List.headD_cons, List.getD_cons_zero, List.getD_cons_succ, List.drop_succ_cons, List.drop_zero, List.take_succ_cons, List.take_zero, List.reverse_cons, List.reverse_nil, List.nil_append, List.cons_append, List.length_cons, List.length_nil, cond_true, cond_false, and_true, true_and, Nat.zero_add, Nat.add_zero, Nat.reduceAdd, Nat.reduceLT, Nat.reduceLeDiff, Nat.reduceEqDiff, Nat.reduceBEq, Nat.reduceSub, ↓reduceIte, Int32.reduceOfNat, Int64.reduceOfNat, reduceCtorEq, Nat.le_refl, Nat.zero_le, Bool.false_eq_true, beq_self_eq_true, Fin.isValue, Fin.val_zero, Fin.val_one, Fin.reduceFinMk, Fin.val_two, Nat.reduceMod, Bool.or_false, Bool.or_true, Bool.true_or, Bool.false_or, not_true_eq_false, not_false_eq_true, true_or, or_true, implies_true, false_implies, true_implies, Int32.reduceLT, Int32.reduceLE, ↓w_TAB3, ↓w_TAB4, ↓w_TAB5, ↓w_TAB7, ↓w_TAB10, ↓w_LK2, ↓w_LK6, false_and, and_false, i1z, i2z, iz1, im0, im1, l0z, h.1, hm, i10, i2z]
  rw [e1, e2]
  refine and_ii (fun q => ?_) (fun q => ?_)
  · rw [b2i_f (by (simp only [i_lt, i_le, i_eq, l_lt, l_le, l_eq, Int32.toInt_toInt64, Int32.reduceToInt, Int64.reduceToInt, ne_eq, Classical.not_not] at *; omega))] at hQ; exact hQ
  · rw [b2i_t (by (simp only [i_lt, i_le, i_eq, l_lt, l_le, l_eq, Int32.toInt_toInt64, Int32.reduceToInt, Int64.reduceToInt, ne_eq, Classical.not_not] at *; omega))] at hQ; exact hQ
end MQ
