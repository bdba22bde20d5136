/-! SEARCHES: the reference -/
section TBM
variable {G : En} {M M0 : Mem} {Q : Option Value → Mem → Prop} {X : String → Mem → Prop} {f : Nat → Nat → Nat} {N K V a b p q r n m n' : Nat} {g h : Nat → Nat} {x y z u : Int32}
theorem lp_mGood (hk0 : hasK M r (.inl (.int, N))) (hN : p + n ≤ N ∧ N < 2147483648) (hn : n ≤ 100) (hrow : ∀ i, i < n → mI M r (p + i) = nI (g i)) (hg : ∀ i, i < n → g i < 10) (hQ : Q (some (.int (b2i (lsum (fun k => g (n - 1 - k)) n % 10 = 0)))) M) : ∀ (m i : Nat) (l : Option Value), m + i = n → lsum (fun k => g (n - 1 - k)) i ≤ 9 * i → Go G (MT 192) Q X 5 [some (.ref r), some (.int (nI p)), some (.int (nI n)), some (.int (nI (lsum (fun k => g (n - 1 - k)) i))), some (.int (nI i)), l] [] M 0 0 := by
  intro m
  induction m with
  | zero =>
    intro i l hi hb
    have hi : i = n := by omega
    subst hi
    generalize lsum (fun k => g (i - 1 - k)) i = W at *
    have er : nI W - nI W / 10 * 10 = nI (W % 10) := nI_rem (b := 10) (by omega) (by omega) (by omega)
    have tw := nI_toInt (n := W % 10) (by omega)
    refine r_X12_isGood (fun n => n == 5) 60 ?_
    simp only [cd_X12_isGood, cf_X12_isGood, wp, wq, wpI, cdF, w_CI, w_CL, w_CN, w_LI, w_LL, w_LA, w_SI, w_SL, w_SA, w_INC, w_II, w_IId, w_LLb, w_LLd, w_LS, w_I1, w_L1, w_I2L, w_L2I, w_CMP, w_DUP, w_POP, w_DUP2, w_IF, w_IC, w_GO, w_NUL, w_ACN, prs, w_GF, w_PF, w_GS, w_IAL, w_LEN, w_LAL, w_ZAL, w_AAL, w_IAS, w_LAS, w_ZAS, w_AAS, w_RI, w_RL, w_RA, w_NEW, w_NA, w_MNA, w_OI, w_THR, w_CV, w_CS, w_CN9, w_CI9, w_MX, w_cont, lget, sto1, sto2, wideV, vo, vo_rv, isR, isR_rv, rv, fget, fput, cats, Value.category, List.headD_cons, List.getD_cons_zero, List.getD_cons_succ, List.drop_succ_cons, List.drop_zero, List.take_succ_cons, List.take_zero, List.reverse_cons, List.reverse_nil, List.nil_append, List.cons_append, List.length_cons, List.length_nil, cond_true, cond_false, and_true, true_and, Nat.zero_add, Nat.add_zero, Nat.reduceAdd, Nat.reduceLT, Nat.reduceLeDiff, Nat.reduceEqDiff, Nat.reduceBEq, Nat.reduceSub, ↓reduceIte, Int32.reduceOfNat, Int64.reduceOfNat, reduceCtorEq, Nat.le_refl, Nat.zero_le, Bool.false_eq_true, beq_self_eq_true, Fin.isValue, Fin.val_zero, Fin.val_one, Fin.reduceFinMk, Fin.val_two, Nat.reduceMod, Bool.or_false, Bool.or_true, Bool.true_or, Bool.false_or, not_true_eq_false, not_false_eq_true, true_or, or_true, implies_true, false_implies, true_implies, Int32.reduceLT, Int32.reduceLE, ↓w_TAB3, ↓w_TAB4, ↓w_TAB5, ↓w_TAB7, ↓w_TAB10, ↓w_LK2, ↓w_LK6, false_and, and_false, i1z, i2z, iz1, im0, im1, l0z, i10z, er]
    refine ⟨fun _ => ?_, fun q => absurd (nI_le (Nat.le_refl i) (by omega)) q⟩
    refine and_ii (fun q => ?_) (fun q => ?_)
    · rw [b2i_f (by (simp only [i_lt, i_le, i_eq, l_lt, l_le, l_eq, Int32.toInt_toInt64, Int32.reduceToInt, Int64.reduceToInt, ne_eq, Classical.not_not] at *; omega))] at hQ; exact hQ
    · rw [b2i_t (by (simp only [i_lt, i_le, i_eq, l_lt, l_le, l_eq, Int32.toInt_toInt64, Int32.reduceToInt, Int64.reduceToInt, ne_eq, Classical.not_not] at *; omega))] at hQ; exact hQ
  | succ m ih =>
    intro i l hi hb
    have ti := nI_toInt (n := i) (by omega)
    have tn := nI_toInt (n := n) (by omega)
    have ih' := ih (i + 1)
    have hgi := hg (n - 1 - i) (by omega)
    have hri := hrow (n - 1 - i) (by omega)
    have e1 : nI p + nI n - 1 - nI i = nI (p + (n - 1 - i)) := by
      rw [nI_add, show (1 : Int32) = nI 1 from rfl, nI_sub (by omega) (by omega), nI_sub (by omega) (by omega)]
      congr 1; omega
    have c1 := nI_clamp (n := p + (n - 1 - i)) (by omega)
    have e4 : nI i - nI i / 2 * 2 = nI (i % 2) := nI_rem (b := 2) (by omega) (by omega) (by omega)
    have tp := nI_toInt (n := i % 2) (by omega)
    have tg := nI_toInt (n := g (n - 1 - i)) (by omega)
    have e5 : (2 : Int32) * nI (g (n - 1 - i)) = nI (2 * g (n - 1 - i)) := nI_mul (a := 2) (by omega) (by omega) (by omega)
    rw [lsum] at ih'
    generalize lsum (fun k => g (n - 1 - k)) i = W at *
    generalize g (n - 1 - i) = d at *
    refine r_X12_isGood (fun n => n == 5) 60 ?_
    simp only [cd_X12_isGood, cf_X12_isGood, wp, wq, wpI, cdF, w_CI, w_CL, w_CN, w_LI, w_LL, w_LA, w_SI, w_SL, w_SA, w_INC, w_II, w_IId, w_LLb, w_LLd, w_LS, w_I1, w_L1, w_I2L, w_L2I, w_CMP, w_DUP, w_POP, w_DUP2, w_IF, w_IC, w_GO, w_NUL, w_ACN, prs, w_GF, w_PF, w_GS, w_IAL, w_LEN, w_LAL, w_ZAL, w_AAL, w_IAS, w_LAS, w_ZAS, w_AAS, w_RI, w_RL, w_RA, w_NEW, w_NA, w_MNA, w_OI, w_THR, w_CV, w_CS, w_CN9, w_CI9, w_MX, w_cont, lget, sto1, sto2, wideV, vo, vo_rv, isR, isR_rv, rv, fget, fput, cats, Value.category, List.headD_cons, List.getD_cons_zero, List.getD_cons_succ, List.drop_succ_cons, List.drop_zero, List.take_succ_cons, List.take_zero, List.reverse_cons, List.reverse_nil, List.nil_append, List.cons_append, List.length_cons, List.length_nil, cond_true, cond_false, and_true, true_and, Nat.zero_add, Nat.add_zero, Nat.reduceAdd, Nat.reduceLT, Nat.reduceLeDiff, Nat.reduceEqDiff, Nat.reduceBEq, Nat.reduceSub, ↓reduceIte, Int32.reduceOfNat, Int64.reduceOfNat, reduceCtorEq, Nat.le_refl, Nat.zero_le, Bool.false_eq_true, beq_self_eq_true, Fin.isValue, Fin.val_zero, Fin.val_one, Fin.reduceFinMk, Fin.val_two, Nat.reduceMod, Bool.or_false, Bool.or_true, Bool.true_or, Bool.false_or, not_true_eq_false, not_false_eq_true, true_or, or_true, implies_true, false_implies, true_implies, Int32.reduceLT, Int32.reduceLE, ↓w_TAB3, ↓w_TAB4, ↓w_TAB5, ↓w_TAB7, ↓w_TAB10, ↓w_LK2, ↓w_LK6, false_and, and_false, i1z, i2z, iz1, im0, im1, l0z, i2z, nI_1, e1, c1, hri, e4, e5]
    simp only [nI_add]
    refine and_ii (fun q => ?_) (fun _ => ⟨_, hk0, vp_in_nI (by omega) hN.2, and_ii (fun q => and_ii (fun q2 => ?_) (fun q2 => ?_)) (fun q => ?_)⟩)
    · exfalso; (simp only [i_lt, i_le, i_eq, l_lt, l_le, l_eq, Int32.toInt_toInt64, Int32.reduceToInt, Int64.reduceToInt, ne_eq, Classical.not_not] at *; omega)
    · have h1 : ¬ i % 2 = 0 := by (simp only [i_lt, i_le, i_eq, l_lt, l_le, l_eq, Int32.toInt_toInt64, Int32.reduceToInt, Int64.reduceToInt, ne_eq, Classical.not_not] at *; omega)
      have h2 : ¬ d < 5 := by (simp only [i_lt, i_le, i_eq, l_lt, l_le, l_eq, Int32.toInt_toInt64, Int32.reduceToInt, Int64.reduceToInt, ne_eq, Classical.not_not] at *; omega)
      rw [if_neg h1, if_neg h2] at ih'
      have e7 : nI (2 * d) - 9 = nI (2 * d - 9) := nI_sub (b := 9) (by omega) (by omega)
      simp only [e7, nI_add]
      exact ih' _ (by omega) (by omega)
    · have h1 : ¬ i % 2 = 0 := by (simp only [i_lt, i_le, i_eq, l_lt, l_le, l_eq, Int32.toInt_toInt64, Int32.reduceToInt, Int64.reduceToInt, ne_eq, Classical.not_not] at *; omega)
      have h2 : d < 5 := by (simp only [i_lt, i_le, i_eq, l_lt, l_le, l_eq, Int32.toInt_toInt64, Int32.reduceToInt, Int64.reduceToInt, ne_eq, Classical.not_not] at *; omega)
      rw [if_neg h1, if_pos h2] at ih'
      exact ih' _ (by omega) (by omega)
    · have h1 : i % 2 = 0 := by (simp only [i_lt, i_le, i_eq, l_lt, l_le, l_eq, Int32.toInt_toInt64, Int32.reduceToInt, Int64.reduceToInt, ne_eq, Classical.not_not] at *; omega)
      rw [if_pos h1] at ih'
      exact ih' _ (by omega) (by omega)
theorem m_isGood (hk0 : hasK M r (.inl (.int, N))) (hN : p + n ≤ N ∧ N < 2147483648) (hn : n ≤ 100) (hrow : ∀ i, i < n → mI M r (p + i) = nI (g i)) (hg : ∀ i, i < n → g i < 10) (hx : x = nI p) (hy : y = nI n) (hQ : Q (some (.int (b2i (lsum (fun k => g (n - 1 - k)) n % 10 = 0)))) M) : Ct G (MT 192) [.ref r, .int x, .int y] M Q X := by
  subst hx hy
  refine Ct.go (L0 := [some (.ref r), some (.int (nI p)), some (.int (nI n)), none, none, none]) (by decide +kernel) rfl rfl ?_
  refine r_X12_isGood (fun n => n == 5) 60 ?_
  simp only [cd_X12_isGood, cf_X12_isGood, wp, wq, wpI, cdF, w_CI, w_CL, w_CN, w_LI, w_LL, w_LA, w_SI, w_SL, w_SA, w_INC, w_II, w_IId, w_LLb, w_LLd, w_LS, w_I1, w_L1, w_I2L, w_L2I, w_CMP, w_DUP, w_POP, w_DUP2, w_IF, w_IC, w_GO, w_NUL, w_ACN, prs, w_GF, w_PF, w_GS, w_IAL, w_LEN, w_LAL, w_ZAL, w_AAL, w_IAS, w_LAS, w_ZAS, w_AAS, w_RI, w_RL, w_RA, w_NEW, w_NA, w_MNA, w_OI, w_THR, w_CV, w_CS, w_CN9, w_CI9, w_MX, w_cont, lget, sto1, sto2, wideV, vo, vo_rv, isR, isR_rv, rv, fget, fput, cats, Value.category, List.headD_cons, List.getD_cons_zero, List.getD_cons_succ, List.drop_succ_cons, List.drop_zero, List.take_succ_cons, List.take_zero, List.reverse_cons, List.reverse_nil, List.nil_append, List.cons_append, List.length_cons, List.length_nil, cond_true, cond_false, and_true, true_and, Nat.zero_add, Nat.add_zero, Nat.reduceAdd, Nat.reduceLT, Nat.reduceLeDiff, Nat.reduceEqDiff, Nat.reduceBEq, Nat.reduceSub, ↓reduceIte, Int32.reduceOfNat, Int64.reduceOfNat, reduceCtorEq, Nat.le_refl, Nat.zero_le, Bool.false_eq_true, beq_self_eq_true, Fin.isValue, Fin.val_zero, Fin.val_one, Fin.reduceFinMk, Fin.val_two, Nat.reduceMod, Bool.or_false, Bool.or_true, Bool.true_or, Bool.false_or, not_true_eq_false, not_false_eq_true, true_or, or_true, implies_true, false_implies, true_implies, Int32.reduceLT, Int32.reduceLE, ↓w_TAB3, ↓w_TAB4, ↓w_TAB5, ↓w_TAB7, ↓w_TAB10, ↓w_LK2, ↓w_LK6, false_and, and_false, i1z, i2z, iz1, im0, im1, l0z]
  exact lp_mGood hk0 hN hn hrow hg hQ n 0 none (by omega) (by simp [lsum])
theorem eqN_f {f g : Nat → Nat} {n j : Nat} (h : j < n) (hn : f j ≠ g j) : eqN f g n = false := by
  cases e : eqN f g n
  · rfl
  · exact absurd (eqN_iff.mp e j h) hn
theorem lp_same {N' : Nat} (hka : hasK M a (.inl (.int, N))) (hkb : hasK M b (.inl (.int, N'))) (hN : p + n ≤ N ∧ N < 2147483648) (hN' : q + n ≤ N' ∧ N' < 2147483648) (hn : n < 1000) (hra : ∀ i, i < n → mI M a (p + i) = nI (g i)) (hrb : ∀ i, i < n → mI M b (q + i) = nI (h i)) (hg : ∀ i, i < n → g i < 100 ∧ h i < 100) {y : Int32} (hQ : Q (some (.int (b2i (eqN g h n = true)))) M) : ∀ (m k : Nat), m + k = n → eqN g h k = true → Go G (MT 193) Q X 16 [some (.ref a), some (.int (nI p)), some (.int (nI n)), some (.ref b), some (.int (nI q)), some (.int y), some (.int 1), some (.int (nI k))] [] M 0 0 := by
  intro m
  induction m with
  | zero =>
    intro k hk he
    have hk : k = n := by omega
    subst hk
    refine r_X12_same (fun n => n == 16) 60 ?_
    simp only [cd_X12_same, cf_X12_same, wp, wq, wpI, cdF, w_CI, w_CL, w_CN, w_LI, w_LL, w_LA, w_SI, w_SL, w_SA, w_INC, w_II, w_IId, w_LLb, w_LLd, w_LS, w_I1, w_L1, w_I2L, w_L2I, w_CMP, w_DUP, w_POP, w_DUP2, w_IF, w_IC, w_GO, w_NUL, w_ACN, prs, w_GF, w_PF, w_GS, w_IAL, w_LEN, w_LAL, w_ZAL, w_AAL, w_IAS, w_LAS, w_ZAS, w_AAS, w_RI, w_RL, w_RA, w_NEW, w_NA, w_MNA, w_OI, w_THR, w_CV, w_CS, w_CN9, w_CI9, w_MX, w_cont, lget, sto1, sto2, wideV, vo, vo_rv, isR, isR_rv, rv, fget, fput, cats, Value.category, List.headD_cons, List.getD_cons_zero, List.getD_cons_succ, List.drop_succ_cons, List.drop_zero, List.take_succ_cons, List.take_zero, List.reverse_cons, List.reverse_nil, List.nil_append, List.cons_append, List.length_cons, List.length_nil, cond_true, cond_false, and_true, true_and, Nat.zero_add, Nat.add_zero, Nat.reduceAdd, Nat.reduceLT, Nat.reduceLeDiff, Nat.reduceEqDiff, Nat.reduceBEq, Nat.reduceSub, ↓reduceIte, Int32.reduceOfNat, Int64.reduceOfNat, reduceCtorEq, Nat.le_refl, Nat.zero_le, Bool.false_eq_true, beq_self_eq_true, Fin.isValue, Fin.val_zero, Fin.val_one, Fin.reduceFinMk, Fin.val_two, Nat.reduceMod, Bool.or_false, Bool.or_true, Bool.true_or, Bool.false_or, not_true_eq_false, not_false_eq_true, true_or, or_true, implies_true, false_implies, true_implies, Int32.reduceLT, Int32.reduceLE, ↓w_TAB3, ↓w_TAB4, ↓w_TAB5, ↓w_TAB7, ↓w_TAB10, ↓w_LK2, ↓w_LK6, false_and, and_false, i1z, i2z, iz1, im0, im1, l0z]
    refine ⟨fun _ => ?_, fun q => absurd (nI_le (Nat.le_refl k) (by omega)) q⟩
    rw [b2i_t he] at hQ
    exact hQ
  | succ m ih =>
    intro k hk he
    have tk := nI_toInt (n := k) (by omega)
    have tn := nI_toInt (n := n) (by omega)
    have e1 : nI p + nI k = nI (p + k) := nI_add _ _
    have e2 : nI q + nI k = nI (q + k) := nI_add _ _
    have c1 := nI_clamp (n := p + k) (by omega)
    have c2 := nI_clamp (n := q + k) (by omega)
    have hgk := hg k (by omega)
    have ih' := ih (k + 1) (by omega)
    refine r_X12_same (fun n => n == 16) 60 ?_
    simp only [cd_X12_same, cf_X12_same, wp, wq, wpI, cdF, w_CI, w_CL, w_CN, w_LI, w_LL, w_LA, w_SI, w_SL, w_SA, w_INC, w_II, w_IId, w_LLb, w_LLd, w_LS, w_I1, w_L1, w_I2L, w_L2I, w_CMP, w_DUP, w_POP, w_DUP2, w_IF, w_IC, w_GO, w_NUL, w_ACN, prs, w_GF, w_PF, w_GS, w_IAL, w_LEN, w_LAL, w_ZAL, w_AAL, w_IAS, w_LAS, w_ZAS, w_AAS, w_RI, w_RL, w_RA, w_NEW, w_NA, w_MNA, w_OI, w_THR, w_CV, w_CS, w_CN9, w_CI9, w_MX, w_cont, lget, sto1, sto2, wideV, vo, vo_rv, isR, isR_rv, rv, fget, fput, cats, Value.category, List.headD_cons, List.getD_cons_zero, List.getD_cons_succ, List.drop_succ_cons, List.drop_zero, List.take_succ_cons, List.take_zero, List.reverse_cons, List.reverse_nil, List.nil_append, List.cons_append, List.length_cons, List.length_nil, cond_true, cond_false, and_true, true_and, Nat.zero_add, Nat.add_zero, Nat.reduceAdd, Nat.reduceLT, Nat.reduceLeDiff, Nat.reduceEqDiff, Nat.reduceBEq, Nat.reduceSub, ↓reduceIte, Int32.reduceOfNat, Int64.reduceOfNat, reduceCtorEq, Nat.le_refl, Nat.zero_le, Bool.false_eq_true, beq_self_eq_true, Fin.isValue, Fin.val_zero, Fin.val_one, Fin.reduceFinMk, Fin.val_two, Nat.reduceMod, Bool.or_false, Bool.or_true, Bool.true_or, Bool.false_or, not_true_eq_false, not_false_eq_true, true_or, or_true, implies_true, false_implies, true_implies, Int32.reduceLT, Int32.reduceLE, ↓w_TAB3, ↓w_TAB4, ↓w_TAB5, ↓w_TAB7, ↓w_TAB10, ↓w_LK2, ↓w_LK6, false_and, and_false, i1z, i2z, iz1, im0, im1, l0z, nI_1, e1, e2, c1, c2, hra k (by omega), hrb k (by omega), i1z]
    refine and_ii (fun q => ?_) (fun _ => ⟨_, hka, vp_in_nI (by omega) hN.2, _, hkb, vp_in_nI (by omega) hN'.2, and_ii (fun q => ?_) (fun q => ?_)⟩)
    · exfalso; (simp only [i_lt, i_le, i_eq, l_lt, l_le, l_eq, Int32.toInt_toInt64, Int32.reduceToInt, Int64.reduceToInt, ne_eq, Classical.not_not] at *; omega)
    · have q1 : g k ≠ h k := fun e => q (by rw [e])
      refine r_X12_same (fun n => n == 16) 60 ?_
      simp only [cd_X12_same, cf_X12_same, wp, wq, wpI, cdF, w_CI, w_CL, w_CN, w_LI, w_LL, w_LA, w_SI, w_SL, w_SA, w_INC, w_II, w_IId, w_LLb, w_LLd, w_LS, w_I1, w_L1, w_I2L, w_L2I, w_CMP, w_DUP, w_POP, w_DUP2, w_IF, w_IC, w_GO, w_NUL, w_ACN, prs, w_GF, w_PF, w_GS, w_IAL, w_LEN, w_LAL, w_ZAL, w_AAL, w_IAS, w_LAS, w_ZAS, w_AAS, w_RI, w_RL, w_RA, w_NEW, w_NA, w_MNA, w_OI, w_THR, w_CV, w_CS, w_CN9, w_CI9, w_MX, w_cont, lget, sto1, sto2, wideV, vo, vo_rv, isR, isR_rv, rv, fget, fput, cats, Value.category, List.headD_cons, List.getD_cons_zero, List.getD_cons_succ, List.drop_succ_cons, List.drop_zero, List.take_succ_cons, List.take_zero, List.reverse_cons, List.reverse_nil, List.nil_append, List.cons_append, List.length_cons, List.length_nil, cond_true, cond_false, and_true, true_and, Nat.zero_add, Nat.add_zero, Nat.reduceAdd, Nat.reduceLT, Nat.reduceLeDiff, Nat.reduceEqDiff, Nat.reduceBEq, Nat.reduceSub, ↓reduceIte, Int32.reduceOfNat, Int64.reduceOfNat, reduceCtorEq, Nat.le_refl, Nat.zero_le, Bool.false_eq_true, beq_self_eq_true, Fin.isValue, Fin.val_zero, Fin.val_one, Fin.reduceFinMk, Fin.val_two, Nat.reduceMod, Bool.or_false, Bool.or_true, Bool.true_or, Bool.false_or, not_true_eq_false, not_false_eq_true, true_or, or_true, implies_true, false_implies, true_implies, Int32.reduceLT, Int32.reduceLE, ↓w_TAB3, ↓w_TAB4, ↓w_TAB5, ↓w_TAB7, ↓w_TAB10, ↓w_LK2, ↓w_LK6, false_and, and_false, i1z, i2z, iz1, im0, im1, l0z, eq_self]
      rw [eqN_f (by omega) q1, b2i_f (by simp)] at hQ
      exact ⟨fun _ => hQ, fun _ => hQ⟩
    · have q1 : g k = h k := (nI_eq (by omega) (by omega)).mp (Classical.not_not.mp q)
      exact ih' (by rw [eqN, he, q1]; simp)
theorem m_same {N' : Nat} (hka : hasK M a (.inl (.int, N))) (hkb : hasK M b (.inl (.int, N'))) (hN : p + n ≤ N ∧ N < 2147483648) (hN' : n = n' → q + n ≤ N' ∧ N' < 2147483648) (hn : n < 1000 ∧ n' < 1000) (hra : ∀ i, i < n → mI M a (p + i) = nI (g i)) (hrb : n = n' → ∀ i, i < n → mI M b (q + i) = nI (h i)) (hg : n = n' → ∀ i, i < n → g i < 100 ∧ h i < 100) (hx : x = nI p) (hy : y = nI n) (hz : z = nI q) (hu : u = nI n') (hQ : Q (some (.int (b2i (n = n' ∧ eqN g h n = true)))) M) : Ct G (MT 193) [.ref a, .int x, .int y, .ref b, .int z, .int u] M Q X := by
  subst hx hy hz hu
  refine Ct.go (L0 := [some (.ref a), some (.int (nI p)), some (.int (nI n)), some (.ref b), some (.int (nI q)), some (.int (nI n')), none, none]) (by decide +kernel) rfl rfl ?_
  refine r_X12_same (fun n => n == 16) 60 ?_
  simp only [cd_X12_same, cf_X12_same, wp, wq, wpI, cdF, w_CI, w_CL, w_CN, w_LI, w_LL, w_LA, w_SI, w_SL, w_SA, w_INC, w_II, w_IId, w_LLb, w_LLd, w_LS, w_I1, w_L1, w_I2L, w_L2I, w_CMP, w_DUP, w_POP, w_DUP2, w_IF, w_IC, w_GO, w_NUL, w_ACN, prs, w_GF, w_PF, w_GS, w_IAL, w_LEN, w_LAL, w_ZAL, w_AAL, w_IAS, w_LAS, w_ZAS, w_AAS, w_RI, w_RL, w_RA, w_NEW, w_NA, w_MNA, w_OI, w_THR, w_CV, w_CS, w_CN9, w_CI9, w_MX, w_cont, lget, sto1, sto2, wideV, vo, vo_rv, isR, isR_rv, rv, fget, fput, cats, Value.category, List.headD_cons, List.getD_cons_zero, List.getD_cons_succ, List.drop_succ_cons, List.drop_zero, List.take_succ_cons, List.take_zero, List.reverse_cons, List.reverse_nil, List.nil_append, List.cons_append, List.length_cons, List.length_nil, cond_true, cond_false, and_true, true_and, Nat.zero_add, Nat.add_zero, Nat.reduceAdd, Nat.reduceLT, Nat.reduceLeDiff, Nat.reduceEqDiff, Nat.reduceBEq, Nat.reduceSub, ↓reduceIte, Int32.reduceOfNat, Int64.reduceOfNat, reduceCtorEq, Nat.le_refl, Nat.zero_le, Bool.false_eq_true, beq_self_eq_true, Fin.isValue, Fin.val_zero, Fin.val_one, Fin.reduceFinMk, Fin.val_two, Nat.reduceMod, Bool.or_false, Bool.or_true, Bool.true_or, Bool.false_or, not_true_eq_false, not_false_eq_true, true_or, or_true, implies_true, false_implies, true_implies, Int32.reduceLT, Int32.reduceLE, ↓w_TAB3, ↓w_TAB4, ↓w_TAB5, ↓w_TAB7, ↓w_TAB10, ↓w_LK2, ↓w_LK6, false_and, and_false, i1z, i2z, iz1, im0, im1, l0z]
  refine and_ii (fun e => ?_) (fun e => ?_)
  · have e1 : ¬ n = n' := fun q => e (by rw [q])
    refine r_X12_same (fun n => n == 16) 60 ?_
    simp only [cd_X12_same, cf_X12_same, wp, wq, wpI, cdF, w_CI, w_CL, w_CN, w_LI, w_LL, w_LA, w_SI, w_SL, w_SA, w_INC, w_II, w_IId, w_LLb, w_LLd, w_LS, w_I1, w_L1, w_I2L, w_L2I, w_CMP, w_DUP, w_POP, w_DUP2, w_IF, w_IC, w_GO, w_NUL, w_ACN, prs, w_GF, w_PF, w_GS, w_IAL, w_LEN, w_LAL, w_ZAL, w_AAL, w_IAS, w_LAS, w_ZAS, w_AAS, w_RI, w_RL, w_RA, w_NEW, w_NA, w_MNA, w_OI, w_THR, w_CV, w_CS, w_CN9, w_CI9, w_MX, w_cont, lget, sto1, sto2, wideV, vo, vo_rv, isR, isR_rv, rv, fget, fput, cats, Value.category, List.headD_cons, List.getD_cons_zero, List.getD_cons_succ, List.drop_succ_cons, List.drop_zero, List.take_succ_cons, List.take_zero, List.reverse_cons, List.reverse_nil, List.nil_append, List.cons_append, List.length_cons, List.length_nil, cond_true, cond_false, and_true, true_and, Nat.zero_add, Nat.add_zero, Nat.reduceAdd, Nat.reduceLT, Nat.reduceLeDiff, Nat.reduceEqDiff, Nat.reduceBEq, Nat.reduceSub, ↓reduceIte, Int32.reduceOfNat, Int64.reduceOfNat, reduceCtorEq, Nat.le_refl, Nat.zero_le, Bool.false_eq_true, beq_self_eq_true, Fin.isValue, Fin.val_zero, Fin.val_one, Fin.reduceFinMk, Fin.val_two, Nat.reduceMod, Bool.or_false, Bool.or_true, Bool.true_or, Bool.false_or, not_true_eq_false, not_false_eq_true, true_or, or_true, implies_true, false_implies, true_implies, Int32.reduceLT, Int32.reduceLE, ↓w_TAB3, ↓w_TAB4, ↓w_TAB5, ↓w_TAB7, ↓w_TAB10, ↓w_LK2, ↓w_LK6, false_and, and_false, i1z, i2z, iz1, im0, im1, l0z, eq_self]
    rw [b2i_f (fun q => e1 q.1)] at hQ
    exact ⟨fun _ => hQ, fun _ => hQ⟩
  · have e1 : n = n' := (nI_eq (by omega) (by omega)).mp (Classical.not_not.mp e)
    subst e1
    refine lp_same hka hkb hN (hN' rfl) hn.1 hra (hrb rfl) (hg rfl) ?_ n 0 (by omega) rfl
    by_cases e2 : eqN g h n = true
    · rw [b2i_t ⟨rfl, e2⟩] at hQ; rw [b2i_t e2]; exact hQ
    · rw [b2i_f (fun q => e2 q.2)] at hQ; rw [b2i_f e2]; exact hQ
/-- the number of the first digits, at most n -/
theorem lp_rout1 (hL : LF M) {best l : Option Value} (hk0 : hasK M r (.inl (.int, N))) (hN : p + n ≤ N ∧ N < 2147483648) (hn : n ≤ 19) (hrow : ∀ i, i < n → mI M r (p + i) = nI (g i)) (hg : ∀ i, i < n → g i < 10) (hk : K < 40) (hd : mI M 505 K = nI V) (hV : V ≤ 8) (hQ : Go G (MT 191) Q X 62 [some (.ref 495), some (.ref r), some (.int (nI p)), some (.int (nI n)), best, l, some (.int (nI K)), some (.int (nI (vl g (min V n)))), some (.int (nI (min V n)))] [] M 0 0) : ∀ (m j : Nat), m + j = min V n → Go G (MT 191) Q X 24 [some (.ref 495), some (.ref r), some (.int (nI p)), some (.int (nI n)), best, l, some (.int (nI K)), some (.int (nI (vl g j))), some (.int (nI j))] [] M 0 0 := by
  have cK := nI_clamp (n := K) (by omega)
  have tV := nI_toInt (n := V) (by omega)
  have tn := nI_toInt (n := n) (by omega)
  intro m
  induction m with
  | zero =>
    intro j hj
    have hj : j = min V n := by omega
    have tj := nI_toInt (n := j) (by omega)
    have hlt : ¬ (j < V ∧ j < n) := by omega
    subst hj
    refine r_X12_routed (fun n => n == 24 || n == 62) 60 ?_
    simp only [cd_X12_routed, cf_X12_routed, wp, wq, wpI, cdF, w_CI, w_CL, w_CN, w_LI, w_LL, w_LA, w_SI, w_SL, w_SA, w_INC, w_II, w_IId, w_LLb, w_LLd, w_LS, w_I1, w_L1, w_I2L, w_L2I, w_CMP, w_DUP, w_POP, w_DUP2, w_IF, w_IC, w_GO, w_NUL, w_ACN, prs, w_GF, w_PF, w_GS, w_IAL, w_LEN, w_LAL, w_ZAL, w_AAL, w_IAS, w_LAS, w_ZAS, w_AAS, w_RI, w_RL, w_RA, w_NEW, w_NA, w_MNA, w_OI, w_THR, w_CV, w_CS, w_CN9, w_CI9, w_MX, w_cont, lget, sto1, sto2, wideV, vo, vo_rv, isR, isR_rv, rv, fget, fput, cats, Value.category, List.headD_cons, List.getD_cons_zero, List.getD_cons_succ, List.drop_succ_cons, List.drop_zero, List.take_succ_cons, List.take_zero, List.reverse_cons, List.reverse_nil, List.nil_append, List.cons_append, List.length_cons, List.length_nil, cond_true, cond_false, and_true, true_and, Nat.zero_add, Nat.add_zero, Nat.reduceAdd, Nat.reduceLT, Nat.reduceLeDiff, Nat.reduceEqDiff, Nat.reduceBEq, Nat.reduceSub, ↓reduceIte, Int32.reduceOfNat, Int64.reduceOfNat, reduceCtorEq, Nat.le_refl, Nat.zero_le, Bool.false_eq_true, beq_self_eq_true, Fin.isValue, Fin.val_zero, Fin.val_one, Fin.reduceFinMk, Fin.val_two, Nat.reduceMod, Bool.or_false, Bool.or_true, Bool.true_or, Bool.false_or, not_true_eq_false, not_false_eq_true, true_or, or_true, implies_true, false_implies, true_implies, Int32.reduceLT, Int32.reduceLE, ↓w_TAB3, ↓w_TAB4, ↓w_TAB5, ↓w_TAB7, ↓w_TAB10, ↓w_LK2, ↓w_LK6, false_and, and_false, i1z, i2z, iz1, im0, im1, l0z, hasK_uI, hasK_uL, hasK_uR, hasK_uZ, hasK_sRow, mR_uI, mR_uL, mR_uZ, mR_sRow, mI_uL, mI_uR, mI_uZ, mL_uI, mL_uR, mL_uZ, mL_sRow, LF.hg hL, layF, LF.r hL, refF, ne_eq, not_false_eq_true, Option.some.injEq, Sum.inl.injEq, Sum.inr.injEq, Prod.mk.injEq, exists_eq_left, exists_eq_left', cK, hd]
    refine ⟨vp_in_nI (by omega) (by omega), and_ii (fun _ => hQ) (fun q => and_ii (fun _ => hQ) (fun q2 => ?_))⟩
    exfalso; (simp only [i_lt, i_le, i_eq, l_lt, l_le, l_eq, Int32.toInt_toInt64, Int32.reduceToInt, Int64.reduceToInt, ne_eq, Classical.not_not] at *; omega)
  | succ m ih =>
    intro j hj
    have tj := nI_toInt (n := j) (by omega)
    have e1 : nI p + nI j = nI (p + j) := nI_add _ _
    have c1 := nI_clamp (n := p + j) (by omega)
    have hb : vl g j < 10 ^ j := vl_lt (fun i hi => hg i (by omega))
    have hb2 : 10 ^ j ≤ 10 ^ 8 := Nat.pow_le_pow_right (by omega) (by omega)
    have hgj := hg j (by omega)
    have e2 : (10 : Int32) * nI (vl g j) = nI (10 * vl g j) := nI_mul (a := 10) (by omega) (by omega) (by omega)
    have e3 : nI (10 * vl g j) + nI (g j) = nI (vl g (j + 1)) := by rw [nI_add, vl, Nat.mul_comm]
    have ih' := ih (j + 1) (by omega)
    refine r_X12_routed (fun n => n == 24 || n == 62) 60 ?_
    simp only [cd_X12_routed, cf_X12_routed, wp, wq, wpI, cdF, w_CI, w_CL, w_CN, w_LI, w_LL, w_LA, w_SI, w_SL, w_SA, w_INC, w_II, w_IId, w_LLb, w_LLd, w_LS, w_I1, w_L1, w_I2L, w_L2I, w_CMP, w_DUP, w_POP, w_DUP2, w_IF, w_IC, w_GO, w_NUL, w_ACN, prs, w_GF, w_PF, w_GS, w_IAL, w_LEN, w_LAL, w_ZAL, w_AAL, w_IAS, w_LAS, w_ZAS, w_AAS, w_RI, w_RL, w_RA, w_NEW, w_NA, w_MNA, w_OI, w_THR, w_CV, w_CS, w_CN9, w_CI9, w_MX, w_cont, lget, sto1, sto2, wideV, vo, vo_rv, isR, isR_rv, rv, fget, fput, cats, Value.category, List.headD_cons, List.getD_cons_zero, List.getD_cons_succ, List.drop_succ_cons, List.drop_zero, List.take_succ_cons, List.take_zero, List.reverse_cons, List.reverse_nil, List.nil_append, List.cons_append, List.length_cons, List.length_nil, cond_true, cond_false, and_true, true_and, Nat.zero_add, Nat.add_zero, Nat.reduceAdd, Nat.reduceLT, Nat.reduceLeDiff, Nat.reduceEqDiff, Nat.reduceBEq, Nat.reduceSub, ↓reduceIte, Int32.reduceOfNat, Int64.reduceOfNat, reduceCtorEq, Nat.le_refl, Nat.zero_le, Bool.false_eq_true, beq_self_eq_true, Fin.isValue, Fin.val_zero, Fin.val_one, Fin.reduceFinMk, Fin.val_two, Nat.reduceMod, Bool.or_false, Bool.or_true, Bool.true_or, Bool.false_or, not_true_eq_false, not_false_eq_true, true_or, or_true, implies_true, false_implies, true_implies, Int32.reduceLT, Int32.reduceLE, ↓w_TAB3, ↓w_TAB4, ↓w_TAB5, ↓w_TAB7, ↓w_TAB10, ↓w_LK2, ↓w_LK6, false_and, and_false, i1z, i2z, iz1, im0, im1, l0z, hasK_uI, hasK_uL, hasK_uR, hasK_uZ, hasK_sRow, mR_uI, mR_uL, mR_uZ, mR_sRow, mI_uL, mI_uR, mI_uZ, mL_uI, mL_uR, mL_uZ, mL_sRow, LF.hg hL, layF, LF.r hL, refF, ne_eq, not_false_eq_true, Option.some.injEq, Sum.inl.injEq, Sum.inr.injEq, Prod.mk.injEq, exists_eq_left, exists_eq_left', cK, hd, e1, c1, hrow j (by omega), e2, e3, nI_1]
    refine ⟨vp_in_nI (by omega) (by omega), and_ii (fun q => ?_) (fun q => and_ii (fun q2 => ?_) (fun q2 => ⟨_, hk0, vp_in_nI (by omega) hN.2, ih'⟩))⟩
    · exfalso; (simp only [i_lt, i_le, i_eq, l_lt, l_le, l_eq, Int32.toInt_toInt64, Int32.reduceToInt, Int64.reduceToInt, ne_eq, Classical.not_not] at *; omega)
    · exfalso; (simp only [i_lt, i_le, i_eq, l_lt, l_le, l_eq, Int32.toInt_toInt64, Int32.reduceToInt, Int64.reduceToInt, ne_eq, Classical.not_not] at *; omega)
theorem lp_routed (hL : LF M) (hk0 : hasK M r (.inl (.int, N))) (hN : p + n ≤ N ∧ N < 2147483648) (hn : n ≤ 19) (hrow : ∀ i, i < n → mI M r (p + i) = nI (g i)) (hg : ∀ i, i < n → g i < 10) (hr : rtM' f K M) (hf : rtGd f K) (hQ : Q (some (.int (nI (bst f (fun d => vl g d) n K).1 - 1))) M) : ∀ (m k : Nat) (l l' : Option Value), m + k = K → Go G (MT 191) Q X 9 [some (.ref 495), some (.ref r), some (.int (nI p)), some (.int (nI n)), some (.int (nI (bst f (fun d => vl g d) n k).1 - 1)), some (.int (nI (bst f (fun d => vl g d) n k).2)), some (.int (nI k)), l, l'] [] M 0 0 := by
  obtain ⟨h24, h40, hro⟩ := hr
  intro m
  induction m with
  | zero =>
    intro k l l' hk
    have hk : k = K := by omega
    subst hk
    refine r_X12_routed (fun n => n == 9 || n == 24 || n == 62) 60 ?_
    simp only [cd_X12_routed, cf_X12_routed, wp, wq, wpI, cdF, w_CI, w_CL, w_CN, w_LI, w_LL, w_LA, w_SI, w_SL, w_SA, w_INC, w_II, w_IId, w_LLb, w_LLd, w_LS, w_I1, w_L1, w_I2L, w_L2I, w_CMP, w_DUP, w_POP, w_DUP2, w_IF, w_IC, w_GO, w_NUL, w_ACN, prs, w_GF, w_PF, w_GS, w_IAL, w_LEN, w_LAL, w_ZAL, w_AAL, w_IAS, w_LAS, w_ZAS, w_AAS, w_RI, w_RL, w_RA, w_NEW, w_NA, w_MNA, w_OI, w_THR, w_CV, w_CS, w_CN9, w_CI9, w_MX, w_cont, lget, sto1, sto2, wideV, vo, vo_rv, isR, isR_rv, rv, fget, fput, cats, Value.category, List.headD_cons, List.getD_cons_zero, List.getD_cons_succ, List.drop_succ_cons, List.drop_zero, List.take_succ_cons, List.take_zero, List.reverse_cons, List.reverse_nil, List.nil_append, List.cons_append, List.length_cons, List.length_nil, cond_true, cond_false, and_true, true_and, Nat.zero_add, Nat.add_zero, Nat.reduceAdd, Nat.reduceLT, Nat.reduceLeDiff, Nat.reduceEqDiff, Nat.reduceBEq, Nat.reduceSub, ↓reduceIte, Int32.reduceOfNat, Int64.reduceOfNat, reduceCtorEq, Nat.le_refl, Nat.zero_le, Bool.false_eq_true, beq_self_eq_true, Fin.isValue, Fin.val_zero, Fin.val_one, Fin.reduceFinMk, Fin.val_two, Nat.reduceMod, Bool.or_false, Bool.or_true, Bool.true_or, Bool.false_or, not_true_eq_false, not_false_eq_true, true_or, or_true, implies_true, false_implies, true_implies, Int32.reduceLT, Int32.reduceLE, ↓w_TAB3, ↓w_TAB4, ↓w_TAB5, ↓w_TAB7, ↓w_TAB10, ↓w_LK2, ↓w_LK6, false_and, and_false, i1z, i2z, iz1, im0, im1, l0z, hasK_uI, hasK_uL, hasK_uR, hasK_uZ, hasK_sRow, mR_uI, mR_uL, mR_uZ, mR_sRow, mI_uL, mI_uR, mI_uZ, mL_uI, mL_uR, mL_uZ, mL_sRow, LF.hg hL, layF, LF.r hL, refF, ne_eq, not_false_eq_true, Option.some.injEq, Sum.inl.injEq, Sum.inr.injEq, Prod.mk.injEq, exists_eq_left, exists_eq_left', h24]
    exact ⟨fun _ => hQ, fun q => absurd (nI_le (Nat.le_refl k) (by omega)) q⟩
  | succ m ih =>
    intro k l l' hk
    have tk := nI_toInt (n := k) (by omega)
    have tN := nI_toInt (n := K) (by omega)
    have tn := nI_toInt (n := n) (by omega)
    have ck := nI_clamp (n := k) (by omega)
    have ih' := ih (k + 1)
    have hb := bst_le (K := n) (ld := fun d => vl g d) hf k (by omega)
    have hfk := hf k (by omega)
    have hrk := hro k (by omega)
    rw [bst] at ih'
    have td := nI_toInt (n := f 505 k) (by omega)
    generalize bst f (fun d => vl g d) n k = B at *
    have tb := nI_toInt (n := B.2) (by omega)
    refine r_X12_routed (fun n => n == 9 || n == 24 || n == 62) 60 ?_
    simp only [cd_X12_routed, cf_X12_routed, wp, wq, wpI, cdF, w_CI, w_CL, w_CN, w_LI, w_LL, w_LA, w_SI, w_SL, w_SA, w_INC, w_II, w_IId, w_LLb, w_LLd, w_LS, w_I1, w_L1, w_I2L, w_L2I, w_CMP, w_DUP, w_POP, w_DUP2, w_IF, w_IC, w_GO, w_NUL, w_ACN, prs, w_GF, w_PF, w_GS, w_IAL, w_LEN, w_LAL, w_ZAL, w_AAL, w_IAS, w_LAS, w_ZAS, w_AAS, w_RI, w_RL, w_RA, w_NEW, w_NA, w_MNA, w_OI, w_THR, w_CV, w_CS, w_CN9, w_CI9, w_MX, w_cont, lget, sto1, sto2, wideV, vo, vo_rv, isR, isR_rv, rv, fget, fput, cats, Value.category, List.headD_cons, List.getD_cons_zero, List.getD_cons_succ, List.drop_succ_cons, List.drop_zero, List.take_succ_cons, List.take_zero, List.reverse_cons, List.reverse_nil, List.nil_append, List.cons_append, List.length_cons, List.length_nil, cond_true, cond_false, and_true, true_and, Nat.zero_add, Nat.add_zero, Nat.reduceAdd, Nat.reduceLT, Nat.reduceLeDiff, Nat.reduceEqDiff, Nat.reduceBEq, Nat.reduceSub, ↓reduceIte, Int32.reduceOfNat, Int64.reduceOfNat, reduceCtorEq, Nat.le_refl, Nat.zero_le, Bool.false_eq_true, beq_self_eq_true, Fin.isValue, Fin.val_zero, Fin.val_one, Fin.reduceFinMk, Fin.val_two, Nat.reduceMod, Bool.or_false, Bool.or_true, Bool.true_or, Bool.false_or, not_true_eq_false, not_false_eq_true, true_or, or_true, implies_true, false_implies, true_implies, Int32.reduceLT, Int32.reduceLE, ↓w_TAB3, ↓w_TAB4, ↓w_TAB5, ↓w_TAB7, ↓w_TAB10, ↓w_LK2, ↓w_LK6, false_and, and_false, i1z, i2z, iz1, im0, im1, l0z, hasK_uI, hasK_uL, hasK_uR, hasK_uZ, hasK_sRow, mR_uI, mR_uL, mR_uZ, mR_sRow, mI_uL, mI_uR, mI_uZ, mL_uI, mL_uR, mL_uZ, mL_sRow, LF.hg hL, layF, LF.r hL, refF, ne_eq, not_false_eq_true, Option.some.injEq, Sum.inl.injEq, Sum.inr.injEq, Prod.mk.injEq, exists_eq_left, exists_eq_left', h24]
    refine and_ii (fun q => ?_) (fun _ => ?_)
    · exfalso; (simp only [i_lt, i_le, i_eq, l_lt, l_le, l_eq, Int32.toInt_toInt64, Int32.reduceToInt, Int64.reduceToInt, ne_eq, Classical.not_not] at *; omega)
    · refine lp_rout1 (V := f 505 k) hL hk0 hN hn hrow hg (by omega) hrk.2.1 (by omega) ?_ (min (f 505 k) n) 0 (by omega)
      have hmv : vl g (min (f 505 k) n) < 100000000 := by
        have h1 : vl g (min (f 505 k) n) < 10 ^ (min (f 505 k) n) := vl_lt (fun i hi => hg i (by omega))
        have h2 : 10 ^ (min (f 505 k) n) ≤ 10 ^ 8 := Nat.pow_le_pow_right (by omega) (by omega)
        omega
      refine r_X12_routed (fun n => n == 9 || n == 24) 60 ?_
      simp only [cd_X12_routed, cf_X12_routed, wp, wq, wpI, cdF, w_CI, w_CL, w_CN, w_LI, w_LL, w_LA, w_SI, w_SL, w_SA, w_INC, w_II, w_IId, w_LLb, w_LLd, w_LS, w_I1, w_L1, w_I2L, w_L2I, w_CMP, w_DUP, w_POP, w_DUP2, w_IF, w_IC, w_GO, w_NUL, w_ACN, prs, w_GF, w_PF, w_GS, w_IAL, w_LEN, w_LAL, w_ZAL, w_AAL, w_IAS, w_LAS, w_ZAS, w_AAS, w_RI, w_RL, w_RA, w_NEW, w_NA, w_MNA, w_OI, w_THR, w_CV, w_CS, w_CN9, w_CI9, w_MX, w_cont, lget, sto1, sto2, wideV, vo, vo_rv, isR, isR_rv, rv, fget, fput, cats, Value.category, List.headD_cons, List.getD_cons_zero, List.getD_cons_succ, List.drop_succ_cons, List.drop_zero, List.take_succ_cons, List.take_zero, List.reverse_cons, List.reverse_nil, List.nil_append, List.cons_append, List.length_cons, List.length_nil, cond_true, cond_false, and_true, true_and, Nat.zero_add, Nat.add_zero, Nat.reduceAdd, Nat.reduceLT, Nat.reduceLeDiff, Nat.reduceEqDiff, Nat.reduceBEq, Nat.reduceSub, ↓reduceIte, Int32.reduceOfNat, Int64.reduceOfNat, reduceCtorEq, Nat.le_refl, Nat.zero_le, Bool.false_eq_true, beq_self_eq_true, Fin.isValue, Fin.val_zero, Fin.val_one, Fin.reduceFinMk, Fin.val_two, Nat.reduceMod, Bool.or_false, Bool.or_true, Bool.true_or, Bool.false_or, not_true_eq_false, not_false_eq_true, true_or, or_true, implies_true, false_implies, true_implies, Int32.reduceLT, Int32.reduceLE, ↓w_TAB3, ↓w_TAB4, ↓w_TAB5, ↓w_TAB7, ↓w_TAB10, ↓w_LK2, ↓w_LK6, false_and, and_false, i1z, i2z, iz1, im0, im1, l0z, hasK_uI, hasK_uL, hasK_uR, hasK_uZ, hasK_sRow, mR_uI, mR_uL, mR_uZ, mR_sRow, mI_uL, mI_uR, mI_uZ, mL_uI, mL_uR, mL_uZ, mL_sRow, LF.hg hL, layF, LF.r hL, refF, ne_eq, not_false_eq_true, Option.some.injEq, Sum.inl.injEq, Sum.inr.injEq, Prod.mk.injEq, exists_eq_left, exists_eq_left', ck, hrk.1, hrk.2.1, hrk.2.2, nI_1]
      refine ⟨vp_in_nI (by omega) (by omega), and_ii (fun q => ?_) (fun q => ⟨vp_in_nI (by omega) (by omega), and_ii (fun q2 => ?_) (fun q2 => ⟨vp_in_nI (by omega) (by omega), and_ii (fun q3 => ?_) (fun q3 => ⟨vp_in_nI (by omega) (by omega), vp_in_nI (by omega) (by omega), ?_⟩)⟩)⟩)⟩
      · rw [if_neg (by (simp only [i_lt, i_le, i_eq, l_lt, l_le, l_eq, Int32.toInt_toInt64, Int32.reduceToInt, Int64.reduceToInt, ne_eq, Classical.not_not] at *; omega))] at ih'
        exact ih' _ _ (by omega)
      · have hd1 : f 505 k ≤ n := by (simp only [i_lt, i_le, i_eq, l_lt, l_le, l_eq, Int32.toInt_toInt64, Int32.reduceToInt, Int64.reduceToInt, ne_eq, Classical.not_not] at *; omega)
        rw [if_neg (fun q4 => q2 (by rw [← q4.2.2, Nat.min_eq_left hd1]))] at ih'
        exact ih' _ _ (by omega)
      · rw [if_neg (by (simp only [i_lt, i_le, i_eq, l_lt, l_le, l_eq, Int32.toInt_toInt64, Int32.reduceToInt, Int64.reduceToInt, ne_eq, Classical.not_not] at *; omega))] at ih'
        exact ih' _ _ (by omega)
      · have hd1 : f 505 k ≤ n := by (simp only [i_lt, i_le, i_eq, l_lt, l_le, l_eq, Int32.toInt_toInt64, Int32.reduceToInt, Int64.reduceToInt, ne_eq, Classical.not_not] at *; omega)
        have hd2 : B.2 < f 505 k := by (simp only [i_lt, i_le, i_eq, l_lt, l_le, l_eq, Int32.toInt_toInt64, Int32.reduceToInt, Int64.reduceToInt, ne_eq, Classical.not_not] at *; omega)
        have q2 := (nI_eq (by omega) (by omega)).mp (Classical.not_not.mp q2)
        rw [Nat.min_eq_left hd1] at q2
        rw [if_pos ⟨hd1, hd2, q2⟩] at ih'
        have e5 : nI (f 506 k + 1) - 1 = nI (f 506 k) := nI_pred _
        simp only [e5] at ih'
        exact ih' _ _ (by omega)
theorem m_routed (hL : LF M) (hk0 : hasK M r (.inl (.int, N))) (hN : p + n ≤ N ∧ N < 2147483648) (hn : n ≤ 19) (hrow : ∀ i, i < n → mI M r (p + i) = nI (g i)) (hg : ∀ i, i < n → g i < 10) (hr : rtM' f K M) (hf : rtGd f K) (hx : x = nI p) (hy : y = nI n) (hQ : Q (some (.int (nI (bst f (fun d => vl g d) n K).1 - 1))) M) : Ct G (MT 191) [.ref 495, .ref r, .int x, .int y] M Q X := by
  subst hx hy
  refine Ct.go (L0 := [some (.ref 495), some (.ref r), some (.int (nI p)), some (.int (nI n)), none, none, none, none, none]) (by decide +kernel) rfl rfl ?_
  refine r_X12_routed (fun n => n == 9) 60 ?_
  simp only [cd_X12_routed, cf_X12_routed, wp, wq, wpI, cdF, w_CI, w_CL, w_CN, w_LI, w_LL, w_LA, w_SI, w_SL, w_SA, w_INC, w_II, w_IId, w_LLb, w_LLd, w_LS, w_I1, w_L1, w_I2L, w_L2I, w_CMP, w_DUP, w_POP, w_DUP2, w_IF, w_IC, w_GO, w_NUL, w_ACN, prs, w_GF, w_PF, w_GS, w_IAL, w_LEN, w_LAL, w_ZAL, w_AAL, w_IAS, w_LAS, w_ZAS, w_AAS, w_RI, w_RL, w_RA, w_NEW, w_NA, w_MNA, w_OI, w_THR, w_CV, w_CS, w_CN9, w_CI9, w_MX, w_cont, lget, sto1, sto2, wideV, vo, vo_rv, isR, isR_rv, rv, fget, fput, cats, Value.category, List.headD_cons, List.getD_cons_zero, List.getD_cons_succ, List.drop_succ_cons, List.drop_zero, List.take_succ_cons, List.take_zero, List.reverse_cons, List.reverse_nil, List.nil_append, List.cons_append, List.length_cons, List.length_nil, cond_true, cond_false, and_true, true_and, Nat.zero_add, Nat.add_zero, Nat.reduceAdd, Nat.reduceLT, Nat.reduceLeDiff, Nat.reduceEqDiff, Nat.reduceBEq, Nat.reduceSub, ↓reduceIte, Int32.reduceOfNat, Int64.reduceOfNat, reduceCtorEq, Nat.le_refl, Nat.zero_le, Bool.false_eq_true, beq_self_eq_true, Fin.isValue, Fin.val_zero, Fin.val_one, Fin.reduceFinMk, Fin.val_two, Nat.reduceMod, Bool.or_false, Bool.or_true, Bool.true_or, Bool.false_or, not_true_eq_false, not_false_eq_true, true_or, or_true, implies_true, false_implies, true_implies, Int32.reduceLT, Int32.reduceLE, ↓w_TAB3, ↓w_TAB4, ↓w_TAB5, ↓w_TAB7, ↓w_TAB10, ↓w_LK2, ↓w_LK6, false_and, and_false, i1z, i2z, iz1, im0, im1, l0z]
  exact lp_routed hL hk0 hN hn hrow hg hr hf hQ K 0 none none (by omega)
/-- the card c has these n digits -/
def cdP (crd : Nat → Nat) (g : Nat → Nat) (n c : Nat) : Bool := decide (nd (crd c) = n ∧ eqN (dgt 10 (nd (crd c)) (crd c)) g (nd (crd c)) = true)
def fdC (F i : Nat) : Int32 := if F < i then nI F else -1
theorem lp_cardOf {crd : Nat → Nat} (hL : LF M) (hk0 : hasK M r (.inl (.int, N))) (hN : p + n ≤ N ∧ N < 2147483648) (hn : n ≤ 19) (hrow : ∀ i, i < n → mI M r (p + i) = nI (g i)) (hg : ∀ i, i < n → g i < 10) (hc : mI M 495 34 = nI K) (hK : K ≤ 100) (hcd : ∀ c, c < K → mI M 513 c = nI (nd (crd c)) ∧ ∀ j, j < nd (crd c) → mI M 512 (19 * c + j) = nI (dgt 10 (nd (crd c)) (crd c) j)) (h19 : ∀ c, c < K → nd (crd c) ≤ 19) (hu : ∀ c c', c < K → c' < K → cdP crd g n c = true → cdP crd g n c' = true → c = c') (hQ : Q (some (.int (fdC (fsn (cdP crd g n) K) K))) M) : ∀ (m k : Nat), m + k = K → Go G (MT 194) Q X 6 [some (.ref 495), some (.ref r), some (.int (nI p)), some (.int (nI n)), some (.int (fdC (fsn (cdP crd g n) K) k)), some (.int (nI k))] [] M 0 0 := by
  intro m
  induction m with
  | zero =>
    intro k hk
    have hk : k = K := by omega
    subst hk
    refine r_X12_cardOf (fun n => n == 6 || n == 37) 60 ?_
    simp only [cd_X12_cardOf, cf_X12_cardOf, wp, wq, wpI, cdF, w_CI, w_CL, w_CN, w_LI, w_LL, w_LA, w_SI, w_SL, w_SA, w_INC, w_II, w_IId, w_LLb, w_LLd, w_LS, w_I1, w_L1, w_I2L, w_L2I, w_CMP, w_DUP, w_POP, w_DUP2, w_IF, w_IC, w_GO, w_NUL, w_ACN, prs, w_GF, w_PF, w_GS, w_IAL, w_LEN, w_LAL, w_ZAL, w_AAL, w_IAS, w_LAS, w_ZAS, w_AAS, w_RI, w_RL, w_RA, w_NEW, w_NA, w_MNA, w_OI, w_THR, w_CV, w_CS, w_CN9, w_CI9, w_MX, w_cont, lget, sto1, sto2, wideV, vo, vo_rv, isR, isR_rv, rv, fget, fput, cats, Value.category, List.headD_cons, List.getD_cons_zero, List.getD_cons_succ, List.drop_succ_cons, List.drop_zero, List.take_succ_cons, List.take_zero, List.reverse_cons, List.reverse_nil, List.nil_append, List.cons_append, List.length_cons, List.length_nil, cond_true, cond_false, and_true, true_and, Nat.zero_add, Nat.add_zero, Nat.reduceAdd, Nat.reduceLT, Nat.reduceLeDiff, Nat.reduceEqDiff, Nat.reduceBEq, Nat.reduceSub, ↓reduceIte, Int32.reduceOfNat, Int64.reduceOfNat, reduceCtorEq, Nat.le_refl, Nat.zero_le, Bool.false_eq_true, beq_self_eq_true, Fin.isValue, Fin.val_zero, Fin.val_one, Fin.reduceFinMk, Fin.val_two, Nat.reduceMod, Bool.or_false, Bool.or_true, Bool.true_or, Bool.false_or, not_true_eq_false, not_false_eq_true, true_or, or_true, implies_true, false_implies, true_implies, Int32.reduceLT, Int32.reduceLE, ↓w_TAB3, ↓w_TAB4, ↓w_TAB5, ↓w_TAB7, ↓w_TAB10, ↓w_LK2, ↓w_LK6, false_and, and_false, i1z, i2z, iz1, im0, im1, l0z, hasK_uI, hasK_uL, hasK_uR, hasK_uZ, hasK_sRow, mR_uI, mR_uL, mR_uZ, mR_sRow, mI_uL, mI_uR, mI_uZ, mL_uI, mL_uR, mL_uZ, mL_sRow, LF.hg hL, layF, LF.r hL, refF, ne_eq, not_false_eq_true, Option.some.injEq, Sum.inl.injEq, Sum.inr.injEq, Prod.mk.injEq, exists_eq_left, exists_eq_left', hc]
    exact ⟨fun _ => hQ, fun q => absurd (nI_le (Nat.le_refl k) (by omega)) q⟩
  | succ m ih =>
    intro k hk
    have tk := nI_toInt (n := k) (by omega)
    have tN := nI_toInt (n := K) (by omega)
    have ck := nI_clamp (n := k) (by omega)
    have ih' := ih (k + 1) (by omega)
    have hck := hcd k (by omega)
    have h19k := h19 k (by omega)
    have e19 : (19 : Int32) * nI k = nI (19 * k) := nI_mul (a := 19) (by omega) (by omega) (by omega)
    refine r_X12_cardOf (fun n => n == 6 || n == 37) 60 ?_
    simp only [cd_X12_cardOf, cf_X12_cardOf, wp, wq, wpI, cdF, w_CI, w_CL, w_CN, w_LI, w_LL, w_LA, w_SI, w_SL, w_SA, w_INC, w_II, w_IId, w_LLb, w_LLd, w_LS, w_I1, w_L1, w_I2L, w_L2I, w_CMP, w_DUP, w_POP, w_DUP2, w_IF, w_IC, w_GO, w_NUL, w_ACN, prs, w_GF, w_PF, w_GS, w_IAL, w_LEN, w_LAL, w_ZAL, w_AAL, w_IAS, w_LAS, w_ZAS, w_AAS, w_RI, w_RL, w_RA, w_NEW, w_NA, w_MNA, w_OI, w_THR, w_CV, w_CS, w_CN9, w_CI9, w_MX, w_cont, lget, sto1, sto2, wideV, vo, vo_rv, isR, isR_rv, rv, fget, fput, cats, Value.category, List.headD_cons, List.getD_cons_zero, List.getD_cons_succ, List.drop_succ_cons, List.drop_zero, List.take_succ_cons, List.take_zero, List.reverse_cons, List.reverse_nil, List.nil_append, List.cons_append, List.length_cons, List.length_nil, cond_true, cond_false, and_true, true_and, Nat.zero_add, Nat.add_zero, Nat.reduceAdd, Nat.reduceLT, Nat.reduceLeDiff, Nat.reduceEqDiff, Nat.reduceBEq, Nat.reduceSub, ↓reduceIte, Int32.reduceOfNat, Int64.reduceOfNat, reduceCtorEq, Nat.le_refl, Nat.zero_le, Bool.false_eq_true, beq_self_eq_true, Fin.isValue, Fin.val_zero, Fin.val_one, Fin.reduceFinMk, Fin.val_two, Nat.reduceMod, Bool.or_false, Bool.or_true, Bool.true_or, Bool.false_or, not_true_eq_false, not_false_eq_true, true_or, or_true, implies_true, false_implies, true_implies, Int32.reduceLT, Int32.reduceLE, ↓w_TAB3, ↓w_TAB4, ↓w_TAB5, ↓w_TAB7, ↓w_TAB10, ↓w_LK2, ↓w_LK6, false_and, and_false, i1z, i2z, iz1, im0, im1, l0z, hasK_uI, hasK_uL, hasK_uR, hasK_uZ, hasK_sRow, mR_uI, mR_uL, mR_uZ, mR_sRow, mI_uL, mI_uR, mI_uZ, mL_uI, mL_uR, mL_uZ, mL_sRow, LF.hg hL, layF, LF.r hL, refF, ne_eq, not_false_eq_true, Option.some.injEq, Sum.inl.injEq, Sum.inr.injEq, Prod.mk.injEq, exists_eq_left, exists_eq_left', hc, ck, hck.1]
    refine and_ii (fun q => ?_) (fun _ => ⟨vp_in_nI (by omega) (by omega), ?_⟩)
    · exfalso; (simp only [i_lt, i_le, i_eq, l_lt, l_le, l_eq, Int32.toInt_toInt64, Int32.reduceToInt, Int64.reduceToInt, ne_eq, Classical.not_not] at *; omega)
    · refine m_same (N := 1900) (g := dgt 10 (nd (crd k)) (crd k)) (h := g) (p := 19 * k) (by rw [hL.hk]; rfl) hk0 (by omega) (fun e => by omega) (by omega) hck.2 (fun e i hi => hrow i (by omega)) (fun e i hi => ⟨Nat.lt_of_lt_of_le (dgt_lt (by omega)) (by omega), by have := hg i (by omega); omega⟩) e19 rfl rfl rfl ⟨_, rfl, ?_⟩
      by_cases q : nd (crd k) = n ∧ eqN (dgt 10 (nd (crd k)) (crd k)) g (nd (crd k)) = true
      · rw [b2i_t q]
        have hF : fsn (cdP crd g n) K = k := fsn_u (by omega) (decide_eq_true q) (fun j hj e => hu j k hj (by omega) e (decide_eq_true q))
        rw [hF] at ih' ⊢
        have e1 : fdC k (k + 1) = nI k := if_pos (by omega)
        rw [e1] at ih'
        refine r_X12_cardOf (fun n => n == 6 || n == 37) 60 ?_
        simp only [cd_X12_cardOf, cf_X12_cardOf, wp, wq, wpI, cdF, w_CI, w_CL, w_CN, w_LI, w_LL, w_LA, w_SI, w_SL, w_SA, w_INC, w_II, w_IId, w_LLb, w_LLd, w_LS, w_I1, w_L1, w_I2L, w_L2I, w_CMP, w_DUP, w_POP, w_DUP2, w_IF, w_IC, w_GO, w_NUL, w_ACN, prs, w_GF, w_PF, w_GS, w_IAL, w_LEN, w_LAL, w_ZAL, w_AAL, w_IAS, w_LAS, w_ZAS, w_AAS, w_RI, w_RL, w_RA, w_NEW, w_NA, w_MNA, w_OI, w_THR, w_CV, w_CS, w_CN9, w_CI9, w_MX, w_cont, lget, sto1, sto2, wideV, vo, vo_rv, isR, isR_rv, rv, fget, fput, cats, Value.category, List.headD_cons, List.getD_cons_zero, List.getD_cons_succ, List.drop_succ_cons, List.drop_zero, List.take_succ_cons, List.take_zero, List.reverse_cons, List.reverse_nil, List.nil_append, List.cons_append, List.length_cons, List.length_nil, cond_true, cond_false, and_true, true_and, Nat.zero_add, Nat.add_zero, Nat.reduceAdd, Nat.reduceLT, Nat.reduceLeDiff, Nat.reduceEqDiff, Nat.reduceBEq, Nat.reduceSub, ↓reduceIte, Int32.reduceOfNat, Int64.reduceOfNat, reduceCtorEq, Nat.le_refl, Nat.zero_le, Bool.false_eq_true, beq_self_eq_true, Fin.isValue, Fin.val_zero, Fin.val_one, Fin.reduceFinMk, Fin.val_two, Nat.reduceMod, Bool.or_false, Bool.or_true, Bool.true_or, Bool.false_or, not_true_eq_false, not_false_eq_true, true_or, or_true, implies_true, false_implies, true_implies, Int32.reduceLT, Int32.reduceLE, ↓w_TAB3, ↓w_TAB4, ↓w_TAB5, ↓w_TAB7, ↓w_TAB10, ↓w_LK2, ↓w_LK6, false_and, and_false, i1z, i2z, iz1, im0, im1, l0z, i1z, nI_1]
        exact ih'
      · rw [b2i_f q]
        have hF : ¬ fsn (cdP crd g n) K = k := fun e => by
          have := fsn_t (P := cdP crd g n) (n := K) (by omega)
          rw [e] at this
          exact q (of_decide_eq_true this)
        have e1 : fdC (fsn (cdP crd g n) K) (k + 1) = fdC (fsn (cdP crd g n) K) k := by
          unfold fdC
          by_cases q2 : fsn (cdP crd g n) K < k
          · rw [if_pos q2, if_pos (by omega)]
          · rw [if_neg q2, if_neg (by omega)]
        rw [e1] at ih'
        refine r_X12_cardOf (fun n => n == 6 || n == 37) 60 ?_
        simp only [cd_X12_cardOf, cf_X12_cardOf, wp, wq, wpI, cdF, w_CI, w_CL, w_CN, w_LI, w_LL, w_LA, w_SI, w_SL, w_SA, w_INC, w_II, w_IId, w_LLb, w_LLd, w_LS, w_I1, w_L1, w_I2L, w_L2I, w_CMP, w_DUP, w_POP, w_DUP2, w_IF, w_IC, w_GO, w_NUL, w_ACN, prs, w_GF, w_PF, w_GS, w_IAL, w_LEN, w_LAL, w_ZAL, w_AAL, w_IAS, w_LAS, w_ZAS, w_AAS, w_RI, w_RL, w_RA, w_NEW, w_NA, w_MNA, w_OI, w_THR, w_CV, w_CS, w_CN9, w_CI9, w_MX, w_cont, lget, sto1, sto2, wideV, vo, vo_rv, isR, isR_rv, rv, fget, fput, cats, Value.category, List.headD_cons, List.getD_cons_zero, List.getD_cons_succ, List.drop_succ_cons, List.drop_zero, List.take_succ_cons, List.take_zero, List.reverse_cons, List.reverse_nil, List.nil_append, List.cons_append, List.length_cons, List.length_nil, cond_true, cond_false, and_true, true_and, Nat.zero_add, Nat.add_zero, Nat.reduceAdd, Nat.reduceLT, Nat.reduceLeDiff, Nat.reduceEqDiff, Nat.reduceBEq, Nat.reduceSub, ↓reduceIte, Int32.reduceOfNat, Int64.reduceOfNat, reduceCtorEq, Nat.le_refl, Nat.zero_le, Bool.false_eq_true, beq_self_eq_true, Fin.isValue, Fin.val_zero, Fin.val_one, Fin.reduceFinMk, Fin.val_two, Nat.reduceMod, Bool.or_false, Bool.or_true, Bool.true_or, Bool.false_or, not_true_eq_false, not_false_eq_true, true_or, or_true, implies_true, false_implies, true_implies, Int32.reduceLT, Int32.reduceLE, ↓w_TAB3, ↓w_TAB4, ↓w_TAB5, ↓w_TAB7, ↓w_TAB10, ↓w_LK2, ↓w_LK6, false_and, and_false, i1z, i2z, iz1, im0, im1, l0z, nI_1]
        exact ih'
theorem m_cardOf {crd : Nat → Nat} (hL : LF M) (hk0 : hasK M r (.inl (.int, N))) (hN : p + n ≤ N ∧ N < 2147483648) (hn : n ≤ 19) (hrow : ∀ i, i < n → mI M r (p + i) = nI (g i)) (hg : ∀ i, i < n → g i < 10) (hc : mI M 495 34 = nI K) (hK : K ≤ 100) (hcd : ∀ c, c < K → mI M 513 c = nI (nd (crd c)) ∧ ∀ j, j < nd (crd c) → mI M 512 (19 * c + j) = nI (dgt 10 (nd (crd c)) (crd c) j)) (h19 : ∀ c, c < K → nd (crd c) ≤ 19) (hu : ∀ c c', c < K → c' < K → cdP crd g n c = true → cdP crd g n c' = true → c = c') (hx : x = nI p) (hy : y = nI n) (hQ : Q (some (.int (fdC (fsn (cdP crd g n) K) K))) M) : Ct G (MT 194) [.ref 495, .ref r, .int x, .int y] M Q X := by
  subst hx hy
  refine Ct.go (L0 := [some (.ref 495), some (.ref r), some (.int (nI p)), some (.int (nI n)), none, none]) (by decide +kernel) rfl rfl ?_
  refine r_X12_cardOf (fun n => n == 6 || n == 37) 60 ?_
  simp only [cd_X12_cardOf, cf_X12_cardOf, wp, wq, wpI, cdF, w_CI, w_CL, w_CN, w_LI, w_LL, w_LA, w_SI, w_SL, w_SA, w_INC, w_II, w_IId, w_LLb, w_LLd, w_LS, w_I1, w_L1, w_I2L, w_L2I, w_CMP, w_DUP, w_POP, w_DUP2, w_IF, w_IC, w_GO, w_NUL, w_ACN, prs, w_GF, w_PF, w_GS, w_IAL, w_LEN, w_LAL, w_ZAL, w_AAL, w_IAS, w_LAS, w_ZAS, w_AAS, w_RI, w_RL, w_RA, w_NEW, w_NA, w_MNA, w_OI, w_THR, w_CV, w_CS, w_CN9, w_CI9, w_MX, w_cont, lget, sto1, sto2, wideV, vo, vo_rv, isR, isR_rv, rv, fget, fput, cats, Value.category, List.headD_cons, List.getD_cons_zero, List.getD_cons_succ, List.drop_succ_cons, List.drop_zero, List.take_succ_cons, List.take_zero, List.reverse_cons, List.reverse_nil, List.nil_append, List.cons_append, List.length_cons, List.length_nil, cond_true, cond_false, and_true, true_and, Nat.zero_add, Nat.add_zero, Nat.reduceAdd, Nat.reduceLT, Nat.reduceLeDiff, Nat.reduceEqDiff, Nat.reduceBEq, Nat.reduceSub, ↓reduceIte, Int32.reduceOfNat, Int64.reduceOfNat, reduceCtorEq, Nat.le_refl, Nat.zero_le, Bool.false_eq_true, beq_self_eq_true, Fin.isValue, Fin.val_zero, Fin.val_one, Fin.reduceFinMk, Fin.val_two, Nat.reduceMod, Bool.or_false, Bool.or_true, Bool.true_or, Bool.false_or, not_true_eq_false, not_false_eq_true, true_or, or_true, implies_true, false_implies, true_implies, Int32.reduceLT, Int32.reduceLE, ↓w_TAB3, ↓w_TAB4, ↓w_TAB5, ↓w_TAB7, ↓w_TAB10, ↓w_LK2, ↓w_LK6, false_and, and_false, i1z, i2z, iz1, im0, im1, l0z]
  have e0 : fdC (fsn (cdP crd g n) K) 0 = -1 := if_neg (by omega)
  have := lp_cardOf (G := G) (X := X) hL hk0 hN hn hrow hg hc hK hcd h19 hu hQ K 0 (by omega)
  rw [e0] at this
  exact this
end TBM
