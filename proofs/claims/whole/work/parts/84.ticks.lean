/-! ticks: the class -/
section TCK
variable {G : En} {M M0 Mz M' : Mem} {Q : Option Value → Mem → Prop} {X : String → Mem → Prop} {S : Sw} {t a j k v i np T : Nat} {x y : Int32} {z : Int64} {u : Int} {w c : Nat → Nat} {o : Nat} {p : Py}
/-- behind the lapses of the first i payments -/
def lapI (S : Sw) (T i : Nat) : Sw := wP (wL S (lapL (sP S) T (sL S) i)) (fun j => if j < i then lapP (sP S j) T else sP S j)
theorem lapI_0 : lapI S T 0 = S := by
  unfold lapI
  have : (fun j => if j < 0 then lapP (sP S j) T else sP S j) = sP S := by funext j; rw [if_neg (by omega)]
  rw [this]
  rfl
theorem lapI_s : lapS (lapI S T i) i T = lapI S T (i + 1) := by
  have e1 : sP (lapI S T i) i = sP S i := if_neg (by omega)
  have e2 : up1 (sP (lapI S T i)) i (lapP (sP S i) T) = fun j => if j < i + 1 then lapP (sP S j) T else sP S j := by
    funext j
    show (if j = i then _ else (if j < i then lapP (sP S j) T else sP S j)) = _
    by_cases e : j = i
    · subst e; rw [if_pos rfl, if_pos (by omega)]
    · rw [if_neg e]
      by_cases e3 : j < i
      · rw [if_pos e3, if_pos (by omega)]
      · rw [if_neg e3, if_neg (by omega)]
  unfold lapS
  rw [e1]
  unfold wk
  by_cases q : lapB (sP S i) T = true ∧ qI (sP S i) 52 = 2
  · rw [if_pos q]
    show wP (wL (lapI S T i) _) (up1 (sP (lapI S T i)) i (lapP (sP S i) T)) = _
    rw [e2]
    unfold lapI
    have e3 : lapL (sP S) T (sL S) (i + 1) = up2 (lapL (sP S) T (sL S) i) 509 (qI (sP S i) 45 - 1) (lapL (sP S) T (sL S) i 509 (qI (sP S i) 45 - 1) - qL (sP S i) 53) := by rw [lapL, if_pos q]
    rw [e3]
    rfl
  · rw [if_neg q]
    rw [e2]
    unfold lapI
    have e3 : lapL (sP S) T (sL S) (i + 1) = lapL (sP S) T (sL S) i := by rw [lapL, if_neg q]
    rw [e3]
    rfl
theorem lp_advance (hN39 : sN S 39 ≤ 60) (hT : sN S 11 = T) (hT2 : T ≤ 1000000) (hl : ∀ i, i < sN S 39 → lapK (sP S i)) (hQ : ∀ M', RC w o c (lapI S T (sN S 39)) M' → hiS M0 M' → Q none M') : ∀ (m i : Nat), m + i = sN S 39 → ∀ Mi, RC w o c (lapI S T i) Mi → hiS M0 Mi → ∀ l, Go G (MT 18) Q X 12 [some (.ref 139), l, some (.int (nI i))] [] Mi 0 0 := by
  intro m
  induction m with
  | zero =>
    intro i hi Mi r1 i1 l
    have hi : i = sN S 39 := by omega
    have hL := r1.1
    have hn := r1.2.1
    unfold cN at hn
    have h39 : mI Mi 139 3 = nI (sN S 39) := hn.2.2.2.2.2.2.2.2.2.2.1
    subst hi
    refine r_X2_advance (fun n => n == 12 || n == 30) 40 ?_
    simp only [cd_X2_advance, cf_X2_advance, wp, wq, wpI, cdF, w_CI, w_CL, w_CN, w_LI, w_LL, w_LA, w_SI, w_SL, w_SA, w_INC, w_II, w_IId, w_LLb, w_LLd, w_LS, w_I1, w_L1, w_I2L, w_L2I, w_CMP, w_DUP, w_POP, w_DUP2, w_IF, w_IC, w_GO, w_NUL, w_ACN, prs, w_GF, w_PF, w_GS, w_IAL, w_LEN, w_LAL, w_ZAL, w_AAL, w_IAS, w_LAS, w_ZAS, w_AAS, w_RI, w_RL, w_RA, w_NEW, w_NA, w_MNA, w_OI, w_THR, w_CV, w_CS, w_CN9, w_CI9, w_MX, w_cont, lget, sto1, sto2, wideV, vo, vo_rv, isR, isR_rv, rv, fget, fput, cats, Value.category, List.headD_cons, List.getD_cons_zero, List.getD_cons_succ, List.drop_succ_cons, List.drop_zero, List.take_succ_cons, List.take_zero, List.reverse_cons, List.reverse_nil, List.nil_append, List.cons_append, List.length_cons, List.length_nil, cond_true, cond_false, and_true, true_and, Nat.zero_add, Nat.add_zero, Nat.reduceAdd, Nat.reduceLT, Nat.reduceLeDiff, Nat.reduceEqDiff, Nat.reduceBEq, Nat.reduceSub, ↓reduceIte, Int32.reduceOfNat, Int64.reduceOfNat, reduceCtorEq, Nat.le_refl, Nat.zero_le, Bool.false_eq_true, beq_self_eq_true, Fin.isValue, Fin.val_zero, Fin.val_one, Fin.reduceFinMk, Fin.val_two, Nat.reduceMod, Bool.or_false, Bool.or_true, Bool.true_or, Bool.false_or, not_true_eq_false, not_false_eq_true, true_or, or_true, implies_true, false_implies, true_implies, Int32.reduceLT, Int32.reduceLE, ↓w_TAB3, ↓w_TAB4, ↓w_TAB5, ↓w_TAB7, ↓w_TAB10, ↓w_LK2, ↓w_LK6, false_and, and_false, i1z, i2z, iz1, im0, im1, l0z, hasK_uI, hasK_uL, hasK_uR, hasK_uZ, hasK_sRow, mR_uI, mR_uL, mR_uZ, mR_sRow, mI_uL, mI_uR, mI_uZ, mL_uI, mL_uR, mL_uZ, mL_sRow, LF.hk hL, layF, LF.r hL, refF, ne_eq, not_false_eq_true, Option.some.injEq, Sum.inl.injEq, Sum.inr.injEq, Prod.mk.injEq, exists_eq_left, exists_eq_left', h39]
    exact ⟨fun _ => hQ Mi r1 i1, fun q => absurd (nI_le (Nat.le_refl _) (by omega)) q⟩
  | succ m ih =>
    intro i hi Mi r1 i1 l
    have hL := r1.1
    have hn := r1.2.1
    unfold cN at hn
    have h39 : mI Mi 139 3 = nI (sN S 39) := hn.2.2.2.2.2.2.2.2.2.2.1
    have ti := nI_toInt (n := i) (by omega)
    have tN := nI_toInt (n := sN S 39) (by omega)
    have ci := nI_clamp (n := i) (by omega)
    have hw := r1.2.2.2.2.2.2.2.2.1.1 i (by omega)
    have hka := (pay_k hL hw.2).1
    refine r_X2_advance (fun n => n == 12 || n == 30) 40 ?_
    simp only [cd_X2_advance, cf_X2_advance, wp, wq, wpI, cdF, w_CI, w_CL, w_CN, w_LI, w_LL, w_LA, w_SI, w_SL, w_SA, w_INC, w_II, w_IId, w_LLb, w_LLd, w_LS, w_I1, w_L1, w_I2L, w_L2I, w_CMP, w_DUP, w_POP, w_DUP2, w_IF, w_IC, w_GO, w_NUL, w_ACN, prs, w_GF, w_PF, w_GS, w_IAL, w_LEN, w_LAL, w_ZAL, w_AAL, w_IAS, w_LAS, w_ZAS, w_AAS, w_RI, w_RL, w_RA, w_NEW, w_NA, w_MNA, w_OI, w_THR, w_CV, w_CS, w_CN9, w_CI9, w_MX, w_cont, lget, sto1, sto2, wideV, vo, vo_rv, isR, isR_rv, rv, fget, fput, cats, Value.category, List.headD_cons, List.getD_cons_zero, List.getD_cons_succ, List.drop_succ_cons, List.drop_zero, List.take_succ_cons, List.take_zero, List.reverse_cons, List.reverse_nil, List.nil_append, List.cons_append, List.length_cons, List.length_nil, cond_true, cond_false, and_true, true_and, Nat.zero_add, Nat.add_zero, Nat.reduceAdd, Nat.reduceLT, Nat.reduceLeDiff, Nat.reduceEqDiff, Nat.reduceBEq, Nat.reduceSub, ↓reduceIte, Int32.reduceOfNat, Int64.reduceOfNat, reduceCtorEq, Nat.le_refl, Nat.zero_le, Bool.false_eq_true, beq_self_eq_true, Fin.isValue, Fin.val_zero, Fin.val_one, Fin.reduceFinMk, Fin.val_two, Nat.reduceMod, Bool.or_false, Bool.or_true, Bool.true_or, Bool.false_or, not_true_eq_false, not_false_eq_true, true_or, or_true, implies_true, false_implies, true_implies, Int32.reduceLT, Int32.reduceLE, ↓w_TAB3, ↓w_TAB4, ↓w_TAB5, ↓w_TAB7, ↓w_TAB10, ↓w_LK2, ↓w_LK6, false_and, and_false, i1z, i2z, iz1, im0, im1, l0z, hasK_uI, hasK_uL, hasK_uR, hasK_uZ, hasK_sRow, mR_uI, mR_uL, mR_uZ, mR_sRow, mI_uL, mI_uR, mI_uZ, mL_uI, mL_uR, mL_uZ, mL_sRow, LF.hg hL, layF, LF.r hL, refF, ne_eq, not_false_eq_true, Option.some.injEq, Sum.inl.injEq, Sum.inr.injEq, Prod.mk.injEq, exists_eq_left, exists_eq_left', h39, ci, hw.1]
    refine and_ii (fun q => ?_) (fun _ => ⟨_, _, ⟨⟨rfl, rfl⟩, rfl⟩, vp_in_nI (by omega) (by omega), ?_⟩)
    · exfalso; (simp only [i_lt, i_le, i_eq, l_lt, l_le, l_eq, Int32.toInt_toInt64, Int32.reduceToInt, Int64.reduceToInt, ne_eq, Classical.not_not] at *; omega)
    refine c_lapse (S := lapI S T i) (k := i) (T := T) (p := sP S i) r1 i1 (by show i < sN S 39; omega) hN39 hT hT2 (if_neg (by omega)) (hl i (by omega)) (fun M2 r2 i2 => ⟨rfl, ?_⟩)
    rw [lapI_s] at r2
    refine r_X2_advance (fun n => n == 12 || n == 30) 40 ?_
    simp only [cd_X2_advance, cf_X2_advance, wp, wq, wpI, cdF, w_CI, w_CL, w_CN, w_LI, w_LL, w_LA, w_SI, w_SL, w_SA, w_INC, w_II, w_IId, w_LLb, w_LLd, w_LS, w_I1, w_L1, w_I2L, w_L2I, w_CMP, w_DUP, w_POP, w_DUP2, w_IF, w_IC, w_GO, w_NUL, w_ACN, prs, w_GF, w_PF, w_GS, w_IAL, w_LEN, w_LAL, w_ZAL, w_AAL, w_IAS, w_LAS, w_ZAS, w_AAS, w_RI, w_RL, w_RA, w_NEW, w_NA, w_MNA, w_OI, w_THR, w_CV, w_CS, w_CN9, w_CI9, w_MX, w_cont, lget, sto1, sto2, wideV, vo, vo_rv, isR, isR_rv, rv, fget, fput, cats, Value.category, List.headD_cons, List.getD_cons_zero, List.getD_cons_succ, List.drop_succ_cons, List.drop_zero, List.take_succ_cons, List.take_zero, List.reverse_cons, List.reverse_nil, List.nil_append, List.cons_append, List.length_cons, List.length_nil, cond_true, cond_false, and_true, true_and, Nat.zero_add, Nat.add_zero, Nat.reduceAdd, Nat.reduceLT, Nat.reduceLeDiff, Nat.reduceEqDiff, Nat.reduceBEq, Nat.reduceSub, ↓reduceIte, Int32.reduceOfNat, Int64.reduceOfNat, reduceCtorEq, Nat.le_refl, Nat.zero_le, Bool.false_eq_true, beq_self_eq_true, Fin.isValue, Fin.val_zero, Fin.val_one, Fin.reduceFinMk, Fin.val_two, Nat.reduceMod, Bool.or_false, Bool.or_true, Bool.true_or, Bool.false_or, not_true_eq_false, not_false_eq_true, true_or, or_true, implies_true, false_implies, true_implies, Int32.reduceLT, Int32.reduceLE, ↓w_TAB3, ↓w_TAB4, ↓w_TAB5, ↓w_TAB7, ↓w_TAB10, ↓w_LK2, ↓w_LK6, false_and, and_false, i1z, i2z, iz1, im0, im1, l0z, nI_1]
    exact ih (i + 1) (by omega) M2 r2 i2 _
theorem k_ticks (hR : RCx S M) (hj : Jv t S) : Ct G (MT 149) [.ref 0, .int x] M (QcI M (o_ticks S x.toInt)) (QcX M (o_ticks S x.toInt)) := by
  obtain ⟨w, o, c, hR'⟩ := id hR
  obtain ⟨hL, hN, hI, hLl, hF, hS, hA, hC, hP, hRr, hD, hT, hZ⟩ := id hR'
  have hs := hj.1
  have hn := hN
  unfold cN at hn
  unfold jS at hs
  have h39 : sN S 39 ≤ 60 := by omega
  have t11 := nI_toInt (n := sN S 11) (by omega)
  have c11 := nI_clamp (n := sN S 11) (by omega)
  have bx := i_bnd x
  refine Ct.go (L0 := [some (.ref 0), some (.int x)]) (by decide +kernel) rfl rfl ?_
  refine r_X11_ticks (fun n => n == 9 || n == 12 || n == 16 || n == 42 || n == 49 || n == 63 || n == 70) 40 ?_
  simp only [cd_X11_ticks, cf_X11_ticks, wp, wq, wpI, cdF, w_CI, w_CL, w_CN, w_LI, w_LL, w_LA, w_SI, w_SL, w_SA, w_INC, w_II, w_IId, w_LLb, w_LLd, w_LS, w_I1, w_L1, w_I2L, w_L2I, w_CMP, w_DUP, w_POP, w_DUP2, w_IF, w_IC, w_GO, w_NUL, w_ACN, prs, w_GF, w_PF, w_GS, w_IAL, w_LEN, w_LAL, w_ZAL, w_AAL, w_IAS, w_LAS, w_ZAS, w_AAS, w_RI, w_RL, w_RA, w_NEW, w_NA, w_MNA, w_OI, w_THR, w_CV, w_CS, w_CN9, w_CI9, w_MX, w_cont, lget, sto1, sto2, wideV, vo, vo_rv, isR, isR_rv, rv, fget, fput, cats, Value.category, List.headD_cons, List.getD_cons_zero, List.getD_cons_succ, List.drop_succ_cons, List.drop_zero, List.take_succ_cons, List.take_zero, List.reverse_cons, List.reverse_nil, List.nil_append, List.cons_append, List.length_cons, List.length_nil, cond_true, cond_false, and_true, true_and, Nat.zero_add, Nat.add_zero, Nat.reduceAdd, Nat.reduceLT, Nat.reduceLeDiff, Nat.reduceEqDiff, Nat.reduceBEq, Nat.reduceSub, ↓reduceIte, Int32.reduceOfNat, Int64.reduceOfNat, reduceCtorEq, Nat.le_refl, Nat.zero_le, Bool.false_eq_true, beq_self_eq_true, Fin.isValue, Fin.val_zero, Fin.val_one, Fin.reduceFinMk, Fin.val_two, Nat.reduceMod, Bool.or_false, Bool.or_true, Bool.true_or, Bool.false_or, not_true_eq_false, not_false_eq_true, true_or, or_true, implies_true, false_implies, true_implies, Int32.reduceLT, Int32.reduceLE, ↓w_TAB3, ↓w_TAB4, ↓w_TAB5, ↓w_TAB7, ↓w_TAB10, ↓w_LK2, ↓w_LK6, false_and, and_false, i1z, i2z, iz1, im0, im1, l0z]
  refine c_isWithin ⟨_, rfl, ?_⟩
  refine r_X11_ticks (fun n => n == 9 || n == 12 || n == 16 || n == 42 || n == 49 || n == 63 || n == 70) 40 ?_
  simp only [cd_X11_ticks, cf_X11_ticks, wp, wq, wpI, cdF, w_CI, w_CL, w_CN, w_LI, w_LL, w_LA, w_SI, w_SL, w_SA, w_INC, w_II, w_IId, w_LLb, w_LLd, w_LS, w_I1, w_L1, w_I2L, w_L2I, w_CMP, w_DUP, w_POP, w_DUP2, w_IF, w_IC, w_GO, w_NUL, w_ACN, prs, w_GF, w_PF, w_GS, w_IAL, w_LEN, w_LAL, w_ZAL, w_AAL, w_IAS, w_LAS, w_ZAS, w_AAS, w_RI, w_RL, w_RA, w_NEW, w_NA, w_MNA, w_OI, w_THR, w_CV, w_CS, w_CN9, w_CI9, w_MX, w_cont, lget, sto1, sto2, wideV, vo, vo_rv, isR, isR_rv, rv, fget, fput, cats, Value.category, List.headD_cons, List.getD_cons_zero, List.getD_cons_succ, List.drop_succ_cons, List.drop_zero, List.take_succ_cons, List.take_zero, List.reverse_cons, List.reverse_nil, List.nil_append, List.cons_append, List.length_cons, List.length_nil, cond_true, cond_false, and_true, true_and, Nat.zero_add, Nat.add_zero, Nat.reduceAdd, Nat.reduceLT, Nat.reduceLeDiff, Nat.reduceEqDiff, Nat.reduceBEq, Nat.reduceSub, ↓reduceIte, Int32.reduceOfNat, Int64.reduceOfNat, reduceCtorEq, Nat.le_refl, Nat.zero_le, Bool.false_eq_true, beq_self_eq_true, Fin.isValue, Fin.val_zero, Fin.val_one, Fin.reduceFinMk, Fin.val_two, Nat.reduceMod, Bool.or_false, Bool.or_true, Bool.true_or, Bool.false_or, not_true_eq_false, not_false_eq_true, true_or, or_true, implies_true, false_implies, true_implies, Int32.reduceLT, Int32.reduceLE, ↓w_TAB3, ↓w_TAB4, ↓w_TAB5, ↓w_TAB7, ↓w_TAB10, ↓w_LK2, ↓w_LK6, false_and, and_false, i1z, i2z, iz1, im0, im1, l0z]
  refine c_demand_p (fun h1 => ⟨rfl, ?_⟩) (fun h1 => Qc_1 hR (gat_1 (by (simp only [i_lt, i_le, i_eq, l_lt, l_le, l_eq, Int32.toInt_toInt64, Int32.reduceToInt, Int64.reduceToInt, ne_eq, Classical.not_not] at *; omega))))
  have hx : 1 ≤ x.toInt ∧ x.toInt ≤ 1000 := by (simp only [i_lt, i_le, i_eq, l_lt, l_le, l_eq, Int32.toInt_toInt64, Int32.reduceToInt, Int64.reduceToInt, ne_eq, Classical.not_not] at *; omega)
  clear h1
  refine r_X11_ticks (fun n => n == 9 || n == 12 || n == 16 || n == 42 || n == 49 || n == 63 || n == 70) 40 ?_
  simp only [cd_X11_ticks, cf_X11_ticks, wp, wq, wpI, cdF, w_CI, w_CL, w_CN, w_LI, w_LL, w_LA, w_SI, w_SL, w_SA, w_INC, w_II, w_IId, w_LLb, w_LLd, w_LS, w_I1, w_L1, w_I2L, w_L2I, w_CMP, w_DUP, w_POP, w_DUP2, w_IF, w_IC, w_GO, w_NUL, w_ACN, prs, w_GF, w_PF, w_GS, w_IAL, w_LEN, w_LAL, w_ZAL, w_AAL, w_IAS, w_LAS, w_ZAS, w_AAS, w_RI, w_RL, w_RA, w_NEW, w_NA, w_MNA, w_OI, w_THR, w_CV, w_CS, w_CN9, w_CI9, w_MX, w_cont, lget, sto1, sto2, wideV, vo, vo_rv, isR, isR_rv, rv, fget, fput, cats, Value.category, List.headD_cons, List.getD_cons_zero, List.getD_cons_succ, List.drop_succ_cons, List.drop_zero, List.take_succ_cons, List.take_zero, List.reverse_cons, List.reverse_nil, List.nil_append, List.cons_append, List.length_cons, List.length_nil, cond_true, cond_false, and_true, true_and, Nat.zero_add, Nat.add_zero, Nat.reduceAdd, Nat.reduceLT, Nat.reduceLeDiff, Nat.reduceEqDiff, Nat.reduceBEq, Nat.reduceSub, ↓reduceIte, Int32.reduceOfNat, Int64.reduceOfNat, reduceCtorEq, Nat.le_refl, Nat.zero_le, Bool.false_eq_true, beq_self_eq_true, Fin.isValue, Fin.val_zero, Fin.val_one, Fin.reduceFinMk, Fin.val_two, Nat.reduceMod, Bool.or_false, Bool.or_true, Bool.true_or, Bool.false_or, not_true_eq_false, not_false_eq_true, true_or, or_true, implies_true, false_implies, true_implies, Int32.reduceLT, Int32.reduceLE, ↓w_TAB3, ↓w_TAB4, ↓w_TAB5, ↓w_TAB7, ↓w_TAB10, ↓w_LK2, ↓w_LK6, false_and, and_false, i1z, i2z, iz1, im0, im1, l0z, hasK_uI, hasK_uL, hasK_uR, hasK_uZ, hasK_sRow, mR_uI, mR_uL, mR_uZ, mR_sRow, mI_uL, mI_uR, mI_uZ, mL_uI, mL_uR, mL_uZ, mL_sRow, LF.hk hL, layF, LF.r hL, refF, ne_eq, not_false_eq_true, Option.some.injEq, Sum.inl.injEq, Sum.inr.injEq, Prod.mk.injEq, exists_eq_left, exists_eq_left']
  refine c_isRunning hL hN (smN_of hj) ⟨_, rfl, ?_⟩
  have ta : (nI (sN S 11) + x).toInt = sN S 11 + x.toInt := by rw [i_add] <;> rw [t11]; omega
  refine r_X11_ticks (fun n => n == 9 || n == 12 || n == 16 || n == 42 || n == 49 || n == 63 || n == 70) 40 ?_
  simp only [cd_X11_ticks, cf_X11_ticks, wp, wq, wpI, cdF, w_CI, w_CL, w_CN, w_LI, w_LL, w_LA, w_SI, w_SL, w_SA, w_INC, w_II, w_IId, w_LLb, w_LLd, w_LS, w_I1, w_L1, w_I2L, w_L2I, w_CMP, w_DUP, w_POP, w_DUP2, w_IF, w_IC, w_GO, w_NUL, w_ACN, prs, w_GF, w_PF, w_GS, w_IAL, w_LEN, w_LAL, w_ZAL, w_AAL, w_IAS, w_LAS, w_ZAS, w_AAS, w_RI, w_RL, w_RA, w_NEW, w_NA, w_MNA, w_OI, w_THR, w_CV, w_CS, w_CN9, w_CI9, w_MX, w_cont, lget, sto1, sto2, wideV, vo, vo_rv, isR, isR_rv, rv, fget, fput, cats, Value.category, List.headD_cons, List.getD_cons_zero, List.getD_cons_succ, List.drop_succ_cons, List.drop_zero, List.take_succ_cons, List.take_zero, List.reverse_cons, List.reverse_nil, List.nil_append, List.cons_append, List.length_cons, List.length_nil, cond_true, cond_false, and_true, true_and, Nat.zero_add, Nat.add_zero, Nat.reduceAdd, Nat.reduceLT, Nat.reduceLeDiff, Nat.reduceEqDiff, Nat.reduceBEq, Nat.reduceSub, ↓reduceIte, Int32.reduceOfNat, Int64.reduceOfNat, reduceCtorEq, Nat.le_refl, Nat.zero_le, Bool.false_eq_true, beq_self_eq_true, Fin.isValue, Fin.val_zero, Fin.val_one, Fin.reduceFinMk, Fin.val_two, Nat.reduceMod, Bool.or_false, Bool.or_true, Bool.true_or, Bool.false_or, not_true_eq_false, not_false_eq_true, true_or, or_true, implies_true, false_implies, true_implies, Int32.reduceLT, Int32.reduceLE, ↓w_TAB3, ↓w_TAB4, ↓w_TAB5, ↓w_TAB7, ↓w_TAB10, ↓w_LK2, ↓w_LK6, false_and, and_false, i1z, i2z, iz1, im0, im1, l0z, hasK_uI, hasK_uL, hasK_uR, hasK_uZ, hasK_sRow, mR_uI, mR_uL, mR_uZ, mR_sRow, mI_uL, mI_uR, mI_uZ, mL_uI, mL_uR, mL_uZ, mL_sRow, LF.hk hL, layF, LF.r hL, refF, ne_eq, not_false_eq_true, Option.some.injEq, Sum.inl.injEq, Sum.inr.injEq, Prod.mk.injEq, exists_eq_left, exists_eq_left', hn, b2i_0]
  refine and_ii (fun h => c_permit_0 (Qc_2 hR (gat_2 hx (fun q => h q.1)))) (fun h1 => and_ii (fun h => c_permit_0 (Qc_2 hR (gat_2 hx (by (simp only [i_lt, i_le, i_eq, l_lt, l_le, l_eq, Int32.toInt_toInt64, Int32.reduceToInt, Int64.reduceToInt, ne_eq, Classical.not_not] at *; omega))))) (fun h2 => c_permit_1 ⟨rfl, ?_⟩))
  have hup := Classical.not_not.mp h1
  have hq : (sN S 4 = 1 ∧ sN S 6 = 0) ∧ (sN S 11 : Int) + x.toInt ≤ 1000000 := ⟨hup, by (simp only [i_lt, i_le, i_eq, l_lt, l_le, l_eq, Int32.toInt_toInt64, Int32.reduceToInt, Int64.reduceToInt, ne_eq, Classical.not_not] at *; omega)⟩
  clear h1 h2
  unfold o_ticks
  rw [gat_0 hx hq]
  refine r_X11_ticks (fun n => n == 9 || n == 12 || n == 16 || n == 42 || n == 49 || n == 63 || n == 70) 40 ?_
  simp only [cd_X11_ticks, cf_X11_ticks, wp, wq, wpI, cdF, w_CI, w_CL, w_CN, w_LI, w_LL, w_LA, w_SI, w_SL, w_SA, w_INC, w_II, w_IId, w_LLb, w_LLd, w_LS, w_I1, w_L1, w_I2L, w_L2I, w_CMP, w_DUP, w_POP, w_DUP2, w_IF, w_IC, w_GO, w_NUL, w_ACN, prs, w_GF, w_PF, w_GS, w_IAL, w_LEN, w_LAL, w_ZAL, w_AAL, w_IAS, w_LAS, w_ZAS, w_AAS, w_RI, w_RL, w_RA, w_NEW, w_NA, w_MNA, w_OI, w_THR, w_CV, w_CS, w_CN9, w_CI9, w_MX, w_cont, lget, sto1, sto2, wideV, vo, vo_rv, isR, isR_rv, rv, fget, fput, cats, Value.category, List.headD_cons, List.getD_cons_zero, List.getD_cons_succ, List.drop_succ_cons, List.drop_zero, List.take_succ_cons, List.take_zero, List.reverse_cons, List.reverse_nil, List.nil_append, List.cons_append, List.length_cons, List.length_nil, cond_true, cond_false, and_true, true_and, Nat.zero_add, Nat.add_zero, Nat.reduceAdd, Nat.reduceLT, Nat.reduceLeDiff, Nat.reduceEqDiff, Nat.reduceBEq, Nat.reduceSub, ↓reduceIte, Int32.reduceOfNat, Int64.reduceOfNat, reduceCtorEq, Nat.le_refl, Nat.zero_le, Bool.false_eq_true, beq_self_eq_true, Fin.isValue, Fin.val_zero, Fin.val_one, Fin.reduceFinMk, Fin.val_two, Nat.reduceMod, Bool.or_false, Bool.or_true, Bool.true_or, Bool.false_or, not_true_eq_false, not_false_eq_true, true_or, or_true, implies_true, false_implies, true_implies, Int32.reduceLT, Int32.reduceLE, ↓w_TAB3, ↓w_TAB4, ↓w_TAB5, ↓w_TAB7, ↓w_TAB10, ↓w_LK2, ↓w_LK6, false_and, and_false, i1z, i2z, iz1, im0, im1, l0z, hasK_uI, hasK_uL, hasK_uR, hasK_uZ, hasK_sRow, mR_uI, mR_uL, mR_uZ, mR_sRow, mI_uL, mI_uR, mI_uZ, mL_uI, mL_uR, mL_uZ, mL_sRow, LF.hk hL, layF, LF.r hL, refF, ne_eq, not_false_eq_true, Option.some.injEq, Sum.inl.injEq, Sum.inr.injEq, Prod.mk.injEq, exists_eq_left, exists_eq_left']
  refine c_hasRoom hL hN (smN_of hj) ⟨_, rfl, ?_⟩
  refine r_X11_ticks (fun n => n == 9 || n == 12 || n == 16 || n == 42 || n == 49 || n == 63 || n == 70) 40 ?_
  simp only [cd_X11_ticks, cf_X11_ticks, wp, wq, wpI, cdF, w_CI, w_CL, w_CN, w_LI, w_LL, w_LA, w_SI, w_SL, w_SA, w_INC, w_II, w_IId, w_LLb, w_LLd, w_LS, w_I1, w_L1, w_I2L, w_L2I, w_CMP, w_DUP, w_POP, w_DUP2, w_IF, w_IC, w_GO, w_NUL, w_ACN, prs, w_GF, w_PF, w_GS, w_IAL, w_LEN, w_LAL, w_ZAL, w_AAL, w_IAS, w_LAS, w_ZAS, w_AAS, w_RI, w_RL, w_RA, w_NEW, w_NA, w_MNA, w_OI, w_THR, w_CV, w_CS, w_CN9, w_CI9, w_MX, w_cont, lget, sto1, sto2, wideV, vo, vo_rv, isR, isR_rv, rv, fget, fput, cats, Value.category, List.headD_cons, List.getD_cons_zero, List.getD_cons_succ, List.drop_succ_cons, List.drop_zero, List.take_succ_cons, List.take_zero, List.reverse_cons, List.reverse_nil, List.nil_append, List.cons_append, List.length_cons, List.length_nil, cond_true, cond_false, and_true, true_and, Nat.zero_add, Nat.add_zero, Nat.reduceAdd, Nat.reduceLT, Nat.reduceLeDiff, Nat.reduceEqDiff, Nat.reduceBEq, Nat.reduceSub, ↓reduceIte, Int32.reduceOfNat, Int64.reduceOfNat, reduceCtorEq, Nat.le_refl, Nat.zero_le, Bool.false_eq_true, beq_self_eq_true, Fin.isValue, Fin.val_zero, Fin.val_one, Fin.reduceFinMk, Fin.val_two, Nat.reduceMod, Bool.or_false, Bool.or_true, Bool.true_or, Bool.false_or, not_true_eq_false, not_false_eq_true, true_or, or_true, implies_true, false_implies, true_implies, Int32.reduceLT, Int32.reduceLE, ↓w_TAB3, ↓w_TAB4, ↓w_TAB5, ↓w_TAB7, ↓w_TAB10, ↓w_LK2, ↓w_LK6, false_and, and_false, i1z, i2z, iz1, im0, im1, l0z, hasK_uI, hasK_uL, hasK_uR, hasK_uZ, hasK_sRow, mR_uI, mR_uL, mR_uZ, mR_sRow, mI_uL, mI_uR, mI_uZ, mL_uI, mL_uR, mL_uZ, mL_sRow, LF.hk hL, layF, LF.r hL, refF, ne_eq, not_false_eq_true, Option.some.injEq, Sum.inl.injEq, Sum.inr.injEq, Prod.mk.injEq, exists_eq_left, exists_eq_left', b2i_0]
  refine and_ii (fun h5 => ?_) (fun h5 => by rw [if_pos (by omega)]; exact QcI_0 hR rfl rfl)
  rw [if_neg (by omega)]
  have ex : x = nI x.toInt.toNat := w2i (by omega)
  have e11 : nI (sN S 11) + x = nI (sN S 11 + x.toInt.toNat) := by rw [← nI_add, ← ex]
  have hT2 : sN S 11 + x.toInt.toNat ≤ 1000000 := by omega
  generalize hTT : sN S 11 + x.toInt.toNat = T at *
  have hN1 : cN (up1 (sN S) 11 T) (uI M 139 5 (nI T)) := cN_11y hN rfl
  have r1 : RC w o c (wN S (up1 (sN S) 11 T)) (uI M 139 5 (nI T)) := ⟨hL, hN1, (by repeat (first | exact hI | refine cI_uI ?_ (by omega) | refine cI_uI ?_ | refine cI_uL ?_ (by omega) | refine cI_uL ?_ | refine cI_uR ?_ (by omega) | refine cI_uR ?_ | refine cI_sRow ?_ (by omega) | refine cI_sRow ?_ | refine cI_uZ ?_)), hLl, (by repeat (first | exact hF | refine cF_uI ?_ (by omega) | refine cF_uI ?_ | refine cF_uL ?_ (by omega) | refine cF_uL ?_ | refine cF_uR ?_ (by omega) | refine cF_uR ?_ | refine cF_sRow ?_ (by omega) | refine cF_sRow ?_ | refine cF_uZ ?_)), hS, (by repeat (first | exact hA | refine cA_uI ?_ (by omega) | refine cA_uI ?_ | refine cA_uL ?_ (by omega) | refine cA_uL ?_ | refine cA_uR ?_ (by omega) | refine cA_uR ?_ | refine cA_sRow ?_ (by omega) | refine cA_sRow ?_ | refine cA_uZ ?_)), hC, (by repeat (first | exact hP | refine cP_uI ?_ h39 (by omega) | refine cP_uL ?_ h39 (by omega) | refine cP_uR ?_ h39 (by omega) | refine cP_sRow ?_ h39 (by omega) | refine cP_uZ ?_)), (by repeat (first | exact hRr | refine cR_uI ?_ (by omega) | refine cR_uI ?_ | refine cR_uL ?_ (by omega) | refine cR_uL ?_ | refine cR_uR ?_ (by omega) | refine cR_uR ?_ | refine cR_sRow ?_ (by omega) | refine cR_sRow ?_ | refine cR_uZ ?_)), (by repeat (first | exact hD | refine msgC_uI ?_ (by omega) | refine msgC_uI ?_ | refine msgC_uL ?_ (by omega) | refine msgC_uL ?_ | refine msgC_uR ?_ (by omega) | refine msgC_uR ?_ | refine msgC_sRow ?_ (by omega) | refine msgC_sRow ?_ | refine msgC_uZ ?_)), (by repeat (first | exact hT | refine BYL_uI ?_ (by omega) | refine BYL_uI ?_ | refine BYL_uL ?_ (by omega) | refine BYL_uL ?_ | refine BYL_uR ?_ (by omega) | refine BYL_uR ?_ | refine BYL_sRow ?_ (by omega) | refine BYL_sRow ?_ | refine BYL_uZ ?_)), (by repeat (first | exact hZ | refine BYL_uI ?_ (by omega) | refine BYL_uI ?_ | refine BYL_uL ?_ (by omega) | refine BYL_uL ?_ | refine BYL_uR ?_ (by omega) | refine BYL_uR ?_ | refine BYL_sRow ?_ (by omega) | refine BYL_sRow ?_ | refine BYL_uZ ?_))⟩
  have hlk : ∀ i, i < sN S 39 → lapK (sP S i) := fun i hi => lapK_of (hj.2.2.2.1 i hi) (by omega)
  refine Ct.go (L0 := [some (.ref 139), some (.int x), none]) (by decide +kernel) rfl rfl ?_
  refine r_X2_advance (fun n => n == 12 || n == 30) 40 ?_
  simp only [cd_X2_advance, cf_X2_advance, wp, wq, wpI, cdF, w_CI, w_CL, w_CN, w_LI, w_LL, w_LA, w_SI, w_SL, w_SA, w_INC, w_II, w_IId, w_LLb, w_LLd, w_LS, w_I1, w_L1, w_I2L, w_L2I, w_CMP, w_DUP, w_POP, w_DUP2, w_IF, w_IC, w_GO, w_NUL, w_ACN, prs, w_GF, w_PF, w_GS, w_IAL, w_LEN, w_LAL, w_ZAL, w_AAL, w_IAS, w_LAS, w_ZAS, w_AAS, w_RI, w_RL, w_RA, w_NEW, w_NA, w_MNA, w_OI, w_THR, w_CV, w_CS, w_CN9, w_CI9, w_MX, w_cont, lget, sto1, sto2, wideV, vo, vo_rv, isR, isR_rv, rv, fget, fput, cats, Value.category, List.headD_cons, List.getD_cons_zero, List.getD_cons_succ, List.drop_succ_cons, List.drop_zero, List.take_succ_cons, List.take_zero, List.reverse_cons, List.reverse_nil, List.nil_append, List.cons_append, List.length_cons, List.length_nil, cond_true, cond_false, and_true, true_and, Nat.zero_add, Nat.add_zero, Nat.reduceAdd, Nat.reduceLT, Nat.reduceLeDiff, Nat.reduceEqDiff, Nat.reduceBEq, Nat.reduceSub, ↓reduceIte, Int32.reduceOfNat, Int64.reduceOfNat, reduceCtorEq, Nat.le_refl, Nat.zero_le, Bool.false_eq_true, beq_self_eq_true, Fin.isValue, Fin.val_zero, Fin.val_one, Fin.reduceFinMk, Fin.val_two, Nat.reduceMod, Bool.or_false, Bool.or_true, Bool.true_or, Bool.false_or, not_true_eq_false, not_false_eq_true, true_or, or_true, implies_true, false_implies, true_implies, Int32.reduceLT, Int32.reduceLE, ↓w_TAB3, ↓w_TAB4, ↓w_TAB5, ↓w_TAB7, ↓w_TAB10, ↓w_LK2, ↓w_LK6, false_and, and_false, i1z, i2z, iz1, im0, im1, l0z, hasK_uI, hasK_uL, hasK_uR, hasK_uZ, hasK_sRow, mR_uI, mR_uL, mR_uZ, mR_sRow, mI_uL, mI_uR, mI_uZ, mL_uI, mL_uR, mL_uZ, mL_sRow, LF.hk hL, layF, LF.r hL, refF, ne_eq, not_false_eq_true, Option.some.injEq, Sum.inl.injEq, Sum.inr.injEq, Prod.mk.injEq, exists_eq_left, exists_eq_left', hn, e11]
  refine lp_advance (S := wN S (up1 (sN S) 11 T)) (T := T) (M0 := M) h39 rfl hT2 hlk ?_ (sN S 39) 0 (by show sN S 39 + 0 = sN S 39; omega) _ (by rw [lapI_0]; exact r1) (hiS_uI (hiS_rfl M) (by omega)) _
  intro M1 r2 i2
  refine ⟨rfl, ?_⟩
  have l2 := r2.1
  refine r_X11_ticks (fun n => n == 9 || n == 12 || n == 16 || n == 42 || n == 49 || n == 63 || n == 70) 40 ?_
  simp only [cd_X11_ticks, cf_X11_ticks, wp, wq, wpI, cdF, w_CI, w_CL, w_CN, w_LI, w_LL, w_LA, w_SI, w_SL, w_SA, w_INC, w_II, w_IId, w_LLb, w_LLd, w_LS, w_I1, w_L1, w_I2L, w_L2I, w_CMP, w_DUP, w_POP, w_DUP2, w_IF, w_IC, w_GO, w_NUL, w_ACN, prs, w_GF, w_PF, w_GS, w_IAL, w_LEN, w_LAL, w_ZAL, w_AAL, w_IAS, w_LAS, w_ZAS, w_AAS, w_RI, w_RL, w_RA, w_NEW, w_NA, w_MNA, w_OI, w_THR, w_CV, w_CS, w_CN9, w_CI9, w_MX, w_cont, lget, sto1, sto2, wideV, vo, vo_rv, isR, isR_rv, rv, fget, fput, cats, Value.category, List.headD_cons, List.getD_cons_zero, List.getD_cons_succ, List.drop_succ_cons, List.drop_zero, List.take_succ_cons, List.take_zero, List.reverse_cons, List.reverse_nil, List.nil_append, List.cons_append, List.length_cons, List.length_nil, cond_true, cond_false, and_true, true_and, Nat.zero_add, Nat.add_zero, Nat.reduceAdd, Nat.reduceLT, Nat.reduceLeDiff, Nat.reduceEqDiff, Nat.reduceBEq, Nat.reduceSub, ↓reduceIte, Int32.reduceOfNat, Int64.reduceOfNat, reduceCtorEq, Nat.le_refl, Nat.zero_le, Bool.false_eq_true, beq_self_eq_true, Fin.isValue, Fin.val_zero, Fin.val_one, Fin.reduceFinMk, Fin.val_two, Nat.reduceMod, Bool.or_false, Bool.or_true, Bool.true_or, Bool.false_or, not_true_eq_false, not_false_eq_true, true_or, or_true, implies_true, false_implies, true_implies, Int32.reduceLT, Int32.reduceLE, ↓w_TAB3, ↓w_TAB4, ↓w_TAB5, ↓w_TAB7, ↓w_TAB10, ↓w_LK2, ↓w_LK6, false_and, and_false, i1z, i2z, iz1, im0, im1, l0z, hasK_uI, hasK_uL, hasK_uR, hasK_uZ, hasK_sRow, mR_uI, mR_uL, mR_uZ, mR_sRow, mI_uL, mI_uR, mI_uZ, mL_uI, mL_uR, mL_uZ, mL_sRow, LF.hg l2, layF, LF.r l2, refF, ne_eq, not_false_eq_true, Option.some.injEq, Sum.inl.injEq, Sum.inr.injEq, Prod.mk.injEq, exists_eq_left, exists_eq_left']
  have hsm : smN (up1 (sN S) 11 T) := by
    have := smN_of hj
    unfold smN at *
    exact this
  refine c_writeOne (n := up1 (sN S) 11 T) l2 r2.2.1 hsm (by show sN S 7 ≠ 1; omega) (fun M2 n1 e1 => ⟨_, rfl, ?_⟩)
  have rf := RC_n r2 n1 e1 (wr1_ne (by omega)) (wr1_ne (by omega)) (wr1_ne (by omega)) h39
  have hh : hiS M M2 := hiS_rE i2 e1 (by omega)
  have eP : (fun j => if j < sN S 39 then lapP (sP S j) T else sP S j) = (fun j => if j < sN S 39 then lapP (sP S j) T else sP S j) := rfl
  have rf2 : RC w o c (wP (wL (wN S (wr1 (up1 (sN S) 11 T))) (lapL (sP S) T (sL S) (sN S 39))) (fun i => lapP (sP S i) T)) M2 := by
    obtain ⟨a1, a2, a3, a4, a5, a6, a7, a8, a9, a10, a11, a12, a13⟩ := rf
    have e39 : wr1 (up1 (sN S) 11 T) 39 = sN S 39 := wr1_ne (by omega)
    refine ⟨a1, a2, a3, a4, a5, ?_, a7, a8, ?_, a10, a11, a12, a13⟩
    · have a6 : cS (wr1 (up1 (sN S) 11 T) 39) (fun j => if j < sN S 39 then lapP (sP S j) T else sP S j) M2 := a6
      show cS (wr1 (up1 (sN S) 11 T) 39) (fun i => lapP (sP S i) T) M2
      rw [e39] at a6 ⊢
      intro b hb
      have h1 := a6 b hb
      have s1 : sumF (hOf (fun j => if j < sN S 39 then lapP (sP S j) T else sP S j) b) (sN S 39) = sumF (hOf (fun i => lapP (sP S i) T) b) (sN S 39) := sumF_congr (fun i hi => by unfold hOf; simp only [if_pos hi])
      have s2 : sumF (kOf (fun j => if j < sN S 39 then lapP (sP S j) T else sP S j) b) (sN S 39) = sumF (kOf (fun i => lapP (sP S i) T) b) (sN S 39) := sumF_congr (fun i hi => by unfold kOf; simp only [if_pos hi])
      rw [s1, s2] at h1
      exact h1
    · have a9 : cP w (wr1 (up1 (sN S) 11 T) 39) (fun j => if j < sN S 39 then lapP (sP S j) T else sP S j) M2 := a9
      show cP w (wr1 (up1 (sN S) 11 T) 39) (fun i => lapP (sP S i) T) M2
      rw [e39] at a9 ⊢
      refine ⟨a9.1, a9.2.1, fun i hi => ?_⟩
      have h1 := a9.2.2 i hi
      simp only [if_pos hi] at h1
      exact h1
  have e11' : mI M2 139 5 = nI T := by
    have := rf2.2.1
    unfold cN at this
    rw [this.2.2.2.2.2.2.2.2.2.2.2.2.1]
    show nI (wr1 (up1 (sN S) 11 T) 11) = nI T
    rw [wr1_ne (by omega)]
    rfl
  have l3 := rf2.1
  have h6 : wr1 (up1 (sN S) 11 T) 6 = 0 ∨ wr1 (up1 (sN S) 11 T) 6 = 1 := by
    have : wr1 (up1 (sN S) 11 T) 6 ≤ 1 := by unfold wr1; exact spd_6 (by simp [up1]; omega)
    omega
  have eT : (sN S 11 : Int) + x.toInt = T := by omega
  rw [eT]
  rcases h6 with e6 | e6
  · rw [e6, show nI 0 = (0 : Int32) from rfl]
    refine r_X11_ticks (fun n => n == 9 || n == 12 || n == 16 || n == 42 || n == 49 || n == 63 || n == 70) 40 ?_
    simp only [cd_X11_ticks, cf_X11_ticks, wp, wq, wpI, cdF, w_CI, w_CL, w_CN, w_LI, w_LL, w_LA, w_SI, w_SL, w_SA, w_INC, w_II, w_IId, w_LLb, w_LLd, w_LS, w_I1, w_L1, w_I2L, w_L2I, w_CMP, w_DUP, w_POP, w_DUP2, w_IF, w_IC, w_GO, w_NUL, w_ACN, prs, w_GF, w_PF, w_GS, w_IAL, w_LEN, w_LAL, w_ZAL, w_AAL, w_IAS, w_LAS, w_ZAS, w_AAS, w_RI, w_RL, w_RA, w_NEW, w_NA, w_MNA, w_OI, w_THR, w_CV, w_CS, w_CN9, w_CI9, w_MX, w_cont, lget, sto1, sto2, wideV, vo, vo_rv, isR, isR_rv, rv, fget, fput, cats, Value.category, List.headD_cons, List.getD_cons_zero, List.getD_cons_succ, List.drop_succ_cons, List.drop_zero, List.take_succ_cons, List.take_zero, List.reverse_cons, List.reverse_nil, List.nil_append, List.cons_append, List.length_cons, List.length_nil, cond_true, cond_false, and_true, true_and, Nat.zero_add, Nat.add_zero, Nat.reduceAdd, Nat.reduceLT, Nat.reduceLeDiff, Nat.reduceEqDiff, Nat.reduceBEq, Nat.reduceSub, ↓reduceIte, Int32.reduceOfNat, Int64.reduceOfNat, reduceCtorEq, Nat.le_refl, Nat.zero_le, Bool.false_eq_true, beq_self_eq_true, Fin.isValue, Fin.val_zero, Fin.val_one, Fin.reduceFinMk, Fin.val_two, Nat.reduceMod, Bool.or_false, Bool.or_true, Bool.true_or, Bool.false_or, not_true_eq_false, not_false_eq_true, true_or, or_true, implies_true, false_implies, true_implies, Int32.reduceLT, Int32.reduceLE, ↓w_TAB3, ↓w_TAB4, ↓w_TAB5, ↓w_TAB7, ↓w_TAB10, ↓w_LK2, ↓w_LK6, false_and, and_false, i1z, i2z, iz1, im0, im1, l0z, hasK_uI, hasK_uL, hasK_uR, hasK_uZ, hasK_sRow, mR_uI, mR_uL, mR_uZ, mR_sRow, mI_uL, mI_uR, mI_uZ, mL_uI, mL_uR, mL_uZ, mL_sRow, LF.hg l3, layF, LF.r l3, refF, ne_eq, not_false_eq_true, Option.some.injEq, Sum.inl.injEq, Sum.inr.injEq, Prod.mk.injEq, exists_eq_left, exists_eq_left', e11']
    exact Qc_cut rf2 hh (by show _ = wdI (if wr1 (up1 (sN S) 11 T) 6 = 1 then -3 else (T : Int)); rw [e6]; rfl)
  · rw [e6, show nI 1 = (1 : Int32) from rfl]
    refine r_X11_ticks (fun n => n == 9 || n == 12 || n == 16 || n == 42 || n == 49 || n == 63 || n == 70) 40 ?_
    simp only [cd_X11_ticks, cf_X11_ticks, wp, wq, wpI, cdF, w_CI, w_CL, w_CN, w_LI, w_LL, w_LA, w_SI, w_SL, w_SA, w_INC, w_II, w_IId, w_LLb, w_LLd, w_LS, w_I1, w_L1, w_I2L, w_L2I, w_CMP, w_DUP, w_POP, w_DUP2, w_IF, w_IC, w_GO, w_NUL, w_ACN, prs, w_GF, w_PF, w_GS, w_IAL, w_LEN, w_LAL, w_ZAL, w_AAL, w_IAS, w_LAS, w_ZAS, w_AAS, w_RI, w_RL, w_RA, w_NEW, w_NA, w_MNA, w_OI, w_THR, w_CV, w_CS, w_CN9, w_CI9, w_MX, w_cont, lget, sto1, sto2, wideV, vo, vo_rv, isR, isR_rv, rv, fget, fput, cats, Value.category, List.headD_cons, List.getD_cons_zero, List.getD_cons_succ, List.drop_succ_cons, List.drop_zero, List.take_succ_cons, List.take_zero, List.reverse_cons, List.reverse_nil, List.nil_append, List.cons_append, List.length_cons, List.length_nil, cond_true, cond_false, and_true, true_and, Nat.zero_add, Nat.add_zero, Nat.reduceAdd, Nat.reduceLT, Nat.reduceLeDiff, Nat.reduceEqDiff, Nat.reduceBEq, Nat.reduceSub, ↓reduceIte, Int32.reduceOfNat, Int64.reduceOfNat, reduceCtorEq, Nat.le_refl, Nat.zero_le, Bool.false_eq_true, beq_self_eq_true, Fin.isValue, Fin.val_zero, Fin.val_one, Fin.reduceFinMk, Fin.val_two, Nat.reduceMod, Bool.or_false, Bool.or_true, Bool.true_or, Bool.false_or, not_true_eq_false, not_false_eq_true, true_or, or_true, implies_true, false_implies, true_implies, Int32.reduceLT, Int32.reduceLE, ↓w_TAB3, ↓w_TAB4, ↓w_TAB5, ↓w_TAB7, ↓w_TAB10, ↓w_LK2, ↓w_LK6, false_and, and_false, i1z, i2z, iz1, im0, im1, l0z, hasK_uI, hasK_uL, hasK_uR, hasK_uZ, hasK_sRow, mR_uI, mR_uL, mR_uZ, mR_sRow, mI_uL, mI_uR, mI_uZ, mL_uI, mL_uR, mL_uZ, mL_sRow, LF.hg l3, layF, LF.r l3, refF, ne_eq, not_false_eq_true, Option.some.injEq, Sum.inl.injEq, Sum.inr.injEq, Prod.mk.injEq, exists_eq_left, exists_eq_left', e11']
    exact Qc_cut rf2 hh (by show _ = wdI (if wr1 (up1 (sN S) 11 T) 6 = 1 then -3 else (T : Int)); rw [e6]; rfl)
end TCK
