/-! A MESSAGE IS ASKED: the class, what it tells of cards, payments, answers -/
section AQ
variable {G : En} {M M0 Mz M' : Mem} {Q : Option Value → Mem → Prop} {X : String → Mem → Prop} {S : Sw} {t a b s n N L th ty tr ac k f d : Nat} {x y z u : Int32} {w c : Nat → Nat} {o : Nat} {m : Msg} {g g' : Nat → Nat} {p : Py} {xs ys : List Nat}
theorem vl_iff (hg : ∀ i, i < n → g i < 10) (hv : k < 10 ^ n) : vl g n = k ↔ ∀ i, i < n → dgt 10 n k i = g i := by
  constructor
  · intro e i hi
    rw [← e]
    exact dgt_vl hi hg
  · intro h
    rw [vl_congr (g := dgt 10 n k) (fun i hi => (h i hi).symm)]
    exact vl_dgt_all hv
theorem orig_iff (hg : ∀ i, i < 42 → g i < 10) (htr : tr < 1000000) (hac : ac < 1000) : eqN (orig 100 tr ac) g 42 = true ↔ (vl (fun i => g (0 + i)) 4 = 100 ∧ vl (fun i => g (4 + i)) 6 = tr ∧ vl (fun i => g (10 + i)) 10 = 0 ∧ vl (fun i => g (20 + i)) 11 = ac ∧ vl (fun i => g (31 + i)) 11 = 0) := by
  have d0 : ∀ n i, dgt 10 n 0 i = 0 := fun n i => by unfold dgt; simp
  have dz : ∀ i, i < 10 → dgt 10 21 ac i = 0 := fun i hi => by
    unfold dgt
    rw [Nat.div_eq_of_lt]
    refine Nat.lt_of_lt_of_le hac (Nat.le_trans (show 1000 ≤ 10 ^ 3 by omega) (Nat.pow_le_pow_right (by omega) (by omega)))
  have dx : ∀ i, i < 11 → dgt 10 21 ac (10 + i) = dgt 10 11 ac i := fun i hi => by
    unfold dgt
    rw [show 21 - 1 - (10 + i) = 11 - 1 - i by omega]
  rw [eqN_iff, vl_iff (fun i hi => hg _ (by omega)) (by omega), vl_iff (fun i hi => hg _ (by omega)) (by omega), vl_iff (fun i hi => hg _ (by omega)) (by omega), vl_iff (fun i hi => hg _ (by omega)) (by omega), vl_iff (fun i hi => hg _ (by omega)) (by omega)]
  unfold orig
  constructor
  · intro h
    refine ⟨fun i hi => ?_, fun i hi => ?_, fun i hi => ?_, fun i hi => ?_, fun i hi => ?_⟩
    · have := h (0 + i) (by omega)
      rw [if_pos (by omega), show 0 + i = i by omega] at this
      rw [show 0 + i = i by omega]; exact this
    · have := h (4 + i) (by omega)
      rw [if_neg (by omega), if_pos (by omega), show 4 + i - 4 = i by omega] at this; exact this
    · have := h (10 + i) (by omega)
      rw [if_neg (by omega), if_neg (by omega), if_pos (by omega), show 10 + i - 10 = i by omega, dz i hi] at this
      rw [d0]; exact this
    · have := h (20 + i) (by omega)
      rw [if_neg (by omega), if_neg (by omega), if_pos (by omega), show 20 + i - 10 = 10 + i by omega, dx i hi] at this
      exact this
    · have := h (31 + i) (by omega)
      rw [if_neg (by omega), if_neg (by omega), if_neg (by omega)] at this
      rw [d0]; exact this
  · rintro ⟨h1, h2, h3, h4, h5⟩ i hi
    by_cases q1 : i < 4
    · rw [if_pos q1]; have := h1 i q1; rw [show 0 + i = i by omega] at this; exact this
    rw [if_neg q1]
    by_cases q2 : i < 10
    · rw [if_pos q2]; have := h2 (i - 4) (by omega); rw [show 4 + (i - 4) = i by omega] at this; exact this
    rw [if_neg q2]
    by_cases q3 : i < 31
    · rw [if_pos q3]
      by_cases q4 : i < 20
      · have := h3 (i - 10) (by omega); rw [show 10 + (i - 10) = i by omega, d0] at this; rw [dz _ (by omega)]; exact this
      · have := h4 (i - 20) (by omega); rw [show 20 + (i - 20) = i by omega, ← dx _ (by omega), show 10 + (i - 20) = i - 10 by omega] at this; exact this
    · rw [if_neg q3]; have := h5 (i - 31) (by omega); rw [show 31 + (i - 31) = i by omega, d0] at this; exact this
set_option maxRecDepth 20000 in
theorem c_isOrig (h : MS M a) (hm : msgC M a (a + 1) (a + 3) m) (ho : okM m) (hp : pb (gH m) 14 = 1) (htr : tr < 1000000) (hac : ac < 1000) (hx : x = nI tr) (hy : y = nI ac) (hQ : Q (some (.int (b2i (eqN (orig 100 tr ac) (gS m 14) 42 = true)))) M) : Ct G (MT 72) [.ref a, .int x, .int y] M Q X := by
  subst hx hy
  have hms := hm.2.2 14 (by omega) hp
  have hof := ho.2.2 14 (by omega) hp
  have h42 : gN m 14 = 42 := hof.2.1 rfl
  have hg : ∀ i, i < 42 → gS m 14 i < 10 := fun i hi => hof.2.2.2 i (by omega)
  have hg2 : ∀ i, i < 42 → gS m 14 i < 100 := fun i hi => by have := hg i hi; omega
  rw [h42] at hms
  have hi := orig_iff hg htr hac
  have e1 := nI_lI (n := tr) (by omega)
  have e2 := nI_lI (n := ac) (by omega)
  have bv : ∀ f n, f + n ≤ 42 → n ≤ 11 → vl (fun i => gS m 14 (f + i)) n < 1000000000000 := fun f n h1 h2 => by
    have := vl_lt (f := fun i => gS m 14 (f + i)) (n := n) (fun i hi => hg _ (by omega))
    have h3 : 10 ^ n ≤ 10 ^ 11 := Nat.pow_le_pow_right (by omega) h2
    omega
  have b1 := bv 0 4 (by omega) (by omega)
  have b2 := bv 4 6 (by omega) (by omega)
  have b3 := bv 10 10 (by omega) (by omega)
  have b4 := bv 20 11 (by omega) (by omega)
  have b5 := bv 31 11 (by omega) (by omega)
  have hno : ∀ q : ¬ (vl (fun i => gS m 14 (0 + i)) 4 = 100 ∧ vl (fun i => gS m 14 (4 + i)) 6 = tr ∧ vl (fun i => gS m 14 (10 + i)) 10 = 0 ∧ vl (fun i => gS m 14 (20 + i)) 11 = ac ∧ vl (fun i => gS m 14 (31 + i)) 11 = 0), Q (some (.int 0)) M := fun q => by
    rw [b2i_f (fun e => q (hi.mp e))] at hQ; exact hQ
  have hl : ∀ {v v' : Nat}, v < 1000000000000 → v' < 1000000000000 → (lI (v : Int) = lI (v' : Int) ↔ v = v') := fun h1 h2 => by
    rw [lI_eq (by unfold fL; omega) (by unfold fL; omega)]; omega
  refine Ct.go (L0 := [some (.ref a), some (.int (nI tr)), some (.int (nI ac))]) (by decide +kernel) rfl rfl ?_
  refine r_X6_isOriginalOf (fun n => n == 8 || n == 24 || n == 40 || n == 55 || n == 71) 60 ?_
  simp only [cd_X6_isOriginalOf, cf_X6_isOriginalOf, wp, wq, wpI, cdF, w_CI, w_CL, w_CN, w_LI, w_LL, w_LA, w_SI, w_SL, w_SA, w_INC, w_II, w_IId, w_LLb, w_LLd, w_LS, w_I1, w_L1, w_I2L, w_L2I, w_CMP, w_DUP, w_POP, w_DUP2, w_IF, w_IC, w_GO, w_NUL, w_ACN, prs, w_GF, w_PF, w_GS, w_IAL, w_LEN, w_LAL, w_ZAL, w_AAL, w_IAS, w_LAS, w_ZAS, w_AAS, w_RI, w_RL, w_RA, w_NEW, w_NA, w_MNA, w_OI, w_THR, w_CV, w_CS, w_CN9, w_CI9, w_MX, w_cont, lget, sto1, sto2, wideV, vo, vo_rv, isR, isR_rv, rv, fget, fput, cats, Value.category, List.headD_cons, List.getD_cons_zero, List.getD_cons_succ, List.drop_succ_cons, List.drop_zero, List.take_succ_cons, List.take_zero, List.reverse_cons, List.reverse_nil, List.nil_append, List.cons_append, List.length_cons, List.length_nil, cond_true, cond_false, and_true, true_and, Nat.zero_add, Nat.add_zero, Nat.reduceAdd, Nat.reduceLT, Nat.reduceLeDiff, Nat.reduceEqDiff, Nat.reduceBEq, Nat.reduceSub, ↓reduceIte, Int32.reduceOfNat, Int64.reduceOfNat, reduceCtorEq, Nat.le_refl, Nat.zero_le, Bool.false_eq_true, beq_self_eq_true, Fin.isValue, Fin.val_zero, Fin.val_one, Fin.reduceFinMk, Fin.val_two, Nat.reduceMod, Bool.or_false, Bool.or_true, Bool.true_or, Bool.false_or, not_true_eq_false, not_false_eq_true, true_or, or_true, implies_true, false_implies, true_implies, Int32.reduceLT, Int32.reduceLE, ↓w_TAB3, ↓w_TAB4, ↓w_TAB5, ↓w_TAB7, ↓w_TAB10, ↓w_LK2, ↓w_LK6, false_and, and_false, i1z, i2z, iz1, im0, im1, l0z, h.1]
  refine c_section (g := gS m 14) (s := 14) (f := 0) (n := 4) (L := 42) h hms.1 hms.2 (by omega) (by omega) (by omega) hg2 rfl rfl rfl ⟨_, rfl, ?_⟩
  refine r_X6_isOriginalOf (fun n => n == 8 || n == 24 || n == 40 || n == 55 || n == 71) 60 ?_
  simp only [cd_X6_isOriginalOf, cf_X6_isOriginalOf, wp, wq, wpI, cdF, w_CI, w_CL, w_CN, w_LI, w_LL, w_LA, w_SI, w_SL, w_SA, w_INC, w_II, w_IId, w_LLb, w_LLd, w_LS, w_I1, w_L1, w_I2L, w_L2I, w_CMP, w_DUP, w_POP, w_DUP2, w_IF, w_IC, w_GO, w_NUL, w_ACN, prs, w_GF, w_PF, w_GS, w_IAL, w_LEN, w_LAL, w_ZAL, w_AAL, w_IAS, w_LAS, w_ZAS, w_AAS, w_RI, w_RL, w_RA, w_NEW, w_NA, w_MNA, w_OI, w_THR, w_CV, w_CS, w_CN9, w_CI9, w_MX, w_cont, lget, sto1, sto2, wideV, vo, vo_rv, isR, isR_rv, rv, fget, fput, cats, Value.category, List.headD_cons, List.getD_cons_zero, List.getD_cons_succ, List.drop_succ_cons, List.drop_zero, List.take_succ_cons, List.take_zero, List.reverse_cons, List.reverse_nil, List.nil_append, List.cons_append, List.length_cons, List.length_nil, cond_true, cond_false, and_true, true_and, Nat.zero_add, Nat.add_zero, Nat.reduceAdd, Nat.reduceLT, Nat.reduceLeDiff, Nat.reduceEqDiff, Nat.reduceBEq, Nat.reduceSub, ↓reduceIte, Int32.reduceOfNat, Int64.reduceOfNat, reduceCtorEq, Nat.le_refl, Nat.zero_le, Bool.false_eq_true, beq_self_eq_true, Fin.isValue, Fin.val_zero, Fin.val_one, Fin.reduceFinMk, Fin.val_two, Nat.reduceMod, Bool.or_false, Bool.or_true, Bool.true_or, Bool.false_or, not_true_eq_false, not_false_eq_true, true_or, or_true, implies_true, false_implies, true_implies, Int32.reduceLT, Int32.reduceLE, ↓w_TAB3, ↓w_TAB4, ↓w_TAB5, ↓w_TAB7, ↓w_TAB10, ↓w_LK2, ↓w_LK6, false_and, and_false, i1z, i2z, iz1, im0, im1, l0z, h.1, cmp_eq]
  refine and_ii (fun q => hno (fun e => q ((hl (v' := 100) b1 (by omega)).mpr e.1))) (fun q1 => ?_)
  have q1 := (hl (v' := 100) b1 (by omega)).mp (Classical.not_not.mp q1)
  refine c_section (g := gS m 14) (s := 14) (f := 4) (n := 6) (L := 42) h hms.1 hms.2 (by omega) (by omega) (by omega) hg2 rfl rfl rfl ⟨_, rfl, ?_⟩
  refine r_X6_isOriginalOf (fun n => n == 8 || n == 24 || n == 40 || n == 55 || n == 71) 60 ?_
  simp only [cd_X6_isOriginalOf, cf_X6_isOriginalOf, wp, wq, wpI, cdF, w_CI, w_CL, w_CN, w_LI, w_LL, w_LA, w_SI, w_SL, w_SA, w_INC, w_II, w_IId, w_LLb, w_LLd, w_LS, w_I1, w_L1, w_I2L, w_L2I, w_CMP, w_DUP, w_POP, w_DUP2, w_IF, w_IC, w_GO, w_NUL, w_ACN, prs, w_GF, w_PF, w_GS, w_IAL, w_LEN, w_LAL, w_ZAL, w_AAL, w_IAS, w_LAS, w_ZAS, w_AAS, w_RI, w_RL, w_RA, w_NEW, w_NA, w_MNA, w_OI, w_THR, w_CV, w_CS, w_CN9, w_CI9, w_MX, w_cont, lget, sto1, sto2, wideV, vo, vo_rv, isR, isR_rv, rv, fget, fput, cats, Value.category, List.headD_cons, List.getD_cons_zero, List.getD_cons_succ, List.drop_succ_cons, List.drop_zero, List.take_succ_cons, List.take_zero, List.reverse_cons, List.reverse_nil, List.nil_append, List.cons_append, List.length_cons, List.length_nil, cond_true, cond_false, and_true, true_and, Nat.zero_add, Nat.add_zero, Nat.reduceAdd, Nat.reduceLT, Nat.reduceLeDiff, Nat.reduceEqDiff, Nat.reduceBEq, Nat.reduceSub, ↓reduceIte, Int32.reduceOfNat, Int64.reduceOfNat, reduceCtorEq, Nat.le_refl, Nat.zero_le, Bool.false_eq_true, beq_self_eq_true, Fin.isValue, Fin.val_zero, Fin.val_one, Fin.reduceFinMk, Fin.val_two, Nat.reduceMod, Bool.or_false, Bool.or_true, Bool.true_or, Bool.false_or, not_true_eq_false, not_false_eq_true, true_or, or_true, implies_true, false_implies, true_implies, Int32.reduceLT, Int32.reduceLE, ↓w_TAB3, ↓w_TAB4, ↓w_TAB5, ↓w_TAB7, ↓w_TAB10, ↓w_LK2, ↓w_LK6, false_and, and_false, i1z, i2z, iz1, im0, im1, l0z, h.1, cmp_eq, e1]
  refine and_ii (fun q => hno (fun e => q ((hl b2 (by omega)).mpr e.2.1))) (fun q2 => ?_)
  have q2 := (hl (v' := tr) b2 (by omega)).mp (Classical.not_not.mp q2)
  refine c_section (g := gS m 14) (s := 14) (f := 10) (n := 10) (L := 42) h hms.1 hms.2 (by omega) (by omega) (by omega) hg2 rfl rfl rfl ⟨_, rfl, ?_⟩
  refine r_X6_isOriginalOf (fun n => n == 8 || n == 24 || n == 40 || n == 55 || n == 71) 60 ?_
  simp only [cd_X6_isOriginalOf, cf_X6_isOriginalOf, wp, wq, wpI, cdF, w_CI, w_CL, w_CN, w_LI, w_LL, w_LA, w_SI, w_SL, w_SA, w_INC, w_II, w_IId, w_LLb, w_LLd, w_LS, w_I1, w_L1, w_I2L, w_L2I, w_CMP, w_DUP, w_POP, w_DUP2, w_IF, w_IC, w_GO, w_NUL, w_ACN, prs, w_GF, w_PF, w_GS, w_IAL, w_LEN, w_LAL, w_ZAL, w_AAL, w_IAS, w_LAS, w_ZAS, w_AAS, w_RI, w_RL, w_RA, w_NEW, w_NA, w_MNA, w_OI, w_THR, w_CV, w_CS, w_CN9, w_CI9, w_MX, w_cont, lget, sto1, sto2, wideV, vo, vo_rv, isR, isR_rv, rv, fget, fput, cats, Value.category, List.headD_cons, List.getD_cons_zero, List.getD_cons_succ, List.drop_succ_cons, List.drop_zero, List.take_succ_cons, List.take_zero, List.reverse_cons, List.reverse_nil, List.nil_append, List.cons_append, List.length_cons, List.length_nil, cond_true, cond_false, and_true, true_and, Nat.zero_add, Nat.add_zero, Nat.reduceAdd, Nat.reduceLT, Nat.reduceLeDiff, Nat.reduceEqDiff, Nat.reduceBEq, Nat.reduceSub, ↓reduceIte, Int32.reduceOfNat, Int64.reduceOfNat, reduceCtorEq, Nat.le_refl, Nat.zero_le, Bool.false_eq_true, beq_self_eq_true, Fin.isValue, Fin.val_zero, Fin.val_one, Fin.reduceFinMk, Fin.val_two, Nat.reduceMod, Bool.or_false, Bool.or_true, Bool.true_or, Bool.false_or, not_true_eq_false, not_false_eq_true, true_or, or_true, implies_true, false_implies, true_implies, Int32.reduceLT, Int32.reduceLE, ↓w_TAB3, ↓w_TAB4, ↓w_TAB5, ↓w_TAB7, ↓w_TAB10, ↓w_LK2, ↓w_LK6, false_and, and_false, i1z, i2z, iz1, im0, im1, l0z, h.1, cmp_eq]
  refine and_ii (fun q => hno (fun e => q ((hl (v' := 0) b3 (by omega)).mpr e.2.2.1))) (fun q3 => ?_)
  have q3 := (hl (v' := 0) b3 (by omega)).mp (Classical.not_not.mp q3)
  refine c_section (g := gS m 14) (s := 14) (f := 20) (n := 11) (L := 42) h hms.1 hms.2 (by omega) (by omega) (by omega) hg2 rfl rfl rfl ⟨_, rfl, ?_⟩
  refine r_X6_isOriginalOf (fun n => n == 8 || n == 24 || n == 40 || n == 55 || n == 71) 60 ?_
  simp only [cd_X6_isOriginalOf, cf_X6_isOriginalOf, wp, wq, wpI, cdF, w_CI, w_CL, w_CN, w_LI, w_LL, w_LA, w_SI, w_SL, w_SA, w_INC, w_II, w_IId, w_LLb, w_LLd, w_LS, w_I1, w_L1, w_I2L, w_L2I, w_CMP, w_DUP, w_POP, w_DUP2, w_IF, w_IC, w_GO, w_NUL, w_ACN, prs, w_GF, w_PF, w_GS, w_IAL, w_LEN, w_LAL, w_ZAL, w_AAL, w_IAS, w_LAS, w_ZAS, w_AAS, w_RI, w_RL, w_RA, w_NEW, w_NA, w_MNA, w_OI, w_THR, w_CV, w_CS, w_CN9, w_CI9, w_MX, w_cont, lget, sto1, sto2, wideV, vo, vo_rv, isR, isR_rv, rv, fget, fput, cats, Value.category, List.headD_cons, List.getD_cons_zero, List.getD_cons_succ, List.drop_succ_cons, List.drop_zero, List.take_succ_cons, List.take_zero, List.reverse_cons, List.reverse_nil, List.nil_append, List.cons_append, List.length_cons, List.length_nil, cond_true, cond_false, and_true, true_and, Nat.zero_add, Nat.add_zero, Nat.reduceAdd, Nat.reduceLT, Nat.reduceLeDiff, Nat.reduceEqDiff, Nat.reduceBEq, Nat.reduceSub, ↓reduceIte, Int32.reduceOfNat, Int64.reduceOfNat, reduceCtorEq, Nat.le_refl, Nat.zero_le, Bool.false_eq_true, beq_self_eq_true, Fin.isValue, Fin.val_zero, Fin.val_one, Fin.reduceFinMk, Fin.val_two, Nat.reduceMod, Bool.or_false, Bool.or_true, Bool.true_or, Bool.false_or, not_true_eq_false, not_false_eq_true, true_or, or_true, implies_true, false_implies, true_implies, Int32.reduceLT, Int32.reduceLE, ↓w_TAB3, ↓w_TAB4, ↓w_TAB5, ↓w_TAB7, ↓w_TAB10, ↓w_LK2, ↓w_LK6, false_and, and_false, i1z, i2z, iz1, im0, im1, l0z, h.1, cmp_eq, e2]
  refine and_ii (fun q => hno (fun e => q ((hl b4 (by omega)).mpr e.2.2.2.1))) (fun q4 => ?_)
  have q4 := (hl (v' := ac) b4 (by omega)).mp (Classical.not_not.mp q4)
  refine c_section (g := gS m 14) (s := 14) (f := 31) (n := 11) (L := 42) h hms.1 hms.2 (by omega) (by omega) (by omega) hg2 rfl rfl rfl ⟨_, rfl, ?_⟩
  refine r_X6_isOriginalOf (fun n => n == 8 || n == 24 || n == 40 || n == 55 || n == 71) 60 ?_
  simp only [cd_X6_isOriginalOf, cf_X6_isOriginalOf, wp, wq, wpI, cdF, w_CI, w_CL, w_CN, w_LI, w_LL, w_LA, w_SI, w_SL, w_SA, w_INC, w_II, w_IId, w_LLb, w_LLd, w_LS, w_I1, w_L1, w_I2L, w_L2I, w_CMP, w_DUP, w_POP, w_DUP2, w_IF, w_IC, w_GO, w_NUL, w_ACN, prs, w_GF, w_PF, w_GS, w_IAL, w_LEN, w_LAL, w_ZAL, w_AAL, w_IAS, w_LAS, w_ZAS, w_AAS, w_RI, w_RL, w_RA, w_NEW, w_NA, w_MNA, w_OI, w_THR, w_CV, w_CS, w_CN9, w_CI9, w_MX, w_cont, lget, sto1, sto2, wideV, vo, vo_rv, isR, isR_rv, rv, fget, fput, cats, Value.category, List.headD_cons, List.getD_cons_zero, List.getD_cons_succ, List.drop_succ_cons, List.drop_zero, List.take_succ_cons, List.take_zero, List.reverse_cons, List.reverse_nil, List.nil_append, List.cons_append, List.length_cons, List.length_nil, cond_true, cond_false, and_true, true_and, Nat.zero_add, Nat.add_zero, Nat.reduceAdd, Nat.reduceLT, Nat.reduceLeDiff, Nat.reduceEqDiff, Nat.reduceBEq, Nat.reduceSub, ↓reduceIte, Int32.reduceOfNat, Int64.reduceOfNat, reduceCtorEq, Nat.le_refl, Nat.zero_le, Bool.false_eq_true, beq_self_eq_true, Fin.isValue, Fin.val_zero, Fin.val_one, Fin.reduceFinMk, Fin.val_two, Nat.reduceMod, Bool.or_false, Bool.or_true, Bool.true_or, Bool.false_or, not_true_eq_false, not_false_eq_true, true_or, or_true, implies_true, false_implies, true_implies, Int32.reduceLT, Int32.reduceLE, ↓w_TAB3, ↓w_TAB4, ↓w_TAB5, ↓w_TAB7, ↓w_TAB10, ↓w_LK2, ↓w_LK6, false_and, and_false, i1z, i2z, iz1, im0, im1, l0z, h.1, cmp_eq]
  refine and_ii (fun q => hno (fun e => q ((hl (v' := 0) b5 (by omega)).mpr e.2.2.2.2))) (fun q5 => ?_)
  have q5 := (hl (v' := 0) b5 (by omega)).mp (Classical.not_not.mp q5)
  rw [b2i_t (hi.mpr ⟨q1, q2, q3, q4, q5⟩)] at hQ
  exact hQ
theorem c_isComplete (h : MS M a) (hm : msgC M a (a + 1) (a + 3) m) (ho : okM m) (hQ : Q (some (.int (b2i (isWh m = true)))) M) : Ct G (MT 43) [.ref a] M Q X := by
  have hty := ho.1
  have hth := ho.2.1
  have i10 : ((10 : Int32) = 0) = False := eq_false (by decide)
  have e1 : nI (gT m) / 10 = nI (gT m / 10) := nI_div (b := 10) (by omega) (by omega) (by omega)
  have c10 : nI (gH m) &&& (-1025) = nI (clrB (gH m) 10) := nI_clr hth (s := 10) (by omega)
  have c15 : nI (gH m) &&& (-32769) = nI (clrB (gH m) 15) := nI_clr hth (s := 15) (by omega)
  have l10 := clrB_lt (s := 10) hth
  have l15 := clrB_lt (s := 15) hth
  have t1 := nI_toInt (n := gT m / 10) (by omega)
  have t2 := nI_toInt (n := gH m) (by omega)
  have t3 := nI_toInt (n := clrB (gH m) 10) (by omega)
  have t4 := nI_toInt (n := clrB (gH m) 15) (by omega)
  have hw : (isWh m = true) = (if gT m / 10 = 10 then clrB (gH m) 10 = 831 else if gT m / 10 = 22 then gH m = 639 else if gT m / 10 = 40 ∨ gT m / 10 = 42 then clrB (gH m) 15 = 16441 else if gT m / 10 = 50 then gH m = 12312 else if gT m / 10 = 80 then gH m = 2056 else False) := by
    unfold isWh; rw [decide_eq_true_eq]
  have yes : isWh m = true → Q (some (.int 1)) M := fun q => by rw [b2i_t q] at hQ; exact hQ
  have no : ¬ isWh m = true → Q (some (.int 0)) M := fun q => by rw [b2i_f q] at hQ; exact hQ
  rw [hw] at yes no
  refine Ct.go (L0 := [some (.ref a)]) (by decide +kernel) rfl rfl ?_
  refine r_X4_isComplete (fun _ => false) 60 ?_
  simp only [cd_X4_isComplete, cf_X4_isComplete, wp, wq, wpI, cdF, w_CI, w_CL, w_CN, w_LI, w_LL, w_LA, w_SI, w_SL, w_SA, w_INC, w_II, w_IId, w_LLb, w_LLd, w_LS, w_I1, w_L1, w_I2L, w_L2I, w_CMP, w_DUP, w_POP, w_DUP2, w_IF, w_IC, w_GO, w_NUL, w_ACN, prs, w_GF, w_PF, w_GS, w_IAL, w_LEN, w_LAL, w_ZAL, w_AAL, w_IAS, w_LAS, w_ZAS, w_AAS, w_RI, w_RL, w_RA, w_NEW, w_NA, w_MNA, w_OI, w_THR, w_CV, w_CS, w_CN9, w_CI9, w_MX, w_cont, lget, sto1, sto2, wideV, vo, vo_rv, isR, isR_rv, rv, fget, fput, cats, Value.category, List.headD_cons, List.getD_cons_zero, List.getD_cons_succ, List.drop_succ_cons, List.drop_zero, List.take_succ_cons, List.take_zero, List.reverse_cons, List.reverse_nil, List.nil_append, List.cons_append, List.length_cons, List.length_nil, cond_true, cond_false, and_true, true_and, Nat.zero_add, Nat.add_zero, Nat.reduceAdd, Nat.reduceLT, Nat.reduceLeDiff, Nat.reduceEqDiff, Nat.reduceBEq, Nat.reduceSub, ↓reduceIte, Int32.reduceOfNat, Int64.reduceOfNat, reduceCtorEq, Nat.le_refl, Nat.zero_le, Bool.false_eq_true, beq_self_eq_true, Fin.isValue, Fin.val_zero, Fin.val_one, Fin.reduceFinMk, Fin.val_two, Nat.reduceMod, Bool.or_false, Bool.or_true, Bool.true_or, Bool.false_or, not_true_eq_false, not_false_eq_true, true_or, or_true, implies_true, false_implies, true_implies, Int32.reduceLT, Int32.reduceLE, ↓w_TAB3, ↓w_TAB4, ↓w_TAB5, ↓w_TAB7, ↓w_TAB10, ↓w_LK2, ↓w_LK6, false_and, and_false, i1z, i2z, iz1, im0, im1, l0z, h.1, hm.1, hm.2.1, i10, e1, c10, c15]
  have ne : ∀ {n k : Nat}, n < 100000 → k < 100000 → (nI n = nI k) = (n = k) := fun h1 h2 => propext (by rw [i_eq, nI_toInt (by omega), nI_toInt (by omega)]; omega)
  have z0 : gT m / 10 < 100000 := by omega
  have z1 : gH m < 100000 := by omega
  have z2 : clrB (gH m) 10 < 100000 := by omega
  have z3 : clrB (gH m) 15 < 100000 := by omega
  simp only [show (10 : Int32) = nI 10 from rfl, show (22 : Int32) = nI 22 from rfl, show (40 : Int32) = nI 40 from rfl, show (42 : Int32) = nI 42 from rfl, show (50 : Int32) = nI 50 from rfl, show (80 : Int32) = nI 80 from rfl, show (831 : Int32) = nI 831 from rfl, show (639 : Int32) = nI 639 from rfl, show (16441 : Int32) = nI 16441 from rfl, show (12312 : Int32) = nI 12312 from rfl, show (2056 : Int32) = nI 2056 from rfl,
    ne z0 (show 10 < 100000 by omega), ne z0 (show 22 < 100000 by omega), ne z0 (show 40 < 100000 by omega), ne z0 (show 42 < 100000 by omega), ne z0 (show 50 < 100000 by omega), ne z0 (show 80 < 100000 by omega), ne z2 (show 831 < 100000 by omega), ne z1 (show 639 < 100000 by omega), ne z3 (show 16441 < 100000 by omega), ne z1 (show 12312 < 100000 by omega), ne z1 (show 2056 < 100000 by omega), Classical.not_not]
  repeat' (first | apply And.intro | intro q)
  all_goals first
  | (apply yes; repeat' split
     all_goals first | assumption | omega)
  | (apply no; intro e; repeat' split at e
     all_goals first | contradiction | omega)
theorem c_findCard (h : MS M a) (hm : msgC M a (a + 1) (a + 3) m) (ho : okM m) (hp : pb (gH m) 0 = 1) (hR : RC w o c S M) (hj : Jv t S) (hQ : Q (some (.int (if fCm S m < sN S 34 then nI (fCm S m) else -1))) M) : Ct G (MT 122) [.ref 1, .ref a] M Q X := by
  obtain ⟨hL, hN, hI, hLl, hF, hS, hA, hC, hP, hRr, hD, hT, hZ⟩ := id hR
  have hs := hj.1
  have hn := hN
  unfold cN at hn
  unfold jS at hs
  have hms := hm.2.2 0 (by omega) hp
  have hof := ho.2.2 0 (by omega) hp
  have h19 : gN m 0 ≤ 19 := hof.1
  have h1 : 1 ≤ gN m 0 := hof.2.2.1
  have hg : ∀ i, i < gN m 0 → gS m 0 i < 10 := fun i hi => hof.2.2.2 i hi
  have hg2 : ∀ i, i < gN m 0 → gS m 0 i < 100 := fun i hi => by have := hg i hi; omega
  have tn := nI_toInt (n := gN m 0) (by omega)
  have d0 := hg 0 (by omega)
  have t0 := nI_toInt (n := gS m 0 0) (by omega)
  have hk : hasK M 1 (.inr 10) := by rw [hL.hk]; rfl
  have s0 := h.2.2.2.2.2.1 0 (by omega)
  have r0 := hms.2 0 (by omega)
  have k0 := h.2.2.2.2.2.2 0 (by omega)
  have no : ¬ (12 ≤ gN m 0 ∧ gN m 0 ≤ 18 ∧ gS m 0 0 ≠ 0) → Q (some (.int (-1))) M := fun q => by
    unfold fCm at hQ
    rw [if_neg q, if_neg (by omega)] at hQ
    exact hQ
  simp only [Nat.add_zero] at s0 r0 k0
  have z0 : (0 : Int32).toNatClampNeg = 0 := rfl
  refine Ct.go (L0 := [some (.ref 1), some (.ref a), none]) (by decide +kernel) rfl rfl ?_
  refine r_X10_findCard (fun n => n == 40 || n == 43) 40 ?_
  simp only [cd_X10_findCard, cf_X10_findCard, wp, wq, wpI, cdF, w_CI, w_CL, w_CN, w_LI, w_LL, w_LA, w_SI, w_SL, w_SA, w_INC, w_II, w_IId, w_LLb, w_LLd, w_LS, w_I1, w_L1, w_I2L, w_L2I, w_CMP, w_DUP, w_POP, w_DUP2, w_IF, w_IC, w_GO, w_NUL, w_ACN, prs, w_GF, w_PF, w_GS, w_IAL, w_LEN, w_LAL, w_ZAL, w_AAL, w_IAS, w_LAS, w_ZAS, w_AAS, w_RI, w_RL, w_RA, w_NEW, w_NA, w_MNA, w_OI, w_THR, w_CV, w_CS, w_CN9, w_CI9, w_MX, w_cont, lget, sto1, sto2, wideV, vo, vo_rv, isR, isR_rv, rv, fget, fput, cats, Value.category, List.headD_cons, List.getD_cons_zero, List.getD_cons_succ, List.drop_succ_cons, List.drop_zero, List.take_succ_cons, List.take_zero, List.reverse_cons, List.reverse_nil, List.nil_append, List.cons_append, List.length_cons, List.length_nil, cond_true, cond_false, and_true, true_and, Nat.zero_add, Nat.add_zero, Nat.reduceAdd, Nat.reduceLT, Nat.reduceLeDiff, Nat.reduceEqDiff, Nat.reduceBEq, Nat.reduceSub, ↓reduceIte, Int32.reduceOfNat, Int64.reduceOfNat, reduceCtorEq, Nat.le_refl, Nat.zero_le, Bool.false_eq_true, beq_self_eq_true, Fin.isValue, Fin.val_zero, Fin.val_one, Fin.reduceFinMk, Fin.val_two, Nat.reduceMod, Bool.or_false, Bool.or_true, Bool.true_or, Bool.false_or, not_true_eq_false, not_false_eq_true, true_or, or_true, implies_true, false_implies, true_implies, Int32.reduceLT, Int32.reduceLE, ↓w_TAB3, ↓w_TAB4, ↓w_TAB5, ↓w_TAB7, ↓w_TAB10, ↓w_LK2, ↓w_LK6, false_and, and_false, i1z, i2z, iz1, im0, im1, l0z, h.1, h.2.1, h.2.2.1, hms.1, s0, r0, hk, z0]
  refine ⟨_, h.2.2.2.1, vp_in_i (by simp), and_ii (fun q => no (by (simp only [i_lt, i_le, i_eq, l_lt, l_le, l_eq, Int32.toInt_toInt64, Int32.reduceToInt, Int64.reduceToInt, ne_eq, Classical.not_not] at *; omega))) (fun q1 => and_ii (fun q => no (by (simp only [i_lt, i_le, i_eq, l_lt, l_le, l_eq, Int32.toInt_toInt64, Int32.reduceToInt, Int64.reduceToInt, ne_eq, Classical.not_not] at *; omega))) (fun q2 => ⟨_, _, ⟨h.2.2.2.2.1, rfl⟩, vp_in_i (by simp), _, k0, vp_in_i (by simp), and_ii (fun q3 => ?_) (fun q => no (by (simp only [i_lt, i_le, i_eq, l_lt, l_le, l_eq, Int32.toInt_toInt64, Int32.reduceToInt, Int64.reduceToInt, ne_eq, Classical.not_not] at *; omega)))⟩))⟩
  have hc : 12 ≤ gN m 0 ∧ gN m 0 ≤ 18 ∧ gS m 0 0 ≠ 0 := by (simp only [i_lt, i_le, i_eq, l_lt, l_le, l_eq, Int32.toInt_toInt64, Int32.reduceToInt, Int64.reduceToInt, ne_eq, Classical.not_not] at *; omega)
  have hv18 : val m 0 < 10 ^ gN m 0 := vl_lt hg
  have h18 : 10 ^ gN m 0 ≤ 10 ^ 18 := Nat.pow_le_pow_right (by omega) hc.2.1
  refine c_section (g := gS m 0) (s := 0) (f := 0) (n := gN m 0) (L := gN m 0) h hms.1 (by simpa using hms.2) (by omega) (by omega) (by omega) hg2 rfl rfl rfl ⟨_, rfl, ?_⟩
  simp only [Nat.zero_add]
  refine r_X10_findCard (fun n => n == 40 || n == 43) 40 ?_
  simp only [cd_X10_findCard, cf_X10_findCard, wp, wq, wpI, cdF, w_CI, w_CL, w_CN, w_LI, w_LL, w_LA, w_SI, w_SL, w_SA, w_INC, w_II, w_IId, w_LLb, w_LLd, w_LS, w_I1, w_L1, w_I2L, w_L2I, w_CMP, w_DUP, w_POP, w_DUP2, w_IF, w_IC, w_GO, w_NUL, w_ACN, prs, w_GF, w_PF, w_GS, w_IAL, w_LEN, w_LAL, w_ZAL, w_AAL, w_IAS, w_LAS, w_ZAS, w_AAS, w_RI, w_RL, w_RA, w_NEW, w_NA, w_MNA, w_OI, w_THR, w_CV, w_CS, w_CN9, w_CI9, w_MX, w_cont, lget, sto1, sto2, wideV, vo, vo_rv, isR, isR_rv, rv, fget, fput, cats, Value.category, List.headD_cons, List.getD_cons_zero, List.getD_cons_succ, List.drop_succ_cons, List.drop_zero, List.take_succ_cons, List.take_zero, List.reverse_cons, List.reverse_nil, List.nil_append, List.cons_append, List.length_cons, List.length_nil, cond_true, cond_false, and_true, true_and, Nat.zero_add, Nat.add_zero, Nat.reduceAdd, Nat.reduceLT, Nat.reduceLeDiff, Nat.reduceEqDiff, Nat.reduceBEq, Nat.reduceSub, ↓reduceIte, Int32.reduceOfNat, Int64.reduceOfNat, reduceCtorEq, Nat.le_refl, Nat.zero_le, Bool.false_eq_true, beq_self_eq_true, Fin.isValue, Fin.val_zero, Fin.val_one, Fin.reduceFinMk, Fin.val_two, Nat.reduceMod, Bool.or_false, Bool.or_true, Bool.true_or, Bool.false_or, not_true_eq_false, not_false_eq_true, true_or, or_true, implies_true, false_implies, true_implies, Int32.reduceLT, Int32.reduceLE, ↓w_TAB3, ↓w_TAB4, ↓w_TAB5, ↓w_TAB7, ↓w_TAB10, ↓w_LK2, ↓w_LK6, false_and, and_false, i1z, i2z, iz1, im0, im1, l0z, hk]
  refine c_findNumber (V := val m 0) (g := sC S) (N := sN S 34) rfl (by omega) hL (by simp only [hn]) (by omega) hC (fun i hi => ?_) ⟨_, rfl, ?_⟩
  · have := lt18 (hj.2.2.2.2.2.2.2.1.1 i hi).2.1
    omega
  refine r_X10_findCard (fun n => n == 40 || n == 43) 40 ?_
  simp only [cd_X10_findCard, cf_X10_findCard, wp, wq, wpI, cdF, w_CI, w_CL, w_CN, w_LI, w_LL, w_LA, w_SI, w_SL, w_SA, w_INC, w_II, w_IId, w_LLb, w_LLd, w_LS, w_I1, w_L1, w_I2L, w_L2I, w_CMP, w_DUP, w_POP, w_DUP2, w_IF, w_IC, w_GO, w_NUL, w_ACN, prs, w_GF, w_PF, w_GS, w_IAL, w_LEN, w_LAL, w_ZAL, w_AAL, w_IAS, w_LAS, w_ZAS, w_AAS, w_RI, w_RL, w_RA, w_NEW, w_NA, w_MNA, w_OI, w_THR, w_CV, w_CS, w_CN9, w_CI9, w_MX, w_cont, lget, sto1, sto2, wideV, vo, vo_rv, isR, isR_rv, rv, fget, fput, cats, Value.category, List.headD_cons, List.getD_cons_zero, List.getD_cons_succ, List.drop_succ_cons, List.drop_zero, List.take_succ_cons, List.take_zero, List.reverse_cons, List.reverse_nil, List.nil_append, List.cons_append, List.length_cons, List.length_nil, cond_true, cond_false, and_true, true_and, Nat.zero_add, Nat.add_zero, Nat.reduceAdd, Nat.reduceLT, Nat.reduceLeDiff, Nat.reduceEqDiff, Nat.reduceBEq, Nat.reduceSub, ↓reduceIte, Int32.reduceOfNat, Int64.reduceOfNat, reduceCtorEq, Nat.le_refl, Nat.zero_le, Bool.false_eq_true, beq_self_eq_true, Fin.isValue, Fin.val_zero, Fin.val_one, Fin.reduceFinMk, Fin.val_two, Nat.reduceMod, Bool.or_false, Bool.or_true, Bool.true_or, Bool.false_or, not_true_eq_false, not_false_eq_true, true_or, or_true, implies_true, false_implies, true_implies, Int32.reduceLT, Int32.reduceLE, ↓w_TAB3, ↓w_TAB4, ↓w_TAB5, ↓w_TAB7, ↓w_TAB10, ↓w_LK2, ↓w_LK6, false_and, and_false, i1z, i2z, iz1, im0, im1, l0z]
  unfold fCm at hQ
  rw [if_pos hc] at hQ
  exact hQ
theorem bst_cg {ff : Nat → Nat → Nat} {ld ld' : Nat → Nat} {n n' : Nat} : ∀ k, (∀ i, i < k → (ff 505 i ≤ n ↔ ff 505 i ≤ n') ∧ (ff 505 i ≤ n → ld (ff 505 i) = ld' (ff 505 i))) → bst ff ld n k = bst ff ld' n' k
  | 0, _ => rfl
  | k + 1, h => by
    have h1 := h k (by omega)
    rw [bst, bst, bst_cg k (fun i hi => h i (by omega))]
    by_cases e : ff 505 k ≤ n
    · have e2 := h1.1.mp e
      rw [h1.2 e]
      simp only [e, e2, true_and]
    · have e2 := fun q => e (h1.1.mpr q)
      rw [if_neg (fun q => e q.1), if_neg (fun q => e2 q.1)]
theorem c_issOfCard (h : MS M a) (hm : msgC M a (a + 1) (a + 3) m) (ho : okM m) (hp : pb (gH m) 0 = 1) (hR : RC w o c S M) (hj : Jv t S) (hQ : Q (some (.int (nI (rtM S m) - 1))) M) : Ct G (MT 120) [.ref 1, .ref a] M Q X := by
  obtain ⟨hL, hN, hI, hLl, hF, hS, hA, hC, hP, hRr, hD, hT, hZ⟩ := id hR
  have hms := hm.2.2 0 (by omega) hp
  have hof := ho.2.2 0 (by omega) hp
  have h19 : gN m 0 ≤ 19 := hof.1
  have h1 : 1 ≤ gN m 0 := hof.2.2.1
  have hg : ∀ i, i < gN m 0 → gS m 0 i < 10 := fun i hi => hof.2.2.2 i hi
  have hg2 : ∀ i, i < gN m 0 → gS m 0 i < 100 := fun i hi => by have := hg i hi; omega
  have tn := nI_toInt (n := gN m 0) (by omega)
  have hk : hasK M 1 (.inr 10) := by rw [hL.hk]; rfl
  have z0 : (0 : Int32).toNatClampNeg = 0 := rfl
  have e8 : (if nI (gN m 0) < 8 then nI (gN m 0) else (8 : Int32)) = nI (min 8 (gN m 0)) := by
    by_cases q : gN m 0 < 8
    · rw [if_pos (by rw [i_lt, tn]; simp; omega), Nat.min_eq_right (by omega)]
    · rw [if_neg (by rw [i_lt, tn]; simp; omega), Nat.min_eq_left (by omega)]; rfl
  refine Ct.go (L0 := [some (.ref 1), some (.ref a), none]) (by decide +kernel) rfl rfl ?_
  refine r_X10_issuerOfCard (fun n => n == 20 || n == 24) 40 ?_
  simp only [cd_X10_issuerOfCard, cf_X10_issuerOfCard, wp, wq, wpI, cdF, w_CI, w_CL, w_CN, w_LI, w_LL, w_LA, w_SI, w_SL, w_SA, w_INC, w_II, w_IId, w_LLb, w_LLd, w_LS, w_I1, w_L1, w_I2L, w_L2I, w_CMP, w_DUP, w_POP, w_DUP2, w_IF, w_IC, w_GO, w_NUL, w_ACN, prs, w_GF, w_PF, w_GS, w_IAL, w_LEN, w_LAL, w_ZAL, w_AAL, w_IAS, w_LAS, w_ZAS, w_AAS, w_RI, w_RL, w_RA, w_NEW, w_NA, w_MNA, w_OI, w_THR, w_CV, w_CS, w_CN9, w_CI9, w_MX, w_cont, lget, sto1, sto2, wideV, vo, vo_rv, isR, isR_rv, rv, fget, fput, cats, Value.category, List.headD_cons, List.getD_cons_zero, List.getD_cons_succ, List.drop_succ_cons, List.drop_zero, List.take_succ_cons, List.take_zero, List.reverse_cons, List.reverse_nil, List.nil_append, List.cons_append, List.length_cons, List.length_nil, cond_true, cond_false, and_true, true_and, Nat.zero_add, Nat.add_zero, Nat.reduceAdd, Nat.reduceLT, Nat.reduceLeDiff, Nat.reduceEqDiff, Nat.reduceBEq, Nat.reduceSub, ↓reduceIte, Int32.reduceOfNat, Int64.reduceOfNat, reduceCtorEq, Nat.le_refl, Nat.zero_le, Bool.false_eq_true, beq_self_eq_true, Fin.isValue, Fin.val_zero, Fin.val_one, Fin.reduceFinMk, Fin.val_two, Nat.reduceMod, Bool.or_false, Bool.or_true, Bool.true_or, Bool.false_or, not_true_eq_false, not_false_eq_true, true_or, or_true, implies_true, false_implies, true_implies, Int32.reduceLT, Int32.reduceLE, ↓w_TAB3, ↓w_TAB4, ↓w_TAB5, ↓w_TAB7, ↓w_TAB10, ↓w_LK2, ↓w_LK6, false_and, and_false, i1z, i2z, iz1, im0, im1, l0z, h.1, h.2.1, hms.1, hk, z0]
  refine ⟨_, h.2.2.2.1, vp_in_i (by simp), ?_⟩
  rw [e8]
  have hK : min 8 (gN m 0) ≤ 8 ∧ min 8 (gN m 0) ≤ gN m 0 ∧ (min 8 (gN m 0) = 8 ∨ min 8 (gN m 0) = gN m 0) := by omega
  generalize min 8 (gN m 0) = K at *
  refine c_section (g := gS m 0) (s := 0) (f := 0) (n := K) (L := gN m 0) h hms.1 (by simpa using hms.2) (by omega) (by omega) (by omega) hg2 rfl rfl rfl ⟨_, rfl, ?_⟩
  simp only [Nat.zero_add]
  have hb : vl (gS m 0) K < 10 ^ K := vl_lt (fun i hi => hg i (by omega))
  have hb8 : 10 ^ K ≤ 10 ^ 8 := Nat.pow_le_pow_right (by omega) hK.1
  refine r_X10_issuerOfCard (fun n => n == 20 || n == 24) 40 ?_
  simp only [cd_X10_issuerOfCard, cf_X10_issuerOfCard, wp, wq, wpI, cdF, w_CI, w_CL, w_CN, w_LI, w_LL, w_LA, w_SI, w_SL, w_SA, w_INC, w_II, w_IId, w_LLb, w_LLd, w_LS, w_I1, w_L1, w_I2L, w_L2I, w_CMP, w_DUP, w_POP, w_DUP2, w_IF, w_IC, w_GO, w_NUL, w_ACN, prs, w_GF, w_PF, w_GS, w_IAL, w_LEN, w_LAL, w_ZAL, w_AAL, w_IAS, w_LAS, w_ZAS, w_AAS, w_RI, w_RL, w_RA, w_NEW, w_NA, w_MNA, w_OI, w_THR, w_CV, w_CS, w_CN9, w_CI9, w_MX, w_cont, lget, sto1, sto2, wideV, vo, vo_rv, isR, isR_rv, rv, fget, fput, cats, Value.category, List.headD_cons, List.getD_cons_zero, List.getD_cons_succ, List.drop_succ_cons, List.drop_zero, List.take_succ_cons, List.take_zero, List.reverse_cons, List.reverse_nil, List.nil_append, List.cons_append, List.length_cons, List.length_nil, cond_true, cond_false, and_true, true_and, Nat.zero_add, Nat.add_zero, Nat.reduceAdd, Nat.reduceLT, Nat.reduceLeDiff, Nat.reduceEqDiff, Nat.reduceBEq, Nat.reduceSub, ↓reduceIte, Int32.reduceOfNat, Int64.reduceOfNat, reduceCtorEq, Nat.le_refl, Nat.zero_le, Bool.false_eq_true, beq_self_eq_true, Fin.isValue, Fin.val_zero, Fin.val_one, Fin.reduceFinMk, Fin.val_two, Nat.reduceMod, Bool.or_false, Bool.or_true, Bool.true_or, Bool.false_or, not_true_eq_false, not_false_eq_true, true_or, or_true, implies_true, false_implies, true_implies, Int32.reduceLT, Int32.reduceLE, ↓w_TAB3, ↓w_TAB4, ↓w_TAB5, ↓w_TAB7, ↓w_TAB10, ↓w_LK2, ↓w_LK6, false_and, and_false, i1z, i2z, iz1, im0, im1, l0z, hk]
  refine c_longest (K := K) (V := vl (gS m 0) K) rfl (by omega) hL (by omega) rfl (rt_C hN hI hj) (rt_of hj) ⟨_, rfl, ?_⟩
  refine r_X10_issuerOfCard (fun n => n == 20 || n == 24) 40 ?_
  simp only [cd_X10_issuerOfCard, cf_X10_issuerOfCard, wp, wq, wpI, cdF, w_CI, w_CL, w_CN, w_LI, w_LL, w_LA, w_SI, w_SL, w_SA, w_INC, w_II, w_IId, w_LLb, w_LLd, w_LS, w_I1, w_L1, w_I2L, w_L2I, w_CMP, w_DUP, w_POP, w_DUP2, w_IF, w_IC, w_GO, w_NUL, w_ACN, prs, w_GF, w_PF, w_GS, w_IAL, w_LEN, w_LAL, w_ZAL, w_AAL, w_IAS, w_LAS, w_ZAS, w_AAS, w_RI, w_RL, w_RA, w_NEW, w_NA, w_MNA, w_OI, w_THR, w_CV, w_CS, w_CN9, w_CI9, w_MX, w_cont, lget, sto1, sto2, wideV, vo, vo_rv, isR, isR_rv, rv, fget, fput, cats, Value.category, List.headD_cons, List.getD_cons_zero, List.getD_cons_succ, List.drop_succ_cons, List.drop_zero, List.take_succ_cons, List.take_zero, List.reverse_cons, List.reverse_nil, List.nil_append, List.cons_append, List.length_cons, List.length_nil, cond_true, cond_false, and_true, true_and, Nat.zero_add, Nat.add_zero, Nat.reduceAdd, Nat.reduceLT, Nat.reduceLeDiff, Nat.reduceEqDiff, Nat.reduceBEq, Nat.reduceSub, ↓reduceIte, Int32.reduceOfNat, Int64.reduceOfNat, reduceCtorEq, Nat.le_refl, Nat.zero_le, Bool.false_eq_true, beq_self_eq_true, Fin.isValue, Fin.val_zero, Fin.val_one, Fin.reduceFinMk, Fin.val_two, Nat.reduceMod, Bool.or_false, Bool.or_true, Bool.true_or, Bool.false_or, not_true_eq_false, not_false_eq_true, true_or, or_true, implies_true, false_implies, true_implies, Int32.reduceLT, Int32.reduceLE, ↓w_TAB3, ↓w_TAB4, ↓w_TAB5, ↓w_TAB7, ↓w_TAB10, ↓w_LK2, ↓w_LK6, false_and, and_false, i1z, i2z, iz1, im0, im1, l0z]
  have eb : bst (sI S) (fun d => vl (gS m 0) K / 10 ^ (K - d)) K (sN S 24) = bst (sI S) (fun d => vl (gS m 0) d) (gN m 0) (sN S 24) := by
    refine bst_cg (sN S 24) (fun i hi => ?_)
    have := rt_of hj i hi
    exact ⟨by omega, fun q => vl_dv q (fun i hi => hg i (by omega))⟩
  rw [eb]
  exact hQ
theorem c_hasKey {A : Nat} (h : MS M a) (hm : msgC M a (a + 1) (a + 3) m) (ho : okM m) (hp : pb (gH m) 5 = 1) (hA : payC M A p) (hk : hasK M A (.inr 7)) (hr : mR M A 5 = some (A + 2)) (hkr : hasK M (A + 2) (.inl (.int, 12))) (h41 : qI p 41 < 1000) (hR : ∀ i, i < 12 → qR p i < 100) (hx : x = nI k) (hkk : k < 1000) (hQ : Q (some (.int (b2i ((decide (qI p 41 = k) && eqN (qR p) (gS m 5) 12) = true)))) M) : Ct G (MT 80) [.ref A, .int x, .ref a] M Q X := by
  subst hx
  have hms := hm.2.2 5 (by omega) hp
  have hof := ho.2.2 5 (by omega) hp
  have h12 : gN m 5 = 12 := hof.2.1 rfl
  rw [h12] at hms
  have hg2 : ∀ i, i < 12 → gS m 5 i < 100 := fun i hi => by have := hof.2.2.2 i (by omega); split at this <;> omega
  have p1 := hA.2.1
  have hrow := hA.2.2.2.2.2.2.2.2.2.2.2.2.2.2
  have t1 := nI_toInt (n := qI p 41) (by omega)
  have t2 := nI_toInt (n := k) (by omega)
  refine Ct.go (L0 := [some (.ref A), some (.int (nI k)), some (.ref a)]) (by decide +kernel) rfl rfl ?_
  refine r_X7_hasKey (fun n => n == 19) 40 ?_
  simp only [cd_X7_hasKey, cf_X7_hasKey, wp, wq, wpI, cdF, w_CI, w_CL, w_CN, w_LI, w_LL, w_LA, w_SI, w_SL, w_SA, w_INC, w_II, w_IId, w_LLb, w_LLd, w_LS, w_I1, w_L1, w_I2L, w_L2I, w_CMP, w_DUP, w_POP, w_DUP2, w_IF, w_IC, w_GO, w_NUL, w_ACN, prs, w_GF, w_PF, w_GS, w_IAL, w_LEN, w_LAL, w_ZAL, w_AAL, w_IAS, w_LAS, w_ZAS, w_AAS, w_RI, w_RL, w_RA, w_NEW, w_NA, w_MNA, w_OI, w_THR, w_CV, w_CS, w_CN9, w_CI9, w_MX, w_cont, lget, sto1, sto2, wideV, vo, vo_rv, isR, isR_rv, rv, fget, fput, cats, Value.category, List.headD_cons, List.getD_cons_zero, List.getD_cons_succ, List.drop_succ_cons, List.drop_zero, List.take_succ_cons, List.take_zero, List.reverse_cons, List.reverse_nil, List.nil_append, List.cons_append, List.length_cons, List.length_nil, cond_true, cond_false, and_true, true_and, Nat.zero_add, Nat.add_zero, Nat.reduceAdd, Nat.reduceLT, Nat.reduceLeDiff, Nat.reduceEqDiff, Nat.reduceBEq, Nat.reduceSub, ↓reduceIte, Int32.reduceOfNat, Int64.reduceOfNat, reduceCtorEq, Nat.le_refl, Nat.zero_le, Bool.false_eq_true, beq_self_eq_true, Fin.isValue, Fin.val_zero, Fin.val_one, Fin.reduceFinMk, Fin.val_two, Nat.reduceMod, Bool.or_false, Bool.or_true, Bool.true_or, Bool.false_or, not_true_eq_false, not_false_eq_true, true_or, or_true, implies_true, false_implies, true_implies, Int32.reduceLT, Int32.reduceLE, ↓w_TAB3, ↓w_TAB4, ↓w_TAB5, ↓w_TAB7, ↓w_TAB10, ↓w_LK2, ↓w_LK6, false_and, and_false, i1z, i2z, iz1, im0, im1, l0z, hk, p1, hr, h.1]
  refine and_ii (fun q => ?_) (fun q => ?_)
  · rw [b2i_f (fun e => by rw [Bool.and_eq_true, decide_eq_true_eq] at e; exact q (by rw [e.1]))] at hQ
    exact hQ
  have e : qI p 41 = k := by (simp only [i_lt, i_le, i_eq, l_lt, l_le, l_eq, Int32.toInt_toInt64, Int32.reduceToInt, Int64.reduceToInt, ne_eq, Classical.not_not] at *; omega)
  rw [decide_eq_true e, Bool.true_and] at hQ
  refine c_isRow (g := gS m 5) (g' := qR p) (L := 12) (n := 12) (N := 12) h hms.1 (by omega) hms.2 hkr hrow hg2 hR (by omega) (by omega) rfl rfl ⟨_, rfl, ?_⟩
  rw [decide_eq_true rfl, Bool.true_and]
  by_cases q2 : eqN (qR p) (gS m 5) 12 = true
  · rw [b2i_t q2] at hQ ⊢
    refine r_X7_hasKey (fun n => n == 19) 40 ?_
    simp only [cd_X7_hasKey, cf_X7_hasKey, wp, wq, wpI, cdF, w_CI, w_CL, w_CN, w_LI, w_LL, w_LA, w_SI, w_SL, w_SA, w_INC, w_II, w_IId, w_LLb, w_LLd, w_LS, w_I1, w_L1, w_I2L, w_L2I, w_CMP, w_DUP, w_POP, w_DUP2, w_IF, w_IC, w_GO, w_NUL, w_ACN, prs, w_GF, w_PF, w_GS, w_IAL, w_LEN, w_LAL, w_ZAL, w_AAL, w_IAS, w_LAS, w_ZAS, w_AAS, w_RI, w_RL, w_RA, w_NEW, w_NA, w_MNA, w_OI, w_THR, w_CV, w_CS, w_CN9, w_CI9, w_MX, w_cont, lget, sto1, sto2, wideV, vo, vo_rv, isR, isR_rv, rv, fget, fput, cats, Value.category, List.headD_cons, List.getD_cons_zero, List.getD_cons_succ, List.drop_succ_cons, List.drop_zero, List.take_succ_cons, List.take_zero, List.reverse_cons, List.reverse_nil, List.nil_append, List.cons_append, List.length_cons, List.length_nil, cond_true, cond_false, and_true, true_and, Nat.zero_add, Nat.add_zero, Nat.reduceAdd, Nat.reduceLT, Nat.reduceLeDiff, Nat.reduceEqDiff, Nat.reduceBEq, Nat.reduceSub, ↓reduceIte, Int32.reduceOfNat, Int64.reduceOfNat, reduceCtorEq, Nat.le_refl, Nat.zero_le, Bool.false_eq_true, beq_self_eq_true, Fin.isValue, Fin.val_zero, Fin.val_one, Fin.reduceFinMk, Fin.val_two, Nat.reduceMod, Bool.or_false, Bool.or_true, Bool.true_or, Bool.false_or, not_true_eq_false, not_false_eq_true, true_or, or_true, implies_true, false_implies, true_implies, Int32.reduceLT, Int32.reduceLE, ↓w_TAB3, ↓w_TAB4, ↓w_TAB5, ↓w_TAB7, ↓w_TAB10, ↓w_LK2, ↓w_LK6, false_and, and_false, i1z, i2z, iz1, im0, im1, l0z, i1z]
    exact hQ
  · rw [b2i_f q2] at hQ ⊢
    refine r_X7_hasKey (fun n => n == 19) 40 ?_
    simp only [cd_X7_hasKey, cf_X7_hasKey, wp, wq, wpI, cdF, w_CI, w_CL, w_CN, w_LI, w_LL, w_LA, w_SI, w_SL, w_SA, w_INC, w_II, w_IId, w_LLb, w_LLd, w_LS, w_I1, w_L1, w_I2L, w_L2I, w_CMP, w_DUP, w_POP, w_DUP2, w_IF, w_IC, w_GO, w_NUL, w_ACN, prs, w_GF, w_PF, w_GS, w_IAL, w_LEN, w_LAL, w_ZAL, w_AAL, w_IAS, w_LAS, w_ZAS, w_AAS, w_RI, w_RL, w_RA, w_NEW, w_NA, w_MNA, w_OI, w_THR, w_CV, w_CS, w_CN9, w_CI9, w_MX, w_cont, lget, sto1, sto2, wideV, vo, vo_rv, isR, isR_rv, rv, fget, fput, cats, Value.category, List.headD_cons, List.getD_cons_zero, List.getD_cons_succ, List.drop_succ_cons, List.drop_zero, List.take_succ_cons, List.take_zero, List.reverse_cons, List.reverse_nil, List.nil_append, List.cons_append, List.length_cons, List.length_nil, cond_true, cond_false, and_true, true_and, Nat.zero_add, Nat.add_zero, Nat.reduceAdd, Nat.reduceLT, Nat.reduceLeDiff, Nat.reduceEqDiff, Nat.reduceBEq, Nat.reduceSub, ↓reduceIte, Int32.reduceOfNat, Int64.reduceOfNat, reduceCtorEq, Nat.le_refl, Nat.zero_le, Bool.false_eq_true, beq_self_eq_true, Fin.isValue, Fin.val_zero, Fin.val_one, Fin.reduceFinMk, Fin.val_two, Nat.reduceMod, Bool.or_false, Bool.or_true, Bool.true_or, Bool.false_or, not_true_eq_false, not_false_eq_true, true_or, or_true, implies_true, false_implies, true_implies, Int32.reduceLT, Int32.reduceLE, ↓w_TAB3, ↓w_TAB4, ↓w_TAB5, ↓w_TAB7, ↓w_TAB10, ↓w_LK2, ↓w_LK6, false_and, and_false, i1z, i2z, iz1, im0, im1, l0z]
    exact hQ
theorem c_hasCard {A : Nat} (h : MS M a) (hm : msgC M a (a + 1) (a + 3) m) (ho : okM m) (hp : pb (gH m) 0 = 1) (hA : payC M A p) (hk : hasK M A (.inr 7)) (hr : mR M A 3 = some (A + 1)) (hkr : hasK M (A + 1) (.inl (.int, 19))) (h44 : qI p 44 ≤ 19) (hR : ∀ i, i < qI p 44 → qC p i < 100) (hQ : Q (some (.int (b2i (isCd p m = true)))) M) : Ct G (MT 81) [.ref A, .ref a] M Q X := by
  have hms := hm.2.2 0 (by omega) hp
  have hof := ho.2.2 0 (by omega) hp
  have h19 : gN m 0 ≤ 19 := hof.1
  have hg2 : ∀ i, i < gN m 0 → gS m 0 i < 100 := fun i hi => by have := hof.2.2.2 i hi; split at this <;> omega
  have p4 := hA.2.2.2.1
  have hrow := hA.2.2.2.2.2.2.2.2.2.2.2.2.2.1
  refine Ct.go (L0 := [some (.ref A), some (.ref a)]) (by decide +kernel) rfl rfl ?_
  refine r_X7_hasCard (fun n => n == 13) 40 ?_
  simp only [cd_X7_hasCard, cf_X7_hasCard, wp, wq, wpI, cdF, w_CI, w_CL, w_CN, w_LI, w_LL, w_LA, w_SI, w_SL, w_SA, w_INC, w_II, w_IId, w_LLb, w_LLd, w_LS, w_I1, w_L1, w_I2L, w_L2I, w_CMP, w_DUP, w_POP, w_DUP2, w_IF, w_IC, w_GO, w_NUL, w_ACN, prs, w_GF, w_PF, w_GS, w_IAL, w_LEN, w_LAL, w_ZAL, w_AAL, w_IAS, w_LAS, w_ZAS, w_AAS, w_RI, w_RL, w_RA, w_NEW, w_NA, w_MNA, w_OI, w_THR, w_CV, w_CS, w_CN9, w_CI9, w_MX, w_cont, lget, sto1, sto2, wideV, vo, vo_rv, isR, isR_rv, rv, fget, fput, cats, Value.category, List.headD_cons, List.getD_cons_zero, List.getD_cons_succ, List.drop_succ_cons, List.drop_zero, List.take_succ_cons, List.take_zero, List.reverse_cons, List.reverse_nil, List.nil_append, List.cons_append, List.length_cons, List.length_nil, cond_true, cond_false, and_true, true_and, Nat.zero_add, Nat.add_zero, Nat.reduceAdd, Nat.reduceLT, Nat.reduceLeDiff, Nat.reduceEqDiff, Nat.reduceBEq, Nat.reduceSub, ↓reduceIte, Int32.reduceOfNat, Int64.reduceOfNat, reduceCtorEq, Nat.le_refl, Nat.zero_le, Bool.false_eq_true, beq_self_eq_true, Fin.isValue, Fin.val_zero, Fin.val_one, Fin.reduceFinMk, Fin.val_two, Nat.reduceMod, Bool.or_false, Bool.or_true, Bool.true_or, Bool.false_or, not_true_eq_false, not_false_eq_true, true_or, or_true, implies_true, false_implies, true_implies, Int32.reduceLT, Int32.reduceLE, ↓w_TAB3, ↓w_TAB4, ↓w_TAB5, ↓w_TAB7, ↓w_TAB10, ↓w_LK2, ↓w_LK6, false_and, and_false, i1z, i2z, iz1, im0, im1, l0z, hk, p4, hr, h.1]
  refine c_isRow (g := gS m 0) (g' := qC p) (L := gN m 0) (n := qI p 44) (N := 19) h hms.1 (by omega) hms.2 hkr hrow hg2 hR (by omega) (by omega) rfl rfl ⟨_, rfl, ?_⟩
  refine r_X7_hasCard (fun n => n == 13) 40 ?_
  simp only [cd_X7_hasCard, cf_X7_hasCard, wp, wq, wpI, cdF, w_CI, w_CL, w_CN, w_LI, w_LL, w_LA, w_SI, w_SL, w_SA, w_INC, w_II, w_IId, w_LLb, w_LLd, w_LS, w_I1, w_L1, w_I2L, w_L2I, w_CMP, w_DUP, w_POP, w_DUP2, w_IF, w_IC, w_GO, w_NUL, w_ACN, prs, w_GF, w_PF, w_GS, w_IAL, w_LEN, w_LAL, w_ZAL, w_AAL, w_IAS, w_LAS, w_ZAS, w_AAS, w_RI, w_RL, w_RA, w_NEW, w_NA, w_MNA, w_OI, w_THR, w_CV, w_CS, w_CN9, w_CI9, w_MX, w_cont, lget, sto1, sto2, wideV, vo, vo_rv, isR, isR_rv, rv, fget, fput, cats, Value.category, List.headD_cons, List.getD_cons_zero, List.getD_cons_succ, List.drop_succ_cons, List.drop_zero, List.take_succ_cons, List.take_zero, List.reverse_cons, List.reverse_nil, List.nil_append, List.cons_append, List.length_cons, List.length_nil, cond_true, cond_false, and_true, true_and, Nat.zero_add, Nat.add_zero, Nat.reduceAdd, Nat.reduceLT, Nat.reduceLeDiff, Nat.reduceEqDiff, Nat.reduceBEq, Nat.reduceSub, ↓reduceIte, Int32.reduceOfNat, Int64.reduceOfNat, reduceCtorEq, Nat.le_refl, Nat.zero_le, Bool.false_eq_true, beq_self_eq_true, Fin.isValue, Fin.val_zero, Fin.val_one, Fin.reduceFinMk, Fin.val_two, Nat.reduceMod, Bool.or_false, Bool.or_true, Bool.true_or, Bool.false_or, not_true_eq_false, not_false_eq_true, true_or, or_true, implies_true, false_implies, true_implies, Int32.reduceLT, Int32.reduceLE, ↓w_TAB3, ↓w_TAB4, ↓w_TAB5, ↓w_TAB7, ↓w_TAB10, ↓w_LK2, ↓w_LK6, false_and, and_false, i1z, i2z, iz1, im0, im1, l0z]
  unfold isCd at hQ
  exact ⟨b2i_01, hQ⟩
theorem lp_hasAp {A : Nat} (h : MS M a) (hrow : ∀ i, i < 6 → mI M (a + 3 + 6) i = nI (g i)) (hg : ∀ i, i < 6 → g i < 100) (hv : N < 2147483648) (hQ : Q (some (.int (b2i (eqN (dgt 36 6 N) g 6 = true)))) M) : ∀ k, k ≤ 6 → (∀ j, k ≤ j → j < 6 → dgt 36 6 N j = g j) → Go G (MT 82) Q X 16 [some (.ref A), some (.ref a), some (.long (lI (N / 36 ^ (6 - k) : Nat))), none, some (.int (nI k - 1))] [] M 0 0 := by
  have l36 : ((36 : Int64) = 0) = False := eq_false (by decide)
  intro k
  induction k with
  | zero =>
    intro hk hj
    rw [b2i_t (eqN_iff.mpr (fun j hj' => hj j (by omega) hj'))] at hQ
    refine r_X7_hasApproval (fun n => n == 16) 40 ?_
    simp only [cd_X7_hasApproval, cf_X7_hasApproval, wp, wq, wpI, cdF, w_CI, w_CL, w_CN, w_LI, w_LL, w_LA, w_SI, w_SL, w_SA, w_INC, w_II, w_IId, w_LLb, w_LLd, w_LS, w_I1, w_L1, w_I2L, w_L2I, w_CMP, w_DUP, w_POP, w_DUP2, w_IF, w_IC, w_GO, w_NUL, w_ACN, prs, w_GF, w_PF, w_GS, w_IAL, w_LEN, w_LAL, w_ZAL, w_AAL, w_IAS, w_LAS, w_ZAS, w_AAS, w_RI, w_RL, w_RA, w_NEW, w_NA, w_MNA, w_OI, w_THR, w_CV, w_CS, w_CN9, w_CI9, w_MX, w_cont, lget, sto1, sto2, wideV, vo, vo_rv, isR, isR_rv, rv, fget, fput, cats, Value.category, List.headD_cons, List.getD_cons_zero, List.getD_cons_succ, List.drop_succ_cons, List.drop_zero, List.take_succ_cons, List.take_zero, List.reverse_cons, List.reverse_nil, List.nil_append, List.cons_append, List.length_cons, List.length_nil, cond_true, cond_false, and_true, true_and, Nat.zero_add, Nat.add_zero, Nat.reduceAdd, Nat.reduceLT, Nat.reduceLeDiff, Nat.reduceEqDiff, Nat.reduceBEq, Nat.reduceSub, ↓reduceIte, Int32.reduceOfNat, Int64.reduceOfNat, reduceCtorEq, Nat.le_refl, Nat.zero_le, Bool.false_eq_true, beq_self_eq_true, Fin.isValue, Fin.val_zero, Fin.val_one, Fin.reduceFinMk, Fin.val_two, Nat.reduceMod, Bool.or_false, Bool.or_true, Bool.true_or, Bool.false_or, not_true_eq_false, not_false_eq_true, true_or, or_true, implies_true, false_implies, true_implies, Int32.reduceLT, Int32.reduceLE, ↓w_TAB3, ↓w_TAB4, ↓w_TAB5, ↓w_TAB7, ↓w_TAB10, ↓w_LK2, ↓w_LK6, false_and, and_false, i1z, i2z, iz1, im0, im1, l0z]
    exact ⟨fun _ => hQ, fun q => absurd (by decide) q⟩
  | succ k ih =>
    intro hk hj
    have e1 : nI (k + 1) - 1 = nI k := nI_pred _
    have tk := nI_toInt (n := k) (by omega)
    have ck := nI_clamp (n := k) (by omega)
    have hle : N / 36 ^ (6 - (k + 1)) ≤ N := Nat.div_le_self _ _
    have eq1 : dgt 36 6 N k = N / 36 ^ (6 - (k + 1)) % 36 := by unfold dgt; rw [show 6 - 1 - k = 6 - (k + 1) by omega]
    have eq2 : N / 36 ^ (6 - k) = N / 36 ^ (6 - (k + 1)) / 36 := by rw [show 6 - k = (6 - (k + 1)) + 1 by omega, Nat.pow_succ, ← Nat.div_div_eq_div_mul]
    rw [eq2] at ih
    generalize N / 36 ^ (6 - (k + 1)) = V at *
    have er := lI_rem (x := (V : Int)) (y := 36) (by omega) (by unfold fL; omega) (by omega) (by unfold fL; omega)
    have ed := lI_div (x := (V : Int)) (y := 36) (by omega) (by unfold fL; omega) (by omega) (by unfold fL; omega)
    rw [ed, show (V : Int) % 36 = ((dgt 36 6 N k : Nat) : Int) by rw [eq1]; omega] at er
    rw [show (V : Int) / 36 = ((V / 36 : Nat) : Int) by omega] at er ed
    have hd := hrow k (by omega)
    have bg := hg k (by omega)
    have bd : dgt 36 6 N k < 36 := dgt_lt (by omega)
    have e2 := nI_lI (n := g k) (by omega)
    rw [show lI 36 = (36 : Int64) from rfl] at er ed
    have ih' := ih (by omega)
    have s6 := h.2.2.2.2.2.1 6 (by omega)
    have c6 : (6 : Int32).toNatClampNeg = 6 := rfl
    rw [e1]
    refine r_X7_hasApproval (fun n => n == 16) 40 ?_
    simp only [cd_X7_hasApproval, cf_X7_hasApproval, wp, wq, wpI, cdF, w_CI, w_CL, w_CN, w_LI, w_LL, w_LA, w_SI, w_SL, w_SA, w_INC, w_II, w_IId, w_LLb, w_LLd, w_LS, w_I1, w_L1, w_I2L, w_L2I, w_CMP, w_DUP, w_POP, w_DUP2, w_IF, w_IC, w_GO, w_NUL, w_ACN, prs, w_GF, w_PF, w_GS, w_IAL, w_LEN, w_LAL, w_ZAL, w_AAL, w_IAS, w_LAS, w_ZAS, w_AAS, w_RI, w_RL, w_RA, w_NEW, w_NA, w_MNA, w_OI, w_THR, w_CV, w_CS, w_CN9, w_CI9, w_MX, w_cont, lget, sto1, sto2, wideV, vo, vo_rv, isR, isR_rv, rv, fget, fput, cats, Value.category, List.headD_cons, List.getD_cons_zero, List.getD_cons_succ, List.drop_succ_cons, List.drop_zero, List.take_succ_cons, List.take_zero, List.reverse_cons, List.reverse_nil, List.nil_append, List.cons_append, List.length_cons, List.length_nil, cond_true, cond_false, and_true, true_and, Nat.zero_add, Nat.add_zero, Nat.reduceAdd, Nat.reduceLT, Nat.reduceLeDiff, Nat.reduceEqDiff, Nat.reduceBEq, Nat.reduceSub, ↓reduceIte, Int32.reduceOfNat, Int64.reduceOfNat, reduceCtorEq, Nat.le_refl, Nat.zero_le, Bool.false_eq_true, beq_self_eq_true, Fin.isValue, Fin.val_zero, Fin.val_one, Fin.reduceFinMk, Fin.val_two, Nat.reduceMod, Bool.or_false, Bool.or_true, Bool.true_or, Bool.false_or, not_true_eq_false, not_false_eq_true, true_or, or_true, implies_true, false_implies, true_implies, Int32.reduceLT, Int32.reduceLE, ↓w_TAB3, ↓w_TAB4, ↓w_TAB5, ↓w_TAB7, ↓w_TAB10, ↓w_LK2, ↓w_LK6, false_and, and_false, i1z, i2z, iz1, im0, im1, l0z, h.1, h.2.2.1, c6, s6, ck, hd, e2, l36, er, ed, cmp_eq]
    refine and_ii (fun q => ?_) (fun _ => ⟨_, _, ⟨h.2.2.2.2.1, rfl⟩, vp_in_i (by simp), _, h.2.2.2.2.2.2 6 (by omega), vp_in_nI (by omega) (by omega), ?_⟩)
    · exfalso; (simp only [i_lt, i_le, i_eq, l_lt, l_le, l_eq, Int32.toInt_toInt64, Int32.reduceToInt, Int64.reduceToInt, ne_eq, Classical.not_not] at *; omega)
    have em : nI k + -1 = nI k - 1 := by rw [Int32.sub_eq_add_neg]
    have el : lI (g k : Int) = lI (dgt 36 6 N k : Int) ↔ g k = dgt 36 6 N k := by rw [lI_eq (by unfold fL; omega) (by unfold fL; omega)]; omega
    refine and_ii (fun q => ?_) (fun q => ?_)
    · rw [em]
      exact ih' (fun j h1 h2 => by
        by_cases e : j = k
        · subst e; exact (el.mp q).symm
        · exact hj j (by omega) h2)
    · rw [b2i_f (fun e => q (el.mpr (eqN_iff.mp e k (by omega)).symm))] at hQ
      exact hQ
theorem c_hasAp {A : Nat} (h : MS M a) (hm : msgC M a (a + 1) (a + 3) m) (ho : okM m) (hp : pb (gH m) 6 = 1) (hA : payC M A p) (hk : hasK M A (.inr 7)) (h40 : qI p 40 < 2147483648) (hQ : Q (some (.int (b2i (isAp p m = true)))) M) : Ct G (MT 82) [.ref A, .ref a] M Q X := by
  have hms := hm.2.2 6 (by omega) hp
  have hof := ho.2.2 6 (by omega) hp
  have h6 : gN m 6 = 6 := hof.2.1 rfl
  rw [h6] at hms
  have hg2 : ∀ i, i < 6 → gS m 6 i < 100 := fun i hi => by have := hof.2.2.2 i (by omega); split at this <;> omega
  have p0 := hA.1
  have e1 := nI_lI (n := qI p 40) h40
  have s6 : stV 1 6 = nI 6 := by decide
  have c6 : (6 : Int32).toNatClampNeg = 6 := rfl
  refine Ct.go (L0 := [some (.ref A), some (.ref a), none, none, none]) (by decide +kernel) rfl rfl ?_
  refine r_X7_hasApproval (fun n => n == 16) 40 ?_
  simp only [cd_X7_hasApproval, cf_X7_hasApproval, wp, wq, wpI, cdF, w_CI, w_CL, w_CN, w_LI, w_LL, w_LA, w_SI, w_SL, w_SA, w_INC, w_II, w_IId, w_LLb, w_LLd, w_LS, w_I1, w_L1, w_I2L, w_L2I, w_CMP, w_DUP, w_POP, w_DUP2, w_IF, w_IC, w_GO, w_NUL, w_ACN, prs, w_GF, w_PF, w_GS, w_IAL, w_LEN, w_LAL, w_ZAL, w_AAL, w_IAS, w_LAS, w_ZAS, w_AAS, w_RI, w_RL, w_RA, w_NEW, w_NA, w_MNA, w_OI, w_THR, w_CV, w_CS, w_CN9, w_CI9, w_MX, w_cont, lget, sto1, sto2, wideV, vo, vo_rv, isR, isR_rv, rv, fget, fput, cats, Value.category, List.headD_cons, List.getD_cons_zero, List.getD_cons_succ, List.drop_succ_cons, List.drop_zero, List.take_succ_cons, List.take_zero, List.reverse_cons, List.reverse_nil, List.nil_append, List.cons_append, List.length_cons, List.length_nil, cond_true, cond_false, and_true, true_and, Nat.zero_add, Nat.add_zero, Nat.reduceAdd, Nat.reduceLT, Nat.reduceLeDiff, Nat.reduceEqDiff, Nat.reduceBEq, Nat.reduceSub, ↓reduceIte, Int32.reduceOfNat, Int64.reduceOfNat, reduceCtorEq, Nat.le_refl, Nat.zero_le, Bool.false_eq_true, beq_self_eq_true, Fin.isValue, Fin.val_zero, Fin.val_one, Fin.reduceFinMk, Fin.val_two, Nat.reduceMod, Bool.or_false, Bool.or_true, Bool.true_or, Bool.false_or, not_true_eq_false, not_false_eq_true, true_or, or_true, implies_true, false_implies, true_implies, Int32.reduceLT, Int32.reduceLE, ↓w_TAB3, ↓w_TAB4, ↓w_TAB5, ↓w_TAB7, ↓w_TAB10, ↓w_LK2, ↓w_LK6, false_and, and_false, i1z, i2z, iz1, im0, im1, l0z, hk, p0, e1, cVal, cLen, c6, s6]
  refine ⟨vp_in_i (by simp [stT]), ?_⟩
  have := lp_hasAp (G := G) (X := X) (A := A) h hms.2 hg2 h40 hQ 6 (by omega) (fun j h1 h2 => by omega)
  rw [Nat.sub_self, Nat.pow_zero, Nat.div_one] at this
  exact this
theorem lp_findKey (h : MS M a) (hm : msgC M a (a + 1) (a + 3) m) (ho : okM m) (hp : pb (gH m) 5 = 1) (hR : RC w o c S M) (hj : Jv t S) (hkk : k < 6) (h1 : fKy S k m < sN S 39 → Q (some (.ref (148 + 3 * w (fKy S k m)))) M) (h2 : ¬ fKy S k m < sN S 39 → Q (some .null) M) : ∀ (r i : Nat), r + i = sN S 39 → (∀ j, j < i → keyB S k m j = false) → Go G (MT 11) Q X 2 [some (.ref 139), some (.int (nI k)), some (.ref a), some (.int (nI i))] [] M 0 0 := by
  obtain ⟨hL, hN, hI, hLl, hF, hS, hA, hC, hP, hRr, hD, hT, hZ⟩ := id hR
  have hs := hj.1
  have hn := hN
  unfold cN at hn
  unfold jS at hs
  have h60 : sN S 39 ≤ 60 := by omega
  have tk := nI_toInt (n := k) (by omega)
  intro r
  induction r with
  | zero =>
    intro i hi hb
    have hi : i = sN S 39 := by omega
    subst hi
    refine r_X2_findKey (fun n => n == 2 || n == 21) 40 ?_
    simp only [cd_X2_findKey, cf_X2_findKey, wp, wq, wpI, cdF, w_CI, w_CL, w_CN, w_LI, w_LL, w_LA, w_SI, w_SL, w_SA, w_INC, w_II, w_IId, w_LLb, w_LLd, w_LS, w_I1, w_L1, w_I2L, w_L2I, w_CMP, w_DUP, w_POP, w_DUP2, w_IF, w_IC, w_GO, w_NUL, w_ACN, prs, w_GF, w_PF, w_GS, w_IAL, w_LEN, w_LAL, w_ZAL, w_AAL, w_IAS, w_LAS, w_ZAS, w_AAS, w_RI, w_RL, w_RA, w_NEW, w_NA, w_MNA, w_OI, w_THR, w_CV, w_CS, w_CN9, w_CI9, w_MX, w_cont, lget, sto1, sto2, wideV, vo, vo_rv, isR, isR_rv, rv, fget, fput, cats, Value.category, List.headD_cons, List.getD_cons_zero, List.getD_cons_succ, List.drop_succ_cons, List.drop_zero, List.take_succ_cons, List.take_zero, List.reverse_cons, List.reverse_nil, List.nil_append, List.cons_append, List.length_cons, List.length_nil, cond_true, cond_false, and_true, true_and, Nat.zero_add, Nat.add_zero, Nat.reduceAdd, Nat.reduceLT, Nat.reduceLeDiff, Nat.reduceEqDiff, Nat.reduceBEq, Nat.reduceSub, ↓reduceIte, Int32.reduceOfNat, Int64.reduceOfNat, reduceCtorEq, Nat.le_refl, Nat.zero_le, Bool.false_eq_true, beq_self_eq_true, Fin.isValue, Fin.val_zero, Fin.val_one, Fin.reduceFinMk, Fin.val_two, Nat.reduceMod, Bool.or_false, Bool.or_true, Bool.true_or, Bool.false_or, not_true_eq_false, not_false_eq_true, true_or, or_true, implies_true, false_implies, true_implies, Int32.reduceLT, Int32.reduceLE, ↓w_TAB3, ↓w_TAB4, ↓w_TAB5, ↓w_TAB7, ↓w_TAB10, ↓w_LK2, ↓w_LK6, false_and, and_false, i1z, i2z, iz1, im0, im1, l0z, hasK_uI, hasK_uL, hasK_uR, hasK_uZ, hasK_sRow, mR_uI, mR_uL, mR_uZ, mR_sRow, mI_uL, mI_uR, mI_uZ, mL_uI, mL_uR, mL_uZ, mL_sRow, LF.hg hL, layF, LF.r hL, refF, ne_eq, not_false_eq_true, Option.some.injEq, Sum.inl.injEq, Sum.inr.injEq, Prod.mk.injEq, exists_eq_left, exists_eq_left', hn]
    refine ⟨fun _ => ⟨rfl, h2 ?_⟩, fun q => absurd (nI_le (Nat.le_refl _) (by omega)) q⟩
    unfold fKy
    rw [fsn_n hb]
    omega
  | succ r ih =>
    intro i hi hb
    have ti := nI_toInt (n := i) (by omega)
    have tN := nI_toInt (n := sN S 39) (by omega)
    have ci := nI_clamp (n := i) (by omega)
    have hw := hP.1 i (by omega)
    have hpk := pay_k hL hw.2
    have hpi := hP.2.2 i (by omega)
    have hok := hj.2.2.2.1 i (by omega)
    have ih' := ih (i + 1) (by omega)
    refine r_X2_findKey (fun n => n == 2 || n == 21) 40 ?_
    simp only [cd_X2_findKey, cf_X2_findKey, wp, wq, wpI, cdF, w_CI, w_CL, w_CN, w_LI, w_LL, w_LA, w_SI, w_SL, w_SA, w_INC, w_II, w_IId, w_LLb, w_LLd, w_LS, w_I1, w_L1, w_I2L, w_L2I, w_CMP, w_DUP, w_POP, w_DUP2, w_IF, w_IC, w_GO, w_NUL, w_ACN, prs, w_GF, w_PF, w_GS, w_IAL, w_LEN, w_LAL, w_ZAL, w_AAL, w_IAS, w_LAS, w_ZAS, w_AAS, w_RI, w_RL, w_RA, w_NEW, w_NA, w_MNA, w_OI, w_THR, w_CV, w_CS, w_CN9, w_CI9, w_MX, w_cont, lget, sto1, sto2, wideV, vo, vo_rv, isR, isR_rv, rv, fget, fput, cats, Value.category, List.headD_cons, List.getD_cons_zero, List.getD_cons_succ, List.drop_succ_cons, List.drop_zero, List.take_succ_cons, List.take_zero, List.reverse_cons, List.reverse_nil, List.nil_append, List.cons_append, List.length_cons, List.length_nil, cond_true, cond_false, and_true, true_and, Nat.zero_add, Nat.add_zero, Nat.reduceAdd, Nat.reduceLT, Nat.reduceLeDiff, Nat.reduceEqDiff, Nat.reduceBEq, Nat.reduceSub, ↓reduceIte, Int32.reduceOfNat, Int64.reduceOfNat, reduceCtorEq, Nat.le_refl, Nat.zero_le, Bool.false_eq_true, beq_self_eq_true, Fin.isValue, Fin.val_zero, Fin.val_one, Fin.reduceFinMk, Fin.val_two, Nat.reduceMod, Bool.or_false, Bool.or_true, Bool.true_or, Bool.false_or, not_true_eq_false, not_false_eq_true, true_or, or_true, implies_true, false_implies, true_implies, Int32.reduceLT, Int32.reduceLE, ↓w_TAB3, ↓w_TAB4, ↓w_TAB5, ↓w_TAB7, ↓w_TAB10, ↓w_LK2, ↓w_LK6, false_and, and_false, i1z, i2z, iz1, im0, im1, l0z, hasK_uI, hasK_uL, hasK_uR, hasK_uZ, hasK_sRow, mR_uI, mR_uL, mR_uZ, mR_sRow, mI_uL, mI_uR, mI_uZ, mL_uI, mL_uR, mL_uZ, mL_sRow, LF.hg hL, layF, LF.r hL, refF, ne_eq, not_false_eq_true, Option.some.injEq, Sum.inl.injEq, Sum.inr.injEq, Prod.mk.injEq, exists_eq_left, exists_eq_left', hn, ci, nI_1, hw.1, hpk.1]
    refine and_ii (fun q => ?_) (fun _ => ⟨_, _, ⟨⟨rfl, rfl⟩, rfl⟩, vp_in_nI (by omega) (by omega), ?_⟩)
    · exfalso; (simp only [i_lt, i_le, i_eq, l_lt, l_le, l_eq, Int32.toInt_toInt64, Int32.reduceToInt, Int64.reduceToInt, ne_eq, Classical.not_not] at *; omega)
    refine c_hasKey (A := 148 + 3 * w i) h hm ho hp hpi hpk.1 (by rw [show 148 + 3 * w i + 2 = 150 + 3 * w i by omega]; exact hpk.2.2.2.2) (by rw [show 148 + 3 * w i + 2 = 150 + 3 * w i by omega]; exact hpk.2.2.1) (by have := hok.1; omega) (fun j hj' => by have := hok.2.2.1 j hj'; omega) rfl (by omega) ⟨_, rfl, ?_⟩
    by_cases q : keyB S k m i = true
    · have q2 := q
      unfold keyB at q2
      rw [b2i_t q2]
      refine r_X2_findKey (fun n => n == 2 || n == 21) 40 ?_
      simp only [cd_X2_findKey, cf_X2_findKey, wp, wq, wpI, cdF, w_CI, w_CL, w_CN, w_LI, w_LL, w_LA, w_SI, w_SL, w_SA, w_INC, w_II, w_IId, w_LLb, w_LLd, w_LS, w_I1, w_L1, w_I2L, w_L2I, w_CMP, w_DUP, w_POP, w_DUP2, w_IF, w_IC, w_GO, w_NUL, w_ACN, prs, w_GF, w_PF, w_GS, w_IAL, w_LEN, w_LAL, w_ZAL, w_AAL, w_IAS, w_LAS, w_ZAS, w_AAS, w_RI, w_RL, w_RA, w_NEW, w_NA, w_MNA, w_OI, w_THR, w_CV, w_CS, w_CN9, w_CI9, w_MX, w_cont, lget, sto1, sto2, wideV, vo, vo_rv, isR, isR_rv, rv, fget, fput, cats, Value.category, List.headD_cons, List.getD_cons_zero, List.getD_cons_succ, List.drop_succ_cons, List.drop_zero, List.take_succ_cons, List.take_zero, List.reverse_cons, List.reverse_nil, List.nil_append, List.cons_append, List.length_cons, List.length_nil, cond_true, cond_false, and_true, true_and, Nat.zero_add, Nat.add_zero, Nat.reduceAdd, Nat.reduceLT, Nat.reduceLeDiff, Nat.reduceEqDiff, Nat.reduceBEq, Nat.reduceSub, ↓reduceIte, Int32.reduceOfNat, Int64.reduceOfNat, reduceCtorEq, Nat.le_refl, Nat.zero_le, Bool.false_eq_true, beq_self_eq_true, Fin.isValue, Fin.val_zero, Fin.val_one, Fin.reduceFinMk, Fin.val_two, Nat.reduceMod, Bool.or_false, Bool.or_true, Bool.true_or, Bool.false_or, not_true_eq_false, not_false_eq_true, true_or, or_true, implies_true, false_implies, true_implies, Int32.reduceLT, Int32.reduceLE, ↓w_TAB3, ↓w_TAB4, ↓w_TAB5, ↓w_TAB7, ↓w_TAB10, ↓w_LK2, ↓w_LK6, false_and, and_false, i1z, i2z, iz1, im0, im1, l0z, hasK_uI, hasK_uL, hasK_uR, hasK_uZ, hasK_sRow, mR_uI, mR_uL, mR_uZ, mR_sRow, mI_uL, mI_uR, mI_uZ, mL_uI, mL_uR, mL_uZ, mL_sRow, LF.hg hL, layF, LF.r hL, refF, ne_eq, not_false_eq_true, Option.some.injEq, Sum.inl.injEq, Sum.inr.injEq, Prod.mk.injEq, exists_eq_left, exists_eq_left', ci, hw.1, i1z]
      refine ⟨_, _, ⟨⟨rfl, rfl⟩, rfl⟩, vp_in_nI (by omega) (by omega), rfl, ?_⟩
      have e : fKy S k m = i := fsn_eq (by omega) q hb
      rw [e] at h1
      exact h1 (by omega)
    · have q2 := q
      unfold keyB at q2
      rw [b2i_f q2]
      refine r_X2_findKey (fun n => n == 2 || n == 21) 40 ?_
      simp only [cd_X2_findKey, cf_X2_findKey, wp, wq, wpI, cdF, w_CI, w_CL, w_CN, w_LI, w_LL, w_LA, w_SI, w_SL, w_SA, w_INC, w_II, w_IId, w_LLb, w_LLd, w_LS, w_I1, w_L1, w_I2L, w_L2I, w_CMP, w_DUP, w_POP, w_DUP2, w_IF, w_IC, w_GO, w_NUL, w_ACN, prs, w_GF, w_PF, w_GS, w_IAL, w_LEN, w_LAL, w_ZAL, w_AAL, w_IAS, w_LAS, w_ZAS, w_AAS, w_RI, w_RL, w_RA, w_NEW, w_NA, w_MNA, w_OI, w_THR, w_CV, w_CS, w_CN9, w_CI9, w_MX, w_cont, lget, sto1, sto2, wideV, vo, vo_rv, isR, isR_rv, rv, fget, fput, cats, Value.category, List.headD_cons, List.getD_cons_zero, List.getD_cons_succ, List.drop_succ_cons, List.drop_zero, List.take_succ_cons, List.take_zero, List.reverse_cons, List.reverse_nil, List.nil_append, List.cons_append, List.length_cons, List.length_nil, cond_true, cond_false, and_true, true_and, Nat.zero_add, Nat.add_zero, Nat.reduceAdd, Nat.reduceLT, Nat.reduceLeDiff, Nat.reduceEqDiff, Nat.reduceBEq, Nat.reduceSub, ↓reduceIte, Int32.reduceOfNat, Int64.reduceOfNat, reduceCtorEq, Nat.le_refl, Nat.zero_le, Bool.false_eq_true, beq_self_eq_true, Fin.isValue, Fin.val_zero, Fin.val_one, Fin.reduceFinMk, Fin.val_two, Nat.reduceMod, Bool.or_false, Bool.or_true, Bool.true_or, Bool.false_or, not_true_eq_false, not_false_eq_true, true_or, or_true, implies_true, false_implies, true_implies, Int32.reduceLT, Int32.reduceLE, ↓w_TAB3, ↓w_TAB4, ↓w_TAB5, ↓w_TAB7, ↓w_TAB10, ↓w_LK2, ↓w_LK6, false_and, and_false, i1z, i2z, iz1, im0, im1, l0z, nI_1]
      refine ih' (fun j hj' => ?_)
      by_cases e : j = i
      · subst e; exact Bool.eq_false_iff.mpr q
      · exact hb j (by omega)
theorem c_findKey (h : MS M a) (hm : msgC M a (a + 1) (a + 3) m) (ho : okM m) (hp : pb (gH m) 5 = 1) (hR : RC w o c S M) (hj : Jv t S) (hkk : k < 6) (hx : x = nI k) (h1 : fKy S k m < sN S 39 → Q (some (.ref (148 + 3 * w (fKy S k m)))) M) (h2 : ¬ fKy S k m < sN S 39 → Q (some .null) M) : Ct G (MT 11) [.ref 139, .int x, .ref a] M Q X := by
  subst hx
  refine Ct.go (L0 := [some (.ref 139), some (.int (nI k)), some (.ref a), none]) (by decide +kernel) rfl rfl ?_
  refine r_X2_findKey (fun n => n == 2 || n == 21) 40 ?_
  simp only [cd_X2_findKey, cf_X2_findKey, wp, wq, wpI, cdF, w_CI, w_CL, w_CN, w_LI, w_LL, w_LA, w_SI, w_SL, w_SA, w_INC, w_II, w_IId, w_LLb, w_LLd, w_LS, w_I1, w_L1, w_I2L, w_L2I, w_CMP, w_DUP, w_POP, w_DUP2, w_IF, w_IC, w_GO, w_NUL, w_ACN, prs, w_GF, w_PF, w_GS, w_IAL, w_LEN, w_LAL, w_ZAL, w_AAL, w_IAS, w_LAS, w_ZAS, w_AAS, w_RI, w_RL, w_RA, w_NEW, w_NA, w_MNA, w_OI, w_THR, w_CV, w_CS, w_CN9, w_CI9, w_MX, w_cont, lget, sto1, sto2, wideV, vo, vo_rv, isR, isR_rv, rv, fget, fput, cats, Value.category, List.headD_cons, List.getD_cons_zero, List.getD_cons_succ, List.drop_succ_cons, List.drop_zero, List.take_succ_cons, List.take_zero, List.reverse_cons, List.reverse_nil, List.nil_append, List.cons_append, List.length_cons, List.length_nil, cond_true, cond_false, and_true, true_and, Nat.zero_add, Nat.add_zero, Nat.reduceAdd, Nat.reduceLT, Nat.reduceLeDiff, Nat.reduceEqDiff, Nat.reduceBEq, Nat.reduceSub, ↓reduceIte, Int32.reduceOfNat, Int64.reduceOfNat, reduceCtorEq, Nat.le_refl, Nat.zero_le, Bool.false_eq_true, beq_self_eq_true, Fin.isValue, Fin.val_zero, Fin.val_one, Fin.reduceFinMk, Fin.val_two, Nat.reduceMod, Bool.or_false, Bool.or_true, Bool.true_or, Bool.false_or, not_true_eq_false, not_false_eq_true, true_or, or_true, implies_true, false_implies, true_implies, Int32.reduceLT, Int32.reduceLE, ↓w_TAB3, ↓w_TAB4, ↓w_TAB5, ↓w_TAB7, ↓w_TAB10, ↓w_LK2, ↓w_LK6, false_and, and_false, i1z, i2z, iz1, im0, im1, l0z]
  exact lp_findKey h hm ho hp hR hj hkk h1 h2 (sN S 39) 0 (by omega) (fun j hj => by omega)
/-- the place in the ring -/
theorem ring_i {j na : Nat} (ho : o < 24) (hz : na < 24 → o = 0) (hna : na ≤ 24) (hj : j < na) : ∃ i, i < na ∧ (o + i) % 24 = j := by
  by_cases q : na < 24
  · exact ⟨j, hj, by have := hz q; omega⟩
  · by_cases q2 : o ≤ j
    · exact ⟨j - o, by omega, by omega⟩
    · exact ⟨j + 24 - o, by omega, by omega⟩
theorem lp_findA (h : MS M a) (hm : msgC M a (a + 1) (a + 3) m) (ho : okM m) (hp : pb (gH m) 3 = 1) (hR : RC w o c S M) (hj : Jv t S) (hkk : k < 6) (h1 : fAr S k m < sN S 55 → Q (some (.int (nI ((o + fAr S k m) % 24)))) M) (h2 : ¬ fAr S k m < sN S 55 → Q (some (.int (-1))) M) : ∀ (r i : Nat), r + i = sN S 55 → (∀ j, j < sN S 55 → (o + j) % 24 < i → ¬ (rA (sR S j) = k ∧ rT (sR S j) = val m 3 ∧ rK (sR S j) = gT m / 100)) → Go G (MT 6) Q X 2 [some (.ref 328), some (.int (nI k)), some (.ref a), some (.int (nI i))] [] M 0 0 := by
  obtain ⟨hL, hN, hI, hLl, hF, hS, hA, hC, hP, hRr, hD, hT, hZ⟩ := id hR
  have hs := hj.1
  have hn := hN
  unfold cN at hn
  unfold jS at hs
  have tk := nI_toInt (n := k) (by omega)
  have i100 : ((100 : Int32) = 0) = False := eq_false (by decide)
  have hty := ho.1
  have e100 : nI (gT m) / 100 = nI (gT m / 100) := nI_div (b := 100) (by omega) (by omega) (by omega)
  have t100 := nI_toInt (n := gT m / 100) (by omega)
  have hv3 : val m 3 < 1000000 := by
    have hof := ho.2.2 3 (by omega) hp
    have h6 : gN m 3 = 6 := hof.2.1 rfl
    have : vl (gS m 3) 6 < 10 ^ 6 := vl_lt (fun i hi => hof.2.2.2 i (by omega))
    unfold val
    rw [h6]; omega
  have tv := nI_toInt (n := val m 3) (by omega)
  have huq := hj.2.2.2.2.2.1
  intro r
  induction r with
  | zero =>
    intro i hi hb
    have hi : i = sN S 55 := by omega
    subst hi
    refine r_X1_find (fun n => n == 2 || n == 32) 40 ?_
    simp only [cd_X1_find, cf_X1_find, wp, wq, wpI, cdF, w_CI, w_CL, w_CN, w_LI, w_LL, w_LA, w_SI, w_SL, w_SA, w_INC, w_II, w_IId, w_LLb, w_LLd, w_LS, w_I1, w_L1, w_I2L, w_L2I, w_CMP, w_DUP, w_POP, w_DUP2, w_IF, w_IC, w_GO, w_NUL, w_ACN, prs, w_GF, w_PF, w_GS, w_IAL, w_LEN, w_LAL, w_ZAL, w_AAL, w_IAS, w_LAS, w_ZAS, w_AAS, w_RI, w_RL, w_RA, w_NEW, w_NA, w_MNA, w_OI, w_THR, w_CV, w_CS, w_CN9, w_CI9, w_MX, w_cont, lget, sto1, sto2, wideV, vo, vo_rv, isR, isR_rv, rv, fget, fput, cats, Value.category, List.headD_cons, List.getD_cons_zero, List.getD_cons_succ, List.drop_succ_cons, List.drop_zero, List.take_succ_cons, List.take_zero, List.reverse_cons, List.reverse_nil, List.nil_append, List.cons_append, List.length_cons, List.length_nil, cond_true, cond_false, and_true, true_and, Nat.zero_add, Nat.add_zero, Nat.reduceAdd, Nat.reduceLT, Nat.reduceLeDiff, Nat.reduceEqDiff, Nat.reduceBEq, Nat.reduceSub, ↓reduceIte, Int32.reduceOfNat, Int64.reduceOfNat, reduceCtorEq, Nat.le_refl, Nat.zero_le, Bool.false_eq_true, beq_self_eq_true, Fin.isValue, Fin.val_zero, Fin.val_one, Fin.reduceFinMk, Fin.val_two, Nat.reduceMod, Bool.or_false, Bool.or_true, Bool.true_or, Bool.false_or, not_true_eq_false, not_false_eq_true, true_or, or_true, implies_true, false_implies, true_implies, Int32.reduceLT, Int32.reduceLE, ↓w_TAB3, ↓w_TAB4, ↓w_TAB5, ↓w_TAB7, ↓w_TAB10, ↓w_LK2, ↓w_LK6, false_and, and_false, i1z, i2z, iz1, im0, im1, l0z, hasK_uI, hasK_uL, hasK_uR, hasK_uZ, hasK_sRow, mR_uI, mR_uL, mR_uZ, mR_sRow, mI_uL, mI_uR, mI_uZ, mL_uI, mL_uR, mL_uZ, mL_sRow, LF.hg hL, layF, LF.r hL, refF, ne_eq, not_false_eq_true, Option.some.injEq, Sum.inl.injEq, Sum.inr.injEq, Prod.mk.injEq, exists_eq_left, exists_eq_left', hn]
    refine ⟨fun _ => h2 ?_, fun q => absurd (nI_le (Nat.le_refl _) (by omega)) q⟩
    unfold fAr
    rw [fsn_n (fun j hj' => decide_eq_false (hb j hj' ?_))]
    · omega
    · have := hRr.2.2.1
      by_cases q : sN S 55 < 24
      · have := this q; omega
      · omega
  | succ r ih =>
    intro i hi hb
    have ti := nI_toInt (n := i) (by omega)
    have tN := nI_toInt (n := sN S 55) (by omega)
    have ci := nI_clamp (n := i) (by omega)
    obtain ⟨ii, hii, ei⟩ := ring_i hRr.2.1 hRr.2.2.1 (by omega) (show i < sN S 55 by omega)
    have harc := hRr.2.2.2 ii hii
    rw [ei] at harc
    have hok := huq.1 ii hii
    obtain ⟨k1, k2, k3, k4⟩ := hok
    have h17 : sN S 17 ≤ 6 := by omega
    have ta := nI_toInt (n := rA (sR S ii)) (by omega)
    have tt := nI_toInt (n := rT (sR S ii)) (by omega)
    have tK := nI_toInt (n := rK (sR S ii)) (by omega)
    have eT := nI_lI (n := rT (sR S ii)) (by omega)
    have ih' := ih (i + 1) (by omega)
    have hno : ¬ (rA (sR S ii) = k ∧ rT (sR S ii) = val m 3 ∧ rK (sR S ii) = gT m / 100) → Go G (MT 6) Q X 54 [some (.ref 328), some (.int (nI k)), some (.ref a), some (.int (nI i))] [] M 0 0 := fun q => by
      refine r_X1_find (fun n => n == 2 || n == 32) 40 ?_
      simp only [cd_X1_find, cf_X1_find, wp, wq, wpI, cdF, w_CI, w_CL, w_CN, w_LI, w_LL, w_LA, w_SI, w_SL, w_SA, w_INC, w_II, w_IId, w_LLb, w_LLd, w_LS, w_I1, w_L1, w_I2L, w_L2I, w_CMP, w_DUP, w_POP, w_DUP2, w_IF, w_IC, w_GO, w_NUL, w_ACN, prs, w_GF, w_PF, w_GS, w_IAL, w_LEN, w_LAL, w_ZAL, w_AAL, w_IAS, w_LAS, w_ZAS, w_AAS, w_RI, w_RL, w_RA, w_NEW, w_NA, w_MNA, w_OI, w_THR, w_CV, w_CS, w_CN9, w_CI9, w_MX, w_cont, lget, sto1, sto2, wideV, vo, vo_rv, isR, isR_rv, rv, fget, fput, cats, Value.category, List.headD_cons, List.getD_cons_zero, List.getD_cons_succ, List.drop_succ_cons, List.drop_zero, List.take_succ_cons, List.take_zero, List.reverse_cons, List.reverse_nil, List.nil_append, List.cons_append, List.length_cons, List.length_nil, cond_true, cond_false, and_true, true_and, Nat.zero_add, Nat.add_zero, Nat.reduceAdd, Nat.reduceLT, Nat.reduceLeDiff, Nat.reduceEqDiff, Nat.reduceBEq, Nat.reduceSub, ↓reduceIte, Int32.reduceOfNat, Int64.reduceOfNat, reduceCtorEq, Nat.le_refl, Nat.zero_le, Bool.false_eq_true, beq_self_eq_true, Fin.isValue, Fin.val_zero, Fin.val_one, Fin.reduceFinMk, Fin.val_two, Nat.reduceMod, Bool.or_false, Bool.or_true, Bool.true_or, Bool.false_or, not_true_eq_false, not_false_eq_true, true_or, or_true, implies_true, false_implies, true_implies, Int32.reduceLT, Int32.reduceLE, ↓w_TAB3, ↓w_TAB4, ↓w_TAB5, ↓w_TAB7, ↓w_TAB10, ↓w_LK2, ↓w_LK6, false_and, and_false, i1z, i2z, iz1, im0, im1, l0z, nI_1]
      refine ih' (fun j hj' hlt => ?_)
      by_cases e : (o + j) % 24 = i
      · have : j = ii := by
          have := hRr.2.1
          have h3 := hRr.2.2.1
          by_cases q9 : sN S 55 < 24
          · have := h3 q9; omega
          · omega
        subst this; exact q
      · exact hb j hj' (by omega)
    have hv := vp_in_nI (n := i) (N := 24) (by omega) (by omega)
    refine r_X1_find (fun n => n == 2 || n == 54 || n == 32) 40 ?_
    simp only [cd_X1_find, cf_X1_find, wp, wq, wpI, cdF, w_CI, w_CL, w_CN, w_LI, w_LL, w_LA, w_SI, w_SL, w_SA, w_INC, w_II, w_IId, w_LLb, w_LLd, w_LS, w_I1, w_L1, w_I2L, w_L2I, w_CMP, w_DUP, w_POP, w_DUP2, w_IF, w_IC, w_GO, w_NUL, w_ACN, prs, w_GF, w_PF, w_GS, w_IAL, w_LEN, w_LAL, w_ZAL, w_AAL, w_IAS, w_LAS, w_ZAS, w_AAS, w_RI, w_RL, w_RA, w_NEW, w_NA, w_MNA, w_OI, w_THR, w_CV, w_CS, w_CN9, w_CI9, w_MX, w_cont, lget, sto1, sto2, wideV, vo, vo_rv, isR, isR_rv, rv, fget, fput, cats, Value.category, List.headD_cons, List.getD_cons_zero, List.getD_cons_succ, List.drop_succ_cons, List.drop_zero, List.take_succ_cons, List.take_zero, List.reverse_cons, List.reverse_nil, List.nil_append, List.cons_append, List.length_cons, List.length_nil, cond_true, cond_false, and_true, true_and, Nat.zero_add, Nat.add_zero, Nat.reduceAdd, Nat.reduceLT, Nat.reduceLeDiff, Nat.reduceEqDiff, Nat.reduceBEq, Nat.reduceSub, ↓reduceIte, Int32.reduceOfNat, Int64.reduceOfNat, reduceCtorEq, Nat.le_refl, Nat.zero_le, Bool.false_eq_true, beq_self_eq_true, Fin.isValue, Fin.val_zero, Fin.val_one, Fin.reduceFinMk, Fin.val_two, Nat.reduceMod, Bool.or_false, Bool.or_true, Bool.true_or, Bool.false_or, not_true_eq_false, not_false_eq_true, true_or, or_true, implies_true, false_implies, true_implies, Int32.reduceLT, Int32.reduceLE, ↓w_TAB3, ↓w_TAB4, ↓w_TAB5, ↓w_TAB7, ↓w_TAB10, ↓w_LK2, ↓w_LK6, false_and, and_false, i1z, i2z, iz1, im0, im1, l0z, hasK_uI, hasK_uL, hasK_uR, hasK_uZ, hasK_sRow, mR_uI, mR_uL, mR_uZ, mR_sRow, mI_uL, mI_uR, mI_uZ, mL_uI, mL_uR, mL_uZ, mL_sRow, LF.hg hL, layF, LF.r hL, refF, ne_eq, not_false_eq_true, Option.some.injEq, Sum.inl.injEq, Sum.inr.injEq, Prod.mk.injEq, exists_eq_left, exists_eq_left', hn, ci, harc.1, h.1]
    refine and_ii (fun q => ?_) (fun _ => ⟨hv, and_ii (fun q => hno (by (simp only [i_lt, i_le, i_eq, l_lt, l_le, l_eq, Int32.toInt_toInt64, Int32.reduceToInt, Int64.reduceToInt, ne_eq, Classical.not_not] at *; omega))) (fun q1 => ⟨hv, ?_⟩)⟩)
    · exfalso; (simp only [i_lt, i_le, i_eq, l_lt, l_le, l_eq, Int32.toInt_toInt64, Int32.reduceToInt, Int64.reduceToInt, ne_eq, Classical.not_not] at *; omega)
    have q1 : rA (sR S ii) = k := by (simp only [i_lt, i_le, i_eq, l_lt, l_le, l_eq, Int32.toInt_toInt64, Int32.reduceToInt, Int64.reduceToInt, ne_eq, Classical.not_not] at *; omega)
    refine c_numOf (s := 3) h hm ho (by omega) hp rfl ⟨_, rfl, ?_⟩
    refine r_X1_find (fun n => n == 2 || n == 54 || n == 32) 40 ?_
    simp only [cd_X1_find, cf_X1_find, wp, wq, wpI, cdF, w_CI, w_CL, w_CN, w_LI, w_LL, w_LA, w_SI, w_SL, w_SA, w_INC, w_II, w_IId, w_LLb, w_LLd, w_LS, w_I1, w_L1, w_I2L, w_L2I, w_CMP, w_DUP, w_POP, w_DUP2, w_IF, w_IC, w_GO, w_NUL, w_ACN, prs, w_GF, w_PF, w_GS, w_IAL, w_LEN, w_LAL, w_ZAL, w_AAL, w_IAS, w_LAS, w_ZAS, w_AAS, w_RI, w_RL, w_RA, w_NEW, w_NA, w_MNA, w_OI, w_THR, w_CV, w_CS, w_CN9, w_CI9, w_MX, w_cont, lget, sto1, sto2, wideV, vo, vo_rv, isR, isR_rv, rv, fget, fput, cats, Value.category, List.headD_cons, List.getD_cons_zero, List.getD_cons_succ, List.drop_succ_cons, List.drop_zero, List.take_succ_cons, List.take_zero, List.reverse_cons, List.reverse_nil, List.nil_append, List.cons_append, List.length_cons, List.length_nil, cond_true, cond_false, and_true, true_and, Nat.zero_add, Nat.add_zero, Nat.reduceAdd, Nat.reduceLT, Nat.reduceLeDiff, Nat.reduceEqDiff, Nat.reduceBEq, Nat.reduceSub, ↓reduceIte, Int32.reduceOfNat, Int64.reduceOfNat, reduceCtorEq, Nat.le_refl, Nat.zero_le, Bool.false_eq_true, beq_self_eq_true, Fin.isValue, Fin.val_zero, Fin.val_one, Fin.reduceFinMk, Fin.val_two, Nat.reduceMod, Bool.or_false, Bool.or_true, Bool.true_or, Bool.false_or, not_true_eq_false, not_false_eq_true, true_or, or_true, implies_true, false_implies, true_implies, Int32.reduceLT, Int32.reduceLE, ↓w_TAB3, ↓w_TAB4, ↓w_TAB5, ↓w_TAB7, ↓w_TAB10, ↓w_LK2, ↓w_LK6, false_and, and_false, i1z, i2z, iz1, im0, im1, l0z, hasK_uI, hasK_uL, hasK_uR, hasK_uZ, hasK_sRow, mR_uI, mR_uL, mR_uZ, mR_sRow, mI_uL, mI_uR, mI_uZ, mL_uI, mL_uR, mL_uZ, mL_sRow, LF.hg hL, layF, LF.r hL, refF, ne_eq, not_false_eq_true, Option.some.injEq, Sum.inl.injEq, Sum.inr.injEq, Prod.mk.injEq, exists_eq_left, exists_eq_left', ci, harc.2.2.1, eT, cmp_eq, h.1, hm.1, i100, e100, harc.2.1]
    refine and_ii (fun q => hno (fun e => q (by rw [e.2.1]))) (fun q2 => ⟨hv, and_ii (fun q => hno (by (simp only [i_lt, i_le, i_eq, l_lt, l_le, l_eq, Int32.toInt_toInt64, Int32.reduceToInt, Int64.reduceToInt, ne_eq, Classical.not_not] at *; omega))) (fun q3 => ?_)⟩)
    have q2 : rT (sR S ii) = val m 3 := by
      have := (lI_eq (by unfold fL; omega) (by unfold fL; omega)).mp (Classical.not_not.mp q2)
      omega
    have q3 : rK (sR S ii) = gT m / 100 := by (simp only [i_lt, i_le, i_eq, l_lt, l_le, l_eq, Int32.toInt_toInt64, Int32.reduceToInt, Int64.reduceToInt, ne_eq, Classical.not_not] at *; omega)
    have e : fAr S k m = ii := fsn_u hii (decide_eq_true ⟨q1, q2, q3⟩) (fun j hj' q => by
      have q := of_decide_eq_true q
      exact huq.2 j ii hj' hii (by omega) (by omega) (by omega))
    rw [e, ei] at h1
    exact h1 hii
theorem c_findA (h : MS M a) (hm : msgC M a (a + 1) (a + 3) m) (ho : okM m) (hp : pb (gH m) 3 = 1) (hR : RC w o c S M) (hj : Jv t S) (hkk : k < 6) (hx : x = nI k) (h1 : fAr S k m < sN S 55 → Q (some (.int (nI ((o + fAr S k m) % 24)))) M) (h2 : ¬ fAr S k m < sN S 55 → Q (some (.int (-1))) M) : Ct G (MT 6) [.ref 328, .int x, .ref a] M Q X := by
  subst hx
  refine Ct.go (L0 := [some (.ref 328), some (.int (nI k)), some (.ref a), none]) (by decide +kernel) rfl rfl ?_
  refine r_X1_find (fun n => n == 2 || n == 32) 40 ?_
  simp only [cd_X1_find, cf_X1_find, wp, wq, wpI, cdF, w_CI, w_CL, w_CN, w_LI, w_LL, w_LA, w_SI, w_SL, w_SA, w_INC, w_II, w_IId, w_LLb, w_LLd, w_LS, w_I1, w_L1, w_I2L, w_L2I, w_CMP, w_DUP, w_POP, w_DUP2, w_IF, w_IC, w_GO, w_NUL, w_ACN, prs, w_GF, w_PF, w_GS, w_IAL, w_LEN, w_LAL, w_ZAL, w_AAL, w_IAS, w_LAS, w_ZAS, w_AAS, w_RI, w_RL, w_RA, w_NEW, w_NA, w_MNA, w_OI, w_THR, w_CV, w_CS, w_CN9, w_CI9, w_MX, w_cont, lget, sto1, sto2, wideV, vo, vo_rv, isR, isR_rv, rv, fget, fput, cats, Value.category, List.headD_cons, List.getD_cons_zero, List.getD_cons_succ, List.drop_succ_cons, List.drop_zero, List.take_succ_cons, List.take_zero, List.reverse_cons, List.reverse_nil, List.nil_append, List.cons_append, List.length_cons, List.length_nil, cond_true, cond_false, and_true, true_and, Nat.zero_add, Nat.add_zero, Nat.reduceAdd, Nat.reduceLT, Nat.reduceLeDiff, Nat.reduceEqDiff, Nat.reduceBEq, Nat.reduceSub, ↓reduceIte, Int32.reduceOfNat, Int64.reduceOfNat, reduceCtorEq, Nat.le_refl, Nat.zero_le, Bool.false_eq_true, beq_self_eq_true, Fin.isValue, Fin.val_zero, Fin.val_one, Fin.reduceFinMk, Fin.val_two, Nat.reduceMod, Bool.or_false, Bool.or_true, Bool.true_or, Bool.false_or, not_true_eq_false, not_false_eq_true, true_or, or_true, implies_true, false_implies, true_implies, Int32.reduceLT, Int32.reduceLE, ↓w_TAB3, ↓w_TAB4, ↓w_TAB5, ↓w_TAB7, ↓w_TAB10, ↓w_LK2, ↓w_LK6, false_and, and_false, i1z, i2z, iz1, im0, im1, l0z]
  exact lp_findA h hm ho hp hR hj hkk h1 h2 (sN S 55) 0 (by omega) (fun j _ hj => by omega)
end AQ
