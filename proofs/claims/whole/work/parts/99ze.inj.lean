/-! CELLS ARE MADE: tables, books, the archive -/
section INJ
variable {G : En} {M M0 : Mem} {Q : Option Value → Mem → Prop} {X : String → Mem → Prop} {n a j k i : Nat} {b x v u : Int32} {e : Lk} {gI gI' : Nat → Nat → Int32} {gR gR' : Nat → Nat → Option Nat}
theorem mk_nI (hk : k < 1000) : nI k = mkB b (nI k) := by
  have tk := nI_toInt (n := k) (by omega)
  unfold mkB
  rw [if_neg (fun e => by rw [e] at tk; simp at tk; omega)]
theorem an0 : aName 3 = RX0 := rfl
theorem an3 : aName 4 = RX3 := rfl
theorem an7 : aName 5 = RX7 := rfl
def fA (i : Nat) (gI : Nat → Nat → Int32) (a j : Nat) : Int32 := if 11 ≤ a ∧ a < 11 + 2 * i ∧ (a - 11) % 2 = 0 ∧ j = 0 then nI ((a - 11) / 2) else gI a j
def fB (i : Nat) (gR : Nat → Nat → Option Nat) (a j : Nat) : Option Nat := if a = 7 ∧ j < i then some (11 + 2 * j) else if 11 ≤ a ∧ a < 11 + 2 * i ∧ (a - 11) % 2 = 0 ∧ j = 7 then some (a + 1) else gR a j
theorem lay_a8 (hi : i < 64) : layF (11 + 2 * i + 1) = some (.inl (.int, 8)) := by
  have : ∀ i : Fin 64, layF (11 + 2 * i.val + 1) = some (.inl (.int, 8)) := by decide
  exact this ⟨i, hi⟩
theorem lp_X10 (h7 : gR 1 8 = some 7) (hQ : ∀ M', Ini b 139 (fA 64 gI) (fB 64 gR) M' → Q none M') : ∀ (r i : Nat) (M : Mem) (kc ks : Nat), r + i = 64 → Ini b (11 + 2 * i) (fA i gI) (fB i gR) M → kc = 9 + 2 * i → ks = 496 + 17 * i → Go G (MT 110) Q X 103 [some (.ref 1), some (.int (nI i))] [] M kc ks := by
  intro r
  induction r with
  | zero =>
    intro i M kc ks hr h hkc hks
    have hi : i = 64 := by omega
    subst hi
    refine r_X10_init (fun n => n == 103 || n == 122) 40 ?_
    simp only [cd_X10_init, cf_X10_init, wp, wq, wpI, cdF, w_CI, w_CL, w_CN, w_LI, w_LL, w_LA, w_SI, w_SL, w_SA, w_INC, w_II, w_IId, w_LLb, w_LLd, w_LS, w_I1, w_L1, w_I2L, w_L2I, w_CMP, w_DUP, w_POP, w_DUP2, w_IF, w_IC, w_GO, w_NUL, w_ACN, prs, w_GF, w_PF, w_GS, w_IAL, w_LEN, w_LAL, w_ZAL, w_AAL, w_IAS, w_LAS, w_ZAS, w_AAS, w_RI, w_RL, w_RA, w_NEW, w_NA, w_MNA, w_OI, w_THR, w_CV, w_CS, w_CN9, w_CI9, w_MX, w_cont, lget, sto1, sto2, wideV, vo, vo_rv, isR, isR_rv, rv, fget, fput, cats, Value.category, List.headD_cons, List.getD_cons_zero, List.getD_cons_succ, List.drop_succ_cons, List.drop_zero, List.take_succ_cons, List.take_zero, List.reverse_cons, List.reverse_nil, List.nil_append, List.cons_append, List.length_cons, List.length_nil, cond_true, cond_false, and_true, true_and, Nat.zero_add, Nat.add_zero, Nat.reduceAdd, Nat.reduceLT, Nat.reduceLeDiff, Nat.reduceEqDiff, Nat.reduceBEq, Nat.reduceSub, ↓reduceIte, Int32.reduceOfNat, Int64.reduceOfNat, reduceCtorEq, Nat.le_refl, Nat.zero_le, Bool.false_eq_true, beq_self_eq_true, Fin.isValue, Fin.val_zero, Fin.val_one, Fin.reduceFinMk, Fin.val_two, Nat.reduceMod, Bool.or_false, Bool.or_true, Bool.true_or, Bool.false_or, not_true_eq_false, not_false_eq_true, true_or, or_true, implies_true, false_implies, true_implies, Int32.reduceLT, Int32.reduceLE, ↓w_TAB3, ↓w_TAB4, ↓w_TAB5, ↓w_TAB7, ↓w_TAB10, ↓w_LK2, ↓w_LK6, false_and, and_false, i1z, i2z, iz1, im0, im1, l0z]
    refine ⟨fun _ => hQ M h, fun q => absurd (nI_le (Nat.le_refl 64) (by omega)) q⟩
  | succ r ih =>
    intro i M kc ks hr h hkc hks
    have ti := nI_toInt (n := i) (by omega)
    have ci := nI_clamp (n := i) (by omega)
    have la : layF (11 + 2 * i) = some (.inr 0) := lay_acc (by omega)
    have k1 := h.hk (a := 1) (e := .inr 10) (by omega) (by decide)
    have hr1 : mR M 1 8 = some 7 := by rw [h.mr]; unfold fB; rw [if_neg (by omega), if_neg (by omega)]; exact h7
    have r1 := Ini_N h la
    have q1 : kc + 1 ≤ 137 := by omega
    have q2 : ks + 9 ≤ 1584 := by omega
    have q3 : kc + 1 + 1 ≤ 137 := by omega
    have q4 : ks + 9 + 8 ≤ 1584 := by omega
    refine r_X10_init (fun n => n == 103 || n == 122) 60 ?_
    simp only [cd_X10_init, cf_X10_init, wp, wq, wpI, cdF, w_CI, w_CL, w_CN, w_LI, w_LL, w_LA, w_SI, w_SL, w_SA, w_INC, w_II, w_IId, w_LLb, w_LLd, w_LS, w_I1, w_L1, w_I2L, w_L2I, w_CMP, w_DUP, w_POP, w_DUP2, w_IF, w_IC, w_GO, w_NUL, w_ACN, prs, w_GF, w_PF, w_GS, w_IAL, w_LEN, w_LAL, w_ZAL, w_AAL, w_IAS, w_LAS, w_ZAS, w_AAS, w_RI, w_RL, w_RA, w_NEW, w_NA, w_MNA, w_OI, w_THR, w_CV, w_CS, w_CN9, w_CI9, w_MX, w_cont, lget, sto1, sto2, wideV, vo, vo_rv, isR, isR_rv, rv, fget, fput, cats, Value.category, List.headD_cons, List.getD_cons_zero, List.getD_cons_succ, List.drop_succ_cons, List.drop_zero, List.take_succ_cons, List.take_zero, List.reverse_cons, List.reverse_nil, List.nil_append, List.cons_append, List.length_cons, List.length_nil, cond_true, cond_false, and_true, true_and, Nat.zero_add, Nat.add_zero, Nat.reduceAdd, Nat.reduceLT, Nat.reduceLeDiff, Nat.reduceEqDiff, Nat.reduceBEq, Nat.reduceSub, ↓reduceIte, Int32.reduceOfNat, Int64.reduceOfNat, reduceCtorEq, Nat.le_refl, Nat.zero_le, Bool.false_eq_true, beq_self_eq_true, Fin.isValue, Fin.val_zero, Fin.val_one, Fin.reduceFinMk, Fin.val_two, Nat.reduceMod, Bool.or_false, Bool.or_true, Bool.true_or, Bool.false_or, not_true_eq_false, not_false_eq_true, true_or, or_true, implies_true, false_implies, true_implies, Int32.reduceLT, Int32.reduceLE, ↓w_TAB3, ↓w_TAB4, ↓w_TAB5, ↓w_TAB7, ↓w_TAB10, ↓w_LK2, ↓w_LK6, false_and, and_false, i1z, i2z, iz1, im0, im1, l0z, k1, hr1, h.mz, h.mn, q1, q2, q3, q4]
    refine and_ii (fun q => ?_) (fun _ => ?_)
    · exfalso; (simp only [i_lt, i_le, i_eq, l_lt, l_le, l_eq, Int32.toInt_toInt64, Int32.reduceToInt, Int64.reduceToInt, ne_eq, Classical.not_not] at *; omega)
    refine n_X0 r1 (by omega) la (lay_a8 (by omega)) (mk_nI (k := i) (by omega)) (fun M' h' => ⟨rfl, ?_⟩)
    have k7 := h'.hk (a := 7) (e := .inl (.object RX0, 64)) (by omega) (by decide)
    have kn := h'.hk (a := 11 + 2 * i) (e := .inr 0) (by omega) la
    have ih' := ih (i + 1) (uR M' 7 i (some (11 + 2 * i))) (kc + 1 + 1) (ks + 9 + 8) (by omega) ?_ (by omega) (by omega)
    · refine r_X10_init (fun n => n == 103 || n == 122) 60 ?_
      simp only [cd_X10_init, cf_X10_init, wp, wq, wpI, cdF, w_CI, w_CL, w_CN, w_LI, w_LL, w_LA, w_SI, w_SL, w_SA, w_INC, w_II, w_IId, w_LLb, w_LLd, w_LS, w_I1, w_L1, w_I2L, w_L2I, w_CMP, w_DUP, w_POP, w_DUP2, w_IF, w_IC, w_GO, w_NUL, w_ACN, prs, w_GF, w_PF, w_GS, w_IAL, w_LEN, w_LAL, w_ZAL, w_AAL, w_IAS, w_LAS, w_ZAS, w_AAS, w_RI, w_RL, w_RA, w_NEW, w_NA, w_MNA, w_OI, w_THR, w_CV, w_CS, w_CN9, w_CI9, w_MX, w_cont, lget, sto1, sto2, wideV, vo, vo_rv, isR, isR_rv, rv, fget, fput, cats, Value.category, List.headD_cons, List.getD_cons_zero, List.getD_cons_succ, List.drop_succ_cons, List.drop_zero, List.take_succ_cons, List.take_zero, List.reverse_cons, List.reverse_nil, List.nil_append, List.cons_append, List.length_cons, List.length_nil, cond_true, cond_false, and_true, true_and, Nat.zero_add, Nat.add_zero, Nat.reduceAdd, Nat.reduceLT, Nat.reduceLeDiff, Nat.reduceEqDiff, Nat.reduceBEq, Nat.reduceSub, ↓reduceIte, Int32.reduceOfNat, Int64.reduceOfNat, reduceCtorEq, Nat.le_refl, Nat.zero_le, Bool.false_eq_true, beq_self_eq_true, Fin.isValue, Fin.val_zero, Fin.val_one, Fin.reduceFinMk, Fin.val_two, Nat.reduceMod, Bool.or_false, Bool.or_true, Bool.true_or, Bool.false_or, not_true_eq_false, not_false_eq_true, true_or, or_true, implies_true, false_implies, true_implies, Int32.reduceLT, Int32.reduceLE, ↓w_TAB3, ↓w_TAB4, ↓w_TAB5, ↓w_TAB7, ↓w_TAB10, ↓w_LK2, ↓w_LK6, false_and, and_false, i1z, i2z, iz1, im0, im1, l0z, k7, kn, ci, nI_1, Option.some.injEq, Sum.inl.injEq, Prod.mk.injEq, exists_eq_left, exists_eq_left']
      exact ⟨0, 64, _, ⟨rfl, kn, k7, by decide⟩, vp_in_nI (by omega) (by omega), ih'⟩
    · refine Ini.cg (Ini_R (a := 7) (j := i) (r := some (11 + 2 * i)) h' (by omega)) (fun a j => ?_) (fun a j => ?_)
      · simp only [up2, fA]
        (repeat' split) <;> first | rfl | (exfalso; omega) | (congr 1; omega) | skip
      · simp only [up2, fB]
        (repeat' split) <;> first | rfl | (exfalso; omega) | (congr 1; omega) | skip
def fC (i : Nat) (gR : Nat → Nat → Option Nat) (a j : Nat) : Option Nat := if a = 147 ∧ j < i then some (148 + 3 * j) else if 148 ≤ a ∧ a < 148 + 3 * i ∧ (a - 148) % 3 = 0 ∧ j = 3 then some (a + 1) else if 148 ≤ a ∧ a < 148 + 3 * i ∧ (a - 148) % 3 = 0 ∧ j = 5 then some (a + 2) else gR a j
theorem lay_p (hi : i < 60) : layF (148 + 3 * i) = some (.inr 7) ∧ layF (148 + 3 * i + 1) = some (.inl (.int, 19)) ∧ layF (148 + 3 * i + 1 + 1) = some (.inl (.int, 12)) := by
  have : ∀ i : Fin 60, layF (148 + 3 * i.val) = some (.inr 7) ∧ layF (148 + 3 * i.val + 1) = some (.inl (.int, 19)) ∧ layF (148 + 3 * i.val + 1 + 1) = some (.inl (.int, 12)) := by decide
  exact this ⟨i, hi⟩
theorem lp_X2 (h7 : gR 139 2 = some 147) (hQ : ∀ M', Ini b 328 gI (fC 60 gR) M' → Q none M') : ∀ (r i : Nat) (M : Mem) (kc ks : Nat), r + i = 60 → Ini b (148 + 3 * i) gI (fC i gR) M → kc = 8 + 3 * i → ks = 104 + 46 * i → Go G (MT 9) Q X 36 [some (.ref 139), some (.ref 1), some (.int (nI i))] [] M kc ks := by
  intro r
  induction r with
  | zero =>
    intro i M kc ks hr h hkc hks
    have hi : i = 60 := by omega
    subst hi
    refine r_X2_init (fun n => n == 36 || n == 12 || n == 54) 40 ?_
    simp only [cd_X2_init, cf_X2_init, wp, wq, wpI, cdF, w_CI, w_CL, w_CN, w_LI, w_LL, w_LA, w_SI, w_SL, w_SA, w_INC, w_II, w_IId, w_LLb, w_LLd, w_LS, w_I1, w_L1, w_I2L, w_L2I, w_CMP, w_DUP, w_POP, w_DUP2, w_IF, w_IC, w_GO, w_NUL, w_ACN, prs, w_GF, w_PF, w_GS, w_IAL, w_LEN, w_LAL, w_ZAL, w_AAL, w_IAS, w_LAS, w_ZAS, w_AAS, w_RI, w_RL, w_RA, w_NEW, w_NA, w_MNA, w_OI, w_THR, w_CV, w_CS, w_CN9, w_CI9, w_MX, w_cont, lget, sto1, sto2, wideV, vo, vo_rv, isR, isR_rv, rv, fget, fput, cats, Value.category, List.headD_cons, List.getD_cons_zero, List.getD_cons_succ, List.drop_succ_cons, List.drop_zero, List.take_succ_cons, List.take_zero, List.reverse_cons, List.reverse_nil, List.nil_append, List.cons_append, List.length_cons, List.length_nil, cond_true, cond_false, and_true, true_and, Nat.zero_add, Nat.add_zero, Nat.reduceAdd, Nat.reduceLT, Nat.reduceLeDiff, Nat.reduceEqDiff, Nat.reduceBEq, Nat.reduceSub, ↓reduceIte, Int32.reduceOfNat, Int64.reduceOfNat, reduceCtorEq, Nat.le_refl, Nat.zero_le, Bool.false_eq_true, beq_self_eq_true, Fin.isValue, Fin.val_zero, Fin.val_one, Fin.reduceFinMk, Fin.val_two, Nat.reduceMod, Bool.or_false, Bool.or_true, Bool.true_or, Bool.false_or, not_true_eq_false, not_false_eq_true, true_or, or_true, implies_true, false_implies, true_implies, Int32.reduceLT, Int32.reduceLE, ↓w_TAB3, ↓w_TAB4, ↓w_TAB5, ↓w_TAB7, ↓w_TAB10, ↓w_LK2, ↓w_LK6, false_and, and_false, i1z, i2z, iz1, im0, im1, l0z]
    refine ⟨fun _ => hQ M h, fun q => absurd (nI_le (Nat.le_refl 60) (by omega)) q⟩
  | succ r ih =>
    intro i M kc ks hr h hkc hks
    have ti := nI_toInt (n := i) (by omega)
    have ci := nI_clamp (n := i) (by omega)
    obtain ⟨la, lb, lc⟩ := lay_p (i := i) (by omega)
    have k1 := h.hk (a := 139) (e := .inr 2) (by omega) (by decide)
    have hr1 : mR M 139 2 = some 147 := by rw [h.mr]; unfold fC; rw [if_neg (by omega), if_neg (by omega), if_neg (by omega)]; exact h7
    have r1 := Ini_N h la
    have q1 : kc + 1 ≤ 188 := by omega
    have q2 : ks + 15 ≤ 2864 := by omega
    have q3 : kc + 1 + 2 ≤ 188 := by omega
    have q4 : ks + 15 + 31 ≤ 2864 := by omega
    refine r_X2_init (fun n => n == 36 || n == 12 || n == 54) 60 ?_
    simp only [cd_X2_init, cf_X2_init, wp, wq, wpI, cdF, w_CI, w_CL, w_CN, w_LI, w_LL, w_LA, w_SI, w_SL, w_SA, w_INC, w_II, w_IId, w_LLb, w_LLd, w_LS, w_I1, w_L1, w_I2L, w_L2I, w_CMP, w_DUP, w_POP, w_DUP2, w_IF, w_IC, w_GO, w_NUL, w_ACN, prs, w_GF, w_PF, w_GS, w_IAL, w_LEN, w_LAL, w_ZAL, w_AAL, w_IAS, w_LAS, w_ZAS, w_AAS, w_RI, w_RL, w_RA, w_NEW, w_NA, w_MNA, w_OI, w_THR, w_CV, w_CS, w_CN9, w_CI9, w_MX, w_cont, lget, sto1, sto2, wideV, vo, vo_rv, isR, isR_rv, rv, fget, fput, cats, Value.category, List.headD_cons, List.getD_cons_zero, List.getD_cons_succ, List.drop_succ_cons, List.drop_zero, List.take_succ_cons, List.take_zero, List.reverse_cons, List.reverse_nil, List.nil_append, List.cons_append, List.length_cons, List.length_nil, cond_true, cond_false, and_true, true_and, Nat.zero_add, Nat.add_zero, Nat.reduceAdd, Nat.reduceLT, Nat.reduceLeDiff, Nat.reduceEqDiff, Nat.reduceBEq, Nat.reduceSub, ↓reduceIte, Int32.reduceOfNat, Int64.reduceOfNat, reduceCtorEq, Nat.le_refl, Nat.zero_le, Bool.false_eq_true, beq_self_eq_true, Fin.isValue, Fin.val_zero, Fin.val_one, Fin.reduceFinMk, Fin.val_two, Nat.reduceMod, Bool.or_false, Bool.or_true, Bool.true_or, Bool.false_or, not_true_eq_false, not_false_eq_true, true_or, or_true, implies_true, false_implies, true_implies, Int32.reduceLT, Int32.reduceLE, ↓w_TAB3, ↓w_TAB4, ↓w_TAB5, ↓w_TAB7, ↓w_TAB10, ↓w_LK2, ↓w_LK6, false_and, and_false, i1z, i2z, iz1, im0, im1, l0z, k1, hr1, h.mz, h.mn, q1, q2, q3, q4]
    refine and_ii (fun q => ?_) (fun _ => ?_)
    · exfalso; (simp only [i_lt, i_le, i_eq, l_lt, l_le, l_eq, Int32.toInt_toInt64, Int32.reduceToInt, Int64.reduceToInt, ne_eq, Classical.not_not] at *; omega)
    refine n_X7 r1 (by omega) la lb lc (fun M' h' => ⟨rfl, ?_⟩)
    have k7 := h'.hk (a := 147) (e := .inl (.object RX7, 60)) (by omega) (by decide)
    have kn := h'.hk (a := 148 + 3 * i) (e := .inr 7) (by omega) la
    have ih' := ih (i + 1) (uR M' 147 i (some (148 + 3 * i))) (kc + 1 + 2) (ks + 15 + 31) (by omega) ?_ (by omega) (by omega)
    · refine r_X2_init (fun n => n == 36 || n == 12 || n == 54) 60 ?_
      simp only [cd_X2_init, cf_X2_init, wp, wq, wpI, cdF, w_CI, w_CL, w_CN, w_LI, w_LL, w_LA, w_SI, w_SL, w_SA, w_INC, w_II, w_IId, w_LLb, w_LLd, w_LS, w_I1, w_L1, w_I2L, w_L2I, w_CMP, w_DUP, w_POP, w_DUP2, w_IF, w_IC, w_GO, w_NUL, w_ACN, prs, w_GF, w_PF, w_GS, w_IAL, w_LEN, w_LAL, w_ZAL, w_AAL, w_IAS, w_LAS, w_ZAS, w_AAS, w_RI, w_RL, w_RA, w_NEW, w_NA, w_MNA, w_OI, w_THR, w_CV, w_CS, w_CN9, w_CI9, w_MX, w_cont, lget, sto1, sto2, wideV, vo, vo_rv, isR, isR_rv, rv, fget, fput, cats, Value.category, List.headD_cons, List.getD_cons_zero, List.getD_cons_succ, List.drop_succ_cons, List.drop_zero, List.take_succ_cons, List.take_zero, List.reverse_cons, List.reverse_nil, List.nil_append, List.cons_append, List.length_cons, List.length_nil, cond_true, cond_false, and_true, true_and, Nat.zero_add, Nat.add_zero, Nat.reduceAdd, Nat.reduceLT, Nat.reduceLeDiff, Nat.reduceEqDiff, Nat.reduceBEq, Nat.reduceSub, ↓reduceIte, Int32.reduceOfNat, Int64.reduceOfNat, reduceCtorEq, Nat.le_refl, Nat.zero_le, Bool.false_eq_true, beq_self_eq_true, Fin.isValue, Fin.val_zero, Fin.val_one, Fin.reduceFinMk, Fin.val_two, Nat.reduceMod, Bool.or_false, Bool.or_true, Bool.true_or, Bool.false_or, not_true_eq_false, not_false_eq_true, true_or, or_true, implies_true, false_implies, true_implies, Int32.reduceLT, Int32.reduceLE, ↓w_TAB3, ↓w_TAB4, ↓w_TAB5, ↓w_TAB7, ↓w_TAB10, ↓w_LK2, ↓w_LK6, false_and, and_false, i1z, i2z, iz1, im0, im1, l0z, k7, kn, ci, nI_1, Option.some.injEq, Sum.inl.injEq, Prod.mk.injEq, exists_eq_left, exists_eq_left']
      exact ⟨7, 60, _, ⟨rfl, kn, k7, by decide⟩, vp_in_nI (by omega) (by omega), ih'⟩
    · refine Ini.cg (Ini_R (a := 147) (j := i) (r := some (148 + 3 * i)) h' (by omega)) (fun a j => rfl) (fun a j => ?_)
      simp only [up2, fC]
      (repeat' split) <;> first | rfl | (exfalso; omega) | (congr 1; omega) | skip
def fD (i : Nat) (gR : Nat → Nat → Option Nat) (a j : Nat) : Option Nat := if a = 333 ∧ j < i then some (335 + 4 * j) else if a = 334 ∧ j < i then some (337 + 4 * j) else if 335 ≤ a ∧ a < 335 + 4 * i ∧ (a - 335) % 2 = 0 ∧ j = 0 then some (a + 1) else gR a j
theorem lay_b (hi : i < 24) : layF (335 + 4 * i) = some (.inr 3) ∧ layF (335 + 4 * i + 1) = some (.inl (.int, 162)) ∧ layF (335 + 4 * i + 1 + 1) = some (.inr 3) ∧ layF (335 + 4 * i + 1 + 1 + 1) = some (.inl (.int, 162)) := by
  have : ∀ i : Fin 24, layF (335 + 4 * i.val) = some (.inr 3) ∧ layF (335 + 4 * i.val + 1) = some (.inl (.int, 162)) ∧ layF (335 + 4 * i.val + 1 + 1) = some (.inr 3) ∧ layF (335 + 4 * i.val + 1 + 1 + 1) = some (.inl (.int, 162)) := by decide
  exact this ⟨i, hi⟩
theorem lp_X1 (h7 : gR 328 4 = some 333) (h8 : gR 328 5 = some 334) (hQ : ∀ M', Ini b 431 gI (fD 24 gR) M' → Q none M') : ∀ (r i : Nat) (M : Mem) (kc ks : Nat), r + i = 24 → Ini b (335 + 4 * i) gI (fD i gR) M → kc = 6 + 4 * i → ks = 144 + 804 * i → Go G (MT 5) Q X 56 [some (.ref 328), some (.int (nI i))] [] M kc ks := by
  intro r
  induction r with
  | zero =>
    intro i M kc ks hr h hkc hks
    have hi : i = 24 := by omega
    subst hi
    refine r_X1_init (fun n => n == 56 || n == 77 || n == 93) 40 ?_
    simp only [cd_X1_init, cf_X1_init, wp, wq, wpI, cdF, w_CI, w_CL, w_CN, w_LI, w_LL, w_LA, w_SI, w_SL, w_SA, w_INC, w_II, w_IId, w_LLb, w_LLd, w_LS, w_I1, w_L1, w_I2L, w_L2I, w_CMP, w_DUP, w_POP, w_DUP2, w_IF, w_IC, w_GO, w_NUL, w_ACN, prs, w_GF, w_PF, w_GS, w_IAL, w_LEN, w_LAL, w_ZAL, w_AAL, w_IAS, w_LAS, w_ZAS, w_AAS, w_RI, w_RL, w_RA, w_NEW, w_NA, w_MNA, w_OI, w_THR, w_CV, w_CS, w_CN9, w_CI9, w_MX, w_cont, lget, sto1, sto2, wideV, vo, vo_rv, isR, isR_rv, rv, fget, fput, cats, Value.category, List.headD_cons, List.getD_cons_zero, List.getD_cons_succ, List.drop_succ_cons, List.drop_zero, List.take_succ_cons, List.take_zero, List.reverse_cons, List.reverse_nil, List.nil_append, List.cons_append, List.length_cons, List.length_nil, cond_true, cond_false, and_true, true_and, Nat.zero_add, Nat.add_zero, Nat.reduceAdd, Nat.reduceLT, Nat.reduceLeDiff, Nat.reduceEqDiff, Nat.reduceBEq, Nat.reduceSub, ↓reduceIte, Int32.reduceOfNat, Int64.reduceOfNat, reduceCtorEq, Nat.le_refl, Nat.zero_le, Bool.false_eq_true, beq_self_eq_true, Fin.isValue, Fin.val_zero, Fin.val_one, Fin.reduceFinMk, Fin.val_two, Nat.reduceMod, Bool.or_false, Bool.or_true, Bool.true_or, Bool.false_or, not_true_eq_false, not_false_eq_true, true_or, or_true, implies_true, false_implies, true_implies, Int32.reduceLT, Int32.reduceLE, ↓w_TAB3, ↓w_TAB4, ↓w_TAB5, ↓w_TAB7, ↓w_TAB10, ↓w_LK2, ↓w_LK6, false_and, and_false, i1z, i2z, iz1, im0, im1, l0z]
    refine ⟨fun _ => hQ M h, fun q => absurd (nI_le (Nat.le_refl 24) (by omega)) q⟩
  | succ r ih =>
    intro i M kc ks hr h hkc hks
    have ti := nI_toInt (n := i) (by omega)
    have ci := nI_clamp (n := i) (by omega)
    obtain ⟨la, lb, lc, ld⟩ := lay_b (i := i) (by omega)
    have k1 := h.hk (a := 328) (e := .inr 1) (by omega) (by decide)
    have hr1 : mR M 328 4 = some 333 := by rw [h.mr]; unfold fD; rw [if_neg (by omega), if_neg (by omega), if_neg (by omega)]; exact h7
    have r1 := Ini_N h la
    have q1 : kc + 1 ≤ 102 := by omega
    have q2 : ks + 2 ≤ 19440 := by omega
    have q3 : kc + 1 + 1 ≤ 102 := by omega
    have q4 : ks + 2 + 400 ≤ 19440 := by omega
    have q5 : kc + 1 + 1 + 1 ≤ 102 := by omega
    have q6 : ks + 2 + 400 + 2 ≤ 19440 := by omega
    have q7 : kc + 1 + 1 + 1 + 1 ≤ 102 := by omega
    have q8 : ks + 2 + 400 + 2 + 400 ≤ 19440 := by omega
    have hv := vp_in_nI (n := i) (N := 24) (by omega) (by omega)
    refine r_X1_init (fun n => n == 56 || n == 77 || n == 93) 60 ?_
    simp only [cd_X1_init, cf_X1_init, wp, wq, wpI, cdF, w_CI, w_CL, w_CN, w_LI, w_LL, w_LA, w_SI, w_SL, w_SA, w_INC, w_II, w_IId, w_LLb, w_LLd, w_LS, w_I1, w_L1, w_I2L, w_L2I, w_CMP, w_DUP, w_POP, w_DUP2, w_IF, w_IC, w_GO, w_NUL, w_ACN, prs, w_GF, w_PF, w_GS, w_IAL, w_LEN, w_LAL, w_ZAL, w_AAL, w_IAS, w_LAS, w_ZAS, w_AAS, w_RI, w_RL, w_RA, w_NEW, w_NA, w_MNA, w_OI, w_THR, w_CV, w_CS, w_CN9, w_CI9, w_MX, w_cont, lget, sto1, sto2, wideV, vo, vo_rv, isR, isR_rv, rv, fget, fput, cats, Value.category, List.headD_cons, List.getD_cons_zero, List.getD_cons_succ, List.drop_succ_cons, List.drop_zero, List.take_succ_cons, List.take_zero, List.reverse_cons, List.reverse_nil, List.nil_append, List.cons_append, List.length_cons, List.length_nil, cond_true, cond_false, and_true, true_and, Nat.zero_add, Nat.add_zero, Nat.reduceAdd, Nat.reduceLT, Nat.reduceLeDiff, Nat.reduceEqDiff, Nat.reduceBEq, Nat.reduceSub, ↓reduceIte, Int32.reduceOfNat, Int64.reduceOfNat, reduceCtorEq, Nat.le_refl, Nat.zero_le, Bool.false_eq_true, beq_self_eq_true, Fin.isValue, Fin.val_zero, Fin.val_one, Fin.reduceFinMk, Fin.val_two, Nat.reduceMod, Bool.or_false, Bool.or_true, Bool.true_or, Bool.false_or, not_true_eq_false, not_false_eq_true, true_or, or_true, implies_true, false_implies, true_implies, Int32.reduceLT, Int32.reduceLE, ↓w_TAB3, ↓w_TAB4, ↓w_TAB5, ↓w_TAB7, ↓w_TAB10, ↓w_LK2, ↓w_LK6, false_and, and_false, i1z, i2z, iz1, im0, im1, l0z, k1, hr1, h.mz, h.mn, q1, q2, q3, q4]
    refine and_ii (fun q => ?_) (fun _ => ?_)
    · exfalso; (simp only [i_lt, i_le, i_eq, l_lt, l_le, l_eq, Int32.toInt_toInt64, Int32.reduceToInt, Int64.reduceToInt, ne_eq, Classical.not_not] at *; omega)
    refine n_X3 r1 (by omega) la (k := 162) rfl (by omega) lb (fun M' h' => ⟨rfl, ?_⟩)
    have k7 := h'.hk (a := 333) (e := .inl (.object RX3, 24)) (by omega) (by decide)
    have kn := h'.hk (a := 335 + 4 * i) (e := .inr 3) (by omega) la
    have r2 := Ini_R (a := 333) (j := i) (r := some (335 + 4 * i)) h' (by omega)
    have hr2 : mR (uR M' 333 i (some (335 + 4 * i))) 328 5 = some 334 := by rw [r2.mr]; simp only [up2, fD]; rw [if_neg (by omega), if_neg (by omega), if_neg (by omega), if_neg (by omega), if_neg (by omega)]; exact h8
    have k2 := r2.hk (a := 328) (e := .inr 1) (by omega) (by decide)
    refine r_X1_init (fun n => n == 56 || n == 78 || n == 77 || n == 93) 60 ?_
    simp only [cd_X1_init, cf_X1_init, wp, wq, wpI, cdF, w_CI, w_CL, w_CN, w_LI, w_LL, w_LA, w_SI, w_SL, w_SA, w_INC, w_II, w_IId, w_LLb, w_LLd, w_LS, w_I1, w_L1, w_I2L, w_L2I, w_CMP, w_DUP, w_POP, w_DUP2, w_IF, w_IC, w_GO, w_NUL, w_ACN, prs, w_GF, w_PF, w_GS, w_IAL, w_LEN, w_LAL, w_ZAL, w_AAL, w_IAS, w_LAS, w_ZAS, w_AAS, w_RI, w_RL, w_RA, w_NEW, w_NA, w_MNA, w_OI, w_THR, w_CV, w_CS, w_CN9, w_CI9, w_MX, w_cont, lget, sto1, sto2, wideV, vo, vo_rv, isR, isR_rv, rv, fget, fput, cats, Value.category, List.headD_cons, List.getD_cons_zero, List.getD_cons_succ, List.drop_succ_cons, List.drop_zero, List.take_succ_cons, List.take_zero, List.reverse_cons, List.reverse_nil, List.nil_append, List.cons_append, List.length_cons, List.length_nil, cond_true, cond_false, and_true, true_and, Nat.zero_add, Nat.add_zero, Nat.reduceAdd, Nat.reduceLT, Nat.reduceLeDiff, Nat.reduceEqDiff, Nat.reduceBEq, Nat.reduceSub, ↓reduceIte, Int32.reduceOfNat, Int64.reduceOfNat, reduceCtorEq, Nat.le_refl, Nat.zero_le, Bool.false_eq_true, beq_self_eq_true, Fin.isValue, Fin.val_zero, Fin.val_one, Fin.reduceFinMk, Fin.val_two, Nat.reduceMod, Bool.or_false, Bool.or_true, Bool.true_or, Bool.false_or, not_true_eq_false, not_false_eq_true, true_or, or_true, implies_true, false_implies, true_implies, Int32.reduceLT, Int32.reduceLE, ↓w_TAB3, ↓w_TAB4, ↓w_TAB5, ↓w_TAB7, ↓w_TAB10, ↓w_LK2, ↓w_LK6, false_and, and_false, i1z, i2z, iz1, im0, im1, l0z, k7, kn, ci, nI_1, q3, q4, q5, q6, q7, q8]
    refine ⟨3, 24, _, ⟨rfl, kn, k7, by decide⟩, hv, ?_⟩
    generalize uR M' 333 i (some (335 + 4 * i)) = M2 at *
    have r3 := Ini_N r2 lc
    refine r_X1_init (fun n => n == 56 || n == 77 || n == 93) 60 ?_
    simp only [cd_X1_init, cf_X1_init, wp, wq, wpI, cdF, w_CI, w_CL, w_CN, w_LI, w_LL, w_LA, w_SI, w_SL, w_SA, w_INC, w_II, w_IId, w_LLb, w_LLd, w_LS, w_I1, w_L1, w_I2L, w_L2I, w_CMP, w_DUP, w_POP, w_DUP2, w_IF, w_IC, w_GO, w_NUL, w_ACN, prs, w_GF, w_PF, w_GS, w_IAL, w_LEN, w_LAL, w_ZAL, w_AAL, w_IAS, w_LAS, w_ZAS, w_AAS, w_RI, w_RL, w_RA, w_NEW, w_NA, w_MNA, w_OI, w_THR, w_CV, w_CS, w_CN9, w_CI9, w_MX, w_cont, lget, sto1, sto2, wideV, vo, vo_rv, isR, isR_rv, rv, fget, fput, cats, Value.category, List.headD_cons, List.getD_cons_zero, List.getD_cons_succ, List.drop_succ_cons, List.drop_zero, List.take_succ_cons, List.take_zero, List.reverse_cons, List.reverse_nil, List.nil_append, List.cons_append, List.length_cons, List.length_nil, cond_true, cond_false, and_true, true_and, Nat.zero_add, Nat.add_zero, Nat.reduceAdd, Nat.reduceLT, Nat.reduceLeDiff, Nat.reduceEqDiff, Nat.reduceBEq, Nat.reduceSub, ↓reduceIte, Int32.reduceOfNat, Int64.reduceOfNat, reduceCtorEq, Nat.le_refl, Nat.zero_le, Bool.false_eq_true, beq_self_eq_true, Fin.isValue, Fin.val_zero, Fin.val_one, Fin.reduceFinMk, Fin.val_two, Nat.reduceMod, Bool.or_false, Bool.or_true, Bool.true_or, Bool.false_or, not_true_eq_false, not_false_eq_true, true_or, or_true, implies_true, false_implies, true_implies, Int32.reduceLT, Int32.reduceLE, ↓w_TAB3, ↓w_TAB4, ↓w_TAB5, ↓w_TAB7, ↓w_TAB10, ↓w_LK2, ↓w_LK6, false_and, and_false, i1z, i2z, iz1, im0, im1, l0z, k2, hr2, r2.mz, r2.mn, q5, q6, q7, q8]
    refine n_X3 r3 (by omega) lc (k := 162) rfl (by omega) ld (fun M4 h4 => ⟨rfl, ?_⟩)
    have k7' := h4.hk (a := 334) (e := .inl (.object RX3, 24)) (by omega) (by decide)
    have kn' := h4.hk (a := 335 + 4 * i + 1 + 1) (e := .inr 3) (by omega) lc
    have ih' := ih (i + 1) (uR M4 334 i (some (335 + 4 * i + 1 + 1))) (kc + 1 + 1 + 1 + 1) (ks + 2 + 400 + 2 + 400) (by omega) ?_ (by omega) (by omega)
    · refine r_X1_init (fun n => n == 56 || n == 77 || n == 93) 60 ?_
      simp only [cd_X1_init, cf_X1_init, wp, wq, wpI, cdF, w_CI, w_CL, w_CN, w_LI, w_LL, w_LA, w_SI, w_SL, w_SA, w_INC, w_II, w_IId, w_LLb, w_LLd, w_LS, w_I1, w_L1, w_I2L, w_L2I, w_CMP, w_DUP, w_POP, w_DUP2, w_IF, w_IC, w_GO, w_NUL, w_ACN, prs, w_GF, w_PF, w_GS, w_IAL, w_LEN, w_LAL, w_ZAL, w_AAL, w_IAS, w_LAS, w_ZAS, w_AAS, w_RI, w_RL, w_RA, w_NEW, w_NA, w_MNA, w_OI, w_THR, w_CV, w_CS, w_CN9, w_CI9, w_MX, w_cont, lget, sto1, sto2, wideV, vo, vo_rv, isR, isR_rv, rv, fget, fput, cats, Value.category, List.headD_cons, List.getD_cons_zero, List.getD_cons_succ, List.drop_succ_cons, List.drop_zero, List.take_succ_cons, List.take_zero, List.reverse_cons, List.reverse_nil, List.nil_append, List.cons_append, List.length_cons, List.length_nil, cond_true, cond_false, and_true, true_and, Nat.zero_add, Nat.add_zero, Nat.reduceAdd, Nat.reduceLT, Nat.reduceLeDiff, Nat.reduceEqDiff, Nat.reduceBEq, Nat.reduceSub, ↓reduceIte, Int32.reduceOfNat, Int64.reduceOfNat, reduceCtorEq, Nat.le_refl, Nat.zero_le, Bool.false_eq_true, beq_self_eq_true, Fin.isValue, Fin.val_zero, Fin.val_one, Fin.reduceFinMk, Fin.val_two, Nat.reduceMod, Bool.or_false, Bool.or_true, Bool.true_or, Bool.false_or, not_true_eq_false, not_false_eq_true, true_or, or_true, implies_true, false_implies, true_implies, Int32.reduceLT, Int32.reduceLE, ↓w_TAB3, ↓w_TAB4, ↓w_TAB5, ↓w_TAB7, ↓w_TAB10, ↓w_LK2, ↓w_LK6, false_and, and_false, i1z, i2z, iz1, im0, im1, l0z, k7', kn', ci, nI_1]
      exact ⟨3, 24, _, ⟨rfl, kn', k7', by decide⟩, hv, ih'⟩
    · refine Ini.cg (Ini_R (a := 334) (j := i) (r := some (335 + 4 * i + 1 + 1)) h4 (by omega)) (fun a j => rfl) (fun a j => ?_)
      simp only [up2, fD]
      (repeat' split) <;> first | rfl | (exfalso; omega) | (congr 1; omega) | skip
/-! the whole constructors of these -/
def rTb (gR : Nat → Nat → Option Nat) : Nat → Nat → Option Nat := up2 (up2 (up2 (up2 (up2 (up2 (up2 (up2 (up2 gR 1 0 (some 2)) 1 2 (some 3)) 1 4 (some 4)) 1 5 (some 5)) 1 6 (some 6)) 1 8 (some 7)) 1 10 (some 8)) 1 11 (some 9)) 1 12 (some 10)
def iT10 (gI : Nat → Nat → Int32) : Nat → Nat → Int32 := up2 (up2 (up2 (up2 gI 1 14 100) 1 15 50) 1 16 200) 1 17 5
set_option maxRecDepth 20000 in
theorem n_X10 (h : Ini b 2 gI gR M) (hQ : ∀ M', Ini b 139 (fA 64 (iT10 gI)) (fB 64 (rTb gR)) M' → Q none M') : Ct G (MT 110) [.ref 1] M Q X := by
  have r1 := Ini_R (r := some 2) (a := 1) (j := 0) (Ini_N (e := .inl (.int, 6)) h (by decide)) (by omega)
  have r2 := Ini_R (r := some 3) (a := 1) (j := 2) (Ini_N (e := .inl (.int, 6)) r1 (by decide)) (by omega)
  have r3 := Ini_R (r := some 4) (a := 1) (j := 4) (Ini_N (e := .inl (.int, 40)) r2 (by decide)) (by omega)
  have r4 := Ini_R (r := some 5) (a := 1) (j := 5) (Ini_N (e := .inl (.int, 40)) r3 (by decide)) (by omega)
  have r5 := Ini_R (r := some 6) (a := 1) (j := 6) (Ini_N (e := .inl (.int, 40)) r4 (by decide)) (by omega)
  have r6 := Ini_R (r := some 7) (a := 1) (j := 8) (Ini_N (e := .inl (.object RX0, 64)) r5 (by decide)) (by omega)
  have r7 := Ini_R (r := some 8) (a := 1) (j := 10) (Ini_N (e := .inl (.long, 100)) r6 (by decide)) (by omega)
  have r8 := Ini_R (r := some 9) (a := 1) (j := 11) (Ini_N (e := .inl (.int, 100)) r7 (by decide)) (by omega)
  have r9 := Ini_R (r := some 10) (a := 1) (j := 12) (Ini_N (e := .inl (.boolean, 100)) r8 (by decide)) (by omega)
  have k1 := hk_N (e := .inl (.int, 6)) (a := 1) (e' := .inr 10) h (by decide) (by omega) (by decide)
  have k2 := hk_N (e := .inl (.int, 6)) (a := 1) (e' := .inr 10) r1 (by decide) (by omega) (by decide)
  have k3 := hk_N (e := .inl (.int, 40)) (a := 1) (e' := .inr 10) r2 (by decide) (by omega) (by decide)
  have k4 := hk_N (e := .inl (.int, 40)) (a := 1) (e' := .inr 10) r3 (by decide) (by omega) (by decide)
  have k5 := hk_N (e := .inl (.int, 40)) (a := 1) (e' := .inr 10) r4 (by decide) (by omega) (by decide)
  have k6 := hk_N (e := .inl (.object RX0, 64)) (a := 1) (e' := .inr 10) r5 (by decide) (by omega) (by decide)
  have k7 := hk_N (e := .inl (.long, 100)) (a := 1) (e' := .inr 10) r6 (by decide) (by omega) (by decide)
  have k8 := hk_N (e := .inl (.int, 100)) (a := 1) (e' := .inr 10) r7 (by decide) (by omega) (by decide)
  have k9 := hk_N (e := .inl (.boolean, 100)) (a := 1) (e' := .inr 10) r8 (by decide) (by omega) (by decide)
  have c1 : (6 : Int32).toNatClampNeg = 6 := rfl
  have c2 : (40 : Int32).toNatClampNeg = 40 := rfl
  have c3 : (64 : Int32).toNatClampNeg = 64 := rfl
  have c4 : (100 : Int32).toNatClampNeg = 100 := rfl
  have r10 := Ini_I (a := 1) (j := 17) (v := 5) (u := 5) (Ini_I (a := 1) (j := 16) (v := 200) (u := 200) (Ini_I (a := 1) (j := 15) (v := 50) (u := 50) (Ini_I (a := 1) (j := 14) (v := 100) (u := 100) r9 (by omega) rfl) (by omega) rfl) (by omega) rfl) (by omega) rfl
  refine Ct.go (L0 := [some (.ref 1), none]) (by decide +kernel) rfl rfl ?_
  refine r_X10_init (fun n => n == 103 || n == 122) 80 ?_
  simp only [cd_X10_init, cf_X10_init, wp, wq, wpI, cdF, w_CI, w_CL, w_CN, w_LI, w_LL, w_LA, w_SI, w_SL, w_SA, w_INC, w_II, w_IId, w_LLb, w_LLd, w_LS, w_I1, w_L1, w_I2L, w_L2I, w_CMP, w_DUP, w_POP, w_DUP2, w_IF, w_IC, w_GO, w_NUL, w_ACN, prs, w_GF, w_PF, w_GS, w_IAL, w_LEN, w_LAL, w_ZAL, w_AAL, w_IAS, w_LAS, w_ZAS, w_AAS, w_RI, w_RL, w_RA, w_NEW, w_NA, w_MNA, w_OI, w_THR, w_CV, w_CS, w_CN9, w_CI9, w_MX, w_cont, lget, sto1, sto2, wideV, vo, vo_rv, isR, isR_rv, rv, fget, fput, cats, Value.category, List.headD_cons, List.getD_cons_zero, List.getD_cons_succ, List.drop_succ_cons, List.drop_zero, List.take_succ_cons, List.take_zero, List.reverse_cons, List.reverse_nil, List.nil_append, List.cons_append, List.length_cons, List.length_nil, cond_true, cond_false, and_true, true_and, Nat.zero_add, Nat.add_zero, Nat.reduceAdd, Nat.reduceLT, Nat.reduceLeDiff, Nat.reduceEqDiff, Nat.reduceBEq, Nat.reduceSub, ↓reduceIte, Int32.reduceOfNat, Int64.reduceOfNat, reduceCtorEq, Nat.le_refl, Nat.zero_le, Bool.false_eq_true, beq_self_eq_true, Fin.isValue, Fin.val_zero, Fin.val_one, Fin.reduceFinMk, Fin.val_two, Nat.reduceMod, Bool.or_false, Bool.or_true, Bool.true_or, Bool.false_or, not_true_eq_false, not_false_eq_true, true_or, or_true, implies_true, false_implies, true_implies, Int32.reduceLT, Int32.reduceLE, ↓w_TAB3, ↓w_TAB4, ↓w_TAB5, ↓w_TAB7, ↓w_TAB10, ↓w_LK2, ↓w_LK6, false_and, and_false, i1z, i2z, iz1, im0, im1, l0z, an0, an3, an7, ty_i, ty_l, ty_b, h.mz, h.mn, c1, c2, c3, c4, k1, k2, k3, k4, k5, k6, k7, k8, k9, hasK_uR, hasK_uI, mZ_uR, mZ_uN, mN_uR, mN_uN]
  refine lp_X10 (gI := iT10 gI) (gR := rTb gR) rfl hQ 64 0 _ 9 496 (by omega) ?_ rfl rfl
  refine Ini.cg r10 (fun a j => ?_) (fun a j => ?_)
  · unfold fA
    rw [if_neg (by omega)]; rfl
  · unfold fB
    rw [if_neg (by omega), if_neg (by omega)]; rfl
def rB (gR : Nat → Nat → Option Nat) : Nat → Nat → Option Nat := up2 (up2 (up2 (up2 (up2 (up2 (up2 (up2 (up2 gR 140 0 (some 141)) 140 1 (some 142)) 140 2 (some 143)) 140 3 (some 144)) 140 4 (some 145)) 140 5 (some 146)) 139 1 (some 140)) 139 2 (some 147)) 139 0 (some 1)
set_option maxRecDepth 20000 in
theorem n_X2 (h : Ini b 140 gI gR M) (hQ : ∀ M', Ini b 328 (up2 gI 139 4 1) (fC 60 (rB gR)) M' → Q none M') : Ct G (MT 9) [.ref 139, .ref 1] M Q X := by
  have r0 := Ini_N (e := .inr 8) h (by decide)
  refine Ct.go (L0 := [some (.ref 139), some (.ref 1), none]) (by decide +kernel) rfl rfl ?_
  refine r_X2_init (fun n => n == 36 || n == 12 || n == 54) 80 ?_
  simp only [cd_X2_init, cf_X2_init, wp, wq, wpI, cdF, w_CI, w_CL, w_CN, w_LI, w_LL, w_LA, w_SI, w_SL, w_SA, w_INC, w_II, w_IId, w_LLb, w_LLd, w_LS, w_I1, w_L1, w_I2L, w_L2I, w_CMP, w_DUP, w_POP, w_DUP2, w_IF, w_IC, w_GO, w_NUL, w_ACN, prs, w_GF, w_PF, w_GS, w_IAL, w_LEN, w_LAL, w_ZAL, w_AAL, w_IAS, w_LAS, w_ZAS, w_AAS, w_RI, w_RL, w_RA, w_NEW, w_NA, w_MNA, w_OI, w_THR, w_CV, w_CS, w_CN9, w_CI9, w_MX, w_cont, lget, sto1, sto2, wideV, vo, vo_rv, isR, isR_rv, rv, fget, fput, cats, Value.category, List.headD_cons, List.getD_cons_zero, List.getD_cons_succ, List.drop_succ_cons, List.drop_zero, List.take_succ_cons, List.take_zero, List.reverse_cons, List.reverse_nil, List.nil_append, List.cons_append, List.length_cons, List.length_nil, cond_true, cond_false, and_true, true_and, Nat.zero_add, Nat.add_zero, Nat.reduceAdd, Nat.reduceLT, Nat.reduceLeDiff, Nat.reduceEqDiff, Nat.reduceBEq, Nat.reduceSub, ↓reduceIte, Int32.reduceOfNat, Int64.reduceOfNat, reduceCtorEq, Nat.le_refl, Nat.zero_le, Bool.false_eq_true, beq_self_eq_true, Fin.isValue, Fin.val_zero, Fin.val_one, Fin.reduceFinMk, Fin.val_two, Nat.reduceMod, Bool.or_false, Bool.or_true, Bool.true_or, Bool.false_or, not_true_eq_false, not_false_eq_true, true_or, or_true, implies_true, false_implies, true_implies, Int32.reduceLT, Int32.reduceLE, ↓w_TAB3, ↓w_TAB4, ↓w_TAB5, ↓w_TAB7, ↓w_TAB10, ↓w_LK2, ↓w_LK6, false_and, and_false, i1z, i2z, iz1, im0, im1, l0z, h.mz, h.mn]
  refine n_X8 r0 (by omega) (by decide) (by decide) (by decide) (by decide) (by decide) (by decide) (by decide) (fun M1 h1 => ⟨rfl, ?_⟩)
  have k1 := h1.hk (a := 139) (e := .inr 2) (by omega) (by decide)
  have r1 := Ini_R (r := some 140) (a := 139) (j := 1) h1 (by omega)
  have r2 := Ini_R (r := some 147) (a := 139) (j := 2) (Ini_N (e := .inl (.object RX7, 60)) r1 (by decide)) (by omega)
  have k2 := hk_N (e := .inl (.object RX7, 60)) (a := 139) (e' := .inr 2) r1 (by decide) (by omega) (by decide)
  have r3 := Ini_R (r := some 1) (a := 139) (j := 0) (Ini_I (a := 139) (j := 4) (v := 1) (u := 1) r2 (by omega) rfl) (by omega)
  have c1 : (60 : Int32).toNatClampNeg = 60 := rfl
  refine r_X2_init (fun n => n == 36 || n == 12 || n == 54) 80 ?_
  simp only [cd_X2_init, cf_X2_init, wp, wq, wpI, cdF, w_CI, w_CL, w_CN, w_LI, w_LL, w_LA, w_SI, w_SL, w_SA, w_INC, w_II, w_IId, w_LLb, w_LLd, w_LS, w_I1, w_L1, w_I2L, w_L2I, w_CMP, w_DUP, w_POP, w_DUP2, w_IF, w_IC, w_GO, w_NUL, w_ACN, prs, w_GF, w_PF, w_GS, w_IAL, w_LEN, w_LAL, w_ZAL, w_AAL, w_IAS, w_LAS, w_ZAS, w_AAS, w_RI, w_RL, w_RA, w_NEW, w_NA, w_MNA, w_OI, w_THR, w_CV, w_CS, w_CN9, w_CI9, w_MX, w_cont, lget, sto1, sto2, wideV, vo, vo_rv, isR, isR_rv, rv, fget, fput, cats, Value.category, List.headD_cons, List.getD_cons_zero, List.getD_cons_succ, List.drop_succ_cons, List.drop_zero, List.take_succ_cons, List.take_zero, List.reverse_cons, List.reverse_nil, List.nil_append, List.cons_append, List.length_cons, List.length_nil, cond_true, cond_false, and_true, true_and, Nat.zero_add, Nat.add_zero, Nat.reduceAdd, Nat.reduceLT, Nat.reduceLeDiff, Nat.reduceEqDiff, Nat.reduceBEq, Nat.reduceSub, ↓reduceIte, Int32.reduceOfNat, Int64.reduceOfNat, reduceCtorEq, Nat.le_refl, Nat.zero_le, Bool.false_eq_true, beq_self_eq_true, Fin.isValue, Fin.val_zero, Fin.val_one, Fin.reduceFinMk, Fin.val_two, Nat.reduceMod, Bool.or_false, Bool.or_true, Bool.true_or, Bool.false_or, not_true_eq_false, not_false_eq_true, true_or, or_true, implies_true, false_implies, true_implies, Int32.reduceLT, Int32.reduceLE, ↓w_TAB3, ↓w_TAB4, ↓w_TAB5, ↓w_TAB7, ↓w_TAB10, ↓w_LK2, ↓w_LK6, false_and, and_false, i1z, i2z, iz1, im0, im1, l0z, an0, an3, an7, c1, h1.mz, h1.mn, k1, k2, hasK_uR, hasK_uI, mZ_uR, mZ_uN, mN_uR, mN_uN]
  refine lp_X2 (gI := up2 gI 139 4 1) (gR := rB gR) rfl hQ 60 0 _ 8 104 (by omega) ?_ rfl rfl
  refine Ini.cg r3 (fun a j => rfl) (fun a j => ?_)
  unfold fC
  rw [if_neg (by omega), if_neg (by omega), if_neg (by omega)]; rfl
def rA1 (gR : Nat → Nat → Option Nat) : Nat → Nat → Option Nat := up2 (up2 (up2 (up2 (up2 (up2 gR 328 0 (some 329)) 328 1 (some 330)) 328 2 (some 331)) 328 3 (some 332)) 328 4 (some 333)) 328 5 (some 334)
set_option maxRecDepth 20000 in
theorem n_X1 (h : Ini b 329 gI gR M) (hQ : ∀ M', Ini b 431 gI (fD 24 (rA1 gR)) M' → Q none M') : Ct G (MT 5) [.ref 328] M Q X := by
  have r1 := Ini_R (r := some 329) (a := 328) (j := 0) (Ini_N (e := .inl (.int, 24)) h (by decide)) (by omega)
  have r2 := Ini_R (r := some 330) (a := 328) (j := 1) (Ini_N (e := .inl (.int, 24)) r1 (by decide)) (by omega)
  have r3 := Ini_R (r := some 331) (a := 328) (j := 2) (Ini_N (e := .inl (.int, 24)) r2 (by decide)) (by omega)
  have r4 := Ini_R (r := some 332) (a := 328) (j := 3) (Ini_N (e := .inl (.int, 24)) r3 (by decide)) (by omega)
  have r5 := Ini_R (r := some 333) (a := 328) (j := 4) (Ini_N (e := .inl (.object RX3, 24)) r4 (by decide)) (by omega)
  have r6 := Ini_R (r := some 334) (a := 328) (j := 5) (Ini_N (e := .inl (.object RX3, 24)) r5 (by decide)) (by omega)
  have k1 := hk_N (e := .inl (.int, 24)) (a := 328) (e' := .inr 1) h (by decide) (by omega) (by decide)
  have k2 := hk_N (e := .inl (.int, 24)) (a := 328) (e' := .inr 1) r1 (by decide) (by omega) (by decide)
  have k3 := hk_N (e := .inl (.int, 24)) (a := 328) (e' := .inr 1) r2 (by decide) (by omega) (by decide)
  have k4 := hk_N (e := .inl (.int, 24)) (a := 328) (e' := .inr 1) r3 (by decide) (by omega) (by decide)
  have k5 := hk_N (e := .inl (.object RX3, 24)) (a := 328) (e' := .inr 1) r4 (by decide) (by omega) (by decide)
  have k6 := hk_N (e := .inl (.object RX3, 24)) (a := 328) (e' := .inr 1) r5 (by decide) (by omega) (by decide)
  have c1 : (24 : Int32).toNatClampNeg = 24 := rfl
  refine Ct.go (L0 := [some (.ref 328), none]) (by decide +kernel) rfl rfl ?_
  refine r_X1_init (fun n => n == 56 || n == 77 || n == 93) 80 ?_
  simp only [cd_X1_init, cf_X1_init, wp, wq, wpI, cdF, w_CI, w_CL, w_CN, w_LI, w_LL, w_LA, w_SI, w_SL, w_SA, w_INC, w_II, w_IId, w_LLb, w_LLd, w_LS, w_I1, w_L1, w_I2L, w_L2I, w_CMP, w_DUP, w_POP, w_DUP2, w_IF, w_IC, w_GO, w_NUL, w_ACN, prs, w_GF, w_PF, w_GS, w_IAL, w_LEN, w_LAL, w_ZAL, w_AAL, w_IAS, w_LAS, w_ZAS, w_AAS, w_RI, w_RL, w_RA, w_NEW, w_NA, w_MNA, w_OI, w_THR, w_CV, w_CS, w_CN9, w_CI9, w_MX, w_cont, lget, sto1, sto2, wideV, vo, vo_rv, isR, isR_rv, rv, fget, fput, cats, Value.category, List.headD_cons, List.getD_cons_zero, List.getD_cons_succ, List.drop_succ_cons, List.drop_zero, List.take_succ_cons, List.take_zero, List.reverse_cons, List.reverse_nil, List.nil_append, List.cons_append, List.length_cons, List.length_nil, cond_true, cond_false, and_true, true_and, Nat.zero_add, Nat.add_zero, Nat.reduceAdd, Nat.reduceLT, Nat.reduceLeDiff, Nat.reduceEqDiff, Nat.reduceBEq, Nat.reduceSub, ↓reduceIte, Int32.reduceOfNat, Int64.reduceOfNat, reduceCtorEq, Nat.le_refl, Nat.zero_le, Bool.false_eq_true, beq_self_eq_true, Fin.isValue, Fin.val_zero, Fin.val_one, Fin.reduceFinMk, Fin.val_two, Nat.reduceMod, Bool.or_false, Bool.or_true, Bool.true_or, Bool.false_or, not_true_eq_false, not_false_eq_true, true_or, or_true, implies_true, false_implies, true_implies, Int32.reduceLT, Int32.reduceLE, ↓w_TAB3, ↓w_TAB4, ↓w_TAB5, ↓w_TAB7, ↓w_TAB10, ↓w_LK2, ↓w_LK6, false_and, and_false, i1z, i2z, iz1, im0, im1, l0z, an0, an3, an7, ty_i, ty_l, ty_b, h.mz, h.mn, c1, k1, k2, k3, k4, k5, k6, hasK_uR, hasK_uI, mZ_uR, mZ_uN, mN_uR, mN_uN]
  refine lp_X1 (gI := gI) (gR := rA1 gR) rfl rfl hQ 24 0 _ 6 144 (by omega) ?_ rfl rfl
  refine Ini.cg r6 (fun a j => rfl) (fun a j => ?_)
  unfold fD
  rw [if_neg (by omega), if_neg (by omega), if_neg (by omega)]; rfl
end INJ
