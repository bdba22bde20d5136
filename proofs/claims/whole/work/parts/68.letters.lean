/-! letters -/
section LET
variable {G : En} {M M0 : Mem} {Q : Option Value → Mem → Prop} {X : String → Mem → Prop} {S : Sw} {t a s n th : Nat} {v : Int64}
theorem i12z : ((12 : Int32) = 0) = False := eq_false (by decide)
theorem lettr_w {k : Nat} (hk : k < 1000) : ((v >>> ((5 * (nI k - nI k / 12 * 12)).toInt64 &&& 63)) &&& 31).toInt32 = nI (lettr v k) := by
  have e1 : nI k - nI k / 12 * 12 = nI (k % 12) := nI_rem (b := 12) (by omega) (by omega) (by omega)
  have e2 : (5 : Int32) * nI (k % 12) = nI (5 * (k % 12)) := by
    rw [i_eq, i_mul] <;> rw [nI_toInt (n := k % 12) (by omega)] <;> first | (rw [nI_toInt (by omega)]; simp) | (simp; omega)
  rw [e1, e2]
  unfold lettr
  generalize v >>> _ = x
  have h1 : (x &&& 31).toBitVec.toNat ≤ 31 := by
    rw [Int64.toBitVec_and, BitVec.toNat_and]
    exact Nat.and_le_right
  have h2 : (x &&& 31).toInt = ((x &&& 31).toBitVec.toNat : Int) := by
    show (x &&& 31).toBitVec.toInt = _
    rw [BitVec.toInt_eq_toNat_of_lt (by omega)]
  have h3 : (x &&& 31) = lI ((x &&& 31).toInt.toNat : Nat) := by
    rw [show (((x &&& 31).toInt.toNat : Nat) : Int) = (x &&& 31).toInt by omega]
    exact lI_of _
  generalize x &&& 31 = y at *
  have h4 : y.toInt.toNat < 2147483648 := by omega
  generalize y.toInt.toNat = z at *
  rw [h3, lI_i32 h4]
theorem lp_putLetters (h : MS M a) (hs : s < 16) (hn : n ≤ 42) (hQ : Q none (sRow M (a + 3 + s) (fun i => if i < n then nI (lettr v i) else mI M (a + 3 + s) i))) : ∀ (z k : Nat), z + k = n → Go G (MT 66) Q X 10 [some (.ref a), some (.int (nI s)), some (.long v), none, some (.int (nI n)), some (.int (nI k))] [] (sRow M (a + 3 + s) (fun i => if i < k then nI (lettr v i) else mI M (a + 3 + s) i)) 0 0 := by
  intro z
  induction z with
  | zero =>
    intro k hk
    have hk : k = n := by omega
    subst hk
    refine r_X6_putLetters (fun n => n == 10 || n == 7) 40 ?_
    simp only [cd_X6_putLetters, cf_X6_putLetters, wp, wq, wpI, cdF, w_CI, w_CL, w_CN, w_LI, w_LL, w_LA, w_SI, w_SL, w_SA, w_INC, w_II, w_IId, w_LLb, w_LLd, w_LS, w_I1, w_L1, w_I2L, w_L2I, w_CMP, w_DUP, w_POP, w_DUP2, w_IF, w_IC, w_GO, w_NUL, w_ACN, prs, w_GF, w_PF, w_GS, w_IAL, w_LEN, w_LAL, w_ZAL, w_AAL, w_IAS, w_LAS, w_ZAS, w_AAS, w_RI, w_RL, w_RA, w_NEW, w_NA, w_MNA, w_OI, w_THR, w_CV, w_CS, w_CN9, w_CI9, w_MX, w_cont, lget, sto1, sto2, wideV, vo, vo_rv, isR, isR_rv, rv, fget, fput, cats, Value.category, List.headD_cons, List.getD_cons_zero, List.getD_cons_succ, List.drop_succ_cons, List.drop_zero, List.take_succ_cons, List.take_zero, List.reverse_cons, List.reverse_nil, List.nil_append, List.cons_append, List.length_cons, List.length_nil, cond_true, cond_false, and_true, true_and, Nat.zero_add, Nat.add_zero, Nat.reduceAdd, Nat.reduceLT, Nat.reduceLeDiff, Nat.reduceEqDiff, Nat.reduceBEq, Nat.reduceSub, ↓reduceIte, Int32.reduceOfNat, Int64.reduceOfNat, reduceCtorEq, Nat.le_refl, Nat.zero_le, Bool.false_eq_true, beq_self_eq_true, Fin.isValue, Fin.val_zero, Fin.val_one, Fin.reduceFinMk, Fin.val_two, Nat.reduceMod, Bool.or_false, Bool.or_true, Bool.true_or, Bool.false_or, not_true_eq_false, not_false_eq_true, true_or, or_true, implies_true, false_implies, true_implies, Int32.reduceLT, Int32.reduceLE, ↓w_TAB3, ↓w_TAB4, ↓w_TAB5, ↓w_TAB7, ↓w_TAB10, ↓w_LK2, ↓w_LK6, false_and, and_false, i1z, i2z, iz1, im0, im1, l0z]
    exact ⟨fun _ => hQ, fun q => absurd (nI_le (Nat.le_refl k) (by omega)) q⟩
  | succ z ih =>
    intro k hk
    have tk := nI_toInt (n := k) (by omega)
    have tn := nI_toInt (n := n) (by omega)
    have ih' := ih (k + 1) (by omega)
    refine r_X6_putLetters (fun n => n == 10 || n == 7) 40 ?_
    simp only [cd_X6_putLetters, cf_X6_putLetters, wp, wq, wpI, cdF, w_CI, w_CL, w_CN, w_LI, w_LL, w_LA, w_SI, w_SL, w_SA, w_INC, w_II, w_IId, w_LLb, w_LLd, w_LS, w_I1, w_L1, w_I2L, w_L2I, w_CMP, w_DUP, w_POP, w_DUP2, w_IF, w_IC, w_GO, w_NUL, w_ACN, prs, w_GF, w_PF, w_GS, w_IAL, w_LEN, w_LAL, w_ZAL, w_AAL, w_IAS, w_LAS, w_ZAS, w_AAS, w_RI, w_RL, w_RA, w_NEW, w_NA, w_MNA, w_OI, w_THR, w_CV, w_CS, w_CN9, w_CI9, w_MX, w_cont, lget, sto1, sto2, wideV, vo, vo_rv, isR, isR_rv, rv, fget, fput, cats, Value.category, List.headD_cons, List.getD_cons_zero, List.getD_cons_succ, List.drop_succ_cons, List.drop_zero, List.take_succ_cons, List.take_zero, List.reverse_cons, List.reverse_nil, List.nil_append, List.cons_append, List.length_cons, List.length_nil, cond_true, cond_false, and_true, true_and, Nat.zero_add, Nat.add_zero, Nat.reduceAdd, Nat.reduceLT, Nat.reduceLeDiff, Nat.reduceEqDiff, Nat.reduceBEq, Nat.reduceSub, ↓reduceIte, Int32.reduceOfNat, Int64.reduceOfNat, reduceCtorEq, Nat.le_refl, Nat.zero_le, Bool.false_eq_true, beq_self_eq_true, Fin.isValue, Fin.val_zero, Fin.val_one, Fin.reduceFinMk, Fin.val_two, Nat.reduceMod, Bool.or_false, Bool.or_true, Bool.true_or, Bool.false_or, not_true_eq_false, not_false_eq_true, true_or, or_true, implies_true, false_implies, true_implies, Int32.reduceLT, Int32.reduceLE, ↓w_TAB3, ↓w_TAB4, ↓w_TAB5, ↓w_TAB7, ↓w_TAB10, ↓w_LK2, ↓w_LK6, false_and, and_false, i1z, i2z, iz1, im0, im1, l0z, h.1, h.2.2.1, hasK_sRow, mR_sRow, nI_clamp (show s < 2 ^ 31 by omega), h.2.2.2.2.2.1 s hs, nI_clamp (show k < 2 ^ 31 by omega), i12z, lettr_w (v := v) (show k < 1000 by omega), nI_1, uI_sRow]
    refine and_ii (fun q => ?_) (fun _ => ⟨_, _, ⟨h.2.2.2.2.1, rfl⟩, vp_in_nI hs (by omega), _, h.2.2.2.2.2.2 s hs, vp_in_nI (by omega) (by omega), ?_⟩)
    · exfalso; (simp only [i_lt, i_le, i_eq, l_lt, l_le, l_eq, Int32.toInt_toInt64, Int32.reduceToInt, Int64.reduceToInt, ne_eq, Classical.not_not] at *; omega)
    · rw [sRow_congr (g := fun i => if i < k + 1 then nI (lettr v i) else mI M (a + 3 + s) i) (fun i => ?_)]
      · exact ih'
      · by_cases q : i = k
        · subst q; rw [if_pos rfl, if_pos (by omega)]
        · rw [if_neg q]
          by_cases q2 : i < k
          · rw [if_pos q2, if_pos (by omega)]
          · rw [if_neg q2, if_neg (by omega)]
theorem c_putLetters {y z : Int32} (h : MS M a) (ht : mI M a 1 = nI th) (hs : s < 16) (hn : n ≤ 42) (hy : y = nI s) (hz : z = nI n) (hQ : Q none (msP M a th s n (lettr v))) : Ct G (MT 66) [.ref a, .int y, .long v, .int z] M Q X := by
  subst hy hz
  refine Ct.go (L0 := [some (.ref a), some (.int (nI s)), some (.long v), none, some (.int (nI n)), none]) (by decide +kernel) rfl rfl ?_
  refine r_X6_putLetters (fun n => n == 10 || n == 7) 40 ?_
  simp only [cd_X6_putLetters, cf_X6_putLetters, wp, wq, wpI, cdF, w_CI, w_CL, w_CN, w_LI, w_LL, w_LA, w_SI, w_SL, w_SA, w_INC, w_II, w_IId, w_LLb, w_LLd, w_LS, w_I1, w_L1, w_I2L, w_L2I, w_CMP, w_DUP, w_POP, w_DUP2, w_IF, w_IC, w_GO, w_NUL, w_ACN, prs, w_GF, w_PF, w_GS, w_IAL, w_LEN, w_LAL, w_ZAL, w_AAL, w_IAS, w_LAS, w_ZAS, w_AAS, w_RI, w_RL, w_RA, w_NEW, w_NA, w_MNA, w_OI, w_THR, w_CV, w_CS, w_CN9, w_CI9, w_MX, w_cont, lget, sto1, sto2, wideV, vo, vo_rv, isR, isR_rv, rv, fget, fput, cats, Value.category, List.headD_cons, List.getD_cons_zero, List.getD_cons_succ, List.drop_succ_cons, List.drop_zero, List.take_succ_cons, List.take_zero, List.reverse_cons, List.reverse_nil, List.nil_append, List.cons_append, List.length_cons, List.length_nil, cond_true, cond_false, and_true, true_and, Nat.zero_add, Nat.add_zero, Nat.reduceAdd, Nat.reduceLT, Nat.reduceLeDiff, Nat.reduceEqDiff, Nat.reduceBEq, Nat.reduceSub, ↓reduceIte, Int32.reduceOfNat, Int64.reduceOfNat, reduceCtorEq, Nat.le_refl, Nat.zero_le, Bool.false_eq_true, beq_self_eq_true, Fin.isValue, Fin.val_zero, Fin.val_one, Fin.reduceFinMk, Fin.val_two, Nat.reduceMod, Bool.or_false, Bool.or_true, Bool.true_or, Bool.false_or, not_true_eq_false, not_false_eq_true, true_or, or_true, implies_true, false_implies, true_implies, Int32.reduceLT, Int32.reduceLE, ↓w_TAB3, ↓w_TAB4, ↓w_TAB5, ↓w_TAB7, ↓w_TAB10, ↓w_LK2, ↓w_LK6, false_and, and_false, i1z, i2z, iz1, im0, im1, l0z, h.1]
  refine c_start h ht hs ⟨rfl, ?_⟩
  refine r_X6_putLetters (fun n => n == 10 || n == 7) 40 ?_
  simp only [cd_X6_putLetters, cf_X6_putLetters, wp, wq, wpI, cdF, w_CI, w_CL, w_CN, w_LI, w_LL, w_LA, w_SI, w_SL, w_SA, w_INC, w_II, w_IId, w_LLb, w_LLd, w_LS, w_I1, w_L1, w_I2L, w_L2I, w_CMP, w_DUP, w_POP, w_DUP2, w_IF, w_IC, w_GO, w_NUL, w_ACN, prs, w_GF, w_PF, w_GS, w_IAL, w_LEN, w_LAL, w_ZAL, w_AAL, w_IAS, w_LAS, w_ZAS, w_AAS, w_RI, w_RL, w_RA, w_NEW, w_NA, w_MNA, w_OI, w_THR, w_CV, w_CS, w_CN9, w_CI9, w_MX, w_cont, lget, sto1, sto2, wideV, vo, vo_rv, isR, isR_rv, rv, fget, fput, cats, Value.category, List.headD_cons, List.getD_cons_zero, List.getD_cons_succ, List.drop_succ_cons, List.drop_zero, List.take_succ_cons, List.take_zero, List.reverse_cons, List.reverse_nil, List.nil_append, List.cons_append, List.length_cons, List.length_nil, cond_true, cond_false, and_true, true_and, Nat.zero_add, Nat.add_zero, Nat.reduceAdd, Nat.reduceLT, Nat.reduceLeDiff, Nat.reduceEqDiff, Nat.reduceBEq, Nat.reduceSub, ↓reduceIte, Int32.reduceOfNat, Int64.reduceOfNat, reduceCtorEq, Nat.le_refl, Nat.zero_le, Bool.false_eq_true, beq_self_eq_true, Fin.isValue, Fin.val_zero, Fin.val_one, Fin.reduceFinMk, Fin.val_two, Nat.reduceMod, Bool.or_false, Bool.or_true, Bool.true_or, Bool.false_or, not_true_eq_false, not_false_eq_true, true_or, or_true, implies_true, false_implies, true_implies, Int32.reduceLT, Int32.reduceLE, ↓w_TAB3, ↓w_TAB4, ↓w_TAB5, ↓w_TAB7, ↓w_TAB10, ↓w_LK2, ↓w_LK6, false_and, and_false, i1z, i2z, iz1, im0, im1, l0z]
  have e : ∀ i, mI (uI (uI M a 1 (nI (setB th s))) (a + 1) s (nI n)) (a + 3 + s) i = mI M (a + 3 + s) i := fun i => by rw [mI_ne (by omega), mI_ne (by omega)]
  have := lp_putLetters (G := G) (X := X) (Q := Q) (v := v) (M := uI (uI M a 1 (nI (setB th s))) (a + 1) s (nI n)) h hs hn (by simp only [e]; exact hQ) n 0 (by omega)
  rw [sRow_congr (g := mI (uI (uI M a 1 (nI (setB th s))) (a + 1) s (nI n)) (a + 3 + s)) (fun i => if_neg (by omega)), sRow_id] at this
  exact this
theorem k_letters {x z : Int32} (hR : RCx S M) (hj : Jv t S) : Ct G (MT 133) [.ref 0, .int x, .long v, .int z] M (QcV M (o_letters S x.toInt v z.toInt)) (QcX M (o_letters S x.toInt v z.toInt)) := by
  obtain ⟨w, o, c, hR'⟩ := id hR
  obtain ⟨hL, hN, hI, hLl, hF, hS, hA, hC, hP, hRr, hD, hT, hZ⟩ := id hR'
  have hs := hj.1
  have hn := hN
  unfold cN at hn
  unfold jS at hs
  have h39 : sN S 39 ≤ 60 := by omega
  have e1 : ∀ s : Fin 16, stV 1 s.val = nI (szF s.val) := by decide
  have i01 : ((0 : Int32) = 0) = True := eq_true rfl
  refine Ct.go (L0 := [some (.ref 0), some (.int x), some (.long v), none, some (.int z), none]) (by decide +kernel) rfl rfl ?_
  refine r_X11_letters (fun n => n == 4 || n == 17 || n == 28 || n == 49 || n == 65 || n == 93) 40 ?_
  simp only [cd_X11_letters, cf_X11_letters, wp, wq, wpI, cdF, w_CI, w_CL, w_CN, w_LI, w_LL, w_LA, w_SI, w_SL, w_SA, w_INC, w_II, w_IId, w_LLb, w_LLd, w_LS, w_I1, w_L1, w_I2L, w_L2I, w_CMP, w_DUP, w_POP, w_DUP2, w_IF, w_IC, w_GO, w_NUL, w_ACN, prs, w_GF, w_PF, w_GS, w_IAL, w_LEN, w_LAL, w_ZAL, w_AAL, w_IAS, w_LAS, w_ZAS, w_AAS, w_RI, w_RL, w_RA, w_NEW, w_NA, w_MNA, w_OI, w_THR, w_CV, w_CS, w_CN9, w_CI9, w_MX, w_cont, lget, sto1, sto2, wideV, vo, vo_rv, isR, isR_rv, rv, fget, fput, cats, Value.category, List.headD_cons, List.getD_cons_zero, List.getD_cons_succ, List.drop_succ_cons, List.drop_zero, List.take_succ_cons, List.take_zero, List.reverse_cons, List.reverse_nil, List.nil_append, List.cons_append, List.length_cons, List.length_nil, cond_true, cond_false, and_true, true_and, Nat.zero_add, Nat.add_zero, Nat.reduceAdd, Nat.reduceLT, Nat.reduceLeDiff, Nat.reduceEqDiff, Nat.reduceBEq, Nat.reduceSub, ↓reduceIte, Int32.reduceOfNat, Int64.reduceOfNat, reduceCtorEq, Nat.le_refl, Nat.zero_le, Bool.false_eq_true, beq_self_eq_true, Fin.isValue, Fin.val_zero, Fin.val_one, Fin.reduceFinMk, Fin.val_two, Nat.reduceMod, Bool.or_false, Bool.or_true, Bool.true_or, Bool.false_or, not_true_eq_false, not_false_eq_true, true_or, or_true, implies_true, false_implies, true_implies, Int32.reduceLT, Int32.reduceLE, ↓w_TAB3, ↓w_TAB4, ↓w_TAB5, ↓w_TAB7, ↓w_TAB10, ↓w_LK2, ↓w_LK6, false_and, and_false, i1z, i2z, iz1, im0, im1, l0z, hasK_uI, hasK_uL, hasK_uR, hasK_uZ, hasK_sRow, mR_uI, mR_uL, mR_uZ, mR_sRow, mI_uL, mI_uR, mI_uZ, mL_uI, mL_uR, mL_uZ, mL_sRow, LF.hk hL, layF, LF.r hL, refF, ne_eq, not_false_eq_true, Option.some.injEq, Sum.inl.injEq, Sum.inr.injEq, Prod.mk.injEq, exists_eq_left, exists_eq_left']
  refine c_slotOf (fun s hsl => ⟨_, rfl, ?_⟩) (fun hsl => ⟨_, rfl, ?_⟩)
  · have hs := (slI_lt hsl).1
    have hm : (nI s = -1) = False := eq_false (by rw [i_eq, nI_toInt (by omega)]; simp)
    have ts := nI_toInt (n := s) (by omega)
    have cs := nI_clamp (show s < 2 ^ 31 by omega)
    have hz : szF s ≤ 42 := by unfold szF; split <;> omega
    refine r_X11_letters (fun n => n == 4 || n == 17 || n == 28 || n == 49 || n == 65 || n == 93) 40 ?_
    simp only [cd_X11_letters, cf_X11_letters, wp, wq, wpI, cdF, w_CI, w_CL, w_CN, w_LI, w_LL, w_LA, w_SI, w_SL, w_SA, w_INC, w_II, w_IId, w_LLb, w_LLd, w_LS, w_I1, w_L1, w_I2L, w_L2I, w_CMP, w_DUP, w_POP, w_DUP2, w_IF, w_IC, w_GO, w_NUL, w_ACN, prs, w_GF, w_PF, w_GS, w_IAL, w_LEN, w_LAL, w_ZAL, w_AAL, w_IAS, w_LAS, w_ZAS, w_AAS, w_RI, w_RL, w_RA, w_NEW, w_NA, w_MNA, w_OI, w_THR, w_CV, w_CS, w_CN9, w_CI9, w_MX, w_cont, lget, sto1, sto2, wideV, vo, vo_rv, isR, isR_rv, rv, fget, fput, cats, Value.category, List.headD_cons, List.getD_cons_zero, List.getD_cons_succ, List.drop_succ_cons, List.drop_zero, List.take_succ_cons, List.take_zero, List.reverse_cons, List.reverse_nil, List.nil_append, List.cons_append, List.length_cons, List.length_nil, cond_true, cond_false, and_true, true_and, Nat.zero_add, Nat.add_zero, Nat.reduceAdd, Nat.reduceLT, Nat.reduceLeDiff, Nat.reduceEqDiff, Nat.reduceBEq, Nat.reduceSub, ↓reduceIte, Int32.reduceOfNat, Int64.reduceOfNat, reduceCtorEq, Nat.le_refl, Nat.zero_le, Bool.false_eq_true, beq_self_eq_true, Fin.isValue, Fin.val_zero, Fin.val_one, Fin.reduceFinMk, Fin.val_two, Nat.reduceMod, Bool.or_false, Bool.or_true, Bool.true_or, Bool.false_or, not_true_eq_false, not_false_eq_true, true_or, or_true, implies_true, false_implies, true_implies, Int32.reduceLT, Int32.reduceLE, ↓w_TAB3, ↓w_TAB4, ↓w_TAB5, ↓w_TAB7, ↓w_TAB10, ↓w_LK2, ↓w_LK6, false_and, and_false, i1z, i2z, iz1, im0, im1, l0z, hasK_uI, hasK_uL, hasK_uR, hasK_uZ, hasK_sRow, mR_uI, mR_uL, mR_uZ, mR_sRow, mI_uL, mI_uR, mI_uZ, mL_uI, mL_uR, mL_uZ, mL_sRow, LF.hk hL, layF, LF.r hL, refF, ne_eq, not_false_eq_true, Option.some.injEq, Sum.inl.injEq, Sum.inr.injEq, Prod.mk.injEq, exists_eq_left, exists_eq_left', hm]
    refine c_isLettered hs ⟨_, rfl, ?_⟩
    refine r_X11_letters (fun n => n == 4 || n == 17 || n == 28 || n == 49 || n == 65 || n == 93) 40 ?_
    simp only [cd_X11_letters, cf_X11_letters, wp, wq, wpI, cdF, w_CI, w_CL, w_CN, w_LI, w_LL, w_LA, w_SI, w_SL, w_SA, w_INC, w_II, w_IId, w_LLb, w_LLd, w_LS, w_I1, w_L1, w_I2L, w_L2I, w_CMP, w_DUP, w_POP, w_DUP2, w_IF, w_IC, w_GO, w_NUL, w_ACN, prs, w_GF, w_PF, w_GS, w_IAL, w_LEN, w_LAL, w_ZAL, w_AAL, w_IAS, w_LAS, w_ZAS, w_AAS, w_RI, w_RL, w_RA, w_NEW, w_NA, w_MNA, w_OI, w_THR, w_CV, w_CS, w_CN9, w_CI9, w_MX, w_cont, lget, sto1, sto2, wideV, vo, vo_rv, isR, isR_rv, rv, fget, fput, cats, Value.category, List.headD_cons, List.getD_cons_zero, List.getD_cons_succ, List.drop_succ_cons, List.drop_zero, List.take_succ_cons, List.take_zero, List.reverse_cons, List.reverse_nil, List.nil_append, List.cons_append, List.length_cons, List.length_nil, cond_true, cond_false, and_true, true_and, Nat.zero_add, Nat.add_zero, Nat.reduceAdd, Nat.reduceLT, Nat.reduceLeDiff, Nat.reduceEqDiff, Nat.reduceBEq, Nat.reduceSub, ↓reduceIte, Int32.reduceOfNat, Int64.reduceOfNat, reduceCtorEq, Nat.le_refl, Nat.zero_le, Bool.false_eq_true, beq_self_eq_true, Fin.isValue, Fin.val_zero, Fin.val_one, Fin.reduceFinMk, Fin.val_two, Nat.reduceMod, Bool.or_false, Bool.or_true, Bool.true_or, Bool.false_or, not_true_eq_false, not_false_eq_true, true_or, or_true, implies_true, false_implies, true_implies, Int32.reduceLT, Int32.reduceLE, ↓w_TAB3, ↓w_TAB4, ↓w_TAB5, ↓w_TAB7, ↓w_TAB10, ↓w_LK2, ↓w_LK6, false_and, and_false, i1z, i2z, iz1, im0, im1, l0z, hasK_uI, hasK_uL, hasK_uR, hasK_uZ, hasK_sRow, mR_uI, mR_uL, mR_uZ, mR_sRow, mI_uL, mI_uR, mI_uZ, mL_uI, mL_uR, mL_uZ, mL_sRow, LF.hk hL, layF, LF.r hL, refF, ne_eq, not_false_eq_true, Option.some.injEq, Sum.inl.injEq, Sum.inr.injEq, Prod.mk.injEq, exists_eq_left, exists_eq_left', b2i_0]
    refine and_ii (fun h1 => ?_) (fun h1 => c_demand_1 ⟨rfl, ?_⟩)
    · refine c_demand_0 (Qc_1 hR ?_)
      unfold o_letters
      rw [hsl]
      simp only
      rw [if_neg (fun q => h1 q.1)]
    · have h1 := Classical.not_not.mp h1
      refine r_X11_letters (fun n => n == 4 || n == 17 || n == 28 || n == 49 || n == 65 || n == 93) 40 ?_
      simp only [cd_X11_letters, cf_X11_letters, wp, wq, wpI, cdF, w_CI, w_CL, w_CN, w_LI, w_LL, w_LA, w_SI, w_SL, w_SA, w_INC, w_II, w_IId, w_LLb, w_LLd, w_LS, w_I1, w_L1, w_I2L, w_L2I, w_CMP, w_DUP, w_POP, w_DUP2, w_IF, w_IC, w_GO, w_NUL, w_ACN, prs, w_GF, w_PF, w_GS, w_IAL, w_LEN, w_LAL, w_ZAL, w_AAL, w_IAS, w_LAS, w_ZAS, w_AAS, w_RI, w_RL, w_RA, w_NEW, w_NA, w_MNA, w_OI, w_THR, w_CV, w_CS, w_CN9, w_CI9, w_MX, w_cont, lget, sto1, sto2, wideV, vo, vo_rv, isR, isR_rv, rv, fget, fput, cats, Value.category, List.headD_cons, List.getD_cons_zero, List.getD_cons_succ, List.drop_succ_cons, List.drop_zero, List.take_succ_cons, List.take_zero, List.reverse_cons, List.reverse_nil, List.nil_append, List.cons_append, List.length_cons, List.length_nil, cond_true, cond_false, and_true, true_and, Nat.zero_add, Nat.add_zero, Nat.reduceAdd, Nat.reduceLT, Nat.reduceLeDiff, Nat.reduceEqDiff, Nat.reduceBEq, Nat.reduceSub, ↓reduceIte, Int32.reduceOfNat, Int64.reduceOfNat, reduceCtorEq, Nat.le_refl, Nat.zero_le, Bool.false_eq_true, beq_self_eq_true, Fin.isValue, Fin.val_zero, Fin.val_one, Fin.reduceFinMk, Fin.val_two, Nat.reduceMod, Bool.or_false, Bool.or_true, Bool.true_or, Bool.false_or, not_true_eq_false, not_false_eq_true, true_or, or_true, implies_true, false_implies, true_implies, Int32.reduceLT, Int32.reduceLE, ↓w_TAB3, ↓w_TAB4, ↓w_TAB5, ↓w_TAB7, ↓w_TAB10, ↓w_LK2, ↓w_LK6, false_and, and_false, i1z, i2z, iz1, im0, im1, l0z, hasK_uI, hasK_uL, hasK_uR, hasK_uZ, hasK_sRow, mR_uI, mR_uL, mR_uZ, mR_sRow, mI_uL, mI_uR, mI_uZ, mL_uI, mL_uR, mL_uZ, mL_sRow, LF.hk hL, layF, LF.r hL, refF, ne_eq, not_false_eq_true, Option.some.injEq, Sum.inl.injEq, Sum.inr.injEq, Prod.mk.injEq, exists_eq_left, exists_eq_left', cVal, cLen]
      refine and_ii (fun q => ?_) (fun q => ?_)
      · have q10 : ¬ s = 10 := fun e => q (by rw [e]; rfl)
        refine and_ii (fun q2 => ?_) (fun q2 => ?_)
        · refine c_demand_0 (Qc_1 hR ?_)
          unfold o_letters
          rw [hsl]
          simp only
          rw [if_neg (fun q3 => by rw [if_neg q10] at q3; exact q2 (by rw [i_eq]; exact q3.2))]
        · refine c_demand_1 ⟨rfl, ?_⟩
          have q2 := Classical.not_not.mp q2
          have hq : (nI s = 10) = False := eq_false (fun e => q e)
          refine r_X11_letters (fun n => n == 4 || n == 17 || n == 28 || n == 49 || n == 65 || n == 93) 40 ?_
          simp only [cd_X11_letters, cf_X11_letters, wp, wq, wpI, cdF, w_CI, w_CL, w_CN, w_LI, w_LL, w_LA, w_SI, w_SL, w_SA, w_INC, w_II, w_IId, w_LLb, w_LLd, w_LS, w_I1, w_L1, w_I2L, w_L2I, w_CMP, w_DUP, w_POP, w_DUP2, w_IF, w_IC, w_GO, w_NUL, w_ACN, prs, w_GF, w_PF, w_GS, w_IAL, w_LEN, w_LAL, w_ZAL, w_AAL, w_IAS, w_LAS, w_ZAS, w_AAS, w_RI, w_RL, w_RA, w_NEW, w_NA, w_MNA, w_OI, w_THR, w_CV, w_CS, w_CN9, w_CI9, w_MX, w_cont, lget, sto1, sto2, wideV, vo, vo_rv, isR, isR_rv, rv, fget, fput, cats, Value.category, List.headD_cons, List.getD_cons_zero, List.getD_cons_succ, List.drop_succ_cons, List.drop_zero, List.take_succ_cons, List.take_zero, List.reverse_cons, List.reverse_nil, List.nil_append, List.cons_append, List.length_cons, List.length_nil, cond_true, cond_false, and_true, true_and, Nat.zero_add, Nat.add_zero, Nat.reduceAdd, Nat.reduceLT, Nat.reduceLeDiff, Nat.reduceEqDiff, Nat.reduceBEq, Nat.reduceSub, ↓reduceIte, Int32.reduceOfNat, Int64.reduceOfNat, reduceCtorEq, Nat.le_refl, Nat.zero_le, Bool.false_eq_true, beq_self_eq_true, Fin.isValue, Fin.val_zero, Fin.val_one, Fin.reduceFinMk, Fin.val_two, Nat.reduceMod, Bool.or_false, Bool.or_true, Bool.true_or, Bool.false_or, not_true_eq_false, not_false_eq_true, true_or, or_true, implies_true, false_implies, true_implies, Int32.reduceLT, Int32.reduceLE, ↓w_TAB3, ↓w_TAB4, ↓w_TAB5, ↓w_TAB7, ↓w_TAB10, ↓w_LK2, ↓w_LK6, false_and, and_false, i1z, i2z, iz1, im0, im1, l0z, hasK_uI, hasK_uL, hasK_uR, hasK_uZ, hasK_sRow, mR_uI, mR_uL, mR_uZ, mR_sRow, mI_uL, mI_uR, mI_uZ, mL_uI, mL_uR, mL_uZ, mL_sRow, LF.hk hL, layF, LF.r hL, refF, ne_eq, not_false_eq_true, Option.some.injEq, Sum.inl.injEq, Sum.inr.injEq, Prod.mk.injEq, exists_eq_left, exists_eq_left', cVal, cLen, cs, e1 ⟨s, hs⟩, hq]
          refine ⟨vp_in_nI (by simpa [stT] using hs) (by simp [stT]), ?_⟩
          refine c_putLetters (th := gH (sD S)) (s := s) (n := szF s) (MS_d hL) hD.2.1 hs hz rfl rfl ⟨rfl, ?_⟩
          refine r_X11_letters (fun n => n == 4 || n == 17 || n == 28 || n == 49 || n == 65 || n == 93) 40 ?_
          simp only [cd_X11_letters, cf_X11_letters, wp, wq, wpI, cdF, w_CI, w_CL, w_CN, w_LI, w_LL, w_LA, w_SI, w_SL, w_SA, w_INC, w_II, w_IId, w_LLb, w_LLd, w_LS, w_I1, w_L1, w_I2L, w_L2I, w_CMP, w_DUP, w_POP, w_DUP2, w_IF, w_IC, w_GO, w_NUL, w_ACN, prs, w_GF, w_PF, w_GS, w_IAL, w_LEN, w_LAL, w_ZAL, w_AAL, w_IAS, w_LAS, w_ZAS, w_AAS, w_RI, w_RL, w_RA, w_NEW, w_NA, w_MNA, w_OI, w_THR, w_CV, w_CS, w_CN9, w_CI9, w_MX, w_cont, lget, sto1, sto2, wideV, vo, vo_rv, isR, isR_rv, rv, fget, fput, cats, Value.category, List.headD_cons, List.getD_cons_zero, List.getD_cons_succ, List.drop_succ_cons, List.drop_zero, List.take_succ_cons, List.take_zero, List.reverse_cons, List.reverse_nil, List.nil_append, List.cons_append, List.length_cons, List.length_nil, cond_true, cond_false, and_true, true_and, Nat.zero_add, Nat.add_zero, Nat.reduceAdd, Nat.reduceLT, Nat.reduceLeDiff, Nat.reduceEqDiff, Nat.reduceBEq, Nat.reduceSub, ↓reduceIte, Int32.reduceOfNat, Int64.reduceOfNat, reduceCtorEq, Nat.le_refl, Nat.zero_le, Bool.false_eq_true, beq_self_eq_true, Fin.isValue, Fin.val_zero, Fin.val_one, Fin.reduceFinMk, Fin.val_two, Nat.reduceMod, Bool.or_false, Bool.or_true, Bool.true_or, Bool.false_or, not_true_eq_false, not_false_eq_true, true_or, or_true, implies_true, false_implies, true_implies, Int32.reduceLT, Int32.reduceLE, ↓w_TAB3, ↓w_TAB4, ↓w_TAB5, ↓w_TAB7, ↓w_TAB10, ↓w_LK2, ↓w_LK6, false_and, and_false, i1z, i2z, iz1, im0, im1, l0z]
          unfold o_letters
          rw [hsl]
          simp only
          rw [if_pos ⟨h1, by rw [if_neg q10, q2]; rfl⟩, if_neg q10]
          exact ⟨rfl, rfl, ⟨w, o, c, RC_put hR' h39 hs⟩, hiS_msP (hiS_rfl M) hs (by omega)⟩
      · have q10 : s = 10 := by (simp only [i_lt, i_le, i_eq, l_lt, l_le, l_eq, Int32.toInt_toInt64, Int32.reduceToInt, Int64.reduceToInt, ne_eq, Classical.not_not] at *; omega)
        subst q10
        refine ⟨vp_in_i (by simp [stT]), ?_⟩
        refine c_isWithin ⟨_, rfl, ?_⟩
        refine r_X11_letters (fun n => n == 4 || n == 17 || n == 28 || n == 49 || n == 65 || n == 93) 40 ?_
        simp only [cd_X11_letters, cf_X11_letters, wp, wq, wpI, cdF, w_CI, w_CL, w_CN, w_LI, w_LL, w_LA, w_SI, w_SL, w_SA, w_INC, w_II, w_IId, w_LLb, w_LLd, w_LS, w_I1, w_L1, w_I2L, w_L2I, w_CMP, w_DUP, w_POP, w_DUP2, w_IF, w_IC, w_GO, w_NUL, w_ACN, prs, w_GF, w_PF, w_GS, w_IAL, w_LEN, w_LAL, w_ZAL, w_AAL, w_IAS, w_LAS, w_ZAS, w_AAS, w_RI, w_RL, w_RA, w_NEW, w_NA, w_MNA, w_OI, w_THR, w_CV, w_CS, w_CN9, w_CI9, w_MX, w_cont, lget, sto1, sto2, wideV, vo, vo_rv, isR, isR_rv, rv, fget, fput, cats, Value.category, List.headD_cons, List.getD_cons_zero, List.getD_cons_succ, List.drop_succ_cons, List.drop_zero, List.take_succ_cons, List.take_zero, List.reverse_cons, List.reverse_nil, List.nil_append, List.cons_append, List.length_cons, List.length_nil, cond_true, cond_false, and_true, true_and, Nat.zero_add, Nat.add_zero, Nat.reduceAdd, Nat.reduceLT, Nat.reduceLeDiff, Nat.reduceEqDiff, Nat.reduceBEq, Nat.reduceSub, ↓reduceIte, Int32.reduceOfNat, Int64.reduceOfNat, reduceCtorEq, Nat.le_refl, Nat.zero_le, Bool.false_eq_true, beq_self_eq_true, Fin.isValue, Fin.val_zero, Fin.val_one, Fin.reduceFinMk, Fin.val_two, Nat.reduceMod, Bool.or_false, Bool.or_true, Bool.true_or, Bool.false_or, not_true_eq_false, not_false_eq_true, true_or, or_true, implies_true, false_implies, true_implies, Int32.reduceLT, Int32.reduceLE, ↓w_TAB3, ↓w_TAB4, ↓w_TAB5, ↓w_TAB7, ↓w_TAB10, ↓w_LK2, ↓w_LK6, false_and, and_false, i1z, i2z, iz1, im0, im1, l0z, hasK_uI, hasK_uL, hasK_uR, hasK_uZ, hasK_sRow, mR_uI, mR_uL, mR_uZ, mR_sRow, mI_uL, mI_uR, mI_uZ, mL_uI, mL_uR, mL_uZ, mL_sRow, LF.hk hL, layF, LF.r hL, refF, ne_eq, not_false_eq_true, Option.some.injEq, Sum.inl.injEq, Sum.inr.injEq, Prod.mk.injEq, exists_eq_left, exists_eq_left']
        refine c_demand_p (fun h2 => ⟨rfl, ?_⟩) (fun h2 => Qc_1 hR ?_)
        · have e40 : (stV 1 10).toInt = 40 := rfl
          have hz2 : 1 ≤ z.toInt ∧ z.toInt ≤ 40 := by
            simp only [l_le, Int32.toInt_toInt64] at h2
            exact h2
          have ht10 : (nI 10 = 10) = True := eq_true rfl
          refine r_X11_letters (fun n => n == 4 || n == 17 || n == 28 || n == 49 || n == 65 || n == 93) 40 ?_
          simp only [cd_X11_letters, cf_X11_letters, wp, wq, wpI, cdF, w_CI, w_CL, w_CN, w_LI, w_LL, w_LA, w_SI, w_SL, w_SA, w_INC, w_II, w_IId, w_LLb, w_LLd, w_LS, w_I1, w_L1, w_I2L, w_L2I, w_CMP, w_DUP, w_POP, w_DUP2, w_IF, w_IC, w_GO, w_NUL, w_ACN, prs, w_GF, w_PF, w_GS, w_IAL, w_LEN, w_LAL, w_ZAL, w_AAL, w_IAS, w_LAS, w_ZAS, w_AAS, w_RI, w_RL, w_RA, w_NEW, w_NA, w_MNA, w_OI, w_THR, w_CV, w_CS, w_CN9, w_CI9, w_MX, w_cont, lget, sto1, sto2, wideV, vo, vo_rv, isR, isR_rv, rv, fget, fput, cats, Value.category, List.headD_cons, List.getD_cons_zero, List.getD_cons_succ, List.drop_succ_cons, List.drop_zero, List.take_succ_cons, List.take_zero, List.reverse_cons, List.reverse_nil, List.nil_append, List.cons_append, List.length_cons, List.length_nil, cond_true, cond_false, and_true, true_and, Nat.zero_add, Nat.add_zero, Nat.reduceAdd, Nat.reduceLT, Nat.reduceLeDiff, Nat.reduceEqDiff, Nat.reduceBEq, Nat.reduceSub, ↓reduceIte, Int32.reduceOfNat, Int64.reduceOfNat, reduceCtorEq, Nat.le_refl, Nat.zero_le, Bool.false_eq_true, beq_self_eq_true, Fin.isValue, Fin.val_zero, Fin.val_one, Fin.reduceFinMk, Fin.val_two, Nat.reduceMod, Bool.or_false, Bool.or_true, Bool.true_or, Bool.false_or, not_true_eq_false, not_false_eq_true, true_or, or_true, implies_true, false_implies, true_implies, Int32.reduceLT, Int32.reduceLE, ↓w_TAB3, ↓w_TAB4, ↓w_TAB5, ↓w_TAB7, ↓w_TAB10, ↓w_LK2, ↓w_LK6, false_and, and_false, i1z, i2z, iz1, im0, im1, l0z, hasK_uI, hasK_uL, hasK_uR, hasK_uZ, hasK_sRow, mR_uI, mR_uL, mR_uZ, mR_sRow, mI_uL, mI_uR, mI_uZ, mL_uI, mL_uR, mL_uZ, mL_sRow, LF.hk hL, layF, LF.r hL, refF, ne_eq, not_false_eq_true, Option.some.injEq, Sum.inl.injEq, Sum.inr.injEq, Prod.mk.injEq, exists_eq_left, exists_eq_left', ht10]
          refine c_putLetters (th := gH (sD S)) (s := 10) (n := z.toInt.toNat) (MS_d hL) hD.2.1 hs (by omega) rfl (w2i (by omega)) ⟨rfl, ?_⟩
          refine r_X11_letters (fun n => n == 4 || n == 17 || n == 28 || n == 49 || n == 65 || n == 93) 40 ?_
          simp only [cd_X11_letters, cf_X11_letters, wp, wq, wpI, cdF, w_CI, w_CL, w_CN, w_LI, w_LL, w_LA, w_SI, w_SL, w_SA, w_INC, w_II, w_IId, w_LLb, w_LLd, w_LS, w_I1, w_L1, w_I2L, w_L2I, w_CMP, w_DUP, w_POP, w_DUP2, w_IF, w_IC, w_GO, w_NUL, w_ACN, prs, w_GF, w_PF, w_GS, w_IAL, w_LEN, w_LAL, w_ZAL, w_AAL, w_IAS, w_LAS, w_ZAS, w_AAS, w_RI, w_RL, w_RA, w_NEW, w_NA, w_MNA, w_OI, w_THR, w_CV, w_CS, w_CN9, w_CI9, w_MX, w_cont, lget, sto1, sto2, wideV, vo, vo_rv, isR, isR_rv, rv, fget, fput, cats, Value.category, List.headD_cons, List.getD_cons_zero, List.getD_cons_succ, List.drop_succ_cons, List.drop_zero, List.take_succ_cons, List.take_zero, List.reverse_cons, List.reverse_nil, List.nil_append, List.cons_append, List.length_cons, List.length_nil, cond_true, cond_false, and_true, true_and, Nat.zero_add, Nat.add_zero, Nat.reduceAdd, Nat.reduceLT, Nat.reduceLeDiff, Nat.reduceEqDiff, Nat.reduceBEq, Nat.reduceSub, ↓reduceIte, Int32.reduceOfNat, Int64.reduceOfNat, reduceCtorEq, Nat.le_refl, Nat.zero_le, Bool.false_eq_true, beq_self_eq_true, Fin.isValue, Fin.val_zero, Fin.val_one, Fin.reduceFinMk, Fin.val_two, Nat.reduceMod, Bool.or_false, Bool.or_true, Bool.true_or, Bool.false_or, not_true_eq_false, not_false_eq_true, true_or, or_true, implies_true, false_implies, true_implies, Int32.reduceLT, Int32.reduceLE, ↓w_TAB3, ↓w_TAB4, ↓w_TAB5, ↓w_TAB7, ↓w_TAB10, ↓w_LK2, ↓w_LK6, false_and, and_false, i1z, i2z, iz1, im0, im1, l0z]
          unfold o_letters
          rw [hsl]
          simp only
          rw [if_pos ⟨h1, by simpa using hz2⟩]
          simp only [if_true]
          exact ⟨rfl, rfl, ⟨w, o, c, RC_put hR' h39 hs⟩, hiS_msP (hiS_rfl M) hs (by omega)⟩
        · unfold o_letters
          rw [hsl]
          simp only
          rw [if_neg (fun q3 => h2 (by simp only [l_le, Int32.toInt_toInt64]; exact (show 1 ≤ z.toInt ∧ z.toInt ≤ 40 by simpa using q3.2)))]
  · refine r_X11_letters (fun n => n == 4 || n == 17 || n == 28 || n == 49 || n == 65 || n == 93) 40 ?_
    simp only [cd_X11_letters, cf_X11_letters, wp, wq, wpI, cdF, w_CI, w_CL, w_CN, w_LI, w_LL, w_LA, w_SI, w_SL, w_SA, w_INC, w_II, w_IId, w_LLb, w_LLd, w_LS, w_I1, w_L1, w_I2L, w_L2I, w_CMP, w_DUP, w_POP, w_DUP2, w_IF, w_IC, w_GO, w_NUL, w_ACN, prs, w_GF, w_PF, w_GS, w_IAL, w_LEN, w_LAL, w_ZAL, w_AAL, w_IAS, w_LAS, w_ZAS, w_AAS, w_RI, w_RL, w_RA, w_NEW, w_NA, w_MNA, w_OI, w_THR, w_CV, w_CS, w_CN9, w_CI9, w_MX, w_cont, lget, sto1, sto2, wideV, vo, vo_rv, isR, isR_rv, rv, fget, fput, cats, Value.category, List.headD_cons, List.getD_cons_zero, List.getD_cons_succ, List.drop_succ_cons, List.drop_zero, List.take_succ_cons, List.take_zero, List.reverse_cons, List.reverse_nil, List.nil_append, List.cons_append, List.length_cons, List.length_nil, cond_true, cond_false, and_true, true_and, Nat.zero_add, Nat.add_zero, Nat.reduceAdd, Nat.reduceLT, Nat.reduceLeDiff, Nat.reduceEqDiff, Nat.reduceBEq, Nat.reduceSub, ↓reduceIte, Int32.reduceOfNat, Int64.reduceOfNat, reduceCtorEq, Nat.le_refl, Nat.zero_le, Bool.false_eq_true, beq_self_eq_true, Fin.isValue, Fin.val_zero, Fin.val_one, Fin.reduceFinMk, Fin.val_two, Nat.reduceMod, Bool.or_false, Bool.or_true, Bool.true_or, Bool.false_or, not_true_eq_false, not_false_eq_true, true_or, or_true, implies_true, false_implies, true_implies, Int32.reduceLT, Int32.reduceLE, ↓w_TAB3, ↓w_TAB4, ↓w_TAB5, ↓w_TAB7, ↓w_TAB10, ↓w_LK2, ↓w_LK6, false_and, and_false, i1z, i2z, iz1, im0, im1, l0z, hasK_uI, hasK_uL, hasK_uR, hasK_uZ, hasK_sRow, mR_uI, mR_uL, mR_uZ, mR_sRow, mI_uL, mI_uR, mI_uZ, mL_uI, mL_uR, mL_uZ, mL_sRow, LF.hk hL, layF, LF.r hL, refF, ne_eq, not_false_eq_true, Option.some.injEq, Sum.inl.injEq, Sum.inr.injEq, Prod.mk.injEq, exists_eq_left, exists_eq_left']
    refine c_demand_0 (Qc_1 hR ?_)
    unfold o_letters
    rw [hsl]
theorem lp_mLetters (hL : LF M) (hK : mK M) (hs : s < 16) (hn : n ≤ 42) {y x : Option Value} (hQ : Q none (mmP M 540 539 s n (lettr v))) : ∀ (z k : Nat), z + k = n → Go G (MT 204) Q X 117 [some (.ref 495), y, some (.long v), none, x, some (.int (nI s)), some (.int 1), some (.int (nI k))] [] (dgR (uI M 540 s (nI n)) 539 (42 * s) k (lettr v)) 0 0 := by
  intro z
  induction z with
  | zero =>
    intro k hk
    have hk : k = n := by omega
    subst hk
    have cs := nI_clamp (n := s) (by omega)
    have hk5 : hasK (dgR (uI M 540 s (nI k)) 539 (42 * s) k (lettr v)) 495 (.inr 12) := by show hasK M 495 _; rw [hL.hk]; rfl
    have hr6 : mR (dgR (uI M 540 s (nI k)) 539 (42 * s) k (lettr v)) 495 66 = some 540 := by show mR M 495 66 = _; rw [hL.r (by decide)]; rfl
    have h540 : hasK (dgR (uI M 540 s (nI k)) 539 (42 * s) k (lettr v)) 540 (.inl (.int, 16)) := by show hasK M 540 _; rw [hL.hk]; rfl
    have hv : mI (dgR (uI M 540 s (nI k)) 539 (42 * s) k (lettr v)) 540 s = nI k := by
      unfold dgR
      rw [mI_nr (by omega), mI_uI, if_pos ⟨rfl, rfl⟩]
    refine r_X12_letters (fun n => n == 117 || n == 5 || n == 81) 60 ?_
    simp only [cd_X12_letters, cf_X12_letters, wp, wq, wpI, cdF, w_CI, w_CL, w_CN, w_LI, w_LL, w_LA, w_SI, w_SL, w_SA, w_INC, w_II, w_IId, w_LLb, w_LLd, w_LS, w_I1, w_L1, w_I2L, w_L2I, w_CMP, w_DUP, w_POP, w_DUP2, w_IF, w_IC, w_GO, w_NUL, w_ACN, prs, w_GF, w_PF, w_GS, w_IAL, w_LEN, w_LAL, w_ZAL, w_AAL, w_IAS, w_LAS, w_ZAS, w_AAS, w_RI, w_RL, w_RA, w_NEW, w_NA, w_MNA, w_OI, w_THR, w_CV, w_CS, w_CN9, w_CI9, w_MX, w_cont, lget, sto1, sto2, wideV, vo, vo_rv, isR, isR_rv, rv, fget, fput, cats, Value.category, List.headD_cons, List.getD_cons_zero, List.getD_cons_succ, List.drop_succ_cons, List.drop_zero, List.take_succ_cons, List.take_zero, List.reverse_cons, List.reverse_nil, List.nil_append, List.cons_append, List.length_cons, List.length_nil, cond_true, cond_false, and_true, true_and, Nat.zero_add, Nat.add_zero, Nat.reduceAdd, Nat.reduceLT, Nat.reduceLeDiff, Nat.reduceEqDiff, Nat.reduceBEq, Nat.reduceSub, ↓reduceIte, Int32.reduceOfNat, Int64.reduceOfNat, reduceCtorEq, Nat.le_refl, Nat.zero_le, Bool.false_eq_true, beq_self_eq_true, Fin.isValue, Fin.val_zero, Fin.val_one, Fin.reduceFinMk, Fin.val_two, Nat.reduceMod, Bool.or_false, Bool.or_true, Bool.true_or, Bool.false_or, not_true_eq_false, not_false_eq_true, true_or, or_true, implies_true, false_implies, true_implies, Int32.reduceLT, Int32.reduceLE, ↓w_TAB3, ↓w_TAB4, ↓w_TAB5, ↓w_TAB7, ↓w_TAB10, ↓w_LK2, ↓w_LK6, false_and, and_false, i1z, i2z, iz1, im0, im1, l0z, hk5, hr6, cs, hv]
    exact ⟨_, h540, vp_in_nI hs (by omega), fun _ => hQ, fun q => absurd (nI_le (Nat.le_refl k) (by omega)) q⟩
  | succ z ih =>
    intro k hk
    have tk := nI_toInt (n := k) (by omega)
    have tn := nI_toInt (n := n) (by omega)
    have cs := nI_clamp (n := s) (by omega)
    have e42 : (42 : Int32) * nI s = nI (42 * s) := by
      rw [i_eq, i_mul] <;> rw [nI_toInt (n := s) (by omega)] <;> first | (rw [nI_toInt (by omega)]; simp) | (simp; omega)
    have e1 : nI (42 * s) + nI k = nI (42 * s + k) := nI_add _ k
    have c1 := nI_clamp (n := 42 * s + k) (by omega)
    have ih' := ih (k + 1) (by omega)
    have hk5 : hasK (dgR (uI M 540 s (nI n)) 539 (42 * s) k (lettr v)) 495 (.inr 12) := by show hasK M 495 _; rw [hL.hk]; rfl
    have hr5 : mR (dgR (uI M 540 s (nI n)) 539 (42 * s) k (lettr v)) 495 65 = some 539 := by show mR M 495 65 = _; rw [hL.r (by decide)]; rfl
    have hr6 : mR (dgR (uI M 540 s (nI n)) 539 (42 * s) k (lettr v)) 495 66 = some 540 := by show mR M 495 66 = _; rw [hL.r (by decide)]; rfl
    have h539 : hasK (dgR (uI M 540 s (nI n)) 539 (42 * s) k (lettr v)) 539 (.inl (.int, 672)) := by show hasK M 539 _; rw [hL.hk]; rfl
    have h540 : hasK (dgR (uI M 540 s (nI n)) 539 (42 * s) k (lettr v)) 540 (.inl (.int, 16)) := by show hasK M 540 _; rw [hL.hk]; rfl
    have hv : mI (dgR (uI M 540 s (nI n)) 539 (42 * s) k (lettr v)) 540 s = nI n := by
      unfold dgR
      rw [mI_nr (by omega), mI_uI, if_pos ⟨rfl, rfl⟩]
    have hst : uI (dgR (uI M 540 s (nI n)) 539 (42 * s) k (lettr v)) 539 (42 * s + k) (nI (lettr v k)) = dgR (uI M 540 s (nI n)) 539 (42 * s) (k + 1) (lettr v) := by
      unfold dgR
      rw [uI_sRow]
      refine sRow_congr (fun i => ?_)
      by_cases q : i = 42 * s + k
      · subst q; rw [if_pos rfl, if_pos (by omega), Nat.add_sub_cancel_left]
      · rw [if_neg q]
        by_cases q2 : 42 * s ≤ i ∧ i < 42 * s + k
        · rw [if_pos q2, if_pos (by omega)]
        · rw [if_neg q2, if_neg (by omega)]
    generalize dgR (uI M 540 s (nI n)) 539 (42 * s) k (lettr v) = Mk at *
    refine r_X12_letters (fun n => n == 117 || n == 5 || n == 81) 60 ?_
    simp only [cd_X12_letters, cf_X12_letters, wp, wq, wpI, cdF, w_CI, w_CL, w_CN, w_LI, w_LL, w_LA, w_SI, w_SL, w_SA, w_INC, w_II, w_IId, w_LLb, w_LLd, w_LS, w_I1, w_L1, w_I2L, w_L2I, w_CMP, w_DUP, w_POP, w_DUP2, w_IF, w_IC, w_GO, w_NUL, w_ACN, prs, w_GF, w_PF, w_GS, w_IAL, w_LEN, w_LAL, w_ZAL, w_AAL, w_IAS, w_LAS, w_ZAS, w_AAS, w_RI, w_RL, w_RA, w_NEW, w_NA, w_MNA, w_OI, w_THR, w_CV, w_CS, w_CN9, w_CI9, w_MX, w_cont, lget, sto1, sto2, wideV, vo, vo_rv, isR, isR_rv, rv, fget, fput, cats, Value.category, List.headD_cons, List.getD_cons_zero, List.getD_cons_succ, List.drop_succ_cons, List.drop_zero, List.take_succ_cons, List.take_zero, List.reverse_cons, List.reverse_nil, List.nil_append, List.cons_append, List.length_cons, List.length_nil, cond_true, cond_false, and_true, true_and, Nat.zero_add, Nat.add_zero, Nat.reduceAdd, Nat.reduceLT, Nat.reduceLeDiff, Nat.reduceEqDiff, Nat.reduceBEq, Nat.reduceSub, ↓reduceIte, Int32.reduceOfNat, Int64.reduceOfNat, reduceCtorEq, Nat.le_refl, Nat.zero_le, Bool.false_eq_true, beq_self_eq_true, Fin.isValue, Fin.val_zero, Fin.val_one, Fin.reduceFinMk, Fin.val_two, Nat.reduceMod, Bool.or_false, Bool.or_true, Bool.true_or, Bool.false_or, not_true_eq_false, not_false_eq_true, true_or, or_true, implies_true, false_implies, true_implies, Int32.reduceLT, Int32.reduceLE, ↓w_TAB3, ↓w_TAB4, ↓w_TAB5, ↓w_TAB7, ↓w_TAB10, ↓w_LK2, ↓w_LK6, false_and, and_false, i1z, i2z, iz1, im0, im1, l0z, hk5, hr5, hr6, cs, e42, e1, c1, hv, nI_1, i12z, lettr_w (v := v) (show k < 1000 by omega)]
    refine ⟨_, h540, vp_in_nI hs (by omega), and_ii (fun q => ?_) (fun _ => ⟨_, h539, vp_in_nI (by omega) (by omega), ?_⟩)⟩
    · exfalso; (simp only [i_lt, i_le, i_eq, l_lt, l_le, l_eq, Int32.toInt_toInt64, Int32.reduceToInt, Int64.reduceToInt, ne_eq, Classical.not_not] at *; omega)
    · rw [hst]
      exact ih'
set_option maxRecDepth 8000 in
theorem m_letters {x z : Int32} (hR : RM S M) (hj : Jv t S) : Ct G (MT 204) [.ref 495, .int x, .long v, .int z] M (QmV M (o_letters S x.toInt v z.toInt)) X := by
  obtain ⟨hL, hN, hI, hLl, hA, hC, hP, hRr, hD, hT, hZ, hK⟩ := id hR
  have hs := hj.1
  have hn := hN
  unfold mNn at hn
  unfold jS at hs
  refine Ct.go (L0 := [some (.ref 495), some (.int x), some (.long v), none, some (.int z), none, none, none]) (by decide +kernel) rfl rfl ?_
  refine r_X12_letters (fun n => n == 5 || n == 81) 60 ?_
  simp only [cd_X12_letters, cf_X12_letters, wp, wq, wpI, cdF, w_CI, w_CL, w_CN, w_LI, w_LL, w_LA, w_SI, w_SL, w_SA, w_INC, w_II, w_IId, w_LLb, w_LLd, w_LS, w_I1, w_L1, w_I2L, w_L2I, w_CMP, w_DUP, w_POP, w_DUP2, w_IF, w_IC, w_GO, w_NUL, w_ACN, prs, w_GF, w_PF, w_GS, w_IAL, w_LEN, w_LAL, w_ZAL, w_AAL, w_IAS, w_LAS, w_ZAS, w_AAS, w_RI, w_RL, w_RA, w_NEW, w_NA, w_MNA, w_OI, w_THR, w_CV, w_CS, w_CN9, w_CI9, w_MX, w_cont, lget, sto1, sto2, wideV, vo, vo_rv, isR, isR_rv, rv, fget, fput, cats, Value.category, List.headD_cons, List.getD_cons_zero, List.getD_cons_succ, List.drop_succ_cons, List.drop_zero, List.take_succ_cons, List.take_zero, List.reverse_cons, List.reverse_nil, List.nil_append, List.cons_append, List.length_cons, List.length_nil, cond_true, cond_false, and_true, true_and, Nat.zero_add, Nat.add_zero, Nat.reduceAdd, Nat.reduceLT, Nat.reduceLeDiff, Nat.reduceEqDiff, Nat.reduceBEq, Nat.reduceSub, ↓reduceIte, Int32.reduceOfNat, Int64.reduceOfNat, reduceCtorEq, Nat.le_refl, Nat.zero_le, Bool.false_eq_true, beq_self_eq_true, Fin.isValue, Fin.val_zero, Fin.val_one, Fin.reduceFinMk, Fin.val_two, Nat.reduceMod, Bool.or_false, Bool.or_true, Bool.true_or, Bool.false_or, not_true_eq_false, not_false_eq_true, true_or, or_true, implies_true, false_implies, true_implies, Int32.reduceLT, Int32.reduceLE, ↓w_TAB3, ↓w_TAB4, ↓w_TAB5, ↓w_TAB7, ↓w_TAB10, ↓w_LK2, ↓w_LK6, false_and, and_false, i1z, i2z, iz1, im0, im1, l0z, hasK_uI, hasK_uL, hasK_uR, hasK_uZ, hasK_sRow, mR_uI, mR_uL, mR_uZ, mR_sRow, mI_uL, mI_uR, mI_uZ, mL_uI, mL_uR, mL_uZ, mL_sRow, LF.hk hL, layF, LF.r hL, refF, ne_eq, not_false_eq_true, Option.some.injEq, Sum.inl.injEq, Sum.inr.injEq, Prod.mk.injEq, exists_eq_left, exists_eq_left']
  refine m_fieldOf hL hK (fun s hsl => ⟨_, rfl, ?_⟩) (fun hsl => ⟨_, rfl, ?_⟩)
  · have hs := (slI_lt hsl).1
    have cs := nI_clamp (show s < 2 ^ 31 by omega)
    have hk := hK s hs
    have hz : szF s ≤ 42 := by unfold szF; split <;> omega
    have h0 : ¬ nI s < 0 := nI_pos (by omega)
    have hfr : ∀ s : Fin 16, (ltF s.val = true → ((if ltF s.val then 2 else 0) + (if ldF s.val = 0 then 0 else 1)) = if s.val = 10 then 3 else 2) ∧ (ltF s.val = false → ((if ltF s.val then 2 else 0) + (if ldF s.val = 0 then 0 else 1)) ≤ 1) := by decide
    have hfs := hfr ⟨s, hs⟩
    simp only at hfs
    have hk2 := hk.2.2
    generalize hF : ((if ltF s = true then 2 else 0) + (if ldF s = 0 then 0 else 1) : Nat) = F at *
    have hF3 : F ≤ 3 := by rw [← hF]; split <;> split <;> omega
    have tf := nI_toInt (n := F) (by omega)
    have h10 : F = (if s = 10 then 3 else 2) → ¬ ¬ nI F = 3 → s = 10 := fun f1 q2 => by
      have q2 := Classical.not_not.mp q2
      apply Classical.byContradiction
      intro e
      rw [if_neg e] at f1
      rw [f1] at q2
      exact absurd q2 (by decide)
    have hno : ∀ q : ¬ (ltF s = true ∧ (if s = 10 then 1 ≤ z.toInt ∧ z.toInt ≤ 40 else z.toInt = 0)), Ct G (MT 181) [.ref 495, .int 0, .int 1] M (fun v' M' => ∃ x_1, v' = some (Value.int x_1) ∧ Go G (MT 204) (QmV M (o_letters S x.toInt v z.toInt)) X 81 [some (.ref 495), some (.int x), some (.long v), none, some (.int z), some (.int (nI s)), some (.int 0), none] [.int x_1] M' 0 0) X := fun q => by
      refine m_goes_1 hL ⟨_, rfl, ?_⟩
      refine r_X12_letters (fun n => n == 5 || n == 81) 60 ?_
      simp only [cd_X12_letters, cf_X12_letters, wp, wq, wpI, cdF, w_CI, w_CL, w_CN, w_LI, w_LL, w_LA, w_SI, w_SL, w_SA, w_INC, w_II, w_IId, w_LLb, w_LLd, w_LS, w_I1, w_L1, w_I2L, w_L2I, w_CMP, w_DUP, w_POP, w_DUP2, w_IF, w_IC, w_GO, w_NUL, w_ACN, prs, w_GF, w_PF, w_GS, w_IAL, w_LEN, w_LAL, w_ZAL, w_AAL, w_IAS, w_LAS, w_ZAS, w_AAS, w_RI, w_RL, w_RA, w_NEW, w_NA, w_MNA, w_OI, w_THR, w_CV, w_CS, w_CN9, w_CI9, w_MX, w_cont, lget, sto1, sto2, wideV, vo, vo_rv, isR, isR_rv, rv, fget, fput, cats, Value.category, List.headD_cons, List.getD_cons_zero, List.getD_cons_succ, List.drop_succ_cons, List.drop_zero, List.take_succ_cons, List.take_zero, List.reverse_cons, List.reverse_nil, List.nil_append, List.cons_append, List.length_cons, List.length_nil, cond_true, cond_false, and_true, true_and, Nat.zero_add, Nat.add_zero, Nat.reduceAdd, Nat.reduceLT, Nat.reduceLeDiff, Nat.reduceEqDiff, Nat.reduceBEq, Nat.reduceSub, ↓reduceIte, Int32.reduceOfNat, Int64.reduceOfNat, reduceCtorEq, Nat.le_refl, Nat.zero_le, Bool.false_eq_true, beq_self_eq_true, Fin.isValue, Fin.val_zero, Fin.val_one, Fin.reduceFinMk, Fin.val_two, Nat.reduceMod, Bool.or_false, Bool.or_true, Bool.true_or, Bool.false_or, not_true_eq_false, not_false_eq_true, true_or, or_true, implies_true, false_implies, true_implies, Int32.reduceLT, Int32.reduceLE, ↓w_TAB3, ↓w_TAB4, ↓w_TAB5, ↓w_TAB7, ↓w_TAB10, ↓w_LK2, ↓w_LK6, false_and, and_false, i1z, i2z, iz1, im0, im1, l0z, hasK_uI, hasK_uL, hasK_uR, hasK_uZ, hasK_sRow, mR_uI, mR_uL, mR_uZ, mR_sRow, mI_uL, mI_uR, mI_uZ, mL_uI, mL_uR, mL_uZ, mL_sRow, LF.hk hL, layF, LF.r hL, refF, ne_eq, not_false_eq_true, Option.some.injEq, Sum.inl.injEq, Sum.inr.injEq, Prod.mk.injEq, exists_eq_left, exists_eq_left']
      refine QmV_1 hR ?_
      unfold o_letters
      rw [hsl]
      simp only
      rw [if_neg q]
    have hyes : ∀ n, ∀ q : ltF s = true ∧ (if s = 10 then 1 ≤ z.toInt ∧ z.toInt ≤ 40 else z.toInt = 0), n = (if s = 10 then z.toInt.toNat else szF s) → Ct G (MT 181) [.ref 495, .int 1, .int 1] M (fun v' M' => ∃ x_1, v' = some (Value.int x_1) ∧ Go G (MT 204) (QmV M (o_letters S x.toInt v z.toInt)) X 81 [some (.ref 495), some (.int x), some (.long v), none, some (.int z), some (.int (nI s)), some (.int 1), none] [.int x_1] M' 0 0) X := fun n q en => by
      refine m_goes_0 hL ⟨_, rfl, ?_⟩
      have hn : n ≤ 42 := by
        rw [en]
        by_cases e10 : s = 10
        · rw [if_pos e10] at q ⊢; omega
        · rw [if_neg e10]; exact hz
      have r0 := RM_code (v := 0) hR
      have i0 : loS M (uI M 495 3 0) := loS_uI (loS_rfl M) (by omega)
      have z0 : mI (uI M 495 3 0) 495 3 = 0 := by rw [mI_uI, if_pos ⟨rfl, rfl⟩]
      generalize uI M 495 3 0 = Mz at r0 i0 z0 ⊢
      have l0 := r0.1
      have hK0 := r0.2.2.2.2.2.2.2.2.2.2.2
      have hk0 := (hK0 s hs).2.2
      have hk1 := (hK0 s hs).2.1
      rw [hF] at hk0
      have hend : QmV M (o_letters S x.toInt v z.toInt) none (mmP Mz 540 539 s n (lettr v)) := by
        unfold o_letters
        rw [hsl]
        simp only
        rw [if_pos q, ← en]
        refine ⟨rfl, ?_, RM_put r0 hj.dM hs hn, loS_mmP i0 (by omega) (by omega)⟩
        unfold mmP dgR
        rw [mI_nr (by omega), mI_ne (by omega)]
        exact z0
      have hlp := lp_mLetters (G := G) (X := X) (y := some (.int x)) (x := some (.int z)) l0 hK0 hs hn hend n 0 (by omega)
      have e0 : dgR (uI Mz 540 s (nI n)) 539 (42 * s) 0 (lettr v) = uI Mz 540 s (nI n) := by
        unfold dgR
        rw [sRow_congr (g := mI (uI Mz 540 s (nI n)) 539) (fun i => if_neg (by omega)), sRow_id]
      rw [e0] at hlp
      refine r_X12_letters (fun n => n == 117 || n == 5 || n == 81) 60 ?_
      simp only [cd_X12_letters, cf_X12_letters, wp, wq, wpI, cdF, w_CI, w_CL, w_CN, w_LI, w_LL, w_LA, w_SI, w_SL, w_SA, w_INC, w_II, w_IId, w_LLb, w_LLd, w_LS, w_I1, w_L1, w_I2L, w_L2I, w_CMP, w_DUP, w_POP, w_DUP2, w_IF, w_IC, w_GO, w_NUL, w_ACN, prs, w_GF, w_PF, w_GS, w_IAL, w_LEN, w_LAL, w_ZAL, w_AAL, w_IAS, w_LAS, w_ZAS, w_AAS, w_RI, w_RL, w_RA, w_NEW, w_NA, w_MNA, w_OI, w_THR, w_CV, w_CS, w_CN9, w_CI9, w_MX, w_cont, lget, sto1, sto2, wideV, vo, vo_rv, isR, isR_rv, rv, fget, fput, cats, Value.category, List.headD_cons, List.getD_cons_zero, List.getD_cons_succ, List.drop_succ_cons, List.drop_zero, List.take_succ_cons, List.take_zero, List.reverse_cons, List.reverse_nil, List.nil_append, List.cons_append, List.length_cons, List.length_nil, cond_true, cond_false, and_true, true_and, Nat.zero_add, Nat.add_zero, Nat.reduceAdd, Nat.reduceLT, Nat.reduceLeDiff, Nat.reduceEqDiff, Nat.reduceBEq, Nat.reduceSub, ↓reduceIte, Int32.reduceOfNat, Int64.reduceOfNat, reduceCtorEq, Nat.le_refl, Nat.zero_le, Bool.false_eq_true, beq_self_eq_true, Fin.isValue, Fin.val_zero, Fin.val_one, Fin.reduceFinMk, Fin.val_two, Nat.reduceMod, Bool.or_false, Bool.or_true, Bool.true_or, Bool.false_or, not_true_eq_false, not_false_eq_true, true_or, or_true, implies_true, false_implies, true_implies, Int32.reduceLT, Int32.reduceLE, ↓w_TAB3, ↓w_TAB4, ↓w_TAB5, ↓w_TAB7, ↓w_TAB10, ↓w_LK2, ↓w_LK6, false_and, and_false, i1z, i2z, iz1, im0, im1, l0z, LF.hk l0, layF, LF.r l0, refF, ne_eq, not_false_eq_true, Option.some.injEq, Sum.inl.injEq, Prod.mk.injEq, exists_eq_left, exists_eq_left', cs, hk0, hk1, hasK_uI, mR_uI]
      have f1 := hfs.1 q.1
      refine ⟨vp_in_nI hs (by omega), and_ii (fun q2 => ?_) (fun q2 => ?_)⟩
      · have e10 : ¬ s = 10 := fun e => by rw [if_pos e] at f1; exact q2 (by rw [f1]; rfl)
        rw [if_neg e10] at en
        subst en
        exact ⟨vp_in_nI hs (by omega), vp_in_nI hs (by omega), hlp⟩
      · have q2 := Classical.not_not.mp q2
        have e10 : s = 10 := by
          apply Classical.byContradiction
          intro e
          rw [if_neg e] at f1
          rw [f1] at q2
          exact absurd q2 (by decide)
        rw [if_pos e10] at en
        have ez : z = nI n := by
          rw [en]
          have := q.2
          rw [if_pos e10] at this
          exact w2i (by omega)
        rw [ez]
        rw [ez] at hlp
        exact ⟨vp_in_nI hs (by omega), hlp⟩
    refine r_X12_letters (fun n => n == 5 || n == 81) 60 ?_
    simp only [cd_X12_letters, cf_X12_letters, wp, wq, wpI, cdF, w_CI, w_CL, w_CN, w_LI, w_LL, w_LA, w_SI, w_SL, w_SA, w_INC, w_II, w_IId, w_LLb, w_LLd, w_LS, w_I1, w_L1, w_I2L, w_L2I, w_CMP, w_DUP, w_POP, w_DUP2, w_IF, w_IC, w_GO, w_NUL, w_ACN, prs, w_GF, w_PF, w_GS, w_IAL, w_LEN, w_LAL, w_ZAL, w_AAL, w_IAS, w_LAS, w_ZAS, w_AAS, w_RI, w_RL, w_RA, w_NEW, w_NA, w_MNA, w_OI, w_THR, w_CV, w_CS, w_CN9, w_CI9, w_MX, w_cont, lget, sto1, sto2, wideV, vo, vo_rv, isR, isR_rv, rv, fget, fput, cats, Value.category, List.headD_cons, List.getD_cons_zero, List.getD_cons_succ, List.drop_succ_cons, List.drop_zero, List.take_succ_cons, List.take_zero, List.reverse_cons, List.reverse_nil, List.nil_append, List.cons_append, List.length_cons, List.length_nil, cond_true, cond_false, and_true, true_and, Nat.zero_add, Nat.add_zero, Nat.reduceAdd, Nat.reduceLT, Nat.reduceLeDiff, Nat.reduceEqDiff, Nat.reduceBEq, Nat.reduceSub, ↓reduceIte, Int32.reduceOfNat, Int64.reduceOfNat, reduceCtorEq, Nat.le_refl, Nat.zero_le, Bool.false_eq_true, beq_self_eq_true, Fin.isValue, Fin.val_zero, Fin.val_one, Fin.reduceFinMk, Fin.val_two, Nat.reduceMod, Bool.or_false, Bool.or_true, Bool.true_or, Bool.false_or, not_true_eq_false, not_false_eq_true, true_or, or_true, implies_true, false_implies, true_implies, Int32.reduceLT, Int32.reduceLE, ↓w_TAB3, ↓w_TAB4, ↓w_TAB5, ↓w_TAB7, ↓w_TAB10, ↓w_LK2, ↓w_LK6, false_and, and_false, i1z, i2z, iz1, im0, im1, l0z, hasK_uI, hasK_uL, hasK_uR, hasK_uZ, hasK_sRow, mR_uI, mR_uL, mR_uZ, mR_sRow, mI_uL, mI_uR, mI_uZ, mL_uI, mL_uR, mL_uZ, mL_sRow, LF.hk hL, layF, LF.r hL, refF, ne_eq, not_false_eq_true, Option.some.injEq, Sum.inl.injEq, Sum.inr.injEq, Prod.mk.injEq, exists_eq_left, exists_eq_left', h0, cs, hk2]
    refine ⟨vp_in_nI hs (by omega), and_ii (fun q => ?_) (fun q => ⟨vp_in_nI hs (by omega), ?_⟩)⟩
    · have hlt : ltF s = false := by
        cases e : ltF s
        · rfl
        · exfalso
          have := hfs.1 e
          rw [i_le, tf, this] at q
          split at q <;> simp at q
      exact hno (fun q3 => by rw [hlt] at q3; simp at q3)
    · have hlt : ltF s = true := by
        cases e : ltF s
        · exfalso
          have := hfs.2 e
          exact q (by rw [i_le, tf]; simp; omega)
        · rfl
      have f1 := hfs.1 hlt
      refine and_ii (fun q2 => and_ii (fun q3 => ?_) (fun q3 => ?_)) (fun q2 => and_ii (fun q3 => ?_) (fun q3 => and_ii (fun q4 => ?_) (fun q4 => ?_)))
      · have e10 : ¬ s = 10 := fun e => by rw [if_pos e] at f1; exact q2 (by rw [f1]; rfl)
        exact hno (fun q5 => by rw [if_neg e10] at q5; exact q3 (by rw [i_eq]; exact q5.2))
      · have e10 : ¬ s = 10 := fun e => by rw [if_pos e] at f1; exact q2 (by rw [f1]; rfl)
        have q3 := Classical.not_not.mp q3
        exact hyes _ ⟨hlt, by rw [if_neg e10, q3]; rfl⟩ rfl
      · exact hno (fun q5 => by rw [if_pos (h10 f1 q2)] at q5; (simp only [i_lt, i_le, i_eq, l_lt, l_le, l_eq, Int32.toInt_toInt64, Int32.reduceToInt, Int64.reduceToInt, ne_eq, Classical.not_not] at *; omega))
      · exact hno (fun q5 => by rw [if_pos (h10 f1 q2)] at q5; (simp only [i_lt, i_le, i_eq, l_lt, l_le, l_eq, Int32.toInt_toInt64, Int32.reduceToInt, Int64.reduceToInt, ne_eq, Classical.not_not] at *; omega))
      · exact hyes _ ⟨hlt, by rw [if_pos (h10 f1 q2)]; (simp only [i_lt, i_le, i_eq, l_lt, l_le, l_eq, Int32.toInt_toInt64, Int32.reduceToInt, Int64.reduceToInt, ne_eq, Classical.not_not] at *; omega)⟩ rfl
  · refine r_X12_letters (fun n => n == 5 || n == 81) 60 ?_
    simp only [cd_X12_letters, cf_X12_letters, wp, wq, wpI, cdF, w_CI, w_CL, w_CN, w_LI, w_LL, w_LA, w_SI, w_SL, w_SA, w_INC, w_II, w_IId, w_LLb, w_LLd, w_LS, w_I1, w_L1, w_I2L, w_L2I, w_CMP, w_DUP, w_POP, w_DUP2, w_IF, w_IC, w_GO, w_NUL, w_ACN, prs, w_GF, w_PF, w_GS, w_IAL, w_LEN, w_LAL, w_ZAL, w_AAL, w_IAS, w_LAS, w_ZAS, w_AAS, w_RI, w_RL, w_RA, w_NEW, w_NA, w_MNA, w_OI, w_THR, w_CV, w_CS, w_CN9, w_CI9, w_MX, w_cont, lget, sto1, sto2, wideV, vo, vo_rv, isR, isR_rv, rv, fget, fput, cats, Value.category, List.headD_cons, List.getD_cons_zero, List.getD_cons_succ, List.drop_succ_cons, List.drop_zero, List.take_succ_cons, List.take_zero, List.reverse_cons, List.reverse_nil, List.nil_append, List.cons_append, List.length_cons, List.length_nil, cond_true, cond_false, and_true, true_and, Nat.zero_add, Nat.add_zero, Nat.reduceAdd, Nat.reduceLT, Nat.reduceLeDiff, Nat.reduceEqDiff, Nat.reduceBEq, Nat.reduceSub, ↓reduceIte, Int32.reduceOfNat, Int64.reduceOfNat, reduceCtorEq, Nat.le_refl, Nat.zero_le, Bool.false_eq_true, beq_self_eq_true, Fin.isValue, Fin.val_zero, Fin.val_one, Fin.reduceFinMk, Fin.val_two, Nat.reduceMod, Bool.or_false, Bool.or_true, Bool.true_or, Bool.false_or, not_true_eq_false, not_false_eq_true, true_or, or_true, implies_true, false_implies, true_implies, Int32.reduceLT, Int32.reduceLE, ↓w_TAB3, ↓w_TAB4, ↓w_TAB5, ↓w_TAB7, ↓w_TAB10, ↓w_LK2, ↓w_LK6, false_and, and_false, i1z, i2z, iz1, im0, im1, l0z, hasK_uI, hasK_uL, hasK_uR, hasK_uZ, hasK_sRow, mR_uI, mR_uL, mR_uZ, mR_sRow, mI_uL, mI_uR, mI_uZ, mL_uI, mL_uR, mL_uZ, mL_sRow, LF.hk hL, layF, LF.r hL, refF, ne_eq, not_false_eq_true, Option.some.injEq, Sum.inl.injEq, Sum.inr.injEq, Prod.mk.injEq, exists_eq_left, exists_eq_left']
    refine m_goes_1 hL ⟨_, rfl, ?_⟩
    refine r_X12_letters (fun n => n == 5 || n == 81) 60 ?_
    simp only [cd_X12_letters, cf_X12_letters, wp, wq, wpI, cdF, w_CI, w_CL, w_CN, w_LI, w_LL, w_LA, w_SI, w_SL, w_SA, w_INC, w_II, w_IId, w_LLb, w_LLd, w_LS, w_I1, w_L1, w_I2L, w_L2I, w_CMP, w_DUP, w_POP, w_DUP2, w_IF, w_IC, w_GO, w_NUL, w_ACN, prs, w_GF, w_PF, w_GS, w_IAL, w_LEN, w_LAL, w_ZAL, w_AAL, w_IAS, w_LAS, w_ZAS, w_AAS, w_RI, w_RL, w_RA, w_NEW, w_NA, w_MNA, w_OI, w_THR, w_CV, w_CS, w_CN9, w_CI9, w_MX, w_cont, lget, sto1, sto2, wideV, vo, vo_rv, isR, isR_rv, rv, fget, fput, cats, Value.category, List.headD_cons, List.getD_cons_zero, List.getD_cons_succ, List.drop_succ_cons, List.drop_zero, List.take_succ_cons, List.take_zero, List.reverse_cons, List.reverse_nil, List.nil_append, List.cons_append, List.length_cons, List.length_nil, cond_true, cond_false, and_true, true_and, Nat.zero_add, Nat.add_zero, Nat.reduceAdd, Nat.reduceLT, Nat.reduceLeDiff, Nat.reduceEqDiff, Nat.reduceBEq, Nat.reduceSub, ↓reduceIte, Int32.reduceOfNat, Int64.reduceOfNat, reduceCtorEq, Nat.le_refl, Nat.zero_le, Bool.false_eq_true, beq_self_eq_true, Fin.isValue, Fin.val_zero, Fin.val_one, Fin.reduceFinMk, Fin.val_two, Nat.reduceMod, Bool.or_false, Bool.or_true, Bool.true_or, Bool.false_or, not_true_eq_false, not_false_eq_true, true_or, or_true, implies_true, false_implies, true_implies, Int32.reduceLT, Int32.reduceLE, ↓w_TAB3, ↓w_TAB4, ↓w_TAB5, ↓w_TAB7, ↓w_TAB10, ↓w_LK2, ↓w_LK6, false_and, and_false, i1z, i2z, iz1, im0, im1, l0z, hasK_uI, hasK_uL, hasK_uR, hasK_uZ, hasK_sRow, mR_uI, mR_uL, mR_uZ, mR_sRow, mI_uL, mI_uR, mI_uZ, mL_uI, mL_uR, mL_uZ, mL_sRow, LF.hk hL, layF, LF.r hL, refF, ne_eq, not_false_eq_true, Option.some.injEq, Sum.inl.injEq, Sum.inr.injEq, Prod.mk.injEq, exists_eq_left, exists_eq_left']
    refine QmV_1 hR ?_
    unfold o_letters
    rw [hsl]
end LET
