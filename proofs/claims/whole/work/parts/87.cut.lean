/-! cutoff: the class -/
section CUT
variable {G : En} {M M0 Mz M' : Mem} {Q : Option Value → Mem → Prop} {X : String → Mem → Prop} {S : Sw} {t a j k v i np T N A B d : Nat} {x y : Int32} {z : Int64} {u : Int} {w c : Nat → Nat} {o : Nat} {p : Py} {L : Nat → Nat → Int}
/-- the first k from d on are settled -/
def stk (L : Nat → Nat → Int) (d k b i : Nat) : Int := if b = 501 ∧ d ≤ i ∧ i < d + k then L 501 i + L 500 i else if b = 500 ∧ d ≤ i ∧ i < d + k then 0 else L b i
theorem stk_0 : stk L d 0 = L := by
  funext b i; unfold stk; rw [if_neg (by omega), if_neg (by omega)]
theorem stk_s : up2 (up2 (stk L d k) 501 (d + k) (stk L d k 501 (d + k) + stk L d k 500 (d + k))) 500 (d + k) 0 = stk L d (k + 1) := by
  have e1 : stk L d k 501 (d + k) = L 501 (d + k) := by unfold stk; rw [if_neg (by omega), if_neg (by omega)]
  have e2 : stk L d k 500 (d + k) = L 500 (d + k) := by unfold stk; rw [if_neg (by omega), if_neg (by omega)]
  rw [e1, e2]
  funext b i
  unfold up2 stk
  by_cases q1 : b = 500 ∧ i = d + k
  · rw [if_pos q1, if_neg (by omega), if_pos (by omega)]
  · rw [if_neg q1]
    by_cases q2 : b = 501 ∧ i = d + k
    · rw [if_pos q2, if_pos (by omega), q2.2]
    · rw [if_neg q2]
      by_cases q3 : b = 501 ∧ d ≤ i ∧ i < d + k
      · rw [if_pos q3, if_pos (by omega)]
      · rw [if_neg q3]
        by_cases q4 : b = 500 ∧ d ≤ i ∧ i < d + k
        · rw [if_pos q4, if_neg (show ¬ (b = 501 ∧ d ≤ i ∧ i < d + (k + 1)) by omega), if_pos (show b = 500 ∧ d ≤ i ∧ i < d + (k + 1) by omega)]
        · rw [if_neg q4, if_neg (show ¬ (b = 501 ∧ d ≤ i ∧ i < d + (k + 1)) by omega), if_neg (show ¬ (b = 500 ∧ d ≤ i ∧ i < d + (k + 1)) by omega)]
theorem stk_all : stk (stk L 0 6) 6 7 = stl L := by
  funext b i
  unfold stk stl
  by_cases q1 : b = 501
  · subst q1
    by_cases q2 : i < 6
    · simp [q2, show i < 13 by omega, show ¬ 6 ≤ i by omega]
    · by_cases q3 : i < 13
      · simp [q2, q3, show 6 ≤ i by omega]
      · simp [q2, q3]
  · by_cases q0 : b = 500
    · subst q0
      by_cases q2 : i < 6
      · simp [q2, show i < 13 by omega, show ¬ 6 ≤ i by omega]
      · by_cases q3 : i < 13
        · simp [q2, q3, show 6 ≤ i by omega]
        · simp [q2, q3]
    · simp [q1, q0]
theorem RC_L (h : RC w o c S M) (h60 : sN S 39 ≤ 60) (ha : 141 ≤ a ∧ a ≤ 146) (hL' : cL L (uL M a j z)) : RC w o c (wL S L) (uL M a j z) := by
  obtain ⟨hL, hN, hI, hLl, hF, hS, hA, hC, hP, hRr, hD, hT, hZ⟩ := h
  have h39 := h60
  exact ⟨hL, (by repeat (first | exact hN | refine cN_uI ?_ (by omega) | refine cN_uI ?_ | refine cN_uL ?_ (by omega) | refine cN_uL ?_ | refine cN_uR ?_ (by omega) | refine cN_uR ?_ | refine cN_sRow ?_ (by omega) | refine cN_sRow ?_ | refine cN_uZ ?_)), (by repeat (first | exact hI | refine cI_uI ?_ (by omega) | refine cI_uI ?_ | refine cI_uL ?_ (by omega) | refine cI_uL ?_ | refine cI_uR ?_ (by omega) | refine cI_uR ?_ | refine cI_sRow ?_ (by omega) | refine cI_sRow ?_ | refine cI_uZ ?_)), hL', (by repeat (first | exact hF | refine cF_uI ?_ (by omega) | refine cF_uI ?_ | refine cF_uL ?_ (by omega) | refine cF_uL ?_ | refine cF_uR ?_ (by omega) | refine cF_uR ?_ | refine cF_sRow ?_ (by omega) | refine cF_sRow ?_ | refine cF_uZ ?_)), (by repeat (first | exact hS | refine cS_uI ?_ (by omega) | refine cS_uI ?_ | refine cS_uL ?_ (by omega) | refine cS_uL ?_ | refine cS_uR ?_ (by omega) | refine cS_uR ?_ | refine cS_sRow ?_ (by omega) | refine cS_sRow ?_ | refine cS_uZ ?_)), (by repeat (first | exact hA | refine cA_uI ?_ (by omega) | refine cA_uI ?_ | refine cA_uL ?_ (by omega) | refine cA_uL ?_ | refine cA_uR ?_ (by omega) | refine cA_uR ?_ | refine cA_sRow ?_ (by omega) | refine cA_sRow ?_ | refine cA_uZ ?_)), (by repeat (first | exact hC | refine cC_uI ?_ (by omega) | refine cC_uI ?_ | refine cC_uL ?_ (by omega) | refine cC_uL ?_ | refine cC_uR ?_ (by omega) | refine cC_uR ?_ | refine cC_sRow ?_ (by omega) | refine cC_sRow ?_ | refine cC_uZ ?_)), (by repeat (first | exact hP | refine cP_uI ?_ h39 (by omega) | refine cP_uL ?_ h39 (by omega) | refine cP_uR ?_ h39 (by omega) | refine cP_sRow ?_ h39 (by omega) | refine cP_uZ ?_)), (by repeat (first | exact hRr | refine cR_uI ?_ (by omega) | refine cR_uI ?_ | refine cR_uL ?_ (by omega) | refine cR_uL ?_ | refine cR_uR ?_ (by omega) | refine cR_uR ?_ | refine cR_sRow ?_ (by omega) | refine cR_sRow ?_ | refine cR_uZ ?_)), (by repeat (first | exact hD | refine msgC_uI ?_ (by omega) | refine msgC_uI ?_ | refine msgC_uL ?_ (by omega) | refine msgC_uL ?_ | refine msgC_uR ?_ (by omega) | refine msgC_uR ?_ | refine msgC_sRow ?_ (by omega) | refine msgC_sRow ?_ | refine msgC_uZ ?_)), (by repeat (first | exact hT | refine BYL_uI ?_ (by omega) | refine BYL_uI ?_ | refine BYL_uL ?_ (by omega) | refine BYL_uL ?_ | refine BYL_uR ?_ (by omega) | refine BYL_uR ?_ | refine BYL_sRow ?_ (by omega) | refine BYL_sRow ?_ | refine BYL_uZ ?_)), (by repeat (first | exact hZ | refine BYL_uI ?_ (by omega) | refine BYL_uI ?_ | refine BYL_uL ?_ (by omega) | refine BYL_uL ?_ | refine BYL_uR ?_ (by omega) | refine BYL_uR ?_ | refine BYL_sRow ?_ (by omega) | refine BYL_sRow ?_ | refine BYL_uZ ?_))⟩
theorem lp_settle (h60 : sN S 39 ≤ 60) (hd : (A = 141 ∧ B = 142 ∧ d = 0 ∧ N = 6) ∨ (A = 143 ∧ B = 144 ∧ d = 6 ∧ N = 7)) (hQ : ∀ M', RC w o c (wL S (stk L d N)) M' → hiS M0 M' → Q none M') : ∀ (m k : Nat), m + k = N → ∀ Mk, RC w o c (wL S (stk L d k)) Mk → hiS M0 Mk → Go G (MT 92) Q X 2 [some (.ref A), some (.ref B), some (.int (nI k))] [] Mk 0 0 := by
  intro m
  induction m with
  | zero =>
    intro k hk Mk r1 i1
    have hk : k = N := by omega
    subst hk
    have hL := r1.1
    have kA : hasK Mk A (.inl (.long, k)) := by rcases hd with ⟨rfl, rfl, rfl, rfl⟩ | ⟨rfl, rfl, rfl, rfl⟩ <;> (rw [hL.hk]; rfl)
    refine r_X8_settleRow (fun n => n == 2) 40 ?_
    simp only [cd_X8_settleRow, cf_X8_settleRow, wp, wq, wpI, cdF, w_CI, w_CL, w_CN, w_LI, w_LL, w_LA, w_SI, w_SL, w_SA, w_INC, w_II, w_IId, w_LLb, w_LLd, w_LS, w_I1, w_L1, w_I2L, w_L2I, w_CMP, w_DUP, w_POP, w_DUP2, w_IF, w_IC, w_GO, w_NUL, w_ACN, prs, w_GF, w_PF, w_GS, w_IAL, w_LEN, w_LAL, w_ZAL, w_AAL, w_IAS, w_LAS, w_ZAS, w_AAS, w_RI, w_RL, w_RA, w_NEW, w_NA, w_MNA, w_OI, w_THR, w_CV, w_CS, w_CN9, w_CI9, w_MX, w_cont, lget, sto1, sto2, wideV, vo, vo_rv, isR, isR_rv, rv, fget, fput, cats, Value.category, List.headD_cons, List.getD_cons_zero, List.getD_cons_succ, List.drop_succ_cons, List.drop_zero, List.take_succ_cons, List.take_zero, List.reverse_cons, List.reverse_nil, List.nil_append, List.cons_append, List.length_cons, List.length_nil, cond_true, cond_false, and_true, true_and, Nat.zero_add, Nat.add_zero, Nat.reduceAdd, Nat.reduceLT, Nat.reduceLeDiff, Nat.reduceEqDiff, Nat.reduceBEq, Nat.reduceSub, ↓reduceIte, Int32.reduceOfNat, Int64.reduceOfNat, reduceCtorEq, Nat.le_refl, Nat.zero_le, Bool.false_eq_true, beq_self_eq_true, Fin.isValue, Fin.val_zero, Fin.val_one, Fin.reduceFinMk, Fin.val_two, Nat.reduceMod, Bool.or_false, Bool.or_true, Bool.true_or, Bool.false_or, not_true_eq_false, not_false_eq_true, true_or, or_true, implies_true, false_implies, true_implies, Int32.reduceLT, Int32.reduceLE, ↓w_TAB3, ↓w_TAB4, ↓w_TAB5, ↓w_TAB7, ↓w_TAB10, ↓w_LK2, ↓w_LK6, false_and, and_false, i1z, i2z, iz1, im0, im1, l0z]
    exact ⟨_, _, ⟨kA, Or.inr rfl⟩, fun _ => hQ Mk r1 i1, fun q => absurd (nI_le (Nat.le_refl k) (by omega)) q⟩
  | succ m ih =>
    intro k hk Mk r1 i1
    have hL := r1.1
    have kA : hasK Mk A (.inl (.long, N)) := by rcases hd with ⟨rfl, rfl, rfl, rfl⟩ | ⟨rfl, rfl, rfl, rfl⟩ <;> (rw [hL.hk]; rfl)
    have kB : hasK Mk B (.inl (.long, N)) := by rcases hd with ⟨rfl, rfl, rfl, rfl⟩ | ⟨rfl, rfl, rfl, rfl⟩ <;> (rw [hL.hk]; rfl)
    have hAB : A ≠ B := by omega
    have hLl : cL (stk L d k) Mk := r1.2.2.2.1
    have mA : mL Mk A k = lI (stk L d k 500 (d + k)) := by
      rcases hd with ⟨rfl, rfl, rfl, rfl⟩ | ⟨rfl, rfl, rfl, rfl⟩
      · rw [Nat.zero_add]; exact (hLl.1 k (by omega)).1
      · exact (hLl.2.1 k (by omega)).1
    have mB : mL Mk B k = lI (stk L d k 501 (d + k)) := by
      rcases hd with ⟨rfl, rfl, rfl, rfl⟩ | ⟨rfl, rfl, rfl, rfl⟩
      · rw [Nat.zero_add]; exact (hLl.1 k (by omega)).2.1
      · exact (hLl.2.1 k (by omega)).2
    have ck := nI_clamp (n := k) (by omega)
    have tk := nI_toInt (n := k) (by omega)
    have tN := nI_toInt (n := N) (by omega)
    have eAB : (A = B) = False := eq_false hAB
    have hv := vp_in_nI (n := k) (N := N) (by omega) (by omega)
    refine r_X8_settleRow (fun n => n == 2) 40 ?_
    simp only [cd_X8_settleRow, cf_X8_settleRow, wp, wq, wpI, cdF, w_CI, w_CL, w_CN, w_LI, w_LL, w_LA, w_SI, w_SL, w_SA, w_INC, w_II, w_IId, w_LLb, w_LLd, w_LS, w_I1, w_L1, w_I2L, w_L2I, w_CMP, w_DUP, w_POP, w_DUP2, w_IF, w_IC, w_GO, w_NUL, w_ACN, prs, w_GF, w_PF, w_GS, w_IAL, w_LEN, w_LAL, w_ZAL, w_AAL, w_IAS, w_LAS, w_ZAS, w_AAS, w_RI, w_RL, w_RA, w_NEW, w_NA, w_MNA, w_OI, w_THR, w_CV, w_CS, w_CN9, w_CI9, w_MX, w_cont, lget, sto1, sto2, wideV, vo, vo_rv, isR, isR_rv, rv, fget, fput, cats, Value.category, List.headD_cons, List.getD_cons_zero, List.getD_cons_succ, List.drop_succ_cons, List.drop_zero, List.take_succ_cons, List.take_zero, List.reverse_cons, List.reverse_nil, List.nil_append, List.cons_append, List.length_cons, List.length_nil, cond_true, cond_false, and_true, true_and, Nat.zero_add, Nat.add_zero, Nat.reduceAdd, Nat.reduceLT, Nat.reduceLeDiff, Nat.reduceEqDiff, Nat.reduceBEq, Nat.reduceSub, ↓reduceIte, Int32.reduceOfNat, Int64.reduceOfNat, reduceCtorEq, Nat.le_refl, Nat.zero_le, Bool.false_eq_true, beq_self_eq_true, Fin.isValue, Fin.val_zero, Fin.val_one, Fin.reduceFinMk, Fin.val_two, Nat.reduceMod, Bool.or_false, Bool.or_true, Bool.true_or, Bool.false_or, not_true_eq_false, not_false_eq_true, true_or, or_true, implies_true, false_implies, true_implies, Int32.reduceLT, Int32.reduceLE, ↓w_TAB3, ↓w_TAB4, ↓w_TAB5, ↓w_TAB7, ↓w_TAB10, ↓w_LK2, ↓w_LK6, false_and, and_false, i1z, i2z, iz1, im0, im1, l0z, ck, mA, mB, mL_uL, hasK_uL, nI_1, lI_add, eAB]
    refine ⟨_, _, ⟨kA, Or.inr rfl⟩, and_ii (fun q => ?_) (fun _ => ⟨_, _, ⟨kB, Or.inr rfl⟩, and_ii (fun q => ?_) (fun _ => ⟨_, kB, hv, _, kA, hv, _, kB, hv, _, kA, hv, ?_⟩)⟩)⟩
    · exfalso
      rw [show (Int32.ofNat N) = nI N from rfl] at q
      (simp only [i_lt, i_le, i_eq, l_lt, l_le, l_eq, Int32.toInt_toInt64, Int32.reduceToInt, Int64.reduceToInt, ne_eq, Classical.not_not] at *; omega)
    · exfalso
      rw [show (Int32.ofNat N) = nI N from rfl] at q
      (simp only [i_lt, i_le, i_eq, l_lt, l_le, l_eq, Int32.toInt_toInt64, Int32.reduceToInt, Int64.reduceToInt, ne_eq, Classical.not_not] at *; omega)
    · have r2 : RC w o c (wL S (stk L d (k + 1))) (uL (uL Mk B k (lI (stk L d k 501 (d + k) + stk L d k 500 (d + k)))) A k 0) := by
        rw [← stk_s]
        rcases hd with ⟨rfl, rfl, rfl, rfl⟩ | ⟨rfl, rfl, rfl, rfl⟩
        · rw [Nat.zero_add] at *
          have s1 := RC_L (L := up2 (stk L 0 k) 501 k (stk L 0 k 501 k + stk L 0 k 500 k)) (a := 142) (j := k) r1 h60 (by omega) (cL_142 hLl (by omega) rfl)
          exact RC_L (S := wL S (up2 (stk L 0 k) 501 k (stk L 0 k 501 k + stk L 0 k 500 k))) s1 h60 (by omega) (cL_141 s1.2.2.2.1 (by omega) rfl)
        · have s1 := RC_L (L := up2 (stk L 6 k) 501 (6 + k) (stk L 6 k 501 (6 + k) + stk L 6 k 500 (6 + k))) (a := 144) (j := k) r1 h60 (by omega) (cL_144 hLl (by omega) rfl)
          exact RC_L (S := wL S (up2 (stk L 6 k) 501 (6 + k) (stk L 6 k 501 (6 + k) + stk L 6 k 500 (6 + k)))) s1 h60 (by omega) (cL_143 s1.2.2.2.1 (by omega) rfl)
      exact ih (k + 1) (by omega) _ r2 (hiS_uL (hiS_uL i1 (by omega)) (by omega))
theorem c_settle (hR : RC w o c S M) (hi : hiS M0 M) (h60 : sN S 39 ≤ 60) (hQ : ∀ M', RC w o c (wL S (stl (sL S))) M' → hiS M0 M' → Q none M') : Ct G (MT 91) [.ref 140] M Q X := by
  have hL := hR.1
  refine Ct.go (L0 := [some (.ref 140)]) (by decide +kernel) rfl rfl ?_
  refine r_X8_settle (fun n => n == 11 || n == 22) 40 ?_
  simp only [cd_X8_settle, cf_X8_settle, wp, wq, wpI, cdF, w_CI, w_CL, w_CN, w_LI, w_LL, w_LA, w_SI, w_SL, w_SA, w_INC, w_II, w_IId, w_LLb, w_LLd, w_LS, w_I1, w_L1, w_I2L, w_L2I, w_CMP, w_DUP, w_POP, w_DUP2, w_IF, w_IC, w_GO, w_NUL, w_ACN, prs, w_GF, w_PF, w_GS, w_IAL, w_LEN, w_LAL, w_ZAL, w_AAL, w_IAS, w_LAS, w_ZAS, w_AAS, w_RI, w_RL, w_RA, w_NEW, w_NA, w_MNA, w_OI, w_THR, w_CV, w_CS, w_CN9, w_CI9, w_MX, w_cont, lget, sto1, sto2, wideV, vo, vo_rv, isR, isR_rv, rv, fget, fput, cats, Value.category, List.headD_cons, List.getD_cons_zero, List.getD_cons_succ, List.drop_succ_cons, List.drop_zero, List.take_succ_cons, List.take_zero, List.reverse_cons, List.reverse_nil, List.nil_append, List.cons_append, List.length_cons, List.length_nil, cond_true, cond_false, and_true, true_and, Nat.zero_add, Nat.add_zero, Nat.reduceAdd, Nat.reduceLT, Nat.reduceLeDiff, Nat.reduceEqDiff, Nat.reduceBEq, Nat.reduceSub, ↓reduceIte, Int32.reduceOfNat, Int64.reduceOfNat, reduceCtorEq, Nat.le_refl, Nat.zero_le, Bool.false_eq_true, beq_self_eq_true, Fin.isValue, Fin.val_zero, Fin.val_one, Fin.reduceFinMk, Fin.val_two, Nat.reduceMod, Bool.or_false, Bool.or_true, Bool.true_or, Bool.false_or, not_true_eq_false, not_false_eq_true, true_or, or_true, implies_true, false_implies, true_implies, Int32.reduceLT, Int32.reduceLE, ↓w_TAB3, ↓w_TAB4, ↓w_TAB5, ↓w_TAB7, ↓w_TAB10, ↓w_LK2, ↓w_LK6, false_and, and_false, i1z, i2z, iz1, im0, im1, l0z, hasK_uI, hasK_uL, hasK_uR, hasK_uZ, hasK_sRow, mR_uI, mR_uL, mR_uZ, mR_sRow, mI_uL, mI_uR, mI_uZ, mL_uI, mL_uR, mL_uZ, mL_sRow, LF.hk hL, layF, LF.r hL, refF, ne_eq, not_false_eq_true, Option.some.injEq, Sum.inl.injEq, Sum.inr.injEq, Prod.mk.injEq, exists_eq_left, exists_eq_left']
  refine Ct.go (L0 := [some (.ref 141), some (.ref 142), none]) (by decide +kernel) rfl rfl ?_
  refine r_X8_settleRow (fun n => n == 2) 40 ?_
  simp only [cd_X8_settleRow, cf_X8_settleRow, wp, wq, wpI, cdF, w_CI, w_CL, w_CN, w_LI, w_LL, w_LA, w_SI, w_SL, w_SA, w_INC, w_II, w_IId, w_LLb, w_LLd, w_LS, w_I1, w_L1, w_I2L, w_L2I, w_CMP, w_DUP, w_POP, w_DUP2, w_IF, w_IC, w_GO, w_NUL, w_ACN, prs, w_GF, w_PF, w_GS, w_IAL, w_LEN, w_LAL, w_ZAL, w_AAL, w_IAS, w_LAS, w_ZAS, w_AAS, w_RI, w_RL, w_RA, w_NEW, w_NA, w_MNA, w_OI, w_THR, w_CV, w_CS, w_CN9, w_CI9, w_MX, w_cont, lget, sto1, sto2, wideV, vo, vo_rv, isR, isR_rv, rv, fget, fput, cats, Value.category, List.headD_cons, List.getD_cons_zero, List.getD_cons_succ, List.drop_succ_cons, List.drop_zero, List.take_succ_cons, List.take_zero, List.reverse_cons, List.reverse_nil, List.nil_append, List.cons_append, List.length_cons, List.length_nil, cond_true, cond_false, and_true, true_and, Nat.zero_add, Nat.add_zero, Nat.reduceAdd, Nat.reduceLT, Nat.reduceLeDiff, Nat.reduceEqDiff, Nat.reduceBEq, Nat.reduceSub, ↓reduceIte, Int32.reduceOfNat, Int64.reduceOfNat, reduceCtorEq, Nat.le_refl, Nat.zero_le, Bool.false_eq_true, beq_self_eq_true, Fin.isValue, Fin.val_zero, Fin.val_one, Fin.reduceFinMk, Fin.val_two, Nat.reduceMod, Bool.or_false, Bool.or_true, Bool.true_or, Bool.false_or, not_true_eq_false, not_false_eq_true, true_or, or_true, implies_true, false_implies, true_implies, Int32.reduceLT, Int32.reduceLE, ↓w_TAB3, ↓w_TAB4, ↓w_TAB5, ↓w_TAB7, ↓w_TAB10, ↓w_LK2, ↓w_LK6, false_and, and_false, i1z, i2z, iz1, im0, im1, l0z]
  refine lp_settle (S := S) (L := sL S) (A := 141) (B := 142) (d := 0) (N := 6) (M0 := M0) h60 (by omega) (fun M1 r1 i1 => ⟨rfl, ?_⟩) 6 0 (by omega) M (by rw [stk_0]; exact hR) hi
  have hL1 := r1.1
  refine r_X8_settle (fun n => n == 11 || n == 22) 40 ?_
  simp only [cd_X8_settle, cf_X8_settle, wp, wq, wpI, cdF, w_CI, w_CL, w_CN, w_LI, w_LL, w_LA, w_SI, w_SL, w_SA, w_INC, w_II, w_IId, w_LLb, w_LLd, w_LS, w_I1, w_L1, w_I2L, w_L2I, w_CMP, w_DUP, w_POP, w_DUP2, w_IF, w_IC, w_GO, w_NUL, w_ACN, prs, w_GF, w_PF, w_GS, w_IAL, w_LEN, w_LAL, w_ZAL, w_AAL, w_IAS, w_LAS, w_ZAS, w_AAS, w_RI, w_RL, w_RA, w_NEW, w_NA, w_MNA, w_OI, w_THR, w_CV, w_CS, w_CN9, w_CI9, w_MX, w_cont, lget, sto1, sto2, wideV, vo, vo_rv, isR, isR_rv, rv, fget, fput, cats, Value.category, List.headD_cons, List.getD_cons_zero, List.getD_cons_succ, List.drop_succ_cons, List.drop_zero, List.take_succ_cons, List.take_zero, List.reverse_cons, List.reverse_nil, List.nil_append, List.cons_append, List.length_cons, List.length_nil, cond_true, cond_false, and_true, true_and, Nat.zero_add, Nat.add_zero, Nat.reduceAdd, Nat.reduceLT, Nat.reduceLeDiff, Nat.reduceEqDiff, Nat.reduceBEq, Nat.reduceSub, ↓reduceIte, Int32.reduceOfNat, Int64.reduceOfNat, reduceCtorEq, Nat.le_refl, Nat.zero_le, Bool.false_eq_true, beq_self_eq_true, Fin.isValue, Fin.val_zero, Fin.val_one, Fin.reduceFinMk, Fin.val_two, Nat.reduceMod, Bool.or_false, Bool.or_true, Bool.true_or, Bool.false_or, not_true_eq_false, not_false_eq_true, true_or, or_true, implies_true, false_implies, true_implies, Int32.reduceLT, Int32.reduceLE, ↓w_TAB3, ↓w_TAB4, ↓w_TAB5, ↓w_TAB7, ↓w_TAB10, ↓w_LK2, ↓w_LK6, false_and, and_false, i1z, i2z, iz1, im0, im1, l0z, hasK_uI, hasK_uL, hasK_uR, hasK_uZ, hasK_sRow, mR_uI, mR_uL, mR_uZ, mR_sRow, mI_uL, mI_uR, mI_uZ, mL_uI, mL_uR, mL_uZ, mL_sRow, LF.hg hL1, layF, LF.r hL1, refF, ne_eq, not_false_eq_true, Option.some.injEq, Sum.inl.injEq, Sum.inr.injEq, Prod.mk.injEq, exists_eq_left, exists_eq_left']
  refine Ct.go (L0 := [some (.ref 143), some (.ref 144), none]) (by decide +kernel) rfl rfl ?_
  refine r_X8_settleRow (fun n => n == 2) 40 ?_
  simp only [cd_X8_settleRow, cf_X8_settleRow, wp, wq, wpI, cdF, w_CI, w_CL, w_CN, w_LI, w_LL, w_LA, w_SI, w_SL, w_SA, w_INC, w_II, w_IId, w_LLb, w_LLd, w_LS, w_I1, w_L1, w_I2L, w_L2I, w_CMP, w_DUP, w_POP, w_DUP2, w_IF, w_IC, w_GO, w_NUL, w_ACN, prs, w_GF, w_PF, w_GS, w_IAL, w_LEN, w_LAL, w_ZAL, w_AAL, w_IAS, w_LAS, w_ZAS, w_AAS, w_RI, w_RL, w_RA, w_NEW, w_NA, w_MNA, w_OI, w_THR, w_CV, w_CS, w_CN9, w_CI9, w_MX, w_cont, lget, sto1, sto2, wideV, vo, vo_rv, isR, isR_rv, rv, fget, fput, cats, Value.category, List.headD_cons, List.getD_cons_zero, List.getD_cons_succ, List.drop_succ_cons, List.drop_zero, List.take_succ_cons, List.take_zero, List.reverse_cons, List.reverse_nil, List.nil_append, List.cons_append, List.length_cons, List.length_nil, cond_true, cond_false, and_true, true_and, Nat.zero_add, Nat.add_zero, Nat.reduceAdd, Nat.reduceLT, Nat.reduceLeDiff, Nat.reduceEqDiff, Nat.reduceBEq, Nat.reduceSub, ↓reduceIte, Int32.reduceOfNat, Int64.reduceOfNat, reduceCtorEq, Nat.le_refl, Nat.zero_le, Bool.false_eq_true, beq_self_eq_true, Fin.isValue, Fin.val_zero, Fin.val_one, Fin.reduceFinMk, Fin.val_two, Nat.reduceMod, Bool.or_false, Bool.or_true, Bool.true_or, Bool.false_or, not_true_eq_false, not_false_eq_true, true_or, or_true, implies_true, false_implies, true_implies, Int32.reduceLT, Int32.reduceLE, ↓w_TAB3, ↓w_TAB4, ↓w_TAB5, ↓w_TAB7, ↓w_TAB10, ↓w_LK2, ↓w_LK6, false_and, and_false, i1z, i2z, iz1, im0, im1, l0z]
  refine lp_settle (S := S) (L := stk (sL S) 0 6) (A := 143) (B := 144) (d := 6) (N := 7) (M0 := M0) h60 (by omega) (fun M2 r2 i2 => ⟨rfl, ?_⟩) 7 0 (by omega) M1 (by rw [stk_0]; exact r1) i1
  refine r_X8_settle (fun n => n == 11 || n == 22) 40 ?_
  simp only [cd_X8_settle, cf_X8_settle, wp, wq, wpI, cdF, w_CI, w_CL, w_CN, w_LI, w_LL, w_LA, w_SI, w_SL, w_SA, w_INC, w_II, w_IId, w_LLb, w_LLd, w_LS, w_I1, w_L1, w_I2L, w_L2I, w_CMP, w_DUP, w_POP, w_DUP2, w_IF, w_IC, w_GO, w_NUL, w_ACN, prs, w_GF, w_PF, w_GS, w_IAL, w_LEN, w_LAL, w_ZAL, w_AAL, w_IAS, w_LAS, w_ZAS, w_AAS, w_RI, w_RL, w_RA, w_NEW, w_NA, w_MNA, w_OI, w_THR, w_CV, w_CS, w_CN9, w_CI9, w_MX, w_cont, lget, sto1, sto2, wideV, vo, vo_rv, isR, isR_rv, rv, fget, fput, cats, Value.category, List.headD_cons, List.getD_cons_zero, List.getD_cons_succ, List.drop_succ_cons, List.drop_zero, List.take_succ_cons, List.take_zero, List.reverse_cons, List.reverse_nil, List.nil_append, List.cons_append, List.length_cons, List.length_nil, cond_true, cond_false, and_true, true_and, Nat.zero_add, Nat.add_zero, Nat.reduceAdd, Nat.reduceLT, Nat.reduceLeDiff, Nat.reduceEqDiff, Nat.reduceBEq, Nat.reduceSub, ↓reduceIte, Int32.reduceOfNat, Int64.reduceOfNat, reduceCtorEq, Nat.le_refl, Nat.zero_le, Bool.false_eq_true, beq_self_eq_true, Fin.isValue, Fin.val_zero, Fin.val_one, Fin.reduceFinMk, Fin.val_two, Nat.reduceMod, Bool.or_false, Bool.or_true, Bool.true_or, Bool.false_or, not_true_eq_false, not_false_eq_true, true_or, or_true, implies_true, false_implies, true_implies, Int32.reduceLT, Int32.reduceLE, ↓w_TAB3, ↓w_TAB4, ↓w_TAB5, ↓w_TAB7, ↓w_TAB10, ↓w_LK2, ↓w_LK6, false_and, and_false, i1z, i2z, iz1, im0, im1, l0z]
  rw [stk_all] at r2
  exact hQ M2 r2 i2
theorem c_isOver (hL : LF M) (hk : hasK M A (.inr 7)) (h11 : mI M 139 5 = nI (sN S 11)) (h15 : mI M 1 16 = nI (sN S 15)) (hj : Jv t S) (hp : payC M A p) (hb : qI p 47 ≤ 3 ∧ qI p 52 ≤ 4 ∧ qI p 51 ≤ 1005001) (hQ : Q (some (.int (b2i (ovr S p = true)))) M) : Ct G (MT 26) [.ref 139, .ref A] M Q X := by
  have hs := hj.1
  unfold jS at hs
  unfold payC at hp
  have t15 := nI_toInt (n := sN S 15) (by omega)
  have t11 := nI_toInt (n := sN S 11) (by omega)
  have t51 := nI_toInt (n := qI p 51) (by omega)
  have t47 := nI_toInt (n := qI p 47) (by omega)
  have t52 := nI_toInt (n := qI p 52) (by omega)
  have tm : (nI (qI p 51) - 1).toInt = qI p 51 - 1 := by rw [i_sub] <;> rw [t51] <;> simp <;> omega
  have td : (nI (sN S 11) - (nI (qI p 51) - 1)).toInt = sN S 11 - (qI p 51 - 1) := by rw [i_sub] <;> rw [t11, tm] <;> omega
  have hov : (ovr S p = true) ↔ (if qI p 47 = 3 ∧ qI p 52 = 0 then ((sN S 15 : Int) < (sN S 11 : Int) - ((qI p 51 : Int) - 1)) else (qI p 47 = 2 ∨ 2 < qI p 52)) := by
    unfold ovr
    by_cases e : qI p 47 = 3 ∧ qI p 52 = 0
    · rw [if_pos e, if_pos e, decide_eq_true_iff]
    · rw [if_neg e, if_neg e, decide_eq_true_iff]
  have hne : ∀ e : ¬ (qI p 47 = 3 ∧ qI p 52 = 0), Go G (MT 26) Q X 21 [some (.ref 139), some (.ref A)] [] M 0 0 := fun e => by
    rw [if_neg e] at hov
    refine r_X2_isOver (fun n => n == 20) 60 ?_
    simp only [cd_X2_isOver, cf_X2_isOver, wp, wq, wpI, cdF, w_CI, w_CL, w_CN, w_LI, w_LL, w_LA, w_SI, w_SL, w_SA, w_INC, w_II, w_IId, w_LLb, w_LLd, w_LS, w_I1, w_L1, w_I2L, w_L2I, w_CMP, w_DUP, w_POP, w_DUP2, w_IF, w_IC, w_GO, w_NUL, w_ACN, prs, w_GF, w_PF, w_GS, w_IAL, w_LEN, w_LAL, w_ZAL, w_AAL, w_IAS, w_LAS, w_ZAS, w_AAS, w_RI, w_RL, w_RA, w_NEW, w_NA, w_MNA, w_OI, w_THR, w_CV, w_CS, w_CN9, w_CI9, w_MX, w_cont, lget, sto1, sto2, wideV, vo, vo_rv, isR, isR_rv, rv, fget, fput, cats, Value.category, List.headD_cons, List.getD_cons_zero, List.getD_cons_succ, List.drop_succ_cons, List.drop_zero, List.take_succ_cons, List.take_zero, List.reverse_cons, List.reverse_nil, List.nil_append, List.cons_append, List.length_cons, List.length_nil, cond_true, cond_false, and_true, true_and, Nat.zero_add, Nat.add_zero, Nat.reduceAdd, Nat.reduceLT, Nat.reduceLeDiff, Nat.reduceEqDiff, Nat.reduceBEq, Nat.reduceSub, ↓reduceIte, Int32.reduceOfNat, Int64.reduceOfNat, reduceCtorEq, Nat.le_refl, Nat.zero_le, Bool.false_eq_true, beq_self_eq_true, Fin.isValue, Fin.val_zero, Fin.val_one, Fin.reduceFinMk, Fin.val_two, Nat.reduceMod, Bool.or_false, Bool.or_true, Bool.true_or, Bool.false_or, not_true_eq_false, not_false_eq_true, true_or, or_true, implies_true, false_implies, true_implies, Int32.reduceLT, Int32.reduceLE, ↓w_TAB3, ↓w_TAB4, ↓w_TAB5, ↓w_TAB7, ↓w_TAB10, ↓w_LK2, ↓w_LK6, false_and, and_false, i1z, i2z, iz1, im0, im1, l0z, hk, hp]
    refine and_ii (fun q => ?_) (fun q => and_ii (fun q2 => ?_) (fun q2 => and_ii (fun q3 => ?_) (fun q3 => ?_)))
    · rw [b2i_t (by rw [hov]; (simp only [i_lt, i_le, i_eq, l_lt, l_le, l_eq, Int32.toInt_toInt64, Int32.reduceToInt, Int64.reduceToInt, ne_eq, Classical.not_not] at *; omega))] at hQ; exact hQ
    · rw [b2i_t (by rw [hov]; (simp only [i_lt, i_le, i_eq, l_lt, l_le, l_eq, Int32.toInt_toInt64, Int32.reduceToInt, Int64.reduceToInt, ne_eq, Classical.not_not] at *; omega))] at hQ; exact hQ
    · rw [b2i_f (by rw [hov]; (simp only [i_lt, i_le, i_eq, l_lt, l_le, l_eq, Int32.toInt_toInt64, Int32.reduceToInt, Int64.reduceToInt, ne_eq, Classical.not_not] at *; omega))] at hQ; exact hQ
    · rw [b2i_t (by rw [hov]; (simp only [i_lt, i_le, i_eq, l_lt, l_le, l_eq, Int32.toInt_toInt64, Int32.reduceToInt, Int64.reduceToInt, ne_eq, Classical.not_not] at *; omega))] at hQ; exact hQ
  refine Ct.go (L0 := [some (.ref 139), some (.ref A)]) (by decide +kernel) rfl rfl ?_
  refine r_X2_isOver (fun n => n == 21 || n == 20) 60 ?_
  simp only [cd_X2_isOver, cf_X2_isOver, wp, wq, wpI, cdF, w_CI, w_CL, w_CN, w_LI, w_LL, w_LA, w_SI, w_SL, w_SA, w_INC, w_II, w_IId, w_LLb, w_LLd, w_LS, w_I1, w_L1, w_I2L, w_L2I, w_CMP, w_DUP, w_POP, w_DUP2, w_IF, w_IC, w_GO, w_NUL, w_ACN, prs, w_GF, w_PF, w_GS, w_IAL, w_LEN, w_LAL, w_ZAL, w_AAL, w_IAS, w_LAS, w_ZAS, w_AAS, w_RI, w_RL, w_RA, w_NEW, w_NA, w_MNA, w_OI, w_THR, w_CV, w_CS, w_CN9, w_CI9, w_MX, w_cont, lget, sto1, sto2, wideV, vo, vo_rv, isR, isR_rv, rv, fget, fput, cats, Value.category, List.headD_cons, List.getD_cons_zero, List.getD_cons_succ, List.drop_succ_cons, List.drop_zero, List.take_succ_cons, List.take_zero, List.reverse_cons, List.reverse_nil, List.nil_append, List.cons_append, List.length_cons, List.length_nil, cond_true, cond_false, and_true, true_and, Nat.zero_add, Nat.add_zero, Nat.reduceAdd, Nat.reduceLT, Nat.reduceLeDiff, Nat.reduceEqDiff, Nat.reduceBEq, Nat.reduceSub, ↓reduceIte, Int32.reduceOfNat, Int64.reduceOfNat, reduceCtorEq, Nat.le_refl, Nat.zero_le, Bool.false_eq_true, beq_self_eq_true, Fin.isValue, Fin.val_zero, Fin.val_one, Fin.reduceFinMk, Fin.val_two, Nat.reduceMod, Bool.or_false, Bool.or_true, Bool.true_or, Bool.false_or, not_true_eq_false, not_false_eq_true, true_or, or_true, implies_true, false_implies, true_implies, Int32.reduceLT, Int32.reduceLE, ↓w_TAB3, ↓w_TAB4, ↓w_TAB5, ↓w_TAB7, ↓w_TAB10, ↓w_LK2, ↓w_LK6, false_and, and_false, i1z, i2z, iz1, im0, im1, l0z, hasK_uI, hasK_uL, hasK_uR, hasK_uZ, hasK_sRow, mR_uI, mR_uL, mR_uZ, mR_sRow, mI_uL, mI_uR, mI_uZ, mL_uI, mL_uR, mL_uZ, mL_sRow, LF.hg hL, layF, LF.r hL, refF, ne_eq, not_false_eq_true, Option.some.injEq, Sum.inl.injEq, Sum.inr.injEq, Prod.mk.injEq, exists_eq_left, exists_eq_left', hk, hp]
  refine and_ii (fun q => hne (by (simp only [i_lt, i_le, i_eq, l_lt, l_le, l_eq, Int32.toInt_toInt64, Int32.reduceToInt, Int64.reduceToInt, ne_eq, Classical.not_not] at *; omega))) (fun q => and_ii (fun q2 => hne (by (simp only [i_lt, i_le, i_eq, l_lt, l_le, l_eq, Int32.toInt_toInt64, Int32.reduceToInt, Int64.reduceToInt, ne_eq, Classical.not_not] at *; omega))) (fun q2 => ?_))
  rw [if_pos (by (simp only [i_lt, i_le, i_eq, l_lt, l_le, l_eq, Int32.toInt_toInt64, Int32.reduceToInt, Int64.reduceToInt, ne_eq, Classical.not_not] at *; omega))] at hov
  refine Ct.go (L0 := [some (.ref 139), some (.ref A)]) (by decide +kernel) rfl rfl ?_
  refine r_X2_isOverdue (fun _ => false) 40 ?_
  simp only [cd_X2_isOverdue, cf_X2_isOverdue, wp, wq, wpI, cdF, w_CI, w_CL, w_CN, w_LI, w_LL, w_LA, w_SI, w_SL, w_SA, w_INC, w_II, w_IId, w_LLb, w_LLd, w_LS, w_I1, w_L1, w_I2L, w_L2I, w_CMP, w_DUP, w_POP, w_DUP2, w_IF, w_IC, w_GO, w_NUL, w_ACN, prs, w_GF, w_PF, w_GS, w_IAL, w_LEN, w_LAL, w_ZAL, w_AAL, w_IAS, w_LAS, w_ZAS, w_AAS, w_RI, w_RL, w_RA, w_NEW, w_NA, w_MNA, w_OI, w_THR, w_CV, w_CS, w_CN9, w_CI9, w_MX, w_cont, lget, sto1, sto2, wideV, vo, vo_rv, isR, isR_rv, rv, fget, fput, cats, Value.category, List.headD_cons, List.getD_cons_zero, List.getD_cons_succ, List.drop_succ_cons, List.drop_zero, List.take_succ_cons, List.take_zero, List.reverse_cons, List.reverse_nil, List.nil_append, List.cons_append, List.length_cons, List.length_nil, cond_true, cond_false, and_true, true_and, Nat.zero_add, Nat.add_zero, Nat.reduceAdd, Nat.reduceLT, Nat.reduceLeDiff, Nat.reduceEqDiff, Nat.reduceBEq, Nat.reduceSub, ↓reduceIte, Int32.reduceOfNat, Int64.reduceOfNat, reduceCtorEq, Nat.le_refl, Nat.zero_le, Bool.false_eq_true, beq_self_eq_true, Fin.isValue, Fin.val_zero, Fin.val_one, Fin.reduceFinMk, Fin.val_two, Nat.reduceMod, Bool.or_false, Bool.or_true, Bool.true_or, Bool.false_or, not_true_eq_false, not_false_eq_true, true_or, or_true, implies_true, false_implies, true_implies, Int32.reduceLT, Int32.reduceLE, ↓w_TAB3, ↓w_TAB4, ↓w_TAB5, ↓w_TAB7, ↓w_TAB10, ↓w_LK2, ↓w_LK6, false_and, and_false, i1z, i2z, iz1, im0, im1, l0z, hasK_uI, hasK_uL, hasK_uR, hasK_uZ, hasK_sRow, mR_uI, mR_uL, mR_uZ, mR_sRow, mI_uL, mI_uR, mI_uZ, mL_uI, mL_uR, mL_uZ, mL_sRow, LF.hg hL, layF, LF.r hL, refF, ne_eq, not_false_eq_true, Option.some.injEq, Sum.inl.injEq, Sum.inr.injEq, Prod.mk.injEq, exists_eq_left, exists_eq_left', h11, h15, hk, hp]
  refine and_ii (fun q => ?_) (fun q => ?_)
  · rw [b2i_f (by rw [hov]; (simp only [i_lt, i_le, i_eq, l_lt, l_le, l_eq, Int32.toInt_toInt64, Int32.reduceToInt, Int64.reduceToInt, ne_eq, Classical.not_not] at *; omega))] at hQ
    refine ⟨_, rfl, ?_⟩
    refine r_X2_isOver (fun n => n == 20) 60 ?_
    simp only [cd_X2_isOver, cf_X2_isOver, wp, wq, wpI, cdF, w_CI, w_CL, w_CN, w_LI, w_LL, w_LA, w_SI, w_SL, w_SA, w_INC, w_II, w_IId, w_LLb, w_LLd, w_LS, w_I1, w_L1, w_I2L, w_L2I, w_CMP, w_DUP, w_POP, w_DUP2, w_IF, w_IC, w_GO, w_NUL, w_ACN, prs, w_GF, w_PF, w_GS, w_IAL, w_LEN, w_LAL, w_ZAL, w_AAL, w_IAS, w_LAS, w_ZAS, w_AAS, w_RI, w_RL, w_RA, w_NEW, w_NA, w_MNA, w_OI, w_THR, w_CV, w_CS, w_CN9, w_CI9, w_MX, w_cont, lget, sto1, sto2, wideV, vo, vo_rv, isR, isR_rv, rv, fget, fput, cats, Value.category, List.headD_cons, List.getD_cons_zero, List.getD_cons_succ, List.drop_succ_cons, List.drop_zero, List.take_succ_cons, List.take_zero, List.reverse_cons, List.reverse_nil, List.nil_append, List.cons_append, List.length_cons, List.length_nil, cond_true, cond_false, and_true, true_and, Nat.zero_add, Nat.add_zero, Nat.reduceAdd, Nat.reduceLT, Nat.reduceLeDiff, Nat.reduceEqDiff, Nat.reduceBEq, Nat.reduceSub, ↓reduceIte, Int32.reduceOfNat, Int64.reduceOfNat, reduceCtorEq, Nat.le_refl, Nat.zero_le, Bool.false_eq_true, beq_self_eq_true, Fin.isValue, Fin.val_zero, Fin.val_one, Fin.reduceFinMk, Fin.val_two, Nat.reduceMod, Bool.or_false, Bool.or_true, Bool.true_or, Bool.false_or, not_true_eq_false, not_false_eq_true, true_or, or_true, implies_true, false_implies, true_implies, Int32.reduceLT, Int32.reduceLE, ↓w_TAB3, ↓w_TAB4, ↓w_TAB5, ↓w_TAB7, ↓w_TAB10, ↓w_LK2, ↓w_LK6, false_and, and_false, i1z, i2z, iz1, im0, im1, l0z]
    exact hQ
  · rw [b2i_t (by rw [hov]; (simp only [i_lt, i_le, i_eq, l_lt, l_le, l_eq, Int32.toInt_toInt64, Int32.reduceToInt, Int64.reduceToInt, ne_eq, Classical.not_not] at *; omega))] at hQ
    refine ⟨_, rfl, ?_⟩
    refine r_X2_isOver (fun n => n == 20) 60 ?_
    simp only [cd_X2_isOver, cf_X2_isOver, wp, wq, wpI, cdF, w_CI, w_CL, w_CN, w_LI, w_LL, w_LA, w_SI, w_SL, w_SA, w_INC, w_II, w_IId, w_LLb, w_LLd, w_LS, w_I1, w_L1, w_I2L, w_L2I, w_CMP, w_DUP, w_POP, w_DUP2, w_IF, w_IC, w_GO, w_NUL, w_ACN, prs, w_GF, w_PF, w_GS, w_IAL, w_LEN, w_LAL, w_ZAL, w_AAL, w_IAS, w_LAS, w_ZAS, w_AAS, w_RI, w_RL, w_RA, w_NEW, w_NA, w_MNA, w_OI, w_THR, w_CV, w_CS, w_CN9, w_CI9, w_MX, w_cont, lget, sto1, sto2, wideV, vo, vo_rv, isR, isR_rv, rv, fget, fput, cats, Value.category, List.headD_cons, List.getD_cons_zero, List.getD_cons_succ, List.drop_succ_cons, List.drop_zero, List.take_succ_cons, List.take_zero, List.reverse_cons, List.reverse_nil, List.nil_append, List.cons_append, List.length_cons, List.length_nil, cond_true, cond_false, and_true, true_and, Nat.zero_add, Nat.add_zero, Nat.reduceAdd, Nat.reduceLT, Nat.reduceLeDiff, Nat.reduceEqDiff, Nat.reduceBEq, Nat.reduceSub, ↓reduceIte, Int32.reduceOfNat, Int64.reduceOfNat, reduceCtorEq, Nat.le_refl, Nat.zero_le, Bool.false_eq_true, beq_self_eq_true, Fin.isValue, Fin.val_zero, Fin.val_one, Fin.reduceFinMk, Fin.val_two, Nat.reduceMod, Bool.or_false, Bool.or_true, Bool.true_or, Bool.false_or, not_true_eq_false, not_false_eq_true, true_or, or_true, implies_true, false_implies, true_implies, Int32.reduceLT, Int32.reduceLE, ↓w_TAB3, ↓w_TAB4, ↓w_TAB5, ↓w_TAB7, ↓w_TAB10, ↓w_LK2, ↓w_LK6, false_and, and_false, i1z, i2z, iz1, im0, im1, l0z]
    exact hQ
/-- the rows of payments, where the first i have been looked at, and xs of them stay -/
def fgP (w : Nat → Nat) (pay : Nat → Py) (xs : List Nat) (i np : Nat) (M : Mem) : Prop := (∀ j, j < 60 → mR M 147 j = some (148 + 3 * w j) ∧ w j < 60) ∧ (∀ i j, i < 60 → j < 60 → w i = w j → i = j) ∧ (∀ j, j < xs.length → payC M (148 + 3 * w j) (pay (xs.getD j 0))) ∧ ∀ j, i ≤ j → j < np → payC M (148 + 3 * w j) (pay j)
/-- M' is M but for the references at 147 -/
def r147 (M M' : Mem) : Prop := mI M' = mI M ∧ mL M' = mL M ∧ M'.1 = M.1 ∧ ∀ a j, a ≠ 147 → mR M' a j = mR M a j
theorem r147_0 : r147 M M := ⟨rfl, rfl, rfl, fun _ _ _ => rfl⟩
theorem r147_u {r : Option Nat} (h : r147 M M') : r147 M (uR M' 147 j r) := ⟨h.1, h.2.1, h.2.2.1, fun a i ha => by rw [mR_ne (by omega)]; exact h.2.2.2 a i ha⟩
theorem refF_147 : refF 147 j = 0 := by unfold refF; simp
theorem r147_L (h : r147 M M') (hL : LF M) : LF M' := by
  obtain ⟨h1, h2, h3, h4⟩ := h
  obtain ⟨a1, a2, a3, a4, a5, a6, a7, a8, a9⟩ := hL
  refine ⟨by show M'.1.1 = _; rw [h3]; exact a1, by show M'.1.2.1 = _; rw [h3]; exact a2, fun a j hr => ?_, fun i hi => ?_, fun i hi => ?_, fun i hi => ?_, fun i hi => ?_, fun i hi => ?_, fun i hi => ?_⟩
  · by_cases e : a = 147
    · subst e; exact absurd refF_147 hr
    · rw [h4 a j e]; exact a3 a j hr
  · rw [h4 _ _ (by omega)]; exact a4 i hi
  · rw [h4 _ _ (by omega)]; exact a5 i hi
  · rw [h4 _ _ (by omega), h4 _ _ (by omega)]; exact a6 i hi
  · rw [h4 _ _ (by omega), h4 _ _ (by omega)]; exact a7 i hi
  · rw [h4 _ _ (by omega)]; exact a8 i hi
  · rw [h4 _ _ (by omega), h4 _ _ (by omega), h4 _ _ (by omega)]; exact a9 i hi
theorem payC_uR7 {b : Nat} {r : Option Nat} (h : payC M b p) (hb : 148 ≤ b) : payC (uR M 147 j r) b p := payC_uR h (by omega)
theorem hiS_uR7 {r : Option Nat} (h : hiS M0 M) : hiS M0 (uR M 147 j r) := hiS_uR h (by omega)
theorem lp_forget (hL0 : LF M) (hn : mI M 139 3 = nI (sN S 39)) (h60 : sN S 39 ≤ 60) (h11 : mI M 139 5 = nI (sN S 11)) (h15 : mI M 1 16 = nI (sN S 15)) (hj : Jv t S) (hQ : ∀ w' M', fgP w' (sP S) (stay S (sN S 39)) (sN S 39) (sN S 39) M' → r147 M M' → hiS M0 M' → Go G (MT 25) Q X 55 [some (.ref 139), some (.int (nI (stay S (sN S 39)).length)), none, none] [] M' 0 0) : ∀ (m i : Nat) (l : Option Value), m + i = sN S 39 → ∀ w' Mi, fgP w' (sP S) (stay S i) i (sN S 39) Mi → r147 M Mi → hiS M0 Mi → Go G (MT 25) Q X 4 [some (.ref 139), some (.int (nI (stay S i).length)), some (.int (nI i)), l] [] Mi 0 0 := by
  intro m
  induction m with
  | zero =>
    intro i l hi w' Mi g1 g2 g3
    have hi : i = sN S 39 := by omega
    subst hi
    have hL := r147_L g2 hL0
    have hn' : mI Mi 139 3 = nI (sN S 39) := by rw [g2.1]; exact hn
    refine r_X2_forget (fun n => n == 4 || n == 55 || n == 24) 40 ?_
    simp only [cd_X2_forget, cf_X2_forget, wp, wq, wpI, cdF, w_CI, w_CL, w_CN, w_LI, w_LL, w_LA, w_SI, w_SL, w_SA, w_INC, w_II, w_IId, w_LLb, w_LLd, w_LS, w_I1, w_L1, w_I2L, w_L2I, w_CMP, w_DUP, w_POP, w_DUP2, w_IF, w_IC, w_GO, w_NUL, w_ACN, prs, w_GF, w_PF, w_GS, w_IAL, w_LEN, w_LAL, w_ZAL, w_AAL, w_IAS, w_LAS, w_ZAS, w_AAS, w_RI, w_RL, w_RA, w_NEW, w_NA, w_MNA, w_OI, w_THR, w_CV, w_CS, w_CN9, w_CI9, w_MX, w_cont, lget, sto1, sto2, wideV, vo, vo_rv, isR, isR_rv, rv, fget, fput, cats, Value.category, List.headD_cons, List.getD_cons_zero, List.getD_cons_succ, List.drop_succ_cons, List.drop_zero, List.take_succ_cons, List.take_zero, List.reverse_cons, List.reverse_nil, List.nil_append, List.cons_append, List.length_cons, List.length_nil, cond_true, cond_false, and_true, true_and, Nat.zero_add, Nat.add_zero, Nat.reduceAdd, Nat.reduceLT, Nat.reduceLeDiff, Nat.reduceEqDiff, Nat.reduceBEq, Nat.reduceSub, ↓reduceIte, Int32.reduceOfNat, Int64.reduceOfNat, reduceCtorEq, Nat.le_refl, Nat.zero_le, Bool.false_eq_true, beq_self_eq_true, Fin.isValue, Fin.val_zero, Fin.val_one, Fin.reduceFinMk, Fin.val_two, Nat.reduceMod, Bool.or_false, Bool.or_true, Bool.true_or, Bool.false_or, not_true_eq_false, not_false_eq_true, true_or, or_true, implies_true, false_implies, true_implies, Int32.reduceLT, Int32.reduceLE, ↓w_TAB3, ↓w_TAB4, ↓w_TAB5, ↓w_TAB7, ↓w_TAB10, ↓w_LK2, ↓w_LK6, false_and, and_false, i1z, i2z, iz1, im0, im1, l0z, hasK_uI, hasK_uL, hasK_uR, hasK_uZ, hasK_sRow, mR_uI, mR_uL, mR_uZ, mR_sRow, mI_uL, mI_uR, mI_uZ, mL_uI, mL_uR, mL_uZ, mL_sRow, LF.hg hL, layF, LF.r hL, refF, ne_eq, not_false_eq_true, Option.some.injEq, Sum.inl.injEq, Sum.inr.injEq, Prod.mk.injEq, exists_eq_left, exists_eq_left', hn']
    refine ⟨fun _ => Go.less (hQ w' Mi g1 g2 g3) (fun k v h => ?_), fun q => absurd (nI_le (Nat.le_refl _) (by omega)) q⟩
    rcases k with _ | _ | _ | _ | k <;> simp at h ⊢ <;> exact h
  | succ m ih =>
    intro i l hi w' Mi g1 g2 g3
    have hL := r147_L g2 hL0
    have hn' : mI Mi 139 3 = nI (sN S 39) := by rw [g2.1]; exact hn
    have h11' : mI Mi 139 5 = nI (sN S 11) := by rw [g2.1]; exact h11
    have h15' : mI Mi 1 16 = nI (sN S 15) := by rw [g2.1]; exact h15
    have ti := nI_toInt (n := i) (by omega)
    have tN := nI_toInt (n := sN S 39) (by omega)
    have ci := nI_clamp (n := i) (by omega)
    have hw := g1.1 i (by omega)
    have hka := (pay_k hL hw.2).1
    have hp := g1.2.2.2 i (Nat.le_refl i) (by omega)
    have ho := hj.2.2.2.1 i (by omega)
    have hb : qI (sP S i) 47 ≤ 3 ∧ qI (sP S i) 52 ≤ 4 ∧ qI (sP S i) 51 ≤ 1005001 := by
      obtain ⟨b1, c2, c3, c4, c5, c6, c7, c8, c9⟩ := ho
      omega
    have hsl : (stay S i).length ≤ i := stay_len
    have hss := stay_succ (S := S) (n := i)
    have hwk := g1.1 (stay S i).length (by omega)
    have ck := nI_clamp (n := (stay S i).length) (by omega)
    refine r_X2_forget (fun n => n == 4 || n == 55 || n == 24) 40 ?_
    simp only [cd_X2_forget, cf_X2_forget, wp, wq, wpI, cdF, w_CI, w_CL, w_CN, w_LI, w_LL, w_LA, w_SI, w_SL, w_SA, w_INC, w_II, w_IId, w_LLb, w_LLd, w_LS, w_I1, w_L1, w_I2L, w_L2I, w_CMP, w_DUP, w_POP, w_DUP2, w_IF, w_IC, w_GO, w_NUL, w_ACN, prs, w_GF, w_PF, w_GS, w_IAL, w_LEN, w_LAL, w_ZAL, w_AAL, w_IAS, w_LAS, w_ZAS, w_AAS, w_RI, w_RL, w_RA, w_NEW, w_NA, w_MNA, w_OI, w_THR, w_CV, w_CS, w_CN9, w_CI9, w_MX, w_cont, lget, sto1, sto2, wideV, vo, vo_rv, isR, isR_rv, rv, fget, fput, cats, Value.category, List.headD_cons, List.getD_cons_zero, List.getD_cons_succ, List.drop_succ_cons, List.drop_zero, List.take_succ_cons, List.take_zero, List.reverse_cons, List.reverse_nil, List.nil_append, List.cons_append, List.length_cons, List.length_nil, cond_true, cond_false, and_true, true_and, Nat.zero_add, Nat.add_zero, Nat.reduceAdd, Nat.reduceLT, Nat.reduceLeDiff, Nat.reduceEqDiff, Nat.reduceBEq, Nat.reduceSub, ↓reduceIte, Int32.reduceOfNat, Int64.reduceOfNat, reduceCtorEq, Nat.le_refl, Nat.zero_le, Bool.false_eq_true, beq_self_eq_true, Fin.isValue, Fin.val_zero, Fin.val_one, Fin.reduceFinMk, Fin.val_two, Nat.reduceMod, Bool.or_false, Bool.or_true, Bool.true_or, Bool.false_or, not_true_eq_false, not_false_eq_true, true_or, or_true, implies_true, false_implies, true_implies, Int32.reduceLT, Int32.reduceLE, ↓w_TAB3, ↓w_TAB4, ↓w_TAB5, ↓w_TAB7, ↓w_TAB10, ↓w_LK2, ↓w_LK6, false_and, and_false, i1z, i2z, iz1, im0, im1, l0z, hasK_uI, hasK_uL, hasK_uR, hasK_uZ, hasK_sRow, mR_uI, mR_uL, mR_uZ, mR_sRow, mI_uL, mI_uR, mI_uZ, mL_uI, mL_uR, mL_uZ, mL_sRow, LF.hg hL, layF, LF.r hL, refF, ne_eq, not_false_eq_true, Option.some.injEq, Sum.inl.injEq, Sum.inr.injEq, Prod.mk.injEq, exists_eq_left, exists_eq_left', hn', ci, hw.1]
    refine and_ii (fun q => ?_) (fun _ => ⟨_, _, ⟨⟨rfl, rfl⟩, rfl⟩, vp_in_nI (by omega) (by omega), ?_⟩)
    · exfalso; (simp only [i_lt, i_le, i_eq, l_lt, l_le, l_eq, Int32.toInt_toInt64, Int32.reduceToInt, Int64.reduceToInt, ne_eq, Classical.not_not] at *; omega)
    refine c_isOver hL hka h11' h15' hj hp hb ⟨_, rfl, ?_⟩
    by_cases e : ovr S (sP S i) = true
    · rw [b2i_t e]
      rw [if_pos e, List.append_nil] at hss
      refine r_X2_forget (fun n => n == 4 || n == 55 || n == 24) 40 ?_
      simp only [cd_X2_forget, cf_X2_forget, wp, wq, wpI, cdF, w_CI, w_CL, w_CN, w_LI, w_LL, w_LA, w_SI, w_SL, w_SA, w_INC, w_II, w_IId, w_LLb, w_LLd, w_LS, w_I1, w_L1, w_I2L, w_L2I, w_CMP, w_DUP, w_POP, w_DUP2, w_IF, w_IC, w_GO, w_NUL, w_ACN, prs, w_GF, w_PF, w_GS, w_IAL, w_LEN, w_LAL, w_ZAL, w_AAL, w_IAS, w_LAS, w_ZAS, w_AAS, w_RI, w_RL, w_RA, w_NEW, w_NA, w_MNA, w_OI, w_THR, w_CV, w_CS, w_CN9, w_CI9, w_MX, w_cont, lget, sto1, sto2, wideV, vo, vo_rv, isR, isR_rv, rv, fget, fput, cats, Value.category, List.headD_cons, List.getD_cons_zero, List.getD_cons_succ, List.drop_succ_cons, List.drop_zero, List.take_succ_cons, List.take_zero, List.reverse_cons, List.reverse_nil, List.nil_append, List.cons_append, List.length_cons, List.length_nil, cond_true, cond_false, and_true, true_and, Nat.zero_add, Nat.add_zero, Nat.reduceAdd, Nat.reduceLT, Nat.reduceLeDiff, Nat.reduceEqDiff, Nat.reduceBEq, Nat.reduceSub, ↓reduceIte, Int32.reduceOfNat, Int64.reduceOfNat, reduceCtorEq, Nat.le_refl, Nat.zero_le, Bool.false_eq_true, beq_self_eq_true, Fin.isValue, Fin.val_zero, Fin.val_one, Fin.reduceFinMk, Fin.val_two, Nat.reduceMod, Bool.or_false, Bool.or_true, Bool.true_or, Bool.false_or, not_true_eq_false, not_false_eq_true, true_or, or_true, implies_true, false_implies, true_implies, Int32.reduceLT, Int32.reduceLE, ↓w_TAB3, ↓w_TAB4, ↓w_TAB5, ↓w_TAB7, ↓w_TAB10, ↓w_LK2, ↓w_LK6, false_and, and_false, i1z, i2z, iz1, im0, im1, l0z, i1z, nI_1]
      have := ih (i + 1) (some (.ref (148 + 3 * w' i))) (by omega) w' Mi (by rw [hss]; exact ⟨g1.1, g1.2.1, g1.2.2.1, fun j h1 h2 => g1.2.2.2 j (by omega) h2⟩) g2 g3
      rw [hss] at this
      exact this
    · rw [b2i_f e]
      rw [if_neg e] at hss
      refine r_X2_forget (fun n => n == 4 || n == 55 || n == 24) 60 ?_
      simp only [cd_X2_forget, cf_X2_forget, wp, wq, wpI, cdF, w_CI, w_CL, w_CN, w_LI, w_LL, w_LA, w_SI, w_SL, w_SA, w_INC, w_II, w_IId, w_LLb, w_LLd, w_LS, w_I1, w_L1, w_I2L, w_L2I, w_CMP, w_DUP, w_POP, w_DUP2, w_IF, w_IC, w_GO, w_NUL, w_ACN, prs, w_GF, w_PF, w_GS, w_IAL, w_LEN, w_LAL, w_ZAL, w_AAL, w_IAS, w_LAS, w_ZAS, w_AAS, w_RI, w_RL, w_RA, w_NEW, w_NA, w_MNA, w_OI, w_THR, w_CV, w_CS, w_CN9, w_CI9, w_MX, w_cont, lget, sto1, sto2, wideV, vo, vo_rv, isR, isR_rv, rv, fget, fput, cats, Value.category, List.headD_cons, List.getD_cons_zero, List.getD_cons_succ, List.drop_succ_cons, List.drop_zero, List.take_succ_cons, List.take_zero, List.reverse_cons, List.reverse_nil, List.nil_append, List.cons_append, List.length_cons, List.length_nil, cond_true, cond_false, and_true, true_and, Nat.zero_add, Nat.add_zero, Nat.reduceAdd, Nat.reduceLT, Nat.reduceLeDiff, Nat.reduceEqDiff, Nat.reduceBEq, Nat.reduceSub, ↓reduceIte, Int32.reduceOfNat, Int64.reduceOfNat, reduceCtorEq, Nat.le_refl, Nat.zero_le, Bool.false_eq_true, beq_self_eq_true, Fin.isValue, Fin.val_zero, Fin.val_one, Fin.reduceFinMk, Fin.val_two, Nat.reduceMod, Bool.or_false, Bool.or_true, Bool.true_or, Bool.false_or, not_true_eq_false, not_false_eq_true, true_or, or_true, implies_true, false_implies, true_implies, Int32.reduceLT, Int32.reduceLE, ↓w_TAB3, ↓w_TAB4, ↓w_TAB5, ↓w_TAB7, ↓w_TAB10, ↓w_LK2, ↓w_LK6, false_and, and_false, i1z, i2z, iz1, im0, im1, l0z, hasK_uI, hasK_uL, hasK_uR, hasK_uZ, hasK_sRow, mR_uI, mR_uL, mR_uZ, mR_sRow, mI_uL, mI_uR, mI_uZ, mL_uI, mL_uR, mL_uZ, mL_sRow, LF.hg hL, layF, LF.r hL, refF, ne_eq, not_false_eq_true, Option.some.injEq, Sum.inl.injEq, Sum.inr.injEq, Prod.mk.injEq, exists_eq_left, exists_eq_left', ci, ck, hwk.1, hw.1, nI_1, eq_self, mR_uR]
      have hkb := (pay_k hL hwk.2).1
      refine ⟨_, _, ⟨⟨rfl, rfl⟩, rfl⟩, vp_in_nI (by omega) (by omega), 7, _, _, ⟨rfl, hkb, ⟨rfl, rfl⟩, rfl⟩, vp_in_nI (by omega) (by omega), 7, _, _, ⟨rfl, hka, ⟨rfl, rfl⟩, rfl⟩, vp_in_nI (by omega) (by omega), ?_⟩
      have hlen : (stay S (i + 1)).length = (stay S i).length + 1 := by rw [hss]; simp
      have g4 : fgP (fun x => w' (if x = (stay S i).length then i else if x = i then (stay S i).length else x)) (sP S) (stay S (i + 1)) (i + 1) (sN S 39) (uR (uR Mi 147 i (some (148 + 3 * w' (stay S i).length))) 147 (stay S i).length (some (148 + 3 * w' i))) := by
        rw [hss]
        generalize hKK : stay S i = xs at *
        generalize hLL : xs.length = K at *
        refine ⟨fun j hj2 => ?_, fun a b ha hb2 q => ?_, fun j hj2 => ?_, fun j h1 h2 => ?_⟩
        · show _ = some (148 + 3 * w' (if j = K then i else if j = i then K else j)) ∧ w' (if j = K then i else if j = i then K else j) < 60
          by_cases e1 : j = K
          · subst e1
            rw [mR_uR, if_pos ⟨rfl, rfl⟩, if_pos rfl]
            exact ⟨rfl, hw.2⟩
          · rw [mR_ne (by omega), if_neg e1]
            by_cases e2 : j = i
            · subst e2
              rw [mR_uR, if_pos ⟨rfl, rfl⟩, if_pos rfl]
              exact ⟨rfl, hwk.2⟩
            · rw [mR_ne (by omega), if_neg e2]
              exact g1.1 j hj2
        · have := g1.2.1 _ _ (by split <;> (try split) <;> omega) (by split <;> (try split) <;> omega) q
          split at this <;> split at this <;> (try split at this) <;> (try split at this) <;> omega
        · have hj2 : j < K + 1 := by rw [← hLL]; simpa using hj2
          refine payC_uR7 (payC_uR7 ?_ (by omega)) (by omega)
          show payC Mi (148 + 3 * w' (if j = K then i else if j = i then K else j)) _
          by_cases e1 : j = K
          · rw [if_pos e1, gD_r (by omega), e1, hLL, Nat.sub_self]
            exact hp
          · rw [if_neg e1, if_neg (by omega), gD_l (by omega)]
            exact g1.2.2.1 j (by omega)
        · refine payC_uR7 (payC_uR7 ?_ (by omega)) (by omega)
          show payC Mi (148 + 3 * w' (if j = K then i else if j = i then K else j)) _
          rw [if_neg (by omega), if_neg (by omega)]
          exact g1.2.2.2 j (by omega) h2
      have := ih (i + 1) (some (.ref (148 + 3 * w' i))) (by omega) _ _ g4 (r147_u (r147_u g2)) (hiS_uR7 (hiS_uR7 g3))
      rw [hlen] at this
      exact this
theorem sum_stay {b : Nat} (h : Jv t S) : sumF (hOf (fun i => sP S ((stay S (sN S 39)).getD i 0)) b) (stay S (sN S 39)).length = hld S b ∧ sumF (kOf (fun i => sP S ((stay S (sN S 39)).getD i 0)) b) (stay S (sN S 39)).length = lkd S b := by
  have a4 := h.2.2.2.1
  constructor
  · rw [hOf_q]
    refine stay_sum (f := fun i => hq b (sP S i)) (fun i hi q => ?_)
    have hp := a4 i hi
    have : qI (sP S i) 47 ≠ 1 := by
      unfold ovr at q
      split at q
      · omega
      · have q := of_decide_eq_true q
        have := hp.2.2.2.2.2.2.2.2.1
        omega
    simp [hq, (hp.2.2.2.2.1 this).1]
  · rw [kOf_q]
    refine stay_sum (f := fun i => kq b (sP S i)) (fun i hi q => ?_)
    have hp := a4 i hi
    have : ¬ (qI (sP S i) 52 = 1 ∨ qI (sP S i) 52 = 2) := by
      unfold ovr at q
      split at q
      · omega
      · have q := of_decide_eq_true q
        have := hp.2.2.2.2.2.2.2.2.1
        omega
    simp [kq, this]
theorem k_cutoff (hR : RCx S M) (hj : Jv t S) : Ct G (MT 154) [.ref 0] M (QcI M (o_cutoff S)) (QcX M (o_cutoff S)) := by
  obtain ⟨w, o, c, hR'⟩ := id hR
  obtain ⟨hL, hN, hI, hLl, hF, hS, hA, hC, hP, hRr, hD, hT, hZ⟩ := id hR'
  have hs := hj.1
  have hn := hN
  unfold cN at hn
  unfold jS at hs
  have h39 : sN S 39 ≤ 60 := by omega
  refine Ct.go (L0 := [some (.ref 0), none]) (by decide +kernel) rfl rfl ?_
  refine r_X11_cutoff (fun n => n == 4 || n == 7 || n == 14 || n == 30 || n == 37 || n == 45) 40 ?_
  simp only [cd_X11_cutoff, cf_X11_cutoff, wp, wq, wpI, cdF, w_CI, w_CL, w_CN, w_LI, w_LL, w_LA, w_SI, w_SL, w_SA, w_INC, w_II, w_IId, w_LLb, w_LLd, w_LS, w_I1, w_L1, w_I2L, w_L2I, w_CMP, w_DUP, w_POP, w_DUP2, w_IF, w_IC, w_GO, w_NUL, w_ACN, prs, w_GF, w_PF, w_GS, w_IAL, w_LEN, w_LAL, w_ZAL, w_AAL, w_IAS, w_LAS, w_ZAS, w_AAS, w_RI, w_RL, w_RA, w_NEW, w_NA, w_MNA, w_OI, w_THR, w_CV, w_CS, w_CN9, w_CI9, w_MX, w_cont, lget, sto1, sto2, wideV, vo, vo_rv, isR, isR_rv, rv, fget, fput, cats, Value.category, List.headD_cons, List.getD_cons_zero, List.getD_cons_succ, List.drop_succ_cons, List.drop_zero, List.take_succ_cons, List.take_zero, List.reverse_cons, List.reverse_nil, List.nil_append, List.cons_append, List.length_cons, List.length_nil, cond_true, cond_false, and_true, true_and, Nat.zero_add, Nat.add_zero, Nat.reduceAdd, Nat.reduceLT, Nat.reduceLeDiff, Nat.reduceEqDiff, Nat.reduceBEq, Nat.reduceSub, ↓reduceIte, Int32.reduceOfNat, Int64.reduceOfNat, reduceCtorEq, Nat.le_refl, Nat.zero_le, Bool.false_eq_true, beq_self_eq_true, Fin.isValue, Fin.val_zero, Fin.val_one, Fin.reduceFinMk, Fin.val_two, Nat.reduceMod, Bool.or_false, Bool.or_true, Bool.true_or, Bool.false_or, not_true_eq_false, not_false_eq_true, true_or, or_true, implies_true, false_implies, true_implies, Int32.reduceLT, Int32.reduceLE, ↓w_TAB3, ↓w_TAB4, ↓w_TAB5, ↓w_TAB7, ↓w_TAB10, ↓w_LK2, ↓w_LK6, false_and, and_false, i1z, i2z, iz1, im0, im1, l0z, hasK_uI, hasK_uL, hasK_uR, hasK_uZ, hasK_sRow, mR_uI, mR_uL, mR_uZ, mR_sRow, mI_uL, mI_uR, mI_uZ, mL_uI, mL_uR, mL_uZ, mL_sRow, LF.hk hL, layF, LF.r hL, refF, ne_eq, not_false_eq_true, Option.some.injEq, Sum.inl.injEq, Sum.inr.injEq, Prod.mk.injEq, exists_eq_left, exists_eq_left']
  refine c_isRunning hL hN (smN_of hj) ⟨_, rfl, ?_⟩
  refine r_X11_cutoff (fun n => n == 4 || n == 7 || n == 14 || n == 30 || n == 37 || n == 45) 40 ?_
  simp only [cd_X11_cutoff, cf_X11_cutoff, wp, wq, wpI, cdF, w_CI, w_CL, w_CN, w_LI, w_LL, w_LA, w_SI, w_SL, w_SA, w_INC, w_II, w_IId, w_LLb, w_LLd, w_LS, w_I1, w_L1, w_I2L, w_L2I, w_CMP, w_DUP, w_POP, w_DUP2, w_IF, w_IC, w_GO, w_NUL, w_ACN, prs, w_GF, w_PF, w_GS, w_IAL, w_LEN, w_LAL, w_ZAL, w_AAL, w_IAS, w_LAS, w_ZAS, w_AAS, w_RI, w_RL, w_RA, w_NEW, w_NA, w_MNA, w_OI, w_THR, w_CV, w_CS, w_CN9, w_CI9, w_MX, w_cont, lget, sto1, sto2, wideV, vo, vo_rv, isR, isR_rv, rv, fget, fput, cats, Value.category, List.headD_cons, List.getD_cons_zero, List.getD_cons_succ, List.drop_succ_cons, List.drop_zero, List.take_succ_cons, List.take_zero, List.reverse_cons, List.reverse_nil, List.nil_append, List.cons_append, List.length_cons, List.length_nil, cond_true, cond_false, and_true, true_and, Nat.zero_add, Nat.add_zero, Nat.reduceAdd, Nat.reduceLT, Nat.reduceLeDiff, Nat.reduceEqDiff, Nat.reduceBEq, Nat.reduceSub, ↓reduceIte, Int32.reduceOfNat, Int64.reduceOfNat, reduceCtorEq, Nat.le_refl, Nat.zero_le, Bool.false_eq_true, beq_self_eq_true, Fin.isValue, Fin.val_zero, Fin.val_one, Fin.reduceFinMk, Fin.val_two, Nat.reduceMod, Bool.or_false, Bool.or_true, Bool.true_or, Bool.false_or, not_true_eq_false, not_false_eq_true, true_or, or_true, implies_true, false_implies, true_implies, Int32.reduceLT, Int32.reduceLE, ↓w_TAB3, ↓w_TAB4, ↓w_TAB5, ↓w_TAB7, ↓w_TAB10, ↓w_LK2, ↓w_LK6, false_and, and_false, i1z, i2z, iz1, im0, im1, l0z, hasK_uI, hasK_uL, hasK_uR, hasK_uZ, hasK_sRow, mR_uI, mR_uL, mR_uZ, mR_sRow, mI_uL, mI_uR, mI_uZ, mL_uI, mL_uR, mL_uZ, mL_sRow, LF.hk hL, layF, LF.r hL, refF, ne_eq, not_false_eq_true, Option.some.injEq, Sum.inl.injEq, Sum.inr.injEq, Prod.mk.injEq, exists_eq_left, exists_eq_left']
  refine c_permit_p (fun h2 => ⟨rfl, ?_⟩) (fun h2 => Qc_2 hR (gat_2 trivial h2))
  unfold o_cutoff
  rw [gat_0 trivial h2]
  refine r_X11_cutoff (fun n => n == 4 || n == 7 || n == 14 || n == 30 || n == 37 || n == 45) 40 ?_
  simp only [cd_X11_cutoff, cf_X11_cutoff, wp, wq, wpI, cdF, w_CI, w_CL, w_CN, w_LI, w_LL, w_LA, w_SI, w_SL, w_SA, w_INC, w_II, w_IId, w_LLb, w_LLd, w_LS, w_I1, w_L1, w_I2L, w_L2I, w_CMP, w_DUP, w_POP, w_DUP2, w_IF, w_IC, w_GO, w_NUL, w_ACN, prs, w_GF, w_PF, w_GS, w_IAL, w_LEN, w_LAL, w_ZAL, w_AAL, w_IAS, w_LAS, w_ZAS, w_AAS, w_RI, w_RL, w_RA, w_NEW, w_NA, w_MNA, w_OI, w_THR, w_CV, w_CS, w_CN9, w_CI9, w_MX, w_cont, lget, sto1, sto2, wideV, vo, vo_rv, isR, isR_rv, rv, fget, fput, cats, Value.category, List.headD_cons, List.getD_cons_zero, List.getD_cons_succ, List.drop_succ_cons, List.drop_zero, List.take_succ_cons, List.take_zero, List.reverse_cons, List.reverse_nil, List.nil_append, List.cons_append, List.length_cons, List.length_nil, cond_true, cond_false, and_true, true_and, Nat.zero_add, Nat.add_zero, Nat.reduceAdd, Nat.reduceLT, Nat.reduceLeDiff, Nat.reduceEqDiff, Nat.reduceBEq, Nat.reduceSub, ↓reduceIte, Int32.reduceOfNat, Int64.reduceOfNat, reduceCtorEq, Nat.le_refl, Nat.zero_le, Bool.false_eq_true, beq_self_eq_true, Fin.isValue, Fin.val_zero, Fin.val_one, Fin.reduceFinMk, Fin.val_two, Nat.reduceMod, Bool.or_false, Bool.or_true, Bool.true_or, Bool.false_or, not_true_eq_false, not_false_eq_true, true_or, or_true, implies_true, false_implies, true_implies, Int32.reduceLT, Int32.reduceLE, ↓w_TAB3, ↓w_TAB4, ↓w_TAB5, ↓w_TAB7, ↓w_TAB10, ↓w_LK2, ↓w_LK6, false_and, and_false, i1z, i2z, iz1, im0, im1, l0z, hasK_uI, hasK_uL, hasK_uR, hasK_uZ, hasK_sRow, mR_uI, mR_uL, mR_uZ, mR_sRow, mI_uL, mI_uR, mI_uZ, mL_uI, mL_uR, mL_uZ, mL_sRow, LF.hk hL, layF, LF.r hL, refF, ne_eq, not_false_eq_true, Option.some.injEq, Sum.inl.injEq, Sum.inr.injEq, Prod.mk.injEq, exists_eq_left, exists_eq_left']
  refine c_hasRoom hL hN (smN_of hj) ⟨_, rfl, ?_⟩
  refine r_X11_cutoff (fun n => n == 4 || n == 7 || n == 14 || n == 30 || n == 37 || n == 45) 40 ?_
  simp only [cd_X11_cutoff, cf_X11_cutoff, wp, wq, wpI, cdF, w_CI, w_CL, w_CN, w_LI, w_LL, w_LA, w_SI, w_SL, w_SA, w_INC, w_II, w_IId, w_LLb, w_LLd, w_LS, w_I1, w_L1, w_I2L, w_L2I, w_CMP, w_DUP, w_POP, w_DUP2, w_IF, w_IC, w_GO, w_NUL, w_ACN, prs, w_GF, w_PF, w_GS, w_IAL, w_LEN, w_LAL, w_ZAL, w_AAL, w_IAS, w_LAS, w_ZAS, w_AAS, w_RI, w_RL, w_RA, w_NEW, w_NA, w_MNA, w_OI, w_THR, w_CV, w_CS, w_CN9, w_CI9, w_MX, w_cont, lget, sto1, sto2, wideV, vo, vo_rv, isR, isR_rv, rv, fget, fput, cats, Value.category, List.headD_cons, List.getD_cons_zero, List.getD_cons_succ, List.drop_succ_cons, List.drop_zero, List.take_succ_cons, List.take_zero, List.reverse_cons, List.reverse_nil, List.nil_append, List.cons_append, List.length_cons, List.length_nil, cond_true, cond_false, and_true, true_and, Nat.zero_add, Nat.add_zero, Nat.reduceAdd, Nat.reduceLT, Nat.reduceLeDiff, Nat.reduceEqDiff, Nat.reduceBEq, Nat.reduceSub, ↓reduceIte, Int32.reduceOfNat, Int64.reduceOfNat, reduceCtorEq, Nat.le_refl, Nat.zero_le, Bool.false_eq_true, beq_self_eq_true, Fin.isValue, Fin.val_zero, Fin.val_one, Fin.reduceFinMk, Fin.val_two, Nat.reduceMod, Bool.or_false, Bool.or_true, Bool.true_or, Bool.false_or, not_true_eq_false, not_false_eq_true, true_or, or_true, implies_true, false_implies, true_implies, Int32.reduceLT, Int32.reduceLE, ↓w_TAB3, ↓w_TAB4, ↓w_TAB5, ↓w_TAB7, ↓w_TAB10, ↓w_LK2, ↓w_LK6, false_and, and_false, i1z, i2z, iz1, im0, im1, l0z, hasK_uI, hasK_uL, hasK_uR, hasK_uZ, hasK_sRow, mR_uI, mR_uL, mR_uZ, mR_sRow, mI_uL, mI_uR, mI_uZ, mL_uI, mL_uR, mL_uZ, mL_sRow, LF.hk hL, layF, LF.r hL, refF, ne_eq, not_false_eq_true, Option.some.injEq, Sum.inl.injEq, Sum.inr.injEq, Prod.mk.injEq, exists_eq_left, exists_eq_left', b2i_0]
  refine and_ii (fun h5 => ?_) (fun h5 => by rw [if_pos (by omega)]; exact QcI_0 hR rfl rfl)
  rw [if_neg (by omega)]
  refine c_settle hR' (hiS_rfl M) h39 (fun M1 r1 i1 => ⟨rfl, ?_⟩)
  have l1 := r1.1
  have n1 := r1.2.1
  have n1' := n1
  unfold cN at n1'
  have hl := stay_len (S := S) (n := sN S 39)
  refine r_X11_cutoff (fun n => n == 4 || n == 7 || n == 14 || n == 30 || n == 37 || n == 45) 40 ?_
  simp only [cd_X11_cutoff, cf_X11_cutoff, wp, wq, wpI, cdF, w_CI, w_CL, w_CN, w_LI, w_LL, w_LA, w_SI, w_SL, w_SA, w_INC, w_II, w_IId, w_LLb, w_LLd, w_LS, w_I1, w_L1, w_I2L, w_L2I, w_CMP, w_DUP, w_POP, w_DUP2, w_IF, w_IC, w_GO, w_NUL, w_ACN, prs, w_GF, w_PF, w_GS, w_IAL, w_LEN, w_LAL, w_ZAL, w_AAL, w_IAS, w_LAS, w_ZAS, w_AAS, w_RI, w_RL, w_RA, w_NEW, w_NA, w_MNA, w_OI, w_THR, w_CV, w_CS, w_CN9, w_CI9, w_MX, w_cont, lget, sto1, sto2, wideV, vo, vo_rv, isR, isR_rv, rv, fget, fput, cats, Value.category, List.headD_cons, List.getD_cons_zero, List.getD_cons_succ, List.drop_succ_cons, List.drop_zero, List.take_succ_cons, List.take_zero, List.reverse_cons, List.reverse_nil, List.nil_append, List.cons_append, List.length_cons, List.length_nil, cond_true, cond_false, and_true, true_and, Nat.zero_add, Nat.add_zero, Nat.reduceAdd, Nat.reduceLT, Nat.reduceLeDiff, Nat.reduceEqDiff, Nat.reduceBEq, Nat.reduceSub, ↓reduceIte, Int32.reduceOfNat, Int64.reduceOfNat, reduceCtorEq, Nat.le_refl, Nat.zero_le, Bool.false_eq_true, beq_self_eq_true, Fin.isValue, Fin.val_zero, Fin.val_one, Fin.reduceFinMk, Fin.val_two, Nat.reduceMod, Bool.or_false, Bool.or_true, Bool.true_or, Bool.false_or, not_true_eq_false, not_false_eq_true, true_or, or_true, implies_true, false_implies, true_implies, Int32.reduceLT, Int32.reduceLE, ↓w_TAB3, ↓w_TAB4, ↓w_TAB5, ↓w_TAB7, ↓w_TAB10, ↓w_LK2, ↓w_LK6, false_and, and_false, i1z, i2z, iz1, im0, im1, l0z, hasK_uI, hasK_uL, hasK_uR, hasK_uZ, hasK_sRow, mR_uI, mR_uL, mR_uZ, mR_sRow, mI_uL, mI_uR, mI_uZ, mL_uI, mL_uR, mL_uZ, mL_sRow, LF.hg l1, layF, LF.r l1, refF, ne_eq, not_false_eq_true, Option.some.injEq, Sum.inl.injEq, Sum.inr.injEq, Prod.mk.injEq, exists_eq_left, exists_eq_left']
  refine Ct.go (L0 := [some (.ref 139), none, none, none]) (by decide +kernel) rfl rfl ?_
  refine r_X2_forget (fun n => n == 4 || n == 24) 40 ?_
  simp only [cd_X2_forget, cf_X2_forget, wp, wq, wpI, cdF, w_CI, w_CL, w_CN, w_LI, w_LL, w_LA, w_SI, w_SL, w_SA, w_INC, w_II, w_IId, w_LLb, w_LLd, w_LS, w_I1, w_L1, w_I2L, w_L2I, w_CMP, w_DUP, w_POP, w_DUP2, w_IF, w_IC, w_GO, w_NUL, w_ACN, prs, w_GF, w_PF, w_GS, w_IAL, w_LEN, w_LAL, w_ZAL, w_AAL, w_IAS, w_LAS, w_ZAS, w_AAS, w_RI, w_RL, w_RA, w_NEW, w_NA, w_MNA, w_OI, w_THR, w_CV, w_CS, w_CN9, w_CI9, w_MX, w_cont, lget, sto1, sto2, wideV, vo, vo_rv, isR, isR_rv, rv, fget, fput, cats, Value.category, List.headD_cons, List.getD_cons_zero, List.getD_cons_succ, List.drop_succ_cons, List.drop_zero, List.take_succ_cons, List.take_zero, List.reverse_cons, List.reverse_nil, List.nil_append, List.cons_append, List.length_cons, List.length_nil, cond_true, cond_false, and_true, true_and, Nat.zero_add, Nat.add_zero, Nat.reduceAdd, Nat.reduceLT, Nat.reduceLeDiff, Nat.reduceEqDiff, Nat.reduceBEq, Nat.reduceSub, ↓reduceIte, Int32.reduceOfNat, Int64.reduceOfNat, reduceCtorEq, Nat.le_refl, Nat.zero_le, Bool.false_eq_true, beq_self_eq_true, Fin.isValue, Fin.val_zero, Fin.val_one, Fin.reduceFinMk, Fin.val_two, Nat.reduceMod, Bool.or_false, Bool.or_true, Bool.true_or, Bool.false_or, not_true_eq_false, not_false_eq_true, true_or, or_true, implies_true, false_implies, true_implies, Int32.reduceLT, Int32.reduceLE, ↓w_TAB3, ↓w_TAB4, ↓w_TAB5, ↓w_TAB7, ↓w_TAB10, ↓w_LK2, ↓w_LK6, false_and, and_false, i1z, i2z, iz1, im0, im1, l0z]
  have hp1 : cP w (sN S 39) (sP S) M1 := r1.2.2.2.2.2.2.2.2.1
  refine lp_forget (S := S) (M := M1) (M0 := M) l1 n1'.2.2.2.2.2.2.2.2.2.2.1 h39 n1'.2.2.2.2.2.2.2.2.2.2.2.2.1 n1'.2.2.2.2.2.2.2.2.1 hj ?_ (sN S 39) 0 none (by omega) w M1 ⟨hp1.1, hp1.2.1, fun j h => by simp [stay] at h, fun j _ h => hp1.2.2 j h⟩ r147_0 i1
  intro w' M2 g1 g2 g3
  have l2 := r147_L g2 l1
  have hn2 : mI M2 139 3 = nI (sN S 39) := by rw [g2.1]; exact n1'.2.2.2.2.2.2.2.2.2.2.1
  have es : nI (sN S 39) - nI (stay S (sN S 39)).length = nI (sN S 39 - (stay S (sN S 39)).length) := nI_sub hl (by omega)
  have hss := fun b => sum_stay (b := b) hj
  generalize hK : (stay S (sN S 39)).length = K at *
  refine r_X2_forget (fun n => n == 24) 40 ?_
  simp only [cd_X2_forget, cf_X2_forget, wp, wq, wpI, cdF, w_CI, w_CL, w_CN, w_LI, w_LL, w_LA, w_SI, w_SL, w_SA, w_INC, w_II, w_IId, w_LLb, w_LLd, w_LS, w_I1, w_L1, w_I2L, w_L2I, w_CMP, w_DUP, w_POP, w_DUP2, w_IF, w_IC, w_GO, w_NUL, w_ACN, prs, w_GF, w_PF, w_GS, w_IAL, w_LEN, w_LAL, w_ZAL, w_AAL, w_IAS, w_LAS, w_ZAS, w_AAS, w_RI, w_RL, w_RA, w_NEW, w_NA, w_MNA, w_OI, w_THR, w_CV, w_CS, w_CN9, w_CI9, w_MX, w_cont, lget, sto1, sto2, wideV, vo, vo_rv, isR, isR_rv, rv, fget, fput, cats, Value.category, List.headD_cons, List.getD_cons_zero, List.getD_cons_succ, List.drop_succ_cons, List.drop_zero, List.take_succ_cons, List.take_zero, List.reverse_cons, List.reverse_nil, List.nil_append, List.cons_append, List.length_cons, List.length_nil, cond_true, cond_false, and_true, true_and, Nat.zero_add, Nat.add_zero, Nat.reduceAdd, Nat.reduceLT, Nat.reduceLeDiff, Nat.reduceEqDiff, Nat.reduceBEq, Nat.reduceSub, ↓reduceIte, Int32.reduceOfNat, Int64.reduceOfNat, reduceCtorEq, Nat.le_refl, Nat.zero_le, Bool.false_eq_true, beq_self_eq_true, Fin.isValue, Fin.val_zero, Fin.val_one, Fin.reduceFinMk, Fin.val_two, Nat.reduceMod, Bool.or_false, Bool.or_true, Bool.true_or, Bool.false_or, not_true_eq_false, not_false_eq_true, true_or, or_true, implies_true, false_implies, true_implies, Int32.reduceLT, Int32.reduceLE, ↓w_TAB3, ↓w_TAB4, ↓w_TAB5, ↓w_TAB7, ↓w_TAB10, ↓w_LK2, ↓w_LK6, false_and, and_false, i1z, i2z, iz1, im0, im1, l0z, hasK_uI, hasK_uL, hasK_uR, hasK_uZ, hasK_sRow, mR_uI, mR_uL, mR_uZ, mR_sRow, mI_uL, mI_uR, mI_uZ, mL_uI, mL_uR, mL_uZ, mL_sRow, LF.hg l2, layF, LF.r l2, refF, ne_eq, not_false_eq_true, Option.some.injEq, Sum.inl.injEq, Sum.inr.injEq, Prod.mk.injEq, exists_eq_left, exists_eq_left', hn2, es]
  refine ⟨_, rfl, ?_⟩
  have rf : RC w' o c (wP (wN (wL S (stl (sL S))) (up1 (sN S) 39 K)) (fun i => sP S ((stay S (sN S 39)).getD i 0))) (uI M2 139 3 (nI K)) := by
    obtain ⟨f0, f1, f2, f3, f4, f5, f6, f7, f8, f9, f10, f11, f12⟩ := r1
    have q1 : cN (sN S) M2 := by unfold cN at f1 ⊢; rw [g2.1]; exact f1
    have q2 : cI (sI S) M2 := by unfold cI at f2 ⊢; rw [g2.1]; exact f2
    have q3 : cL (stl (sL S)) M2 := by unfold cL at f3 ⊢; rw [g2.2.1]; exact f3
    have q4 : cF (sF S) M2 := by unfold cF at f4 ⊢; rw [g2.1, g2.2.1]; exact f4
    have q6 : cA c (sQ S) M2 := by unfold cA at f6 ⊢; rw [g2.1]; exact f6
    have q7 : cC (sN S 34) (sC S) M2 := by unfold cC at f7 ⊢; rw [g2.2.1]; exact f7
    have q9 : cR o (sN S 55) (sR S) M2 := by unfold cR arcC BYL at f9 ⊢; rw [g2.1]; exact f9
    have q10 : msgC M2 432 433 435 (sD S) := by unfold msgC at f10 ⊢; rw [g2.1]; exact f10
    have q11 : BYL M2 451 452 (sT S) := by unfold BYL at f11 ⊢; rw [g2.1]; exact f11
    have q12 : BYL M2 493 494 (sZ S) := by unfold BYL at f12 ⊢; rw [g2.1]; exact f12
    refine ⟨l2, cN_39y q1 rfl, (by repeat (first | exact q2 | refine cI_uI ?_ (by omega) | refine cI_uI ?_ | refine cI_uL ?_ (by omega) | refine cI_uL ?_ | refine cI_uR ?_ (by omega) | refine cI_uR ?_ | refine cI_sRow ?_ (by omega) | refine cI_sRow ?_ | refine cI_uZ ?_)), q3, (by repeat (first | exact q4 | refine cF_uI ?_ (by omega) | refine cF_uI ?_ | refine cF_uL ?_ (by omega) | refine cF_uL ?_ | refine cF_uR ?_ (by omega) | refine cF_uR ?_ | refine cF_sRow ?_ (by omega) | refine cF_sRow ?_ | refine cF_uZ ?_)), ?_, (by repeat (first | exact q6 | refine cA_uI ?_ (by omega) | refine cA_uI ?_ | refine cA_uL ?_ (by omega) | refine cA_uL ?_ | refine cA_uR ?_ (by omega) | refine cA_uR ?_ | refine cA_sRow ?_ (by omega) | refine cA_sRow ?_ | refine cA_uZ ?_)), q7, ?_, (by repeat (first | exact q9 | refine cR_uI ?_ (by omega) | refine cR_uI ?_ | refine cR_uL ?_ (by omega) | refine cR_uL ?_ | refine cR_uR ?_ (by omega) | refine cR_uR ?_ | refine cR_sRow ?_ (by omega) | refine cR_sRow ?_ | refine cR_uZ ?_)), (by repeat (first | exact q10 | refine msgC_uI ?_ (by omega) | refine msgC_uI ?_ | refine msgC_uL ?_ (by omega) | refine msgC_uL ?_ | refine msgC_uR ?_ (by omega) | refine msgC_uR ?_ | refine msgC_sRow ?_ (by omega) | refine msgC_sRow ?_ | refine msgC_uZ ?_)), (by repeat (first | exact q11 | refine BYL_uI ?_ (by omega) | refine BYL_uI ?_ | refine BYL_uL ?_ (by omega) | refine BYL_uL ?_ | refine BYL_uR ?_ (by omega) | refine BYL_uR ?_ | refine BYL_sRow ?_ (by omega) | refine BYL_sRow ?_ | refine BYL_uZ ?_)), (by repeat (first | exact q12 | refine BYL_uI ?_ (by omega) | refine BYL_uI ?_ | refine BYL_uL ?_ (by omega) | refine BYL_uL ?_ | refine BYL_uR ?_ (by omega) | refine BYL_uR ?_ | refine BYL_sRow ?_ (by omega) | refine BYL_sRow ?_ | refine BYL_uZ ?_))⟩
    · intro b hb
      have f5 := f5 b hb
      show mL (uI M2 139 3 (nI K)) (11 + 2 * b) 5 = lI (sumF (hOf (fun i => sP S ((stay S (sN S 39)).getD i 0)) b) K) ∧ mL (uI M2 139 3 (nI K)) (11 + 2 * b) 6 = lI (sumF (kOf (fun i => sP S ((stay S (sN S 39)).getD i 0)) b) K)
      rw [(hss b).1, (hss b).2, mL_uI, g2.2.1]
      exact f5
    · refine ⟨fun j hj2 => g1.1 j hj2, g1.2.1, fun j hj2 => payC_uI (g1.2.2.1 j (by rw [hK]; exact hj2)) ?_⟩
      have := (g1.1 j (by have hj2 : j < K := hj2; omega)).2
      omega
  have i2 : hiS M (uI M2 139 3 (nI K)) := hiS_uI g3 (by omega)
  have l3 := rf.1
  refine r_X11_cutoff (fun n => n == 4 || n == 7 || n == 14 || n == 30 || n == 37 || n == 45) 40 ?_
  simp only [cd_X11_cutoff, cf_X11_cutoff, wp, wq, wpI, cdF, w_CI, w_CL, w_CN, w_LI, w_LL, w_LA, w_SI, w_SL, w_SA, w_INC, w_II, w_IId, w_LLb, w_LLd, w_LS, w_I1, w_L1, w_I2L, w_L2I, w_CMP, w_DUP, w_POP, w_DUP2, w_IF, w_IC, w_GO, w_NUL, w_ACN, prs, w_GF, w_PF, w_GS, w_IAL, w_LEN, w_LAL, w_ZAL, w_AAL, w_IAS, w_LAS, w_ZAS, w_AAS, w_RI, w_RL, w_RA, w_NEW, w_NA, w_MNA, w_OI, w_THR, w_CV, w_CS, w_CN9, w_CI9, w_MX, w_cont, lget, sto1, sto2, wideV, vo, vo_rv, isR, isR_rv, rv, fget, fput, cats, Value.category, List.headD_cons, List.getD_cons_zero, List.getD_cons_succ, List.drop_succ_cons, List.drop_zero, List.take_succ_cons, List.take_zero, List.reverse_cons, List.reverse_nil, List.nil_append, List.cons_append, List.length_cons, List.length_nil, cond_true, cond_false, and_true, true_and, Nat.zero_add, Nat.add_zero, Nat.reduceAdd, Nat.reduceLT, Nat.reduceLeDiff, Nat.reduceEqDiff, Nat.reduceBEq, Nat.reduceSub, ↓reduceIte, Int32.reduceOfNat, Int64.reduceOfNat, reduceCtorEq, Nat.le_refl, Nat.zero_le, Bool.false_eq_true, beq_self_eq_true, Fin.isValue, Fin.val_zero, Fin.val_one, Fin.reduceFinMk, Fin.val_two, Nat.reduceMod, Bool.or_false, Bool.or_true, Bool.true_or, Bool.false_or, not_true_eq_false, not_false_eq_true, true_or, or_true, implies_true, false_implies, true_implies, Int32.reduceLT, Int32.reduceLE, ↓w_TAB3, ↓w_TAB4, ↓w_TAB5, ↓w_TAB7, ↓w_TAB10, ↓w_LK2, ↓w_LK6, false_and, and_false, i1z, i2z, iz1, im0, im1, l0z, hasK_uI, hasK_uL, hasK_uR, hasK_uZ, hasK_sRow, mR_uI, mR_uL, mR_uZ, mR_sRow, mI_uL, mI_uR, mI_uZ, mL_uI, mL_uR, mL_uZ, mL_sRow, LF.hg l2, layF, LF.r l2, refF, ne_eq, not_false_eq_true, Option.some.injEq, Sum.inl.injEq, Sum.inr.injEq, Prod.mk.injEq, exists_eq_left, exists_eq_left']
  have hsm : smN (up1 (sN S) 39 K) := by
    have := smN_of hj
    unfold smN at *
    exact this
  refine c_writeOne (n := up1 (sN S) 39 K) l3 rf.2.1 hsm (by show sN S 7 ≠ 1; omega) (fun M3 n3 e3 => ⟨_, rfl, ?_⟩)
  have r3 := RC_n rf n3 e3 (wr1_ne (by omega)) (wr1_ne (by omega)) (wr1_ne (by omega)) (by show K ≤ 60; omega)
  have hh : hiS M M3 := hiS_rE i2 e3 (by omega)
  have h6 : wr1 (up1 (sN S) 39 K) 6 = 0 ∨ wr1 (up1 (sN S) 39 K) 6 = 1 := by
    have : wr1 (up1 (sN S) 39 K) 6 ≤ 1 := by unfold wr1; exact spd_6 (by simp [up1]; omega)
    omega
  have ev : ((sN S 39 : Int) - K) = ((sN S 39 - K : Nat) : Int) := by omega
  rw [ev]
  rcases h6 with e6 | e6
  · rw [e6, show nI 0 = (0 : Int32) from rfl]
    refine r_X11_cutoff (fun n => n == 4 || n == 7 || n == 14 || n == 30 || n == 37 || n == 45) 40 ?_
    simp only [cd_X11_cutoff, cf_X11_cutoff, wp, wq, wpI, cdF, w_CI, w_CL, w_CN, w_LI, w_LL, w_LA, w_SI, w_SL, w_SA, w_INC, w_II, w_IId, w_LLb, w_LLd, w_LS, w_I1, w_L1, w_I2L, w_L2I, w_CMP, w_DUP, w_POP, w_DUP2, w_IF, w_IC, w_GO, w_NUL, w_ACN, prs, w_GF, w_PF, w_GS, w_IAL, w_LEN, w_LAL, w_ZAL, w_AAL, w_IAS, w_LAS, w_ZAS, w_AAS, w_RI, w_RL, w_RA, w_NEW, w_NA, w_MNA, w_OI, w_THR, w_CV, w_CS, w_CN9, w_CI9, w_MX, w_cont, lget, sto1, sto2, wideV, vo, vo_rv, isR, isR_rv, rv, fget, fput, cats, Value.category, List.headD_cons, List.getD_cons_zero, List.getD_cons_succ, List.drop_succ_cons, List.drop_zero, List.take_succ_cons, List.take_zero, List.reverse_cons, List.reverse_nil, List.nil_append, List.cons_append, List.length_cons, List.length_nil, cond_true, cond_false, and_true, true_and, Nat.zero_add, Nat.add_zero, Nat.reduceAdd, Nat.reduceLT, Nat.reduceLeDiff, Nat.reduceEqDiff, Nat.reduceBEq, Nat.reduceSub, ↓reduceIte, Int32.reduceOfNat, Int64.reduceOfNat, reduceCtorEq, Nat.le_refl, Nat.zero_le, Bool.false_eq_true, beq_self_eq_true, Fin.isValue, Fin.val_zero, Fin.val_one, Fin.reduceFinMk, Fin.val_two, Nat.reduceMod, Bool.or_false, Bool.or_true, Bool.true_or, Bool.false_or, not_true_eq_false, not_false_eq_true, true_or, or_true, implies_true, false_implies, true_implies, Int32.reduceLT, Int32.reduceLE, ↓w_TAB3, ↓w_TAB4, ↓w_TAB5, ↓w_TAB7, ↓w_TAB10, ↓w_LK2, ↓w_LK6, false_and, and_false, i1z, i2z, iz1, im0, im1, l0z]
    exact Qc_cut r3 hh (by show _ = wdI (if wr1 (up1 (sN S) 39 K) 6 = 1 then -3 else ((sN S 39 - K : Nat) : Int)); rw [e6]; rfl)
  · rw [e6, show nI 1 = (1 : Int32) from rfl]
    refine r_X11_cutoff (fun n => n == 4 || n == 7 || n == 14 || n == 30 || n == 37 || n == 45) 40 ?_
    simp only [cd_X11_cutoff, cf_X11_cutoff, wp, wq, wpI, cdF, w_CI, w_CL, w_CN, w_LI, w_LL, w_LA, w_SI, w_SL, w_SA, w_INC, w_II, w_IId, w_LLb, w_LLd, w_LS, w_I1, w_L1, w_I2L, w_L2I, w_CMP, w_DUP, w_POP, w_DUP2, w_IF, w_IC, w_GO, w_NUL, w_ACN, prs, w_GF, w_PF, w_GS, w_IAL, w_LEN, w_LAL, w_ZAL, w_AAL, w_IAS, w_LAS, w_ZAS, w_AAS, w_RI, w_RL, w_RA, w_NEW, w_NA, w_MNA, w_OI, w_THR, w_CV, w_CS, w_CN9, w_CI9, w_MX, w_cont, lget, sto1, sto2, wideV, vo, vo_rv, isR, isR_rv, rv, fget, fput, cats, Value.category, List.headD_cons, List.getD_cons_zero, List.getD_cons_succ, List.drop_succ_cons, List.drop_zero, List.take_succ_cons, List.take_zero, List.reverse_cons, List.reverse_nil, List.nil_append, List.cons_append, List.length_cons, List.length_nil, cond_true, cond_false, and_true, true_and, Nat.zero_add, Nat.add_zero, Nat.reduceAdd, Nat.reduceLT, Nat.reduceLeDiff, Nat.reduceEqDiff, Nat.reduceBEq, Nat.reduceSub, ↓reduceIte, Int32.reduceOfNat, Int64.reduceOfNat, reduceCtorEq, Nat.le_refl, Nat.zero_le, Bool.false_eq_true, beq_self_eq_true, Fin.isValue, Fin.val_zero, Fin.val_one, Fin.reduceFinMk, Fin.val_two, Nat.reduceMod, Bool.or_false, Bool.or_true, Bool.true_or, Bool.false_or, not_true_eq_false, not_false_eq_true, true_or, or_true, implies_true, false_implies, true_implies, Int32.reduceLT, Int32.reduceLE, ↓w_TAB3, ↓w_TAB4, ↓w_TAB5, ↓w_TAB7, ↓w_TAB10, ↓w_LK2, ↓w_LK6, false_and, and_false, i1z, i2z, iz1, im0, im1, l0z]
    exact Qc_cut r3 hh (by show _ = wdI (if wr1 (up1 (sN S) 39 K) 6 = 1 then -3 else ((sN S 39 - K : Nat) : Int)); rw [e6]; rfl)
end CUT
