/-! AN APPROVAL IS NOTED: the reference -/
section APM
variable {G : En} {M M0 Mz M' : Mem} {Q : Option Value → Mem → Prop} {X : String → Mem → Prop} {S : Sw} {t a b j k v i np T A s n d N r : Nat} {x y : Int32} {f : Nat → List Nat} {xs : List Nat}
theorem lp_shift (hL : LF M) (ha : a < 64) (hlen : xs.length = 8) (hx : ∀ j, j < 8 → mI M 511 (8 * a + j) = nI (xs.getD j 0)) (hQ : ∀ M', (∃ g, M' = sRow M 511 g ∧ (∀ j, (j < 8 * a ∨ 8 * a + 8 ≤ j) → g j = mI M 511 j) ∧ ∀ j, j < 7 → g (8 * a + j) = nI (xs.getD (j + 1) 0)) → Go G (MT 258) Q X 49 [some (.ref 495), some (.int (nI a)), none] [] M' 0 0) : ∀ (r k : Nat), r + k = 8 → 1 ≤ k → ∀ g : Nat → Int32, (∀ j, (j < 8 * a ∨ 8 * a + 8 ≤ j) → g j = mI M 511 j) → (∀ j, j + 1 < k → g (8 * a + j) = nI (xs.getD (j + 1) 0)) → (∀ j, k ≤ j → j < 8 → g (8 * a + j) = nI (xs.getD j 0)) → Go G (MT 258) Q X 13 [some (.ref 495), some (.int (nI a)), some (.int (nI k))] [] (sRow M 511 g) 0 0 := by
  have e8 : (8 : Int32) * nI a = nI (8 * a) := nI_mul (a := 8) (by omega) (by omega) (by omega)
  intro r
  induction r with
  | zero =>
    intro k hk h1 g g1 g2 g3
    have hk : k = 8 := by omega
    subst hk
    refine r_X12_approved (fun n => n == 13 || n == 49) 60 ?_
    simp only [cd_X12_approved, cf_X12_approved, wp, wq, wpI, cdF, w_CI, w_CL, w_CN, w_LI, w_LL, w_LA, w_SI, w_SL, w_SA, w_INC, w_II, w_IId, w_LLb, w_LLd, w_LS, w_I1, w_L1, w_I2L, w_L2I, w_CMP, w_DUP, w_POP, w_DUP2, w_IF, w_IC, w_GO, w_NUL, w_ACN, prs, w_GF, w_PF, w_GS, w_IAL, w_LEN, w_LAL, w_ZAL, w_AAL, w_IAS, w_LAS, w_ZAS, w_AAS, w_RI, w_RL, w_RA, w_NEW, w_NA, w_MNA, w_OI, w_THR, w_CV, w_CS, w_CN9, w_CI9, w_MX, w_cont, lget, sto1, sto2, wideV, vo, vo_rv, isR, isR_rv, rv, fget, fput, cats, Value.category, List.headD_cons, List.getD_cons_zero, List.getD_cons_succ, List.drop_succ_cons, List.drop_zero, List.take_succ_cons, List.take_zero, List.reverse_cons, List.reverse_nil, List.nil_append, List.cons_append, List.length_cons, List.length_nil, cond_true, cond_false, and_true, true_and, Nat.zero_add, Nat.add_zero, Nat.reduceAdd, Nat.reduceLT, Nat.reduceLeDiff, Nat.reduceEqDiff, Nat.reduceBEq, Nat.reduceSub, ↓reduceIte, Int32.reduceOfNat, Int64.reduceOfNat, reduceCtorEq, Nat.le_refl, Nat.zero_le, Bool.false_eq_true, beq_self_eq_true, Fin.isValue, Fin.val_zero, Fin.val_one, Fin.reduceFinMk, Fin.val_two, Nat.reduceMod, Bool.or_false, Bool.or_true, Bool.true_or, Bool.false_or, not_true_eq_false, not_false_eq_true, true_or, or_true, implies_true, false_implies, true_implies, Int32.reduceLT, Int32.reduceLE, ↓w_TAB3, ↓w_TAB4, ↓w_TAB5, ↓w_TAB7, ↓w_TAB10, ↓w_LK2, ↓w_LK6, false_and, and_false, i1z, i2z, iz1, im0, im1, l0z]
    refine ⟨fun _ => Go.less (hQ _ ⟨g, rfl, g1, fun j hj => g2 j (by omega)⟩) (fun k v h => ?_), fun q => absurd (nI_le (Nat.le_refl 8) (by omega)) q⟩
    rcases k with _ | _ | _ | k <;> simp at h ⊢ <;> exact h
  | succ r ih =>
    intro k hk h1 g g1 g2 g3
    have tk := nI_toInt (n := k) (by omega)
    have ea : nI (8 * a) + nI k = nI (8 * a + k) := nI_add _ _
    have eb : nI (8 * a + k) - 1 = nI (8 * a + k - 1) := nI_sub (b := 1) (by omega) (by omega)
    have ca := nI_clamp (n := 8 * a + k) (by omega)
    have cb := nI_clamp (n := 8 * a + k - 1) (by omega)
    have gk : mI (sRow M 511 g) 511 (8 * a + k) = nI (xs.getD k 0) := by rw [mI_sRow, if_pos rfl]; exact g3 k (Nat.le_refl k) (by omega)
    have ih' := ih (k + 1) (by omega) (by omega) (fun j => if j = 8 * a + k - 1 then nI (xs.getD k 0) else g j) (fun j hj => by rw [if_neg (by omega)]; exact g1 j hj) (fun j hj => by
      by_cases q : j + 1 = k
      · rw [if_pos (by omega), q]
      · rw [if_neg (by omega)]; exact g2 j (by omega)) (fun j h1 h2 => by rw [if_neg (by omega)]; exact g3 j (by omega) h2)
    refine r_X12_approved (fun n => n == 13 || n == 49) 60 ?_
    simp only [cd_X12_approved, cf_X12_approved, wp, wq, wpI, cdF, w_CI, w_CL, w_CN, w_LI, w_LL, w_LA, w_SI, w_SL, w_SA, w_INC, w_II, w_IId, w_LLb, w_LLd, w_LS, w_I1, w_L1, w_I2L, w_L2I, w_CMP, w_DUP, w_POP, w_DUP2, w_IF, w_IC, w_GO, w_NUL, w_ACN, prs, w_GF, w_PF, w_GS, w_IAL, w_LEN, w_LAL, w_ZAL, w_AAL, w_IAS, w_LAS, w_ZAS, w_AAS, w_RI, w_RL, w_RA, w_NEW, w_NA, w_MNA, w_OI, w_THR, w_CV, w_CS, w_CN9, w_CI9, w_MX, w_cont, lget, sto1, sto2, wideV, vo, vo_rv, isR, isR_rv, rv, fget, fput, cats, Value.category, List.headD_cons, List.getD_cons_zero, List.getD_cons_succ, List.drop_succ_cons, List.drop_zero, List.take_succ_cons, List.take_zero, List.reverse_cons, List.reverse_nil, List.nil_append, List.cons_append, List.length_cons, List.length_nil, cond_true, cond_false, and_true, true_and, Nat.zero_add, Nat.add_zero, Nat.reduceAdd, Nat.reduceLT, Nat.reduceLeDiff, Nat.reduceEqDiff, Nat.reduceBEq, Nat.reduceSub, ↓reduceIte, Int32.reduceOfNat, Int64.reduceOfNat, reduceCtorEq, Nat.le_refl, Nat.zero_le, Bool.false_eq_true, beq_self_eq_true, Fin.isValue, Fin.val_zero, Fin.val_one, Fin.reduceFinMk, Fin.val_two, Nat.reduceMod, Bool.or_false, Bool.or_true, Bool.true_or, Bool.false_or, not_true_eq_false, not_false_eq_true, true_or, or_true, implies_true, false_implies, true_implies, Int32.reduceLT, Int32.reduceLE, ↓w_TAB3, ↓w_TAB4, ↓w_TAB5, ↓w_TAB7, ↓w_TAB10, ↓w_LK2, ↓w_LK6, false_and, and_false, i1z, i2z, iz1, im0, im1, l0z, hasK_uI, hasK_uL, hasK_uR, hasK_uZ, hasK_sRow, mR_uI, mR_uL, mR_uZ, mR_sRow, mI_uL, mI_uR, mI_uZ, mL_uI, mL_uR, mL_uZ, mL_sRow, LF.hk hL, layF, LF.r hL, refF, ne_eq, not_false_eq_true, Option.some.injEq, Sum.inl.injEq, Sum.inr.injEq, Prod.mk.injEq, exists_eq_left, exists_eq_left', hasK_sRow, mR_sRow, e8, ea, eb, ca, cb, gk, nI_1, uI_sRow]
    refine and_ii (fun q => ?_) (fun _ => ⟨vp_in_nI (by omega) (by omega), vp_in_nI (by omega) (by omega), ih'⟩)
    exfalso; (simp only [i_lt, i_le, i_eq, l_lt, l_le, l_eq, Int32.toInt_toInt64, Int32.reduceToInt, Int64.reduceToInt, ne_eq, Classical.not_not] at *; omega)
set_option maxRecDepth 20000 in
theorem m_approved (hR : RM S M) (hj : jQ (sN S) (sQ S)) (h11 : sN S 11 ≤ 1000000) (ha : a < 64) (hx : x = nI a) (hi : loS M0 M) (hQ : ∀ M', RM (wQ S (up1 (sQ S) a (pushA (sQ S a) (sN S 11)))) M' → kpN M M' → loS M0 M' → Q none M') : Ct G (MT 258) [.ref 495, .int x] M Q X := by
  subst hx
  obtain ⟨hL, hN, hI, hLl, hA, hC, hP, hRr, hD, hT, hZ, hK⟩ := id hR
  have hn := hN
  unfold mNn at hn
  have h8 := (hj a ha).1
  have hAa := hA a ha
  have ca := nI_clamp (n := a) (by omega)
  have e8 : (8 : Int32) * nI a = nI (8 * a) := nI_mul (a := 8) (by omega) (by omega) (by omega)
  have hv := vp_in_nI (n := a) (N := 64) ha (by omega)
  have tl := nI_toInt (n := (sQ S a).length) (by omega)
  -- the end, in both cases: ys stands there, shorter than 8
  have hend : ∀ (g : Nat → Int32) (ys : List Nat) (v : Int32) (l : Option Value), (∀ j, (j < 8 * a ∨ 8 * a + 8 ≤ j) → g j = mI M 511 j) → (∀ j, j < ys.length → g (8 * a + j) = nI (ys.getD j 0)) → ys.length < 8 → v = nI ys.length → pushA (sQ S a) (sN S 11) = ys ++ [sN S 11] → Go G (MT 258) Q X 59 [some (.ref 495), some (.int (nI a)), l] [] (uI (sRow M 511 g) 510 a v) 0 0 := fun g ys v l g1 g2 hy ev ep => by
    subst ev
    have q0 : mI (uI (sRow M 511 g) 510 a (nI ys.length)) 510 a = nI ys.length := by rw [mI_uI, if_pos ⟨rfl, rfl⟩]
    have q1 : mI (uI (sRow M 511 g) 510 a (nI ys.length)) 495 11 = nI (sN S 11) := by rw [mI_ne (by omega), mI_nr (by omega)]; simp only [hn]
    have ea : nI (8 * a) + nI ys.length = nI (8 * a + ys.length) := nI_add _ _
    have cl := nI_clamp (n := 8 * a + ys.length) (by omega)
    have q2 : mI (uI (uI (sRow M 511 g) 510 a (nI ys.length)) 511 (8 * a + ys.length) (nI (sN S 11))) 510 a = nI ys.length := by rw [mI_ne (by omega)]; exact q0
    refine r_X12_approved (fun _ => false) 60 ?_
    simp only [cd_X12_approved, cf_X12_approved, wp, wq, wpI, cdF, w_CI, w_CL, w_CN, w_LI, w_LL, w_LA, w_SI, w_SL, w_SA, w_INC, w_II, w_IId, w_LLb, w_LLd, w_LS, w_I1, w_L1, w_I2L, w_L2I, w_CMP, w_DUP, w_POP, w_DUP2, w_IF, w_IC, w_GO, w_NUL, w_ACN, prs, w_GF, w_PF, w_GS, w_IAL, w_LEN, w_LAL, w_ZAL, w_AAL, w_IAS, w_LAS, w_ZAS, w_AAS, w_RI, w_RL, w_RA, w_NEW, w_NA, w_MNA, w_OI, w_THR, w_CV, w_CS, w_CN9, w_CI9, w_MX, w_cont, lget, sto1, sto2, wideV, vo, vo_rv, isR, isR_rv, rv, fget, fput, cats, Value.category, List.headD_cons, List.getD_cons_zero, List.getD_cons_succ, List.drop_succ_cons, List.drop_zero, List.take_succ_cons, List.take_zero, List.reverse_cons, List.reverse_nil, List.nil_append, List.cons_append, List.length_cons, List.length_nil, cond_true, cond_false, and_true, true_and, Nat.zero_add, Nat.add_zero, Nat.reduceAdd, Nat.reduceLT, Nat.reduceLeDiff, Nat.reduceEqDiff, Nat.reduceBEq, Nat.reduceSub, ↓reduceIte, Int32.reduceOfNat, Int64.reduceOfNat, reduceCtorEq, Nat.le_refl, Nat.zero_le, Bool.false_eq_true, beq_self_eq_true, Fin.isValue, Fin.val_zero, Fin.val_one, Fin.reduceFinMk, Fin.val_two, Nat.reduceMod, Bool.or_false, Bool.or_true, Bool.true_or, Bool.false_or, not_true_eq_false, not_false_eq_true, true_or, or_true, implies_true, false_implies, true_implies, Int32.reduceLT, Int32.reduceLE, ↓w_TAB3, ↓w_TAB4, ↓w_TAB5, ↓w_TAB7, ↓w_TAB10, ↓w_LK2, ↓w_LK6, false_and, and_false, i1z, i2z, iz1, im0, im1, l0z, hasK_uI, hasK_uL, hasK_uR, hasK_uZ, hasK_sRow, mR_uI, mR_uL, mR_uZ, mR_sRow, mI_uL, mI_uR, mI_uZ, mL_uI, mL_uR, mL_uZ, mL_sRow, LF.hk hL, layF, LF.r hL, refF, ne_eq, not_false_eq_true, Option.some.injEq, Sum.inl.injEq, Sum.inr.injEq, Prod.mk.injEq, exists_eq_left, exists_eq_left', hasK_sRow, hasK_uI, mR_sRow, mR_uI, ca, q0, q1, e8, ea, cl, q2, nI_1]
    refine ⟨hv, vp_in_nI (by omega) (by omega), hv, hv, ?_⟩
    refine hQ _ ⟨hL, (by repeat (first | exact hN | refine mNn_uI ?_ (by omega) | refine mNn_uI ?_ | refine mNn_uL ?_ (by omega) | refine mNn_uL ?_ | refine mNn_uR ?_ (by omega) | refine mNn_uR ?_ | refine mNn_sRow ?_ (by omega) | refine mNn_sRow ?_ | refine mNn_uZ ?_)), (by repeat (first | exact hI | refine mIi_uI ?_ (by omega) | refine mIi_uI ?_ | refine mIi_uL ?_ (by omega) | refine mIi_uL ?_ | refine mIi_uR ?_ (by omega) | refine mIi_uR ?_ | refine mIi_sRow ?_ (by omega) | refine mIi_sRow ?_ | refine mIi_uZ ?_)), hLl, ?_, (by repeat (first | exact hC | refine mC_uI ?_ (by omega) | refine mC_uI ?_ | refine mC_uL ?_ (by omega) | refine mC_uL ?_ | refine mC_uR ?_ (by omega) | refine mC_uR ?_ | refine mC_sRow ?_ (by omega) | refine mC_sRow ?_ | refine mC_uZ ?_)), (by repeat (first | exact hP | refine mP_uI ?_ (by omega) | refine mP_uI ?_ | refine mP_uL ?_ (by omega) | refine mP_uL ?_ | refine mP_uR ?_ (by omega) | refine mP_uR ?_ | refine mP_sRow ?_ (by omega) | refine mP_sRow ?_ | refine mP_uZ ?_)), (by repeat (first | exact hRr | refine mRr_uI ?_ (by omega) | refine mRr_uI ?_ | refine mRr_uL ?_ (by omega) | refine mRr_uL ?_ | refine mRr_uR ?_ (by omega) | refine mRr_uR ?_ | refine mRr_sRow ?_ (by omega) | refine mRr_sRow ?_ | refine mRr_uZ ?_)), (by repeat (first | exact hD | refine msgM_uI ?_ (by omega) | refine msgM_uI ?_ | refine msgM_uL ?_ (by omega) | refine msgM_uL ?_ | refine msgM_uR ?_ (by omega) | refine msgM_uR ?_ | refine msgM_sRow ?_ (by omega) | refine msgM_sRow ?_ | refine msgM_uZ ?_)), (by repeat (first | exact hT | refine BYM_uI ?_ (by omega) | refine BYM_uI ?_ | refine BYM_uL ?_ (by omega) | refine BYM_uL ?_ | refine BYM_uR ?_ (by omega) | refine BYM_uR ?_ | refine BYM_sRow ?_ (by omega) | refine BYM_sRow ?_ | refine BYM_uZ ?_)), (by repeat (first | exact hZ | refine BYM_uI ?_ (by omega) | refine BYM_uI ?_ | refine BYM_uL ?_ (by omega) | refine BYM_uL ?_ | refine BYM_uR ?_ (by omega) | refine BYM_uR ?_ | refine BYM_sRow ?_ (by omega) | refine BYM_sRow ?_ | refine BYM_uZ ?_)), (by repeat (first | exact hK | refine mK_uI ?_ (by omega) | refine mK_uI ?_ | refine mK_uL ?_ (by omega) | refine mK_uL ?_ | refine mK_uR ?_ (by omega) | refine mK_uR ?_ | refine mK_sRow ?_ (by omega) | refine mK_sRow ?_ | refine mK_uZ ?_))⟩ ?_ (loS_uI (loS_uI (loS_uI (loS_sRow hi (by omega)) (by omega)) (by omega)) (by omega))
    · intro i hi'
      show _ = nI (up1 (sQ S) a (pushA (sQ S a) (sN S 11)) i).length ∧ ∀ k, k < (up1 (sQ S) a (pushA (sQ S a) (sN S 11)) i).length → _ = nI ((up1 (sQ S) a (pushA (sQ S a) (sN S 11)) i).getD k 0)
      by_cases e : i = a
      · subst e
        rw [up1_same, ep]
        refine ⟨by rw [mI_uI, if_pos ⟨rfl, rfl⟩]; simp, fun k hk => ?_⟩
        rw [mI_ne (by omega)]
        simp at hk
        by_cases ek : k = ys.length
        · subst ek
          rw [mI_uI, if_pos ⟨rfl, rfl⟩, gD_r (Nat.le_refl _)]
          simp
        · rw [mI_ne (by omega), mI_ne (by omega), mI_sRow, if_pos rfl, g2 k (by omega), gD_l (by omega)]
      · rw [up1_ne e]
        have := hA i hi'
        refine ⟨by rw [mI_ne (by omega), mI_ne (by omega), mI_ne (by omega), mI_nr (by omega)]; exact this.1, fun k hk => ?_⟩
        have h8' := (hj i hi').1
        rw [mI_ne (by omega), mI_ne (by omega), mI_ne (by omega), mI_sRow, if_pos rfl, g1 _ (by omega)]
        exact this.2 k hk
    · exact kpN_I (kpN_I (kpN_I (fun c i hc => by rw [mI_nr (by omega)]) (by omega)) (by omega)) (by omega)
  refine Ct.go (L0 := [some (.ref 495), some (.int (nI a)), none]) (by decide +kernel) rfl rfl ?_
  refine r_X12_approved (fun n => n == 13 || n == 59) 60 ?_
  simp only [cd_X12_approved, cf_X12_approved, wp, wq, wpI, cdF, w_CI, w_CL, w_CN, w_LI, w_LL, w_LA, w_SI, w_SL, w_SA, w_INC, w_II, w_IId, w_LLb, w_LLd, w_LS, w_I1, w_L1, w_I2L, w_L2I, w_CMP, w_DUP, w_POP, w_DUP2, w_IF, w_IC, w_GO, w_NUL, w_ACN, prs, w_GF, w_PF, w_GS, w_IAL, w_LEN, w_LAL, w_ZAL, w_AAL, w_IAS, w_LAS, w_ZAS, w_AAS, w_RI, w_RL, w_RA, w_NEW, w_NA, w_MNA, w_OI, w_THR, w_CV, w_CS, w_CN9, w_CI9, w_MX, w_cont, lget, sto1, sto2, wideV, vo, vo_rv, isR, isR_rv, rv, fget, fput, cats, Value.category, List.headD_cons, List.getD_cons_zero, List.getD_cons_succ, List.drop_succ_cons, List.drop_zero, List.take_succ_cons, List.take_zero, List.reverse_cons, List.reverse_nil, List.nil_append, List.cons_append, List.length_cons, List.length_nil, cond_true, cond_false, and_true, true_and, Nat.zero_add, Nat.add_zero, Nat.reduceAdd, Nat.reduceLT, Nat.reduceLeDiff, Nat.reduceEqDiff, Nat.reduceBEq, Nat.reduceSub, ↓reduceIte, Int32.reduceOfNat, Int64.reduceOfNat, reduceCtorEq, Nat.le_refl, Nat.zero_le, Bool.false_eq_true, beq_self_eq_true, Fin.isValue, Fin.val_zero, Fin.val_one, Fin.reduceFinMk, Fin.val_two, Nat.reduceMod, Bool.or_false, Bool.or_true, Bool.true_or, Bool.false_or, not_true_eq_false, not_false_eq_true, true_or, or_true, implies_true, false_implies, true_implies, Int32.reduceLT, Int32.reduceLE, ↓w_TAB3, ↓w_TAB4, ↓w_TAB5, ↓w_TAB7, ↓w_TAB10, ↓w_LK2, ↓w_LK6, false_and, and_false, i1z, i2z, iz1, im0, im1, l0z, hasK_uI, hasK_uL, hasK_uR, hasK_uZ, hasK_sRow, mR_uI, mR_uL, mR_uZ, mR_sRow, mI_uL, mI_uR, mI_uZ, mL_uI, mL_uR, mL_uZ, mL_sRow, LF.hk hL, layF, LF.r hL, refF, ne_eq, not_false_eq_true, Option.some.injEq, Sum.inl.injEq, Sum.inr.injEq, Prod.mk.injEq, exists_eq_left, exists_eq_left', ca, hAa.1]
  refine ⟨hv, and_ii (fun q => ?_) (fun q => ?_)⟩
  · have q : (sQ S a).length ≠ 8 := fun e => q (by rw [e]; rfl)
    have := hend (mI M 511) (sQ S a) _ none (fun _ _ => rfl) hAa.2 (by omega) rfl (by unfold pushA; rw [if_neg q])
    rw [sRow_id] at this
    have e : uI M 510 a (nI (sQ S a).length) = M := by rw [← hAa.1]; exact uI_id
    rw [e] at this
    exact this
  · have q : (sQ S a).length = 8 := by (simp only [i_lt, i_le, i_eq, l_lt, l_le, l_eq, Int32.toInt_toInt64, Int32.reduceToInt, Int64.reduceToInt, ne_eq, Classical.not_not] at *; omega)
    have hsh := lp_shift (G := G) (Q := Q) (X := X) hL ha q (fun j hj' => hAa.2 j (by omega)) ?_ 7 1 (by omega) (by omega) (mI M 511) (fun _ _ => rfl) (fun j hj' => by omega) (fun j h1 h2 => hAa.2 j (by omega))
    · rw [sRow_id] at hsh
      exact hsh
    · rintro M1 ⟨g, rfl, g1, g2⟩
      have q0 : mI (sRow M 511 g) 510 a = nI 8 := by rw [mI_nr (by omega), ← q]; exact hAa.1
      have e7 : nI 8 - 1 = nI 7 := rfl
      refine r_X12_approved (fun n => n == 59) 60 ?_
      simp only [cd_X12_approved, cf_X12_approved, wp, wq, wpI, cdF, w_CI, w_CL, w_CN, w_LI, w_LL, w_LA, w_SI, w_SL, w_SA, w_INC, w_II, w_IId, w_LLb, w_LLd, w_LS, w_I1, w_L1, w_I2L, w_L2I, w_CMP, w_DUP, w_POP, w_DUP2, w_IF, w_IC, w_GO, w_NUL, w_ACN, prs, w_GF, w_PF, w_GS, w_IAL, w_LEN, w_LAL, w_ZAL, w_AAL, w_IAS, w_LAS, w_ZAS, w_AAS, w_RI, w_RL, w_RA, w_NEW, w_NA, w_MNA, w_OI, w_THR, w_CV, w_CS, w_CN9, w_CI9, w_MX, w_cont, lget, sto1, sto2, wideV, vo, vo_rv, isR, isR_rv, rv, fget, fput, cats, Value.category, List.headD_cons, List.getD_cons_zero, List.getD_cons_succ, List.drop_succ_cons, List.drop_zero, List.take_succ_cons, List.take_zero, List.reverse_cons, List.reverse_nil, List.nil_append, List.cons_append, List.length_cons, List.length_nil, cond_true, cond_false, and_true, true_and, Nat.zero_add, Nat.add_zero, Nat.reduceAdd, Nat.reduceLT, Nat.reduceLeDiff, Nat.reduceEqDiff, Nat.reduceBEq, Nat.reduceSub, ↓reduceIte, Int32.reduceOfNat, Int64.reduceOfNat, reduceCtorEq, Nat.le_refl, Nat.zero_le, Bool.false_eq_true, beq_self_eq_true, Fin.isValue, Fin.val_zero, Fin.val_one, Fin.reduceFinMk, Fin.val_two, Nat.reduceMod, Bool.or_false, Bool.or_true, Bool.true_or, Bool.false_or, not_true_eq_false, not_false_eq_true, true_or, or_true, implies_true, false_implies, true_implies, Int32.reduceLT, Int32.reduceLE, ↓w_TAB3, ↓w_TAB4, ↓w_TAB5, ↓w_TAB7, ↓w_TAB10, ↓w_LK2, ↓w_LK6, false_and, and_false, i1z, i2z, iz1, im0, im1, l0z, hasK_uI, hasK_uL, hasK_uR, hasK_uZ, hasK_sRow, mR_uI, mR_uL, mR_uZ, mR_sRow, mI_uL, mI_uR, mI_uZ, mL_uI, mL_uR, mL_uZ, mL_sRow, LF.hk hL, layF, LF.r hL, refF, ne_eq, not_false_eq_true, Option.some.injEq, Sum.inl.injEq, Sum.inr.injEq, Prod.mk.injEq, exists_eq_left, exists_eq_left', hasK_sRow, mR_sRow, ca, q0, e7]
      refine ⟨hv, hv, ?_⟩
      refine hend g ((sQ S a).drop 1) _ none g1 (fun j hj' => ?_) (by simp; omega) (by simp [q]) (by unfold pushA; rw [if_pos q])
      simp at hj'
      rw [g2 j (by omega)]
      congr 1
      simp [List.getD_eq_getElem?_getD, List.getElem?_drop, Nat.add_comm]
end APM
