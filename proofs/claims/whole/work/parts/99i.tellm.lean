/-! AN ANSWER IS TOLD: the reference -/
section TM
variable {G : En} {M M0 Mz M' : Mem} {Q : Option Value → Mem → Prop} {X : String → Mem → Prop} {S : Sw} {t a b j k v i np T A s n d N r o' th ty : Nat} {x y : Int32} {z : Int64} {u am : Int} {m mx : Msg} {xs ys : List Nat} {ar : Ar} {g : Nat → Nat}
theorem RM_Z {f : Nat → Int32} (hR : RM S M) (hf : ∀ i, i < xs.length → f i = nI (xs.getD i 0)) (hy : y = nI xs.length) : RM (wZ S xs) (sRow (uI M 495 78 y) 547 f) := by
  subst hy
  obtain ⟨hL, hN, hI, hLl, hA, hC, hP, hRr, hD, hT, hZ, hK⟩ := hR
  refine ⟨hL, (by repeat (first | exact hN | refine mNn_uI ?_ (by omega) | refine mNn_uI ?_ | refine mNn_uL ?_ (by omega) | refine mNn_uL ?_ | refine mNn_uR ?_ (by omega) | refine mNn_uR ?_ | refine mNn_sRow ?_ (by omega) | refine mNn_sRow ?_ | refine mNn_uZ ?_)), (by repeat (first | exact hI | refine mIi_uI ?_ (by omega) | refine mIi_uI ?_ | refine mIi_uL ?_ (by omega) | refine mIi_uL ?_ | refine mIi_uR ?_ (by omega) | refine mIi_uR ?_ | refine mIi_sRow ?_ (by omega) | refine mIi_sRow ?_ | refine mIi_uZ ?_)), hLl, (by repeat (first | exact hA | refine mA_uI ?_ (by omega) | refine mA_uI ?_ | refine mA_uL ?_ (by omega) | refine mA_uL ?_ | refine mA_uR ?_ (by omega) | refine mA_uR ?_ | refine mA_sRow ?_ (by omega) | refine mA_sRow ?_ | refine mA_uZ ?_)), (by repeat (first | exact hC | refine mC_uI ?_ (by omega) | refine mC_uI ?_ | refine mC_uL ?_ (by omega) | refine mC_uL ?_ | refine mC_uR ?_ (by omega) | refine mC_uR ?_ | refine mC_sRow ?_ (by omega) | refine mC_sRow ?_ | refine mC_uZ ?_)), (by repeat (first | exact hP | refine mP_uI ?_ (by omega) | refine mP_uI ?_ | refine mP_uL ?_ (by omega) | refine mP_uL ?_ | refine mP_uR ?_ (by omega) | refine mP_uR ?_ | refine mP_sRow ?_ (by omega) | refine mP_sRow ?_ | refine mP_uZ ?_)), (by repeat (first | exact hRr | refine mRr_uI ?_ (by omega) | refine mRr_uI ?_ | refine mRr_uL ?_ (by omega) | refine mRr_uL ?_ | refine mRr_uR ?_ (by omega) | refine mRr_uR ?_ | refine mRr_sRow ?_ (by omega) | refine mRr_sRow ?_ | refine mRr_uZ ?_)), ?_, ?_, ?_, (by repeat (first | exact hK | refine mK_uI ?_ (by omega) | refine mK_uI ?_ | refine mK_uL ?_ (by omega) | refine mK_uL ?_ | refine mK_uR ?_ (by omega) | refine mK_uR ?_ | refine mK_sRow ?_ (by omega) | refine mK_sRow ?_ | refine mK_uZ ?_))⟩
  · refine ⟨by rw [mI_nr (by omega), mI_ne (by omega)]; exact hD.1, fun s hs => ⟨fun hp => ⟨by rw [mI_nr (by omega), mI_ne (by omega)]; exact ((hD.2 s hs).1 hp).1, fun i hi => by rw [mI_nr (by omega), mI_ne (by omega)]; exact ((hD.2 s hs).1 hp).2 i hi⟩, fun hp => by rw [mI_nr (by omega), mI_ne (by omega)]; exact (hD.2 s hs).2 hp⟩⟩
  · exact ⟨by rw [mI_nr (by omega), mI_ne (by omega)]; exact hT.1, fun i hi => by rw [mI_nr (by omega), mI_ne (by omega)]; exact hT.2 i hi⟩
  · exact ⟨by rw [mI_nr (by omega), mI_uI, if_pos ⟨rfl, rfl⟩]; rfl, fun i hi => by rw [mI_sRow, if_pos rfl]; exact hf i hi⟩
/-- the reference's last answer changes, nothing else -/
def zzN (M0 M : Mem) (xs : List Nat) : Prop := ∃ f : Nat → Int32, M = sRow (uI M0 495 78 (nI xs.length)) 547 f ∧ ∀ i, i < xs.length → f i = nI (xs.getD i 0)
theorem zzN_R (h : zzN M M' xs) (hR : RM S M) : RM (wZ S xs) M' := by
  obtain ⟨f, rfl, hf⟩ := h
  exact RM_Z hR hf rfl
theorem zzN_lo (h : zzN M M' xs) (hl : loS M0 M) : loS M0 M' := by
  obtain ⟨f, rfl, -⟩ := h
  exact loS_sRow (loS_uI hl (by omega)) (by omega)
theorem zzN_i (h : zzN M M' xs) (hb : b ≠ 547 ∧ (b ≠ 495 ∨ j ≠ 78)) : mI M' b j = mI M b j := by
  obtain ⟨f, rfl, -⟩ := h
  rw [mI_nr (by omega), mI_ne (by omega)]
theorem lp_tell (hL : LF M) (h76 : mI M 495 76 = nI xs.length) (hx : ∀ i, i < xs.length → mI M 546 i = nI (xs.getD i 0)) (hl : xs.length ≤ 160) (hQ : ∀ M', zzN M M' xs → Q none M') : ∀ (r k : Nat), r + k = xs.length → Go G (MT 240) Q X 10 [some (.ref 495), some (.int (nI k))] [] (sRow (uI M 495 78 (nI xs.length)) 547 (fun i => if i < k then nI (xs.getD i 0) else mI M 547 i)) 0 0 := by
  have tl := nI_toInt (n := xs.length) (by omega)
  intro r
  induction r with
  | zero =>
    intro k hk
    have hk : k = xs.length := by omega
    subst hk
    have l1 : LF (sRow (uI M 495 78 (nI xs.length)) 547 (fun i => if i < xs.length then nI (xs.getD i 0) else mI M 547 i)) := hL
    have g76 : mI (sRow (uI M 495 78 (nI xs.length)) 547 (fun i => if i < xs.length then nI (xs.getD i 0) else mI M 547 i)) 495 76 = nI xs.length := by rw [mI_nr (by omega), mI_ne (by omega)]; exact h76
    refine r_X12_tell (fun n => n == 10) 40 ?_
    simp only [cd_X12_tell, cf_X12_tell, wp, wq, wpI, cdF, w_CI, w_CL, w_CN, w_LI, w_LL, w_LA, w_SI, w_SL, w_SA, w_INC, w_II, w_IId, w_LLb, w_LLd, w_LS, w_I1, w_L1, w_I2L, w_L2I, w_CMP, w_DUP, w_POP, w_DUP2, w_IF, w_IC, w_GO, w_NUL, w_ACN, prs, w_GF, w_PF, w_GS, w_IAL, w_LEN, w_LAL, w_ZAL, w_AAL, w_IAS, w_LAS, w_ZAS, w_AAS, w_RI, w_RL, w_RA, w_NEW, w_NA, w_MNA, w_OI, w_THR, w_CV, w_CS, w_CN9, w_CI9, w_MX, w_cont, lget, sto1, sto2, wideV, vo, vo_rv, isR, isR_rv, rv, fget, fput, cats, Value.category, List.headD_cons, List.getD_cons_zero, List.getD_cons_succ, List.drop_succ_cons, List.drop_zero, List.take_succ_cons, List.take_zero, List.reverse_cons, List.reverse_nil, List.nil_append, List.cons_append, List.length_cons, List.length_nil, cond_true, cond_false, and_true, true_and, Nat.zero_add, Nat.add_zero, Nat.reduceAdd, Nat.reduceLT, Nat.reduceLeDiff, Nat.reduceEqDiff, Nat.reduceBEq, Nat.reduceSub, ↓reduceIte, Int32.reduceOfNat, Int64.reduceOfNat, reduceCtorEq, Nat.le_refl, Nat.zero_le, Bool.false_eq_true, beq_self_eq_true, Fin.isValue, Fin.val_zero, Fin.val_one, Fin.reduceFinMk, Fin.val_two, Nat.reduceMod, Bool.or_false, Bool.or_true, Bool.true_or, Bool.false_or, not_true_eq_false, not_false_eq_true, true_or, or_true, implies_true, false_implies, true_implies, Int32.reduceLT, Int32.reduceLE, ↓w_TAB3, ↓w_TAB4, ↓w_TAB5, ↓w_TAB7, ↓w_TAB10, ↓w_LK2, ↓w_LK6, false_and, and_false, i1z, i2z, iz1, im0, im1, l0z, hasK_uI, hasK_uL, hasK_uR, hasK_uZ, hasK_sRow, mR_uI, mR_uL, mR_uZ, mR_sRow, mI_uL, mI_uR, mI_uZ, mL_uI, mL_uR, mL_uZ, mL_sRow, LF.hk hL, layF, LF.r hL, refF, ne_eq, not_false_eq_true, Option.some.injEq, Sum.inl.injEq, Sum.inr.injEq, Prod.mk.injEq, exists_eq_left, exists_eq_left', hasK_sRow, hasK_uI, mR_sRow, mR_uI, g76]
    exact ⟨fun _ => hQ _ ⟨_, rfl, fun i hi => if_pos hi⟩, fun q => absurd (nI_le (Nat.le_refl _) (by omega)) q⟩
  | succ r ih =>
    intro k hk
    have tk := nI_toInt (n := k) (by omega)
    have ck := nI_clamp (n := k) (by omega)
    have ih' := ih (k + 1) (by omega)
    have g76 : mI (sRow (uI M 495 78 (nI xs.length)) 547 (fun i => if i < k then nI (xs.getD i 0) else mI M 547 i)) 495 76 = nI xs.length := by rw [mI_nr (by omega), mI_ne (by omega)]; exact h76
    have gk : mI (sRow (uI M 495 78 (nI xs.length)) 547 (fun i => if i < k then nI (xs.getD i 0) else mI M 547 i)) 546 k = nI (xs.getD k 0) := by rw [mI_nr (by omega), mI_ne (by omega)]; exact hx k (by omega)
    refine r_X12_tell (fun n => n == 10) 40 ?_
    simp only [cd_X12_tell, cf_X12_tell, wp, wq, wpI, cdF, w_CI, w_CL, w_CN, w_LI, w_LL, w_LA, w_SI, w_SL, w_SA, w_INC, w_II, w_IId, w_LLb, w_LLd, w_LS, w_I1, w_L1, w_I2L, w_L2I, w_CMP, w_DUP, w_POP, w_DUP2, w_IF, w_IC, w_GO, w_NUL, w_ACN, prs, w_GF, w_PF, w_GS, w_IAL, w_LEN, w_LAL, w_ZAL, w_AAL, w_IAS, w_LAS, w_ZAS, w_AAS, w_RI, w_RL, w_RA, w_NEW, w_NA, w_MNA, w_OI, w_THR, w_CV, w_CS, w_CN9, w_CI9, w_MX, w_cont, lget, sto1, sto2, wideV, vo, vo_rv, isR, isR_rv, rv, fget, fput, cats, Value.category, List.headD_cons, List.getD_cons_zero, List.getD_cons_succ, List.drop_succ_cons, List.drop_zero, List.take_succ_cons, List.take_zero, List.reverse_cons, List.reverse_nil, List.nil_append, List.cons_append, List.length_cons, List.length_nil, cond_true, cond_false, and_true, true_and, Nat.zero_add, Nat.add_zero, Nat.reduceAdd, Nat.reduceLT, Nat.reduceLeDiff, Nat.reduceEqDiff, Nat.reduceBEq, Nat.reduceSub, ↓reduceIte, Int32.reduceOfNat, Int64.reduceOfNat, reduceCtorEq, Nat.le_refl, Nat.zero_le, Bool.false_eq_true, beq_self_eq_true, Fin.isValue, Fin.val_zero, Fin.val_one, Fin.reduceFinMk, Fin.val_two, Nat.reduceMod, Bool.or_false, Bool.or_true, Bool.true_or, Bool.false_or, not_true_eq_false, not_false_eq_true, true_or, or_true, implies_true, false_implies, true_implies, Int32.reduceLT, Int32.reduceLE, ↓w_TAB3, ↓w_TAB4, ↓w_TAB5, ↓w_TAB7, ↓w_TAB10, ↓w_LK2, ↓w_LK6, false_and, and_false, i1z, i2z, iz1, im0, im1, l0z, hasK_uI, hasK_uL, hasK_uR, hasK_uZ, hasK_sRow, mR_uI, mR_uL, mR_uZ, mR_sRow, mI_uL, mI_uR, mI_uZ, mL_uI, mL_uR, mL_uZ, mL_sRow, LF.hk hL, layF, LF.r hL, refF, ne_eq, not_false_eq_true, Option.some.injEq, Sum.inl.injEq, Sum.inr.injEq, Prod.mk.injEq, exists_eq_left, exists_eq_left', hasK_sRow, hasK_uI, mR_sRow, mR_uI, g76, ck, gk, nI_1, uI_sRow]
    refine and_ii (fun q => ?_) (fun _ => ?_)
    · exfalso; (simp only [i_lt, i_le, i_eq, l_lt, l_le, l_eq, Int32.toInt_toInt64, Int32.reduceToInt, Int64.reduceToInt, ne_eq, Classical.not_not] at *; omega)
    refine ⟨vp_in_nI (by omega) (by omega), vp_in_nI (by omega) (by omega), ?_⟩
    rw [sRow_congr (g := fun i => if i < k + 1 then nI (xs.getD i 0) else mI M 547 i) (fun i => ?_)]
    · exact ih'
    · by_cases q : i = k
      · subst q; rw [if_pos rfl, if_pos (by omega)]
      · rw [if_neg q]
        by_cases q2 : i < k
        · rw [if_pos q2, if_pos (by omega)]
        · rw [if_neg q2, if_neg (by omega)]
theorem sRow_0 (h : ∀ i, mI (uI M 495 78 y) 547 i = mI M 547 i) : sRow (uI M 495 78 y) 547 (fun i => if i < 0 then nI (xs.getD i 0) else mI M 547 i) = uI M 495 78 y := by
  rw [sRow_congr (g := mI (uI M 495 78 y) 547) (fun i => by rw [if_neg (by omega), h]), sRow_id]
theorem m_tell (hL : LF M) (h76 : mI M 495 76 = nI xs.length) (hx : ∀ i, i < xs.length → mI M 546 i = nI (xs.getD i 0)) (hl : xs.length ≤ 160) (hQ : ∀ M', zzN M M' xs → Q none M') : Ct G (MT 240) [.ref 495] M Q X := by
  refine Ct.go (L0 := [some (.ref 495), none]) (by decide +kernel) rfl rfl ?_
  refine r_X12_tell (fun n => n == 10) 40 ?_
  simp only [cd_X12_tell, cf_X12_tell, wp, wq, wpI, cdF, w_CI, w_CL, w_CN, w_LI, w_LL, w_LA, w_SI, w_SL, w_SA, w_INC, w_II, w_IId, w_LLb, w_LLd, w_LS, w_I1, w_L1, w_I2L, w_L2I, w_CMP, w_DUP, w_POP, w_DUP2, w_IF, w_IC, w_GO, w_NUL, w_ACN, prs, w_GF, w_PF, w_GS, w_IAL, w_LEN, w_LAL, w_ZAL, w_AAL, w_IAS, w_LAS, w_ZAS, w_AAS, w_RI, w_RL, w_RA, w_NEW, w_NA, w_MNA, w_OI, w_THR, w_CV, w_CS, w_CN9, w_CI9, w_MX, w_cont, lget, sto1, sto2, wideV, vo, vo_rv, isR, isR_rv, rv, fget, fput, cats, Value.category, List.headD_cons, List.getD_cons_zero, List.getD_cons_succ, List.drop_succ_cons, List.drop_zero, List.take_succ_cons, List.take_zero, List.reverse_cons, List.reverse_nil, List.nil_append, List.cons_append, List.length_cons, List.length_nil, cond_true, cond_false, and_true, true_and, Nat.zero_add, Nat.add_zero, Nat.reduceAdd, Nat.reduceLT, Nat.reduceLeDiff, Nat.reduceEqDiff, Nat.reduceBEq, Nat.reduceSub, ↓reduceIte, Int32.reduceOfNat, Int64.reduceOfNat, reduceCtorEq, Nat.le_refl, Nat.zero_le, Bool.false_eq_true, beq_self_eq_true, Fin.isValue, Fin.val_zero, Fin.val_one, Fin.reduceFinMk, Fin.val_two, Nat.reduceMod, Bool.or_false, Bool.or_true, Bool.true_or, Bool.false_or, not_true_eq_false, not_false_eq_true, true_or, or_true, implies_true, false_implies, true_implies, Int32.reduceLT, Int32.reduceLE, ↓w_TAB3, ↓w_TAB4, ↓w_TAB5, ↓w_TAB7, ↓w_TAB10, ↓w_LK2, ↓w_LK6, false_and, and_false, i1z, i2z, iz1, im0, im1, l0z, hasK_uI, hasK_uL, hasK_uR, hasK_uZ, hasK_sRow, mR_uI, mR_uL, mR_uZ, mR_sRow, mI_uL, mI_uR, mI_uZ, mL_uI, mL_uR, mL_uZ, mL_sRow, LF.hk hL, layF, LF.r hL, refF, ne_eq, not_false_eq_true, Option.some.injEq, Sum.inl.injEq, Sum.inr.injEq, Prod.mk.injEq, exists_eq_left, exists_eq_left', h76]
  have := lp_tell (G := G) (X := X) hL h76 hx hl hQ xs.length 0 (by omega)
  rw [sRow_0 (fun i => mI_ne (by omega))] at this
  exact this
theorem lp_again (hL : LF M) (hi : i < 24) (hx : ∀ j, j < xs.length → mI M 537 (160 * i + j) = nI (xs.getD j 0)) (h38 : mI M 538 i = nI n) (hl : xs.length ≤ 160) (hQ : ∀ M', zzN M M' xs → Q (some (.int (nI n))) M') : ∀ (r k : Nat), r + k = xs.length → Go G (MT 248) Q X 12 [some (.ref 495), some (.int (nI i)), some (.int (nI k))] [] (sRow (uI M 495 78 (nI xs.length)) 547 (fun i => if i < k then nI (xs.getD i 0) else mI M 547 i)) 0 0 := by
  have tl := nI_toInt (n := xs.length) (by omega)
  have e16 : (160 : Int32) * nI i = nI (160 * i) := nI_mul (a := 160) (by omega) (by omega) (by omega)
  have ci := nI_clamp (n := i) (by omega)
  have hv := vp_in_nI (n := i) (N := 25) (by omega) (by omega)
  intro r
  induction r with
  | zero =>
    intro k hk
    have hk : k = xs.length := by omega
    subst hk
    have g78 : mI (sRow (uI M 495 78 (nI xs.length)) 547 (fun i => if i < xs.length then nI (xs.getD i 0) else mI M 547 i)) 495 78 = nI xs.length := by rw [mI_nr (by omega), mI_uI, if_pos ⟨rfl, rfl⟩]
    have g38 : mI (sRow (uI M 495 78 (nI xs.length)) 547 (fun i => if i < xs.length then nI (xs.getD i 0) else mI M 547 i)) 538 i = nI n := by rw [mI_nr (by omega), mI_ne (by omega)]; exact h38
    refine r_X12_again (fun n => n == 12) 40 ?_
    simp only [cd_X12_again, cf_X12_again, wp, wq, wpI, cdF, w_CI, w_CL, w_CN, w_LI, w_LL, w_LA, w_SI, w_SL, w_SA, w_INC, w_II, w_IId, w_LLb, w_LLd, w_LS, w_I1, w_L1, w_I2L, w_L2I, w_CMP, w_DUP, w_POP, w_DUP2, w_IF, w_IC, w_GO, w_NUL, w_ACN, prs, w_GF, w_PF, w_GS, w_IAL, w_LEN, w_LAL, w_ZAL, w_AAL, w_IAS, w_LAS, w_ZAS, w_AAS, w_RI, w_RL, w_RA, w_NEW, w_NA, w_MNA, w_OI, w_THR, w_CV, w_CS, w_CN9, w_CI9, w_MX, w_cont, lget, sto1, sto2, wideV, vo, vo_rv, isR, isR_rv, rv, fget, fput, cats, Value.category, List.headD_cons, List.getD_cons_zero, List.getD_cons_succ, List.drop_succ_cons, List.drop_zero, List.take_succ_cons, List.take_zero, List.reverse_cons, List.reverse_nil, List.nil_append, List.cons_append, List.length_cons, List.length_nil, cond_true, cond_false, and_true, true_and, Nat.zero_add, Nat.add_zero, Nat.reduceAdd, Nat.reduceLT, Nat.reduceLeDiff, Nat.reduceEqDiff, Nat.reduceBEq, Nat.reduceSub, ↓reduceIte, Int32.reduceOfNat, Int64.reduceOfNat, reduceCtorEq, Nat.le_refl, Nat.zero_le, Bool.false_eq_true, beq_self_eq_true, Fin.isValue, Fin.val_zero, Fin.val_one, Fin.reduceFinMk, Fin.val_two, Nat.reduceMod, Bool.or_false, Bool.or_true, Bool.true_or, Bool.false_or, not_true_eq_false, not_false_eq_true, true_or, or_true, implies_true, false_implies, true_implies, Int32.reduceLT, Int32.reduceLE, ↓w_TAB3, ↓w_TAB4, ↓w_TAB5, ↓w_TAB7, ↓w_TAB10, ↓w_LK2, ↓w_LK6, false_and, and_false, i1z, i2z, iz1, im0, im1, l0z, hasK_uI, hasK_uL, hasK_uR, hasK_uZ, hasK_sRow, mR_uI, mR_uL, mR_uZ, mR_sRow, mI_uL, mI_uR, mI_uZ, mL_uI, mL_uR, mL_uZ, mL_sRow, LF.hk hL, layF, LF.r hL, refF, ne_eq, not_false_eq_true, Option.some.injEq, Sum.inl.injEq, Sum.inr.injEq, Prod.mk.injEq, exists_eq_left, exists_eq_left', hasK_sRow, hasK_uI, mR_sRow, mR_uI, g78, ci, g38]
    exact ⟨fun _ => ⟨hv, hQ _ ⟨_, rfl, fun i hi => if_pos hi⟩⟩, fun q => absurd (nI_le (Nat.le_refl _) (by omega)) q⟩
  | succ r ih =>
    intro k hk
    have tk := nI_toInt (n := k) (by omega)
    have ck := nI_clamp (n := k) (by omega)
    have ea : nI (160 * i) + nI k = nI (160 * i + k) := nI_add _ _
    have ca := nI_clamp (n := 160 * i + k) (by omega)
    have ih' := ih (k + 1) (by omega)
    have g78 : mI (sRow (uI M 495 78 (nI xs.length)) 547 (fun i => if i < k then nI (xs.getD i 0) else mI M 547 i)) 495 78 = nI xs.length := by rw [mI_nr (by omega), mI_uI, if_pos ⟨rfl, rfl⟩]
    have gk : mI (sRow (uI M 495 78 (nI xs.length)) 547 (fun i => if i < k then nI (xs.getD i 0) else mI M 547 i)) 537 (160 * i + k) = nI (xs.getD k 0) := by rw [mI_nr (by omega), mI_ne (by omega)]; exact hx k (by omega)
    refine r_X12_again (fun n => n == 12) 40 ?_
    simp only [cd_X12_again, cf_X12_again, wp, wq, wpI, cdF, w_CI, w_CL, w_CN, w_LI, w_LL, w_LA, w_SI, w_SL, w_SA, w_INC, w_II, w_IId, w_LLb, w_LLd, w_LS, w_I1, w_L1, w_I2L, w_L2I, w_CMP, w_DUP, w_POP, w_DUP2, w_IF, w_IC, w_GO, w_NUL, w_ACN, prs, w_GF, w_PF, w_GS, w_IAL, w_LEN, w_LAL, w_ZAL, w_AAL, w_IAS, w_LAS, w_ZAS, w_AAS, w_RI, w_RL, w_RA, w_NEW, w_NA, w_MNA, w_OI, w_THR, w_CV, w_CS, w_CN9, w_CI9, w_MX, w_cont, lget, sto1, sto2, wideV, vo, vo_rv, isR, isR_rv, rv, fget, fput, cats, Value.category, List.headD_cons, List.getD_cons_zero, List.getD_cons_succ, List.drop_succ_cons, List.drop_zero, List.take_succ_cons, List.take_zero, List.reverse_cons, List.reverse_nil, List.nil_append, List.cons_append, List.length_cons, List.length_nil, cond_true, cond_false, and_true, true_and, Nat.zero_add, Nat.add_zero, Nat.reduceAdd, Nat.reduceLT, Nat.reduceLeDiff, Nat.reduceEqDiff, Nat.reduceBEq, Nat.reduceSub, ↓reduceIte, Int32.reduceOfNat, Int64.reduceOfNat, reduceCtorEq, Nat.le_refl, Nat.zero_le, Bool.false_eq_true, beq_self_eq_true, Fin.isValue, Fin.val_zero, Fin.val_one, Fin.reduceFinMk, Fin.val_two, Nat.reduceMod, Bool.or_false, Bool.or_true, Bool.true_or, Bool.false_or, not_true_eq_false, not_false_eq_true, true_or, or_true, implies_true, false_implies, true_implies, Int32.reduceLT, Int32.reduceLE, ↓w_TAB3, ↓w_TAB4, ↓w_TAB5, ↓w_TAB7, ↓w_TAB10, ↓w_LK2, ↓w_LK6, false_and, and_false, i1z, i2z, iz1, im0, im1, l0z, hasK_uI, hasK_uL, hasK_uR, hasK_uZ, hasK_sRow, mR_uI, mR_uL, mR_uZ, mR_sRow, mI_uL, mI_uR, mI_uZ, mL_uI, mL_uR, mL_uZ, mL_sRow, LF.hk hL, layF, LF.r hL, refF, ne_eq, not_false_eq_true, Option.some.injEq, Sum.inl.injEq, Sum.inr.injEq, Prod.mk.injEq, exists_eq_left, exists_eq_left', hasK_sRow, hasK_uI, mR_sRow, mR_uI, g78, ck, e16, ea, ca, gk, nI_1, uI_sRow]
    refine and_ii (fun q => ?_) (fun _ => ?_)
    · exfalso; (simp only [i_lt, i_le, i_eq, l_lt, l_le, l_eq, Int32.toInt_toInt64, Int32.reduceToInt, Int64.reduceToInt, ne_eq, Classical.not_not] at *; omega)
    refine ⟨vp_in_nI (by omega) (by omega), vp_in_nI (by omega) (by omega), ?_⟩
    rw [sRow_congr (g := fun i => if i < k + 1 then nI (xs.getD i 0) else mI M 547 i) (fun i => ?_)]
    · exact ih'
    · by_cases q : i = k
      · subst q; rw [if_pos rfl, if_pos (by omega)]
      · rw [if_neg q]
        by_cases q2 : i < k
        · rw [if_pos q2, if_pos (by omega)]
        · rw [if_neg q2, if_neg (by omega)]
theorem m_again (hR : RM S M) (hj : Jv t S) (hi : i < sN S 55) (hx : x = nI i) (hQ : ∀ M', zzN M M' (rO (sR S i)) → Q (some (.int (nI (rP (sR S i))))) M') : Ct G (MT 248) [.ref 495, .int x] M Q X := by
  subst hx
  obtain ⟨hL, hN, hI, hLl, hA, hC, hP, hRr, hD, hT, hZ, hK⟩ := id hR
  have hs := hj.1
  have hn := hN
  unfold mNn at hn
  unfold jS at hs
  have harc := hRr i hi
  have hok := hj.2.2.2.2.2.1.1 i hi
  have ci := nI_clamp (n := i) (by omega)
  refine Ct.go (L0 := [some (.ref 495), some (.int (nI i)), none]) (by decide +kernel) rfl rfl ?_
  refine r_X12_again (fun n => n == 12) 40 ?_
  simp only [cd_X12_again, cf_X12_again, wp, wq, wpI, cdF, w_CI, w_CL, w_CN, w_LI, w_LL, w_LA, w_SI, w_SL, w_SA, w_INC, w_II, w_IId, w_LLb, w_LLd, w_LS, w_I1, w_L1, w_I2L, w_L2I, w_CMP, w_DUP, w_POP, w_DUP2, w_IF, w_IC, w_GO, w_NUL, w_ACN, prs, w_GF, w_PF, w_GS, w_IAL, w_LEN, w_LAL, w_ZAL, w_AAL, w_IAS, w_LAS, w_ZAS, w_AAS, w_RI, w_RL, w_RA, w_NEW, w_NA, w_MNA, w_OI, w_THR, w_CV, w_CS, w_CN9, w_CI9, w_MX, w_cont, lget, sto1, sto2, wideV, vo, vo_rv, isR, isR_rv, rv, fget, fput, cats, Value.category, List.headD_cons, List.getD_cons_zero, List.getD_cons_succ, List.drop_succ_cons, List.drop_zero, List.take_succ_cons, List.take_zero, List.reverse_cons, List.reverse_nil, List.nil_append, List.cons_append, List.length_cons, List.length_nil, cond_true, cond_false, and_true, true_and, Nat.zero_add, Nat.add_zero, Nat.reduceAdd, Nat.reduceLT, Nat.reduceLeDiff, Nat.reduceEqDiff, Nat.reduceBEq, Nat.reduceSub, ↓reduceIte, Int32.reduceOfNat, Int64.reduceOfNat, reduceCtorEq, Nat.le_refl, Nat.zero_le, Bool.false_eq_true, beq_self_eq_true, Fin.isValue, Fin.val_zero, Fin.val_one, Fin.reduceFinMk, Fin.val_two, Nat.reduceMod, Bool.or_false, Bool.or_true, Bool.true_or, Bool.false_or, not_true_eq_false, not_false_eq_true, true_or, or_true, implies_true, false_implies, true_implies, Int32.reduceLT, Int32.reduceLE, ↓w_TAB3, ↓w_TAB4, ↓w_TAB5, ↓w_TAB7, ↓w_TAB10, ↓w_LK2, ↓w_LK6, false_and, and_false, i1z, i2z, iz1, im0, im1, l0z, hasK_uI, hasK_uL, hasK_uR, hasK_uZ, hasK_sRow, mR_uI, mR_uL, mR_uZ, mR_sRow, mI_uL, mI_uR, mI_uZ, mL_uI, mL_uR, mL_uZ, mL_sRow, LF.hk hL, layF, LF.r hL, refF, ne_eq, not_false_eq_true, Option.some.injEq, Sum.inl.injEq, Sum.inr.injEq, Prod.mk.injEq, exists_eq_left, exists_eq_left', ci, harc.2.2.2.2.2.2.1]
  refine ⟨vp_in_nI (by omega) (by omega), ?_⟩
  have := lp_again (G := G) (X := X) (i := i) (n := rP (sR S i)) hL (by omega) harc.2.2.2.2.2.2.2 harc.2.2.2.1 hok.2.2.2.2.2.1 hQ (rO (sR S i)).length 0 (by omega)
  rw [sRow_0 (fun i => mI_ne (by omega))] at this
  exact this
/-- the reply and what is written of it change, nothing else -/
def anN (M0 M : Mem) : Prop := mL M = mL M0 ∧ mR M = mR M0 ∧ M.1 = M0.1 ∧ ∀ b j, b ≠ 543 → b ≠ 544 → b ≠ 546 → b ≠ 548 → b ≠ 549 → b ≠ 550 → (b ≠ 495 ∨ (j ≠ 70 ∧ j ≠ 76 ∧ j ≠ 82)) → mI M b j = mI M0 b j
theorem anN_0 : anN M M := ⟨rfl, rfl, rfl, fun _ _ _ _ _ _ _ _ _ => rfl⟩
theorem anN_t {M1 : Mem} (h : anN M0 M) (h' : anN M M1) : anN M0 M1 := ⟨h'.1.trans h.1, h'.2.1.trans h.2.1, h'.2.2.1.trans h.2.2.1, fun b j h1 h2 h3 h4 h5 h6 h7 => (h'.2.2.2 b j h1 h2 h3 h4 h5 h6 h7).trans (h.2.2.2 b j h1 h2 h3 h4 h5 h6 h7)⟩
theorem anN_u {v : Int32} (h : anN M0 M) (hb : b = 543 ∨ b = 544 ∨ b = 546 ∨ b = 548 ∨ b = 549 ∨ b = 550 ∨ (b = 495 ∧ (j = 70 ∨ j = 76 ∨ j = 82))) : anN M0 (uI M b j v) := ⟨h.1, h.2.1, h.2.2.1, fun c i h1 h2 h3 h4 h5 h6 h7 => by rw [mI_ne (by omega)]; exact h.2.2.2 c i h1 h2 h3 h4 h5 h6 h7⟩
theorem anN_r {f : Nat → Int32} (h : anN M0 M) (hb : b = 543 ∨ b = 544 ∨ b = 546 ∨ b = 548 ∨ b = 549 ∨ b = 550) : anN M0 (sRow M b f) := ⟨h.1, h.2.1, h.2.2.1, fun c i h1 h2 h3 h4 h5 h6 h7 => by rw [mI_nr (by omega)]; exact h.2.2.2 c i h1 h2 h3 h4 h5 h6 h7⟩
theorem anN_L (h : anN M0 M) (hL : LF M0) : LF M := by
  obtain ⟨h1, h2, h3, h4⟩ := h
  obtain ⟨a1, a2, a3, a4, a5, a6, a7, a8, a9⟩ := hL
  refine ⟨by show M.1.1 = _; rw [h3]; exact a1, by show M.1.2.1 = _; rw [h3]; exact a2, ?_, ?_, ?_, ?_, ?_, ?_, ?_⟩ <;> (rw [h2]; assumption)
theorem loS_an (h : loS Mz M0) (hw : anN M0 M) : loS Mz M := ⟨fun b hb => (h.1 b hb).trans ⟨by funext j; exact hw.2.2.2 b j (by omega) (by omega) (by omega) (by omega) (by omega) (by omega) (by omega), by rw [hw.1], by rw [hw.2.1]⟩, h.2.trans ⟨by funext j; exact hw.2.2.2 551 j (by omega) (by omega) (by omega) (by omega) (by omega) (by omega) (by omega), by rw [hw.1], by rw [hw.2.1]⟩⟩
theorem msgM_an (hm : msgM M0 67 542 541 m) (hw : anN M0 M) : msgM M 67 542 541 m := by
  have e : ∀ b j, (b = 541 ∨ b = 542 ∨ (b = 495 ∧ j = 67)) → mI M b j = mI M0 b j := fun b j hb => hw.2.2.2 b j (by omega) (by omega) (by omega) (by omega) (by omega) (by omega) (by omega)
  exact ⟨by rw [e _ _ (by omega)]; exact hm.1, fun s hs => ⟨fun hp => ⟨by rw [e _ _ (by omega)]; exact ((hm.2 s hs).1 hp).1, fun i hi => by rw [e _ _ (by omega)]; exact ((hm.2 s hs).1 hp).2 i hi⟩, fun hp => by rw [e _ _ (by omega)]; exact (hm.2 s hs).2 hp⟩⟩
theorem RM_an (h : RM S M0) (hw : anN M0 M) : RM S M := by
  obtain ⟨hL, hN, hI, hLl, hA, hC, hP, hRr, hD, hT, hZ, hK⟩ := h
  have e := hw.2.2.2
  have e4 : ∀ j, j ≠ 70 → j ≠ 76 → j ≠ 82 → j ≠ 82 → mI M 495 j = mI M0 495 j := fun j a b c d => e _ _ (by omega) (by omega) (by omega) (by omega) (by omega) (by omega) (Or.inr ⟨a, b, c⟩)
  have e5 : ∀ b j, b ≠ 495 → b ≠ 548 → b ≠ 549 → (b < 543 ∨ b = 545 ∨ b = 547) → mI M b j = mI M0 b j := fun b j a1 a2 a3 a4 => e _ _ (by omega) (by omega) (by omega) (by omega) (by omega) (by omega) (Or.inl a1)
  have el := hw.1
  refine ⟨anN_L hw hL, ?_, ?_, ?_, ?_, ?_, ?_, ?_, ?_, ?_, ?_, ?_⟩
  · unfold mNn at hN ⊢
    rw [e4 4 (by omega) (by omega) (by omega) (by omega), e4 17 (by omega) (by omega) (by omega) (by omega), e4 18 (by omega) (by omega) (by omega) (by omega), e4 24 (by omega) (by omega) (by omega) (by omega), e4 28 (by omega) (by omega) (by omega) (by omega), e4 34 (by omega) (by omega) (by omega) (by omega), e4 13 (by omega) (by omega) (by omega) (by omega), e4 14 (by omega) (by omega) (by omega) (by omega), e4 15 (by omega) (by omega) (by omega) (by omega), e4 16 (by omega) (by omega) (by omega) (by omega), e4 39 (by omega) (by omega) (by omega) (by omega), e4 12 (by omega) (by omega) (by omega) (by omega), e4 11 (by omega) (by omega) (by omega) (by omega), e4 55 (by omega) (by omega) (by omega) (by omega), e4 8 (by omega) (by omega) (by omega) (by omega), e4 9 (by omega) (by omega) (by omega) (by omega), e4 10 (by omega) (by omega) (by omega) (by omega), e4 7 (by omega) (by omega) (by omega) (by omega), e4 6 (by omega) (by omega) (by omega) (by omega), e4 5 (by omega) (by omega) (by omega) (by omega)]
    exact hN
  · exact ⟨fun i hi => by rw [e5 _ _ (by omega) (by omega) (by omega) (by omega)]; exact hI.1 i hi, fun i hi => by rw [e5 _ _ (by omega) (by omega) (by omega) (by omega)]; exact hI.2.1 i hi, fun i hi => by rw [e5 _ _ (by omega) (by omega) (by omega) (by omega), e5 505 _ (by omega) (by omega) (by omega) (by omega), e5 506 _ (by omega) (by omega) (by omega) (by omega)]; exact hI.2.2.1 i hi, fun i hi => by rw [e5 _ _ (by omega) (by omega) (by omega) (by omega)]; exact hI.2.2.2.1 i hi, fun i hi => by rw [e5 _ _ (by omega) (by omega) (by omega) (by omega), e5 515 _ (by omega) (by omega) (by omega) (by omega)]; exact hI.2.2.2.2 i hi⟩
  · unfold mLl at hLl ⊢; rw [el]; exact hLl
  · exact fun i hi => ⟨by rw [e5 _ _ (by omega) (by omega) (by omega) (by omega)]; exact (hA i hi).1, fun k hk => by rw [e5 _ _ (by omega) (by omega) (by omega) (by omega)]; exact (hA i hi).2 k hk⟩
  · exact fun i hi => ⟨by rw [e5 _ _ (by omega) (by omega) (by omega) (by omega)]; exact (hC i hi).1, fun k hk => by rw [e5 _ _ (by omega) (by omega) (by omega) (by omega)]; exact (hC i hi).2 k hk⟩
  · intro i hi
    have := hP i hi
    unfold payM at this ⊢
    rw [el]
    simp only [e5 516 _ (by omega) (by omega) (by omega) (by omega), e5 517 _ (by omega) (by omega) (by omega) (by omega), e5 518 _ (by omega) (by omega) (by omega) (by omega), e5 519 _ (by omega) (by omega) (by omega) (by omega), e5 520 _ (by omega) (by omega) (by omega) (by omega), e5 521 _ (by omega) (by omega) (by omega) (by omega), e5 522 _ (by omega) (by omega) (by omega) (by omega), e5 523 _ (by omega) (by omega) (by omega) (by omega), e5 526 _ (by omega) (by omega) (by omega) (by omega), e5 527 _ (by omega) (by omega) (by omega) (by omega), e5 528 _ (by omega) (by omega) (by omega) (by omega), e5 530 _ (by omega) (by omega) (by omega) (by omega)]
    exact this
  · intro i hi
    have := hRr i hi
    unfold arcM at this ⊢
    simp only [e5 531 _ (by omega) (by omega) (by omega) (by omega), e5 532 _ (by omega) (by omega) (by omega) (by omega), e5 533 _ (by omega) (by omega) (by omega) (by omega), e5 534 _ (by omega) (by omega) (by omega) (by omega), e5 535 _ (by omega) (by omega) (by omega) (by omega), e5 536 _ (by omega) (by omega) (by omega) (by omega), e5 537 _ (by omega) (by omega) (by omega) (by omega), e5 538 _ (by omega) (by omega) (by omega) (by omega)]
    exact this
  · refine ⟨by rw [e4 _ (by omega) (by omega) (by omega) (by omega)]; exact hD.1, fun s hs => ⟨fun hp => ⟨by rw [e5 _ _ (by omega) (by omega) (by omega) (by omega)]; exact ((hD.2 s hs).1 hp).1, fun i hi => by rw [e5 _ _ (by omega) (by omega) (by omega) (by omega)]; exact ((hD.2 s hs).1 hp).2 i hi⟩, fun hp => by rw [e5 _ _ (by omega) (by omega) (by omega) (by omega)]; exact (hD.2 s hs).2 hp⟩⟩
  · exact ⟨by rw [e4 _ (by omega) (by omega) (by omega) (by omega)]; exact hT.1, fun i hi => by rw [e5 _ _ (by omega) (by omega) (by omega) (by omega)]; exact hT.2 i hi⟩
  · exact ⟨by rw [e4 _ (by omega) (by omega) (by omega) (by omega)]; exact hZ.1, fun i hi => by rw [e5 _ _ (by omega) (by omega) (by omega) (by omega)]; exact hZ.2 i hi⟩
  · exact fun s hs => by rw [e5 _ _ (by omega) (by omega) (by omega) (by omega), e5 497 _ (by omega) (by omega) (by omega) (by omega), e5 498 _ (by omega) (by omega) (by omega) (by omega)]; exact hK s hs
end TM
