/-! A MESSAGE IS WRITTEN: the reference, its last loops -/
section SM4
variable {G : En} {M M0 : Mem} {Q : Option Value → Mem → Prop} {X : String → Mem → Prop} {S : Sw} {t a b e r p s n N v k th c i ty : Nat} {m : Msg} {f : Nat → Nat} {xs : List Nat}
theorem lp_w2 (hL : LF M0) (he : 498 < e ∧ e ≠ 548) (hke : hasK M0 e (.inl (.int, N))) (hN : xs.length + 16 ≤ N ∧ N < 2147483648) (hc : c ≤ 1) {w : Option Value} (hQ : ∀ M, nW M0 e (xs ++ List.replicate (8 + 8 * c) 0) M → Go G (MT 211) Q X 122 [some (.ref 495), w, some (.ref r), some (.ref b), some (.ref e), some (.int (nI c)), none, none] [] M 0 0) : ∀ (z i : Nat), z + i = 8 + 8 * c → ∀ M, nW M0 e (xs ++ List.replicate i 0) M → Go G (MT 211) Q X 81 [some (.ref 495), w, some (.ref r), some (.ref b), some (.ref e), some (.int (nI c)), some (.int (nI i)), none] [] M 0 0 := by
  have h8 : ∀ x : Int32, (¬ nI c = 0 → x = 16) → (nI c = 0 → x = 8) → x = nI (8 + 8 * c) := fun x h1 h2 => by
    rcases (show c = 0 ∨ c = 1 by omega) with q | q <;> subst q
    · exact h2 rfl
    · exact h1 (by decide)
  intro z
  induction z with
  | zero =>
    intro i hi M hM
    have hi : i = 8 + 8 * c := by omega
    subst hi
    have hq := hQ M hM
    refine r_X12_write (fun n => n == 81 || n == 122 || n == 16 || n == 28 || n == 201) 60 ?_
    simp only [cd_X12_write, cf_X12_write, wp, wq, wpI, cdF, w_CI, w_CL, w_CN, w_LI, w_LL, w_LA, w_SI, w_SL, w_SA, w_INC, w_II, w_IId, w_LLb, w_LLd, w_LS, w_I1, w_L1, w_I2L, w_L2I, w_CMP, w_DUP, w_POP, w_DUP2, w_IF, w_IC, w_GO, w_NUL, w_ACN, prs, w_GF, w_PF, w_GS, w_IAL, w_LEN, w_LAL, w_ZAL, w_AAL, w_IAS, w_LAS, w_ZAS, w_AAS, w_RI, w_RL, w_RA, w_NEW, w_NA, w_MNA, w_OI, w_THR, w_CV, w_CS, w_CN9, w_CI9, w_MX, w_cont, lget, sto1, sto2, wideV, vo, vo_rv, isR, isR_rv, rv, fget, fput, cats, Value.category, List.headD_cons, List.getD_cons_zero, List.getD_cons_succ, List.drop_succ_cons, List.drop_zero, List.take_succ_cons, List.take_zero, List.reverse_cons, List.reverse_nil, List.nil_append, List.cons_append, List.length_cons, List.length_nil, cond_true, cond_false, and_true, true_and, Nat.zero_add, Nat.add_zero, Nat.reduceAdd, Nat.reduceLT, Nat.reduceLeDiff, Nat.reduceEqDiff, Nat.reduceBEq, Nat.reduceSub, ↓reduceIte, Int32.reduceOfNat, Int64.reduceOfNat, reduceCtorEq, Nat.le_refl, Nat.zero_le, Bool.false_eq_true, beq_self_eq_true, Fin.isValue, Fin.val_zero, Fin.val_one, Fin.reduceFinMk, Fin.val_two, Nat.reduceMod, Bool.or_false, Bool.or_true, Bool.true_or, Bool.false_or, not_true_eq_false, not_false_eq_true, true_or, or_true, implies_true, false_implies, true_implies, Int32.reduceLT, Int32.reduceLE, ↓w_TAB3, ↓w_TAB4, ↓w_TAB5, ↓w_TAB7, ↓w_TAB10, ↓w_LK2, ↓w_LK6, false_and, and_false, i1z, i2z, iz1, im0, im1, l0z]
    rcases (show c = 0 ∨ c = 1 by omega) with q | q <;> subst q
    · refine and_ii (fun _ => and_ii (fun _ => ?_) (fun q => absurd (by decide) q)) (fun q => absurd rfl q)
      refine Go.less hq (fun i v h => ?_)
      rcases i with _ | _ | _ | _ | _ | _ | _ | _ | i <;> simp at h ⊢ <;> exact h
    · refine and_ii (fun q => absurd q (by decide)) (fun _ => and_ii (fun _ => ?_) (fun q => absurd (by decide) q))
      refine Go.less hq (fun i v h => ?_)
      rcases i with _ | _ | _ | _ | _ | _ | _ | _ | i <;> simp at h ⊢ <;> exact h
  | succ z ih =>
    intro i hi M hM
    have hLM := hM.L hL
    have hk5 : hasK M 495 (.inr 12) := by rw [hLM.hk]; rfl
    have hkM : hasK M e (.inl (.int, N)) := by obtain ⟨_, _, rfl, -⟩ := hM; exact hke
    have ti := nI_toInt (n := i) (by omega)
    have hlen := hM.l (by omega)
    have hll : (xs ++ List.replicate i 0).length = xs.length + i := by simp
    have c3 := nI_clamp (n := (xs ++ List.replicate i 0).length) (by omega)
    have h495 : (495 : Nat) ≠ e := by omega
    have h' := nW_add (y := 0) (v := 0) hM ⟨by omega, by omega⟩ rfl
    have ih' := ih (i + 1) (by omega) _ (by rw [List.replicate_succ', ← List.append_assoc]; exact h')
    refine r_X12_write (fun n => n == 81 || n == 122 || n == 16 || n == 28 || n == 201) 60 ?_
    simp only [cd_X12_write, cf_X12_write, wp, wq, wpI, cdF, w_CI, w_CL, w_CN, w_LI, w_LL, w_LA, w_SI, w_SL, w_SA, w_INC, w_II, w_IId, w_LLb, w_LLd, w_LS, w_I1, w_L1, w_I2L, w_L2I, w_CMP, w_DUP, w_POP, w_DUP2, w_IF, w_IC, w_GO, w_NUL, w_ACN, prs, w_GF, w_PF, w_GS, w_IAL, w_LEN, w_LAL, w_ZAL, w_AAL, w_IAS, w_LAS, w_ZAS, w_AAS, w_RI, w_RL, w_RA, w_NEW, w_NA, w_MNA, w_OI, w_THR, w_CV, w_CS, w_CN9, w_CI9, w_MX, w_cont, lget, sto1, sto2, wideV, vo, vo_rv, isR, isR_rv, rv, fget, fput, cats, Value.category, List.headD_cons, List.getD_cons_zero, List.getD_cons_succ, List.drop_succ_cons, List.drop_zero, List.take_succ_cons, List.take_zero, List.reverse_cons, List.reverse_nil, List.nil_append, List.cons_append, List.length_cons, List.length_nil, cond_true, cond_false, and_true, true_and, Nat.zero_add, Nat.add_zero, Nat.reduceAdd, Nat.reduceLT, Nat.reduceLeDiff, Nat.reduceEqDiff, Nat.reduceBEq, Nat.reduceSub, ↓reduceIte, Int32.reduceOfNat, Int64.reduceOfNat, reduceCtorEq, Nat.le_refl, Nat.zero_le, Bool.false_eq_true, beq_self_eq_true, Fin.isValue, Fin.val_zero, Fin.val_one, Fin.reduceFinMk, Fin.val_two, Nat.reduceMod, Bool.or_false, Bool.or_true, Bool.true_or, Bool.false_or, not_true_eq_false, not_false_eq_true, true_or, or_true, implies_true, false_implies, true_implies, Int32.reduceLT, Int32.reduceLE, ↓w_TAB3, ↓w_TAB4, ↓w_TAB5, ↓w_TAB7, ↓w_TAB10, ↓w_LK2, ↓w_LK6, false_and, and_false, i1z, i2z, iz1, im0, im1, l0z, hk5, hlen, c3, hasK_uI, mI_uI, h495, nI_1]
    rcases (show c = 0 ∨ c = 1 by omega) with q | q <;> subst q
    · refine and_ii (fun _ => and_ii (fun q => ?_) (fun _ => ⟨_, hkM, vp_in_nI (by omega) hN.2, ?_⟩)) (fun q => absurd rfl q)
      · exfalso; (simp only [i_lt, i_le, i_eq, l_lt, l_le, l_eq, Int32.toInt_toInt64, Int32.reduceToInt, Int64.reduceToInt, ne_eq, Classical.not_not] at *; omega)
      · exact ih'
    · refine and_ii (fun q => absurd q (by decide)) (fun _ => and_ii (fun q => ?_) (fun _ => ⟨_, hkM, vp_in_nI (by omega) hN.2, ?_⟩))
      · exfalso; (simp only [i_lt, i_le, i_eq, l_lt, l_le, l_eq, Int32.toInt_toInt64, Int32.reduceToInt, Int64.reduceToInt, ne_eq, Classical.not_not] at *; omega)
      · exact ih'
theorem w3_c : ∀ i : Fin 16, nI (fnF i.val) - 1 = nI (fnF i.val - 1) ∧ (2 : Int32) + nI (fnF i.val - 1) / 8 = nI (2 + (fnF i.val - 1) / 8) ∧ (128 : Int32) >>> ((nI (fnF i.val - 1) - nI (fnF i.val - 1) / 8 * 8) &&& 31) = nI (128 / 2 ^ ((fnF i.val - 1) % 8)) := by decide
theorem set_mid {A L B : List Nat} {q v : Nat} (hA : A.length = 2) (hq : q < L.length) : (A ++ L ++ B).set (2 + q) v = A ++ L.set q v ++ B := by
  rw [List.append_assoc, List.set_append_right _ _ (by omega), hA, Nat.add_sub_cancel_left, List.set_append_left _ _ hq, List.append_assoc]
theorem getD_mid {A L B : List Nat} {q : Nat} (hA : A.length = 2) (hq : q < L.length) : (A ++ L ++ B).getD (2 + q) 0 = L.getD q 0 := by
  rw [List.append_assoc, gD_r (by omega), hA, Nat.add_sub_cancel_left, gD_l hq]
theorem lp_w3 (hL : LF M0) (hK : mK M0) (he : 498 < e ∧ e ≠ b ∧ e ≠ 548 ∧ e ≠ r) (hb : b ≠ 495 ∧ b ≠ 548 ∧ hasK M0 b (.inl (.int, 16))) (hr : r ≠ 495 ∧ r ≠ 548 ∧ hasK M0 r (.inl (.int, 672))) (hke : hasK M0 e (.inl (.int, N))) (hN2 : N < 2147483648) (hN : 62 + mxL (gH m) 16 ≤ N) (hm : msR M0 b r m) (ho : okM m) {w : Option Value} (hQ : ∀ M', nW M0 e (ser m) M' → Q none M') : ∀ (z i : Nat), z + i = 16 → ∀ M, nW M0 e (tyB (gT m) ++ mpL (pl (gH m) i) (scF (gH m)) ++ fdL (gH m) (gN m) (gS m) i) M → Go G (MT 211) Q X 141 [some (.ref 495), w, some (.ref r), some (.ref b), some (.ref e), some (.int (nI (scF (gH m)))), some (.int (nI i)), none] [] M 0 0 := by
  have hsc := scF_le (gH m)
  intro z
  induction z with
  | zero =>
    intro i hi M hM
    have hi : i = 16 := by omega
    subst hi
    refine r_X12_write (fun n => n == 141 || n == 16 || n == 28 || n == 201) 60 ?_
    simp only [cd_X12_write, cf_X12_write, wp, wq, wpI, cdF, w_CI, w_CL, w_CN, w_LI, w_LL, w_LA, w_SI, w_SL, w_SA, w_INC, w_II, w_IId, w_LLb, w_LLd, w_LS, w_I1, w_L1, w_I2L, w_L2I, w_CMP, w_DUP, w_POP, w_DUP2, w_IF, w_IC, w_GO, w_NUL, w_ACN, prs, w_GF, w_PF, w_GS, w_IAL, w_LEN, w_LAL, w_ZAL, w_AAL, w_IAS, w_LAS, w_ZAS, w_AAS, w_RI, w_RL, w_RA, w_NEW, w_NA, w_MNA, w_OI, w_THR, w_CV, w_CS, w_CN9, w_CI9, w_MX, w_cont, lget, sto1, sto2, wideV, vo, vo_rv, isR, isR_rv, rv, fget, fput, cats, Value.category, List.headD_cons, List.getD_cons_zero, List.getD_cons_succ, List.drop_succ_cons, List.drop_zero, List.take_succ_cons, List.take_zero, List.reverse_cons, List.reverse_nil, List.nil_append, List.cons_append, List.length_cons, List.length_nil, cond_true, cond_false, and_true, true_and, Nat.zero_add, Nat.add_zero, Nat.reduceAdd, Nat.reduceLT, Nat.reduceLeDiff, Nat.reduceEqDiff, Nat.reduceBEq, Nat.reduceSub, ↓reduceIte, Int32.reduceOfNat, Int64.reduceOfNat, reduceCtorEq, Nat.le_refl, Nat.zero_le, Bool.false_eq_true, beq_self_eq_true, Fin.isValue, Fin.val_zero, Fin.val_one, Fin.reduceFinMk, Fin.val_two, Nat.reduceMod, Bool.or_false, Bool.or_true, Bool.true_or, Bool.false_or, not_true_eq_false, not_false_eq_true, true_or, or_true, implies_true, false_implies, true_implies, Int32.reduceLT, Int32.reduceLE, ↓w_TAB3, ↓w_TAB4, ↓w_TAB5, ↓w_TAB7, ↓w_TAB10, ↓w_LK2, ↓w_LK6, false_and, and_false, i1z, i2z, iz1, im0, im1, l0z]
    refine ⟨fun _ => hQ M ?_, fun q => absurd (by decide) q⟩
    unfold ser
    have e0 : mpL (pl (gH m) 16) (scF (gH m)) = mpL (pb (gH m)) (scF (gH m)) := by
      unfold mpL
      apply List.map_congr_left
      intro k _
      rcases k with _ | _ | _ | _ | _ | _ | _ | _ | _ | _ | _ | _ | k <;> rfl
    rw [e0] at hM
    exact hM
  | succ z ih =>
    intro i hi M hM
    have hi16 : i < 16 := by omega
    have hLM := hM.L hL
    have hkM : ∀ b ty, hasK M0 b ty → hasK M b ty := fun b ty q => by obtain ⟨_, _, rfl, -⟩ := hM; exact q
    have ti := nI_toInt (n := i) (by omega)
    have ci := nI_clamp (n := i) (by omega)
    have hnum : mI M 496 i = nI (fnF i) := by rw [hM.i (by omega) (by omega)]; exact (hK i hi16).1
    have hsz : mI M b i = mI M0 b i := hM.i (by omega) (by omega)
    have hmi := hm i hi16
    have hpb := pb_le (gH m) i
    have ih' := ih (i + 1) (by omega)
    have hc3 := w3_c ⟨i, hi16⟩
    simp only at hc3
    have hf95 : fnF i ≤ 95 := by unfold fnF; split <;> omega
    have cj := nI_clamp (n := 2 + (fnF i - 1) / 8) (by omega)
    have hkb := hkM _ _ hb.2.2
    have hkE := hkM _ _ hke
    have hk5 : hasK M 495 (.inr 12) := by rw [hLM.hk]; rfl
    have hk6 : hasK M 496 (.inl (.int, 16)) := by rw [hLM.hk]; rfl
    have hr6 : mR M 495 0 = some 496 := by rw [hLM.r (by decide)]; rfl
    have e8 : ((8 : Int32) = 0) = False := eq_false (by decide)
    refine r_X12_write (fun n => n == 141 || n == 16 || n == 28 || n == 201) 80 ?_
    simp only [cd_X12_write, cf_X12_write, wp, wq, wpI, cdF, w_CI, w_CL, w_CN, w_LI, w_LL, w_LA, w_SI, w_SL, w_SA, w_INC, w_II, w_IId, w_LLb, w_LLd, w_LS, w_I1, w_L1, w_I2L, w_L2I, w_CMP, w_DUP, w_POP, w_DUP2, w_IF, w_IC, w_GO, w_NUL, w_ACN, prs, w_GF, w_PF, w_GS, w_IAL, w_LEN, w_LAL, w_ZAL, w_AAL, w_IAS, w_LAS, w_ZAS, w_AAS, w_RI, w_RL, w_RA, w_NEW, w_NA, w_MNA, w_OI, w_THR, w_CV, w_CS, w_CN9, w_CI9, w_MX, w_cont, lget, sto1, sto2, wideV, vo, vo_rv, isR, isR_rv, rv, fget, fput, cats, Value.category, List.headD_cons, List.getD_cons_zero, List.getD_cons_succ, List.drop_succ_cons, List.drop_zero, List.take_succ_cons, List.take_zero, List.reverse_cons, List.reverse_nil, List.nil_append, List.cons_append, List.length_cons, List.length_nil, cond_true, cond_false, and_true, true_and, Nat.zero_add, Nat.add_zero, Nat.reduceAdd, Nat.reduceLT, Nat.reduceLeDiff, Nat.reduceEqDiff, Nat.reduceBEq, Nat.reduceSub, ↓reduceIte, Int32.reduceOfNat, Int64.reduceOfNat, reduceCtorEq, Nat.le_refl, Nat.zero_le, Bool.false_eq_true, beq_self_eq_true, Fin.isValue, Fin.val_zero, Fin.val_one, Fin.reduceFinMk, Fin.val_two, Nat.reduceMod, Bool.or_false, Bool.or_true, Bool.true_or, Bool.false_or, not_true_eq_false, not_false_eq_true, true_or, or_true, implies_true, false_implies, true_implies, Int32.reduceLT, Int32.reduceLE, ↓w_TAB3, ↓w_TAB4, ↓w_TAB5, ↓w_TAB7, ↓w_TAB10, ↓w_LK2, ↓w_LK6, false_and, and_false, i1z, i2z, iz1, im0, im1, l0z, nI_1, ci, hk5, hr6, hnum, hsz, hc3.1, hc3.2.1, hc3.2.2, cj, e8, hasK_uI, mR_uI]
    have hlen := fdL_len (th := gH m) (ln := gN m) (sg := gS m) i (by omega) (fun s hs hp => ho.2.2 s (by omega) hp)
    have hx16 := mxL_16 (th := gH m) (i := i + 1) (by omega)
    rw [mxL] at hx16
    refine and_ii (fun q => ?_) (fun _ => ⟨16, hkb, vp_in_nI hi16 (by omega), ?_⟩)
    · exfalso; (simp only [i_lt, i_le, i_eq, l_lt, l_le, l_eq, Int32.toInt_toInt64, Int32.reduceToInt, Int64.reduceToInt, ne_eq, Classical.not_not] at *; omega)
    by_cases q : pb (gH m) i = 1
    · have hn42 := okM_42 ho i hi16 q
      have hff := ho.2.2 i hi16 q
      rw [(hmi.1 q).1]
      rw [if_pos q] at hx16
      have hcc : 11 ≤ i → scF (gH m) = 1 := fun h11 => by
        unfold scF
        rw [if_pos]
        have h2 : 2048 ≤ 2 ^ i := Nat.pow_le_pow_right (n := 2) (by omega) h11
        have h3 : 1 ≤ gH m / 2 ^ i := Nat.pos_of_ne_zero (fun h0 => by unfold pb at q; rw [h0] at q; simp at q)
        have h4 := (Nat.le_div_iff_mul_le (Nat.pow_pos (by omega))).mp h3
        omega
      have hst := mp_step (th := gH m) hi16 hcc q
      have hmpl : (mpL (pl (gH m) i) (scF (gH m))).length = 8 + 8 * scF (gH m) := mpL_len _ _
      have hty2 : (tyB (gT m)).length = 2 := rfl
      have hj : 2 + (fnF i - 1) / 8 < (tyB (gT m) ++ mpL (pl (gH m) i) (scF (gH m)) ++ fdL (gH m) (gN m) (gS m) i).length := by
        rw [List.length_append, List.length_append, hmpl, hty2]; omega
      have hjN : 2 + (fnF i - 1) / 8 < N := by omega
      have hat := hM.at hj
      rw [getD_mid hty2 (by omega)] at hat
      refine and_ii (fun q2 => absurd q2 (nI_pos (by omega))) (fun _ => ⟨16, hk6, vp_in_nI hi16 (by omega), N, hkE, vp_in_nI hjN hN2, N, hkE, vp_in_nI hjN hN2, 16, hkb, vp_in_nI hi16 (by omega), ?_⟩)
      have hbi : ∀ y, mI (uI M e (2 + (fnF i - 1) / 8) y) b i = nI (gN m i) := fun y => by rw [mI_ne (by omega), hsz]; exact (hmi.1 q).1
      rw [hbi, hat, nI_add]
      have hM2 := nW_set (v := (mpL (pl (gH m) i) (scF (gH m))).getD ((fnF i - 1) / 8) 0 + 128 / 2 ^ ((fnF i - 1) % 8)) hM hj rfl
      rw [set_mid hty2 (by omega), hst.1] at hM2
      have hmpl2 : (mpL (pl (gH m) (i + 1)) (scF (gH m))).length = 8 + 8 * scF (gH m) := mpL_len _ _
      refine m_writeField hL hK hM2 ⟨by omega, by omega, by omega, by omega, by omega⟩ (by omega) hke hr.2.2 hN2 hi16 hn42 ?_ hff.2.2.2 (hmi.1 q).2 (fun M3 h3 => ⟨rfl, ?_⟩)
      · rw [List.length_append, List.length_append, hmpl2, hty2]; omega
      refine r_X12_write (fun n => n == 141 || n == 16 || n == 28 || n == 201) 80 ?_
      simp only [cd_X12_write, cf_X12_write, wp, wq, wpI, cdF, w_CI, w_CL, w_CN, w_LI, w_LL, w_LA, w_SI, w_SL, w_SA, w_INC, w_II, w_IId, w_LLb, w_LLd, w_LS, w_I1, w_L1, w_I2L, w_L2I, w_CMP, w_DUP, w_POP, w_DUP2, w_IF, w_IC, w_GO, w_NUL, w_ACN, prs, w_GF, w_PF, w_GS, w_IAL, w_LEN, w_LAL, w_ZAL, w_AAL, w_IAS, w_LAS, w_ZAS, w_AAS, w_RI, w_RL, w_RA, w_NEW, w_NA, w_MNA, w_OI, w_THR, w_CV, w_CS, w_CN9, w_CI9, w_MX, w_cont, lget, sto1, sto2, wideV, vo, vo_rv, isR, isR_rv, rv, fget, fput, cats, Value.category, List.headD_cons, List.getD_cons_zero, List.getD_cons_succ, List.drop_succ_cons, List.drop_zero, List.take_succ_cons, List.take_zero, List.reverse_cons, List.reverse_nil, List.nil_append, List.cons_append, List.length_cons, List.length_nil, cond_true, cond_false, and_true, true_and, Nat.zero_add, Nat.add_zero, Nat.reduceAdd, Nat.reduceLT, Nat.reduceLeDiff, Nat.reduceEqDiff, Nat.reduceBEq, Nat.reduceSub, ↓reduceIte, Int32.reduceOfNat, Int64.reduceOfNat, reduceCtorEq, Nat.le_refl, Nat.zero_le, Bool.false_eq_true, beq_self_eq_true, Fin.isValue, Fin.val_zero, Fin.val_one, Fin.reduceFinMk, Fin.val_two, Nat.reduceMod, Bool.or_false, Bool.or_true, Bool.true_or, Bool.false_or, not_true_eq_false, not_false_eq_true, true_or, or_true, implies_true, false_implies, true_implies, Int32.reduceLT, Int32.reduceLE, ↓w_TAB3, ↓w_TAB4, ↓w_TAB5, ↓w_TAB7, ↓w_TAB10, ↓w_LK2, ↓w_LK6, false_and, and_false, i1z, i2z, iz1, im0, im1, l0z, nI_1]
      refine Go.less (ih' M3 ?_) (fun i v h => ?_)
      · rw [fdL, if_pos q, ← List.append_assoc]
        exact h3
      · rcases i with _ | _ | _ | _ | _ | _ | _ | _ | i <;> simp at h ⊢ <;> exact h
    · have q0 : pb (gH m) i = 0 := by omega
      rw [hmi.2 q0]
      refine and_ii (fun _ => ?_) (fun q2 => absurd (by decide) q2)
      refine r_X12_write (fun n => n == 141 || n == 16 || n == 28 || n == 201) 80 ?_
      simp only [cd_X12_write, cf_X12_write, wp, wq, wpI, cdF, w_CI, w_CL, w_CN, w_LI, w_LL, w_LA, w_SI, w_SL, w_SA, w_INC, w_II, w_IId, w_LLb, w_LLd, w_LS, w_I1, w_L1, w_I2L, w_L2I, w_CMP, w_DUP, w_POP, w_DUP2, w_IF, w_IC, w_GO, w_NUL, w_ACN, prs, w_GF, w_PF, w_GS, w_IAL, w_LEN, w_LAL, w_ZAL, w_AAL, w_IAS, w_LAS, w_ZAS, w_AAS, w_RI, w_RL, w_RA, w_NEW, w_NA, w_MNA, w_OI, w_THR, w_CV, w_CS, w_CN9, w_CI9, w_MX, w_cont, lget, sto1, sto2, wideV, vo, vo_rv, isR, isR_rv, rv, fget, fput, cats, Value.category, List.headD_cons, List.getD_cons_zero, List.getD_cons_succ, List.drop_succ_cons, List.drop_zero, List.take_succ_cons, List.take_zero, List.reverse_cons, List.reverse_nil, List.nil_append, List.cons_append, List.length_cons, List.length_nil, cond_true, cond_false, and_true, true_and, Nat.zero_add, Nat.add_zero, Nat.reduceAdd, Nat.reduceLT, Nat.reduceLeDiff, Nat.reduceEqDiff, Nat.reduceBEq, Nat.reduceSub, ↓reduceIte, Int32.reduceOfNat, Int64.reduceOfNat, reduceCtorEq, Nat.le_refl, Nat.zero_le, Bool.false_eq_true, beq_self_eq_true, Fin.isValue, Fin.val_zero, Fin.val_one, Fin.reduceFinMk, Fin.val_two, Nat.reduceMod, Bool.or_false, Bool.or_true, Bool.true_or, Bool.false_or, not_true_eq_false, not_false_eq_true, true_or, or_true, implies_true, false_implies, true_implies, Int32.reduceLT, Int32.reduceLE, ↓w_TAB3, ↓w_TAB4, ↓w_TAB5, ↓w_TAB7, ↓w_TAB10, ↓w_LK2, ↓w_LK6, false_and, and_false, i1z, i2z, iz1, im0, im1, l0z, nI_1]
      refine ih' M ?_
      have e0 : pl (gH m) (i + 1) = pl (gH m) i := by
        funext s
        unfold pl
        by_cases q1 : s = i
        · subst q1; rw [if_pos (by omega), if_neg (by omega), q0]
        · by_cases q2 : s < i
          · rw [if_pos (by omega), if_pos q2]
          · rw [if_neg (by omega), if_neg q2]
      rw [e0, fdL, if_neg q, List.append_nil]
      exact hM
theorem m_write {x : Int32} (hL : LF M0) (hK : mK M0) (he : 498 < e ∧ e ≠ b ∧ e ≠ 548 ∧ e ≠ r) (hb : b ≠ 495 ∧ b ≠ 548 ∧ hasK M0 b (.inl (.int, 16))) (hr : r ≠ 495 ∧ r ≠ 548 ∧ hasK M0 r (.inl (.int, 672))) (hke : hasK M0 e (.inl (.int, N))) (hN2 : N < 2147483648) (hN : 62 + mxL (gH m) 16 ≤ N) (hm : msR M0 b r m) (ho : okM m) (hx : x = nI (gT m)) (hQ : ∀ M', nW M0 e (ser m) M' → Q none M') : Ct G (MT 211) [.ref 495, .int x, .ref r, .ref b, .ref e] M0 Q X := by
  subst hx
  have hty := ho.1
  have hsc := scF_le (gH m)
  have en := nI_lI (n := gT m) (by omega)
  have h548 : hasK M0 548 (.inl (.int, 4)) := by rw [hL.hk]; rfl
  have hk5 : hasK M0 495 (.inr 12) := by rw [hL.hk]; rfl
  have hr8 : mR M0 495 83 = some 548 := by rw [hL.r (by decide)]; rfl
  have h0 : nW M0 e [] (uI M0 495 82 0) := by
    refine ⟨mI (uI M0 495 82 0) e, mI (uI M0 495 82 0) 548, ?_, fun i hi => by simp at hi⟩
    show _ = sRow (sRow (uI M0 495 82 0) 548 _) e _
    rw [sRow_id, sRow_id]
  refine Ct.go (L0 := [some (.ref 495), some (.int (nI (gT m))), some (.ref r), some (.ref b), some (.ref e), none, none, none]) (by decide +kernel) rfl rfl ?_
  refine r_X12_write (fun n => n == 34 || n == 78 || n == 81 || n == 122 || n == 141 || n == 16 || n == 28 || n == 201) 60 ?_
  simp only [cd_X12_write, cf_X12_write, wp, wq, wpI, cdF, w_CI, w_CL, w_CN, w_LI, w_LL, w_LA, w_SI, w_SL, w_SA, w_INC, w_II, w_IId, w_LLb, w_LLd, w_LS, w_I1, w_L1, w_I2L, w_L2I, w_CMP, w_DUP, w_POP, w_DUP2, w_IF, w_IC, w_GO, w_NUL, w_ACN, prs, w_GF, w_PF, w_GS, w_IAL, w_LEN, w_LAL, w_ZAL, w_AAL, w_IAS, w_LAS, w_ZAS, w_AAS, w_RI, w_RL, w_RA, w_NEW, w_NA, w_MNA, w_OI, w_THR, w_CV, w_CS, w_CN9, w_CI9, w_MX, w_cont, lget, sto1, sto2, wideV, vo, vo_rv, isR, isR_rv, rv, fget, fput, cats, Value.category, List.headD_cons, List.getD_cons_zero, List.getD_cons_succ, List.drop_succ_cons, List.drop_zero, List.take_succ_cons, List.take_zero, List.reverse_cons, List.reverse_nil, List.nil_append, List.cons_append, List.length_cons, List.length_nil, cond_true, cond_false, and_true, true_and, Nat.zero_add, Nat.add_zero, Nat.reduceAdd, Nat.reduceLT, Nat.reduceLeDiff, Nat.reduceEqDiff, Nat.reduceBEq, Nat.reduceSub, ↓reduceIte, Int32.reduceOfNat, Int64.reduceOfNat, reduceCtorEq, Nat.le_refl, Nat.zero_le, Bool.false_eq_true, beq_self_eq_true, Fin.isValue, Fin.val_zero, Fin.val_one, Fin.reduceFinMk, Fin.val_two, Nat.reduceMod, Bool.or_false, Bool.or_true, Bool.true_or, Bool.false_or, not_true_eq_false, not_false_eq_true, true_or, or_true, implies_true, false_implies, true_implies, Int32.reduceLT, Int32.reduceLE, ↓w_TAB3, ↓w_TAB4, ↓w_TAB5, ↓w_TAB7, ↓w_TAB10, ↓w_LK2, ↓w_LK6, false_and, and_false, i1z, i2z, iz1, im0, im1, l0z, hk5, hr8, hasK_uI, mR_uI]
  refine m_setDigits (M := uI M0 495 82 0) (p := 0) (n := 4) (N := 4) en rfl rfl h548 (by omega) (by omega) (by omega) ⟨rfl, ?_⟩
  have h1 : nW M0 e [] (dgR (uI M0 495 82 0) 548 0 4 (dgt 10 4 (gT m))) := nW_few h0 he.2.2.1
  have hrw : ∀ i, i < 4 → mI (dgR (uI M0 495 82 0) 548 0 4 (dgt 10 4 (gT m))) 548 (0 + i) = nI (dgt 10 4 (gT m) i) := fun i hi => by
    unfold dgR
    rw [mI_sRow, if_pos rfl, if_pos (by omega)]
    congr 2
    omega
  have hL1 := h1.L hL
  generalize dgR (uI M0 495 82 0) 548 0 4 (dgt 10 4 (gT m)) = M1 at h1 hrw hL1 ⊢
  have hk51 : hasK M1 495 (.inr 12) := by rw [hL1.hk]; rfl
  have hr81 : mR M1 495 83 = some 548 := by rw [hL1.r (by decide)]; rfl
  refine r_X12_write (fun n => n == 34 || n == 78 || n == 81 || n == 122 || n == 141 || n == 16 || n == 28 || n == 201) 60 ?_
  simp only [cd_X12_write, cf_X12_write, wp, wq, wpI, cdF, w_CI, w_CL, w_CN, w_LI, w_LL, w_LA, w_SI, w_SL, w_SA, w_INC, w_II, w_IId, w_LLb, w_LLd, w_LS, w_I1, w_L1, w_I2L, w_L2I, w_CMP, w_DUP, w_POP, w_DUP2, w_IF, w_IC, w_GO, w_NUL, w_ACN, prs, w_GF, w_PF, w_GS, w_IAL, w_LEN, w_LAL, w_ZAL, w_AAL, w_IAS, w_LAS, w_ZAS, w_AAS, w_RI, w_RL, w_RA, w_NEW, w_NA, w_MNA, w_OI, w_THR, w_CV, w_CS, w_CN9, w_CI9, w_MX, w_cont, lget, sto1, sto2, wideV, vo, vo_rv, isR, isR_rv, rv, fget, fput, cats, Value.category, List.headD_cons, List.getD_cons_zero, List.getD_cons_succ, List.drop_succ_cons, List.drop_zero, List.take_succ_cons, List.take_zero, List.reverse_cons, List.reverse_nil, List.nil_append, List.cons_append, List.length_cons, List.length_nil, cond_true, cond_false, and_true, true_and, Nat.zero_add, Nat.add_zero, Nat.reduceAdd, Nat.reduceLT, Nat.reduceLeDiff, Nat.reduceEqDiff, Nat.reduceBEq, Nat.reduceSub, ↓reduceIte, Int32.reduceOfNat, Int64.reduceOfNat, reduceCtorEq, Nat.le_refl, Nat.zero_le, Bool.false_eq_true, beq_self_eq_true, Fin.isValue, Fin.val_zero, Fin.val_one, Fin.reduceFinMk, Fin.val_two, Nat.reduceMod, Bool.or_false, Bool.or_true, Bool.true_or, Bool.false_or, not_true_eq_false, not_false_eq_true, true_or, or_true, implies_true, false_implies, true_implies, Int32.reduceLT, Int32.reduceLE, ↓w_TAB3, ↓w_TAB4, ↓w_TAB5, ↓w_TAB7, ↓w_TAB10, ↓w_LK2, ↓w_LK6, false_and, and_false, i1z, i2z, iz1, im0, im1, l0z, hk51, hr81]
  refine m_pack hL h1 ⟨by omega, by omega, by omega, by omega⟩ hke ⟨4, h548, by omega, by omega⟩ hN2 (by simp; omega) (fun i _ => Nat.lt_trans (dgt_lt (by omega)) (by omega)) hrw rfl rfl (fun M2 h2 _ => ⟨rfl, ?_⟩)
  rw [pk_4 hty, List.nil_append] at h2
  refine r_X12_write (fun n => n == 34 || n == 78 || n == 81 || n == 122 || n == 141 || n == 16 || n == 28 || n == 201) 60 ?_
  simp only [cd_X12_write, cf_X12_write, wp, wq, wpI, cdF, w_CI, w_CL, w_CN, w_LI, w_LL, w_LA, w_SI, w_SL, w_SA, w_INC, w_II, w_IId, w_LLb, w_LLd, w_LS, w_I1, w_L1, w_I2L, w_L2I, w_CMP, w_DUP, w_POP, w_DUP2, w_IF, w_IC, w_GO, w_NUL, w_ACN, prs, w_GF, w_PF, w_GS, w_IAL, w_LEN, w_LAL, w_ZAL, w_AAL, w_IAS, w_LAS, w_ZAS, w_AAS, w_RI, w_RL, w_RA, w_NEW, w_NA, w_MNA, w_OI, w_THR, w_CV, w_CS, w_CN9, w_CI9, w_MX, w_cont, lget, sto1, sto2, wideV, vo, vo_rv, isR, isR_rv, rv, fget, fput, cats, Value.category, List.headD_cons, List.getD_cons_zero, List.getD_cons_succ, List.drop_succ_cons, List.drop_zero, List.take_succ_cons, List.take_zero, List.reverse_cons, List.reverse_nil, List.nil_append, List.cons_append, List.length_cons, List.length_nil, cond_true, cond_false, and_true, true_and, Nat.zero_add, Nat.add_zero, Nat.reduceAdd, Nat.reduceLT, Nat.reduceLeDiff, Nat.reduceEqDiff, Nat.reduceBEq, Nat.reduceSub, ↓reduceIte, Int32.reduceOfNat, Int64.reduceOfNat, reduceCtorEq, Nat.le_refl, Nat.zero_le, Bool.false_eq_true, beq_self_eq_true, Fin.isValue, Fin.val_zero, Fin.val_one, Fin.reduceFinMk, Fin.val_two, Nat.reduceMod, Bool.or_false, Bool.or_true, Bool.true_or, Bool.false_or, not_true_eq_false, not_false_eq_true, true_or, or_true, implies_true, false_implies, true_implies, Int32.reduceLT, Int32.reduceLE, ↓w_TAB3, ↓w_TAB4, ↓w_TAB5, ↓w_TAB7, ↓w_TAB10, ↓w_LK2, ↓w_LK6, false_and, and_false, i1z, i2z, iz1, im0, im1, l0z]
  have hkM2 : hasK M2 e (.inl (.int, N)) := by obtain ⟨_, _, rfl, -⟩ := h2; exact hke
  have e0 : nI (if 2048 ≤ gH m % 2 ^ 0 then 1 else 0) = 0 := by rw [if_neg (by simp [Nat.mod_one])]; rfl
  have hlp := lp_w1 (G := G) (Q := Q) (X := X) hL hK ⟨he.1, he.2.1, he.2.2.1⟩ hb hm ho h2 (nI (gT m)) ?_ 16 0 rfl
  · rw [e0] at hlp
    exact hlp
  refine r_X12_write (fun n => n == 34 || n == 81 || n == 122 || n == 141 || n == 16 || n == 28 || n == 201) 60 ?_
  simp only [cd_X12_write, cf_X12_write, wp, wq, wpI, cdF, w_CI, w_CL, w_CN, w_LI, w_LL, w_LA, w_SI, w_SL, w_SA, w_INC, w_II, w_IId, w_LLb, w_LLd, w_LS, w_I1, w_L1, w_I2L, w_L2I, w_CMP, w_DUP, w_POP, w_DUP2, w_IF, w_IC, w_GO, w_NUL, w_ACN, prs, w_GF, w_PF, w_GS, w_IAL, w_LEN, w_LAL, w_ZAL, w_AAL, w_IAS, w_LAS, w_ZAS, w_AAS, w_RI, w_RL, w_RA, w_NEW, w_NA, w_MNA, w_OI, w_THR, w_CV, w_CS, w_CN9, w_CI9, w_MX, w_cont, lget, sto1, sto2, wideV, vo, vo_rv, isR, isR_rv, rv, fget, fput, cats, Value.category, List.headD_cons, List.getD_cons_zero, List.getD_cons_succ, List.drop_succ_cons, List.drop_zero, List.take_succ_cons, List.take_zero, List.reverse_cons, List.reverse_nil, List.nil_append, List.cons_append, List.length_cons, List.length_nil, cond_true, cond_false, and_true, true_and, Nat.zero_add, Nat.add_zero, Nat.reduceAdd, Nat.reduceLT, Nat.reduceLeDiff, Nat.reduceEqDiff, Nat.reduceBEq, Nat.reduceSub, ↓reduceIte, Int32.reduceOfNat, Int64.reduceOfNat, reduceCtorEq, Nat.le_refl, Nat.zero_le, Bool.false_eq_true, beq_self_eq_true, Fin.isValue, Fin.val_zero, Fin.val_one, Fin.reduceFinMk, Fin.val_two, Nat.reduceMod, Bool.or_false, Bool.or_true, Bool.true_or, Bool.false_or, not_true_eq_false, not_false_eq_true, true_or, or_true, implies_true, false_implies, true_implies, Int32.reduceLT, Int32.reduceLE, ↓w_TAB3, ↓w_TAB4, ↓w_TAB5, ↓w_TAB7, ↓w_TAB10, ↓w_LK2, ↓w_LK6, false_and, and_false, i1z, i2z, iz1, im0, im1, l0z]
  refine lp_w2 (xs := tyB (gT m)) hL ⟨he.1, he.2.2.1⟩ hke ⟨by simp [tyB]; omega, hN2⟩ hsc (fun M3 h3 => ?_) (8 + 8 * scF (gH m)) 0 (by omega) M2 (by rw [List.replicate_zero, List.append_nil]; exact h2)
  have hkM3 : hasK M3 e (.inl (.int, N)) := by obtain ⟨_, _, rfl, -⟩ := h3; exact hke
  have hset : ∀ c, c ≤ 1 → (tyB (gT m) ++ List.replicate (8 + 8 * c) 0).set 2 (128 * c) = tyB (gT m) ++ mpL (pl (gH m) 0) c := fun c hc => by
    rcases (show c = 0 ∨ c = 1 by omega) with q | q <;> subst q <;> rfl
  have hj : 2 < (tyB (gT m) ++ List.replicate (8 + 8 * scF (gH m)) 0).length := by simp [tyB]; omega
  have h4 := fun (y : Int32) (hy : y = nI (128 * scF (gH m))) => nW_set (v := 128 * scF (gH m)) h3 hj hy
  rw [hset _ hsc] at h4
  have h5 : ∀ y : Int32, y = nI (128 * scF (gH m)) → Go G (MT 211) Q X 141 [some (.ref 495), some (.int (nI (gT m))), some (.ref r), some (.ref b), some (.ref e), some (.int (nI (scF (gH m)))), some (.int 0), none] [] (uI M3 e 2 y) 0 0 := fun y hy => by
    refine lp_w3 hL hK he hb hr hke hN2 hN hm ho hQ 16 0 rfl _ ?_
    rw [show fdL (gH m) (gN m) (gS m) 0 = [] from rfl, List.append_nil]
    exact h4 y hy
  refine r_X12_write (fun n => n == 34 || n == 81 || n == 141 || n == 16 || n == 28 || n == 201) 60 ?_
  simp only [cd_X12_write, cf_X12_write, wp, wq, wpI, cdF, w_CI, w_CL, w_CN, w_LI, w_LL, w_LA, w_SI, w_SL, w_SA, w_INC, w_II, w_IId, w_LLb, w_LLd, w_LS, w_I1, w_L1, w_I2L, w_L2I, w_CMP, w_DUP, w_POP, w_DUP2, w_IF, w_IC, w_GO, w_NUL, w_ACN, prs, w_GF, w_PF, w_GS, w_IAL, w_LEN, w_LAL, w_ZAL, w_AAL, w_IAS, w_LAS, w_ZAS, w_AAS, w_RI, w_RL, w_RA, w_NEW, w_NA, w_MNA, w_OI, w_THR, w_CV, w_CS, w_CN9, w_CI9, w_MX, w_cont, lget, sto1, sto2, wideV, vo, vo_rv, isR, isR_rv, rv, fget, fput, cats, Value.category, List.headD_cons, List.getD_cons_zero, List.getD_cons_succ, List.drop_succ_cons, List.drop_zero, List.take_succ_cons, List.take_zero, List.reverse_cons, List.reverse_nil, List.nil_append, List.cons_append, List.length_cons, List.length_nil, cond_true, cond_false, and_true, true_and, Nat.zero_add, Nat.add_zero, Nat.reduceAdd, Nat.reduceLT, Nat.reduceLeDiff, Nat.reduceEqDiff, Nat.reduceBEq, Nat.reduceSub, ↓reduceIte, Int32.reduceOfNat, Int64.reduceOfNat, reduceCtorEq, Nat.le_refl, Nat.zero_le, Bool.false_eq_true, beq_self_eq_true, Fin.isValue, Fin.val_zero, Fin.val_one, Fin.reduceFinMk, Fin.val_two, Nat.reduceMod, Bool.or_false, Bool.or_true, Bool.true_or, Bool.false_or, not_true_eq_false, not_false_eq_true, true_or, or_true, implies_true, false_implies, true_implies, Int32.reduceLT, Int32.reduceLE, ↓w_TAB3, ↓w_TAB4, ↓w_TAB5, ↓w_TAB7, ↓w_TAB10, ↓w_LK2, ↓w_LK6, false_and, and_false, i1z, i2z, iz1, im0, im1, l0z]
  rcases (show scF (gH m) = 0 ∨ scF (gH m) = 1 by omega) with q | q
  · rw [q] at h5 ⊢
    refine and_ii (fun _ => ⟨N, hkM3, vp_in_i (by simp; omega), ?_⟩) (fun q => absurd rfl q)
    exact h5 0 rfl
  · rw [q] at h5 ⊢
    refine and_ii (fun q => absurd q (by decide)) (fun _ => ⟨N, hkM3, vp_in_i (by simp; omega), ?_⟩)
    exact h5 128 rfl
theorem nW.B (h : nW M0 e xs M) (he : e ≠ 495 ∧ e ≠ 548) : mI M 495 82 = nI xs.length ∧ ∀ i, i < xs.length → mI M e i = nI (xs.getD i 0) := ⟨h.l he.1, fun i hi => h.at hi⟩
/-- compose, the reference, in any state -/
theorem m_compose0 (hR : RM S M) (ho : okM (sD S)) (hQ : ∀ M', RM (wT S (ser (sD S))) M' → mI M' 495 3 = 0 → loS M M' → Q (some (.int (wdI (ser (sD S)).length))) M') : Ct G (MT 213) [.ref 495] M Q X := by
  have hR1 := RM_code (v := 0) hR
  obtain ⟨hL, hN, hI, hLl, hA, hC, hP, hRr, hD, hT, hZ, hK⟩ := hR1
  have hL0 := hR.1
  have hlo : loS M (uI M 495 3 0) := loS_uI (loS_rfl M) (by omega)
  have hD1 : mI M 495 64 = nI (gT (sD S)) := hR.2.2.2.2.2.2.2.2.1.1
  refine Ct.go (L0 := [some (.ref 495)]) (by decide +kernel) rfl rfl ?_
  refine r_X12_compose (fun n => n == 25) 60 ?_
  simp only [cd_X12_compose, cf_X12_compose, wp, wq, wpI, cdF, w_CI, w_CL, w_CN, w_LI, w_LL, w_LA, w_SI, w_SL, w_SA, w_INC, w_II, w_IId, w_LLb, w_LLd, w_LS, w_I1, w_L1, w_I2L, w_L2I, w_CMP, w_DUP, w_POP, w_DUP2, w_IF, w_IC, w_GO, w_NUL, w_ACN, prs, w_GF, w_PF, w_GS, w_IAL, w_LEN, w_LAL, w_ZAL, w_AAL, w_IAS, w_LAS, w_ZAS, w_AAS, w_RI, w_RL, w_RA, w_NEW, w_NA, w_MNA, w_OI, w_THR, w_CV, w_CS, w_CN9, w_CI9, w_MX, w_cont, lget, sto1, sto2, wideV, vo, vo_rv, isR, isR_rv, rv, fget, fput, cats, Value.category, List.headD_cons, List.getD_cons_zero, List.getD_cons_succ, List.drop_succ_cons, List.drop_zero, List.take_succ_cons, List.take_zero, List.reverse_cons, List.reverse_nil, List.nil_append, List.cons_append, List.length_cons, List.length_nil, cond_true, cond_false, and_true, true_and, Nat.zero_add, Nat.add_zero, Nat.reduceAdd, Nat.reduceLT, Nat.reduceLeDiff, Nat.reduceEqDiff, Nat.reduceBEq, Nat.reduceSub, ↓reduceIte, Int32.reduceOfNat, Int64.reduceOfNat, reduceCtorEq, Nat.le_refl, Nat.zero_le, Bool.false_eq_true, beq_self_eq_true, Fin.isValue, Fin.val_zero, Fin.val_one, Fin.reduceFinMk, Fin.val_two, Nat.reduceMod, Bool.or_false, Bool.or_true, Bool.true_or, Bool.false_or, not_true_eq_false, not_false_eq_true, true_or, or_true, implies_true, false_implies, true_implies, Int32.reduceLT, Int32.reduceLE, ↓w_TAB3, ↓w_TAB4, ↓w_TAB5, ↓w_TAB7, ↓w_TAB10, ↓w_LK2, ↓w_LK6, false_and, and_false, i1z, i2z, iz1, im0, im1, l0z, LF.hk hL0, layF, LF.r hL0, refF, ne_eq, not_false_eq_true, Option.some.injEq, Sum.inl.injEq, Sum.inr.injEq, Prod.mk.injEq, exists_eq_left, hasK_uI, mR_uI, mI_uI, hD1]
  generalize hM1 : uI M 495 3 0 = M1 at *
  have h3 : mI M1 495 3 = 0 := by rw [← hM1, mI_uI, if_pos ⟨rfl, rfl⟩]
  refine m_write (e := 545) (b := 540) (r := 539) (N := 400) hL hK (by omega) ⟨by omega, by omega, by rw [hL.hk]; rfl⟩ ⟨by omega, by omega, by rw [hL.hk]; rfl⟩ (by rw [hL.hk]; rfl) (by omega) (by have := mxL_le (gH (sD S)); omega) hD.2 ho rfl (fun M2 h2 => ⟨rfl, ?_⟩)
  have hB := h2.B ⟨by omega, by omega⟩
  have hL2 := h2.L hL
  obtain ⟨g, h', rfl, hg⟩ := h2
  refine r_X12_compose (fun n => n == 25) 60 ?_
  simp only [cd_X12_compose, cf_X12_compose, wp, wq, wpI, cdF, w_CI, w_CL, w_CN, w_LI, w_LL, w_LA, w_SI, w_SL, w_SA, w_INC, w_II, w_IId, w_LLb, w_LLd, w_LS, w_I1, w_L1, w_I2L, w_L2I, w_CMP, w_DUP, w_POP, w_DUP2, w_IF, w_IC, w_GO, w_NUL, w_ACN, prs, w_GF, w_PF, w_GS, w_IAL, w_LEN, w_LAL, w_ZAL, w_AAL, w_IAS, w_LAS, w_ZAS, w_AAS, w_RI, w_RL, w_RA, w_NEW, w_NA, w_MNA, w_OI, w_THR, w_CV, w_CS, w_CN9, w_CI9, w_MX, w_cont, lget, sto1, sto2, wideV, vo, vo_rv, isR, isR_rv, rv, fget, fput, cats, Value.category, List.headD_cons, List.getD_cons_zero, List.getD_cons_succ, List.drop_succ_cons, List.drop_zero, List.take_succ_cons, List.take_zero, List.reverse_cons, List.reverse_nil, List.nil_append, List.cons_append, List.length_cons, List.length_nil, cond_true, cond_false, and_true, true_and, Nat.zero_add, Nat.add_zero, Nat.reduceAdd, Nat.reduceLT, Nat.reduceLeDiff, Nat.reduceEqDiff, Nat.reduceBEq, Nat.reduceSub, ↓reduceIte, Int32.reduceOfNat, Int64.reduceOfNat, reduceCtorEq, Nat.le_refl, Nat.zero_le, Bool.false_eq_true, beq_self_eq_true, Fin.isValue, Fin.val_zero, Fin.val_one, Fin.reduceFinMk, Fin.val_two, Nat.reduceMod, Bool.or_false, Bool.or_true, Bool.true_or, Bool.false_or, not_true_eq_false, not_false_eq_true, true_or, or_true, implies_true, false_implies, true_implies, Int32.reduceLT, Int32.reduceLE, ↓w_TAB3, ↓w_TAB4, ↓w_TAB5, ↓w_TAB7, ↓w_TAB10, ↓w_LK2, ↓w_LK6, false_and, and_false, i1z, i2z, iz1, im0, im1, l0z, LF.hk hL2, layF, LF.r hL2, refF, ne_eq, not_false_eq_true, Option.some.injEq, Sum.inl.injEq, Sum.inr.injEq, Prod.mk.injEq, exists_eq_left, hasK_uI, mR_uI, mI_uI, hB.1]
  refine hQ _ ⟨hL, (by repeat (first | exact hN | refine mNn_uI ?_ (by omega) | refine mNn_uI ?_ | refine mNn_uL ?_ (by omega) | refine mNn_uL ?_ | refine mNn_uR ?_ (by omega) | refine mNn_uR ?_ | refine mNn_sRow ?_ (by omega) | refine mNn_sRow ?_ | refine mNn_uZ ?_)), (by repeat (first | exact hI | refine mIi_uI ?_ (by omega) | refine mIi_uI ?_ | refine mIi_uL ?_ (by omega) | refine mIi_uL ?_ | refine mIi_uR ?_ (by omega) | refine mIi_uR ?_ | refine mIi_sRow ?_ (by omega) | refine mIi_sRow ?_ | refine mIi_uZ ?_)), hLl, (by repeat (first | exact hA | refine mA_uI ?_ (by omega) | refine mA_uI ?_ | refine mA_uL ?_ (by omega) | refine mA_uL ?_ | refine mA_uR ?_ (by omega) | refine mA_uR ?_ | refine mA_sRow ?_ (by omega) | refine mA_sRow ?_ | refine mA_uZ ?_)), (by repeat (first | exact hC | refine mC_uI ?_ (by omega) | refine mC_uI ?_ | refine mC_uL ?_ (by omega) | refine mC_uL ?_ | refine mC_uR ?_ (by omega) | refine mC_uR ?_ | refine mC_sRow ?_ (by omega) | refine mC_sRow ?_ | refine mC_uZ ?_)), (by repeat (first | exact hP | refine mP_uI ?_ (by omega) | refine mP_uI ?_ | refine mP_uL ?_ (by omega) | refine mP_uL ?_ | refine mP_uR ?_ (by omega) | refine mP_uR ?_ | refine mP_sRow ?_ (by omega) | refine mP_sRow ?_ | refine mP_uZ ?_)), (by repeat (first | exact hRr | refine mRr_uI ?_ (by omega) | refine mRr_uI ?_ | refine mRr_uL ?_ (by omega) | refine mRr_uL ?_ | refine mRr_uR ?_ (by omega) | refine mRr_uR ?_ | refine mRr_sRow ?_ (by omega) | refine mRr_sRow ?_ | refine mRr_uZ ?_)), ?_, ?_, ?_, (by repeat (first | exact hK | refine mK_uI ?_ (by omega) | refine mK_uI ?_ | refine mK_uL ?_ (by omega) | refine mK_uL ?_ | refine mK_uR ?_ (by omega) | refine mK_uR ?_ | refine mK_sRow ?_ (by omega) | refine mK_sRow ?_ | refine mK_uZ ?_))⟩ ?_ (loS_uI (loS_sRow (loS_sRow (loS_uI hlo (by omega)) (by omega)) (by omega)) (by omega))
  · refine ⟨by rw [mI_ne (by omega), mI_nr (by omega), mI_nr (by omega), mI_ne (by omega)]; exact hD.1, fun s hs => ⟨fun hp => ⟨by rw [mI_ne (by omega), mI_nr (by omega), mI_nr (by omega), mI_ne (by omega)]; exact ((hD.2 s hs).1 hp).1, fun i hi => by rw [mI_ne (by omega), mI_nr (by omega), mI_nr (by omega), mI_ne (by omega)]; exact ((hD.2 s hs).1 hp).2 i hi⟩, fun hp => by rw [mI_ne (by omega), mI_nr (by omega), mI_nr (by omega), mI_ne (by omega)]; exact (hD.2 s hs).2 hp⟩⟩
  · refine ⟨by rw [mI_uI, if_pos ⟨rfl, rfl⟩]; rfl, fun i hi => ?_⟩
    rw [mI_ne (by omega)]
    exact hB.2 i hi
  · refine ⟨by rw [mI_ne (by omega), mI_nr (by omega), mI_nr (by omega), mI_ne (by omega)]; exact hZ.1, fun i hi => ?_⟩
    rw [mI_ne (by omega), mI_nr (by omega), mI_nr (by omega), mI_ne (by omega)]
    exact hZ.2 i hi
  · rw [mI_ne (by omega), mI_nr (by omega), mI_nr (by omega), mI_ne (by omega)]
    exact h3
theorem m_compose (hR : RM S M) (hj : Jv t S) : Ct G (MT 213) [.ref 495] M (QmI M (o_compose S)) X := m_compose0 hR hj.dM (fun _ h1 h2 h3 => ⟨rfl, h2, h1, h3⟩)
end SM4
