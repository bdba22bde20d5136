/-! A PAYMENT COMES, AND IS HELD: the class -/
section BG
variable {G : En} {M M0 Mz M' : Mem} {Q : Option Value → Mem → Prop} {X : String → Mem → Prop} {S : Sw} {t a b j k v i np T A : Nat} {x y : Int32} {z : Int64} {u am : Int} {w c : Nat → Nat} {o : Nat} {p : Py} {q q' : Nat → Int × Int} {m : Msg}
set_option maxRecDepth 20000 in
theorem c_begin7 (hL : LF M) (hi : i < 60) (hm : msgC M 454 455 457 m) (ho : okM m) (p0 : pb (gH m) 0 = 1) (p3 : pb (gH m) 3 = 1) (p5 : pb (gH m) 5 = 1) (hx : x = nI (sN S 12)) (hy : y = nI a) (hQ : ∀ M', LF M' → (∀ b, b ≠ 148 + 3 * i → b ≠ 149 + 3 * i → b ≠ 150 + 3 * i → sA M M' b) → payC M' (148 + 3 * i) (newP S m a 0) → Q none M') : Ct G (MT 79) [.ref (148 + 3 * i), .int x, .int y, .ref 454] M Q X := by
  subst hx hy
  have hpk := pay_k hL hi
  have l1 : LF (uI (uI M (148 + 3 * i) 0 (nI (sN S 12))) (148 + 3 * i) 1 (nI a)) := hL
  have hm1 : msgC (uI (uI M (148 + 3 * i) 0 (nI (sN S 12))) (148 + 3 * i) 1 (nI a)) 454 455 457 m := msgC_uI (msgC_uI hm (by omega)) (by omega)
  have hv3 : val m 3 < 1000000 := by
    have hof := ho.2.2 3 (by omega) p3
    have h6 : gN m 3 = 6 := hof.2.1 rfl
    have : vl (gS m 3) 6 < 10 ^ 6 := vl_lt (fun i hi => hof.2.2.2 i (by omega))
    unfold val
    rw [h6]; omega
  have e3 := lI_i32 (n := val m 3) (by omega)
  have f0 := ho.2.2 0 (by omega) p0
  have f5 := ho.2.2 5 (by omega) p5
  have h19 : gN m 0 ≤ 19 := f0.1
  have h12 : gN m 5 = 12 := f5.2.1 rfl
  have z0 : (0 : Int32).toNatClampNeg = 0 := rfl
  refine Ct.go (L0 := [some (.ref (148 + 3 * i)), some (.int (nI (sN S 12))), some (.int (nI a)), some (.ref 454)]) (by decide +kernel) rfl rfl ?_
  refine r_X7_begin (fun n => n == 16 || n == 29 || n == 48) 80 ?_
  simp only [cd_X7_begin, cf_X7_begin, wp, wq, wpI, cdF, w_CI, w_CL, w_CN, w_LI, w_LL, w_LA, w_SI, w_SL, w_SA, w_INC, w_II, w_IId, w_LLb, w_LLd, w_LS, w_I1, w_L1, w_I2L, w_L2I, w_CMP, w_DUP, w_POP, w_DUP2, w_IF, w_IC, w_GO, w_NUL, w_ACN, prs, w_GF, w_PF, w_GS, w_IAL, w_LEN, w_LAL, w_ZAL, w_AAL, w_IAS, w_LAS, w_ZAS, w_AAS, w_RI, w_RL, w_RA, w_NEW, w_NA, w_MNA, w_OI, w_THR, w_CV, w_CS, w_CN9, w_CI9, w_MX, w_cont, lget, sto1, sto2, wideV, vo, vo_rv, isR, isR_rv, rv, fget, fput, cats, Value.category, List.headD_cons, List.getD_cons_zero, List.getD_cons_succ, List.drop_succ_cons, List.drop_zero, List.take_succ_cons, List.take_zero, List.reverse_cons, List.reverse_nil, List.nil_append, List.cons_append, List.length_cons, List.length_nil, cond_true, cond_false, and_true, true_and, Nat.zero_add, Nat.add_zero, Nat.reduceAdd, Nat.reduceLT, Nat.reduceLeDiff, Nat.reduceEqDiff, Nat.reduceBEq, Nat.reduceSub, ↓reduceIte, Int32.reduceOfNat, Int64.reduceOfNat, reduceCtorEq, Nat.le_refl, Nat.zero_le, Bool.false_eq_true, beq_self_eq_true, Fin.isValue, Fin.val_zero, Fin.val_one, Fin.reduceFinMk, Fin.val_two, Nat.reduceMod, Bool.or_false, Bool.or_true, Bool.true_or, Bool.false_or, not_true_eq_false, not_false_eq_true, true_or, or_true, implies_true, false_implies, true_implies, Int32.reduceLT, Int32.reduceLE, ↓w_TAB3, ↓w_TAB4, ↓w_TAB5, ↓w_TAB7, ↓w_TAB10, ↓w_LK2, ↓w_LK6, false_and, and_false, i1z, i2z, iz1, im0, im1, l0z, hasK_uI, hasK_uL, hasK_uR, hasK_uZ, hasK_sRow, mR_uI, mR_uL, mR_uZ, mR_sRow, mI_uL, mI_uR, mI_uZ, mL_uI, mL_uR, mL_uZ, mL_sRow, LF.hg hL, layF, LF.r hL, refF, ne_eq, not_false_eq_true, Option.some.injEq, Sum.inl.injEq, Sum.inr.injEq, Prod.mk.injEq, exists_eq_left, exists_eq_left', hpk.1, hasK_uI]
  refine c_numOf (s := 3) (MS_r l1) hm1 ho (by omega) p3 rfl ⟨_, rfl, ?_⟩
  have r3 : mR M (148 + 3 * i) 3 = some (149 + 3 * i) := hpk.2.2.2.1
  have r5 : mR M (148 + 3 * i) 5 = some (150 + 3 * i) := hpk.2.2.2.2
  refine r_X7_begin (fun n => n == 16 || n == 29 || n == 48) 80 ?_
  simp only [cd_X7_begin, cf_X7_begin, wp, wq, wpI, cdF, w_CI, w_CL, w_CN, w_LI, w_LL, w_LA, w_SI, w_SL, w_SA, w_INC, w_II, w_IId, w_LLb, w_LLd, w_LS, w_I1, w_L1, w_I2L, w_L2I, w_CMP, w_DUP, w_POP, w_DUP2, w_IF, w_IC, w_GO, w_NUL, w_ACN, prs, w_GF, w_PF, w_GS, w_IAL, w_LEN, w_LAL, w_ZAL, w_AAL, w_IAS, w_LAS, w_ZAS, w_AAS, w_RI, w_RL, w_RA, w_NEW, w_NA, w_MNA, w_OI, w_THR, w_CV, w_CS, w_CN9, w_CI9, w_MX, w_cont, lget, sto1, sto2, wideV, vo, vo_rv, isR, isR_rv, rv, fget, fput, cats, Value.category, List.headD_cons, List.getD_cons_zero, List.getD_cons_succ, List.drop_succ_cons, List.drop_zero, List.take_succ_cons, List.take_zero, List.reverse_cons, List.reverse_nil, List.nil_append, List.cons_append, List.length_cons, List.length_nil, cond_true, cond_false, and_true, true_and, Nat.zero_add, Nat.add_zero, Nat.reduceAdd, Nat.reduceLT, Nat.reduceLeDiff, Nat.reduceEqDiff, Nat.reduceBEq, Nat.reduceSub, ↓reduceIte, Int32.reduceOfNat, Int64.reduceOfNat, reduceCtorEq, Nat.le_refl, Nat.zero_le, Bool.false_eq_true, beq_self_eq_true, Fin.isValue, Fin.val_zero, Fin.val_one, Fin.reduceFinMk, Fin.val_two, Nat.reduceMod, Bool.or_false, Bool.or_true, Bool.true_or, Bool.false_or, not_true_eq_false, not_false_eq_true, true_or, or_true, implies_true, false_implies, true_implies, Int32.reduceLT, Int32.reduceLE, ↓w_TAB3, ↓w_TAB4, ↓w_TAB5, ↓w_TAB7, ↓w_TAB10, ↓w_LK2, ↓w_LK6, false_and, and_false, i1z, i2z, iz1, im0, im1, l0z, hasK_uI, hasK_uL, hasK_uR, hasK_uZ, hasK_sRow, mR_uI, mR_uL, mR_uZ, mR_sRow, mI_uL, mI_uR, mI_uZ, mL_uI, mL_uR, mL_uZ, mL_sRow, LF.hg hL, layF, LF.r hL, refF, ne_eq, not_false_eq_true, Option.some.injEq, Sum.inl.injEq, Sum.inr.injEq, Prod.mk.injEq, exists_eq_left, exists_eq_left', hpk.1, hasK_uI, e3, mR_uI, r3]
  have hm2 := msgC_uI (j := 2) (v := nI (val m 3)) hm1 (show 148 + 3 * i ≠ 454 ∧ 148 + 3 * i ≠ 455 ∧ (148 + 3 * i < 457 ∨ 457 + 15 < 148 + 3 * i) by omega)
  have s0 := hm2.2.2 0 (by omega) p0
  refine c_copyRow (s := 0) (n := gN m 0) (g := gS m 0) (N := 19) (MS_r l1) s0.1 s0.2 hpk.2.1 (by omega) (by omega) (by omega) (by omega) rfl ⟨rfl, ?_⟩
  generalize hM1 : (sRow (uI (uI (uI M (148 + 3 * i) 0 (nI (sN S 12))) (148 + 3 * i) 1 (nI a)) (148 + 3 * i) 2 (nI (val m 3))) (149 + 3 * i) (fun j => if j < gN m 0 then nI (gS m 0 j) else mI (uI (uI (uI M (148 + 3 * i) 0 (nI (sN S 12))) (148 + 3 * i) 1 (nI a)) (148 + 3 * i) 2 (nI (val m 3))) (149 + 3 * i) j)) = M1
  have l2 : LF M1 := by rw [← hM1]; exact hL
  have hm3 : msgC M1 454 455 457 m := by rw [← hM1]; exact msgC_sRow hm2 (by omega)
  have s1 := hm3.2.2 0 (by omega) p0
  have hpk2 := pay_k l2 hi
  refine r_X7_begin (fun n => n == 16 || n == 29 || n == 48) 80 ?_
  simp only [cd_X7_begin, cf_X7_begin, wp, wq, wpI, cdF, w_CI, w_CL, w_CN, w_LI, w_LL, w_LA, w_SI, w_SL, w_SA, w_INC, w_II, w_IId, w_LLb, w_LLd, w_LS, w_I1, w_L1, w_I2L, w_L2I, w_CMP, w_DUP, w_POP, w_DUP2, w_IF, w_IC, w_GO, w_NUL, w_ACN, prs, w_GF, w_PF, w_GS, w_IAL, w_LEN, w_LAL, w_ZAL, w_AAL, w_IAS, w_LAS, w_ZAS, w_AAS, w_RI, w_RL, w_RA, w_NEW, w_NA, w_MNA, w_OI, w_THR, w_CV, w_CS, w_CN9, w_CI9, w_MX, w_cont, lget, sto1, sto2, wideV, vo, vo_rv, isR, isR_rv, rv, fget, fput, cats, Value.category, List.headD_cons, List.getD_cons_zero, List.getD_cons_succ, List.drop_succ_cons, List.drop_zero, List.take_succ_cons, List.take_zero, List.reverse_cons, List.reverse_nil, List.nil_append, List.cons_append, List.length_cons, List.length_nil, cond_true, cond_false, and_true, true_and, Nat.zero_add, Nat.add_zero, Nat.reduceAdd, Nat.reduceLT, Nat.reduceLeDiff, Nat.reduceEqDiff, Nat.reduceBEq, Nat.reduceSub, ↓reduceIte, Int32.reduceOfNat, Int64.reduceOfNat, reduceCtorEq, Nat.le_refl, Nat.zero_le, Bool.false_eq_true, beq_self_eq_true, Fin.isValue, Fin.val_zero, Fin.val_one, Fin.reduceFinMk, Fin.val_two, Nat.reduceMod, Bool.or_false, Bool.or_true, Bool.true_or, Bool.false_or, not_true_eq_false, not_false_eq_true, true_or, or_true, implies_true, false_implies, true_implies, Int32.reduceLT, Int32.reduceLE, ↓w_TAB3, ↓w_TAB4, ↓w_TAB5, ↓w_TAB7, ↓w_TAB10, ↓w_LK2, ↓w_LK6, false_and, and_false, i1z, i2z, iz1, im0, im1, l0z, hasK_uI, hasK_uL, hasK_uR, hasK_uZ, hasK_sRow, mR_uI, mR_uL, mR_uZ, mR_sRow, mI_uL, mI_uR, mI_uZ, mL_uI, mL_uR, mL_uZ, mL_sRow, LF.hg l2, layF, LF.r l2, refF, ne_eq, not_false_eq_true, Option.some.injEq, Sum.inl.injEq, Sum.inr.injEq, Prod.mk.injEq, exists_eq_left, exists_eq_left', hpk2.1, s1.1, z0, hasK_uI, mR_uI, hpk2.2.2.2.2]
  refine ⟨vp_in_i (by simp), ?_⟩
  have hm4 := msgC_uI (j := 4) (v := nI (gN m 0)) hm3 (show 148 + 3 * i ≠ 454 ∧ 148 + 3 * i ≠ 455 ∧ (148 + 3 * i < 457 ∨ 457 + 15 < 148 + 3 * i) by omega)
  have s5 := hm4.2.2 5 (by omega) p5
  rw [h12] at s5
  have l3 : LF (uI M1 (148 + 3 * i) 4 (nI (gN m 0))) := l2
  refine c_copyRow (s := 5) (n := 12) (g := gS m 5) (N := 12) (MS_r l3) s5.1 s5.2 hpk2.2.2.1 (by omega) (by omega) (by omega) (by omega) rfl ⟨rfl, ?_⟩
  generalize hM2 : (sRow (uI M1 (148 + 3 * i) 4 (nI (gN m 0))) (150 + 3 * i) (fun j => if j < 12 then nI (gS m 5 j) else mI (uI M1 (148 + 3 * i) 4 (nI (gN m 0))) (150 + 3 * i) j)) = M2
  have l4 : LF M2 := by rw [← hM2]; exact l2
  have k2 := (pay_k l4 hi).1
  refine r_X7_begin (fun n => n == 16 || n == 29 || n == 48) 80 ?_
  simp only [cd_X7_begin, cf_X7_begin, wp, wq, wpI, cdF, w_CI, w_CL, w_CN, w_LI, w_LL, w_LA, w_SI, w_SL, w_SA, w_INC, w_II, w_IId, w_LLb, w_LLd, w_LS, w_I1, w_L1, w_I2L, w_L2I, w_CMP, w_DUP, w_POP, w_DUP2, w_IF, w_IC, w_GO, w_NUL, w_ACN, prs, w_GF, w_PF, w_GS, w_IAL, w_LEN, w_LAL, w_ZAL, w_AAL, w_IAS, w_LAS, w_ZAS, w_AAS, w_RI, w_RL, w_RA, w_NEW, w_NA, w_MNA, w_OI, w_THR, w_CV, w_CS, w_CN9, w_CI9, w_MX, w_cont, lget, sto1, sto2, wideV, vo, vo_rv, isR, isR_rv, rv, fget, fput, cats, Value.category, List.headD_cons, List.getD_cons_zero, List.getD_cons_succ, List.drop_succ_cons, List.drop_zero, List.take_succ_cons, List.take_zero, List.reverse_cons, List.reverse_nil, List.nil_append, List.cons_append, List.length_cons, List.length_nil, cond_true, cond_false, and_true, true_and, Nat.zero_add, Nat.add_zero, Nat.reduceAdd, Nat.reduceLT, Nat.reduceLeDiff, Nat.reduceEqDiff, Nat.reduceBEq, Nat.reduceSub, ↓reduceIte, Int32.reduceOfNat, Int64.reduceOfNat, reduceCtorEq, Nat.le_refl, Nat.zero_le, Bool.false_eq_true, beq_self_eq_true, Fin.isValue, Fin.val_zero, Fin.val_one, Fin.reduceFinMk, Fin.val_two, Nat.reduceMod, Bool.or_false, Bool.or_true, Bool.true_or, Bool.false_or, not_true_eq_false, not_false_eq_true, true_or, or_true, implies_true, false_implies, true_implies, Int32.reduceLT, Int32.reduceLE, ↓w_TAB3, ↓w_TAB4, ↓w_TAB5, ↓w_TAB7, ↓w_TAB10, ↓w_LK2, ↓w_LK6, false_and, and_false, i1z, i2z, iz1, im0, im1, l0z, k2, hasK_uI, hasK_uL, hasK_uR]
  refine hQ _ (LF_uR6 (r := none) l4 hi) (fun b h1 h2 h3 => ?_) ?_
  · refine sA_uI h1 (sA_uL h1 (sA_uI h1 (sA_uI h1 (sA_uI h1 (sA_uL h1 (sA_uL h1 (sA_uI h1 (sA_uR h1 ?_))))))))
    rw [← hM2]
    refine sA_sRow h3 (sA_uI h1 ?_)
    rw [← hM1]
    exact sA_sRow h2 (sA_uI h1 (sA_uI h1 (sA_uI h1 (sA_rfl M b))))
  · have a0 : mI M2 (148 + 3 * i) 0 = nI (sN S 12) := by rw [← hM2, mI_nr (by omega), mI_ne (by omega), ← hM1, mI_nr (by omega), mI_ne (by omega), mI_ne (by omega), mI_uI, if_pos ⟨rfl, rfl⟩]
    have a1 : mI M2 (148 + 3 * i) 1 = nI a := by rw [← hM2, mI_nr (by omega), mI_ne (by omega), ← hM1, mI_nr (by omega), mI_ne (by omega), mI_uI, if_pos ⟨rfl, rfl⟩]
    have a2 : mI M2 (148 + 3 * i) 2 = nI (val m 3) := by rw [← hM2, mI_nr (by omega), mI_ne (by omega), ← hM1, mI_nr (by omega), mI_uI, if_pos ⟨rfl, rfl⟩]
    have a4 : mI M2 (148 + 3 * i) 4 = nI (gN m 0) := by rw [← hM2, mI_nr (by omega), mI_uI, if_pos ⟨rfl, rfl⟩]
    have ar : ∀ j, j < gN m 0 → mI M2 (148 + 3 * i + 1) j = nI (gS m 0 j) := fun j hj => by rw [show 148 + 3 * i + 1 = 149 + 3 * i by omega, ← hM2, mI_nr (by omega), mI_ne (by omega), ← hM1, mI_sRow, if_pos rfl, if_pos hj]
    have ak : ∀ j, j < 12 → mI M2 (148 + 3 * i + 2) j = nI (gS m 5 j) := fun j hj => by rw [show 148 + 3 * i + 2 = 150 + 3 * i by omega, ← hM2, mI_sRow, if_pos rfl, if_pos hj]
    generalize 148 + 3 * i = A at *
    unfold payC newP
    simp only [mI_uL, mI_uR, mL_uI, mL_uR, mR_uI, mR_uL]
    refine ⟨?_, ?_, ?_, ?_, ?_, ?_, ?_, ?_, ?_, ?_, ?_, ?_, ?_, fun j hj => ?_, fun j hj => ?_⟩
    · repeat first | rw [mI_ne (by omega)] | rw [mI_uL] | rw [mI_uR]
      exact a0
    · repeat first | rw [mI_ne (by omega)] | rw [mI_uL] | rw [mI_uR]
      exact a1
    · repeat first | rw [mI_ne (by omega)] | rw [mI_uL] | rw [mI_uR]
      exact a2
    · repeat first | rw [mI_ne (by omega)] | rw [mI_uL] | rw [mI_uR]
      exact a4
    · repeat first | rw [mI_ne (by omega)] | rw [mI_uL] | rw [mI_uR]
      rw [mI_uI, if_pos ⟨rfl, rfl⟩]; rfl
    · repeat first | rw [mI_ne (by omega)] | rw [mI_uL] | rw [mI_uR]
      rw [mI_uI, if_pos ⟨rfl, rfl⟩]; rfl
    · repeat first | rw [mI_ne (by omega)] | rw [mI_uL] | rw [mI_uR]
      rw [mI_uI, if_pos ⟨rfl, rfl⟩]; rfl
    · repeat first | rw [mI_ne (by omega)] | rw [mI_uL] | rw [mI_uR]
      rw [mI_uI, if_pos ⟨rfl, rfl⟩]; rfl
    · rw [mI_uI, if_pos ⟨rfl, rfl⟩]; rfl
    · repeat first | rw [mL_ne (by omega)] | rw [mL_uI] | rw [mL_uR]
      rw [mL_uL, if_pos ⟨rfl, rfl⟩]; rfl
    · repeat first | rw [mL_ne (by omega)] | rw [mL_uI] | rw [mL_uR]
      rw [mL_uL, if_pos ⟨rfl, rfl⟩]; rfl
    · repeat first | rw [mL_ne (by omega)] | rw [mL_uI] | rw [mL_uR]
      rw [mL_uL, if_pos ⟨rfl, rfl⟩]; rfl
    · repeat first | rw [mR_ne (by omega)] | rw [mR_uI] | rw [mR_uL]
      rw [mR_uR, if_pos ⟨rfl, rfl⟩]; rfl
    · repeat first | rw [mI_ne (by omega)] | rw [mI_uL] | rw [mI_uR]
      exact ar j hj
    · repeat first | rw [mI_ne (by omega)] | rw [mI_uL] | rw [mI_uR]
      exact ak j hj
theorem c_bbegin (hR : RC w o c S M) (hj : Jv t S) (hi : hiD M0 M) (h60 : sN S 39 < 60) (hm : msgC M 454 455 457 m) (ho : okM m) (p0 : pb (gH m) 0 = 1) (p3 : pb (gH m) 3 = 1) (p5 : pb (gH m) 5 = 1) (hy : y = nI a) (hQ : ∀ M', RE w o c (come S (newP S m a 0)) (qS S) M' → hiD M0 M' → Q (some (.ref (148 + 3 * w (sN S 39)))) M') : Ct G (MT 12) [.ref 139, .int y, .ref 454] M Q X := by
  obtain ⟨hL, hN, hI, hLl, hF, hS, hA, hC, hP, hRr, hD, hT, hZ⟩ := id hR
  have hs := hj.1
  have hn := hN
  unfold cN at hn
  unfold jS at hs
  have hw := hP.1 (sN S 39) h60
  have t39 := nI_toInt (n := sN S 39) (by omega)
  have c39 := nI_clamp (n := sN S 39) (by omega)
  have hpk := pay_k hL hw.2
  refine Ct.go (L0 := [some (.ref 139), some (.int y), some (.ref 454), none]) (by decide +kernel) rfl rfl ?_
  refine r_X2_begin (fun n => n == 31) 60 ?_
  simp only [cd_X2_begin, cf_X2_begin, wp, wq, wpI, cdF, w_CI, w_CL, w_CN, w_LI, w_LL, w_LA, w_SI, w_SL, w_SA, w_INC, w_II, w_IId, w_LLb, w_LLd, w_LS, w_I1, w_L1, w_I2L, w_L2I, w_CMP, w_DUP, w_POP, w_DUP2, w_IF, w_IC, w_GO, w_NUL, w_ACN, prs, w_GF, w_PF, w_GS, w_IAL, w_LEN, w_LAL, w_ZAL, w_AAL, w_IAS, w_LAS, w_ZAS, w_AAS, w_RI, w_RL, w_RA, w_NEW, w_NA, w_MNA, w_OI, w_THR, w_CV, w_CS, w_CN9, w_CI9, w_MX, w_cont, lget, sto1, sto2, wideV, vo, vo_rv, isR, isR_rv, rv, fget, fput, cats, Value.category, List.headD_cons, List.getD_cons_zero, List.getD_cons_succ, List.drop_succ_cons, List.drop_zero, List.take_succ_cons, List.take_zero, List.reverse_cons, List.reverse_nil, List.nil_append, List.cons_append, List.length_cons, List.length_nil, cond_true, cond_false, and_true, true_and, Nat.zero_add, Nat.add_zero, Nat.reduceAdd, Nat.reduceLT, Nat.reduceLeDiff, Nat.reduceEqDiff, Nat.reduceBEq, Nat.reduceSub, ↓reduceIte, Int32.reduceOfNat, Int64.reduceOfNat, reduceCtorEq, Nat.le_refl, Nat.zero_le, Bool.false_eq_true, beq_self_eq_true, Fin.isValue, Fin.val_zero, Fin.val_one, Fin.reduceFinMk, Fin.val_two, Nat.reduceMod, Bool.or_false, Bool.or_true, Bool.true_or, Bool.false_or, not_true_eq_false, not_false_eq_true, true_or, or_true, implies_true, false_implies, true_implies, Int32.reduceLT, Int32.reduceLE, ↓w_TAB3, ↓w_TAB4, ↓w_TAB5, ↓w_TAB7, ↓w_TAB10, ↓w_LK2, ↓w_LK6, false_and, and_false, i1z, i2z, iz1, im0, im1, l0z, hasK_uI, hasK_uL, hasK_uR, hasK_uZ, hasK_sRow, mR_uI, mR_uL, mR_uZ, mR_sRow, mI_uL, mI_uR, mI_uZ, mL_uI, mL_uR, mL_uZ, mL_sRow, LF.hg hL, layF, LF.r hL, refF, ne_eq, not_false_eq_true, Option.some.injEq, Sum.inl.injEq, Sum.inr.injEq, Prod.mk.injEq, exists_eq_left, exists_eq_left', hn, c39, hw.1, hpk.1]
  refine and_ii (fun _ => ?_) (fun q => absurd q (by (simp only [i_lt, i_le, i_eq, l_lt, l_le, l_eq, Int32.toInt_toInt64, Int32.reduceToInt, Int64.reduceToInt, ne_eq, Classical.not_not] at *; omega)))
  refine ⟨_, _, ⟨⟨rfl, rfl⟩, rfl⟩, vp_in_nI (by omega) (by omega), ?_⟩
  refine c_begin7 (S := S) (a := a) hL hw.2 hm ho p0 p3 p5 rfl hy (fun M1 l1 s1 pc1 => ⟨rfl, ?_⟩)
  have g3 : mI M1 139 3 = nI (sN S 39) := by rw [(s1 139 (by omega) (by omega) (by omega)).1]; exact hn.2.2.2.2.2.2.2.2.2.2.1
  have g4 : mI M1 139 4 = nI (sN S 12) := by rw [(s1 139 (by omega) (by omega) (by omega)).1]; exact hn.2.2.2.2.2.2.2.2.2.2.2.1
  have g4' : mI (uI M1 139 3 (nI (sN S 39 + 1))) 139 4 = nI (sN S 12) := by rw [mI_ne (by omega)]; exact g4
  refine r_X2_begin (fun n => n == 31) 60 ?_
  simp only [cd_X2_begin, cf_X2_begin, wp, wq, wpI, cdF, w_CI, w_CL, w_CN, w_LI, w_LL, w_LA, w_SI, w_SL, w_SA, w_INC, w_II, w_IId, w_LLb, w_LLd, w_LS, w_I1, w_L1, w_I2L, w_L2I, w_CMP, w_DUP, w_POP, w_DUP2, w_IF, w_IC, w_GO, w_NUL, w_ACN, prs, w_GF, w_PF, w_GS, w_IAL, w_LEN, w_LAL, w_ZAL, w_AAL, w_IAS, w_LAS, w_ZAS, w_AAS, w_RI, w_RL, w_RA, w_NEW, w_NA, w_MNA, w_OI, w_THR, w_CV, w_CS, w_CN9, w_CI9, w_MX, w_cont, lget, sto1, sto2, wideV, vo, vo_rv, isR, isR_rv, rv, fget, fput, cats, Value.category, List.headD_cons, List.getD_cons_zero, List.getD_cons_succ, List.drop_succ_cons, List.drop_zero, List.take_succ_cons, List.take_zero, List.reverse_cons, List.reverse_nil, List.nil_append, List.cons_append, List.length_cons, List.length_nil, cond_true, cond_false, and_true, true_and, Nat.zero_add, Nat.add_zero, Nat.reduceAdd, Nat.reduceLT, Nat.reduceLeDiff, Nat.reduceEqDiff, Nat.reduceBEq, Nat.reduceSub, ↓reduceIte, Int32.reduceOfNat, Int64.reduceOfNat, reduceCtorEq, Nat.le_refl, Nat.zero_le, Bool.false_eq_true, beq_self_eq_true, Fin.isValue, Fin.val_zero, Fin.val_one, Fin.reduceFinMk, Fin.val_two, Nat.reduceMod, Bool.or_false, Bool.or_true, Bool.true_or, Bool.false_or, not_true_eq_false, not_false_eq_true, true_or, or_true, implies_true, false_implies, true_implies, Int32.reduceLT, Int32.reduceLE, ↓w_TAB3, ↓w_TAB4, ↓w_TAB5, ↓w_TAB7, ↓w_TAB10, ↓w_LK2, ↓w_LK6, false_and, and_false, i1z, i2z, iz1, im0, im1, l0z, hasK_uI, hasK_uL, hasK_uR, hasK_uZ, hasK_sRow, mR_uI, mR_uL, mR_uZ, mR_sRow, mI_uL, mI_uR, mI_uZ, mL_uI, mL_uR, mL_uZ, mL_sRow, LF.hg l1, layF, LF.r l1, refF, ne_eq, not_false_eq_true, Option.some.injEq, Sum.inl.injEq, Sum.inr.injEq, Prod.mk.injEq, exists_eq_left, exists_eq_left', g3, g4', nI_1]
  refine ⟨rfl, hQ _ ?_ ?_⟩
  · refine RE_come hR h60 (by omega) l1 (fun b h0 h1 h2 h3 h4 => sA_uI h1 (sA_uI h1 (s1 b h2 h3 h4))) ?_ ?_ ?_ ?_
    · rw [mI_ne (by omega), mI_uI, if_pos ⟨rfl, rfl⟩]
    · rw [mI_uI, if_pos ⟨rfl, rfl⟩]
    · rw [mI_ne (by omega), mI_ne (by omega), (s1 139 (by omega) (by omega) (by omega)).1]
    · exact payC_fr pc1 (sA_uI (by omega) (sA_uI (by omega) (sA_rfl M1 _))) (sA_uI (by omega) (sA_uI (by omega) (sA_rfl M1 _))) (sA_uI (by omega) (sA_uI (by omega) (sA_rfl M1 _)))
  · refine hiD_uI (hiD_uI (fun b hb => (hi b hb).trans (s1 b ?_ ?_ ?_)) (by omega)) (by omega) <;> omega
theorem c_bfull (hL : LF M) (h3 : mI M 139 3 = nI 60) (hQ : Q (some .null) M) : Ct G (MT 12) [.ref 139, .int y, .ref 454] M Q X := by
  have t60 := nI_toInt (n := 60) (by omega)
  refine Ct.go (L0 := [some (.ref 139), some (.int y), some (.ref 454), none]) (by decide +kernel) rfl rfl ?_
  refine r_X2_begin (fun n => n == 31) 60 ?_
  simp only [cd_X2_begin, cf_X2_begin, wp, wq, wpI, cdF, w_CI, w_CL, w_CN, w_LI, w_LL, w_LA, w_SI, w_SL, w_SA, w_INC, w_II, w_IId, w_LLb, w_LLd, w_LS, w_I1, w_L1, w_I2L, w_L2I, w_CMP, w_DUP, w_POP, w_DUP2, w_IF, w_IC, w_GO, w_NUL, w_ACN, prs, w_GF, w_PF, w_GS, w_IAL, w_LEN, w_LAL, w_ZAL, w_AAL, w_IAS, w_LAS, w_ZAS, w_AAS, w_RI, w_RL, w_RA, w_NEW, w_NA, w_MNA, w_OI, w_THR, w_CV, w_CS, w_CN9, w_CI9, w_MX, w_cont, lget, sto1, sto2, wideV, vo, vo_rv, isR, isR_rv, rv, fget, fput, cats, Value.category, List.headD_cons, List.getD_cons_zero, List.getD_cons_succ, List.drop_succ_cons, List.drop_zero, List.take_succ_cons, List.take_zero, List.reverse_cons, List.reverse_nil, List.nil_append, List.cons_append, List.length_cons, List.length_nil, cond_true, cond_false, and_true, true_and, Nat.zero_add, Nat.add_zero, Nat.reduceAdd, Nat.reduceLT, Nat.reduceLeDiff, Nat.reduceEqDiff, Nat.reduceBEq, Nat.reduceSub, ↓reduceIte, Int32.reduceOfNat, Int64.reduceOfNat, reduceCtorEq, Nat.le_refl, Nat.zero_le, Bool.false_eq_true, beq_self_eq_true, Fin.isValue, Fin.val_zero, Fin.val_one, Fin.reduceFinMk, Fin.val_two, Nat.reduceMod, Bool.or_false, Bool.or_true, Bool.true_or, Bool.false_or, not_true_eq_false, not_false_eq_true, true_or, or_true, implies_true, false_implies, true_implies, Int32.reduceLT, Int32.reduceLE, ↓w_TAB3, ↓w_TAB4, ↓w_TAB5, ↓w_TAB7, ↓w_TAB10, ↓w_LK2, ↓w_LK6, false_and, and_false, i1z, i2z, iz1, im0, im1, l0z, hasK_uI, hasK_uL, hasK_uR, hasK_uZ, hasK_sRow, mR_uI, mR_uL, mR_uZ, mR_sRow, mI_uL, mI_uR, mI_uZ, mL_uI, mL_uR, mL_uZ, mL_sRow, LF.hk hL, layF, LF.r hL, refF, ne_eq, not_false_eq_true, Option.some.injEq, Sum.inl.injEq, Sum.inr.injEq, Prod.mk.injEq, exists_eq_left, exists_eq_left', h3]
  exact ⟨fun q => absurd q (by decide), fun _ => ⟨rfl, hQ⟩⟩
theorem cA_push {f : Nat → List Nat} (h : cA c f M) (ha : a < 64) (h8 : (c a : Int) + 1 < (mI M 139 4).toInt) : cA (up1 c a (c a + 1)) (up1 f a (pushA (f a) T)) (uI (uI M (12 + 2 * a) (c a % 8) (nI T)) (11 + 2 * a) 8 (nI (c a + 1))) := by
  intro i hi
  have hA := h i hi
  have e4 : mI (uI (uI M (12 + 2 * a) (c a % 8) (nI T)) (11 + 2 * a) 8 (nI (c a + 1))) 139 4 = mI M 139 4 := by rw [mI_ne (by omega), mI_ne (by omega)]
  rw [e4]
  by_cases e : i = a
  · subst e
    rw [up1_same, up1_same]
    have hl := hA.2.1.1
    have hlen : (pushA (f i) T).length = min (c i + 1) 8 := by
      unfold pushA
      split
      · simp; omega
      · simp; omega
    refine ⟨by rw [mI_uI, if_pos ⟨rfl, rfl⟩], ⟨hlen, by omega⟩, fun k hk => ?_⟩
    rw [mI_ne (by omega)]
    unfold pushA at hk ⊢
    by_cases q : (f i).length = 8
    · simp only [if_pos q] at hk ⊢
      simp at hk
      have hlen2 : (List.drop 1 (f i) ++ [T]).length = 8 := by simp; omega
      rw [hlen2]
      by_cases e7 : k = 7
      · subst e7
        rw [show (c i + 1 - 8 + 7) % 8 = c i % 8 by omega, mI_uI, if_pos ⟨rfl, rfl⟩, gD_r (by simp; omega)]
        simp [q]
      · rw [mI_ne (by omega), gD_l (by simp; omega)]
        have := hA.2.2 (k + 1) (by omega)
        rw [q] at this
        rw [show (c i + 1 - 8 + k) % 8 = (c i - 8 + (k + 1)) % 8 by omega, this]
        simp [List.getD_eq_getElem?_getD, List.getElem?_drop, Nat.add_comm]
    · simp only [if_neg q] at hk ⊢
      simp at hk
      have hlen2 : (f i ++ [T]).length = c i + 1 := by simp; omega
      rw [hlen2]
      by_cases e7 : k = c i
      · subst e7
        rw [show (c i + 1 - (c i + 1) + c i) % 8 = c i % 8 by omega, mI_uI, if_pos ⟨rfl, rfl⟩, gD_r (by omega)]
        simp [show c i - (f i).length = 0 by omega]
      · rw [mI_ne (by omega), gD_l (by omega)]
        have := hA.2.2 k (by omega)
        rw [show (c i + 1 - (c i + 1) + k) % 8 = (c i - (f i).length + k) % 8 by omega, this]
  · rw [up1_ne e, up1_ne e]
    refine ⟨by rw [mI_ne (by omega), mI_ne (by omega)]; exact hA.1, hA.2.1, fun k hk => by rw [mI_ne (by omega), mI_ne (by omega)]; exact hA.2.2 k hk⟩
theorem payC_R45 (h : payC M A p) : payC (uR M A 6 (some (11 + 2 * a))) A (pIu p 45 (a + 1)) := by
  unfold payC at *
  simp only [qI_pIu, qL_pIu, qC_pIu, qR_pIu, mI_uR, mL_uR, mR_uR]
  simp [h]
  first | exact h.2.2.2.2.2.2.2.2.2.2.2.2.2 | exact ⟨by omega, h.2.2.2.2.2.2.2.2.2.2.2.2.2⟩
theorem RP_R45 (h : RP w o c S k p q M) : RP w o c S k (pIu p 45 (a + 1)) q (uR M (148 + 3 * w k) 6 (some (11 + 2 * a))) := by
  have hpc := h.pc
  obtain ⟨⟨hL, hN, hI, hLl, hF, hS, hA, hC, hP, hRr, hD, hT, hZ⟩, hk, h60⟩ := h
  have h39 : sN S 39 ≤ 60 := h60
  have hw := hpc.2.1
  refine ⟨⟨LF_uR6 hL hw, hN, hI, hLl, hF, hS, hA, hC, ?_, hRr, hD, hT, hZ⟩, hk, h60⟩
  have hPp : cP w (sN S 39) (up1 (sP S) k p) M := hP
  exact cP_set hPp hk h60 (fun b h1 h2 h3 => sA_uR h3 (sA_rfl M b)) (payC_R45 hpc.1)
end BG
