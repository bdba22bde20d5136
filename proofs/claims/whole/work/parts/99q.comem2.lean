/-! A PAYMENT COMES: the reference's method -/
section CM2
variable {G : En} {M M0 Mz M' : Mem} {Q : Option Value → Mem → Prop} {X : String → Mem → Prop} {S : Sw} {t a b j k v i np T A s n d N r acc : Nat} {x y : Int32} {z : Int64} {m mx : Msg} {g : Nat → Nat}
/-- the payments in front of n stay, and all but the payments' rows -/
def CW (S : Sw) (m : Msg) (n : Nat) (M0 M M' : Mem) : Prop := RX S M' ∧ (∀ i, i < n → payM M' i (sP S i) ∧ qI (sP S i) 44 ≤ 19) ∧ msgM M' 67 542 541 m ∧ loS M0 M' ∧ kpN M M'
theorem CW.L (h : CW S m n M0 M M') : LF M' := h.1.1
theorem CW_I (h : CW S m n M0 M M') (hb : 516 ≤ b ∧ b ≤ 530 ∧ b ≠ 518 ∧ b ≠ 519) : CW S m n M0 M (uI M' b n y) :=
  ⟨RX_uI h.1 (by omega), fun i hi => ⟨payM_oI (h.2.1 i hi).1 (by omega) (by omega), (h.2.1 i hi).2⟩, msgM_uI h.2.2.1 (by omega), loS_uI h.2.2.2.1 (by omega), kpN_I h.2.2.2.2 (by omega)⟩
theorem CW_L (h : CW S m n M0 M M') (hb : 516 ≤ b ∧ b ≤ 530) : CW S m n M0 M (uL M' b n z) :=
  ⟨RX_uL h.1 (by omega), fun i hi => ⟨payM_oL (h.2.1 i hi).1 (by omega), (h.2.1 i hi).2⟩, h.2.2.1, loS_uL h.2.2.2.1 (by omega), kpN_L h.2.2.2.2⟩
theorem payM_18 {p : Py} (h : payM M i p) (hi : i < n) : payM (dgR M 518 (12 * n) k g) i p := by
  unfold dgR
  unfold payM at *
  obtain ⟨a1, a2, a3, a4, a5, a6, a7, a8, a9, a10, a11, a12, a13, a14, a15⟩ := h
  have e : ∀ f : Nat → Int32, ∀ b k, b ≠ 518 → mI (sRow M 518 f) b k = mI M b k := fun f b k hb => mI_nr hb
  simp only [e _ 516 _ (by omega), e _ 517 _ (by omega), e _ 519 _ (by omega), e _ 520 _ (by omega), e _ 521 _ (by omega), e _ 522 _ (by omega), e _ 523 _ (by omega), e _ 526 _ (by omega), e _ 527 _ (by omega), e _ 528 _ (by omega), e _ 530 _ (by omega), mL_sRow]
  refine ⟨a1, a2, a3, a4, a5, a6, a7, a8, a9, a10, a11, a12, a13, a14, fun j hj => ?_⟩
  rw [mI_sRow, if_pos rfl, if_neg (by omega)]
  exact a15 j hj
theorem payM_19 {p : Py} (h : payM M i p) (hi : i < n) (h44 : qI p 44 ≤ 19) : payM (dgR M 519 (19 * n) k g) i p := by
  unfold dgR
  unfold payM at *
  obtain ⟨a1, a2, a3, a4, a5, a6, a7, a8, a9, a10, a11, a12, a13, a14, a15⟩ := h
  have e : ∀ f : Nat → Int32, ∀ b k, b ≠ 519 → mI (sRow M 519 f) b k = mI M b k := fun f b k hb => mI_nr hb
  simp only [e _ 516 _ (by omega), e _ 517 _ (by omega), e _ 518 _ (by omega), e _ 520 _ (by omega), e _ 521 _ (by omega), e _ 522 _ (by omega), e _ 523 _ (by omega), e _ 526 _ (by omega), e _ 527 _ (by omega), e _ 528 _ (by omega), e _ 530 _ (by omega), mL_sRow]
  refine ⟨a1, a2, a3, a4, a5, a6, a7, a8, a9, a10, a11, a12, a13, fun j hj => ?_, a15⟩
  rw [mI_sRow, if_pos rfl, if_neg (by omega)]
  exact a14 j hj
theorem CW_18 (h : CW S m n M0 M M') : CW S m n M0 M (dgR M' 518 (12 * n) k g) := by
  refine ⟨?_, fun i hi => ⟨payM_18 (h.2.1 i hi).1 hi, (h.2.1 i hi).2⟩, ?_, ?_, fun b j hb => ?_⟩
  · unfold dgR; exact RX_sRow h.1 (by omega)
  · unfold dgR; exact msgM_sRow h.2.2.1 (by omega)
  · unfold dgR; exact loS_sRow h.2.2.2.1 (by omega)
  · unfold dgR; rw [mI_nr (by omega)]; exact h.2.2.2.2 b j hb
theorem CW_19 (h : CW S m n M0 M M') : CW S m n M0 M (dgR M' 519 (19 * n) k g) := by
  refine ⟨?_, fun i hi => ⟨payM_19 (h.2.1 i hi).1 hi (h.2.1 i hi).2, (h.2.1 i hi).2⟩, ?_, ?_, fun b j hb => ?_⟩
  · unfold dgR; exact RX_sRow h.1 (by omega)
  · unfold dgR; exact msgM_sRow h.2.2.1 (by omega)
  · unfold dgR; exact loS_sRow h.2.2.2.1 (by omega)
  · unfold dgR; rw [mI_nr (by omega)]; exact h.2.2.2.2 b j hb
def cmN (M M' : Mem) : Prop := ∀ b j, ((b = 495 ∧ j ≠ 12 ∧ j ≠ 39) ∨ 531 ≤ b) → mI M' b j = mI M b j
set_option maxRecDepth 20000 in
theorem m_come (hR : RM S M) (hj : Jv t S) (hm : msgM M 67 542 541 m) (ho : okM m) (p0 : pb (gH m) 0 = 1) (p3 : pb (gH m) 3 = 1) (p4 : pb (gH m) 4 = 1) (p5 : pb (gH m) 5 = 1) (h60 : sN S 39 < 60) (ha : val m 4 < 6) (hi : loS M0 M) (hx : x = nI acc - 1) (hQ : ∀ M', RM (come S (newP S m (val m 4) acc)) M' → cmN M M' → loS M0 M' → Q (some (.int (nI (sN S 39)))) M') : Ct G (MT 256) [.ref 495, .int x] M Q X := by
  subst hx
  obtain ⟨hL, hN, hI, hLl, hA, hC, hP, hRr, hD, hT, hZ, hK⟩ := id hR
  have hs := hj.1
  have hn := hN
  unfold mNn at hn
  unfold jS at hs
  have ci := nI_clamp (n := sN S 39) (by omega)
  have hv := vp_in_nI (n := sN S 39) (N := 61) (by omega) (by omega)
  have e4 := lI_i32 (n := val m 4) (by omega)
  have v3 := val_lt ho (s := 3) (by omega) p3 rfl
  simp only [szF] at v3
  have e3 := lI_i32 (n := val m 3) (by omega)
  have f0 := ho.2.2 0 (by omega) p0
  have f5 := ho.2.2 5 (by omega) p5
  have h19 : gN m 0 ≤ 19 := f0.1
  have h12 : gN m 5 = 12 := f5.2.1 rfl
  have g39 : mI M 495 39 = nI (sN S 39) := by simp only [hn]
  have g12 : mI M 495 12 = nI (sN S 12) := by simp only [hn]
  have z0 : (0 : Int32).toNatClampNeg = 0 := rfl
  have hv0 : vp_in (0 : Int32) 16 := vp_in_i (by simp)
  have w0 : CW S m (sN S 39) M0 M M := ⟨RX_of hR, fun i hi => ⟨hP i hi, (hj.2.2.2.1 i hi).1.2.2.2.2.2.1⟩, hm, hi, kpN_0⟩
  refine Ct.go (L0 := [some (.ref 495), some (.int (nI acc - 1)), none, none]) (by decide +kernel) rfl rfl ?_
  refine r_X12_come (fun n => n == 25 || n == 128) 60 ?_
  simp only [cd_X12_come, cf_X12_come, wp, wq, wpI, cdF, w_CI, w_CL, w_CN, w_LI, w_LL, w_LA, w_SI, w_SL, w_SA, w_INC, w_II, w_IId, w_LLb, w_LLd, w_LS, w_I1, w_L1, w_I2L, w_L2I, w_CMP, w_DUP, w_POP, w_DUP2, w_IF, w_IC, w_GO, w_NUL, w_ACN, prs, w_GF, w_PF, w_GS, w_IAL, w_LEN, w_LAL, w_ZAL, w_AAL, w_IAS, w_LAS, w_ZAS, w_AAS, w_RI, w_RL, w_RA, w_NEW, w_NA, w_MNA, w_OI, w_THR, w_CV, w_CS, w_CN9, w_CI9, w_MX, w_cont, lget, sto1, sto2, wideV, vo, vo_rv, isR, isR_rv, rv, fget, fput, cats, Value.category, List.headD_cons, List.getD_cons_zero, List.getD_cons_succ, List.drop_succ_cons, List.drop_zero, List.take_succ_cons, List.take_zero, List.reverse_cons, List.reverse_nil, List.nil_append, List.cons_append, List.length_cons, List.length_nil, cond_true, cond_false, and_true, true_and, Nat.zero_add, Nat.add_zero, Nat.reduceAdd, Nat.reduceLT, Nat.reduceLeDiff, Nat.reduceEqDiff, Nat.reduceBEq, Nat.reduceSub, ↓reduceIte, Int32.reduceOfNat, Int64.reduceOfNat, reduceCtorEq, Nat.le_refl, Nat.zero_le, Bool.false_eq_true, beq_self_eq_true, Fin.isValue, Fin.val_zero, Fin.val_one, Fin.reduceFinMk, Fin.val_two, Nat.reduceMod, Bool.or_false, Bool.or_true, Bool.true_or, Bool.false_or, not_true_eq_false, not_false_eq_true, true_or, or_true, implies_true, false_implies, true_implies, Int32.reduceLT, Int32.reduceLE, ↓w_TAB3, ↓w_TAB4, ↓w_TAB5, ↓w_TAB7, ↓w_TAB10, ↓w_LK2, ↓w_LK6, false_and, and_false, i1z, i2z, iz1, im0, im1, l0z, hasK_uI, hasK_uL, hasK_uR, hasK_uZ, hasK_sRow, mR_uI, mR_uL, mR_uZ, mR_sRow, mI_uL, mI_uR, mI_uZ, mL_uI, mL_uR, mL_uZ, mL_sRow, LF.hk hL, layF, LF.r hL, refF, ne_eq, not_false_eq_true, Option.some.injEq, Sum.inl.injEq, Sum.inr.injEq, Prod.mk.injEq, exists_eq_left, exists_eq_left', g39, ci, g12]
  refine ⟨hv, ?_⟩
  have w1 := CW_I (b := 516) (y := nI (sN S 12)) w0 (by omega)
  have k1 : mI (uI M 516 (sN S 39) (nI (sN S 12))) 516 (sN S 39) = nI (sN S 12) := by rw [mI_uI, if_pos ⟨rfl, rfl⟩]
  generalize uI M 516 (sN S 39) (nI (sN S 12)) = M1 at *
  have l1 := w1.L
  refine m_numOf (s := 4) l1 w1.2.2.1 ho (by omega) p4 (by decide) rfl ⟨_, rfl, ?_⟩
  refine r_X12_come (fun n => n == 29 || n == 25 || n == 128) 60 ?_
  simp only [cd_X12_come, cf_X12_come, wp, wq, wpI, cdF, w_CI, w_CL, w_CN, w_LI, w_LL, w_LA, w_SI, w_SL, w_SA, w_INC, w_II, w_IId, w_LLb, w_LLd, w_LS, w_I1, w_L1, w_I2L, w_L2I, w_CMP, w_DUP, w_POP, w_DUP2, w_IF, w_IC, w_GO, w_NUL, w_ACN, prs, w_GF, w_PF, w_GS, w_IAL, w_LEN, w_LAL, w_ZAL, w_AAL, w_IAS, w_LAS, w_ZAS, w_AAS, w_RI, w_RL, w_RA, w_NEW, w_NA, w_MNA, w_OI, w_THR, w_CV, w_CS, w_CN9, w_CI9, w_MX, w_cont, lget, sto1, sto2, wideV, vo, vo_rv, isR, isR_rv, rv, fget, fput, cats, Value.category, List.headD_cons, List.getD_cons_zero, List.getD_cons_succ, List.drop_succ_cons, List.drop_zero, List.take_succ_cons, List.take_zero, List.reverse_cons, List.reverse_nil, List.nil_append, List.cons_append, List.length_cons, List.length_nil, cond_true, cond_false, and_true, true_and, Nat.zero_add, Nat.add_zero, Nat.reduceAdd, Nat.reduceLT, Nat.reduceLeDiff, Nat.reduceEqDiff, Nat.reduceBEq, Nat.reduceSub, ↓reduceIte, Int32.reduceOfNat, Int64.reduceOfNat, reduceCtorEq, Nat.le_refl, Nat.zero_le, Bool.false_eq_true, beq_self_eq_true, Fin.isValue, Fin.val_zero, Fin.val_one, Fin.reduceFinMk, Fin.val_two, Nat.reduceMod, Bool.or_false, Bool.or_true, Bool.true_or, Bool.false_or, not_true_eq_false, not_false_eq_true, true_or, or_true, implies_true, false_implies, true_implies, Int32.reduceLT, Int32.reduceLE, ↓w_TAB3, ↓w_TAB4, ↓w_TAB5, ↓w_TAB7, ↓w_TAB10, ↓w_LK2, ↓w_LK6, false_and, and_false, i1z, i2z, iz1, im0, im1, l0z, e4, ci, hasK_uI, hasK_uL, hasK_uR, hasK_uZ, hasK_sRow, mR_uI, mR_uL, mR_uZ, mR_sRow, mI_uL, mI_uR, mI_uZ, mL_uI, mL_uR, mL_uZ, mL_sRow, LF.hg l1, layF, LF.r l1, refF, ne_eq, not_false_eq_true, Option.some.injEq, Sum.inl.injEq, Sum.inr.injEq, Prod.mk.injEq, exists_eq_left, exists_eq_left']
  refine ⟨hv, ?_⟩
  have w2 := CW_I (b := 517) (y := nI (val m 4)) w1 (by omega)
  have k2 : mI (uI M1 517 (sN S 39) (nI (val m 4))) 517 (sN S 39) = nI (val m 4) := by rw [mI_uI, if_pos ⟨rfl, rfl⟩]
  have k1 : mI (uI M1 517 (sN S 39) (nI (val m 4))) 516 (sN S 39) = nI (sN S 12) := by rw [mI_ne (by omega)]; exact k1
  generalize uI M1 517 (sN S 39) (nI (val m 4)) = M2 at *
  have hs5 := (w2.2.2.1.2 5 (by omega)).1 p5
  rw [h12] at hs5
  have h1 := lp_come1 (G := G) (Q := Q) (X := X) (x := nI acc - 1) (i := sN S 39) (g := gS m 5) w2.L h60 hs5.2 ?_ 12 0 (by omega)
  · rw [dgR_0] at h1
    exact h1
  have w3 := CW_18 (k := 12) (g := gS m 5) w2
  have k1 : mI (dgR M2 518 (12 * sN S 39) 12 (gS m 5)) 516 (sN S 39) = nI (sN S 12) := by unfold dgR; rw [mI_nr (by omega)]; exact k1
  have k2 : mI (dgR M2 518 (12 * sN S 39) 12 (gS m 5)) 517 (sN S 39) = nI (val m 4) := by unfold dgR; rw [mI_nr (by omega)]; exact k2
  have k3 : ∀ j, j < 12 → mI (dgR M2 518 (12 * sN S 39) 12 (gS m 5)) 518 (12 * sN S 39 + j) = nI (gS m 5 j) := fun j hj' => by unfold dgR; rw [mI_sRow, if_pos rfl, if_pos (by omega), Nat.add_sub_cancel_left]
  generalize dgR M2 518 (12 * sN S 39) 12 (gS m 5) = M3 at *
  have l3 := w3.L
  have hs0 := (w3.2.2.1.2 0 (by omega)).1 p0
  refine r_X12_come (fun n => n == 76 || n == 25 || n == 128) 60 ?_
  simp only [cd_X12_come, cf_X12_come, wp, wq, wpI, cdF, w_CI, w_CL, w_CN, w_LI, w_LL, w_LA, w_SI, w_SL, w_SA, w_INC, w_II, w_IId, w_LLb, w_LLd, w_LS, w_I1, w_L1, w_I2L, w_L2I, w_CMP, w_DUP, w_POP, w_DUP2, w_IF, w_IC, w_GO, w_NUL, w_ACN, prs, w_GF, w_PF, w_GS, w_IAL, w_LEN, w_LAL, w_ZAL, w_AAL, w_IAS, w_LAS, w_ZAS, w_AAS, w_RI, w_RL, w_RA, w_NEW, w_NA, w_MNA, w_OI, w_THR, w_CV, w_CS, w_CN9, w_CI9, w_MX, w_cont, lget, sto1, sto2, wideV, vo, vo_rv, isR, isR_rv, rv, fget, fput, cats, Value.category, List.headD_cons, List.getD_cons_zero, List.getD_cons_succ, List.drop_succ_cons, List.drop_zero, List.take_succ_cons, List.take_zero, List.reverse_cons, List.reverse_nil, List.nil_append, List.cons_append, List.length_cons, List.length_nil, cond_true, cond_false, and_true, true_and, Nat.zero_add, Nat.add_zero, Nat.reduceAdd, Nat.reduceLT, Nat.reduceLeDiff, Nat.reduceEqDiff, Nat.reduceBEq, Nat.reduceSub, ↓reduceIte, Int32.reduceOfNat, Int64.reduceOfNat, reduceCtorEq, Nat.le_refl, Nat.zero_le, Bool.false_eq_true, beq_self_eq_true, Fin.isValue, Fin.val_zero, Fin.val_one, Fin.reduceFinMk, Fin.val_two, Nat.reduceMod, Bool.or_false, Bool.or_true, Bool.true_or, Bool.false_or, not_true_eq_false, not_false_eq_true, true_or, or_true, implies_true, false_implies, true_implies, Int32.reduceLT, Int32.reduceLE, ↓w_TAB3, ↓w_TAB4, ↓w_TAB5, ↓w_TAB7, ↓w_TAB10, ↓w_LK2, ↓w_LK6, false_and, and_false, i1z, i2z, iz1, im0, im1, l0z, hasK_uI, hasK_uL, hasK_uR, hasK_uZ, hasK_sRow, mR_uI, mR_uL, mR_uZ, mR_sRow, mI_uL, mI_uR, mI_uZ, mL_uI, mL_uR, mL_uZ, mL_sRow, LF.hg l3, layF, LF.r l3, refF, ne_eq, not_false_eq_true, Option.some.injEq, Sum.inl.injEq, Sum.inr.injEq, Prod.mk.injEq, exists_eq_left, exists_eq_left', z0, hs0.1, ci]
  refine ⟨hv0, hv, ?_⟩
  have w4 := CW_I (b := 520) (y := nI (gN m 0)) w3 (by omega)
  have k4 : mI (uI M3 520 (sN S 39) (nI (gN m 0))) 520 (sN S 39) = nI (gN m 0) := by rw [mI_uI, if_pos ⟨rfl, rfl⟩]
  have k1 : mI (uI M3 520 (sN S 39) (nI (gN m 0))) 516 (sN S 39) = nI (sN S 12) := by rw [mI_ne (by omega)]; exact k1
  have k2 : mI (uI M3 520 (sN S 39) (nI (gN m 0))) 517 (sN S 39) = nI (val m 4) := by rw [mI_ne (by omega)]; exact k2
  have k3 : ∀ j, j < 12 → mI (uI M3 520 (sN S 39) (nI (gN m 0))) 518 (12 * sN S 39 + j) = nI (gS m 5 j) := fun j hj' => by rw [mI_ne (by omega)]; exact k3 j hj'
  generalize uI M3 520 (sN S 39) (nI (gN m 0)) = M4 at *
  have hs0 := (w4.2.2.1.2 0 (by omega)).1 p0
  have h2 := lp_come2 (G := G) (Q := Q) (X := X) (x := nI acc - 1) (i := sN S 39) (n := gN m 0) (g := gS m 0) w4.L h60 hs0.1 h19 (fun j hj' => by have := hs0.2 j hj'; rw [Nat.mul_zero, Nat.zero_add] at this; exact this) ?_ (gN m 0) 0 (by omega)
  · rw [dgR_0] at h2
    exact h2
  have w5 := CW_19 (k := gN m 0) (g := gS m 0) w4
  have k1 : mI (dgR M4 519 (19 * sN S 39) (gN m 0) (gS m 0)) 516 (sN S 39) = nI (sN S 12) := by unfold dgR; rw [mI_nr (by omega)]; exact k1
  have k2 : mI (dgR M4 519 (19 * sN S 39) (gN m 0) (gS m 0)) 517 (sN S 39) = nI (val m 4) := by unfold dgR; rw [mI_nr (by omega)]; exact k2
  have k4 : mI (dgR M4 519 (19 * sN S 39) (gN m 0) (gS m 0)) 520 (sN S 39) = nI (gN m 0) := by unfold dgR; rw [mI_nr (by omega)]; exact k4
  have k3 : ∀ j, j < 12 → mI (dgR M4 519 (19 * sN S 39) (gN m 0) (gS m 0)) 518 (12 * sN S 39 + j) = nI (gS m 5 j) := fun j hj' => by unfold dgR; rw [mI_nr (by omega)]; exact k3 j hj'
  have k5 : ∀ j, j < gN m 0 → mI (dgR M4 519 (19 * sN S 39) (gN m 0) (gS m 0)) 519 (19 * sN S 39 + j) = nI (gS m 0 j) := fun j hj' => by unfold dgR; rw [mI_sRow, if_pos rfl, if_pos (by omega), Nat.add_sub_cancel_left]
  generalize dgR M4 519 (19 * sN S 39) (gN m 0) (gS m 0) = M5 at *
  have l5 := w5.L
  refine r_X12_come (fun n => n == 25 || n == 128) 60 ?_
  simp only [cd_X12_come, cf_X12_come, wp, wq, wpI, cdF, w_CI, w_CL, w_CN, w_LI, w_LL, w_LA, w_SI, w_SL, w_SA, w_INC, w_II, w_IId, w_LLb, w_LLd, w_LS, w_I1, w_L1, w_I2L, w_L2I, w_CMP, w_DUP, w_POP, w_DUP2, w_IF, w_IC, w_GO, w_NUL, w_ACN, prs, w_GF, w_PF, w_GS, w_IAL, w_LEN, w_LAL, w_ZAL, w_AAL, w_IAS, w_LAS, w_ZAS, w_AAS, w_RI, w_RL, w_RA, w_NEW, w_NA, w_MNA, w_OI, w_THR, w_CV, w_CS, w_CN9, w_CI9, w_MX, w_cont, lget, sto1, sto2, wideV, vo, vo_rv, isR, isR_rv, rv, fget, fput, cats, Value.category, List.headD_cons, List.getD_cons_zero, List.getD_cons_succ, List.drop_succ_cons, List.drop_zero, List.take_succ_cons, List.take_zero, List.reverse_cons, List.reverse_nil, List.nil_append, List.cons_append, List.length_cons, List.length_nil, cond_true, cond_false, and_true, true_and, Nat.zero_add, Nat.add_zero, Nat.reduceAdd, Nat.reduceLT, Nat.reduceLeDiff, Nat.reduceEqDiff, Nat.reduceBEq, Nat.reduceSub, ↓reduceIte, Int32.reduceOfNat, Int64.reduceOfNat, reduceCtorEq, Nat.le_refl, Nat.zero_le, Bool.false_eq_true, beq_self_eq_true, Fin.isValue, Fin.val_zero, Fin.val_one, Fin.reduceFinMk, Fin.val_two, Nat.reduceMod, Bool.or_false, Bool.or_true, Bool.true_or, Bool.false_or, not_true_eq_false, not_false_eq_true, true_or, or_true, implies_true, false_implies, true_implies, Int32.reduceLT, Int32.reduceLE, ↓w_TAB3, ↓w_TAB4, ↓w_TAB5, ↓w_TAB7, ↓w_TAB10, ↓w_LK2, ↓w_LK6, false_and, and_false, i1z, i2z, iz1, im0, im1, l0z, hasK_uI, hasK_uL, hasK_uR, hasK_uZ, hasK_sRow, mR_uI, mR_uL, mR_uZ, mR_sRow, mI_uL, mI_uR, mI_uZ, mL_uI, mL_uR, mL_uZ, mL_sRow, LF.hg l5, layF, LF.r l5, refF, ne_eq, not_false_eq_true, Option.some.injEq, Sum.inl.injEq, Sum.inr.injEq, Prod.mk.injEq, exists_eq_left, exists_eq_left', ci]
  refine ⟨hv, ?_⟩
  have w6 := CW_I (b := 521) (y := nI acc - 1) w5 (by omega)
  refine m_numOf (s := 3) w6.L w6.2.2.1 ho (by omega) p3 (by decide) rfl ⟨_, rfl, ?_⟩
  have w7 := CW_I (b := 530) (y := -1) (CW_L (b := 529) (z := 0) (CW_I (b := 528) (y := 0) (CW_I (b := 527) (y := -1) (CW_I (b := 526) (y := 0) (CW_L (b := 525) (z := 0) (CW_L (b := 524) (z := 0) (CW_I (b := 523) (y := 2) (CW_I (b := 522) (y := nI (val m 3)) w6 (by omega)) (by omega)) (by omega)) (by omega)) (by omega)) (by omega)) (by omega)) (by omega)) (by omega)
  have k7 : payM (uI (uL (uI (uI (uI (uL (uL (uI (uI (uI M5 521 (sN S 39) (nI acc - 1)) 522 (sN S 39) (nI (val m 3))) 523 (sN S 39) 2) 524 (sN S 39) 0) 525 (sN S 39) 0) 526 (sN S 39) 0) 527 (sN S 39) (-1)) 528 (sN S 39) 0) 529 (sN S 39) 0) 530 (sN S 39) (-1)) (sN S 39) (newP S m (val m 4) acc) := by
    unfold payM
    refine ⟨?_, ?_, ?_, ?_, ?_, ?_, ?_, ?_, ?_, ?_, ?_, ?_, ?_, fun j hj' => ?_, fun j hj' => ?_⟩
    · simp [mI_uI, mI_uL]; exact k1
    · simp [mI_uI, mI_uL]; exact k2
    · simp [mI_uI, mI_uL]; rfl
    · simp [mI_uI, mI_uL]; exact k4
    · simp [mI_uI, mI_uL]; rfl
    · simp [mI_uI, mI_uL]; rfl
    · simp [mI_uI, mI_uL]; rfl
    · simp [mI_uI, mI_uL]; rfl
    · simp [mI_uI, mI_uL]; rfl
    · simp [mL_uI, mL_uL]; rfl
    · simp [mL_uI, mL_uL]; rfl
    · simp [mL_uI, mL_uL]; rfl
    · simp [mI_uI, mI_uL]; rfl
    · simp [mI_uI, mI_uL]; exact k5 j hj'
    · simp [mI_uI, mI_uL]; exact k3 j hj'
  generalize uI M5 521 (sN S 39) (nI acc - 1) = M6 at *
  have l6 := w6.L
  have q12 := (w7.2.2.2.2 495 12 (by omega)).trans g12
  have q39 := (w7.2.2.2.2 495 39 (by omega)).trans g39
  simp only [mI_uL, mI_uI] at q12 q39
  simp at q12 q39
  refine r_X12_come (fun n => n == 25 || n == 128) 80 ?_
  simp only [cd_X12_come, cf_X12_come, wp, wq, wpI, cdF, w_CI, w_CL, w_CN, w_LI, w_LL, w_LA, w_SI, w_SL, w_SA, w_INC, w_II, w_IId, w_LLb, w_LLd, w_LS, w_I1, w_L1, w_I2L, w_L2I, w_CMP, w_DUP, w_POP, w_DUP2, w_IF, w_IC, w_GO, w_NUL, w_ACN, prs, w_GF, w_PF, w_GS, w_IAL, w_LEN, w_LAL, w_ZAL, w_AAL, w_IAS, w_LAS, w_ZAS, w_AAS, w_RI, w_RL, w_RA, w_NEW, w_NA, w_MNA, w_OI, w_THR, w_CV, w_CS, w_CN9, w_CI9, w_MX, w_cont, lget, sto1, sto2, wideV, vo, vo_rv, isR, isR_rv, rv, fget, fput, cats, Value.category, List.headD_cons, List.getD_cons_zero, List.getD_cons_succ, List.drop_succ_cons, List.drop_zero, List.take_succ_cons, List.take_zero, List.reverse_cons, List.reverse_nil, List.nil_append, List.cons_append, List.length_cons, List.length_nil, cond_true, cond_false, and_true, true_and, Nat.zero_add, Nat.add_zero, Nat.reduceAdd, Nat.reduceLT, Nat.reduceLeDiff, Nat.reduceEqDiff, Nat.reduceBEq, Nat.reduceSub, ↓reduceIte, Int32.reduceOfNat, Int64.reduceOfNat, reduceCtorEq, Nat.le_refl, Nat.zero_le, Bool.false_eq_true, beq_self_eq_true, Fin.isValue, Fin.val_zero, Fin.val_one, Fin.reduceFinMk, Fin.val_two, Nat.reduceMod, Bool.or_false, Bool.or_true, Bool.true_or, Bool.false_or, not_true_eq_false, not_false_eq_true, true_or, or_true, implies_true, false_implies, true_implies, Int32.reduceLT, Int32.reduceLE, ↓w_TAB3, ↓w_TAB4, ↓w_TAB5, ↓w_TAB7, ↓w_TAB10, ↓w_LK2, ↓w_LK6, false_and, and_false, i1z, i2z, iz1, im0, im1, l0z, hasK_uI, hasK_uL, hasK_uR, hasK_uZ, hasK_sRow, mR_uI, mR_uL, mR_uZ, mR_sRow, mI_uL, mI_uR, mI_uZ, mL_uI, mL_uR, mL_uZ, mL_sRow, LF.hg l6, layF, LF.r l6, refF, ne_eq, not_false_eq_true, Option.some.injEq, Sum.inl.injEq, Sum.inr.injEq, Prod.mk.injEq, exists_eq_left, exists_eq_left', ci, e3, mI_uI, mI_uL, q12, q39, nI_1]
  refine ⟨hv, hv, hv, hv, hv, hv, hv, hv, hv, ?_⟩
  generalize (uI (uL (uI (uI (uI (uL (uL (uI (uI M6 522 (sN S 39) (nI (val m 3))) 523 (sN S 39) 2) 524 (sN S 39) 0) 525 (sN S 39) 0) 526 (sN S 39) 0) 527 (sN S 39) (-1)) 528 (sN S 39) 0) 529 (sN S 39) 0) 530 (sN S 39) (-1)) = M7 at *
  refine hQ _ (RM_come w7.1 (fun i hi => (w7.2.1 i hi).1) k7) (fun b j hb => ?_) (loS_uI (loS_uI w7.2.2.2.1 (by omega)) (by omega))
  rw [mI_ne (by omega), mI_ne (by omega)]
  exact w7.2.2.2.2 b j (by omega)
theorem DN_cm {S' : Sw} (h : DN S m mx M0 M) (hr : RM S' M') (hk : cmN M M') (hl : loS M0 M') : DN S' m mx M0 M' := by
  refine ⟨hr, ⟨by rw [hk _ _ (by omega)]; exact h.2.1.1, fun s hs => ⟨fun hp => ⟨by rw [hk _ _ (by omega)]; exact ((h.2.1.2 s hs).1 hp).1, fun i hi => by rw [hk _ _ (by omega)]; exact ((h.2.1.2 s hs).1 hp).2 i hi⟩, fun hp => by rw [hk _ _ (by omega)]; exact (h.2.1.2 s hs).2 hp⟩⟩, ⟨by rw [hk _ _ (by omega)]; exact h.2.2.1.1, fun s hs => ⟨fun hp => ⟨by rw [hk _ _ (by omega)]; exact ((h.2.2.1.2 s hs).1 hp).1, fun i hi => by rw [hk _ _ (by omega)]; exact ((h.2.2.1.2 s hs).1 hp).2 i hi⟩, fun hp => by rw [hk _ _ (by omega)]; exact (h.2.2.1.2 s hs).2 hp⟩⟩, hl, by rw [hk _ _ (by omega)]; exact h.2.2.2.2⟩
end CM2
