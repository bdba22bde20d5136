/-! CELLS ARE MADE: the reference -/
section INM
variable {G : En} {M M0 : Mem} {Q : Option Value → Mem → Prop} {X : String → Mem → Prop} {n a j k i : Nat} {b x v u : Int32} {e : Lk} {gI gI' : Nat → Nat → Int32} {gR gR' : Nat → Nat → Option Nat}
theorem Ini.hq (h : Ini b n gI gR M) (ha : a < n) : hasK M a e = (layF a = some e) := by
  apply propext
  exact ⟨fun q => by have := q.2; rw [h.2.2.1 a, if_pos ha] at this; exact this, fun q => h.hk ha q⟩
def mI0 (gI : Nat → Nat → Int32) : Nat → Nat → Int32 := (up2 (up2 (up2 (up2 (up2 (up2 (up2 (up2 (up2 (up2 (up2 (up2 (up2 (up2 (up2 (up2 gI 496 0 2) 496 1 3) 496 2 4) 496 3 11) 496 4 32) 496 5 37) 496 6 38) 496 7 39) 496 8 41) 496 9 49) 496 10 54) 496 11 70) 496 12 74) 496 13 86) 496 14 90) 496 15 95)
def mR0 (gR : Nat → Nat → Option Nat) : Nat → Nat → Option Nat := (up2 gR 495 0 (some 496))
def mI1 (gI : Nat → Nat → Int32) : Nat → Nat → Int32 := (up2 (up2 (up2 (up2 (up2 (up2 (up2 (up2 (up2 (up2 (up2 (up2 (up2 (up2 (up2 (up2 (mI0 gI) 497 0 19) 497 1 6) 497 2 12) 497 3 6) 497 4 11) 497 5 12) 497 6 6) 497 7 2) 497 8 8) 497 9 3) 497 10 40) 497 11 3) 497 12 10) 497 13 16) 497 14 42) 497 15 12)
def mR1 (gR : Nat → Nat → Option Nat) : Nat → Nat → Option Nat := (up2 (mR0 gR) 495 1 (some 497))
def mI2 (gI : Nat → Nat → Int32) : Nat → Nat → Int32 := (up2 (up2 (up2 (up2 (up2 (up2 (up2 (up2 (up2 (up2 (up2 (up2 (up2 (up2 (up2 (up2 (mI1 gI) 498 0 1) 498 1 0) 498 2 0) 498 3 0) 498 4 1) 498 5 2) 498 6 2) 498 7 2) 498 8 2) 498 9 0) 498 10 3) 498 11 0) 498 12 0) 498 13 0) 498 14 0) 498 15 0)
def mR2 (gR : Nat → Nat → Option Nat) : Nat → Nat → Option Nat := (up2 (mR1 gR) 495 2 (some 498))
def mI3 (gI : Nat → Nat → Int32) : Nat → Nat → Int32 := (up2 (up2 (up2 (up2 (up2 (up2 (mI2 gI) 495 7 (-1)) 495 12 1) 495 13 100) 495 14 50) 495 15 200) 495 16 5)
def mR3 (gR : Nat → Nat → Option Nat) : Nat → Nat → Option Nat := (up2 (up2 (mR2 gR) 495 19 (some 499)) 495 20 (some 500))
def mI4 (gI : Nat → Nat → Int32) : Nat → Nat → Int32 := (mI3 gI)
def mR4 (gR : Nat → Nat → Option Nat) : Nat → Nat → Option Nat := (up2 (up2 (up2 (up2 (up2 (up2 (up2 (up2 (mR3 gR) 495 21 (some 501)) 495 22 (some 502)) 495 23 (some 503)) 495 25 (some 504)) 495 26 (some 505)) 495 27 (some 506)) 495 29 (some 507)) 495 30 (some 508))
def mI5 (gI : Nat → Nat → Int32) : Nat → Nat → Int32 := (mI4 gI)
def mR5 (gR : Nat → Nat → Option Nat) : Nat → Nat → Option Nat := (up2 (up2 (up2 (up2 (up2 (up2 (up2 (up2 (mR4 gR) 495 31 (some 509)) 495 32 (some 510)) 495 33 (some 511)) 495 35 (some 512)) 495 36 (some 513)) 495 37 (some 514)) 495 38 (some 515)) 495 40 (some 516))
def mI6 (gI : Nat → Nat → Int32) : Nat → Nat → Int32 := (mI5 gI)
def mR6 (gR : Nat → Nat → Option Nat) : Nat → Nat → Option Nat := (up2 (up2 (up2 (up2 (up2 (up2 (up2 (up2 (mR5 gR) 495 41 (some 517)) 495 42 (some 518)) 495 43 (some 519)) 495 44 (some 520)) 495 45 (some 521)) 495 46 (some 522)) 495 47 (some 523)) 495 48 (some 524))
def mI7 (gI : Nat → Nat → Int32) : Nat → Nat → Int32 := (mI6 gI)
def mR7 (gR : Nat → Nat → Option Nat) : Nat → Nat → Option Nat := (up2 (up2 (up2 (up2 (up2 (up2 (up2 (up2 (mR6 gR) 495 49 (some 525)) 495 50 (some 526)) 495 51 (some 527)) 495 52 (some 528)) 495 53 (some 529)) 495 54 (some 530)) 495 56 (some 531)) 495 57 (some 532))
def mI8 (gI : Nat → Nat → Int32) : Nat → Nat → Int32 := (up2 (mI7 gI) 495 64 800)
def mR8 (gR : Nat → Nat → Option Nat) : Nat → Nat → Option Nat := (up2 (up2 (up2 (up2 (up2 (up2 (up2 (mR7 gR) 495 58 (some 533)) 495 59 (some 534)) 495 60 (some 535)) 495 61 (some 536)) 495 62 (some 537)) 495 63 (some 538)) 495 65 (some 539))
def mI9 (gI : Nat → Nat → Int32) : Nat → Nat → Int32 := (mI8 gI)
def mR9 (gR : Nat → Nat → Option Nat) : Nat → Nat → Option Nat := (up2 (up2 (up2 (up2 (up2 (up2 (up2 (up2 (mR8 gR) 495 66 (some 540)) 495 68 (some 541)) 495 69 (some 542)) 495 71 (some 543)) 495 72 (some 544)) 495 73 (some 545)) 495 75 (some 546)) 495 77 (some 547))
def mI10 (gI : Nat → Nat → Int32) : Nat → Nat → Int32 := (mI9 gI)
def mR10 (gR : Nat → Nat → Option Nat) : Nat → Nat → Option Nat := (up2 (up2 (up2 (mR9 gR) 495 83 (some 548)) 495 84 (some 549)) 495 85 (some 550))
def rowC (r : Nat) (gI : Nat → Nat → Int32) (a j : Nat) : Int32 := if a = r ∧ j < 16 then -1 else gI a j
theorem Ini_C {r : Nat} (h : Ini b n gI gR M) (hr : r < n) : Ini b n (rowC r gI) gR (sRow M r (fun i => if i < 16 then -1 else mI M r i)) := by
  obtain ⟨h1, h2, h3, h4, h5, h6, h7⟩ := h
  refine ⟨h1, h2, h3, fun c i => ?_, h5, h6, fun c i hc => ⟨?_, (h7 c i hc).2⟩⟩
  · rw [mI_sRow]
    unfold rowC
    by_cases q : c = r
    · subst q
      rw [if_pos rfl]
      by_cases q2 : i < 16
      · rw [if_pos q2, if_pos ⟨rfl, q2⟩]; rfl
      · rw [if_neg q2, if_neg (fun e => q2 e.2)]; exact h4 c i
    · rw [if_neg q, if_neg (fun e => q e.1)]; exact h4 c i
  · unfold rowC
    rw [if_neg (by omega)]; exact (h7 c i hc).1
def mIE (gI : Nat → Nat → Int32) : Nat → Nat → Int32 := rowC 544 (rowC 542 (rowC 540 (up2 (mI10 gI) 495 8 1000000)))
set_option maxRecDepth 20000 in
theorem i12_11 (hb : b = mm x) (hQ : ∀ M', Ini b 551 (mIE gI) (mR10 gR) M' → Q none M') (h : Ini b 551 (mI10 gI) (mR10 gR) M) : Go G (MT 178) Q X 745 [some (.ref 495), some (.int x)] [] M 55 17487 := by
  have k1 := h.hk (a := 495) (e := .inr 12) (by omega) (by decide)
  have hend : Go G (MT 178) Q X 767 [some (.ref 495), some (.int x)] [.int b, .ref 495] M 55 17487 := by
    have s1 := Ini_I (a := 495) (j := 8) (v := b) (u := 1000000) h (by omega) rfl
    have g1 : mR (uI M 495 8 b) 495 66 = some 540 := by rw [s1.mr]; rfl
    refine r_X12_init (fun n => n == 777 || n == 784 || n == 791) 60 ?_
    simp only [cd_X12_init, cf_X12_init, wp, wq, wpI, cdF, w_CI, w_CL, w_CN, w_LI, w_LL, w_LA, w_SI, w_SL, w_SA, w_INC, w_II, w_IId, w_LLb, w_LLd, w_LS, w_I1, w_L1, w_I2L, w_L2I, w_CMP, w_DUP, w_POP, w_DUP2, w_IF, w_IC, w_GO, w_NUL, w_ACN, prs, w_GF, w_PF, w_GS, w_IAL, w_LEN, w_LAL, w_ZAL, w_AAL, w_IAS, w_LAS, w_ZAS, w_AAS, w_RI, w_RL, w_RA, w_NEW, w_NA, w_MNA, w_OI, w_THR, w_CV, w_CS, w_CN9, w_CI9, w_MX, w_cont, lget, sto1, sto2, wideV, vo, vo_rv, isR, isR_rv, rv, fget, fput, cats, Value.category, List.headD_cons, List.getD_cons_zero, List.getD_cons_succ, List.drop_succ_cons, List.drop_zero, List.take_succ_cons, List.take_zero, List.reverse_cons, List.reverse_nil, List.nil_append, List.cons_append, List.length_cons, List.length_nil, cond_true, cond_false, and_true, true_and, Nat.zero_add, Nat.add_zero, Nat.reduceAdd, Nat.reduceLT, Nat.reduceLeDiff, Nat.reduceEqDiff, Nat.reduceBEq, Nat.reduceSub, ↓reduceIte, Int32.reduceOfNat, Int64.reduceOfNat, reduceCtorEq, Nat.le_refl, Nat.zero_le, Bool.false_eq_true, beq_self_eq_true, Fin.isValue, Fin.val_zero, Fin.val_one, Fin.reduceFinMk, Fin.val_two, Nat.reduceMod, Bool.or_false, Bool.or_true, Bool.true_or, Bool.false_or, not_true_eq_false, not_false_eq_true, true_or, or_true, implies_true, false_implies, true_implies, Int32.reduceLT, Int32.reduceLE, ↓w_TAB3, ↓w_TAB4, ↓w_TAB5, ↓w_TAB7, ↓w_TAB10, ↓w_LK2, ↓w_LK6, false_and, and_false, i1z, i2z, iz1, im0, im1, l0z, k1, hasK_uI, g1]
    refine m_clear (s1.hk (by omega) (by decide)) ⟨rfl, ?_⟩
    have s2 := Ini_C (r := 540) s1 (by omega)
    generalize sRow (uI M 495 8 b) 540 (fun i => if i < 16 then -1 else mI (uI M 495 8 b) 540 i) = M2 at *
    have k2 := s2.hk (a := 495) (e := .inr 12) (by omega) (by decide)
    have g2 : mR M2 495 69 = some 542 := by rw [s2.mr]; rfl
    refine r_X12_init (fun n => n == 777 || n == 784 || n == 791) 60 ?_
    simp only [cd_X12_init, cf_X12_init, wp, wq, wpI, cdF, w_CI, w_CL, w_CN, w_LI, w_LL, w_LA, w_SI, w_SL, w_SA, w_INC, w_II, w_IId, w_LLb, w_LLd, w_LS, w_I1, w_L1, w_I2L, w_L2I, w_CMP, w_DUP, w_POP, w_DUP2, w_IF, w_IC, w_GO, w_NUL, w_ACN, prs, w_GF, w_PF, w_GS, w_IAL, w_LEN, w_LAL, w_ZAL, w_AAL, w_IAS, w_LAS, w_ZAS, w_AAS, w_RI, w_RL, w_RA, w_NEW, w_NA, w_MNA, w_OI, w_THR, w_CV, w_CS, w_CN9, w_CI9, w_MX, w_cont, lget, sto1, sto2, wideV, vo, vo_rv, isR, isR_rv, rv, fget, fput, cats, Value.category, List.headD_cons, List.getD_cons_zero, List.getD_cons_succ, List.drop_succ_cons, List.drop_zero, List.take_succ_cons, List.take_zero, List.reverse_cons, List.reverse_nil, List.nil_append, List.cons_append, List.length_cons, List.length_nil, cond_true, cond_false, and_true, true_and, Nat.zero_add, Nat.add_zero, Nat.reduceAdd, Nat.reduceLT, Nat.reduceLeDiff, Nat.reduceEqDiff, Nat.reduceBEq, Nat.reduceSub, ↓reduceIte, Int32.reduceOfNat, Int64.reduceOfNat, reduceCtorEq, Nat.le_refl, Nat.zero_le, Bool.false_eq_true, beq_self_eq_true, Fin.isValue, Fin.val_zero, Fin.val_one, Fin.reduceFinMk, Fin.val_two, Nat.reduceMod, Bool.or_false, Bool.or_true, Bool.true_or, Bool.false_or, not_true_eq_false, not_false_eq_true, true_or, or_true, implies_true, false_implies, true_implies, Int32.reduceLT, Int32.reduceLE, ↓w_TAB3, ↓w_TAB4, ↓w_TAB5, ↓w_TAB7, ↓w_TAB10, ↓w_LK2, ↓w_LK6, false_and, and_false, i1z, i2z, iz1, im0, im1, l0z, k2, g2]
    refine m_clear (s2.hk (by omega) (by decide)) ⟨rfl, ?_⟩
    have s3 := Ini_C (r := 542) s2 (by omega)
    generalize sRow M2 542 (fun i => if i < 16 then -1 else mI M2 542 i) = M3 at *
    have k3 := s3.hk (a := 495) (e := .inr 12) (by omega) (by decide)
    have g3 : mR M3 495 72 = some 544 := by rw [s3.mr]; rfl
    refine r_X12_init (fun n => n == 777 || n == 784 || n == 791) 60 ?_
    simp only [cd_X12_init, cf_X12_init, wp, wq, wpI, cdF, w_CI, w_CL, w_CN, w_LI, w_LL, w_LA, w_SI, w_SL, w_SA, w_INC, w_II, w_IId, w_LLb, w_LLd, w_LS, w_I1, w_L1, w_I2L, w_L2I, w_CMP, w_DUP, w_POP, w_DUP2, w_IF, w_IC, w_GO, w_NUL, w_ACN, prs, w_GF, w_PF, w_GS, w_IAL, w_LEN, w_LAL, w_ZAL, w_AAL, w_IAS, w_LAS, w_ZAS, w_AAS, w_RI, w_RL, w_RA, w_NEW, w_NA, w_MNA, w_OI, w_THR, w_CV, w_CS, w_CN9, w_CI9, w_MX, w_cont, lget, sto1, sto2, wideV, vo, vo_rv, isR, isR_rv, rv, fget, fput, cats, Value.category, List.headD_cons, List.getD_cons_zero, List.getD_cons_succ, List.drop_succ_cons, List.drop_zero, List.take_succ_cons, List.take_zero, List.reverse_cons, List.reverse_nil, List.nil_append, List.cons_append, List.length_cons, List.length_nil, cond_true, cond_false, and_true, true_and, Nat.zero_add, Nat.add_zero, Nat.reduceAdd, Nat.reduceLT, Nat.reduceLeDiff, Nat.reduceEqDiff, Nat.reduceBEq, Nat.reduceSub, ↓reduceIte, Int32.reduceOfNat, Int64.reduceOfNat, reduceCtorEq, Nat.le_refl, Nat.zero_le, Bool.false_eq_true, beq_self_eq_true, Fin.isValue, Fin.val_zero, Fin.val_one, Fin.reduceFinMk, Fin.val_two, Nat.reduceMod, Bool.or_false, Bool.or_true, Bool.true_or, Bool.false_or, not_true_eq_false, not_false_eq_true, true_or, or_true, implies_true, false_implies, true_implies, Int32.reduceLT, Int32.reduceLE, ↓w_TAB3, ↓w_TAB4, ↓w_TAB5, ↓w_TAB7, ↓w_TAB10, ↓w_LK2, ↓w_LK6, false_and, and_false, i1z, i2z, iz1, im0, im1, l0z, k3, g3]
    refine m_clear (s3.hk (by omega) (by decide)) ⟨rfl, ?_⟩
    have s4 := Ini_C (r := 544) s3 (by omega)
    refine r_X12_init (fun n => n == 777 || n == 784 || n == 791) 60 ?_
    simp only [cd_X12_init, cf_X12_init, wp, wq, wpI, cdF, w_CI, w_CL, w_CN, w_LI, w_LL, w_LA, w_SI, w_SL, w_SA, w_INC, w_II, w_IId, w_LLb, w_LLd, w_LS, w_I1, w_L1, w_I2L, w_L2I, w_CMP, w_DUP, w_POP, w_DUP2, w_IF, w_IC, w_GO, w_NUL, w_ACN, prs, w_GF, w_PF, w_GS, w_IAL, w_LEN, w_LAL, w_ZAL, w_AAL, w_IAS, w_LAS, w_ZAS, w_AAS, w_RI, w_RL, w_RA, w_NEW, w_NA, w_MNA, w_OI, w_THR, w_CV, w_CS, w_CN9, w_CI9, w_MX, w_cont, lget, sto1, sto2, wideV, vo, vo_rv, isR, isR_rv, rv, fget, fput, cats, Value.category, List.headD_cons, List.getD_cons_zero, List.getD_cons_succ, List.drop_succ_cons, List.drop_zero, List.take_succ_cons, List.take_zero, List.reverse_cons, List.reverse_nil, List.nil_append, List.cons_append, List.length_cons, List.length_nil, cond_true, cond_false, and_true, true_and, Nat.zero_add, Nat.add_zero, Nat.reduceAdd, Nat.reduceLT, Nat.reduceLeDiff, Nat.reduceEqDiff, Nat.reduceBEq, Nat.reduceSub, ↓reduceIte, Int32.reduceOfNat, Int64.reduceOfNat, reduceCtorEq, Nat.le_refl, Nat.zero_le, Bool.false_eq_true, beq_self_eq_true, Fin.isValue, Fin.val_zero, Fin.val_one, Fin.reduceFinMk, Fin.val_two, Nat.reduceMod, Bool.or_false, Bool.or_true, Bool.true_or, Bool.false_or, not_true_eq_false, not_false_eq_true, true_or, or_true, implies_true, false_implies, true_implies, Int32.reduceLT, Int32.reduceLE, ↓w_TAB3, ↓w_TAB4, ↓w_TAB5, ↓w_TAB7, ↓w_TAB10, ↓w_LK2, ↓w_LK6, false_and, and_false, i1z, i2z, iz1, im0, im1, l0z]
    exact hQ _ s4
  have e3 : ¬ x < 4 → ¬ 30 < x → b = x := fun q1 q2 => by
    rw [hb]; unfold mm
    rw [i_lt] at q1 q2
    by_cases e : x < 30
    · rw [if_pos e]
      by_cases e2 : 4 < x
      · rw [if_pos e2]
      · rw [if_neg e2]; rw [i_lt] at e2; rw [i_eq]; simp at q1 e2 ⊢; omega
    · rw [if_neg e, if_pos (by decide)]; rw [i_lt] at e; rw [i_eq]; simp at q2 e ⊢; omega
  have e1 : x < 4 → b = 4 := fun q => by
    rw [hb]; unfold mm
    have q' := q
    rw [i_lt] at q'
    have e : x < 30 := by rw [i_lt]; simp at q' ⊢; omega
    have e2 : ¬ 4 < x := by rw [i_lt]; simp at q' ⊢; omega
    rw [if_pos e, if_neg e2]
  have e2 : 30 < x → b = 30 := fun q => by
    rw [hb]; unfold mm
    have q' := q
    rw [i_lt] at q'
    have e : ¬ x < 30 := by rw [i_lt]; simp at q' ⊢; omega
    rw [if_neg e, if_pos (by decide)]
  refine r_X12_init (fun n => n == 767 || n == 777 || n == 784 || n == 791) 60 ?_
  simp only [cd_X12_init, cf_X12_init, wp, wq, wpI, cdF, w_CI, w_CL, w_CN, w_LI, w_LL, w_LA, w_SI, w_SL, w_SA, w_INC, w_II, w_IId, w_LLb, w_LLd, w_LS, w_I1, w_L1, w_I2L, w_L2I, w_CMP, w_DUP, w_POP, w_DUP2, w_IF, w_IC, w_GO, w_NUL, w_ACN, prs, w_GF, w_PF, w_GS, w_IAL, w_LEN, w_LAL, w_ZAL, w_AAL, w_IAS, w_LAS, w_ZAS, w_AAS, w_RI, w_RL, w_RA, w_NEW, w_NA, w_MNA, w_OI, w_THR, w_CV, w_CS, w_CN9, w_CI9, w_MX, w_cont, lget, sto1, sto2, wideV, vo, vo_rv, isR, isR_rv, rv, fget, fput, cats, Value.category, List.headD_cons, List.getD_cons_zero, List.getD_cons_succ, List.drop_succ_cons, List.drop_zero, List.take_succ_cons, List.take_zero, List.reverse_cons, List.reverse_nil, List.nil_append, List.cons_append, List.length_cons, List.length_nil, cond_true, cond_false, and_true, true_and, Nat.zero_add, Nat.add_zero, Nat.reduceAdd, Nat.reduceLT, Nat.reduceLeDiff, Nat.reduceEqDiff, Nat.reduceBEq, Nat.reduceSub, ↓reduceIte, Int32.reduceOfNat, Int64.reduceOfNat, reduceCtorEq, Nat.le_refl, Nat.zero_le, Bool.false_eq_true, beq_self_eq_true, Fin.isValue, Fin.val_zero, Fin.val_one, Fin.reduceFinMk, Fin.val_two, Nat.reduceMod, Bool.or_false, Bool.or_true, Bool.true_or, Bool.false_or, not_true_eq_false, not_false_eq_true, true_or, or_true, implies_true, false_implies, true_implies, Int32.reduceLT, Int32.reduceLE, ↓w_TAB3, ↓w_TAB4, ↓w_TAB5, ↓w_TAB7, ↓w_TAB10, ↓w_LK2, ↓w_LK6, false_and, and_false, i1z, i2z, iz1, im0, im1, l0z]
  refine and_ii (fun q => and_ii (fun q' => ?_) (fun q' => ?_)) (fun q => ?_)
  · rw [e3 (by (simp only [i_lt, i_le, i_eq, l_lt, l_le, l_eq, Int32.toInt_toInt64, Int32.reduceToInt, Int64.reduceToInt, ne_eq, Classical.not_not] at *; omega)) (by (simp only [i_lt, i_le, i_eq, l_lt, l_le, l_eq, Int32.toInt_toInt64, Int32.reduceToInt, Int64.reduceToInt, ne_eq, Classical.not_not] at *; omega))] at hend; exact hend
  · rw [e2 (by (simp only [i_lt, i_le, i_eq, l_lt, l_le, l_eq, Int32.toInt_toInt64, Int32.reduceToInt, Int64.reduceToInt, ne_eq, Classical.not_not] at *; omega))] at hend; exact hend
  · rw [e1 (by (simp only [i_lt, i_le, i_eq, l_lt, l_le, l_eq, Int32.toInt_toInt64, Int32.reduceToInt, Int64.reduceToInt, ne_eq, Classical.not_not] at *; omega))] at hend; exact hend
set_option maxRecDepth 20000 in
theorem i12_10 (hb : b = mm x) (hQ : ∀ M', Ini b 551 (mIE gI) (mR10 gR) M' → Q none M') (h : Ini b 548 (mI9 gI) (mR9 gR) M) : Go G (MT 178) Q X 721 [some (.ref 495), some (.int x)] [] M 52 16805 := by
  have n1 : Ini b 549 _ _ _ := Ini_N (e := .inl (.int, 4)) h (by decide)
  have k1 := n1.hk (a := 495) (e := .inr 12) (by omega) (by decide)
  have s1 := Ini_R (r := some 548) (a := 495) (j := 83) n1 (by omega)
  have n2 : Ini b 550 _ _ _ := Ini_N (e := .inl (.int, 6)) s1 (by decide)
  have k2 := n2.hk (a := 495) (e := .inr 12) (by omega) (by decide)
  have s2 := Ini_R (r := some 549) (a := 495) (j := 84) n2 (by omega)
  have n3 : Ini b 551 _ _ _ := Ini_N (e := .inl (.int, 672)) s2 (by decide)
  have k3 := n3.hk (a := 495) (e := .inr 12) (by omega) (by decide)
  have s3 := Ini_R (r := some 550) (a := 495) (j := 85) n3 (by omega)
  have c4 : (4 : Int32).toNatClampNeg = 4 := rfl
  have c6 : (6 : Int32).toNatClampNeg = 6 := rfl
  have c672 : (672 : Int32).toNatClampNeg = 672 := rfl
  refine r_X12_init (fun n => n == 745 || n == 777 || n == 784 || n == 791) 120 ?_
  simp only [cd_X12_init, cf_X12_init, wp, wq, wpI, cdF, w_CI, w_CL, w_CN, w_LI, w_LL, w_LA, w_SI, w_SL, w_SA, w_INC, w_II, w_IId, w_LLb, w_LLd, w_LS, w_I1, w_L1, w_I2L, w_L2I, w_CMP, w_DUP, w_POP, w_DUP2, w_IF, w_IC, w_GO, w_NUL, w_ACN, prs, w_GF, w_PF, w_GS, w_IAL, w_LEN, w_LAL, w_ZAL, w_AAL, w_IAS, w_LAS, w_ZAS, w_AAS, w_RI, w_RL, w_RA, w_NEW, w_NA, w_MNA, w_OI, w_THR, w_CV, w_CS, w_CN9, w_CI9, w_MX, w_cont, lget, sto1, sto2, wideV, vo, vo_rv, isR, isR_rv, rv, fget, fput, cats, Value.category, List.headD_cons, List.getD_cons_zero, List.getD_cons_succ, List.drop_succ_cons, List.drop_zero, List.take_succ_cons, List.take_zero, List.reverse_cons, List.reverse_nil, List.nil_append, List.cons_append, List.length_cons, List.length_nil, cond_true, cond_false, and_true, true_and, Nat.zero_add, Nat.add_zero, Nat.reduceAdd, Nat.reduceLT, Nat.reduceLeDiff, Nat.reduceEqDiff, Nat.reduceBEq, Nat.reduceSub, ↓reduceIte, Int32.reduceOfNat, Int64.reduceOfNat, reduceCtorEq, Nat.le_refl, Nat.zero_le, Bool.false_eq_true, beq_self_eq_true, Fin.isValue, Fin.val_zero, Fin.val_one, Fin.reduceFinMk, Fin.val_two, Nat.reduceMod, Bool.or_false, Bool.or_true, Bool.true_or, Bool.false_or, not_true_eq_false, not_false_eq_true, true_or, or_true, implies_true, false_implies, true_implies, Int32.reduceLT, Int32.reduceLE, ↓w_TAB3, ↓w_TAB4, ↓w_TAB5, ↓w_TAB7, ↓w_TAB10, ↓w_LK2, ↓w_LK6, false_and, and_false, i1z, i2z, iz1, im0, im1, l0z, ty_i, ty_l, ty_b, h.mz, h.mn, k1, k2, k3, c4, c6, c672, hasK_uR, hasK_uI, mZ_uR, mZ_uN, mN_uR, mN_uN, mZ_uI, mN_uI]
  exact i12_11 hb hQ s3
set_option maxRecDepth 20000 in
theorem i12_9 (hb : b = mm x) (hQ : ∀ M', Ini b 551 (mIE gI) (mR10 gR) M' → Q none M') (h : Ini b 540 (mI8 gI) (mR8 gR) M) : Go G (MT 178) Q X 652 [some (.ref 495), some (.int x)] [] M 44 14693 := by
  have n1 : Ini b 541 _ _ _ := Ini_N (e := .inl (.int, 16)) h (by decide)
  have k1 := n1.hk (a := 495) (e := .inr 12) (by omega) (by decide)
  have s1 := Ini_R (r := some 540) (a := 495) (j := 66) n1 (by omega)
  have n2 : Ini b 542 _ _ _ := Ini_N (e := .inl (.int, 672)) s1 (by decide)
  have k2 := n2.hk (a := 495) (e := .inr 12) (by omega) (by decide)
  have s2 := Ini_R (r := some 541) (a := 495) (j := 68) n2 (by omega)
  have n3 : Ini b 543 _ _ _ := Ini_N (e := .inl (.int, 16)) s2 (by decide)
  have k3 := n3.hk (a := 495) (e := .inr 12) (by omega) (by decide)
  have s3 := Ini_R (r := some 542) (a := 495) (j := 69) n3 (by omega)
  have n4 : Ini b 544 _ _ _ := Ini_N (e := .inl (.int, 672)) s3 (by decide)
  have k4 := n4.hk (a := 495) (e := .inr 12) (by omega) (by decide)
  have s4 := Ini_R (r := some 543) (a := 495) (j := 71) n4 (by omega)
  have n5 : Ini b 545 _ _ _ := Ini_N (e := .inl (.int, 16)) s4 (by decide)
  have k5 := n5.hk (a := 495) (e := .inr 12) (by omega) (by decide)
  have s5 := Ini_R (r := some 544) (a := 495) (j := 72) n5 (by omega)
  have n6 : Ini b 546 _ _ _ := Ini_N (e := .inl (.int, 400)) s5 (by decide)
  have k6 := n6.hk (a := 495) (e := .inr 12) (by omega) (by decide)
  have s6 := Ini_R (r := some 545) (a := 495) (j := 73) n6 (by omega)
  have n7 : Ini b 547 _ _ _ := Ini_N (e := .inl (.int, 160)) s6 (by decide)
  have k7 := n7.hk (a := 495) (e := .inr 12) (by omega) (by decide)
  have s7 := Ini_R (r := some 546) (a := 495) (j := 75) n7 (by omega)
  have n8 : Ini b 548 _ _ _ := Ini_N (e := .inl (.int, 160)) s7 (by decide)
  have k8 := n8.hk (a := 495) (e := .inr 12) (by omega) (by decide)
  have s8 := Ini_R (r := some 547) (a := 495) (j := 77) n8 (by omega)
  have c16 : (16 : Int32).toNatClampNeg = 16 := rfl
  have c160 : (160 : Int32).toNatClampNeg = 160 := rfl
  have c400 : (400 : Int32).toNatClampNeg = 400 := rfl
  have c672 : (672 : Int32).toNatClampNeg = 672 := rfl
  refine r_X12_init (fun n => n == 721 || n == 777 || n == 784 || n == 791) 120 ?_
  simp only [cd_X12_init, cf_X12_init, wp, wq, wpI, cdF, w_CI, w_CL, w_CN, w_LI, w_LL, w_LA, w_SI, w_SL, w_SA, w_INC, w_II, w_IId, w_LLb, w_LLd, w_LS, w_I1, w_L1, w_I2L, w_L2I, w_CMP, w_DUP, w_POP, w_DUP2, w_IF, w_IC, w_GO, w_NUL, w_ACN, prs, w_GF, w_PF, w_GS, w_IAL, w_LEN, w_LAL, w_ZAL, w_AAL, w_IAS, w_LAS, w_ZAS, w_AAS, w_RI, w_RL, w_RA, w_NEW, w_NA, w_MNA, w_OI, w_THR, w_CV, w_CS, w_CN9, w_CI9, w_MX, w_cont, lget, sto1, sto2, wideV, vo, vo_rv, isR, isR_rv, rv, fget, fput, cats, Value.category, List.headD_cons, List.getD_cons_zero, List.getD_cons_succ, List.drop_succ_cons, List.drop_zero, List.take_succ_cons, List.take_zero, List.reverse_cons, List.reverse_nil, List.nil_append, List.cons_append, List.length_cons, List.length_nil, cond_true, cond_false, and_true, true_and, Nat.zero_add, Nat.add_zero, Nat.reduceAdd, Nat.reduceLT, Nat.reduceLeDiff, Nat.reduceEqDiff, Nat.reduceBEq, Nat.reduceSub, ↓reduceIte, Int32.reduceOfNat, Int64.reduceOfNat, reduceCtorEq, Nat.le_refl, Nat.zero_le, Bool.false_eq_true, beq_self_eq_true, Fin.isValue, Fin.val_zero, Fin.val_one, Fin.reduceFinMk, Fin.val_two, Nat.reduceMod, Bool.or_false, Bool.or_true, Bool.true_or, Bool.false_or, not_true_eq_false, not_false_eq_true, true_or, or_true, implies_true, false_implies, true_implies, Int32.reduceLT, Int32.reduceLE, ↓w_TAB3, ↓w_TAB4, ↓w_TAB5, ↓w_TAB7, ↓w_TAB10, ↓w_LK2, ↓w_LK6, false_and, and_false, i1z, i2z, iz1, im0, im1, l0z, ty_i, ty_l, ty_b, h.mz, h.mn, k1, k2, k3, k4, k5, k6, k7, k8, c16, c160, c400, c672, hasK_uR, hasK_uI, mZ_uR, mZ_uN, mN_uR, mN_uN, mZ_uI, mN_uI]
  exact i12_10 hb hQ s8
set_option maxRecDepth 20000 in
theorem i12_8 (hb : b = mm x) (hQ : ∀ M', Ini b 551 (mIE gI) (mR10 gR) M' → Q none M') (h : Ini b 533 (mI7 gI) (mR7 gR) M) : Go G (MT 178) Q X 586 [some (.ref 495), some (.int x)] [] M 37 5921 := by
  have n1 : Ini b 534 _ _ _ := Ini_N (e := .inl (.int, 25)) h (by decide)
  have k1 := n1.hk (a := 495) (e := .inr 12) (by omega) (by decide)
  have s1 := Ini_R (r := some 533) (a := 495) (j := 58) n1 (by omega)
  have n2 : Ini b 535 _ _ _ := Ini_N (e := .inl (.int, 25)) s1 (by decide)
  have k2 := n2.hk (a := 495) (e := .inr 12) (by omega) (by decide)
  have s2 := Ini_R (r := some 534) (a := 495) (j := 59) n2 (by omega)
  have n3 : Ini b 536 _ _ _ := Ini_N (e := .inl (.int, 4000)) s2 (by decide)
  have k3 := n3.hk (a := 495) (e := .inr 12) (by omega) (by decide)
  have s3 := Ini_R (r := some 535) (a := 495) (j := 60) n3 (by omega)
  have n4 : Ini b 537 _ _ _ := Ini_N (e := .inl (.int, 25)) s3 (by decide)
  have k4 := n4.hk (a := 495) (e := .inr 12) (by omega) (by decide)
  have s4 := Ini_R (r := some 536) (a := 495) (j := 61) n4 (by omega)
  have n5 : Ini b 538 _ _ _ := Ini_N (e := .inl (.int, 4000)) s4 (by decide)
  have k5 := n5.hk (a := 495) (e := .inr 12) (by omega) (by decide)
  have s5 := Ini_R (r := some 537) (a := 495) (j := 62) n5 (by omega)
  have n6 : Ini b 539 _ _ _ := Ini_N (e := .inl (.int, 25)) s5 (by decide)
  have k6 := n6.hk (a := 495) (e := .inr 12) (by omega) (by decide)
  have s6 := Ini_R (r := some 538) (a := 495) (j := 63) n6 (by omega)
  have k7 := s6.hk (a := 495) (e := .inr 12) (by omega) (by decide)
  have s7 := Ini_I (a := 495) (j := 64) (v := 800) (u := 800) s6 (by omega) rfl
  have n8 : Ini b 540 _ _ _ := Ini_N (e := .inl (.int, 672)) s7 (by decide)
  have k8 := n8.hk (a := 495) (e := .inr 12) (by omega) (by decide)
  have s8 := Ini_R (r := some 539) (a := 495) (j := 65) n8 (by omega)
  have c25 : (25 : Int32).toNatClampNeg = 25 := rfl
  have c672 : (672 : Int32).toNatClampNeg = 672 := rfl
  have c4000 : (4000 : Int32).toNatClampNeg = 4000 := rfl
  refine r_X12_init (fun n => n == 652 || n == 777 || n == 784 || n == 791) 120 ?_
  simp only [cd_X12_init, cf_X12_init, wp, wq, wpI, cdF, w_CI, w_CL, w_CN, w_LI, w_LL, w_LA, w_SI, w_SL, w_SA, w_INC, w_II, w_IId, w_LLb, w_LLd, w_LS, w_I1, w_L1, w_I2L, w_L2I, w_CMP, w_DUP, w_POP, w_DUP2, w_IF, w_IC, w_GO, w_NUL, w_ACN, prs, w_GF, w_PF, w_GS, w_IAL, w_LEN, w_LAL, w_ZAL, w_AAL, w_IAS, w_LAS, w_ZAS, w_AAS, w_RI, w_RL, w_RA, w_NEW, w_NA, w_MNA, w_OI, w_THR, w_CV, w_CS, w_CN9, w_CI9, w_MX, w_cont, lget, sto1, sto2, wideV, vo, vo_rv, isR, isR_rv, rv, fget, fput, cats, Value.category, List.headD_cons, List.getD_cons_zero, List.getD_cons_succ, List.drop_succ_cons, List.drop_zero, List.take_succ_cons, List.take_zero, List.reverse_cons, List.reverse_nil, List.nil_append, List.cons_append, List.length_cons, List.length_nil, cond_true, cond_false, and_true, true_and, Nat.zero_add, Nat.add_zero, Nat.reduceAdd, Nat.reduceLT, Nat.reduceLeDiff, Nat.reduceEqDiff, Nat.reduceBEq, Nat.reduceSub, ↓reduceIte, Int32.reduceOfNat, Int64.reduceOfNat, reduceCtorEq, Nat.le_refl, Nat.zero_le, Bool.false_eq_true, beq_self_eq_true, Fin.isValue, Fin.val_zero, Fin.val_one, Fin.reduceFinMk, Fin.val_two, Nat.reduceMod, Bool.or_false, Bool.or_true, Bool.true_or, Bool.false_or, not_true_eq_false, not_false_eq_true, true_or, or_true, implies_true, false_implies, true_implies, Int32.reduceLT, Int32.reduceLE, ↓w_TAB3, ↓w_TAB4, ↓w_TAB5, ↓w_TAB7, ↓w_TAB10, ↓w_LK2, ↓w_LK6, false_and, and_false, i1z, i2z, iz1, im0, im1, l0z, ty_i, ty_l, ty_b, h.mz, h.mn, k1, k2, k3, k4, k5, k6, k7, k8, c25, c672, c4000, hasK_uR, hasK_uI, mZ_uR, mZ_uN, mN_uR, mN_uN, mZ_uI, mN_uI]
  exact i12_9 hb hQ s8
set_option maxRecDepth 20000 in
theorem i12_7 (hb : b = mm x) (hQ : ∀ M', Ini b 551 (mIE gI) (mR10 gR) M' → Q none M') (h : Ini b 525 (mI6 gI) (mR6 gR) M) : Go G (MT 178) Q X 522 [some (.ref 495), some (.int x)] [] M 29 5505 := by
  have n1 : Ini b 526 _ _ _ := Ini_N (e := .inl (.long, 61)) h (by decide)
  have k1 := n1.hk (a := 495) (e := .inr 12) (by omega) (by decide)
  have s1 := Ini_R (r := some 525) (a := 495) (j := 49) n1 (by omega)
  have n2 : Ini b 527 _ _ _ := Ini_N (e := .inl (.int, 61)) s1 (by decide)
  have k2 := n2.hk (a := 495) (e := .inr 12) (by omega) (by decide)
  have s2 := Ini_R (r := some 526) (a := 495) (j := 50) n2 (by omega)
  have n3 : Ini b 528 _ _ _ := Ini_N (e := .inl (.int, 61)) s2 (by decide)
  have k3 := n3.hk (a := 495) (e := .inr 12) (by omega) (by decide)
  have s3 := Ini_R (r := some 527) (a := 495) (j := 51) n3 (by omega)
  have n4 : Ini b 529 _ _ _ := Ini_N (e := .inl (.int, 61)) s3 (by decide)
  have k4 := n4.hk (a := 495) (e := .inr 12) (by omega) (by decide)
  have s4 := Ini_R (r := some 528) (a := 495) (j := 52) n4 (by omega)
  have n5 : Ini b 530 _ _ _ := Ini_N (e := .inl (.long, 61)) s4 (by decide)
  have k5 := n5.hk (a := 495) (e := .inr 12) (by omega) (by decide)
  have s5 := Ini_R (r := some 529) (a := 495) (j := 53) n5 (by omega)
  have n6 : Ini b 531 _ _ _ := Ini_N (e := .inl (.int, 61)) s5 (by decide)
  have k6 := n6.hk (a := 495) (e := .inr 12) (by omega) (by decide)
  have s6 := Ini_R (r := some 530) (a := 495) (j := 54) n6 (by omega)
  have n7 : Ini b 532 _ _ _ := Ini_N (e := .inl (.int, 25)) s6 (by decide)
  have k7 := n7.hk (a := 495) (e := .inr 12) (by omega) (by decide)
  have s7 := Ini_R (r := some 531) (a := 495) (j := 56) n7 (by omega)
  have n8 : Ini b 533 _ _ _ := Ini_N (e := .inl (.int, 25)) s7 (by decide)
  have k8 := n8.hk (a := 495) (e := .inr 12) (by omega) (by decide)
  have s8 := Ini_R (r := some 532) (a := 495) (j := 57) n8 (by omega)
  have c25 : (25 : Int32).toNatClampNeg = 25 := rfl
  have c61 : (61 : Int32).toNatClampNeg = 61 := rfl
  refine r_X12_init (fun n => n == 586 || n == 777 || n == 784 || n == 791) 120 ?_
  simp only [cd_X12_init, cf_X12_init, wp, wq, wpI, cdF, w_CI, w_CL, w_CN, w_LI, w_LL, w_LA, w_SI, w_SL, w_SA, w_INC, w_II, w_IId, w_LLb, w_LLd, w_LS, w_I1, w_L1, w_I2L, w_L2I, w_CMP, w_DUP, w_POP, w_DUP2, w_IF, w_IC, w_GO, w_NUL, w_ACN, prs, w_GF, w_PF, w_GS, w_IAL, w_LEN, w_LAL, w_ZAL, w_AAL, w_IAS, w_LAS, w_ZAS, w_AAS, w_RI, w_RL, w_RA, w_NEW, w_NA, w_MNA, w_OI, w_THR, w_CV, w_CS, w_CN9, w_CI9, w_MX, w_cont, lget, sto1, sto2, wideV, vo, vo_rv, isR, isR_rv, rv, fget, fput, cats, Value.category, List.headD_cons, List.getD_cons_zero, List.getD_cons_succ, List.drop_succ_cons, List.drop_zero, List.take_succ_cons, List.take_zero, List.reverse_cons, List.reverse_nil, List.nil_append, List.cons_append, List.length_cons, List.length_nil, cond_true, cond_false, and_true, true_and, Nat.zero_add, Nat.add_zero, Nat.reduceAdd, Nat.reduceLT, Nat.reduceLeDiff, Nat.reduceEqDiff, Nat.reduceBEq, Nat.reduceSub, ↓reduceIte, Int32.reduceOfNat, Int64.reduceOfNat, reduceCtorEq, Nat.le_refl, Nat.zero_le, Bool.false_eq_true, beq_self_eq_true, Fin.isValue, Fin.val_zero, Fin.val_one, Fin.reduceFinMk, Fin.val_two, Nat.reduceMod, Bool.or_false, Bool.or_true, Bool.true_or, Bool.false_or, not_true_eq_false, not_false_eq_true, true_or, or_true, implies_true, false_implies, true_implies, Int32.reduceLT, Int32.reduceLE, ↓w_TAB3, ↓w_TAB4, ↓w_TAB5, ↓w_TAB7, ↓w_TAB10, ↓w_LK2, ↓w_LK6, false_and, and_false, i1z, i2z, iz1, im0, im1, l0z, ty_i, ty_l, ty_b, h.mz, h.mn, k1, k2, k3, k4, k5, k6, k7, k8, c25, c61, hasK_uR, hasK_uI, mZ_uR, mZ_uN, mN_uR, mN_uN, mZ_uI, mN_uI]
  exact i12_8 hb hQ s8
set_option maxRecDepth 20000 in
theorem i12_6 (hb : b = mm x) (hQ : ∀ M', Ini b 551 (mIE gI) (mR10 gR) M' → Q none M') (h : Ini b 517 (mI5 gI) (mR5 gR) M) : Go G (MT 178) Q X 456 [some (.ref 495), some (.int x)] [] M 21 3248 := by
  have n1 : Ini b 518 _ _ _ := Ini_N (e := .inl (.int, 61)) h (by decide)
  have k1 := n1.hk (a := 495) (e := .inr 12) (by omega) (by decide)
  have s1 := Ini_R (r := some 517) (a := 495) (j := 41) n1 (by omega)
  have n2 : Ini b 519 _ _ _ := Ini_N (e := .inl (.int, 732)) s1 (by decide)
  have k2 := n2.hk (a := 495) (e := .inr 12) (by omega) (by decide)
  have s2 := Ini_R (r := some 518) (a := 495) (j := 42) n2 (by omega)
  have n3 : Ini b 520 _ _ _ := Ini_N (e := .inl (.int, 1159)) s2 (by decide)
  have k3 := n3.hk (a := 495) (e := .inr 12) (by omega) (by decide)
  have s3 := Ini_R (r := some 519) (a := 495) (j := 43) n3 (by omega)
  have n4 : Ini b 521 _ _ _ := Ini_N (e := .inl (.int, 61)) s3 (by decide)
  have k4 := n4.hk (a := 495) (e := .inr 12) (by omega) (by decide)
  have s4 := Ini_R (r := some 520) (a := 495) (j := 44) n4 (by omega)
  have n5 : Ini b 522 _ _ _ := Ini_N (e := .inl (.int, 61)) s4 (by decide)
  have k5 := n5.hk (a := 495) (e := .inr 12) (by omega) (by decide)
  have s5 := Ini_R (r := some 521) (a := 495) (j := 45) n5 (by omega)
  have n6 : Ini b 523 _ _ _ := Ini_N (e := .inl (.int, 61)) s5 (by decide)
  have k6 := n6.hk (a := 495) (e := .inr 12) (by omega) (by decide)
  have s6 := Ini_R (r := some 522) (a := 495) (j := 46) n6 (by omega)
  have n7 : Ini b 524 _ _ _ := Ini_N (e := .inl (.int, 61)) s6 (by decide)
  have k7 := n7.hk (a := 495) (e := .inr 12) (by omega) (by decide)
  have s7 := Ini_R (r := some 523) (a := 495) (j := 47) n7 (by omega)
  have n8 : Ini b 525 _ _ _ := Ini_N (e := .inl (.long, 61)) s7 (by decide)
  have k8 := n8.hk (a := 495) (e := .inr 12) (by omega) (by decide)
  have s8 := Ini_R (r := some 524) (a := 495) (j := 48) n8 (by omega)
  have c61 : (61 : Int32).toNatClampNeg = 61 := rfl
  have c732 : (732 : Int32).toNatClampNeg = 732 := rfl
  have c1159 : (1159 : Int32).toNatClampNeg = 1159 := rfl
  refine r_X12_init (fun n => n == 522 || n == 777 || n == 784 || n == 791) 120 ?_
  simp only [cd_X12_init, cf_X12_init, wp, wq, wpI, cdF, w_CI, w_CL, w_CN, w_LI, w_LL, w_LA, w_SI, w_SL, w_SA, w_INC, w_II, w_IId, w_LLb, w_LLd, w_LS, w_I1, w_L1, w_I2L, w_L2I, w_CMP, w_DUP, w_POP, w_DUP2, w_IF, w_IC, w_GO, w_NUL, w_ACN, prs, w_GF, w_PF, w_GS, w_IAL, w_LEN, w_LAL, w_ZAL, w_AAL, w_IAS, w_LAS, w_ZAS, w_AAS, w_RI, w_RL, w_RA, w_NEW, w_NA, w_MNA, w_OI, w_THR, w_CV, w_CS, w_CN9, w_CI9, w_MX, w_cont, lget, sto1, sto2, wideV, vo, vo_rv, isR, isR_rv, rv, fget, fput, cats, Value.category, List.headD_cons, List.getD_cons_zero, List.getD_cons_succ, List.drop_succ_cons, List.drop_zero, List.take_succ_cons, List.take_zero, List.reverse_cons, List.reverse_nil, List.nil_append, List.cons_append, List.length_cons, List.length_nil, cond_true, cond_false, and_true, true_and, Nat.zero_add, Nat.add_zero, Nat.reduceAdd, Nat.reduceLT, Nat.reduceLeDiff, Nat.reduceEqDiff, Nat.reduceBEq, Nat.reduceSub, ↓reduceIte, Int32.reduceOfNat, Int64.reduceOfNat, reduceCtorEq, Nat.le_refl, Nat.zero_le, Bool.false_eq_true, beq_self_eq_true, Fin.isValue, Fin.val_zero, Fin.val_one, Fin.reduceFinMk, Fin.val_two, Nat.reduceMod, Bool.or_false, Bool.or_true, Bool.true_or, Bool.false_or, not_true_eq_false, not_false_eq_true, true_or, or_true, implies_true, false_implies, true_implies, Int32.reduceLT, Int32.reduceLE, ↓w_TAB3, ↓w_TAB4, ↓w_TAB5, ↓w_TAB7, ↓w_TAB10, ↓w_LK2, ↓w_LK6, false_and, and_false, i1z, i2z, iz1, im0, im1, l0z, ty_i, ty_l, ty_b, h.mz, h.mn, k1, k2, k3, k4, k5, k6, k7, k8, c61, c732, c1159, hasK_uR, hasK_uI, mZ_uR, mZ_uN, mN_uR, mN_uN, mZ_uI, mN_uI]
  exact i12_7 hb hQ s8
set_option maxRecDepth 20000 in
theorem i12_5 (hb : b = mm x) (hQ : ∀ M', Ini b 551 (mIE gI) (mR10 gR) M' → Q none M') (h : Ini b 509 (mI4 gI) (mR4 gR) M) : Go G (MT 178) Q X 390 [some (.ref 495), some (.int x)] [] M 13 347 := by
  have n1 : Ini b 510 _ _ _ := Ini_N (e := .inl (.long, 64)) h (by decide)
  have k1 := n1.hk (a := 495) (e := .inr 12) (by omega) (by decide)
  have s1 := Ini_R (r := some 509) (a := 495) (j := 31) n1 (by omega)
  have n2 : Ini b 511 _ _ _ := Ini_N (e := .inl (.int, 64)) s1 (by decide)
  have k2 := n2.hk (a := 495) (e := .inr 12) (by omega) (by decide)
  have s2 := Ini_R (r := some 510) (a := 495) (j := 32) n2 (by omega)
  have n3 : Ini b 512 _ _ _ := Ini_N (e := .inl (.int, 512)) s2 (by decide)
  have k3 := n3.hk (a := 495) (e := .inr 12) (by omega) (by decide)
  have s3 := Ini_R (r := some 511) (a := 495) (j := 33) n3 (by omega)
  have n4 : Ini b 513 _ _ _ := Ini_N (e := .inl (.int, 1900)) s3 (by decide)
  have k4 := n4.hk (a := 495) (e := .inr 12) (by omega) (by decide)
  have s4 := Ini_R (r := some 512) (a := 495) (j := 35) n4 (by omega)
  have n5 : Ini b 514 _ _ _ := Ini_N (e := .inl (.int, 100)) s4 (by decide)
  have k5 := n5.hk (a := 495) (e := .inr 12) (by omega) (by decide)
  have s5 := Ini_R (r := some 513) (a := 495) (j := 36) n5 (by omega)
  have n6 : Ini b 515 _ _ _ := Ini_N (e := .inl (.int, 100)) s5 (by decide)
  have k6 := n6.hk (a := 495) (e := .inr 12) (by omega) (by decide)
  have s6 := Ini_R (r := some 514) (a := 495) (j := 37) n6 (by omega)
  have n7 : Ini b 516 _ _ _ := Ini_N (e := .inl (.boolean, 100)) s6 (by decide)
  have k7 := n7.hk (a := 495) (e := .inr 12) (by omega) (by decide)
  have s7 := Ini_R (r := some 515) (a := 495) (j := 38) n7 (by omega)
  have n8 : Ini b 517 _ _ _ := Ini_N (e := .inl (.int, 61)) s7 (by decide)
  have k8 := n8.hk (a := 495) (e := .inr 12) (by omega) (by decide)
  have s8 := Ini_R (r := some 516) (a := 495) (j := 40) n8 (by omega)
  have c61 : (61 : Int32).toNatClampNeg = 61 := rfl
  have c64 : (64 : Int32).toNatClampNeg = 64 := rfl
  have c100 : (100 : Int32).toNatClampNeg = 100 := rfl
  have c512 : (512 : Int32).toNatClampNeg = 512 := rfl
  have c1900 : (1900 : Int32).toNatClampNeg = 1900 := rfl
  refine r_X12_init (fun n => n == 456 || n == 777 || n == 784 || n == 791) 120 ?_
  simp only [cd_X12_init, cf_X12_init, wp, wq, wpI, cdF, w_CI, w_CL, w_CN, w_LI, w_LL, w_LA, w_SI, w_SL, w_SA, w_INC, w_II, w_IId, w_LLb, w_LLd, w_LS, w_I1, w_L1, w_I2L, w_L2I, w_CMP, w_DUP, w_POP, w_DUP2, w_IF, w_IC, w_GO, w_NUL, w_ACN, prs, w_GF, w_PF, w_GS, w_IAL, w_LEN, w_LAL, w_ZAL, w_AAL, w_IAS, w_LAS, w_ZAS, w_AAS, w_RI, w_RL, w_RA, w_NEW, w_NA, w_MNA, w_OI, w_THR, w_CV, w_CS, w_CN9, w_CI9, w_MX, w_cont, lget, sto1, sto2, wideV, vo, vo_rv, isR, isR_rv, rv, fget, fput, cats, Value.category, List.headD_cons, List.getD_cons_zero, List.getD_cons_succ, List.drop_succ_cons, List.drop_zero, List.take_succ_cons, List.take_zero, List.reverse_cons, List.reverse_nil, List.nil_append, List.cons_append, List.length_cons, List.length_nil, cond_true, cond_false, and_true, true_and, Nat.zero_add, Nat.add_zero, Nat.reduceAdd, Nat.reduceLT, Nat.reduceLeDiff, Nat.reduceEqDiff, Nat.reduceBEq, Nat.reduceSub, ↓reduceIte, Int32.reduceOfNat, Int64.reduceOfNat, reduceCtorEq, Nat.le_refl, Nat.zero_le, Bool.false_eq_true, beq_self_eq_true, Fin.isValue, Fin.val_zero, Fin.val_one, Fin.reduceFinMk, Fin.val_two, Nat.reduceMod, Bool.or_false, Bool.or_true, Bool.true_or, Bool.false_or, not_true_eq_false, not_false_eq_true, true_or, or_true, implies_true, false_implies, true_implies, Int32.reduceLT, Int32.reduceLE, ↓w_TAB3, ↓w_TAB4, ↓w_TAB5, ↓w_TAB7, ↓w_TAB10, ↓w_LK2, ↓w_LK6, false_and, and_false, i1z, i2z, iz1, im0, im1, l0z, ty_i, ty_l, ty_b, h.mz, h.mn, k1, k2, k3, k4, k5, k6, k7, k8, c61, c64, c100, c512, c1900, hasK_uR, hasK_uI, mZ_uR, mZ_uN, mN_uR, mN_uN, mZ_uI, mN_uI]
  exact i12_6 hb hQ s8
set_option maxRecDepth 20000 in
theorem i12_4 (hb : b = mm x) (hQ : ∀ M', Ini b 551 (mIE gI) (mR10 gR) M' → Q none M') (h : Ini b 501 (mI3 gI) (mR3 gR) M) : Go G (MT 178) Q X 326 [some (.ref 495), some (.int x)] [] M 5 74 := by
  have n1 : Ini b 502 _ _ _ := Ini_N (e := .inl (.long, 13)) h (by decide)
  have k1 := n1.hk (a := 495) (e := .inr 12) (by omega) (by decide)
  have s1 := Ini_R (r := some 501) (a := 495) (j := 21) n1 (by omega)
  have n2 : Ini b 503 _ _ _ := Ini_N (e := .inl (.int, 6)) s1 (by decide)
  have k2 := n2.hk (a := 495) (e := .inr 12) (by omega) (by decide)
  have s2 := Ini_R (r := some 502) (a := 495) (j := 22) n2 (by omega)
  have n3 : Ini b 504 _ _ _ := Ini_N (e := .inl (.long, 6)) s2 (by decide)
  have k3 := n3.hk (a := 495) (e := .inr 12) (by omega) (by decide)
  have s3 := Ini_R (r := some 503) (a := 495) (j := 23) n3 (by omega)
  have n4 : Ini b 505 _ _ _ := Ini_N (e := .inl (.int, 40)) s3 (by decide)
  have k4 := n4.hk (a := 495) (e := .inr 12) (by omega) (by decide)
  have s4 := Ini_R (r := some 504) (a := 495) (j := 25) n4 (by omega)
  have n5 : Ini b 506 _ _ _ := Ini_N (e := .inl (.int, 40)) s4 (by decide)
  have k5 := n5.hk (a := 495) (e := .inr 12) (by omega) (by decide)
  have s5 := Ini_R (r := some 505) (a := 495) (j := 26) n5 (by omega)
  have n6 : Ini b 507 _ _ _ := Ini_N (e := .inl (.int, 40)) s5 (by decide)
  have k6 := n6.hk (a := 495) (e := .inr 12) (by omega) (by decide)
  have s6 := Ini_R (r := some 506) (a := 495) (j := 27) n6 (by omega)
  have n7 : Ini b 508 _ _ _ := Ini_N (e := .inl (.int, 64)) s6 (by decide)
  have k7 := n7.hk (a := 495) (e := .inr 12) (by omega) (by decide)
  have s7 := Ini_R (r := some 507) (a := 495) (j := 29) n7 (by omega)
  have n8 : Ini b 509 _ _ _ := Ini_N (e := .inl (.long, 64)) s7 (by decide)
  have k8 := n8.hk (a := 495) (e := .inr 12) (by omega) (by decide)
  have s8 := Ini_R (r := some 508) (a := 495) (j := 30) n8 (by omega)
  have c6 : (6 : Int32).toNatClampNeg = 6 := rfl
  have c13 : (13 : Int32).toNatClampNeg = 13 := rfl
  have c40 : (40 : Int32).toNatClampNeg = 40 := rfl
  have c64 : (64 : Int32).toNatClampNeg = 64 := rfl
  refine r_X12_init (fun n => n == 390 || n == 777 || n == 784 || n == 791) 120 ?_
  simp only [cd_X12_init, cf_X12_init, wp, wq, wpI, cdF, w_CI, w_CL, w_CN, w_LI, w_LL, w_LA, w_SI, w_SL, w_SA, w_INC, w_II, w_IId, w_LLb, w_LLd, w_LS, w_I1, w_L1, w_I2L, w_L2I, w_CMP, w_DUP, w_POP, w_DUP2, w_IF, w_IC, w_GO, w_NUL, w_ACN, prs, w_GF, w_PF, w_GS, w_IAL, w_LEN, w_LAL, w_ZAL, w_AAL, w_IAS, w_LAS, w_ZAS, w_AAS, w_RI, w_RL, w_RA, w_NEW, w_NA, w_MNA, w_OI, w_THR, w_CV, w_CS, w_CN9, w_CI9, w_MX, w_cont, lget, sto1, sto2, wideV, vo, vo_rv, isR, isR_rv, rv, fget, fput, cats, Value.category, List.headD_cons, List.getD_cons_zero, List.getD_cons_succ, List.drop_succ_cons, List.drop_zero, List.take_succ_cons, List.take_zero, List.reverse_cons, List.reverse_nil, List.nil_append, List.cons_append, List.length_cons, List.length_nil, cond_true, cond_false, and_true, true_and, Nat.zero_add, Nat.add_zero, Nat.reduceAdd, Nat.reduceLT, Nat.reduceLeDiff, Nat.reduceEqDiff, Nat.reduceBEq, Nat.reduceSub, ↓reduceIte, Int32.reduceOfNat, Int64.reduceOfNat, reduceCtorEq, Nat.le_refl, Nat.zero_le, Bool.false_eq_true, beq_self_eq_true, Fin.isValue, Fin.val_zero, Fin.val_one, Fin.reduceFinMk, Fin.val_two, Nat.reduceMod, Bool.or_false, Bool.or_true, Bool.true_or, Bool.false_or, not_true_eq_false, not_false_eq_true, true_or, or_true, implies_true, false_implies, true_implies, Int32.reduceLT, Int32.reduceLE, ↓w_TAB3, ↓w_TAB4, ↓w_TAB5, ↓w_TAB7, ↓w_TAB10, ↓w_LK2, ↓w_LK6, false_and, and_false, i1z, i2z, iz1, im0, im1, l0z, ty_i, ty_l, ty_b, h.mz, h.mn, k1, k2, k3, k4, k5, k6, k7, k8, c6, c13, c40, c64, hasK_uR, hasK_uI, mZ_uR, mZ_uN, mN_uR, mN_uN, mZ_uI, mN_uI]
  exact i12_5 hb hQ s8
set_option maxRecDepth 20000 in
theorem i12_3 (hb : b = mm x) (hQ : ∀ M', Ini b 551 (mIE gI) (mR10 gR) M' → Q none M') (h : Ini b 499 (mI2 gI) (mR2 gR) M) : Go G (MT 178) Q X 276 [some (.ref 495), some (.int x)] [] M 3 48 := by
  have k1 := h.hk (a := 495) (e := .inr 12) (by omega) (by decide)
  have s1 := Ini_I (a := 495) (j := 7) (v := (-1)) (u := (-1)) h (by omega) rfl
  have k2 := s1.hk (a := 495) (e := .inr 12) (by omega) (by decide)
  have s2 := Ini_I (a := 495) (j := 12) (v := 1) (u := 1) s1 (by omega) rfl
  have k3 := s2.hk (a := 495) (e := .inr 12) (by omega) (by decide)
  have s3 := Ini_I (a := 495) (j := 13) (v := 100) (u := 100) s2 (by omega) rfl
  have k4 := s3.hk (a := 495) (e := .inr 12) (by omega) (by decide)
  have s4 := Ini_I (a := 495) (j := 14) (v := 50) (u := 50) s3 (by omega) rfl
  have k5 := s4.hk (a := 495) (e := .inr 12) (by omega) (by decide)
  have s5 := Ini_I (a := 495) (j := 15) (v := 200) (u := 200) s4 (by omega) rfl
  have k6 := s5.hk (a := 495) (e := .inr 12) (by omega) (by decide)
  have s6 := Ini_I (a := 495) (j := 16) (v := 5) (u := 5) s5 (by omega) rfl
  have n7 : Ini b 500 _ _ _ := Ini_N (e := .inl (.int, 13)) s6 (by decide)
  have k7 := n7.hk (a := 495) (e := .inr 12) (by omega) (by decide)
  have s7 := Ini_R (r := some 499) (a := 495) (j := 19) n7 (by omega)
  have n8 : Ini b 501 _ _ _ := Ini_N (e := .inl (.long, 13)) s7 (by decide)
  have k8 := n8.hk (a := 495) (e := .inr 12) (by omega) (by decide)
  have s8 := Ini_R (r := some 500) (a := 495) (j := 20) n8 (by omega)
  have c13 : (13 : Int32).toNatClampNeg = 13 := rfl
  refine r_X12_init (fun n => n == 326 || n == 777 || n == 784 || n == 791) 120 ?_
  simp only [cd_X12_init, cf_X12_init, wp, wq, wpI, cdF, w_CI, w_CL, w_CN, w_LI, w_LL, w_LA, w_SI, w_SL, w_SA, w_INC, w_II, w_IId, w_LLb, w_LLd, w_LS, w_I1, w_L1, w_I2L, w_L2I, w_CMP, w_DUP, w_POP, w_DUP2, w_IF, w_IC, w_GO, w_NUL, w_ACN, prs, w_GF, w_PF, w_GS, w_IAL, w_LEN, w_LAL, w_ZAL, w_AAL, w_IAS, w_LAS, w_ZAS, w_AAS, w_RI, w_RL, w_RA, w_NEW, w_NA, w_MNA, w_OI, w_THR, w_CV, w_CS, w_CN9, w_CI9, w_MX, w_cont, lget, sto1, sto2, wideV, vo, vo_rv, isR, isR_rv, rv, fget, fput, cats, Value.category, List.headD_cons, List.getD_cons_zero, List.getD_cons_succ, List.drop_succ_cons, List.drop_zero, List.take_succ_cons, List.take_zero, List.reverse_cons, List.reverse_nil, List.nil_append, List.cons_append, List.length_cons, List.length_nil, cond_true, cond_false, and_true, true_and, Nat.zero_add, Nat.add_zero, Nat.reduceAdd, Nat.reduceLT, Nat.reduceLeDiff, Nat.reduceEqDiff, Nat.reduceBEq, Nat.reduceSub, ↓reduceIte, Int32.reduceOfNat, Int64.reduceOfNat, reduceCtorEq, Nat.le_refl, Nat.zero_le, Bool.false_eq_true, beq_self_eq_true, Fin.isValue, Fin.val_zero, Fin.val_one, Fin.reduceFinMk, Fin.val_two, Nat.reduceMod, Bool.or_false, Bool.or_true, Bool.true_or, Bool.false_or, not_true_eq_false, not_false_eq_true, true_or, or_true, implies_true, false_implies, true_implies, Int32.reduceLT, Int32.reduceLE, ↓w_TAB3, ↓w_TAB4, ↓w_TAB5, ↓w_TAB7, ↓w_TAB10, ↓w_LK2, ↓w_LK6, false_and, and_false, i1z, i2z, iz1, im0, im1, l0z, ty_i, ty_l, ty_b, h.mz, h.mn, k1, k2, k3, k4, k5, k6, k7, k8, c13, hasK_uR, hasK_uI, mZ_uR, mZ_uN, mN_uR, mN_uN, mZ_uI, mN_uI]
  exact i12_4 hb hQ s8
set_option maxRecDepth 20000 in
theorem i12_2 (hb : b = mm x) (hQ : ∀ M', Ini b 551 (mIE gI) (mR10 gR) M' → Q none M') (h : Ini b 498 (mI1 gI) (mR1 gR) M) : Go G (MT 178) Q X 194 [some (.ref 495), some (.int x)] [] M 2 32 := by
  have n1 : Ini b 499 _ _ _ := Ini_N (e := .inl (.int, 16)) h (by decide)
  have q1 := (Ini_I (a := 498) (j := 15) (v := 0) (u := 0) (Ini_I (a := 498) (j := 14) (v := 0) (u := 0) (Ini_I (a := 498) (j := 13) (v := 0) (u := 0) (Ini_I (a := 498) (j := 12) (v := 0) (u := 0) (Ini_I (a := 498) (j := 11) (v := 0) (u := 0) (Ini_I (a := 498) (j := 10) (v := 3) (u := 3) (Ini_I (a := 498) (j := 9) (v := 0) (u := 0) (Ini_I (a := 498) (j := 8) (v := 2) (u := 2) (Ini_I (a := 498) (j := 7) (v := 2) (u := 2) (Ini_I (a := 498) (j := 6) (v := 2) (u := 2) (Ini_I (a := 498) (j := 5) (v := 2) (u := 2) (Ini_I (a := 498) (j := 4) (v := 1) (u := 1) (Ini_I (a := 498) (j := 3) (v := 0) (u := 0) (Ini_I (a := 498) (j := 2) (v := 0) (u := 0) (Ini_I (a := 498) (j := 1) (v := 0) (u := 0) (Ini_I (a := 498) (j := 0) (v := 1) (u := 1) n1 (by omega) rfl) (by omega) rfl) (by omega) rfl) (by omega) rfl) (by omega) rfl) (by omega) rfl) (by omega) rfl) (by omega) rfl) (by omega) rfl) (by omega) rfl) (by omega) rfl) (by omega) rfl) (by omega) rfl) (by omega) rfl) (by omega) rfl) (by omega) rfl)
  have k1 := n1.hk (a := 495) (e := .inr 12) (by omega) (by decide)
  have s1 := Ini_R (r := some 498) (a := 495) (j := 2) q1 (by omega)
  have c16 : (16 : Int32).toNatClampNeg = 16 := rfl
  have c0 : (0 : Int32).toNatClampNeg = 0 := rfl
  have v0 : vp_in (0 : Int32) 16 := vp_in_i (by simp)
  have c1 : (1 : Int32).toNatClampNeg = 1 := rfl
  have v1 : vp_in (1 : Int32) 16 := vp_in_i (by simp)
  have c2 : (2 : Int32).toNatClampNeg = 2 := rfl
  have v2 : vp_in (2 : Int32) 16 := vp_in_i (by simp)
  have c3 : (3 : Int32).toNatClampNeg = 3 := rfl
  have v3 : vp_in (3 : Int32) 16 := vp_in_i (by simp)
  have c4 : (4 : Int32).toNatClampNeg = 4 := rfl
  have v4 : vp_in (4 : Int32) 16 := vp_in_i (by simp)
  have c5 : (5 : Int32).toNatClampNeg = 5 := rfl
  have v5 : vp_in (5 : Int32) 16 := vp_in_i (by simp)
  have c6 : (6 : Int32).toNatClampNeg = 6 := rfl
  have v6 : vp_in (6 : Int32) 16 := vp_in_i (by simp)
  have c7 : (7 : Int32).toNatClampNeg = 7 := rfl
  have v7 : vp_in (7 : Int32) 16 := vp_in_i (by simp)
  have c8 : (8 : Int32).toNatClampNeg = 8 := rfl
  have v8 : vp_in (8 : Int32) 16 := vp_in_i (by simp)
  have c9 : (9 : Int32).toNatClampNeg = 9 := rfl
  have v9 : vp_in (9 : Int32) 16 := vp_in_i (by simp)
  have c10 : (10 : Int32).toNatClampNeg = 10 := rfl
  have v10 : vp_in (10 : Int32) 16 := vp_in_i (by simp)
  have c11 : (11 : Int32).toNatClampNeg = 11 := rfl
  have v11 : vp_in (11 : Int32) 16 := vp_in_i (by simp)
  have c12 : (12 : Int32).toNatClampNeg = 12 := rfl
  have v12 : vp_in (12 : Int32) 16 := vp_in_i (by simp)
  have c13 : (13 : Int32).toNatClampNeg = 13 := rfl
  have v13 : vp_in (13 : Int32) 16 := vp_in_i (by simp)
  have c14 : (14 : Int32).toNatClampNeg = 14 := rfl
  have v14 : vp_in (14 : Int32) 16 := vp_in_i (by simp)
  have c15 : (15 : Int32).toNatClampNeg = 15 := rfl
  have v15 : vp_in (15 : Int32) 16 := vp_in_i (by simp)
  refine r_X12_init (fun n => n == 276 || n == 777 || n == 784 || n == 791) 120 ?_
  simp only [cd_X12_init, cf_X12_init, wp, wq, wpI, cdF, w_CI, w_CL, w_CN, w_LI, w_LL, w_LA, w_SI, w_SL, w_SA, w_INC, w_II, w_IId, w_LLb, w_LLd, w_LS, w_I1, w_L1, w_I2L, w_L2I, w_CMP, w_DUP, w_POP, w_DUP2, w_IF, w_IC, w_GO, w_NUL, w_ACN, prs, w_GF, w_PF, w_GS, w_IAL, w_LEN, w_LAL, w_ZAL, w_AAL, w_IAS, w_LAS, w_ZAS, w_AAS, w_RI, w_RL, w_RA, w_NEW, w_NA, w_MNA, w_OI, w_THR, w_CV, w_CS, w_CN9, w_CI9, w_MX, w_cont, lget, sto1, sto2, wideV, vo, vo_rv, isR, isR_rv, rv, fget, fput, cats, Value.category, List.headD_cons, List.getD_cons_zero, List.getD_cons_succ, List.drop_succ_cons, List.drop_zero, List.take_succ_cons, List.take_zero, List.reverse_cons, List.reverse_nil, List.nil_append, List.cons_append, List.length_cons, List.length_nil, cond_true, cond_false, and_true, true_and, Nat.zero_add, Nat.add_zero, Nat.reduceAdd, Nat.reduceLT, Nat.reduceLeDiff, Nat.reduceEqDiff, Nat.reduceBEq, Nat.reduceSub, ↓reduceIte, Int32.reduceOfNat, Int64.reduceOfNat, reduceCtorEq, Nat.le_refl, Nat.zero_le, Bool.false_eq_true, beq_self_eq_true, Fin.isValue, Fin.val_zero, Fin.val_one, Fin.reduceFinMk, Fin.val_two, Nat.reduceMod, Bool.or_false, Bool.or_true, Bool.true_or, Bool.false_or, not_true_eq_false, not_false_eq_true, true_or, or_true, implies_true, false_implies, true_implies, Int32.reduceLT, Int32.reduceLE, ↓w_TAB3, ↓w_TAB4, ↓w_TAB5, ↓w_TAB7, ↓w_TAB10, ↓w_LK2, ↓w_LK6, false_and, and_false, i1z, i2z, iz1, im0, im1, l0z, ty_i, ty_l, ty_b, h.mz, h.mn, Ini.hq n1, k1, c16, c0, v0, c1, v1, c2, v2, c3, v3, c4, v4, c5, v5, c6, v6, c7, v7, c8, v8, c9, v9, c10, v10, c11, v11, c12, v12, c13, v13, c14, v14, c15, v15, layF, Option.some.injEq, Sum.inl.injEq, Prod.mk.injEq, exists_eq_left, exists_eq_left', hasK_uR, hasK_uI, mZ_uR, mZ_uN, mN_uR, mN_uN, mZ_uI, mN_uI]
  exact i12_3 hb hQ s1
set_option maxRecDepth 20000 in
theorem i12_1 (hb : b = mm x) (hQ : ∀ M', Ini b 551 (mIE gI) (mR10 gR) M' → Q none M') (h : Ini b 497 (mI0 gI) (mR0 gR) M) : Go G (MT 178) Q X 99 [some (.ref 495), some (.int x)] [] M 1 16 := by
  have n1 : Ini b 498 _ _ _ := Ini_N (e := .inl (.int, 16)) h (by decide)
  have q1 := (Ini_I (a := 497) (j := 15) (v := 12) (u := 12) (Ini_I (a := 497) (j := 14) (v := 42) (u := 42) (Ini_I (a := 497) (j := 13) (v := 16) (u := 16) (Ini_I (a := 497) (j := 12) (v := 10) (u := 10) (Ini_I (a := 497) (j := 11) (v := 3) (u := 3) (Ini_I (a := 497) (j := 10) (v := 40) (u := 40) (Ini_I (a := 497) (j := 9) (v := 3) (u := 3) (Ini_I (a := 497) (j := 8) (v := 8) (u := 8) (Ini_I (a := 497) (j := 7) (v := 2) (u := 2) (Ini_I (a := 497) (j := 6) (v := 6) (u := 6) (Ini_I (a := 497) (j := 5) (v := 12) (u := 12) (Ini_I (a := 497) (j := 4) (v := 11) (u := 11) (Ini_I (a := 497) (j := 3) (v := 6) (u := 6) (Ini_I (a := 497) (j := 2) (v := 12) (u := 12) (Ini_I (a := 497) (j := 1) (v := 6) (u := 6) (Ini_I (a := 497) (j := 0) (v := 19) (u := 19) n1 (by omega) rfl) (by omega) rfl) (by omega) rfl) (by omega) rfl) (by omega) rfl) (by omega) rfl) (by omega) rfl) (by omega) rfl) (by omega) rfl) (by omega) rfl) (by omega) rfl) (by omega) rfl) (by omega) rfl) (by omega) rfl) (by omega) rfl) (by omega) rfl)
  have k1 := n1.hk (a := 495) (e := .inr 12) (by omega) (by decide)
  have s1 := Ini_R (r := some 497) (a := 495) (j := 1) q1 (by omega)
  have c16 : (16 : Int32).toNatClampNeg = 16 := rfl
  have c0 : (0 : Int32).toNatClampNeg = 0 := rfl
  have v0 : vp_in (0 : Int32) 16 := vp_in_i (by simp)
  have c1 : (1 : Int32).toNatClampNeg = 1 := rfl
  have v1 : vp_in (1 : Int32) 16 := vp_in_i (by simp)
  have c2 : (2 : Int32).toNatClampNeg = 2 := rfl
  have v2 : vp_in (2 : Int32) 16 := vp_in_i (by simp)
  have c3 : (3 : Int32).toNatClampNeg = 3 := rfl
  have v3 : vp_in (3 : Int32) 16 := vp_in_i (by simp)
  have c4 : (4 : Int32).toNatClampNeg = 4 := rfl
  have v4 : vp_in (4 : Int32) 16 := vp_in_i (by simp)
  have c5 : (5 : Int32).toNatClampNeg = 5 := rfl
  have v5 : vp_in (5 : Int32) 16 := vp_in_i (by simp)
  have c6 : (6 : Int32).toNatClampNeg = 6 := rfl
  have v6 : vp_in (6 : Int32) 16 := vp_in_i (by simp)
  have c7 : (7 : Int32).toNatClampNeg = 7 := rfl
  have v7 : vp_in (7 : Int32) 16 := vp_in_i (by simp)
  have c8 : (8 : Int32).toNatClampNeg = 8 := rfl
  have v8 : vp_in (8 : Int32) 16 := vp_in_i (by simp)
  have c9 : (9 : Int32).toNatClampNeg = 9 := rfl
  have v9 : vp_in (9 : Int32) 16 := vp_in_i (by simp)
  have c10 : (10 : Int32).toNatClampNeg = 10 := rfl
  have v10 : vp_in (10 : Int32) 16 := vp_in_i (by simp)
  have c11 : (11 : Int32).toNatClampNeg = 11 := rfl
  have v11 : vp_in (11 : Int32) 16 := vp_in_i (by simp)
  have c12 : (12 : Int32).toNatClampNeg = 12 := rfl
  have v12 : vp_in (12 : Int32) 16 := vp_in_i (by simp)
  have c13 : (13 : Int32).toNatClampNeg = 13 := rfl
  have v13 : vp_in (13 : Int32) 16 := vp_in_i (by simp)
  have c14 : (14 : Int32).toNatClampNeg = 14 := rfl
  have v14 : vp_in (14 : Int32) 16 := vp_in_i (by simp)
  have c15 : (15 : Int32).toNatClampNeg = 15 := rfl
  have v15 : vp_in (15 : Int32) 16 := vp_in_i (by simp)
  refine r_X12_init (fun n => n == 194 || n == 777 || n == 784 || n == 791) 120 ?_
  simp only [cd_X12_init, cf_X12_init, wp, wq, wpI, cdF, w_CI, w_CL, w_CN, w_LI, w_LL, w_LA, w_SI, w_SL, w_SA, w_INC, w_II, w_IId, w_LLb, w_LLd, w_LS, w_I1, w_L1, w_I2L, w_L2I, w_CMP, w_DUP, w_POP, w_DUP2, w_IF, w_IC, w_GO, w_NUL, w_ACN, prs, w_GF, w_PF, w_GS, w_IAL, w_LEN, w_LAL, w_ZAL, w_AAL, w_IAS, w_LAS, w_ZAS, w_AAS, w_RI, w_RL, w_RA, w_NEW, w_NA, w_MNA, w_OI, w_THR, w_CV, w_CS, w_CN9, w_CI9, w_MX, w_cont, lget, sto1, sto2, wideV, vo, vo_rv, isR, isR_rv, rv, fget, fput, cats, Value.category, List.headD_cons, List.getD_cons_zero, List.getD_cons_succ, List.drop_succ_cons, List.drop_zero, List.take_succ_cons, List.take_zero, List.reverse_cons, List.reverse_nil, List.nil_append, List.cons_append, List.length_cons, List.length_nil, cond_true, cond_false, and_true, true_and, Nat.zero_add, Nat.add_zero, Nat.reduceAdd, Nat.reduceLT, Nat.reduceLeDiff, Nat.reduceEqDiff, Nat.reduceBEq, Nat.reduceSub, ↓reduceIte, Int32.reduceOfNat, Int64.reduceOfNat, reduceCtorEq, Nat.le_refl, Nat.zero_le, Bool.false_eq_true, beq_self_eq_true, Fin.isValue, Fin.val_zero, Fin.val_one, Fin.reduceFinMk, Fin.val_two, Nat.reduceMod, Bool.or_false, Bool.or_true, Bool.true_or, Bool.false_or, not_true_eq_false, not_false_eq_true, true_or, or_true, implies_true, false_implies, true_implies, Int32.reduceLT, Int32.reduceLE, ↓w_TAB3, ↓w_TAB4, ↓w_TAB5, ↓w_TAB7, ↓w_TAB10, ↓w_LK2, ↓w_LK6, false_and, and_false, i1z, i2z, iz1, im0, im1, l0z, ty_i, ty_l, ty_b, h.mz, h.mn, Ini.hq n1, k1, c16, c0, v0, c1, v1, c2, v2, c3, v3, c4, v4, c5, v5, c6, v6, c7, v7, c8, v8, c9, v9, c10, v10, c11, v11, c12, v12, c13, v13, c14, v14, c15, v15, layF, Option.some.injEq, Sum.inl.injEq, Prod.mk.injEq, exists_eq_left, exists_eq_left', hasK_uR, hasK_uI, mZ_uR, mZ_uN, mN_uR, mN_uN, mZ_uI, mN_uI]
  exact i12_2 hb hQ s1
set_option maxRecDepth 20000 in
theorem i12_0 (hb : b = mm x) (hQ : ∀ M', Ini b 551 (mIE gI) (mR10 gR) M' → Q none M') (h : Ini b 496 gI gR M) : Go G (MT 178) Q X 4 [some (.ref 495), some (.int x)] [] M 0 0 := by
  have n1 : Ini b 497 _ _ _ := Ini_N (e := .inl (.int, 16)) h (by decide)
  have q1 := (Ini_I (a := 496) (j := 15) (v := 95) (u := 95) (Ini_I (a := 496) (j := 14) (v := 90) (u := 90) (Ini_I (a := 496) (j := 13) (v := 86) (u := 86) (Ini_I (a := 496) (j := 12) (v := 74) (u := 74) (Ini_I (a := 496) (j := 11) (v := 70) (u := 70) (Ini_I (a := 496) (j := 10) (v := 54) (u := 54) (Ini_I (a := 496) (j := 9) (v := 49) (u := 49) (Ini_I (a := 496) (j := 8) (v := 41) (u := 41) (Ini_I (a := 496) (j := 7) (v := 39) (u := 39) (Ini_I (a := 496) (j := 6) (v := 38) (u := 38) (Ini_I (a := 496) (j := 5) (v := 37) (u := 37) (Ini_I (a := 496) (j := 4) (v := 32) (u := 32) (Ini_I (a := 496) (j := 3) (v := 11) (u := 11) (Ini_I (a := 496) (j := 2) (v := 4) (u := 4) (Ini_I (a := 496) (j := 1) (v := 3) (u := 3) (Ini_I (a := 496) (j := 0) (v := 2) (u := 2) n1 (by omega) rfl) (by omega) rfl) (by omega) rfl) (by omega) rfl) (by omega) rfl) (by omega) rfl) (by omega) rfl) (by omega) rfl) (by omega) rfl) (by omega) rfl) (by omega) rfl) (by omega) rfl) (by omega) rfl) (by omega) rfl) (by omega) rfl) (by omega) rfl)
  have k1 := n1.hk (a := 495) (e := .inr 12) (by omega) (by decide)
  have s1 := Ini_R (r := some 496) (a := 495) (j := 0) q1 (by omega)
  have c16 : (16 : Int32).toNatClampNeg = 16 := rfl
  have c0 : (0 : Int32).toNatClampNeg = 0 := rfl
  have v0 : vp_in (0 : Int32) 16 := vp_in_i (by simp)
  have c1 : (1 : Int32).toNatClampNeg = 1 := rfl
  have v1 : vp_in (1 : Int32) 16 := vp_in_i (by simp)
  have c2 : (2 : Int32).toNatClampNeg = 2 := rfl
  have v2 : vp_in (2 : Int32) 16 := vp_in_i (by simp)
  have c3 : (3 : Int32).toNatClampNeg = 3 := rfl
  have v3 : vp_in (3 : Int32) 16 := vp_in_i (by simp)
  have c4 : (4 : Int32).toNatClampNeg = 4 := rfl
  have v4 : vp_in (4 : Int32) 16 := vp_in_i (by simp)
  have c5 : (5 : Int32).toNatClampNeg = 5 := rfl
  have v5 : vp_in (5 : Int32) 16 := vp_in_i (by simp)
  have c6 : (6 : Int32).toNatClampNeg = 6 := rfl
  have v6 : vp_in (6 : Int32) 16 := vp_in_i (by simp)
  have c7 : (7 : Int32).toNatClampNeg = 7 := rfl
  have v7 : vp_in (7 : Int32) 16 := vp_in_i (by simp)
  have c8 : (8 : Int32).toNatClampNeg = 8 := rfl
  have v8 : vp_in (8 : Int32) 16 := vp_in_i (by simp)
  have c9 : (9 : Int32).toNatClampNeg = 9 := rfl
  have v9 : vp_in (9 : Int32) 16 := vp_in_i (by simp)
  have c10 : (10 : Int32).toNatClampNeg = 10 := rfl
  have v10 : vp_in (10 : Int32) 16 := vp_in_i (by simp)
  have c11 : (11 : Int32).toNatClampNeg = 11 := rfl
  have v11 : vp_in (11 : Int32) 16 := vp_in_i (by simp)
  have c12 : (12 : Int32).toNatClampNeg = 12 := rfl
  have v12 : vp_in (12 : Int32) 16 := vp_in_i (by simp)
  have c13 : (13 : Int32).toNatClampNeg = 13 := rfl
  have v13 : vp_in (13 : Int32) 16 := vp_in_i (by simp)
  have c14 : (14 : Int32).toNatClampNeg = 14 := rfl
  have v14 : vp_in (14 : Int32) 16 := vp_in_i (by simp)
  have c15 : (15 : Int32).toNatClampNeg = 15 := rfl
  have v15 : vp_in (15 : Int32) 16 := vp_in_i (by simp)
  refine r_X12_init (fun n => n == 99 || n == 777 || n == 784 || n == 791) 120 ?_
  simp only [cd_X12_init, cf_X12_init, wp, wq, wpI, cdF, w_CI, w_CL, w_CN, w_LI, w_LL, w_LA, w_SI, w_SL, w_SA, w_INC, w_II, w_IId, w_LLb, w_LLd, w_LS, w_I1, w_L1, w_I2L, w_L2I, w_CMP, w_DUP, w_POP, w_DUP2, w_IF, w_IC, w_GO, w_NUL, w_ACN, prs, w_GF, w_PF, w_GS, w_IAL, w_LEN, w_LAL, w_ZAL, w_AAL, w_IAS, w_LAS, w_ZAS, w_AAS, w_RI, w_RL, w_RA, w_NEW, w_NA, w_MNA, w_OI, w_THR, w_CV, w_CS, w_CN9, w_CI9, w_MX, w_cont, lget, sto1, sto2, wideV, vo, vo_rv, isR, isR_rv, rv, fget, fput, cats, Value.category, List.headD_cons, List.getD_cons_zero, List.getD_cons_succ, List.drop_succ_cons, List.drop_zero, List.take_succ_cons, List.take_zero, List.reverse_cons, List.reverse_nil, List.nil_append, List.cons_append, List.length_cons, List.length_nil, cond_true, cond_false, and_true, true_and, Nat.zero_add, Nat.add_zero, Nat.reduceAdd, Nat.reduceLT, Nat.reduceLeDiff, Nat.reduceEqDiff, Nat.reduceBEq, Nat.reduceSub, ↓reduceIte, Int32.reduceOfNat, Int64.reduceOfNat, reduceCtorEq, Nat.le_refl, Nat.zero_le, Bool.false_eq_true, beq_self_eq_true, Fin.isValue, Fin.val_zero, Fin.val_one, Fin.reduceFinMk, Fin.val_two, Nat.reduceMod, Bool.or_false, Bool.or_true, Bool.true_or, Bool.false_or, not_true_eq_false, not_false_eq_true, true_or, or_true, implies_true, false_implies, true_implies, Int32.reduceLT, Int32.reduceLE, ↓w_TAB3, ↓w_TAB4, ↓w_TAB5, ↓w_TAB7, ↓w_TAB10, ↓w_LK2, ↓w_LK6, false_and, and_false, i1z, i2z, iz1, im0, im1, l0z, ty_i, ty_l, ty_b, h.mz, h.mn, Ini.hq n1, k1, c16, c0, v0, c1, v1, c2, v2, c3, v3, c4, v4, c5, v5, c6, v6, c7, v7, c8, v8, c9, v9, c10, v10, c11, v11, c12, v12, c13, v13, c14, v14, c15, v15, layF, Option.some.injEq, Sum.inl.injEq, Prod.mk.injEq, exists_eq_left, exists_eq_left', hasK_uR, hasK_uI, mZ_uR, mZ_uN, mN_uR, mN_uN, mZ_uI, mN_uI]
  exact i12_1 hb hQ s1
theorem n_X12 (hb : b = mm x) (h : Ini b 496 gI gR M) (hQ : ∀ M', Ini b 551 (mIE gI) (mR10 gR) M' → Q none M') : Ct G (MT 178) [.ref 495, .int x] M Q X := by
  refine Ct.go (L0 := [some (.ref 495), some (.int x)]) (by decide +kernel) rfl rfl ?_
  refine r_X12_init (fun n => n == 4 || n == 777 || n == 784 || n == 791) 20 ?_
  simp only [cd_X12_init, cf_X12_init, wp, wq, wpI, cdF, w_CI, w_CL, w_CN, w_LI, w_LL, w_LA, w_SI, w_SL, w_SA, w_INC, w_II, w_IId, w_LLb, w_LLd, w_LS, w_I1, w_L1, w_I2L, w_L2I, w_CMP, w_DUP, w_POP, w_DUP2, w_IF, w_IC, w_GO, w_NUL, w_ACN, prs, w_GF, w_PF, w_GS, w_IAL, w_LEN, w_LAL, w_ZAL, w_AAL, w_IAS, w_LAS, w_ZAS, w_AAS, w_RI, w_RL, w_RA, w_NEW, w_NA, w_MNA, w_OI, w_THR, w_CV, w_CS, w_CN9, w_CI9, w_MX, w_cont, lget, sto1, sto2, wideV, vo, vo_rv, isR, isR_rv, rv, fget, fput, cats, Value.category, List.headD_cons, List.getD_cons_zero, List.getD_cons_succ, List.drop_succ_cons, List.drop_zero, List.take_succ_cons, List.take_zero, List.reverse_cons, List.reverse_nil, List.nil_append, List.cons_append, List.length_cons, List.length_nil, cond_true, cond_false, and_true, true_and, Nat.zero_add, Nat.add_zero, Nat.reduceAdd, Nat.reduceLT, Nat.reduceLeDiff, Nat.reduceEqDiff, Nat.reduceBEq, Nat.reduceSub, ↓reduceIte, Int32.reduceOfNat, Int64.reduceOfNat, reduceCtorEq, Nat.le_refl, Nat.zero_le, Bool.false_eq_true, beq_self_eq_true, Fin.isValue, Fin.val_zero, Fin.val_one, Fin.reduceFinMk, Fin.val_two, Nat.reduceMod, Bool.or_false, Bool.or_true, Bool.true_or, Bool.false_or, not_true_eq_false, not_false_eq_true, true_or, or_true, implies_true, false_implies, true_implies, Int32.reduceLT, Int32.reduceLE, ↓w_TAB3, ↓w_TAB4, ↓w_TAB5, ↓w_TAB7, ↓w_TAB10, ↓w_LK2, ↓w_LK6, false_and, and_false, i1z, i2z, iz1, im0, im1, l0z]
  exact i12_0 hb hQ h
end INM
