/-! HOW CLASS AND REFERENCE ANSWER -/
/-- what the counters keep to, behind t calls -/
def jS (t : Nat) (n : Nat → Nat) : Prop := (n 4 ≤ 1 ∧ n 6 ≤ 1 ∧ (n 6 = 1 → n 4 = 1) ∧ (n 6 = 1 ↔ n 7 = 1) ∧ n 7 ≤ 1001) ∧ (n 17 ≤ 6 ∧ n 18 ≤ 6 ∧ n 24 ≤ 40 ∧ n 28 ≤ 64 ∧ n 34 ≤ 100 ∧ n 39 ≤ 60 ∧ n 55 ≤ 24) ∧ (4 ≤ n 8 ∧ n 8 ≤ 30 ∧ n 9 ≤ n 8 ∧ n 10 ≤ 100 * t ∧ n 11 ≤ 1000000 ∧ 1 ≤ n 12 ∧ n 12 ≤ t + 1 ∧ n 5 ≤ 30) ∧ (1 ≤ n 13 ∧ n 13 ≤ 5000 ∧ 1 ≤ n 14 ∧ n 14 ≤ 5000 ∧ 1 ≤ n 15 ∧ n 15 ≤ 5000 ∧ 1 ≤ n 16 ∧ n 16 ≤ 8) ∧ (n 4 = 0 → n 39 = 0) ∧ t ≤ 64
/-- the tables -/
def jI (t : Nat) (n : Nat → Nat) (f : Nat → Nat → Nat) : Prop := (∀ i, i < 12 → f 499 i ≤ 1000) ∧ (∀ i, i < 6 → f 502 i ≤ t) ∧ (∀ i, i < n 24 → 1 ≤ f 505 i ∧ f 505 i ≤ 8 ∧ f 504 i < 10 ^ f 505 i ∧ f 506 i < n 18) ∧ (∀ i, i < n 28 → f 507 i < n 18) ∧ (∀ i, i < n 34 → f 514 i < n 28) ∧ (∀ i, i < 100 → f 515 i ≤ 1)
def jB (k : Nat) (xs : List Nat) : Prop := xs.length ≤ k ∧ ∀ i, i < xs.length → xs.getD i 0 < 256
def RCx (S : Sw) (M : Mem) : Prop := ∃ w o c, RC w o c S M
def hiS (M M' : Mem) : Prop := ∀ b, 495 ≤ b → sA M M' b
def loS (M M' : Mem) : Prop := (∀ b, b < 495 → sA M M' b) ∧ sA M M' 551
def wdI (x : Int) : Int32 := Int32.ofInt x
def QcI (M : Mem) (r : Re) (v : Option Value) (M' : Mem) : Prop := r.1.1 = 0 ∧ v = some (.int (wdI r.1.2)) ∧ RCx r.2 M' ∧ hiS M M'
def QcL (M : Mem) (r : Re) (v : Option Value) (M' : Mem) : Prop := r.1.1 = 0 ∧ v = some (.long (lI r.1.2)) ∧ RCx r.2 M' ∧ hiS M M'
def QcV (M : Mem) (r : Re) (v : Option Value) (M' : Mem) : Prop := r.1.1 = 0 ∧ v = none ∧ RCx r.2 M' ∧ hiS M M'
def QcX (M : Mem) (r : Re) (E : String) (M' : Mem) : Prop := (r.1.1 = 1 ∧ E = xIA ∨ r.1.1 = 2 ∧ E = xIS) ∧ RCx r.2 M' ∧ hiS M M'
def QmI (M : Mem) (r : Re) (v : Option Value) (M' : Mem) : Prop := v = some (.int (wdI r.1.2)) ∧ mI M' 495 3 = nI r.1.1 ∧ RM r.2 M' ∧ loS M M'
def QmL (M : Mem) (r : Re) (v : Option Value) (M' : Mem) : Prop := v = some (.long (lI r.1.2)) ∧ mI M' 495 3 = nI r.1.1 ∧ RM r.2 M' ∧ loS M M'
def QmV (M : Mem) (r : Re) (v : Option Value) (M' : Mem) : Prop := v = none ∧ mI M' 495 3 = nI r.1.1 ∧ RM r.2 M' ∧ loS M M'
section FRA
variable {M M' : Mem} {a j : Nat} {v : Int32} {u : Int64} {S : Sw}
theorem hiS_rfl (M : Mem) : hiS M M := fun b _ => sA_rfl M b
theorem hiS_uI (h : hiS M M') (ha : a < 495) : hiS M (uI M' a j v) := fun b hb => sA_uI (by omega) (h b hb)
theorem hiS_uL (h : hiS M M') (ha : a < 495) : hiS M (uL M' a j u) := fun b hb => sA_uL (by omega) (h b hb)
theorem hiS_uR {r : Option Nat} (h : hiS M M') (ha : a < 495) : hiS M (uR M' a j r) := fun b hb => sA_uR (by omega) (h b hb)
theorem hiS_sRow {f : Nat → Int32} (h : hiS M M') (ha : a < 495) : hiS M (sRow M' a f) := fun b hb => sA_sRow (by omega) (h b hb)
theorem loS_rfl (M : Mem) : loS M M := ⟨fun b _ => sA_rfl M b, sA_rfl M 551⟩
theorem loS_uI (h : loS M M') (ha : 495 ≤ a ∧ a ≠ 551) : loS M (uI M' a j v) := ⟨fun b hb => sA_uI (by omega) (h.1 b hb), sA_uI (by omega) h.2⟩
theorem loS_uL (h : loS M M') (ha : 495 ≤ a ∧ a ≠ 551) : loS M (uL M' a j u) := ⟨fun b hb => sA_uL (by omega) (h.1 b hb), sA_uL (by omega) h.2⟩
theorem loS_sRow {f : Nat → Int32} (h : loS M M') (ha : 495 ≤ a ∧ a ≠ 551) : loS M (sRow M' a f) := ⟨fun b hb => sA_sRow (by omega) (h.1 b hb), sA_sRow (by omega) h.2⟩
theorem RCx_uZ (h : RCx S M) : RCx S (uZ M) := h
theorem QcX_1 (h : RCx S M) : QcX M (iaR S) xIA (uZ M) := ⟨Or.inl ⟨rfl, rfl⟩, h, hiS_rfl M⟩
theorem QcX_2 (h : RCx S M) : QcX M (izR S) xIS (uZ M) := ⟨Or.inr ⟨rfl, rfl⟩, h, hiS_rfl M⟩
/-- the reference's code alone is written -/
theorem RM_code (h : RM S M) : RM S (uI M 495 3 v) := by
  obtain ⟨h1, h2, h3, h4, h5, h6, h7, h8, h9, h10, h11, h12⟩ := h
  exact ⟨h1.uI, mNn_uI h2 (by omega), mIi_uI h3 (by omega), h4, mA_uI h5 (by omega), mC_uI h6 (by omega), mP_uI h7 (by omega), mRr_uI h8 (by omega), msgM_uI h9 (by omega), BYM_uI h10 (by omega), BYM_uI h11 (by omega), mK_uI h12 (by omega)⟩
theorem wdI_nat {n : Nat} : wdI (n : Int) = nI n := rfl
theorem w2i {x : Int32} (h : 0 ≤ x.toInt) : x = nI x.toInt.toNat := by
  rw [i_eq, nI_toInt (by have := (i_bnd x).2; omega)]; omega
end FRA
section GOE
variable {G : En} {M : Mem} {Q : Option Value → Mem → Prop} {X : String → Mem → Prop}
theorem m_goes {p q : Int32} (hL : LF M) (hQ : Q (some (.int (if p = 0 ∨ q = 0 then 0 else 1))) (uI M 495 3 (if p = 0 then 1 else if q = 0 then 2 else 0))) : Ct G (MT 181) [.ref 495, .int p, .int q] M Q X := by
  refine Ct.go (L0 := [some (.ref 495), some (.int p), some (.int q)]) (by decide +kernel) rfl rfl ?_
  refine r_X12_goes (fun _ => false) 40 ?_
  simp only [cd_X12_goes, cf_X12_goes, wp, wq, wpI, cdF, w_CI, w_CL, w_CN, w_LI, w_LL, w_LA, w_SI, w_SL, w_SA, w_INC, w_II, w_IId, w_LLb, w_LLd, w_LS, w_I1, w_L1, w_I2L, w_L2I, w_CMP, w_DUP, w_POP, w_DUP2, w_IF, w_IC, w_GO, w_NUL, w_ACN, w_sw, w_TAB, w_lk, w_LOOK, prs, w_GF, w_PF, w_GS, w_IAL, w_LEN, w_LAL, w_ZAL, w_AAL, w_IAS, w_LAS, w_ZAS, w_AAS, w_RI, w_RL, w_RA, w_NEW, w_NA, w_MNA, w_OI, w_THR, w_CV, w_CS, w_CN9, w_CI9, w_MX, w_cont, lget, sto1, sto2, wideV, vo, vo_rv, isR, isR_rv, rv, fget, fput, cats, Value.category, List.headD_cons, List.getD_cons_zero, List.getD_cons_succ, List.drop_succ_cons, List.drop_zero, List.take_succ_cons, List.take_zero, List.reverse_cons, List.reverse_nil, List.nil_append, List.cons_append, List.length_cons, List.length_nil, cond_true, cond_false, and_true, true_and, Nat.zero_add, Nat.add_zero, Nat.reduceAdd, Nat.reduceLT, Nat.reduceLeDiff, Nat.reduceEqDiff, Nat.reduceBEq, Nat.reduceSub, ↓reduceIte, Int32.reduceOfNat, Int64.reduceOfNat, reduceCtorEq, Nat.le_refl, Nat.zero_le, Bool.false_eq_true, beq_self_eq_true, Fin.isValue, Fin.val_zero, Fin.val_one, Fin.reduceFinMk, Fin.val_two, Nat.reduceMod, hasK_uI, hasK_uL, hasK_uR, hasK_uZ, hasK_sRow, mR_uI, mR_uL, mR_uZ, mR_sRow, mI_uL, mI_uR, mI_uZ, mL_uI, mL_uR, mL_uZ, mL_sRow, LF.hk hL, layF, LF.r hL, refF, ne_eq, not_false_eq_true, Option.some.injEq, Sum.inl.injEq, Sum.inr.injEq, Prod.mk.injEq, exists_eq_left, exists_eq_left', mI_uI]
  refine ⟨fun h1 => ⟨fun h2 => ?_, fun h2 => ?_⟩, fun h1 => ?_⟩
  all_goals trace_state
  all_goals sorry
end GOE
section ACQ
variable {G : En} {M : Mem} {S : Sw} {t : Nat}
theorem k_acquirer {x : Int32} (hR : RCx S M) (hj : jS t (sN S)) : Ct G (MT 124) [.ref 0, .int x] M (QcI M (o_acquirer S x.toInt)) (QcX M (o_acquirer S x.toInt)) := by
  obtain ⟨w, o, c, hR⟩ := id hR
  have hL := hR.1
  have hN := hR.2.1
  unfold cN at hN
  unfold jS at hj
  refine Ct.go (L0 := [some (.ref 0), some (.int x)]) (by decide +kernel) rfl rfl ?_
  refine r_X11_acquirer (fun n => n == 9 || n == 12 || n == 39 || n == 47) 40 ?_
  simp only [cd_X11_acquirer, cf_X11_acquirer, wp, wq, wpI, cdF, w_CI, w_CL, w_CN, w_LI, w_LL, w_LA, w_SI, w_SL, w_SA, w_INC, w_II, w_IId, w_LLb, w_LLd, w_LS, w_I1, w_L1, w_I2L, w_L2I, w_CMP, w_DUP, w_POP, w_DUP2, w_IF, w_IC, w_GO, w_NUL, w_ACN, w_sw, w_TAB, w_lk, w_LOOK, prs, w_GF, w_PF, w_GS, w_IAL, w_LEN, w_LAL, w_ZAL, w_AAL, w_IAS, w_LAS, w_ZAS, w_AAS, w_RI, w_RL, w_RA, w_NEW, w_NA, w_MNA, w_OI, w_THR, w_CV, w_CS, w_CN9, w_CI9, w_MX, w_cont, lget, sto1, sto2, wideV, vo, vo_rv, isR, isR_rv, rv, fget, fput, cats, Value.category, List.headD_cons, List.getD_cons_zero, List.getD_cons_succ, List.drop_succ_cons, List.drop_zero, List.take_succ_cons, List.take_zero, List.reverse_cons, List.reverse_nil, List.nil_append, List.cons_append, List.length_cons, List.length_nil, cond_true, cond_false, and_true, true_and, Nat.zero_add, Nat.add_zero, Nat.reduceAdd, Nat.reduceLT, Nat.reduceLeDiff, Nat.reduceEqDiff, Nat.reduceBEq, Nat.reduceSub, ↓reduceIte, Int32.reduceOfNat, Int64.reduceOfNat, reduceCtorEq, Nat.le_refl, Nat.zero_le, Bool.false_eq_true, beq_self_eq_true, Fin.isValue, Fin.val_zero, Fin.val_one, Fin.reduceFinMk, Fin.val_two, Nat.reduceMod, hasK_uI, hasK_uL, hasK_uR, hasK_uZ, hasK_sRow, mR_uI, mR_uL, mR_uZ, mR_sRow, mI_uL, mI_uR, mI_uZ, mL_uI, mL_uR, mL_uZ, mL_sRow, LF.hk hL, layF, LF.r hL, refF, ne_eq, not_false_eq_true, Option.some.injEq, Sum.inl.injEq, Sum.inr.injEq, Prod.mk.injEq, exists_eq_left, exists_eq_left']
  refine c_isWithin ⟨_, rfl, ?_⟩
  refine r_X11_acquirer (fun n => n == 9 || n == 12 || n == 39 || n == 47) 40 ?_
  simp only [cd_X11_acquirer, cf_X11_acquirer, wp, wq, wpI, cdF, w_CI, w_CL, w_CN, w_LI, w_LL, w_LA, w_SI, w_SL, w_SA, w_INC, w_II, w_IId, w_LLb, w_LLd, w_LS, w_I1, w_L1, w_I2L, w_L2I, w_CMP, w_DUP, w_POP, w_DUP2, w_IF, w_IC, w_GO, w_NUL, w_ACN, w_sw, w_TAB, w_lk, w_LOOK, prs, w_GF, w_PF, w_GS, w_IAL, w_LEN, w_LAL, w_ZAL, w_AAL, w_IAS, w_LAS, w_ZAS, w_AAS, w_RI, w_RL, w_RA, w_NEW, w_NA, w_MNA, w_OI, w_THR, w_CV, w_CS, w_CN9, w_CI9, w_MX, w_cont, lget, sto1, sto2, wideV, vo, vo_rv, isR, isR_rv, rv, fget, fput, cats, Value.category, List.headD_cons, List.getD_cons_zero, List.getD_cons_succ, List.drop_succ_cons, List.drop_zero, List.take_succ_cons, List.take_zero, List.reverse_cons, List.reverse_nil, List.nil_append, List.cons_append, List.length_cons, List.length_nil, cond_true, cond_false, and_true, true_and, Nat.zero_add, Nat.add_zero, Nat.reduceAdd, Nat.reduceLT, Nat.reduceLeDiff, Nat.reduceEqDiff, Nat.reduceBEq, Nat.reduceSub, ↓reduceIte, Int32.reduceOfNat, Int64.reduceOfNat, reduceCtorEq, Nat.le_refl, Nat.zero_le, Bool.false_eq_true, beq_self_eq_true, Fin.isValue, Fin.val_zero, Fin.val_one, Fin.reduceFinMk, Fin.val_two, Nat.reduceMod, hasK_uI, hasK_uL, hasK_uR, hasK_uZ, hasK_sRow, mR_uI, mR_uL, mR_uZ, mR_sRow, mI_uL, mI_uR, mI_uZ, mL_uI, mL_uR, mL_uZ, mL_sRow, LF.hk hL, layF, LF.r hL, refF, ne_eq, not_false_eq_true, Option.some.injEq, Sum.inl.injEq, Sum.inr.injEq, Prod.mk.injEq, exists_eq_left, exists_eq_left']
  refine c_demand (fun h1 => ⟨rfl, ?_⟩) (fun h1 => ?_)
  · refine r_X11_acquirer (fun n => n == 9 || n == 12 || n == 39 || n == 47) 40 ?_
    simp only [cd_X11_acquirer, cf_X11_acquirer, wp, wq, wpI, cdF, w_CI, w_CL, w_CN, w_LI, w_LL, w_LA, w_SI, w_SL, w_SA, w_INC, w_II, w_IId, w_LLb, w_LLd, w_LS, w_I1, w_L1, w_I2L, w_L2I, w_CMP, w_DUP, w_POP, w_DUP2, w_IF, w_IC, w_GO, w_NUL, w_ACN, w_sw, w_TAB, w_lk, w_LOOK, prs, w_GF, w_PF, w_GS, w_IAL, w_LEN, w_LAL, w_ZAL, w_AAL, w_IAS, w_LAS, w_ZAS, w_AAS, w_RI, w_RL, w_RA, w_NEW, w_NA, w_MNA, w_OI, w_THR, w_CV, w_CS, w_CN9, w_CI9, w_MX, w_cont, lget, sto1, sto2, wideV, vo, vo_rv, isR, isR_rv, rv, fget, fput, cats, Value.category, List.headD_cons, List.getD_cons_zero, List.getD_cons_succ, List.drop_succ_cons, List.drop_zero, List.take_succ_cons, List.take_zero, List.reverse_cons, List.reverse_nil, List.nil_append, List.cons_append, List.length_cons, List.length_nil, cond_true, cond_false, and_true, true_and, Nat.zero_add, Nat.add_zero, Nat.reduceAdd, Nat.reduceLT, Nat.reduceLeDiff, Nat.reduceEqDiff, Nat.reduceBEq, Nat.reduceSub, ↓reduceIte, Int32.reduceOfNat, Int64.reduceOfNat, reduceCtorEq, Nat.le_refl, Nat.zero_le, Bool.false_eq_true, beq_self_eq_true, Fin.isValue, Fin.val_zero, Fin.val_one, Fin.reduceFinMk, Fin.val_two, Nat.reduceMod, hasK_uI, hasK_uL, hasK_uR, hasK_uZ, hasK_sRow, mR_uI, mR_uL, mR_uZ, mR_sRow, mI_uL, mI_uR, mI_uZ, mL_uI, mL_uR, mL_uZ, mL_sRow, LF.hk hL, layF, LF.r hL, refF, ne_eq, not_false_eq_true, Option.some.injEq, Sum.inl.injEq, Sum.inr.injEq, Prod.mk.injEq, exists_eq_left, exists_eq_left', hN]
    trace_state
    sorry
  · trace_state
    sorry
theorem m_acquirer {x : Int32} (hR : RM S M) (hj : jS t (sN S)) {X : String → Mem → Prop} : Ct G (MT 186) [.ref 495, .int x] M (QmI M (o_acquirer S x.toInt)) X := by
  have hL := hR.1
  have hN := hR.2.1
  unfold mNn at hN
  unfold jS at hj
  refine Ct.go (L0 := [some (.ref 495), some (.int x)]) (by decide +kernel) rfl rfl ?_
  refine r_X12_acquirer (fun n => n == 41) 60 ?_
  simp only [cd_X12_acquirer, cf_X12_acquirer, wp, wq, wpI, cdF, w_CI, w_CL, w_CN, w_LI, w_LL, w_LA, w_SI, w_SL, w_SA, w_INC, w_II, w_IId, w_LLb, w_LLd, w_LS, w_I1, w_L1, w_I2L, w_L2I, w_CMP, w_DUP, w_POP, w_DUP2, w_IF, w_IC, w_GO, w_NUL, w_ACN, w_sw, w_TAB, w_lk, w_LOOK, prs, w_GF, w_PF, w_GS, w_IAL, w_LEN, w_LAL, w_ZAL, w_AAL, w_IAS, w_LAS, w_ZAS, w_AAS, w_RI, w_RL, w_RA, w_NEW, w_NA, w_MNA, w_OI, w_THR, w_CV, w_CS, w_CN9, w_CI9, w_MX, w_cont, lget, sto1, sto2, wideV, vo, vo_rv, isR, isR_rv, rv, fget, fput, cats, Value.category, List.headD_cons, List.getD_cons_zero, List.getD_cons_succ, List.drop_succ_cons, List.drop_zero, List.take_succ_cons, List.take_zero, List.reverse_cons, List.reverse_nil, List.nil_append, List.cons_append, List.length_cons, List.length_nil, cond_true, cond_false, and_true, true_and, Nat.zero_add, Nat.add_zero, Nat.reduceAdd, Nat.reduceLT, Nat.reduceLeDiff, Nat.reduceEqDiff, Nat.reduceBEq, Nat.reduceSub, ↓reduceIte, Int32.reduceOfNat, Int64.reduceOfNat, reduceCtorEq, Nat.le_refl, Nat.zero_le, Bool.false_eq_true, beq_self_eq_true, Fin.isValue, Fin.val_zero, Fin.val_one, Fin.reduceFinMk, Fin.val_two, Nat.reduceMod, hasK_uI, hasK_uL, hasK_uR, hasK_uZ, hasK_sRow, mR_uI, mR_uL, mR_uZ, mR_sRow, mI_uL, mI_uR, mI_uZ, mL_uI, mL_uR, mL_uZ, mL_sRow, LF.hk hL, layF, LF.r hL, refF, ne_eq, not_false_eq_true, Option.some.injEq, Sum.inl.injEq, Sum.inr.injEq, Prod.mk.injEq, exists_eq_left, exists_eq_left', hN]
  trace_state
  sorry
end ACQ
