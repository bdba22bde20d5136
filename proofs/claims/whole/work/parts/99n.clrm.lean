/-! CLEARING: the reference -/
section CLM
variable {G : En} {M M0 Mz M' : Mem} {Q : Option Value → Mem → Prop} {X : String → Mem → Prop} {S : Sw} {t a b j k v i np T A s n d N r o' th ty D D' : Nat} {x y : Int32} {z : Int64} {u am : Int} {m mx : Msg} {p : Py}
/-- the Model's own fields and what stands behind the payments stay -/
def kpN (M M' : Mem) : Prop := ∀ b j, (b = 495 ∨ 531 ≤ b) → mI M' b j = mI M b j
theorem kpN_0 : kpN M M := fun _ _ _ => rfl
theorem kpN_I {v : Int32} (h : kpN M M') (hb : b < 531 ∧ b ≠ 495) : kpN M (uI M' b j v) := fun c i hc => by rw [mI_ne (by omega)]; exact h c i hc
theorem kpN_L {v : Int64} (h : kpN M M') : kpN M (uL M' b j v) := fun c i hc => h c i hc
theorem kpN_t {M1 : Mem} (h : kpN M M') (h' : kpN M' M1) : kpN M M1 := fun c i hc => (h' c i hc).trans (h c i hc)
theorem DN_kp {S' : Sw} (h : DN S m mx M0 M) (hr : RM S' M') (hk : kpN M M') (hl : loS M0 M') : DN S' m mx M0 M' := by
  refine ⟨hr, ⟨by rw [hk _ _ (by omega)]; exact h.2.1.1, fun s hs => ⟨fun hp => ⟨by rw [hk _ _ (by omega)]; exact ((h.2.1.2 s hs).1 hp).1, fun i hi => by rw [hk _ _ (by omega)]; exact ((h.2.1.2 s hs).1 hp).2 i hi⟩, fun hp => by rw [hk _ _ (by omega)]; exact (h.2.1.2 s hs).2 hp⟩⟩, ⟨by rw [hk _ _ (by omega)]; exact h.2.2.1.1, fun s hs => ⟨fun hp => ⟨by rw [hk _ _ (by omega)]; exact ((h.2.2.1.2 s hs).1 hp).1, fun i hi => by rw [hk _ _ (by omega)]; exact ((h.2.2.1.2 s hs).1 hp).2 i hi⟩, fun hp => by rw [hk _ _ (by omega)]; exact (h.2.2.1.2 s hs).2 hp⟩⟩, hl, by rw [hk _ _ (by omega)]; exact h.2.2.2.2⟩
theorem m_ends2 (h : RN S k p M) (hi : loS M0 M) (h49 : fL (qL p 49)) (hT : sN S 11 = T) (hy : y = nI k) (hQ : ∀ M', RN S k (ends p T) M' → loS M0 M' → kpN M M' → Q none M') : Ct G (MT 259) [.ref 495, .int y] M Q X := by
  subst hy
  have hL := h.L
  have hk := h.2.1
  have h60 := h.2.2
  have hn : mNn (sN S) M := h.1.2.1
  unfold mNn at hn
  rw [hT] at hn
  have e49 := h.pm.2.2.2.2.2.2.2.2.2.2.1
  have ck := nI_clamp (n := k) (by omega)
  have hv := vp_in_nI (n := k) (N := 61) (by omega) (by omega)
  have r1 := RN_L48 (x := 0) (z := 0) h rfl
  have r2 := RN_I50 (v := 0) (y := 0) r1 rfl
  have tl : (lI (qL p 49) ≤ 0) ↔ ¬ 0 < qL p 49 := by rw [l_le, lI_toInt h49]; simp
  refine Ct.go (L0 := [some (.ref 495), some (.int (nI k))]) (by decide +kernel) rfl rfl ?_
  by_cases q : 0 < qL p 49
  · have r3 := RN_I47 (v := 3) (y := 3) r2 rfl
    have r4 := RN_I51 (v := T + 1) (y := nI T) r3 (nI_pred _).symm
    refine r_X12_ends (fun _ => false) 60 ?_
    simp only [cd_X12_ends, cf_X12_ends, wp, wq, wpI, cdF, w_CI, w_CL, w_CN, w_LI, w_LL, w_LA, w_SI, w_SL, w_SA, w_INC, w_II, w_IId, w_LLb, w_LLd, w_LS, w_I1, w_L1, w_I2L, w_L2I, w_CMP, w_DUP, w_POP, w_DUP2, w_IF, w_IC, w_GO, w_NUL, w_ACN, prs, w_GF, w_PF, w_GS, w_IAL, w_LEN, w_LAL, w_ZAL, w_AAL, w_IAS, w_LAS, w_ZAS, w_AAS, w_RI, w_RL, w_RA, w_NEW, w_NA, w_MNA, w_OI, w_THR, w_CV, w_CS, w_CN9, w_CI9, w_MX, w_cont, lget, sto1, sto2, wideV, vo, vo_rv, isR, isR_rv, rv, fget, fput, cats, Value.category, List.headD_cons, List.getD_cons_zero, List.getD_cons_succ, List.drop_succ_cons, List.drop_zero, List.take_succ_cons, List.take_zero, List.reverse_cons, List.reverse_nil, List.nil_append, List.cons_append, List.length_cons, List.length_nil, cond_true, cond_false, and_true, true_and, Nat.zero_add, Nat.add_zero, Nat.reduceAdd, Nat.reduceLT, Nat.reduceLeDiff, Nat.reduceEqDiff, Nat.reduceBEq, Nat.reduceSub, ↓reduceIte, Int32.reduceOfNat, Int64.reduceOfNat, reduceCtorEq, Nat.le_refl, Nat.zero_le, Bool.false_eq_true, beq_self_eq_true, Fin.isValue, Fin.val_zero, Fin.val_one, Fin.reduceFinMk, Fin.val_two, Nat.reduceMod, Bool.or_false, Bool.or_true, Bool.true_or, Bool.false_or, not_true_eq_false, not_false_eq_true, true_or, or_true, implies_true, false_implies, true_implies, Int32.reduceLT, Int32.reduceLE, ↓w_TAB3, ↓w_TAB4, ↓w_TAB5, ↓w_TAB7, ↓w_TAB10, ↓w_LK2, ↓w_LK6, false_and, and_false, i1z, i2z, iz1, im0, im1, l0z, hasK_uI, hasK_uL, hasK_uR, hasK_uZ, hasK_sRow, mR_uI, mR_uL, mR_uZ, mR_sRow, mI_uL, mI_uR, mI_uZ, mL_uI, mL_uR, mL_uZ, mL_sRow, LF.hk hL, layF, LF.r hL, refF, ne_eq, not_false_eq_true, Option.some.injEq, Sum.inl.injEq, Sum.inr.injEq, Prod.mk.injEq, exists_eq_left, exists_eq_left', ck, e49, cmp_le, tl, hn, q, mL_uL, mL_uI, mI_uI, mI_uL]
    refine ⟨hv, hv, hv, hv, hv, hv, hQ _ ?_ (loS_uI (loS_uI (loS_uI (loS_uL hi (by omega)) (by omega)) (by omega)) (by omega)) (kpN_I (kpN_I (kpN_I (kpN_L kpN_0) (by omega)) (by omega)) (by omega))⟩
    unfold ends
    rw [if_pos q, if_pos q]
    exact r4
  · have r3 := RN_I47 (v := 2) (y := 2) r2 rfl
    have r4 := RN_I51 (v := 0) (y := -1) r3 rfl
    refine r_X12_ends (fun _ => false) 60 ?_
    simp only [cd_X12_ends, cf_X12_ends, wp, wq, wpI, cdF, w_CI, w_CL, w_CN, w_LI, w_LL, w_LA, w_SI, w_SL, w_SA, w_INC, w_II, w_IId, w_LLb, w_LLd, w_LS, w_I1, w_L1, w_I2L, w_L2I, w_CMP, w_DUP, w_POP, w_DUP2, w_IF, w_IC, w_GO, w_NUL, w_ACN, prs, w_GF, w_PF, w_GS, w_IAL, w_LEN, w_LAL, w_ZAL, w_AAL, w_IAS, w_LAS, w_ZAS, w_AAS, w_RI, w_RL, w_RA, w_NEW, w_NA, w_MNA, w_OI, w_THR, w_CV, w_CS, w_CN9, w_CI9, w_MX, w_cont, lget, sto1, sto2, wideV, vo, vo_rv, isR, isR_rv, rv, fget, fput, cats, Value.category, List.headD_cons, List.getD_cons_zero, List.getD_cons_succ, List.drop_succ_cons, List.drop_zero, List.take_succ_cons, List.take_zero, List.reverse_cons, List.reverse_nil, List.nil_append, List.cons_append, List.length_cons, List.length_nil, cond_true, cond_false, and_true, true_and, Nat.zero_add, Nat.add_zero, Nat.reduceAdd, Nat.reduceLT, Nat.reduceLeDiff, Nat.reduceEqDiff, Nat.reduceBEq, Nat.reduceSub, ↓reduceIte, Int32.reduceOfNat, Int64.reduceOfNat, reduceCtorEq, Nat.le_refl, Nat.zero_le, Bool.false_eq_true, beq_self_eq_true, Fin.isValue, Fin.val_zero, Fin.val_one, Fin.reduceFinMk, Fin.val_two, Nat.reduceMod, Bool.or_false, Bool.or_true, Bool.true_or, Bool.false_or, not_true_eq_false, not_false_eq_true, true_or, or_true, implies_true, false_implies, true_implies, Int32.reduceLT, Int32.reduceLE, ↓w_TAB3, ↓w_TAB4, ↓w_TAB5, ↓w_TAB7, ↓w_TAB10, ↓w_LK2, ↓w_LK6, false_and, and_false, i1z, i2z, iz1, im0, im1, l0z, hasK_uI, hasK_uL, hasK_uR, hasK_uZ, hasK_sRow, mR_uI, mR_uL, mR_uZ, mR_sRow, mI_uL, mI_uR, mI_uZ, mL_uI, mL_uR, mL_uZ, mL_sRow, LF.hk hL, layF, LF.r hL, refF, ne_eq, not_false_eq_true, Option.some.injEq, Sum.inl.injEq, Sum.inr.injEq, Prod.mk.injEq, exists_eq_left, exists_eq_left', ck, e49, cmp_le, tl, hn, q, mL_uL, mL_uI, mI_uI, mI_uL]
    refine ⟨hv, hv, hv, hv, hv, hv, hQ _ ?_ (loS_uI (loS_uI (loS_uI (loS_uL hi (by omega)) (by omega)) (by omega)) (by omega)) (kpN_I (kpN_I (kpN_I (kpN_L kpN_0) (by omega)) (by omega)) (by omega))⟩
    unfold ends
    rw [if_neg q, if_neg q]
    exact r4
end CLM
