/-! Message: its rows -/
/-- a message at a: its lengths at a + 1, its rows at a + 3 and on -/
def MS (M : Mem) (a : Nat) : Prop := hasK M a (.inr 6) ∧ mR M a 2 = some (a + 1) ∧ mR M a 3 = some (a + 2) ∧ hasK M (a + 1) (.inl (.int, 16)) ∧ hasK M (a + 2) (.inl (.array .int, 16)) ∧ (∀ s, s < 16 → mR M (a + 2) s = some (a + 3 + s)) ∧ ∀ s, s < 16 → hasK M (a + 3 + s) (.inl (.int, 42))
theorem MS_d {M : Mem} (h : LF M) : MS M 432 := ⟨by rw [h.hk]; rfl, by rw [h.r (by decide)]; rfl, by rw [h.r (by decide)]; rfl, by rw [h.hk]; rfl, by rw [h.hk]; rfl, fun s hs => (h.2.2.2.2.2.2.2.2 s hs).1, fun s hs => by rw [h.hk]; exact (lay_dr hs).1⟩
theorem MS_r {M : Mem} (h : LF M) : MS M 454 := ⟨by rw [h.hk]; rfl, by rw [h.r (by decide)]; rfl, by rw [h.r (by decide)]; rfl, by rw [h.hk]; rfl, by rw [h.hk]; rfl, fun s hs => (h.2.2.2.2.2.2.2.2 s hs).2.1, fun s hs => by rw [h.hk]; exact (lay_dr hs).2.1⟩
theorem MS_a {M : Mem} (h : LF M) : MS M 474 := ⟨by rw [h.hk]; rfl, by rw [h.r (by decide)]; rfl, by rw [h.r (by decide)]; rfl, by rw [h.hk]; rfl, by rw [h.hk]; rfl, fun s hs => (h.2.2.2.2.2.2.2.2 s hs).2.2, fun s hs => by rw [h.hk]; exact (lay_dr hs).2.2⟩
section MSG
variable {G : En} {M : Mem} {Q : Option Value → Mem → Prop} {X : String → Mem → Prop} {a s th n : Nat}
theorem c_begin {x : Int32} (h : MS M a) (hQ : Q none (uI (uI M a 0 x) a 1 0)) : Ct G (MT 58) [.ref a, .int x] M Q X := by
  refine Ct.go (L0 := [some (.ref a), some (.int x)]) (by decide +kernel) rfl rfl ?_
  refine r_X6_begin (fun _ => false) 20 ?_
  simp only [cd_X6_begin, cf_X6_begin, wp, wq, wpI, cdF, w_CI, w_CL, w_CN, w_LI, w_LL, w_LA, w_SI, w_SL, w_SA, w_INC, w_II, w_IId, w_LLb, w_LLd, w_LS, w_I1, w_L1, w_I2L, w_L2I, w_CMP, w_DUP, w_POP, w_DUP2, w_IF, w_IC, w_GO, w_NUL, w_ACN, w_sw, w_TAB, w_lk, w_LOOK, prs, w_GF, w_PF, w_GS, w_IAL, w_LEN, w_LAL, w_ZAL, w_AAL, w_IAS, w_LAS, w_ZAS, w_AAS, w_RI, w_RL, w_RA, w_NEW, w_NA, w_MNA, w_OI, w_THR, w_CV, w_CS, w_CN9, w_CI9, w_MX, w_cont, lget, sto1, sto2, wideV, vo, vo_rv, isR, isR_rv, rv, fget, fput, cats, Value.category, List.headD_cons, List.getD_cons_zero, List.getD_cons_succ, List.drop_succ_cons, List.drop_zero, List.take_succ_cons, List.take_zero, List.reverse_cons, List.reverse_nil, List.nil_append, List.cons_append, List.length_cons, List.length_nil, cond_true, cond_false, and_true, true_and, Nat.zero_add, Nat.add_zero, Nat.reduceAdd, Nat.reduceLT, Nat.reduceLeDiff, Nat.reduceEqDiff, Nat.reduceBEq, Nat.reduceSub, ↓reduceIte, Int32.reduceOfNat, Int64.reduceOfNat, reduceCtorEq, Nat.le_refl, Nat.zero_le, Bool.false_eq_true, beq_self_eq_true, Fin.isValue, Fin.val_zero, Fin.val_one, Fin.reduceFinMk, Fin.val_two, Nat.reduceMod, h.1, hasK_uI]
  exact hQ
theorem c_has (h : MS M a) (ht : mI M a 1 = nI th) (hth : th < 65536) (hs : s < 16) (hQ : Q (some (.int (nI (pb th s)))) M) : Ct G (MT 59) [.ref a, .int (nI s)] M Q X := by
  refine Ct.go (L0 := [some (.ref a), some (.int (nI s))]) (by decide +kernel) rfl rfl ?_
  refine r_X6_has (fun _ => false) 30 ?_
  simp only [cd_X6_has, cf_X6_has, wp, wq, wpI, cdF, w_CI, w_CL, w_CN, w_LI, w_LL, w_LA, w_SI, w_SL, w_SA, w_INC, w_II, w_IId, w_LLb, w_LLd, w_LS, w_I1, w_L1, w_I2L, w_L2I, w_CMP, w_DUP, w_POP, w_DUP2, w_IF, w_IC, w_GO, w_NUL, w_ACN, w_sw, w_TAB, w_lk, w_LOOK, prs, w_GF, w_PF, w_GS, w_IAL, w_LEN, w_LAL, w_ZAL, w_AAL, w_IAS, w_LAS, w_ZAS, w_AAS, w_RI, w_RL, w_RA, w_NEW, w_NA, w_MNA, w_OI, w_THR, w_CV, w_CS, w_CN9, w_CI9, w_MX, w_cont, lget, sto1, sto2, wideV, vo, vo_rv, isR, isR_rv, rv, fget, fput, cats, Value.category, List.headD_cons, List.getD_cons_zero, List.getD_cons_succ, List.drop_succ_cons, List.drop_zero, List.take_succ_cons, List.take_zero, List.reverse_cons, List.reverse_nil, List.nil_append, List.cons_append, List.length_cons, List.length_nil, cond_true, cond_false, and_true, true_and, Nat.zero_add, Nat.add_zero, Nat.reduceAdd, Nat.reduceLT, Nat.reduceLeDiff, Nat.reduceEqDiff, Nat.reduceBEq, Nat.reduceSub, ↓reduceIte, Int32.reduceOfNat, Int64.reduceOfNat, reduceCtorEq, Nat.le_refl, Nat.zero_le, Bool.false_eq_true, beq_self_eq_true, Fin.isValue, Fin.val_zero, Fin.val_one, Fin.reduceFinMk, Fin.val_two, Nat.reduceMod, h.1, ht, nI_has hth hs]
  have := pb_le th s
  refine ⟨fun q => ?_, fun q => ?_⟩
  · have e : pb th s = 0 := by
      apply Classical.byContradiction
      intro q2
      exact q (by rw [show pb th s = 1 by omega]; rfl)
    rw [e] at hQ
    exact ⟨by simp, hQ⟩
  · have q := Classical.not_not.mp q
    rw [q] at hQ
    exact ⟨by simp, hQ⟩
theorem c_drop (h : MS M a) (ht : mI M a 1 = nI th) (hth : th < 65536) (hs : s < 16) (hQ : Q none (uI M a 1 (nI (clrB th s)))) : Ct G (MT 60) [.ref a, .int (nI s)] M Q X := by
  refine Ct.go (L0 := [some (.ref a), some (.int (nI s))]) (by decide +kernel) rfl rfl ?_
  refine r_X6_drop (fun _ => false) 30 ?_
  simp only [cd_X6_drop, cf_X6_drop, wp, wq, wpI, cdF, w_CI, w_CL, w_CN, w_LI, w_LL, w_LA, w_SI, w_SL, w_SA, w_INC, w_II, w_IId, w_LLb, w_LLd, w_LS, w_I1, w_L1, w_I2L, w_L2I, w_CMP, w_DUP, w_POP, w_DUP2, w_IF, w_IC, w_GO, w_NUL, w_ACN, w_sw, w_TAB, w_lk, w_LOOK, prs, w_GF, w_PF, w_GS, w_IAL, w_LEN, w_LAL, w_ZAL, w_AAL, w_IAS, w_LAS, w_ZAS, w_AAS, w_RI, w_RL, w_RA, w_NEW, w_NA, w_MNA, w_OI, w_THR, w_CV, w_CS, w_CN9, w_CI9, w_MX, w_cont, lget, sto1, sto2, wideV, vo, vo_rv, isR, isR_rv, rv, fget, fput, cats, Value.category, List.headD_cons, List.getD_cons_zero, List.getD_cons_succ, List.drop_succ_cons, List.drop_zero, List.take_succ_cons, List.take_zero, List.reverse_cons, List.reverse_nil, List.nil_append, List.cons_append, List.length_cons, List.length_nil, cond_true, cond_false, and_true, true_and, Nat.zero_add, Nat.add_zero, Nat.reduceAdd, Nat.reduceLT, Nat.reduceLeDiff, Nat.reduceEqDiff, Nat.reduceBEq, Nat.reduceSub, ↓reduceIte, Int32.reduceOfNat, Int64.reduceOfNat, reduceCtorEq, Nat.le_refl, Nat.zero_le, Bool.false_eq_true, beq_self_eq_true, Fin.isValue, Fin.val_zero, Fin.val_one, Fin.reduceFinMk, Fin.val_two, Nat.reduceMod, h.1, ht]
  trace_state
  sorry
theorem c_start {x : Int32} (h : MS M a) (ht : mI M a 1 = nI th) (hs : s < 16) (hQ : Q none (uI (uI M a 1 (nI (setB th s))) (a + 1) s x)) : Ct G (MT 61) [.ref a, .int (nI s), .int x] M Q X := by
  refine Ct.go (L0 := [some (.ref a), some (.int (nI s)), some (.int x)]) (by decide +kernel) rfl rfl ?_
  refine r_X6_start (fun _ => false) 30 ?_
  simp only [cd_X6_start, cf_X6_start, wp, wq, wpI, cdF, w_CI, w_CL, w_CN, w_LI, w_LL, w_LA, w_SI, w_SL, w_SA, w_INC, w_II, w_IId, w_LLb, w_LLd, w_LS, w_I1, w_L1, w_I2L, w_L2I, w_CMP, w_DUP, w_POP, w_DUP2, w_IF, w_IC, w_GO, w_NUL, w_ACN, w_sw, w_TAB, w_lk, w_LOOK, prs, w_GF, w_PF, w_GS, w_IAL, w_LEN, w_LAL, w_ZAL, w_AAL, w_IAS, w_LAS, w_ZAS, w_AAS, w_RI, w_RL, w_RA, w_NEW, w_NA, w_MNA, w_OI, w_THR, w_CV, w_CS, w_CN9, w_CI9, w_MX, w_cont, lget, sto1, sto2, wideV, vo, vo_rv, isR, isR_rv, rv, fget, fput, cats, Value.category, List.headD_cons, List.getD_cons_zero, List.getD_cons_succ, List.drop_succ_cons, List.drop_zero, List.take_succ_cons, List.take_zero, List.reverse_cons, List.reverse_nil, List.nil_append, List.cons_append, List.length_cons, List.length_nil, cond_true, cond_false, and_true, true_and, Nat.zero_add, Nat.add_zero, Nat.reduceAdd, Nat.reduceLT, Nat.reduceLeDiff, Nat.reduceEqDiff, Nat.reduceBEq, Nat.reduceSub, ↓reduceIte, Int32.reduceOfNat, Int64.reduceOfNat, reduceCtorEq, Nat.le_refl, Nat.zero_le, Bool.false_eq_true, beq_self_eq_true, Fin.isValue, Fin.val_zero, Fin.val_one, Fin.reduceFinMk, Fin.val_two, Nat.reduceMod, h.1, ht, h.2.1, hasK_uI, mR_uI, nI_set hs]
  trace_state
  sorry
theorem lp_overlay {b n v : Nat} {kc ks : Nat} (h : MS M a) (hs : s < 16) (hn : n ≤ 42) (hb : 1 < b ∧ b < 100) (hv : v < 9223372036854775808) (w : Int64) (hQ : Q none (sRow M (a + 3 + s) (fun i => if i < n then nI (dgt b n v i) else mI M (a + 3 + s) i))) : ∀ k, k ≤ n → Go G (MT 65) Q X 8 [some (.ref a), some (.int (nI s)), some (.int (nI n)), some (.long w), none, some (.int (nI b)), some (.long (lI (v / b ^ (n - k) : Nat))), none, some (.int (nI k - 1))] [] (sRow M (a + 3 + s) (fun i => if k ≤ i ∧ i < n then nI (dgt b n v i) else mI M (a + 3 + s) i)) kc ks := by
  intro k
  induction k with
  | zero =>
    intro hk
    refine r_X6_overlay (fun n => n == 8) 40 ?_
    simp only [cd_X6_overlay, cf_X6_overlay, wp, wq, wpI, cdF, w_CI, w_CL, w_CN, w_LI, w_LL, w_LA, w_SI, w_SL, w_SA, w_INC, w_II, w_IId, w_LLb, w_LLd, w_LS, w_I1, w_L1, w_I2L, w_L2I, w_CMP, w_DUP, w_POP, w_DUP2, w_IF, w_IC, w_GO, w_NUL, w_ACN, w_sw, w_TAB, w_lk, w_LOOK, prs, w_GF, w_PF, w_GS, w_IAL, w_LEN, w_LAL, w_ZAL, w_AAL, w_IAS, w_LAS, w_ZAS, w_AAS, w_RI, w_RL, w_RA, w_NEW, w_NA, w_MNA, w_OI, w_THR, w_CV, w_CS, w_CN9, w_CI9, w_MX, w_cont, lget, sto1, sto2, wideV, vo, vo_rv, isR, isR_rv, rv, fget, fput, cats, Value.category, List.headD_cons, List.getD_cons_zero, List.getD_cons_succ, List.drop_succ_cons, List.drop_zero, List.take_succ_cons, List.take_zero, List.reverse_cons, List.reverse_nil, List.nil_append, List.cons_append, List.length_cons, List.length_nil, cond_true, cond_false, and_true, true_and, Nat.zero_add, Nat.add_zero, Nat.reduceAdd, Nat.reduceLT, Nat.reduceLeDiff, Nat.reduceEqDiff, Nat.reduceBEq, Nat.reduceSub, ↓reduceIte, Int32.reduceOfNat, Int64.reduceOfNat, reduceCtorEq, Nat.le_refl, Nat.zero_le, Bool.false_eq_true, beq_self_eq_true, Fin.isValue, Fin.val_zero, Fin.val_one, Fin.reduceFinMk, Fin.val_two, Nat.reduceMod]
    trace_state
    sorry
  | succ k ih =>
    intro hk
    refine r_X6_overlay (fun n => n == 8) 40 ?_
    simp only [cd_X6_overlay, cf_X6_overlay, wp, wq, wpI, cdF, w_CI, w_CL, w_CN, w_LI, w_LL, w_LA, w_SI, w_SL, w_SA, w_INC, w_II, w_IId, w_LLb, w_LLd, w_LS, w_I1, w_L1, w_I2L, w_L2I, w_CMP, w_DUP, w_POP, w_DUP2, w_IF, w_IC, w_GO, w_NUL, w_ACN, w_sw, w_TAB, w_lk, w_LOOK, prs, w_GF, w_PF, w_GS, w_IAL, w_LEN, w_LAL, w_ZAL, w_AAL, w_IAS, w_LAS, w_ZAS, w_AAS, w_RI, w_RL, w_RA, w_NEW, w_NA, w_MNA, w_OI, w_THR, w_CV, w_CS, w_CN9, w_CI9, w_MX, w_cont, lget, sto1, sto2, wideV, vo, vo_rv, isR, isR_rv, rv, fget, fput, cats, Value.category, List.headD_cons, List.getD_cons_zero, List.getD_cons_succ, List.drop_succ_cons, List.drop_zero, List.take_succ_cons, List.take_zero, List.reverse_cons, List.reverse_nil, List.nil_append, List.cons_append, List.length_cons, List.length_nil, cond_true, cond_false, and_true, true_and, Nat.zero_add, Nat.add_zero, Nat.reduceAdd, Nat.reduceLT, Nat.reduceLeDiff, Nat.reduceEqDiff, Nat.reduceBEq, Nat.reduceSub, ↓reduceIte, Int32.reduceOfNat, Int64.reduceOfNat, reduceCtorEq, Nat.le_refl, Nat.zero_le, Bool.false_eq_true, beq_self_eq_true, Fin.isValue, Fin.val_zero, Fin.val_one, Fin.reduceFinMk, Fin.val_two, Nat.reduceMod, h.1, h.2.2.1, hasK_sRow, mR_sRow, nI_clamp (show s < 2 ^ 31 by omega), h.2.2.2.2.2.1 s hs]
    trace_state
    sorry
end MSG
