/-! SEARCHES IN THE TABLE -/
section TBH
variable {G : En} {M M0 : Mem} {Q : Option Value → Mem → Prop} {X : String → Mem → Prop} {f : Nat → Nat → Nat} {N K V a b p q r : Nat} {g h : Nat → Nat} {x y z : Int32}
theorem LF.hg {e : Lk} (h : LF M) (ha : a < 600) : hasK M a e = (layF a = some e) := h.hk
theorem nI_mul {a b : Nat} (h : a * b < 2147483648) (ha : a < 2147483648) (hb : b < 2147483648) : nI a * nI b = nI (a * b) := by
  have e : ((a * b : Nat) : Int) = (a : Int) * b := by push_cast; rfl
  rw [i_eq, i_mul] <;> rw [nI_toInt (n := a) (by omega), nI_toInt (n := b) (by omega)]
  · rw [nI_toInt (by omega), e]
  · rw [← e]; omega
theorem nI_sub {a b : Nat} (h : b ≤ a) (ha : a < 2147483648) : nI a - nI b = nI (a - b) := by
  rw [i_eq, i_sub] <;> rw [nI_toInt (n := a) (by omega), nI_toInt (n := b) (by omega)]
  · rw [nI_toInt (by omega)]; omega
  · omega
theorem i10z : ((10 : Int32) = 0) = False := eq_false (by decide)
theorem fsn_congr {P R : Nat → Bool} {n : Nat} (h : ∀ k, k < n → P k = R k) : fsn P n = fsn R n := by
  by_cases e : fsn R n < n
  · exact fsn_eq e (by rw [h _ e]; exact fsn_t e) (fun j hj => by rw [h j (by omega)]; exact fsn_f hj)
  · have := fsn_le (P := R) (n := n)
    rw [show fsn R n = n by omega]
    exact fsn_n (fun j hj => by rw [h j hj]; exact fsn_f (n := n) (by omega))
/-- the places of the routes with these words -/
def rtP (M : Mem) (a b : Nat) (x y : Int32) (k : Nat) : Bool := decide (mI M a k = x ∧ mI M b k = y)
theorem lp_findRoute (hL : LF M) (hn : mI M 1 7 = nI N) (hN : N ≤ 40) (hQ : Q (some (.int (if fsn (rtP M 4 5 x y) N < N then nI (fsn (rtP M 4 5 x y) N) else -1))) M) : ∀ (m k : Nat), m + k = N → (∀ j, j < k → rtP M 4 5 x y j = false) → Go G (MT 113) Q X 2 [some (.ref 1), some (.int x), some (.int y), some (.int (nI k))] [] M 0 0 := by
  intro m
  induction m with
  | zero =>
    intro k hk hp
    have hk : k = N := by omega
    subst hk
    refine r_X10_findRoute (fun n => n == 2) 40 ?_
    simp only [cd_X10_findRoute, cf_X10_findRoute, wp, wq, wpI, cdF, w_CI, w_CL, w_CN, w_LI, w_LL, w_LA, w_SI, w_SL, w_SA, w_INC, w_II, w_IId, w_LLb, w_LLd, w_LS, w_I1, w_L1, w_I2L, w_L2I, w_CMP, w_DUP, w_POP, w_DUP2, w_IF, w_IC, w_GO, w_NUL, w_ACN, prs, w_GF, w_PF, w_GS, w_IAL, w_LEN, w_LAL, w_ZAL, w_AAL, w_IAS, w_LAS, w_ZAS, w_AAS, w_RI, w_RL, w_RA, w_NEW, w_NA, w_MNA, w_OI, w_THR, w_CV, w_CS, w_CN9, w_CI9, w_MX, w_cont, lget, sto1, sto2, wideV, vo, vo_rv, isR, isR_rv, rv, fget, fput, cats, Value.category, List.headD_cons, List.getD_cons_zero, List.getD_cons_succ, List.drop_succ_cons, List.drop_zero, List.take_succ_cons, List.take_zero, List.reverse_cons, List.reverse_nil, List.nil_append, List.cons_append, List.length_cons, List.length_nil, cond_true, cond_false, and_true, true_and, Nat.zero_add, Nat.add_zero, Nat.reduceAdd, Nat.reduceLT, Nat.reduceLeDiff, Nat.reduceEqDiff, Nat.reduceBEq, Nat.reduceSub, ↓reduceIte, Int32.reduceOfNat, Int64.reduceOfNat, reduceCtorEq, Nat.le_refl, Nat.zero_le, Bool.false_eq_true, beq_self_eq_true, Fin.isValue, Fin.val_zero, Fin.val_one, Fin.reduceFinMk, Fin.val_two, Nat.reduceMod, Bool.or_false, Bool.or_true, Bool.true_or, Bool.false_or, not_true_eq_false, not_false_eq_true, true_or, or_true, implies_true, false_implies, true_implies, Int32.reduceLT, Int32.reduceLE, ↓w_TAB3, ↓w_TAB4, ↓w_TAB5, ↓w_TAB7, ↓w_TAB10, ↓w_LK2, ↓w_LK6, false_and, and_false, i1z, i2z, iz1, im0, im1, l0z, hasK_uI, hasK_uL, hasK_uR, hasK_uZ, hasK_sRow, mR_uI, mR_uL, mR_uZ, mR_sRow, mI_uL, mI_uR, mI_uZ, mL_uI, mL_uR, mL_uZ, mL_sRow, LF.hk hL, layF, LF.r hL, refF, ne_eq, not_false_eq_true, Option.some.injEq, Sum.inl.injEq, Sum.inr.injEq, Prod.mk.injEq, exists_eq_left, exists_eq_left', hn]
    refine ⟨fun _ => ?_, fun q => absurd (nI_le (Nat.le_refl k) (by omega)) q⟩
    rw [fsn_n hp, if_neg (by omega)] at hQ
    exact hQ
  | succ m ih =>
    intro k hk hp
    have tk := nI_toInt (n := k) (by omega)
    have tN := nI_toInt (n := N) (by omega)
    have ck := nI_clamp (n := k) (by omega)
    have ih' := ih (k + 1) (by omega)
    have hnx : rtP M 4 5 x y k = false → ∀ j, j < k + 1 → rtP M 4 5 x y j = false := fun h j hj => by
      by_cases e : j = k
      · subst e; exact h
      · exact hp j (by omega)
    refine r_X10_findRoute (fun n => n == 2) 40 ?_
    simp only [cd_X10_findRoute, cf_X10_findRoute, wp, wq, wpI, cdF, w_CI, w_CL, w_CN, w_LI, w_LL, w_LA, w_SI, w_SL, w_SA, w_INC, w_II, w_IId, w_LLb, w_LLd, w_LS, w_I1, w_L1, w_I2L, w_L2I, w_CMP, w_DUP, w_POP, w_DUP2, w_IF, w_IC, w_GO, w_NUL, w_ACN, prs, w_GF, w_PF, w_GS, w_IAL, w_LEN, w_LAL, w_ZAL, w_AAL, w_IAS, w_LAS, w_ZAS, w_AAS, w_RI, w_RL, w_RA, w_NEW, w_NA, w_MNA, w_OI, w_THR, w_CV, w_CS, w_CN9, w_CI9, w_MX, w_cont, lget, sto1, sto2, wideV, vo, vo_rv, isR, isR_rv, rv, fget, fput, cats, Value.category, List.headD_cons, List.getD_cons_zero, List.getD_cons_succ, List.drop_succ_cons, List.drop_zero, List.take_succ_cons, List.take_zero, List.reverse_cons, List.reverse_nil, List.nil_append, List.cons_append, List.length_cons, List.length_nil, cond_true, cond_false, and_true, true_and, Nat.zero_add, Nat.add_zero, Nat.reduceAdd, Nat.reduceLT, Nat.reduceLeDiff, Nat.reduceEqDiff, Nat.reduceBEq, Nat.reduceSub, ↓reduceIte, Int32.reduceOfNat, Int64.reduceOfNat, reduceCtorEq, Nat.le_refl, Nat.zero_le, Bool.false_eq_true, beq_self_eq_true, Fin.isValue, Fin.val_zero, Fin.val_one, Fin.reduceFinMk, Fin.val_two, Nat.reduceMod, Bool.or_false, Bool.or_true, Bool.true_or, Bool.false_or, not_true_eq_false, not_false_eq_true, true_or, or_true, implies_true, false_implies, true_implies, Int32.reduceLT, Int32.reduceLE, ↓w_TAB3, ↓w_TAB4, ↓w_TAB5, ↓w_TAB7, ↓w_TAB10, ↓w_LK2, ↓w_LK6, false_and, and_false, i1z, i2z, iz1, im0, im1, l0z, hasK_uI, hasK_uL, hasK_uR, hasK_uZ, hasK_sRow, mR_uI, mR_uL, mR_uZ, mR_sRow, mI_uL, mI_uR, mI_uZ, mL_uI, mL_uR, mL_uZ, mL_sRow, LF.hk hL, layF, LF.r hL, refF, ne_eq, not_false_eq_true, Option.some.injEq, Sum.inl.injEq, Sum.inr.injEq, Prod.mk.injEq, exists_eq_left, exists_eq_left', hn, ck, nI_1]
    refine and_ii (fun q => ?_) (fun _ => ⟨vp_in_nI (by omega) (by omega), and_ii (fun q => ?_) (fun q => ⟨vp_in_nI (by omega) (by omega), and_ii (fun q2 => ?_) (fun q2 => ?_)⟩)⟩)
    · exfalso; (simp only [i_lt, i_le, i_eq, l_lt, l_le, l_eq, Int32.toInt_toInt64, Int32.reduceToInt, Int64.reduceToInt, ne_eq, Classical.not_not] at *; omega)
    · exact ih' (hnx (by unfold rtP; exact decide_eq_false (fun e => q e.1)))
    · exact ih' (hnx (by unfold rtP; exact decide_eq_false (fun e => q2 e.2)))
    · have e : fsn (rtP M 4 5 x y) N = k := fsn_eq (by omega) (by unfold rtP; exact decide_eq_true ⟨Classical.not_not.mp q, Classical.not_not.mp q2⟩) hp
      rw [e, if_pos (by omega)] at hQ
      exact hQ
theorem c_findRoute (hL : LF M) (hn : mI M 1 7 = nI N) (hN : N ≤ 40) (hQ : Q (some (.int (if fsn (rtP M 4 5 x y) N < N then nI (fsn (rtP M 4 5 x y) N) else -1))) M) : Ct G (MT 113) [.ref 1, .int x, .int y] M Q X := by
  refine Ct.go (L0 := [some (.ref 1), some (.int x), some (.int y), none]) (by decide +kernel) rfl rfl ?_
  refine r_X10_findRoute (fun n => n == 2) 40 ?_
  simp only [cd_X10_findRoute, cf_X10_findRoute, wp, wq, wpI, cdF, w_CI, w_CL, w_CN, w_LI, w_LL, w_LA, w_SI, w_SL, w_SA, w_INC, w_II, w_IId, w_LLb, w_LLd, w_LS, w_I1, w_L1, w_I2L, w_L2I, w_CMP, w_DUP, w_POP, w_DUP2, w_IF, w_IC, w_GO, w_NUL, w_ACN, prs, w_GF, w_PF, w_GS, w_IAL, w_LEN, w_LAL, w_ZAL, w_AAL, w_IAS, w_LAS, w_ZAS, w_AAS, w_RI, w_RL, w_RA, w_NEW, w_NA, w_MNA, w_OI, w_THR, w_CV, w_CS, w_CN9, w_CI9, w_MX, w_cont, lget, sto1, sto2, wideV, vo, vo_rv, isR, isR_rv, rv, fget, fput, cats, Value.category, List.headD_cons, List.getD_cons_zero, List.getD_cons_succ, List.drop_succ_cons, List.drop_zero, List.take_succ_cons, List.take_zero, List.reverse_cons, List.reverse_nil, List.nil_append, List.cons_append, List.length_cons, List.length_nil, cond_true, cond_false, and_true, true_and, Nat.zero_add, Nat.add_zero, Nat.reduceAdd, Nat.reduceLT, Nat.reduceLeDiff, Nat.reduceEqDiff, Nat.reduceBEq, Nat.reduceSub, ↓reduceIte, Int32.reduceOfNat, Int64.reduceOfNat, reduceCtorEq, Nat.le_refl, Nat.zero_le, Bool.false_eq_true, beq_self_eq_true, Fin.isValue, Fin.val_zero, Fin.val_one, Fin.reduceFinMk, Fin.val_two, Nat.reduceMod, Bool.or_false, Bool.or_true, Bool.true_or, Bool.false_or, not_true_eq_false, not_false_eq_true, true_or, or_true, implies_true, false_implies, true_implies, Int32.reduceLT, Int32.reduceLE, ↓w_TAB3, ↓w_TAB4, ↓w_TAB5, ↓w_TAB7, ↓w_TAB10, ↓w_LK2, ↓w_LK6, false_and, and_false, i1z, i2z, iz1, im0, im1, l0z]
  exact lp_findRoute hL hn hN hQ N 0 (by omega) (fun j hj => by omega)
theorem lp_tenTo (hK : K ≤ 18) (hQ : Q (some (.long (lI (10 ^ K : Nat)))) M) : ∀ (m i : Nat), m + i = K → Go G (MT 175) Q X 4 [some (.int (nI K)), some (.long (lI (10 ^ i : Nat))), none, some (.int (nI i))] [] M 0 0 := by
  intro m
  induction m with
  | zero =>
    intro i hi
    have hi : i = K := by omega
    subst hi
    refine r_X11_tenTo (fun n => n == 4) 40 ?_
    simp only [cd_X11_tenTo, cf_X11_tenTo, wp, wq, wpI, cdF, w_CI, w_CL, w_CN, w_LI, w_LL, w_LA, w_SI, w_SL, w_SA, w_INC, w_II, w_IId, w_LLb, w_LLd, w_LS, w_I1, w_L1, w_I2L, w_L2I, w_CMP, w_DUP, w_POP, w_DUP2, w_IF, w_IC, w_GO, w_NUL, w_ACN, prs, w_GF, w_PF, w_GS, w_IAL, w_LEN, w_LAL, w_ZAL, w_AAL, w_IAS, w_LAS, w_ZAS, w_AAS, w_RI, w_RL, w_RA, w_NEW, w_NA, w_MNA, w_OI, w_THR, w_CV, w_CS, w_CN9, w_CI9, w_MX, w_cont, lget, sto1, sto2, wideV, vo, vo_rv, isR, isR_rv, rv, fget, fput, cats, Value.category, List.headD_cons, List.getD_cons_zero, List.getD_cons_succ, List.drop_succ_cons, List.drop_zero, List.take_succ_cons, List.take_zero, List.reverse_cons, List.reverse_nil, List.nil_append, List.cons_append, List.length_cons, List.length_nil, cond_true, cond_false, and_true, true_and, Nat.zero_add, Nat.add_zero, Nat.reduceAdd, Nat.reduceLT, Nat.reduceLeDiff, Nat.reduceEqDiff, Nat.reduceBEq, Nat.reduceSub, ↓reduceIte, Int32.reduceOfNat, Int64.reduceOfNat, reduceCtorEq, Nat.le_refl, Nat.zero_le, Bool.false_eq_true, beq_self_eq_true, Fin.isValue, Fin.val_zero, Fin.val_one, Fin.reduceFinMk, Fin.val_two, Nat.reduceMod, Bool.or_false, Bool.or_true, Bool.true_or, Bool.false_or, not_true_eq_false, not_false_eq_true, true_or, or_true, implies_true, false_implies, true_implies, Int32.reduceLT, Int32.reduceLE, ↓w_TAB3, ↓w_TAB4, ↓w_TAB5, ↓w_TAB7, ↓w_TAB10, ↓w_LK2, ↓w_LK6, false_and, and_false, i1z, i2z, iz1, im0, im1, l0z]
    exact ⟨fun _ => hQ, fun q => absurd (nI_le (Nat.le_refl i) (by omega)) q⟩
  | succ m ih =>
    intro i hi
    have ti := nI_toInt (n := i) (by omega)
    have tK := nI_toInt (n := K) (by omega)
    have ih' := ih (i + 1) (by omega)
    have e : lI ((10 ^ i : Nat) : Int) * 10 = lI ((10 ^ (i + 1) : Nat) : Int) := by
      rw [show (10 : Int64) = lI 10 from rfl, lI_mul, Nat.pow_succ]
      congr 1
    refine r_X11_tenTo (fun n => n == 4) 40 ?_
    simp only [cd_X11_tenTo, cf_X11_tenTo, wp, wq, wpI, cdF, w_CI, w_CL, w_CN, w_LI, w_LL, w_LA, w_SI, w_SL, w_SA, w_INC, w_II, w_IId, w_LLb, w_LLd, w_LS, w_I1, w_L1, w_I2L, w_L2I, w_CMP, w_DUP, w_POP, w_DUP2, w_IF, w_IC, w_GO, w_NUL, w_ACN, prs, w_GF, w_PF, w_GS, w_IAL, w_LEN, w_LAL, w_ZAL, w_AAL, w_IAS, w_LAS, w_ZAS, w_AAS, w_RI, w_RL, w_RA, w_NEW, w_NA, w_MNA, w_OI, w_THR, w_CV, w_CS, w_CN9, w_CI9, w_MX, w_cont, lget, sto1, sto2, wideV, vo, vo_rv, isR, isR_rv, rv, fget, fput, cats, Value.category, List.headD_cons, List.getD_cons_zero, List.getD_cons_succ, List.drop_succ_cons, List.drop_zero, List.take_succ_cons, List.take_zero, List.reverse_cons, List.reverse_nil, List.nil_append, List.cons_append, List.length_cons, List.length_nil, cond_true, cond_false, and_true, true_and, Nat.zero_add, Nat.add_zero, Nat.reduceAdd, Nat.reduceLT, Nat.reduceLeDiff, Nat.reduceEqDiff, Nat.reduceBEq, Nat.reduceSub, ↓reduceIte, Int32.reduceOfNat, Int64.reduceOfNat, reduceCtorEq, Nat.le_refl, Nat.zero_le, Bool.false_eq_true, beq_self_eq_true, Fin.isValue, Fin.val_zero, Fin.val_one, Fin.reduceFinMk, Fin.val_two, Nat.reduceMod, Bool.or_false, Bool.or_true, Bool.true_or, Bool.false_or, not_true_eq_false, not_false_eq_true, true_or, or_true, implies_true, false_implies, true_implies, Int32.reduceLT, Int32.reduceLE, ↓w_TAB3, ↓w_TAB4, ↓w_TAB5, ↓w_TAB7, ↓w_TAB10, ↓w_LK2, ↓w_LK6, false_and, and_false, i1z, i2z, iz1, im0, im1, l0z, e, nI_1]
    refine and_ii (fun q => ?_) (fun _ => ih')
    exfalso; (simp only [i_lt, i_le, i_eq, l_lt, l_le, l_eq, Int32.toInt_toInt64, Int32.reduceToInt, Int64.reduceToInt, ne_eq, Classical.not_not] at *; omega)
theorem c_tenTo (hK : K ≤ 18) (hx : x = nI K) (hQ : Q (some (.long (lI (10 ^ K : Nat)))) M) : Ct G (MT 175) [.int x] M Q X := by
  subst hx
  refine Ct.go (L0 := [some (.int (nI K)), none, none, none]) (by decide +kernel) rfl rfl ?_
  refine r_X11_tenTo (fun n => n == 4) 40 ?_
  simp only [cd_X11_tenTo, cf_X11_tenTo, wp, wq, wpI, cdF, w_CI, w_CL, w_CN, w_LI, w_LL, w_LA, w_SI, w_SL, w_SA, w_INC, w_II, w_IId, w_LLb, w_LLd, w_LS, w_I1, w_L1, w_I2L, w_L2I, w_CMP, w_DUP, w_POP, w_DUP2, w_IF, w_IC, w_GO, w_NUL, w_ACN, prs, w_GF, w_PF, w_GS, w_IAL, w_LEN, w_LAL, w_ZAL, w_AAL, w_IAS, w_LAS, w_ZAS, w_AAS, w_RI, w_RL, w_RA, w_NEW, w_NA, w_MNA, w_OI, w_THR, w_CV, w_CS, w_CN9, w_CI9, w_MX, w_cont, lget, sto1, sto2, wideV, vo, vo_rv, isR, isR_rv, rv, fget, fput, cats, Value.category, List.headD_cons, List.getD_cons_zero, List.getD_cons_succ, List.drop_succ_cons, List.drop_zero, List.take_succ_cons, List.take_zero, List.reverse_cons, List.reverse_nil, List.nil_append, List.cons_append, List.length_cons, List.length_nil, cond_true, cond_false, and_true, true_and, Nat.zero_add, Nat.add_zero, Nat.reduceAdd, Nat.reduceLT, Nat.reduceLeDiff, Nat.reduceEqDiff, Nat.reduceBEq, Nat.reduceSub, ↓reduceIte, Int32.reduceOfNat, Int64.reduceOfNat, reduceCtorEq, Nat.le_refl, Nat.zero_le, Bool.false_eq_true, beq_self_eq_true, Fin.isValue, Fin.val_zero, Fin.val_one, Fin.reduceFinMk, Fin.val_two, Nat.reduceMod, Bool.or_false, Bool.or_true, Bool.true_or, Bool.false_or, not_true_eq_false, not_false_eq_true, true_or, or_true, implies_true, false_implies, true_implies, Int32.reduceLT, Int32.reduceLE, ↓w_TAB3, ↓w_TAB4, ↓w_TAB5, ↓w_TAB7, ↓w_TAB10, ↓w_LK2, ↓w_LK6, false_and, and_false, i1z, i2z, iz1, im0, im1, l0z]
  exact lp_tenTo hK hQ K 0 (by omega)
theorem lsum_le {g : Nat → Nat} (hg : ∀ k, g k < 10) : ∀ k, lsum g k ≤ 9 * k
  | 0 => by simp [lsum]
  | k + 1 => by
    rw [lsum]
    have := lsum_le hg k
    have := hg k
    split
    · omega
    · split <;> omega
theorem lp_isGood {v : Int64} (hN : N < 1000000000000000000) (hQ : Q (some (.int (b2i (lsum (fun k => N / 10 ^ k % 10) 19 % 10 = 0)))) M) : ∀ (m i : Nat) (l : Option Value), m + i = 19 → Go G (MT 176) Q X 7 [some (.long v), none, some (.int (nI (lsum (fun k => N / 10 ^ k % 10) i))), some (.long (lI (N / 10 ^ i : Nat))), none, some (.int (nI i)), l] [] M 0 0 := by
  have hg : ∀ k, (fun k => N / 10 ^ k % 10) k < 10 := fun k => Nat.mod_lt _ (by omega)
  intro m
  induction m with
  | zero =>
    intro i l hi
    have hi : i = 19 := by omega
    subst hi
    have hb := lsum_le hg 19
    generalize lsum (fun k => N / 10 ^ k % 10) 19 = W at *
    have er : nI W - nI W / 10 * 10 = nI (W % 10) := nI_rem (b := 10) (by omega) (by omega) (by omega)
    have tw := nI_toInt (n := W % 10) (by omega)
    refine r_X11_isGood (fun n => n == 7) 60 ?_
    simp only [cd_X11_isGood, cf_X11_isGood, wp, wq, wpI, cdF, w_CI, w_CL, w_CN, w_LI, w_LL, w_LA, w_SI, w_SL, w_SA, w_INC, w_II, w_IId, w_LLb, w_LLd, w_LS, w_I1, w_L1, w_I2L, w_L2I, w_CMP, w_DUP, w_POP, w_DUP2, w_IF, w_IC, w_GO, w_NUL, w_ACN, prs, w_GF, w_PF, w_GS, w_IAL, w_LEN, w_LAL, w_ZAL, w_AAL, w_IAS, w_LAS, w_ZAS, w_AAS, w_RI, w_RL, w_RA, w_NEW, w_NA, w_MNA, w_OI, w_THR, w_CV, w_CS, w_CN9, w_CI9, w_MX, w_cont, lget, sto1, sto2, wideV, vo, vo_rv, isR, isR_rv, rv, fget, fput, cats, Value.category, List.headD_cons, List.getD_cons_zero, List.getD_cons_succ, List.drop_succ_cons, List.drop_zero, List.take_succ_cons, List.take_zero, List.reverse_cons, List.reverse_nil, List.nil_append, List.cons_append, List.length_cons, List.length_nil, cond_true, cond_false, and_true, true_and, Nat.zero_add, Nat.add_zero, Nat.reduceAdd, Nat.reduceLT, Nat.reduceLeDiff, Nat.reduceEqDiff, Nat.reduceBEq, Nat.reduceSub, ↓reduceIte, Int32.reduceOfNat, Int64.reduceOfNat, reduceCtorEq, Nat.le_refl, Nat.zero_le, Bool.false_eq_true, beq_self_eq_true, Fin.isValue, Fin.val_zero, Fin.val_one, Fin.reduceFinMk, Fin.val_two, Nat.reduceMod, Bool.or_false, Bool.or_true, Bool.true_or, Bool.false_or, not_true_eq_false, not_false_eq_true, true_or, or_true, implies_true, false_implies, true_implies, Int32.reduceLT, Int32.reduceLE, ↓w_TAB3, ↓w_TAB4, ↓w_TAB5, ↓w_TAB7, ↓w_TAB10, ↓w_LK2, ↓w_LK6, false_and, and_false, i1z, i2z, iz1, im0, im1, l0z, i10z, er]
    refine ⟨fun _ => ?_, fun q => absurd (by decide) q⟩
    refine and_ii (fun q => ?_) (fun q => ?_)
    · rw [b2i_f (by (simp only [i_lt, i_le, i_eq, l_lt, l_le, l_eq, Int32.toInt_toInt64, Int32.reduceToInt, Int64.reduceToInt, ne_eq, Classical.not_not] at *; omega))] at hQ; exact hQ
    · rw [b2i_t (by (simp only [i_lt, i_le, i_eq, l_lt, l_le, l_eq, Int32.toInt_toInt64, Int32.reduceToInt, Int64.reduceToInt, ne_eq, Classical.not_not] at *; omega))] at hQ; exact hQ
  | succ m ih =>
    intro i l hi
    have ti := nI_toInt (n := i) (by omega)
    have hb := lsum_le hg i
    have ih' := ih (i + 1)
    have hle : N / 10 ^ i ≤ N := Nat.div_le_self _ _
    have e3 : N / 10 ^ i / 10 = N / 10 ^ (i + 1) := by rw [Nat.pow_succ, ← Nat.div_div_eq_div_mul]
    rw [lsum] at ih'
    generalize lsum (fun k => N / 10 ^ k % 10) i = W at *
    rw [← e3] at ih'
    generalize N / 10 ^ i = u at *
    have e0 := lI_rem (x := (u : Int)) (y := (10 : Nat)) (by omega) (by unfold fL; omega) (by omega) (by unfold fL; omega)
    have e2 := lI_div (x := (u : Int)) (y := (10 : Nat)) (by omega) (by unfold fL; omega) (by omega) (by unfold fL; omega)
    rw [← Int.natCast_emod] at e0
    rw [← Int.natCast_ediv] at e2
    rw [show lI ((10 : Nat) : Int) = (10 : Int64) from rfl] at e0 e2
    have e4 : nI i - nI i / 2 * 2 = nI (i % 2) := nI_rem (b := 2) (by omega) (by omega) (by omega)
    have hu : u % 10 < 10 := Nat.mod_lt _ (by omega)
    have e5 : (lI u - lI u / 10 * 10).toInt32 * (nI i - nI i / 2 * 2 + 1) = nI (u % 10 * (i % 2 + 1)) := by
      rw [e0, lI_i32 (by omega), e4, nI_1]
      refine nI_mul ?_ (by omega) (by omega)
      have : u % 10 * (i % 2 + 1) ≤ 9 * 2 := Nat.mul_le_mul (by omega) (by omega)
      omega
    have hD : u % 10 * (i % 2 + 1) ≤ 18 := by
      have : u % 10 * (i % 2 + 1) ≤ 9 * 2 := Nat.mul_le_mul (by omega) (by omega)
      omega
    have tD := nI_toInt (n := u % 10 * (i % 2 + 1)) (by omega)
    refine r_X11_isGood (fun n => n == 7) 60 ?_
    simp only [cd_X11_isGood, cf_X11_isGood, wp, wq, wpI, cdF, w_CI, w_CL, w_CN, w_LI, w_LL, w_LA, w_SI, w_SL, w_SA, w_INC, w_II, w_IId, w_LLb, w_LLd, w_LS, w_I1, w_L1, w_I2L, w_L2I, w_CMP, w_DUP, w_POP, w_DUP2, w_IF, w_IC, w_GO, w_NUL, w_ACN, prs, w_GF, w_PF, w_GS, w_IAL, w_LEN, w_LAL, w_ZAL, w_AAL, w_IAS, w_LAS, w_ZAS, w_AAS, w_RI, w_RL, w_RA, w_NEW, w_NA, w_MNA, w_OI, w_THR, w_CV, w_CS, w_CN9, w_CI9, w_MX, w_cont, lget, sto1, sto2, wideV, vo, vo_rv, isR, isR_rv, rv, fget, fput, cats, Value.category, List.headD_cons, List.getD_cons_zero, List.getD_cons_succ, List.drop_succ_cons, List.drop_zero, List.take_succ_cons, List.take_zero, List.reverse_cons, List.reverse_nil, List.nil_append, List.cons_append, List.length_cons, List.length_nil, cond_true, cond_false, and_true, true_and, Nat.zero_add, Nat.add_zero, Nat.reduceAdd, Nat.reduceLT, Nat.reduceLeDiff, Nat.reduceEqDiff, Nat.reduceBEq, Nat.reduceSub, ↓reduceIte, Int32.reduceOfNat, Int64.reduceOfNat, reduceCtorEq, Nat.le_refl, Nat.zero_le, Bool.false_eq_true, beq_self_eq_true, Fin.isValue, Fin.val_zero, Fin.val_one, Fin.reduceFinMk, Fin.val_two, Nat.reduceMod, Bool.or_false, Bool.or_true, Bool.true_or, Bool.false_or, not_true_eq_false, not_false_eq_true, true_or, or_true, implies_true, false_implies, true_implies, Int32.reduceLT, Int32.reduceLE, ↓w_TAB3, ↓w_TAB4, ↓w_TAB5, ↓w_TAB7, ↓w_TAB10, ↓w_LK2, ↓w_LK6, false_and, and_false, i1z, i2z, iz1, im0, im1, l0z, i2z, nI_1]
    rw [e5, e2]
    refine and_ii (fun q => ?_) (fun _ => and_ii (fun q => ?_) (fun q => ?_))
    · exfalso; (simp only [i_lt, i_le, i_eq, l_lt, l_le, l_eq, Int32.toInt_toInt64, Int32.reduceToInt, Int64.reduceToInt, ne_eq, Classical.not_not] at *; omega)
    · have hq : u % 10 * (i % 2 + 1) ≤ 9 := by (simp only [i_lt, i_le, i_eq, l_lt, l_le, l_eq, Int32.toInt_toInt64, Int32.reduceToInt, Int64.reduceToInt, ne_eq, Classical.not_not] at *; omega)
      rw [nI_add]
      have e6 : (if i % 2 = 0 then u % 10 else if u % 10 < 5 then 2 * (u % 10) else 2 * (u % 10) - 9) = u % 10 * (i % 2 + 1) := by
        by_cases ei : i % 2 = 0
        · rw [if_pos ei, ei]; omega
        · have : i % 2 = 1 := by omega
          rw [this] at hq ⊢
          rw [if_neg (by omega), if_pos (by omega)]; omega
      rw [e6] at ih'
      exact ih' _ (by omega)
    · have hq : ¬ u % 10 * (i % 2 + 1) ≤ 9 := by (simp only [i_lt, i_le, i_eq, l_lt, l_le, l_eq, Int32.toInt_toInt64, Int32.reduceToInt, Int64.reduceToInt, ne_eq, Classical.not_not] at *; omega)
      have e7 : nI (u % 10 * (i % 2 + 1)) - 9 = nI (u % 10 * (i % 2 + 1) - 9) := nI_sub (b := 9) (by omega) (by omega)
      rw [e7, nI_add]
      have e6 : (if i % 2 = 0 then u % 10 else if u % 10 < 5 then 2 * (u % 10) else 2 * (u % 10) - 9) = u % 10 * (i % 2 + 1) - 9 := by
        by_cases ei : i % 2 = 0
        · rw [ei] at hq; omega
        · have : i % 2 = 1 := by omega
          rw [this] at hq ⊢
          rw [if_neg (by omega), if_neg (by omega)]; omega
      rw [e6] at ih'
      exact ih' _ (by omega)
theorem c_isGood {v : Int64} (hv : v = lI N) (hN : N < 1000000000000000000) (hQ : Q (some (.int (b2i (lsum (fun k => N / 10 ^ k % 10) 19 % 10 = 0)))) M) : Ct G (MT 176) [.long v] M Q X := by
  subst hv
  refine Ct.go (L0 := [some (.long (lI N)), none, none, none, none, none, none]) (by decide +kernel) rfl rfl ?_
  refine r_X11_isGood (fun n => n == 7) 60 ?_
  simp only [cd_X11_isGood, cf_X11_isGood, wp, wq, wpI, cdF, w_CI, w_CL, w_CN, w_LI, w_LL, w_LA, w_SI, w_SL, w_SA, w_INC, w_II, w_IId, w_LLb, w_LLd, w_LS, w_I1, w_L1, w_I2L, w_L2I, w_CMP, w_DUP, w_POP, w_DUP2, w_IF, w_IC, w_GO, w_NUL, w_ACN, prs, w_GF, w_PF, w_GS, w_IAL, w_LEN, w_LAL, w_ZAL, w_AAL, w_IAS, w_LAS, w_ZAS, w_AAS, w_RI, w_RL, w_RA, w_NEW, w_NA, w_MNA, w_OI, w_THR, w_CV, w_CS, w_CN9, w_CI9, w_MX, w_cont, lget, sto1, sto2, wideV, vo, vo_rv, isR, isR_rv, rv, fget, fput, cats, Value.category, List.headD_cons, List.getD_cons_zero, List.getD_cons_succ, List.drop_succ_cons, List.drop_zero, List.take_succ_cons, List.take_zero, List.reverse_cons, List.reverse_nil, List.nil_append, List.cons_append, List.length_cons, List.length_nil, cond_true, cond_false, and_true, true_and, Nat.zero_add, Nat.add_zero, Nat.reduceAdd, Nat.reduceLT, Nat.reduceLeDiff, Nat.reduceEqDiff, Nat.reduceBEq, Nat.reduceSub, ↓reduceIte, Int32.reduceOfNat, Int64.reduceOfNat, reduceCtorEq, Nat.le_refl, Nat.zero_le, Bool.false_eq_true, beq_self_eq_true, Fin.isValue, Fin.val_zero, Fin.val_one, Fin.reduceFinMk, Fin.val_two, Nat.reduceMod, Bool.or_false, Bool.or_true, Bool.true_or, Bool.false_or, not_true_eq_false, not_false_eq_true, true_or, or_true, implies_true, false_implies, true_implies, Int32.reduceLT, Int32.reduceLE, ↓w_TAB3, ↓w_TAB4, ↓w_TAB5, ↓w_TAB7, ↓w_TAB10, ↓w_LK2, ↓w_LK6, false_and, and_false, i1z, i2z, iz1, im0, im1, l0z]
  have := lp_isGood (G := G) (X := X) (v := lI N) hN hQ 19 0 none (by omega)
  rw [Nat.pow_zero, Nat.div_one] at this
  exact this
/-- the routes' rows in the class -/
def rtC (f : Nat → Nat → Nat) (N : Nat) (M : Mem) : Prop := mI M 1 7 = nI N ∧ N ≤ 40 ∧ ∀ i, i < N → mI M 4 i = nI (f 504 i) ∧ mI M 5 i = nI (f 505 i) ∧ mI M 6 i = nI (f 506 i)
def rtM' (f : Nat → Nat → Nat) (N : Nat) (M : Mem) : Prop := mI M 495 24 = nI N ∧ N ≤ 40 ∧ ∀ i, i < N → mI M 504 i = nI (f 504 i) ∧ mI M 505 i = nI (f 505 i) ∧ mI M 506 i = nI (f 506 i)
def rtGd (f : Nat → Nat → Nat) (N : Nat) : Prop := ∀ i, i < N → 1 ≤ f 505 i ∧ f 505 i ≤ 8 ∧ f 504 i < 100000000 ∧ f 506 i < 6
theorem bst_le {ld : Nat → Nat} (hf : rtGd f N) : ∀ k, k ≤ N → (bst f ld K k).2 ≤ 8 ∧ (bst f ld K k).1 ≤ 6
  | 0, _ => ⟨by simp [bst], by simp [bst]⟩
  | k + 1, hk => by
    have h1 := bst_le (ld := ld) hf k (by omega)
    have h2 := hf k (by omega)
    rw [bst]
    split
    · exact ⟨by show f 505 k ≤ 8; omega, by show f 506 k + 1 ≤ 6; omega⟩
    · exact h1
theorem lp_longest {v : Int64} (hv : v = lI V) (hV : V < 9223372036854775808) (hL : LF M) (hK : K ≤ 8) (hr : rtC f N M) (hf : rtGd f N) (hQ : Q (some (.int (nI (bst f (fun d => V / 10 ^ (K - d)) K N).1 - 1))) M) : ∀ (m k : Nat) (l : Option Value), m + k = N → Go G (MT 121) Q X 9 [some (.ref 1), some (.long v), none, some (.int (nI K)), some (.int (nI (bst f (fun d => V / 10 ^ (K - d)) K k).1 - 1)), some (.int (nI (bst f (fun d => V / 10 ^ (K - d)) K k).2)), some (.int (nI k)), l] [] M 0 0 := by
  subst hv
  obtain ⟨h24, h40, hrow⟩ := hr
  intro m
  induction m with
  | zero =>
    intro k l hk
    have hk : k = N := by omega
    subst hk
    refine r_X10_longestRoute (fun n => n == 9 || n == 48) 60 ?_
    simp only [cd_X10_longestRoute, cf_X10_longestRoute, wp, wq, wpI, cdF, w_CI, w_CL, w_CN, w_LI, w_LL, w_LA, w_SI, w_SL, w_SA, w_INC, w_II, w_IId, w_LLb, w_LLd, w_LS, w_I1, w_L1, w_I2L, w_L2I, w_CMP, w_DUP, w_POP, w_DUP2, w_IF, w_IC, w_GO, w_NUL, w_ACN, prs, w_GF, w_PF, w_GS, w_IAL, w_LEN, w_LAL, w_ZAL, w_AAL, w_IAS, w_LAS, w_ZAS, w_AAS, w_RI, w_RL, w_RA, w_NEW, w_NA, w_MNA, w_OI, w_THR, w_CV, w_CS, w_CN9, w_CI9, w_MX, w_cont, lget, sto1, sto2, wideV, vo, vo_rv, isR, isR_rv, rv, fget, fput, cats, Value.category, List.headD_cons, List.getD_cons_zero, List.getD_cons_succ, List.drop_succ_cons, List.drop_zero, List.take_succ_cons, List.take_zero, List.reverse_cons, List.reverse_nil, List.nil_append, List.cons_append, List.length_cons, List.length_nil, cond_true, cond_false, and_true, true_and, Nat.zero_add, Nat.add_zero, Nat.reduceAdd, Nat.reduceLT, Nat.reduceLeDiff, Nat.reduceEqDiff, Nat.reduceBEq, Nat.reduceSub, ↓reduceIte, Int32.reduceOfNat, Int64.reduceOfNat, reduceCtorEq, Nat.le_refl, Nat.zero_le, Bool.false_eq_true, beq_self_eq_true, Fin.isValue, Fin.val_zero, Fin.val_one, Fin.reduceFinMk, Fin.val_two, Nat.reduceMod, Bool.or_false, Bool.or_true, Bool.true_or, Bool.false_or, not_true_eq_false, not_false_eq_true, true_or, or_true, implies_true, false_implies, true_implies, Int32.reduceLT, Int32.reduceLE, ↓w_TAB3, ↓w_TAB4, ↓w_TAB5, ↓w_TAB7, ↓w_TAB10, ↓w_LK2, ↓w_LK6, false_and, and_false, i1z, i2z, iz1, im0, im1, l0z, hasK_uI, hasK_uL, hasK_uR, hasK_uZ, hasK_sRow, mR_uI, mR_uL, mR_uZ, mR_sRow, mI_uL, mI_uR, mI_uZ, mL_uI, mL_uR, mL_uZ, mL_sRow, LF.hk hL, layF, LF.r hL, refF, ne_eq, not_false_eq_true, Option.some.injEq, Sum.inl.injEq, Sum.inr.injEq, Prod.mk.injEq, exists_eq_left, exists_eq_left', h24]
    exact ⟨fun _ => hQ, fun q => absurd (nI_le (Nat.le_refl k) (by omega)) q⟩
  | succ m ih =>
    intro k l hk
    have tk := nI_toInt (n := k) (by omega)
    have tN := nI_toInt (n := N) (by omega)
    have tK := nI_toInt (n := K) (by omega)
    have ck := nI_clamp (n := k) (by omega)
    have ih' := ih (k + 1)
    have hb := bst_le (K := K) (ld := fun d => V / 10 ^ (K - d)) hf k (by omega)
    have hfk := hf k (by omega)
    have hrk := hrow k (by omega)
    rw [bst] at ih'
    have td := nI_toInt (n := f 505 k) (by omega)
    generalize bst f (fun d => V / 10 ^ (K - d)) K k = B at *
    have tb := nI_toInt (n := B.2) (by omega)
    refine r_X10_longestRoute (fun n => n == 9 || n == 48) 60 ?_
    simp only [cd_X10_longestRoute, cf_X10_longestRoute, wp, wq, wpI, cdF, w_CI, w_CL, w_CN, w_LI, w_LL, w_LA, w_SI, w_SL, w_SA, w_INC, w_II, w_IId, w_LLb, w_LLd, w_LS, w_I1, w_L1, w_I2L, w_L2I, w_CMP, w_DUP, w_POP, w_DUP2, w_IF, w_IC, w_GO, w_NUL, w_ACN, prs, w_GF, w_PF, w_GS, w_IAL, w_LEN, w_LAL, w_ZAL, w_AAL, w_IAS, w_LAS, w_ZAS, w_AAS, w_RI, w_RL, w_RA, w_NEW, w_NA, w_MNA, w_OI, w_THR, w_CV, w_CS, w_CN9, w_CI9, w_MX, w_cont, lget, sto1, sto2, wideV, vo, vo_rv, isR, isR_rv, rv, fget, fput, cats, Value.category, List.headD_cons, List.getD_cons_zero, List.getD_cons_succ, List.drop_succ_cons, List.drop_zero, List.take_succ_cons, List.take_zero, List.reverse_cons, List.reverse_nil, List.nil_append, List.cons_append, List.length_cons, List.length_nil, cond_true, cond_false, and_true, true_and, Nat.zero_add, Nat.add_zero, Nat.reduceAdd, Nat.reduceLT, Nat.reduceLeDiff, Nat.reduceEqDiff, Nat.reduceBEq, Nat.reduceSub, ↓reduceIte, Int32.reduceOfNat, Int64.reduceOfNat, reduceCtorEq, Nat.le_refl, Nat.zero_le, Bool.false_eq_true, beq_self_eq_true, Fin.isValue, Fin.val_zero, Fin.val_one, Fin.reduceFinMk, Fin.val_two, Nat.reduceMod, Bool.or_false, Bool.or_true, Bool.true_or, Bool.false_or, not_true_eq_false, not_false_eq_true, true_or, or_true, implies_true, false_implies, true_implies, Int32.reduceLT, Int32.reduceLE, ↓w_TAB3, ↓w_TAB4, ↓w_TAB5, ↓w_TAB7, ↓w_TAB10, ↓w_LK2, ↓w_LK6, false_and, and_false, i1z, i2z, iz1, im0, im1, l0z, hasK_uI, hasK_uL, hasK_uR, hasK_uZ, hasK_sRow, mR_uI, mR_uL, mR_uZ, mR_sRow, mI_uL, mI_uR, mI_uZ, mL_uI, mL_uR, mL_uZ, mL_sRow, LF.hk hL, layF, LF.r hL, refF, ne_eq, not_false_eq_true, Option.some.injEq, Sum.inl.injEq, Sum.inr.injEq, Prod.mk.injEq, exists_eq_left, exists_eq_left', h24, ck, nI_1, hrk.1, hrk.2.1, hrk.2.2]
    refine and_ii (fun q => ?_) (fun _ => ⟨vp_in_nI (by omega) (by omega), and_ii (fun q => ?_) (fun q => and_ii (fun q2 => ?_) (fun q2 => ?_))⟩)
    · exfalso; (simp only [i_lt, i_le, i_eq, l_lt, l_le, l_eq, Int32.toInt_toInt64, Int32.reduceToInt, Int64.reduceToInt, ne_eq, Classical.not_not] at *; omega)
    · rw [if_neg (by (simp only [i_lt, i_le, i_eq, l_lt, l_le, l_eq, Int32.toInt_toInt64, Int32.reduceToInt, Int64.reduceToInt, ne_eq, Classical.not_not] at *; omega))] at ih'
      exact ih' _ (by omega)
    · rw [if_neg (by (simp only [i_lt, i_le, i_eq, l_lt, l_le, l_eq, Int32.toInt_toInt64, Int32.reduceToInt, Int64.reduceToInt, ne_eq, Classical.not_not] at *; omega))] at ih'
      exact ih' _ (by omega)
    · have hd1 : f 505 k ≤ K := by (simp only [i_lt, i_le, i_eq, l_lt, l_le, l_eq, Int32.toInt_toInt64, Int32.reduceToInt, Int64.reduceToInt, ne_eq, Classical.not_not] at *; omega)
      have hd2 : B.2 < f 505 k := by (simp only [i_lt, i_le, i_eq, l_lt, l_le, l_eq, Int32.toInt_toInt64, Int32.reduceToInt, Int64.reduceToInt, ne_eq, Classical.not_not] at *; omega)
      refine c_tenTo (K := K - f 505 k) (by omega) (nI_sub hd1 (by omega)) ⟨_, rfl, ?_⟩
      have hp : 0 < 10 ^ (K - f 505 k) := Nat.pow_pos (by omega)
      have hp2 : 10 ^ (K - f 505 k) ≤ 10 ^ 8 := Nat.pow_le_pow_right (by omega) (by omega)
      have e10 : ¬ lI ((10 ^ (K - f 505 k) : Nat) : Int) = 0 := by
        rw [l_eq, lI_toInt (by unfold fL; omega)]
        intro q3
        rw [show (0 : Int64).toInt = 0 from rfl] at q3
        omega
      have ed := lI_div (x := (V : Int)) (y := ((10 ^ (K - f 505 k) : Nat) : Int)) (by omega) (by unfold fL; omega) (by omega) (by unfold fL; omega)
      rw [← Int.natCast_ediv] at ed
      have hle : V / 10 ^ (K - f 505 k) ≤ V := Nat.div_le_self _ _
      have e4 := nI_lI (n := f 504 k) (by omega)
      refine r_X10_longestRoute (fun n => n == 9 || n == 48) 60 ?_
      simp only [cd_X10_longestRoute, cf_X10_longestRoute, wp, wq, wpI, cdF, w_CI, w_CL, w_CN, w_LI, w_LL, w_LA, w_SI, w_SL, w_SA, w_INC, w_II, w_IId, w_LLb, w_LLd, w_LS, w_I1, w_L1, w_I2L, w_L2I, w_CMP, w_DUP, w_POP, w_DUP2, w_IF, w_IC, w_GO, w_NUL, w_ACN, prs, w_GF, w_PF, w_GS, w_IAL, w_LEN, w_LAL, w_ZAL, w_AAL, w_IAS, w_LAS, w_ZAS, w_AAS, w_RI, w_RL, w_RA, w_NEW, w_NA, w_MNA, w_OI, w_THR, w_CV, w_CS, w_CN9, w_CI9, w_MX, w_cont, lget, sto1, sto2, wideV, vo, vo_rv, isR, isR_rv, rv, fget, fput, cats, Value.category, List.headD_cons, List.getD_cons_zero, List.getD_cons_succ, List.drop_succ_cons, List.drop_zero, List.take_succ_cons, List.take_zero, List.reverse_cons, List.reverse_nil, List.nil_append, List.cons_append, List.length_cons, List.length_nil, cond_true, cond_false, and_true, true_and, Nat.zero_add, Nat.add_zero, Nat.reduceAdd, Nat.reduceLT, Nat.reduceLeDiff, Nat.reduceEqDiff, Nat.reduceBEq, Nat.reduceSub, ↓reduceIte, Int32.reduceOfNat, Int64.reduceOfNat, reduceCtorEq, Nat.le_refl, Nat.zero_le, Bool.false_eq_true, beq_self_eq_true, Fin.isValue, Fin.val_zero, Fin.val_one, Fin.reduceFinMk, Fin.val_two, Nat.reduceMod, Bool.or_false, Bool.or_true, Bool.true_or, Bool.false_or, not_true_eq_false, not_false_eq_true, true_or, or_true, implies_true, false_implies, true_implies, Int32.reduceLT, Int32.reduceLE, ↓w_TAB3, ↓w_TAB4, ↓w_TAB5, ↓w_TAB7, ↓w_TAB10, ↓w_LK2, ↓w_LK6, false_and, and_false, i1z, i2z, iz1, im0, im1, l0z, hasK_uI, hasK_uL, hasK_uR, hasK_uZ, hasK_sRow, mR_uI, mR_uL, mR_uZ, mR_sRow, mI_uL, mI_uR, mI_uZ, mL_uI, mL_uR, mL_uZ, mL_sRow, LF.hk hL, layF, LF.r hL, refF, ne_eq, not_false_eq_true, Option.some.injEq, Sum.inl.injEq, Sum.inr.injEq, Prod.mk.injEq, exists_eq_left, exists_eq_left', ck, nI_1, hrk.1, hrk.2.1, hrk.2.2, cmp_eq, ed, e4]
      refine ⟨e10, vp_in_nI (by omega) (by omega), and_ii (fun q3 => ?_) (fun q3 => ⟨vp_in_nI (by omega) (by omega), ?_⟩)⟩
      · rw [if_neg (fun q4 => q3 (by rw [q4.2.2]))] at ih'
        exact ih' _ (by omega)
      · have q3 := Classical.not_not.mp q3
        have q4 : V / 10 ^ (K - f 505 k) = f 504 k := by
          generalize V / 10 ^ (K - f 505 k) = u at *
          have := (lI_eq (by unfold fL; omega) (by unfold fL; omega)).mp q3
          omega
        rw [if_pos ⟨hd1, hd2, q4⟩] at ih'
        have e5 : nI (f 506 k + 1) - 1 = nI (f 506 k) := nI_pred _
        simp only [e5] at ih'
        exact ih' _ (by omega)
theorem c_longest {v : Int64} (hv : v = lI V) (hV : V < 9223372036854775808) (hL : LF M) (hK : K ≤ 8) (hx : x = nI K) (hr : rtC f N M) (hf : rtGd f N) (hQ : Q (some (.int (nI (bst f (fun d => V / 10 ^ (K - d)) K N).1 - 1))) M) : Ct G (MT 121) [.ref 1, .long v, .int x] M Q X := by
  subst hx
  refine Ct.go (L0 := [some (.ref 1), some (.long v), none, some (.int (nI K)), none, none, none, none]) (by decide +kernel) rfl rfl ?_
  refine r_X10_longestRoute (fun n => n == 9 || n == 48) 60 ?_
  simp only [cd_X10_longestRoute, cf_X10_longestRoute, wp, wq, wpI, cdF, w_CI, w_CL, w_CN, w_LI, w_LL, w_LA, w_SI, w_SL, w_SA, w_INC, w_II, w_IId, w_LLb, w_LLd, w_LS, w_I1, w_L1, w_I2L, w_L2I, w_CMP, w_DUP, w_POP, w_DUP2, w_IF, w_IC, w_GO, w_NUL, w_ACN, prs, w_GF, w_PF, w_GS, w_IAL, w_LEN, w_LAL, w_ZAL, w_AAL, w_IAS, w_LAS, w_ZAS, w_AAS, w_RI, w_RL, w_RA, w_NEW, w_NA, w_MNA, w_OI, w_THR, w_CV, w_CS, w_CN9, w_CI9, w_MX, w_cont, lget, sto1, sto2, wideV, vo, vo_rv, isR, isR_rv, rv, fget, fput, cats, Value.category, List.headD_cons, List.getD_cons_zero, List.getD_cons_succ, List.drop_succ_cons, List.drop_zero, List.take_succ_cons, List.take_zero, List.reverse_cons, List.reverse_nil, List.nil_append, List.cons_append, List.length_cons, List.length_nil, cond_true, cond_false, and_true, true_and, Nat.zero_add, Nat.add_zero, Nat.reduceAdd, Nat.reduceLT, Nat.reduceLeDiff, Nat.reduceEqDiff, Nat.reduceBEq, Nat.reduceSub, ↓reduceIte, Int32.reduceOfNat, Int64.reduceOfNat, reduceCtorEq, Nat.le_refl, Nat.zero_le, Bool.false_eq_true, beq_self_eq_true, Fin.isValue, Fin.val_zero, Fin.val_one, Fin.reduceFinMk, Fin.val_two, Nat.reduceMod, Bool.or_false, Bool.or_true, Bool.true_or, Bool.false_or, not_true_eq_false, not_false_eq_true, true_or, or_true, implies_true, false_implies, true_implies, Int32.reduceLT, Int32.reduceLE, ↓w_TAB3, ↓w_TAB4, ↓w_TAB5, ↓w_TAB7, ↓w_TAB10, ↓w_LK2, ↓w_LK6, false_and, and_false, i1z, i2z, iz1, im0, im1, l0z]
  exact lp_longest hv hV hL hK hr hf hQ N 0 none (by omega)
theorem lp_findNumber {v : Int64} (hv : v = lI V) (hV : V < 9223372036854775808) (hL : LF M) (hn : mI M 1 13 = nI N) (hN : N ≤ 100) (hrow : ∀ i, i < N → mL M 8 i = lI (g i)) (hg : ∀ i, i < N → g i < 9223372036854775808) (hQ : Q (some (.int (if fsn (fun k => decide (g k = V)) N < N then nI (fsn (fun k => decide (g k = V)) N) else -1))) M) : ∀ (m k : Nat), m + k = N → (∀ j, j < k → ¬ g j = V) → Go G (MT 118) Q X 2 [some (.ref 1), some (.long v), none, some (.int (nI k))] [] M 0 0 := by
  subst hv
  intro m
  induction m with
  | zero =>
    intro k hk hp
    have hk : k = N := by omega
    subst hk
    refine r_X10_findNumber (fun n => n == 2) 40 ?_
    simp only [cd_X10_findNumber, cf_X10_findNumber, wp, wq, wpI, cdF, w_CI, w_CL, w_CN, w_LI, w_LL, w_LA, w_SI, w_SL, w_SA, w_INC, w_II, w_IId, w_LLb, w_LLd, w_LS, w_I1, w_L1, w_I2L, w_L2I, w_CMP, w_DUP, w_POP, w_DUP2, w_IF, w_IC, w_GO, w_NUL, w_ACN, prs, w_GF, w_PF, w_GS, w_IAL, w_LEN, w_LAL, w_ZAL, w_AAL, w_IAS, w_LAS, w_ZAS, w_AAS, w_RI, w_RL, w_RA, w_NEW, w_NA, w_MNA, w_OI, w_THR, w_CV, w_CS, w_CN9, w_CI9, w_MX, w_cont, lget, sto1, sto2, wideV, vo, vo_rv, isR, isR_rv, rv, fget, fput, cats, Value.category, List.headD_cons, List.getD_cons_zero, List.getD_cons_succ, List.drop_succ_cons, List.drop_zero, List.take_succ_cons, List.take_zero, List.reverse_cons, List.reverse_nil, List.nil_append, List.cons_append, List.length_cons, List.length_nil, cond_true, cond_false, and_true, true_and, Nat.zero_add, Nat.add_zero, Nat.reduceAdd, Nat.reduceLT, Nat.reduceLeDiff, Nat.reduceEqDiff, Nat.reduceBEq, Nat.reduceSub, ↓reduceIte, Int32.reduceOfNat, Int64.reduceOfNat, reduceCtorEq, Nat.le_refl, Nat.zero_le, Bool.false_eq_true, beq_self_eq_true, Fin.isValue, Fin.val_zero, Fin.val_one, Fin.reduceFinMk, Fin.val_two, Nat.reduceMod, Bool.or_false, Bool.or_true, Bool.true_or, Bool.false_or, not_true_eq_false, not_false_eq_true, true_or, or_true, implies_true, false_implies, true_implies, Int32.reduceLT, Int32.reduceLE, ↓w_TAB3, ↓w_TAB4, ↓w_TAB5, ↓w_TAB7, ↓w_TAB10, ↓w_LK2, ↓w_LK6, false_and, and_false, i1z, i2z, iz1, im0, im1, l0z, hasK_uI, hasK_uL, hasK_uR, hasK_uZ, hasK_sRow, mR_uI, mR_uL, mR_uZ, mR_sRow, mI_uL, mI_uR, mI_uZ, mL_uI, mL_uR, mL_uZ, mL_sRow, LF.hk hL, layF, LF.r hL, refF, ne_eq, not_false_eq_true, Option.some.injEq, Sum.inl.injEq, Sum.inr.injEq, Prod.mk.injEq, exists_eq_left, exists_eq_left', hn]
    refine ⟨fun _ => ?_, fun q => absurd (nI_le (Nat.le_refl k) (by omega)) q⟩
    rw [fsn_n (fun j hj => decide_eq_false (hp j hj)), if_neg (by omega)] at hQ
    exact hQ
  | succ m ih =>
    intro k hk hp
    have tk := nI_toInt (n := k) (by omega)
    have tN := nI_toInt (n := N) (by omega)
    have ck := nI_clamp (n := k) (by omega)
    have ih' := ih (k + 1) (by omega)
    have hgk := hg k (by omega)
    refine r_X10_findNumber (fun n => n == 2) 40 ?_
    simp only [cd_X10_findNumber, cf_X10_findNumber, wp, wq, wpI, cdF, w_CI, w_CL, w_CN, w_LI, w_LL, w_LA, w_SI, w_SL, w_SA, w_INC, w_II, w_IId, w_LLb, w_LLd, w_LS, w_I1, w_L1, w_I2L, w_L2I, w_CMP, w_DUP, w_POP, w_DUP2, w_IF, w_IC, w_GO, w_NUL, w_ACN, prs, w_GF, w_PF, w_GS, w_IAL, w_LEN, w_LAL, w_ZAL, w_AAL, w_IAS, w_LAS, w_ZAS, w_AAS, w_RI, w_RL, w_RA, w_NEW, w_NA, w_MNA, w_OI, w_THR, w_CV, w_CS, w_CN9, w_CI9, w_MX, w_cont, lget, sto1, sto2, wideV, vo, vo_rv, isR, isR_rv, rv, fget, fput, cats, Value.category, List.headD_cons, List.getD_cons_zero, List.getD_cons_succ, List.drop_succ_cons, List.drop_zero, List.take_succ_cons, List.take_zero, List.reverse_cons, List.reverse_nil, List.nil_append, List.cons_append, List.length_cons, List.length_nil, cond_true, cond_false, and_true, true_and, Nat.zero_add, Nat.add_zero, Nat.reduceAdd, Nat.reduceLT, Nat.reduceLeDiff, Nat.reduceEqDiff, Nat.reduceBEq, Nat.reduceSub, ↓reduceIte, Int32.reduceOfNat, Int64.reduceOfNat, reduceCtorEq, Nat.le_refl, Nat.zero_le, Bool.false_eq_true, beq_self_eq_true, Fin.isValue, Fin.val_zero, Fin.val_one, Fin.reduceFinMk, Fin.val_two, Nat.reduceMod, Bool.or_false, Bool.or_true, Bool.true_or, Bool.false_or, not_true_eq_false, not_false_eq_true, true_or, or_true, implies_true, false_implies, true_implies, Int32.reduceLT, Int32.reduceLE, ↓w_TAB3, ↓w_TAB4, ↓w_TAB5, ↓w_TAB7, ↓w_TAB10, ↓w_LK2, ↓w_LK6, false_and, and_false, i1z, i2z, iz1, im0, im1, l0z, hasK_uI, hasK_uL, hasK_uR, hasK_uZ, hasK_sRow, mR_uI, mR_uL, mR_uZ, mR_sRow, mI_uL, mI_uR, mI_uZ, mL_uI, mL_uR, mL_uZ, mL_sRow, LF.hk hL, layF, LF.r hL, refF, ne_eq, not_false_eq_true, Option.some.injEq, Sum.inl.injEq, Sum.inr.injEq, Prod.mk.injEq, exists_eq_left, exists_eq_left', hn, ck, nI_1, hrow k (by omega), cmp_eq]
    refine and_ii (fun q => ?_) (fun _ => ⟨vp_in_nI (by omega) (by omega), and_ii (fun q => ?_) (fun q => ?_)⟩)
    · exfalso; (simp only [i_lt, i_le, i_eq, l_lt, l_le, l_eq, Int32.toInt_toInt64, Int32.reduceToInt, Int64.reduceToInt, ne_eq, Classical.not_not] at *; omega)
    · refine ih' (fun j hj => ?_)
      by_cases e : j = k
      · subst e; exact fun e => q (by rw [e])
      · exact hp j (by omega)
    · have q := (lI_eq (by unfold fL; omega) (by unfold fL; omega)).mp (Classical.not_not.mp q)
      have e : fsn (fun k => decide (g k = V)) N = k := fsn_eq (by omega) (decide_eq_true (by omega)) (fun j hj => decide_eq_false (hp j hj))
      rw [e, if_pos (by omega)] at hQ
      exact hQ
theorem c_findNumber {v : Int64} (hv : v = lI V) (hV : V < 9223372036854775808) (hL : LF M) (hn : mI M 1 13 = nI N) (hN : N ≤ 100) (hrow : ∀ i, i < N → mL M 8 i = lI (g i)) (hg : ∀ i, i < N → g i < 9223372036854775808) (hQ : Q (some (.int (if fsn (fun k => decide (g k = V)) N < N then nI (fsn (fun k => decide (g k = V)) N) else -1))) M) : Ct G (MT 118) [.ref 1, .long v] M Q X := by
  refine Ct.go (L0 := [some (.ref 1), some (.long v), none, none]) (by decide +kernel) rfl rfl ?_
  refine r_X10_findNumber (fun n => n == 2) 40 ?_
  simp only [cd_X10_findNumber, cf_X10_findNumber, wp, wq, wpI, cdF, w_CI, w_CL, w_CN, w_LI, w_LL, w_LA, w_SI, w_SL, w_SA, w_INC, w_II, w_IId, w_LLb, w_LLd, w_LS, w_I1, w_L1, w_I2L, w_L2I, w_CMP, w_DUP, w_POP, w_DUP2, w_IF, w_IC, w_GO, w_NUL, w_ACN, prs, w_GF, w_PF, w_GS, w_IAL, w_LEN, w_LAL, w_ZAL, w_AAL, w_IAS, w_LAS, w_ZAS, w_AAS, w_RI, w_RL, w_RA, w_NEW, w_NA, w_MNA, w_OI, w_THR, w_CV, w_CS, w_CN9, w_CI9, w_MX, w_cont, lget, sto1, sto2, wideV, vo, vo_rv, isR, isR_rv, rv, fget, fput, cats, Value.category, List.headD_cons, List.getD_cons_zero, List.getD_cons_succ, List.drop_succ_cons, List.drop_zero, List.take_succ_cons, List.take_zero, List.reverse_cons, List.reverse_nil, List.nil_append, List.cons_append, List.length_cons, List.length_nil, cond_true, cond_false, and_true, true_and, Nat.zero_add, Nat.add_zero, Nat.reduceAdd, Nat.reduceLT, Nat.reduceLeDiff, Nat.reduceEqDiff, Nat.reduceBEq, Nat.reduceSub, ↓reduceIte, Int32.reduceOfNat, Int64.reduceOfNat, reduceCtorEq, Nat.le_refl, Nat.zero_le, Bool.false_eq_true, beq_self_eq_true, Fin.isValue, Fin.val_zero, Fin.val_one, Fin.reduceFinMk, Fin.val_two, Nat.reduceMod, Bool.or_false, Bool.or_true, Bool.true_or, Bool.false_or, not_true_eq_false, not_false_eq_true, true_or, or_true, implies_true, false_implies, true_implies, Int32.reduceLT, Int32.reduceLE, ↓w_TAB3, ↓w_TAB4, ↓w_TAB5, ↓w_TAB7, ↓w_TAB10, ↓w_LK2, ↓w_LK6, false_and, and_false, i1z, i2z, iz1, im0, im1, l0z]
  exact lp_findNumber hv hV hL hn hN hrow hg hQ N 0 (by omega) (fun j hj => by omega)
end TBH
