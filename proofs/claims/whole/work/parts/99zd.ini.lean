/-! CELLS ARE MADE: the constructors -/
section INI
variable {G : En} {M M0 : Mem} {Q : Option Value → Mem → Prop} {X : String → Mem → Prop} {n a j k i : Nat} {b x v u : Int32} {e : Lk} {gI gI' : Nat → Nat → Int32} {gR gR' : Nat → Nat → Option Nat}
/-- 1000000 stands for the journal's size -/
def mkB (b x : Int32) : Int32 := if x = 1000000 then b else x
/-- n cells are there, as layF says; the ints are gI, the references gR, the longs 0 -/
def Ini (b : Int32) (n : Nat) (gI : Nat → Nat → Int32) (gR : Nat → Nat → Option Nat) (M : Mem) : Prop := mN M = n ∧ mZ M = true ∧ (∀ a, mY M a = if a < n then layF a else none) ∧ (∀ a j, mI M a j = mkB b (gI a j)) ∧ (∀ a j, mL M a j = 0) ∧ (∀ a j, mR M a j = gR a j) ∧ ∀ a j, n ≤ a → gI a j = 0 ∧ gR a j = none
theorem mk0 : mkB b 0 = 0 := rfl
theorem Ini.mn (h : Ini b n gI gR M) : mN M = n := h.1
theorem Ini.mz (h : Ini b n gI gR M) : mZ M = true := h.2.1
theorem Ini.hk (h : Ini b n gI gR M) (ha : a < n) (hl : layF a = some e) : hasK M a e := ⟨by rw [h.1]; exact ha, by rw [h.2.2.1 a, if_pos ha]; exact hl⟩
theorem Ini.mr (h : Ini b n gI gR M) : mR M a j = gR a j := h.2.2.2.2.2.1 a j
theorem Ini.cg (h : Ini b n gI gR M) (h1 : ∀ a j, gI a j = gI' a j) (h2 : ∀ a j, gR a j = gR' a j) : Ini b n gI' gR' M := by
  have e1 : gI = gI' := by funext a j; exact h1 a j
  have e2 : gR = gR' := by funext a j; exact h2 a j
  rw [← e1, ← e2]; exact h
theorem Ini_N (h : Ini b n gI gR M) (hl : layF n = some e) : Ini b (n + 1) gI gR (uN M e) := by
  obtain ⟨h1, h2, h3, h4, h5, h6, h7⟩ := h
  have h1' : M.1.1 = n := h1
  refine ⟨by show M.1.1 + 1 = n + 1; rw [h1'], h2, fun a => ?_, fun a j => ?_, fun a j => ?_, fun a j => ?_, fun a j ha => h7 a j (by omega)⟩
  · show (if a = M.1.1 then some e else mY M a) = _
    rw [h1', h3 a]
    by_cases q : a = n
    · subst q; rw [if_pos rfl, if_pos (by omega), hl]
    · rw [if_neg q]
      by_cases q2 : a < n
      · rw [if_pos q2, if_pos (by omega)]
      · rw [if_neg q2, if_neg (by omega)]
  · show (if a = M.1.1 then 0 else mI M a j) = _
    rw [h1', h4]
    by_cases q : a = n
    · subst q; rw [if_pos rfl, (h7 a j (Nat.le_refl _)).1]; rfl
    · rw [if_neg q]
  · show (if a = M.1.1 then 0 else mL M a j) = _
    rw [h5]; split <;> rfl
  · show (if a = M.1.1 then none else mR M a j) = _
    rw [h1', h6]
    by_cases q : a = n
    · subst q; rw [if_pos rfl, (h7 a j (Nat.le_refl _)).2]
    · rw [if_neg q]
theorem Ini_I (h : Ini b n gI gR M) (ha : a < n) (hv : v = mkB b u) : Ini b n (up2 gI a j u) gR (uI M a j v) := by
  obtain ⟨h1, h2, h3, h4, h5, h6, h7⟩ := h
  subst hv
  refine ⟨h1, h2, h3, fun c i => ?_, h5, h6, fun c i hc => ⟨?_, (h7 c i hc).2⟩⟩
  · rw [mI_uI, h4]
    unfold up2
    split <;> rfl
  · rw [up2_ne (by omega)]; exact (h7 c i hc).1
theorem Ini_R {r : Option Nat} (h : Ini b n gI gR M) (ha : a < n) : Ini b n gI (up2 gR a j r) (uR M a j r) := by
  obtain ⟨h1, h2, h3, h4, h5, h6, h7⟩ := h
  refine ⟨h1, h2, h3, h4, h5, fun c i => ?_, fun c i hc => ⟨(h7 c i hc).1, ?_⟩⟩
  · show up2 M.2.2.2 a j r c i = up2 gR a j r c i
    have h6' : M.2.2.2 = gR := by funext c i; exact h6 c i
    rw [h6']
  · rw [up2_ne (by omega)]; exact (h7 c i hc).2
theorem Ini_M (h : Ini b n gI gR M) (h1 : layF n = some (.inl (.array .int, 16))) (h2 : ∀ j, j < 16 → layF (n + 1 + j) = some (.inl (.int, 42))) : Ini b (n + 17) gI (fun c j => if c = n ∧ j < 16 then some (n + 1 + j) else gR c j) (uM M) := by
  obtain ⟨k1, k2, k3, k4, k5, k6, k7⟩ := h
  have k1' : M.1.1 = n := k1
  refine ⟨by show M.1.1 + 17 = n + 17; rw [k1'], k2, fun a => ?_, fun a j => ?_, fun a j => ?_, fun a j => ?_, fun a j ha => ⟨(k7 a j (by omega)).1, ?_⟩⟩
  · show (if a = M.1.1 then some (.inl (.array .int, 16)) else if M.1.1 < a ∧ a < M.1.1 + 17 then some (.inl (.int, 42)) else mY M a) = _
    rw [k1', k3 a]
    by_cases q : a = n
    · subst q; rw [if_pos rfl, if_pos (by omega), h1]
    · rw [if_neg q]
      by_cases q1 : n < a ∧ a < n + 17
      · have := h2 (a - n - 1) (by omega)
        rw [show n + 1 + (a - n - 1) = a by omega] at this
        rw [if_pos q1, if_pos (by omega), this]
      · rw [if_neg q1]
        by_cases q2 : a < n
        · rw [if_pos q2, if_pos (by omega)]
        · rw [if_neg q2, if_neg (by omega)]
  · show (if M.1.1 ≤ a ∧ a < M.1.1 + 17 then 0 else mI M a j) = _
    rw [k1', k4]
    by_cases q : n ≤ a ∧ a < n + 17
    · rw [if_pos q, (k7 a j q.1).1]; rfl
    · rw [if_neg q]
  · show (if M.1.1 ≤ a ∧ a < M.1.1 + 17 then 0 else mL M a j) = _
    rw [k5]; split <;> rfl
  · show (if a = M.1.1 then (if j < 16 then some (M.1.1 + 1 + j) else none) else if M.1.1 < a ∧ a < M.1.1 + 17 then none else mR M a j) = (if a = n ∧ j < 16 then some (n + 1 + j) else gR a j)
    rw [k1', k6]
    by_cases q : a = n
    · subst q
      rw [if_pos rfl]
      by_cases q2 : j < 16
      · rw [if_pos q2, if_pos ⟨rfl, q2⟩]
      · rw [if_neg q2, if_neg (fun e => q2 e.2), (k7 a j (Nat.le_refl _)).2]
    · rw [if_neg q]
      by_cases q1 : n < a ∧ a < n + 17
      · rw [if_pos q1, if_neg (by omega), (k7 a j (by omega)).2]
      · rw [if_neg q1, if_neg (by omega)]
  · show (if a = n ∧ j < 16 then some (n + 1 + j) else gR a j) = none
    rw [if_neg (by omega)]; exact (k7 a j (by omega)).2
theorem hk_N {e' : Lk} (h : Ini b n gI gR M) (hl : layF n = some e) (ha : a < n + 1) (hl' : layF a = some e') : hasK (uN M e) a e' := (Ini_N h hl).hk ha hl'
theorem mN_uR {r : Option Nat} : mN (uR M a j r) = mN M := rfl
theorem mN_uI : mN (uI M a j v) = mN M := rfl
theorem mZ_uR {r : Option Nat} : mZ (uR M a j r) = mZ M := rfl
theorem mZ_uI : mZ (uI M a j v) = mZ M := rfl
theorem mZ_uN : mZ (uN M e) = mZ M := rfl
theorem mN_uN : mN (uN M e) = mN M + 1 := rfl
theorem mZ_uM : mZ (uM M) = mZ M := rfl
theorem mN_uM : mN (uM M) = mN M + 17 := rfl
theorem ty_i : newarray.typeOf ArrayType.int = FieldType.int := rfl
theorem ty_l : newarray.typeOf ArrayType.long = FieldType.long := rfl
theorem ty_b : newarray.typeOf ArrayType.boolean = FieldType.boolean := rfl
theorem n_X0 (h : Ini b n gI gR M) (ha : a < n) (hka : layF a = some (.inr 0)) (hn : layF n = some (.inl (.int, 8))) (hx : x = mkB b u) (hQ : ∀ M', Ini b (n + 1) (up2 gI a 0 u) (up2 gR a 7 (some n)) M' → Q none M') : Ct G (MT 0) [.ref a, .int x] M Q X := by
  have k1 := hk_N h hn (by omega) hka
  have c8 : (8 : Int32).toNatClampNeg = 8 := rfl
  refine Ct.go (L0 := [some (.ref a), some (.int x)]) (by decide +kernel) rfl rfl ?_
  refine r_X0_init (fun _ => false) 40 ?_
  simp only [cd_X0_init, cf_X0_init, wp, wq, wpI, cdF, w_CI, w_CL, w_CN, w_LI, w_LL, w_LA, w_SI, w_SL, w_SA, w_INC, w_II, w_IId, w_LLb, w_LLd, w_LS, w_I1, w_L1, w_I2L, w_L2I, w_CMP, w_DUP, w_POP, w_DUP2, w_IF, w_IC, w_GO, w_NUL, w_ACN, prs, w_GF, w_PF, w_GS, w_IAL, w_LEN, w_LAL, w_ZAL, w_AAL, w_IAS, w_LAS, w_ZAS, w_AAS, w_RI, w_RL, w_RA, w_NEW, w_NA, w_MNA, w_OI, w_THR, w_CV, w_CS, w_CN9, w_CI9, w_MX, w_cont, lget, sto1, sto2, wideV, vo, vo_rv, isR, isR_rv, rv, fget, fput, cats, Value.category, List.headD_cons, List.getD_cons_zero, List.getD_cons_succ, List.drop_succ_cons, List.drop_zero, List.take_succ_cons, List.take_zero, List.reverse_cons, List.reverse_nil, List.nil_append, List.cons_append, List.length_cons, List.length_nil, cond_true, cond_false, and_true, true_and, Nat.zero_add, Nat.add_zero, Nat.reduceAdd, Nat.reduceLT, Nat.reduceLeDiff, Nat.reduceEqDiff, Nat.reduceBEq, Nat.reduceSub, ↓reduceIte, Int32.reduceOfNat, Int64.reduceOfNat, reduceCtorEq, Nat.le_refl, Nat.zero_le, Bool.false_eq_true, beq_self_eq_true, Fin.isValue, Fin.val_zero, Fin.val_one, Fin.reduceFinMk, Fin.val_two, Nat.reduceMod, Bool.or_false, Bool.or_true, Bool.true_or, Bool.false_or, not_true_eq_false, not_false_eq_true, true_or, or_true, implies_true, false_implies, true_implies, Int32.reduceLT, Int32.reduceLE, ↓w_TAB3, ↓w_TAB4, ↓w_TAB5, ↓w_TAB7, ↓w_TAB10, ↓w_LK2, ↓w_LK6, false_and, and_false, i1z, i2z, iz1, im0, im1, l0z, ty_i, ty_l, ty_b, h.mz, h.mn, c8, k1, hasK_uR, hasK_uI]
  exact hQ _ (Ini_I (Ini_R (Ini_N h hn) (by omega)) (by omega) hx)
theorem n_X3 (h : Ini b n gI gR M) (ha : a < n) (hka : layF a = some (.inr 3)) (hx : x = nI k) (hk : k ≤ 400) (hn : layF n = some (.inl (.int, k))) (hQ : ∀ M', Ini b (n + 1) gI (up2 gR a 0 (some n)) M' → Q none M') : Ct G (MT 29) [.ref a, .int x] M Q X := by
  subst hx
  have k1 := hk_N h hn (by omega) hka
  have ck := nI_clamp (n := k) (by omega)
  have tk := nI_toInt (n := k) (by omega)
  have h0 : (0 : Int32) ≤ nI k := by rw [i_le, tk]; simp
  have hk2 : k ≤ 10000 := by omega
  refine Ct.go (L0 := [some (.ref a), some (.int (nI k))]) (by decide +kernel) rfl rfl ?_
  refine r_X3_init (fun _ => false) 40 ?_
  simp only [cd_X3_init, cf_X3_init, wp, wq, wpI, cdF, w_CI, w_CL, w_CN, w_LI, w_LL, w_LA, w_SI, w_SL, w_SA, w_INC, w_II, w_IId, w_LLb, w_LLd, w_LS, w_I1, w_L1, w_I2L, w_L2I, w_CMP, w_DUP, w_POP, w_DUP2, w_IF, w_IC, w_GO, w_NUL, w_ACN, prs, w_GF, w_PF, w_GS, w_IAL, w_LEN, w_LAL, w_ZAL, w_AAL, w_IAS, w_LAS, w_ZAS, w_AAS, w_RI, w_RL, w_RA, w_NEW, w_NA, w_MNA, w_OI, w_THR, w_CV, w_CS, w_CN9, w_CI9, w_MX, w_cont, lget, sto1, sto2, wideV, vo, vo_rv, isR, isR_rv, rv, fget, fput, cats, Value.category, List.headD_cons, List.getD_cons_zero, List.getD_cons_succ, List.drop_succ_cons, List.drop_zero, List.take_succ_cons, List.take_zero, List.reverse_cons, List.reverse_nil, List.nil_append, List.cons_append, List.length_cons, List.length_nil, cond_true, cond_false, and_true, true_and, Nat.zero_add, Nat.add_zero, Nat.reduceAdd, Nat.reduceLT, Nat.reduceLeDiff, Nat.reduceEqDiff, Nat.reduceBEq, Nat.reduceSub, ↓reduceIte, Int32.reduceOfNat, Int64.reduceOfNat, reduceCtorEq, Nat.le_refl, Nat.zero_le, Bool.false_eq_true, beq_self_eq_true, Fin.isValue, Fin.val_zero, Fin.val_one, Fin.reduceFinMk, Fin.val_two, Nat.reduceMod, Bool.or_false, Bool.or_true, Bool.true_or, Bool.false_or, not_true_eq_false, not_false_eq_true, true_or, or_true, implies_true, false_implies, true_implies, Int32.reduceLT, Int32.reduceLE, ↓w_TAB3, ↓w_TAB4, ↓w_TAB5, ↓w_TAB7, ↓w_TAB10, ↓w_LK2, ↓w_LK6, false_and, and_false, i1z, i2z, iz1, im0, im1, l0z, ty_i, ty_l, ty_b, h.mz, h.mn, ck, k1, hasK_uR, hasK_uI, h0, hk2, hk]
  exact hQ _ (Ini_R (Ini_N h hn) (by omega))
theorem n_X5 (h : Ini b n gI gR M) (ha : a < n) (hka : layF a = some (.inr 5)) (hx : x = mkB b u) (hQ : ∀ M', Ini b n (up2 (up2 gI a 3 (-1)) a 0 u) gR M' → Q none M') : Ct G (MT 50) [.ref a, .int x] M Q X := by
  have k1 := h.hk ha hka
  refine Ct.go (L0 := [some (.ref a), some (.int x)]) (by decide +kernel) rfl rfl ?_
  refine r_X5_init (fun _ => false) 40 ?_
  simp only [cd_X5_init, cf_X5_init, wp, wq, wpI, cdF, w_CI, w_CL, w_CN, w_LI, w_LL, w_LA, w_SI, w_SL, w_SA, w_INC, w_II, w_IId, w_LLb, w_LLd, w_LS, w_I1, w_L1, w_I2L, w_L2I, w_CMP, w_DUP, w_POP, w_DUP2, w_IF, w_IC, w_GO, w_NUL, w_ACN, prs, w_GF, w_PF, w_GS, w_IAL, w_LEN, w_LAL, w_ZAL, w_AAL, w_IAS, w_LAS, w_ZAS, w_AAS, w_RI, w_RL, w_RA, w_NEW, w_NA, w_MNA, w_OI, w_THR, w_CV, w_CS, w_CN9, w_CI9, w_MX, w_cont, lget, sto1, sto2, wideV, vo, vo_rv, isR, isR_rv, rv, fget, fput, cats, Value.category, List.headD_cons, List.getD_cons_zero, List.getD_cons_succ, List.drop_succ_cons, List.drop_zero, List.take_succ_cons, List.take_zero, List.reverse_cons, List.reverse_nil, List.nil_append, List.cons_append, List.length_cons, List.length_nil, cond_true, cond_false, and_true, true_and, Nat.zero_add, Nat.add_zero, Nat.reduceAdd, Nat.reduceLT, Nat.reduceLeDiff, Nat.reduceEqDiff, Nat.reduceBEq, Nat.reduceSub, ↓reduceIte, Int32.reduceOfNat, Int64.reduceOfNat, reduceCtorEq, Nat.le_refl, Nat.zero_le, Bool.false_eq_true, beq_self_eq_true, Fin.isValue, Fin.val_zero, Fin.val_one, Fin.reduceFinMk, Fin.val_two, Nat.reduceMod, Bool.or_false, Bool.or_true, Bool.true_or, Bool.false_or, not_true_eq_false, not_false_eq_true, true_or, or_true, implies_true, false_implies, true_implies, Int32.reduceLT, Int32.reduceLE, ↓w_TAB3, ↓w_TAB4, ↓w_TAB5, ↓w_TAB7, ↓w_TAB10, ↓w_LK2, ↓w_LK6, false_and, and_false, i1z, i2z, iz1, im0, im1, l0z, k1, hasK_uI]
  exact hQ _ (Ini_I (Ini_I h ha rfl) ha hx)
theorem n_X7 (h : Ini b n gI gR M) (ha : a < n) (hka : layF a = some (.inr 7)) (h0 : layF n = some (.inl (.int, 19))) (h1 : layF (n + 1) = some (.inl (.int, 12))) (hQ : ∀ M', Ini b (n + 2) gI (up2 (up2 gR a 3 (some n)) a 5 (some (n + 1))) M' → Q none M') : Ct G (MT 78) [.ref a] M Q X := by
  have k1 := hk_N h h0 (by omega) hka
  have r1 := Ini_R (r := some n) (a := a) (j := 3) (Ini_N h h0) (by omega)
  have k2 := hk_N r1 h1 (by omega) hka
  have c1 : (19 : Int32).toNatClampNeg = 19 := rfl
  have c2 : (12 : Int32).toNatClampNeg = 12 := rfl
  refine Ct.go (L0 := [some (.ref a)]) (by decide +kernel) rfl rfl ?_
  refine r_X7_init (fun _ => false) 40 ?_
  simp only [cd_X7_init, cf_X7_init, wp, wq, wpI, cdF, w_CI, w_CL, w_CN, w_LI, w_LL, w_LA, w_SI, w_SL, w_SA, w_INC, w_II, w_IId, w_LLb, w_LLd, w_LS, w_I1, w_L1, w_I2L, w_L2I, w_CMP, w_DUP, w_POP, w_DUP2, w_IF, w_IC, w_GO, w_NUL, w_ACN, prs, w_GF, w_PF, w_GS, w_IAL, w_LEN, w_LAL, w_ZAL, w_AAL, w_IAS, w_LAS, w_ZAS, w_AAS, w_RI, w_RL, w_RA, w_NEW, w_NA, w_MNA, w_OI, w_THR, w_CV, w_CS, w_CN9, w_CI9, w_MX, w_cont, lget, sto1, sto2, wideV, vo, vo_rv, isR, isR_rv, rv, fget, fput, cats, Value.category, List.headD_cons, List.getD_cons_zero, List.getD_cons_succ, List.drop_succ_cons, List.drop_zero, List.take_succ_cons, List.take_zero, List.reverse_cons, List.reverse_nil, List.nil_append, List.cons_append, List.length_cons, List.length_nil, cond_true, cond_false, and_true, true_and, Nat.zero_add, Nat.add_zero, Nat.reduceAdd, Nat.reduceLT, Nat.reduceLeDiff, Nat.reduceEqDiff, Nat.reduceBEq, Nat.reduceSub, ↓reduceIte, Int32.reduceOfNat, Int64.reduceOfNat, reduceCtorEq, Nat.le_refl, Nat.zero_le, Bool.false_eq_true, beq_self_eq_true, Fin.isValue, Fin.val_zero, Fin.val_one, Fin.reduceFinMk, Fin.val_two, Nat.reduceMod, Bool.or_false, Bool.or_true, Bool.true_or, Bool.false_or, not_true_eq_false, not_false_eq_true, true_or, or_true, implies_true, false_implies, true_implies, Int32.reduceLT, Int32.reduceLE, ↓w_TAB3, ↓w_TAB4, ↓w_TAB5, ↓w_TAB7, ↓w_TAB10, ↓w_LK2, ↓w_LK6, false_and, and_false, i1z, i2z, iz1, im0, im1, l0z, ty_i, ty_l, ty_b, h.mz, h.mn, c1, c2, k1, k2, hasK_uR, hasK_uI, mZ_uR, mZ_uN, mN_uR, mN_uN]
  exact hQ _ (Ini_R (Ini_N r1 h1) (by omega))
theorem n_X6 (h : Ini b n gI gR M) (ha : a < n) (hka : layF a = some (.inr 6)) (h0 : layF n = some (.inl (.int, 16))) (h1 : layF (n + 1) = some (.inl (.array .int, 16))) (h2 : ∀ j, j < 16 → layF (n + 1 + 1 + j) = some (.inl (.int, 42))) (hQ : ∀ M', Ini b (n + 18) (up2 gI a 0 800) (up2 (fun c j => if c = n + 1 ∧ j < 16 then some (n + 1 + 1 + j) else up2 gR a 2 (some n) c j) a 3 (some (n + 1))) M' → Q none M') : Ct G (MT 57) [.ref a] M Q X := by
  have k0 := h.hk ha hka
  have r0 := Ini_I (a := a) (j := 0) (v := 800) (u := 800) h ha rfl
  have k1 := hk_N r0 h0 (by omega) hka
  have r1 := Ini_R (r := some n) (a := a) (j := 2) (Ini_N r0 h0) (by omega)
  have r2 := Ini_M r1 h1 h2
  have k2 := r2.hk (a := a) (by omega) hka
  have c1 : (16 : Int32).toNatClampNeg = 16 := rfl
  refine Ct.go (L0 := [some (.ref a)]) (by decide +kernel) rfl rfl ?_
  refine r_X6_init (fun _ => false) 40 ?_
  simp only [cd_X6_init, cf_X6_init, wp, wq, wpI, cdF, w_CI, w_CL, w_CN, w_LI, w_LL, w_LA, w_SI, w_SL, w_SA, w_INC, w_II, w_IId, w_LLb, w_LLd, w_LS, w_I1, w_L1, w_I2L, w_L2I, w_CMP, w_DUP, w_POP, w_DUP2, w_IF, w_IC, w_GO, w_NUL, w_ACN, prs, w_GF, w_PF, w_GS, w_IAL, w_LEN, w_LAL, w_ZAL, w_AAL, w_IAS, w_LAS, w_ZAS, w_AAS, w_RI, w_RL, w_RA, w_NEW, w_NA, w_MNA, w_OI, w_THR, w_CV, w_CS, w_CN9, w_CI9, w_MX, w_cont, lget, sto1, sto2, wideV, vo, vo_rv, isR, isR_rv, rv, fget, fput, cats, Value.category, List.headD_cons, List.getD_cons_zero, List.getD_cons_succ, List.drop_succ_cons, List.drop_zero, List.take_succ_cons, List.take_zero, List.reverse_cons, List.reverse_nil, List.nil_append, List.cons_append, List.length_cons, List.length_nil, cond_true, cond_false, and_true, true_and, Nat.zero_add, Nat.add_zero, Nat.reduceAdd, Nat.reduceLT, Nat.reduceLeDiff, Nat.reduceEqDiff, Nat.reduceBEq, Nat.reduceSub, ↓reduceIte, Int32.reduceOfNat, Int64.reduceOfNat, reduceCtorEq, Nat.le_refl, Nat.zero_le, Bool.false_eq_true, beq_self_eq_true, Fin.isValue, Fin.val_zero, Fin.val_one, Fin.reduceFinMk, Fin.val_two, Nat.reduceMod, Bool.or_false, Bool.or_true, Bool.true_or, Bool.false_or, not_true_eq_false, not_false_eq_true, true_or, or_true, implies_true, false_implies, true_implies, Int32.reduceLT, Int32.reduceLE, ↓w_TAB3, ↓w_TAB4, ↓w_TAB5, ↓w_TAB7, ↓w_TAB10, ↓w_LK2, ↓w_LK6, false_and, and_false, i1z, i2z, iz1, im0, im1, l0z, ty_i, ty_l, ty_b, h.mz, h.mn, c1, k0, k1, k2, hasK_uR, hasK_uI, mZ_uR, mZ_uN, mN_uR, mN_uN, mZ_uI, mN_uI]
  exact hQ _ (Ini_R r2 (by omega))
theorem n_X8 (h : Ini b n gI gR M) (ha : a < n) (hka : layF a = some (.inr 8)) (h0 : layF n = some (.inl (.long, 6))) (h1 : layF (n + 1) = some (.inl (.long, 6))) (h2 : layF (n + 2) = some (.inl (.long, 7))) (h3 : layF (n + 3) = some (.inl (.long, 7))) (h4 : layF (n + 4) = some (.inl (.int, 6))) (h5 : layF (n + 5) = some (.inl (.long, 6))) (hQ : ∀ M', Ini b (n + 6) gI (up2 (up2 (up2 (up2 (up2 (up2 gR a 0 (some n)) a 1 (some (n + 1))) a 2 (some (n + 2))) a 3 (some (n + 3))) a 4 (some (n + 4))) a 5 (some (n + 5))) M' → Q none M') : Ct G (MT 86) [.ref a] M Q X := by
  have r1 := Ini_R (r := some n) (a := a) (j := 0) (Ini_N h h0) (by omega)
  have r2 := Ini_R (r := some (n + 1)) (a := a) (j := 1) (Ini_N r1 h1) (by omega)
  have r3 := Ini_R (r := some (n + 2)) (a := a) (j := 2) (Ini_N r2 h2) (by omega)
  have r4 := Ini_R (r := some (n + 3)) (a := a) (j := 3) (Ini_N r3 h3) (by omega)
  have r5 := Ini_R (r := some (n + 4)) (a := a) (j := 4) (Ini_N r4 h4) (by omega)
  have r6 := Ini_R (r := some (n + 5)) (a := a) (j := 5) (Ini_N r5 h5) (by omega)
  have k1 := hk_N h h0 (by omega) hka
  have k2 := hk_N r1 h1 (by omega) hka
  have k3 := hk_N r2 h2 (by omega) hka
  have k4 := hk_N r3 h3 (by omega) hka
  have k5 := hk_N r4 h4 (by omega) hka
  have k6 := hk_N r5 h5 (by omega) hka
  have c1 : (6 : Int32).toNatClampNeg = 6 := rfl
  have c2 : (7 : Int32).toNatClampNeg = 7 := rfl
  refine Ct.go (L0 := [some (.ref a)]) (by decide +kernel) rfl rfl ?_
  refine r_X8_init (fun _ => false) 60 ?_
  simp only [cd_X8_init, cf_X8_init, wp, wq, wpI, cdF, w_CI, w_CL, w_CN, w_LI, w_LL, w_LA, w_SI, w_SL, w_SA, w_INC, w_II, w_IId, w_LLb, w_LLd, w_LS, w_I1, w_L1, w_I2L, w_L2I, w_CMP, w_DUP, w_POP, w_DUP2, w_IF, w_IC, w_GO, w_NUL, w_ACN, prs, w_GF, w_PF, w_GS, w_IAL, w_LEN, w_LAL, w_ZAL, w_AAL, w_IAS, w_LAS, w_ZAS, w_AAS, w_RI, w_RL, w_RA, w_NEW, w_NA, w_MNA, w_OI, w_THR, w_CV, w_CS, w_CN9, w_CI9, w_MX, w_cont, lget, sto1, sto2, wideV, vo, vo_rv, isR, isR_rv, rv, fget, fput, cats, Value.category, List.headD_cons, List.getD_cons_zero, List.getD_cons_succ, List.drop_succ_cons, List.drop_zero, List.take_succ_cons, List.take_zero, List.reverse_cons, List.reverse_nil, List.nil_append, List.cons_append, List.length_cons, List.length_nil, cond_true, cond_false, and_true, true_and, Nat.zero_add, Nat.add_zero, Nat.reduceAdd, Nat.reduceLT, Nat.reduceLeDiff, Nat.reduceEqDiff, Nat.reduceBEq, Nat.reduceSub, ↓reduceIte, Int32.reduceOfNat, Int64.reduceOfNat, reduceCtorEq, Nat.le_refl, Nat.zero_le, Bool.false_eq_true, beq_self_eq_true, Fin.isValue, Fin.val_zero, Fin.val_one, Fin.reduceFinMk, Fin.val_two, Nat.reduceMod, Bool.or_false, Bool.or_true, Bool.true_or, Bool.false_or, not_true_eq_false, not_false_eq_true, true_or, or_true, implies_true, false_implies, true_implies, Int32.reduceLT, Int32.reduceLE, ↓w_TAB3, ↓w_TAB4, ↓w_TAB5, ↓w_TAB7, ↓w_TAB10, ↓w_LK2, ↓w_LK6, false_and, and_false, i1z, i2z, iz1, im0, im1, l0z, ty_i, ty_l, ty_b, h.mz, h.mn, c1, c2, k1, k2, k3, k4, k5, k6, hasK_uR, hasK_uI, mZ_uR, mZ_uN, mN_uR, mN_uN]
  exact hQ _ r6
end INI
