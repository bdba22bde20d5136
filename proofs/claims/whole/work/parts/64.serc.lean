/-! A MESSAGE IS WRITTEN: the class -/
theorem nib_or : ∀ h s : Fin 16, nI h.val <<< ((4 : Int32) &&& 31) ||| nI s.val = nI (16 * h.val + s.val) := by decide
theorem nib_o {h s : Nat} (hh : h < 16) (hs : s < 16) : nI h <<< ((4 : Int32) &&& 31) ||| nI s = nI (16 * h + s) := nib_or ⟨h, hh⟩ ⟨s, hs⟩
/-- M is M0, but for the Bytes at d, which hold xs -/
def bW (M0 : Mem) (d : Nat) (xs : List Nat) (M : Mem) : Prop := ∃ g, M = sRow (uI M0 d 1 (nI xs.length)) (d + 1) g ∧ ∀ i, i < xs.length → g i = nI (xs.getD i 0)
section SEC
variable {G : En} {M M0 : Mem} {Q : Option Value → Mem → Prop} {X : String → Mem → Prop} {a d s n N v k : Nat} {m : Msg} {f : Nat → Nat} {xs : List Nat}
theorem bW.i {b j : Nat} (h : bW M0 d xs M) (hb : b ≠ d ∧ b ≠ d + 1) : mI M b j = mI M0 b j := by
  obtain ⟨g, rfl, -⟩ := h
  rw [mI_nr hb.2, mI_ne (fun q => hb.1 q.1)]
theorem bW.l (h : bW M0 d xs M) : mI M d 1 = nI xs.length := by
  obtain ⟨g, rfl, -⟩ := h
  rw [mI_nr (by omega), mI_uI, if_pos ⟨rfl, rfl⟩]
theorem bW.by' (h : bW M0 d xs M) (hB : BY M0 d (d + 1) N) : BY M d (d + 1) N := by
  obtain ⟨g, rfl, -⟩ := h
  exact hB
theorem bW.ms (h : bW M0 d xs M) (hm : MS M0 a) : MS M a := by
  obtain ⟨g, rfl, -⟩ := h
  exact hm
theorem bW.hk {b : Nat} {e : Lk} (h : bW M0 d xs M) : hasK M b e = hasK M0 b e := by
  obtain ⟨g, rfl, -⟩ := h
  rfl
theorem bW.r {b j : Nat} (h : bW M0 d xs M) : mR M b j = mR M0 b j := by
  obtain ⟨g, rfl, -⟩ := h
  rfl
theorem bW_add {y : Int32} (h : bW M0 d xs M) (hy : y = nI v) : bW M0 d (xs ++ [v]) (uI (uI M (d + 1) xs.length y) d 1 (nI (xs.length + 1))) := by
  obtain ⟨g, rfl, hg⟩ := h
  refine ⟨fun k => if k = xs.length then y else g k, ?_, fun i hi => ?_⟩
  · rw [uI_sRow, uI_sRow_ne (by omega), uI_uI, List.length_append]
    rfl
  · simp at hi
    by_cases e : i = xs.length
    · subst e
      show (if xs.length = xs.length then y else g xs.length) = _
      rw [if_pos rfl, gD_r (Nat.le_refl _), hy]
      simp
    · show (if i = xs.length then y else g i) = _
      rw [if_neg e, gD_l (by omega)]
      exact hg i (by omega)
theorem c_add {y : Int32} (h : bW M0 d xs M) (hB : BY M0 d (d + 1) N) (hl : xs.length < N) (hv : v < 256) (hy : y = nI v) (hQ : ∀ M', bW M0 d (xs ++ [v]) M' → Q none M') : Ct G (MT 31) [.ref d, .int y] M Q X :=
  c_by_add (h.by' hB) h.l hl (hQ _ (bW_add h (by rw [hy]; exact and255 hv)))
/-! the maps -/
theorem lp_writeMap {w : Int64} {B : Nat → Nat} (hB : BY M0 d (d + 1) N) (hl : xs.length + 8 ≤ N) (hb : ∀ i, i < 8 → byW w i = nI (B i) ∧ B i < 256) (hQ : ∀ M', bW M0 d (xs ++ (List.range 8).map B) M' → Q none M') : ∀ (m i : Nat), m + i = 8 → ∀ M, bW M0 d (xs ++ (List.range i).map B) M → Go G (MT 75) Q X 2 [some (.long w), none, some (.ref d), some (.int (nI i))] [] M 0 0 := by
  intro m
  induction m with
  | zero =>
    intro i hi M hM
    have hi : i = 8 := by omega
    subst hi
    refine r_X6_writeMap (fun n => n == 2 || n == 26) 40 ?_
    simp only [cd_X6_writeMap, cf_X6_writeMap, wp, wq, wpI, cdF, w_CI, w_CL, w_CN, w_LI, w_LL, w_LA, w_SI, w_SL, w_SA, w_INC, w_II, w_IId, w_LLb, w_LLd, w_LS, w_I1, w_L1, w_I2L, w_L2I, w_CMP, w_DUP, w_POP, w_DUP2, w_IF, w_IC, w_GO, w_NUL, w_ACN, prs, w_GF, w_PF, w_GS, w_IAL, w_LEN, w_LAL, w_ZAL, w_AAL, w_IAS, w_LAS, w_ZAS, w_AAS, w_RI, w_RL, w_RA, w_NEW, w_NA, w_MNA, w_OI, w_THR, w_CV, w_CS, w_CN9, w_CI9, w_MX, w_cont, lget, sto1, sto2, wideV, vo, vo_rv, isR, isR_rv, rv, fget, fput, cats, Value.category, List.headD_cons, List.getD_cons_zero, List.getD_cons_succ, List.drop_succ_cons, List.drop_zero, List.take_succ_cons, List.take_zero, List.reverse_cons, List.reverse_nil, List.nil_append, List.cons_append, List.length_cons, List.length_nil, cond_true, cond_false, and_true, true_and, Nat.zero_add, Nat.add_zero, Nat.reduceAdd, Nat.reduceLT, Nat.reduceLeDiff, Nat.reduceEqDiff, Nat.reduceBEq, Nat.reduceSub, ↓reduceIte, Int32.reduceOfNat, Int64.reduceOfNat, reduceCtorEq, Nat.le_refl, Nat.zero_le, Bool.false_eq_true, beq_self_eq_true, Fin.isValue, Fin.val_zero, Fin.val_one, Fin.reduceFinMk, Fin.val_two, Nat.reduceMod, Bool.or_false, Bool.or_true, Bool.true_or, Bool.false_or, not_true_eq_false, not_false_eq_true, true_or, or_true, implies_true, false_implies, true_implies, Int32.reduceLT, Int32.reduceLE, ↓w_TAB3, ↓w_TAB4, ↓w_TAB5, ↓w_TAB7, ↓w_TAB10, ↓w_LK2, ↓w_LK6, false_and, and_false, i1z, i2z, iz1, im0, im1, l0z]
    exact ⟨fun _ => hQ M hM, fun q => absurd (by decide) q⟩
  | succ m ih =>
    intro i hi M hM
    have ti := nI_toInt (n := i) (by omega)
    have hk : hasK M d (.inr 3) := by rw [hM.hk]; exact hB.1
    refine r_X6_writeMap (fun n => n == 2 || n == 26) 40 ?_
    simp only [cd_X6_writeMap, cf_X6_writeMap, wp, wq, wpI, cdF, w_CI, w_CL, w_CN, w_LI, w_LL, w_LA, w_SI, w_SL, w_SA, w_INC, w_II, w_IId, w_LLb, w_LLd, w_LS, w_I1, w_L1, w_I2L, w_L2I, w_CMP, w_DUP, w_POP, w_DUP2, w_IF, w_IC, w_GO, w_NUL, w_ACN, prs, w_GF, w_PF, w_GS, w_IAL, w_LEN, w_LAL, w_ZAL, w_AAL, w_IAS, w_LAS, w_ZAS, w_AAS, w_RI, w_RL, w_RA, w_NEW, w_NA, w_MNA, w_OI, w_THR, w_CV, w_CS, w_CN9, w_CI9, w_MX, w_cont, lget, sto1, sto2, wideV, vo, vo_rv, isR, isR_rv, rv, fget, fput, cats, Value.category, List.headD_cons, List.getD_cons_zero, List.getD_cons_succ, List.drop_succ_cons, List.drop_zero, List.take_succ_cons, List.take_zero, List.reverse_cons, List.reverse_nil, List.nil_append, List.cons_append, List.length_cons, List.length_nil, cond_true, cond_false, and_true, true_and, Nat.zero_add, Nat.add_zero, Nat.reduceAdd, Nat.reduceLT, Nat.reduceLeDiff, Nat.reduceEqDiff, Nat.reduceBEq, Nat.reduceSub, ↓reduceIte, Int32.reduceOfNat, Int64.reduceOfNat, reduceCtorEq, Nat.le_refl, Nat.zero_le, Bool.false_eq_true, beq_self_eq_true, Fin.isValue, Fin.val_zero, Fin.val_one, Fin.reduceFinMk, Fin.val_two, Nat.reduceMod, Bool.or_false, Bool.or_true, Bool.true_or, Bool.false_or, not_true_eq_false, not_false_eq_true, true_or, or_true, implies_true, false_implies, true_implies, Int32.reduceLT, Int32.reduceLE, ↓w_TAB3, ↓w_TAB4, ↓w_TAB5, ↓w_TAB7, ↓w_TAB10, ↓w_LK2, ↓w_LK6, false_and, and_false, i1z, i2z, iz1, im0, im1, l0z, hk]
    refine and_ii (fun q => ?_) (fun _ => ?_)
    · exfalso; (simp only [i_lt, i_le, i_eq, l_lt, l_le, l_eq, Int32.toInt_toInt64, Int32.reduceToInt, Int64.reduceToInt, ne_eq, Classical.not_not] at *; omega)
    · refine c_add hM hB (by simp; omega) (hb i (by omega)).2 (hb i (by omega)).1 (fun M' hM' => ⟨rfl, ?_⟩)
      refine r_X6_writeMap (fun n => n == 2 || n == 26) 40 ?_
      simp only [cd_X6_writeMap, cf_X6_writeMap, wp, wq, wpI, cdF, w_CI, w_CL, w_CN, w_LI, w_LL, w_LA, w_SI, w_SL, w_SA, w_INC, w_II, w_IId, w_LLb, w_LLd, w_LS, w_I1, w_L1, w_I2L, w_L2I, w_CMP, w_DUP, w_POP, w_DUP2, w_IF, w_IC, w_GO, w_NUL, w_ACN, prs, w_GF, w_PF, w_GS, w_IAL, w_LEN, w_LAL, w_ZAL, w_AAL, w_IAS, w_LAS, w_ZAS, w_AAS, w_RI, w_RL, w_RA, w_NEW, w_NA, w_MNA, w_OI, w_THR, w_CV, w_CS, w_CN9, w_CI9, w_MX, w_cont, lget, sto1, sto2, wideV, vo, vo_rv, isR, isR_rv, rv, fget, fput, cats, Value.category, List.headD_cons, List.getD_cons_zero, List.getD_cons_succ, List.drop_succ_cons, List.drop_zero, List.take_succ_cons, List.take_zero, List.reverse_cons, List.reverse_nil, List.nil_append, List.cons_append, List.length_cons, List.length_nil, cond_true, cond_false, and_true, true_and, Nat.zero_add, Nat.add_zero, Nat.reduceAdd, Nat.reduceLT, Nat.reduceLeDiff, Nat.reduceEqDiff, Nat.reduceBEq, Nat.reduceSub, ↓reduceIte, Int32.reduceOfNat, Int64.reduceOfNat, reduceCtorEq, Nat.le_refl, Nat.zero_le, Bool.false_eq_true, beq_self_eq_true, Fin.isValue, Fin.val_zero, Fin.val_one, Fin.reduceFinMk, Fin.val_two, Nat.reduceMod, Bool.or_false, Bool.or_true, Bool.true_or, Bool.false_or, not_true_eq_false, not_false_eq_true, true_or, or_true, implies_true, false_implies, true_implies, Int32.reduceLT, Int32.reduceLE, ↓w_TAB3, ↓w_TAB4, ↓w_TAB5, ↓w_TAB7, ↓w_TAB10, ↓w_LK2, ↓w_LK6, false_and, and_false, i1z, i2z, iz1, im0, im1, l0z, nI_1]
      refine ih (i + 1) (by omega) M' ?_
      rw [List.range_succ, List.map_append, ← List.append_assoc]
      exact hM'
theorem c_writeMap {w : Int64} {B : Nat → Nat} (h : bW M0 d xs M) (hB : BY M0 d (d + 1) N) (hl : xs.length + 8 ≤ N) (hb : ∀ i, i < 8 → byW w i = nI (B i) ∧ B i < 256) (hQ : ∀ M', bW M0 d (xs ++ (List.range 8).map B) M' → Q none M') : Ct G (MT 75) [.long w, .ref d] M Q X := by
  refine Ct.go (L0 := [some (.long w), none, some (.ref d), none]) (by decide +kernel) rfl rfl ?_
  refine r_X6_writeMap (fun n => n == 2 || n == 26) 40 ?_
  simp only [cd_X6_writeMap, cf_X6_writeMap, wp, wq, wpI, cdF, w_CI, w_CL, w_CN, w_LI, w_LL, w_LA, w_SI, w_SL, w_SA, w_INC, w_II, w_IId, w_LLb, w_LLd, w_LS, w_I1, w_L1, w_I2L, w_L2I, w_CMP, w_DUP, w_POP, w_DUP2, w_IF, w_IC, w_GO, w_NUL, w_ACN, prs, w_GF, w_PF, w_GS, w_IAL, w_LEN, w_LAL, w_ZAL, w_AAL, w_IAS, w_LAS, w_ZAS, w_AAS, w_RI, w_RL, w_RA, w_NEW, w_NA, w_MNA, w_OI, w_THR, w_CV, w_CS, w_CN9, w_CI9, w_MX, w_cont, lget, sto1, sto2, wideV, vo, vo_rv, isR, isR_rv, rv, fget, fput, cats, Value.category, List.headD_cons, List.getD_cons_zero, List.getD_cons_succ, List.drop_succ_cons, List.drop_zero, List.take_succ_cons, List.take_zero, List.reverse_cons, List.reverse_nil, List.nil_append, List.cons_append, List.length_cons, List.length_nil, cond_true, cond_false, and_true, true_and, Nat.zero_add, Nat.add_zero, Nat.reduceAdd, Nat.reduceLT, Nat.reduceLeDiff, Nat.reduceEqDiff, Nat.reduceBEq, Nat.reduceSub, ↓reduceIte, Int32.reduceOfNat, Int64.reduceOfNat, reduceCtorEq, Nat.le_refl, Nat.zero_le, Bool.false_eq_true, beq_self_eq_true, Fin.isValue, Fin.val_zero, Fin.val_one, Fin.reduceFinMk, Fin.val_two, Nat.reduceMod, Bool.or_false, Bool.or_true, Bool.true_or, Bool.false_or, not_true_eq_false, not_false_eq_true, true_or, or_true, implies_true, false_implies, true_implies, Int32.reduceLT, Int32.reduceLE, ↓w_TAB3, ↓w_TAB4, ↓w_TAB5, ↓w_TAB7, ↓w_TAB10, ↓w_LK2, ↓w_LK6, false_and, and_false, i1z, i2z, iz1, im0, im1, l0z]
  exact lp_writeMap hB hl hb hQ 8 0 rfl M (by simpa using h)
theorem pb_mod {th k : Nat} (hk : k < 11) : pb (th % 2048) k = pb th k := by
  rw [pb_tb, pb_tb, show (2048 : Nat) = 2 ^ 11 from rfl, Nat.testBit_mod_two_pow]
  simp [hk]
theorem pb_hi {th k : Nat} (hk : 11 ≤ k) : pb (2048 * (th / 2048)) k = pb th k := by
  unfold pb
  have e : 2 ^ k = 2048 * 2 ^ (k - 11) := by rw [show (2048 : Nat) = 2 ^ 11 from rfl, ← Nat.pow_add]; congr 1; omega
  rw [e, Nat.mul_div_mul_left _ _ (by omega), ← Nat.div_div_eq_div_mul]
theorem fw1_mod {th : Nat} : ∀ k, k ≤ 16 → fw1 (th % 2048) k = fw1 th k
  | 0, _ => rfl
  | k + 1, hk => by
    rw [fw1, fw1, fw1_mod k (by omega)]
    by_cases h : k < 11
    · rw [pb_mod h]
    · have : ∀ s : Fin 16, 11 ≤ s.val → ¬ fnF s.val ≤ 64 := by decide
      have := this ⟨k, by omega⟩ (by simp; omega)
      simp [this]
theorem fw2_hi {th : Nat} : ∀ k, k ≤ 16 → fw2 (2048 * (th / 2048)) k = fw2 th k
  | 0, _ => rfl
  | k + 1, hk => by
    rw [fw2, fw2, fw2_hi k (by omega)]
    by_cases h : 11 ≤ k
    · rw [pb_hi h]
    · have : ∀ s : Fin 16, ¬ 11 ≤ s.val → fnF s.val ≤ 64 := by decide
      have := this ⟨k, by omega⟩ (by simpa using h)
      simp [this]
theorem mpB_lo {th c i : Nat} (hi : i < 8) : mpB (pb (th % 2048)) c i = mpB (pb th) c i := by
  rcases i with _ | _ | _ | _ | _ | _ | _ | _ | i <;> simp only [mpB] <;> first | rfl | omega | (simp only [pb_mod (th := th) (show (0 : Nat) < 11 by omega), pb_mod (th := th) (show (1 : Nat) < 11 by omega), pb_mod (th := th) (show (2 : Nat) < 11 by omega), pb_mod (th := th) (show (3 : Nat) < 11 by omega), pb_mod (th := th) (show (4 : Nat) < 11 by omega), pb_mod (th := th) (show (5 : Nat) < 11 by omega), pb_mod (th := th) (show (6 : Nat) < 11 by omega), pb_mod (th := th) (show (7 : Nat) < 11 by omega), pb_mod (th := th) (show (8 : Nat) < 11 by omega), pb_mod (th := th) (show (9 : Nat) < 11 by omega), pb_mod (th := th) (show (10 : Nat) < 11 by omega)])
theorem mpB_hi {th c i : Nat} : mpB (pb (2048 * (th / 2048))) c (8 + i) = mpB (pb th) c (8 + i) := by
  rcases i with _ | _ | _ | _ | i
  · exact congrArg (4 * ·) (pb_hi (by omega))
  · exact congrArg (64 * ·) (pb_hi (by omega))
  · exact congrArg (4 * ·) (pb_hi (by omega))
  · show 64 * pb _ 14 + 2 * pb _ 15 = 64 * pb _ 14 + 2 * pb _ 15
    rw [pb_hi (by omega), pb_hi (by omega)]
  · have : ∀ q : Nat → Nat, mpB q c (8 + (i + 4)) = 0 := fun q => by
      rw [show 8 + (i + 4) = i + 12 by omega]
      rfl
    rw [this, this]
theorem byL_at {w : Int64} {B : Nat → Nat} (h : byL w = (List.range 8).map (fun i => nI (B i))) : ∀ i, i < 8 → byW w i = nI (B i) := by
  have e : (List.range 8).map (fun i => nI (B i)) = [nI (B 0), nI (B 1), nI (B 2), nI (B 3), nI (B 4), nI (B 5), nI (B 6), nI (B 7)] := rfl
  rw [e] at h
  unfold byL at h
  simp only [List.cons.injEq, and_true] at h
  intro i hi
  rcases i with _ | _ | _ | _ | _ | _ | _ | _ | i
  · exact h.1
  · exact h.2.1
  · exact h.2.2.1
  · exact h.2.2.2.1
  · exact h.2.2.2.2.1
  · exact h.2.2.2.2.2.1
  · exact h.2.2.2.2.2.2.1
  · exact h.2.2.2.2.2.2.2
  · omega
/-- what the class's two longs have as bytes -/
theorem maps_ok {th : Nat} (hth : th < 65536) : (th < 2048 → fw2 th 16 = 0 ∧ ∀ i, i < 8 → byW (fw1 th 16) i = nI (mpB (pb th) 0 i)) ∧ (¬ th < 2048 → ¬ fw2 th 16 = 0 ∧ (∀ i, i < 8 → byW (fw1 th 16 ||| (-9223372036854775808)) i = nI (mpB (pb th) 1 i)) ∧ ∀ i, i < 8 → byW (fw2 th 16) i = nI (mpB (pb th) 1 (8 + i))) := by
  have h1 := by_1 ⟨th % 2048, by omega⟩
  have h2 := by_2 ⟨th / 2048, by omega⟩
  simp only [fw1_mod (th := th) 16 (by omega)] at h1
  simp only [fw2_hi (th := th) 16 (by omega)] at h2
  refine ⟨fun q => ⟨h2.2.mpr (by omega), fun i hi => ?_⟩, fun q => ⟨fun q2 => ?_, fun i hi => ?_, fun i hi => ?_⟩⟩
  · rw [byL_at h1.1 i hi, mpB_lo hi]
  · have := h2.2.mp q2
    omega
  · rw [byL_at h1.2 i hi, mpB_lo hi]
  · rw [byL_at h2.1 i hi, mpB_hi]
end SEC
