/-! A MESSAGE IS WRITTEN: the reference -/
/-- M is M0, but for the row at e, which holds xs, how many there are, and the few digits -/
def nW (M0 : Mem) (e : Nat) (xs : List Nat) (M : Mem) : Prop := ∃ g h, M = sRow (sRow (uI M0 495 82 (nI xs.length)) 548 h) e g ∧ ∀ i, i < xs.length → g i = nI (xs.getD i 0)
section SEM
variable {G : En} {M M0 : Mem} {Q : Option Value → Mem → Prop} {X : String → Mem → Prop} {e r p s n N v k : Nat} {m : Msg} {f : Nat → Nat} {xs : List Nat}
theorem nW.i {b j : Nat} (h : nW M0 e xs M) (hb : b ≠ 495 ∨ j ≠ 82) (hb2 : b ≠ 548 ∧ b ≠ e) : mI M b j = mI M0 b j := by
  obtain ⟨g, h', rfl, -⟩ := h
  rw [mI_nr hb2.2, mI_nr hb2.1, mI_ne (by omega)]
theorem nW.l (h : nW M0 e xs M) (he : e ≠ 495) : mI M 495 82 = nI xs.length := by
  obtain ⟨g, h', rfl, -⟩ := h
  rw [mI_nr (by omega), mI_nr (by omega), mI_uI, if_pos ⟨rfl, rfl⟩]
theorem nW.L (h : nW M0 e xs M) (hL : LF M0) : LF M := by
  obtain ⟨g, h', rfl, -⟩ := h
  exact hL
theorem nW_add {y : Int32} (h : nW M0 e xs M) (he : e ≠ 495 ∧ e ≠ 548) (hy : y = nI v) : nW M0 e (xs ++ [v]) (uI (uI M e xs.length y) 495 82 (nI (xs.length + 1))) := by
  obtain ⟨g, h', rfl, hg⟩ := h
  refine ⟨fun k => if k = xs.length then y else g k, h', ?_, fun i hi => ?_⟩
  · rw [uI_sRow, uI_sRow_ne (by omega), uI_sRow_ne (by omega), uI_uI, List.length_append]
    rfl
  · simp at hi
    by_cases q : i = xs.length
    · subst q
      show (if xs.length = xs.length then y else g xs.length) = _
      rw [if_pos rfl, gD_r (Nat.le_refl _), hy]
      simp
    · show (if i = xs.length then y else g i) = _
      rw [if_neg q, gD_l (by omega)]
      exact hg i (by omega)
theorem nW_few {g : Nat → Int32} (h : nW M0 e xs M) (he : e ≠ 548) : nW M0 e xs (sRow M 548 g) := by
  obtain ⟨g1, h', rfl, hg⟩ := h
  refine ⟨g1, g, ?_, hg⟩
  have : ∀ (A : Mem) (u w : Nat → Int32), sRow (sRow A e u) 548 w = sRow (sRow A 548 w) e u := fun A u w => by
    unfold sRow
    congr 2
    funext x j
    simp only
    by_cases q1 : x = 548
    · subst q1; rw [if_pos rfl, if_neg (fun q => he q.symm), if_pos rfl]
    · rw [if_neg q1, if_neg q1]
  rw [this, sRow_sRow]
/-- nothing else has changed -/
def oth (e : Nat) (M M' : Mem) : Prop := ∀ b j, b ≠ e → b ≠ 495 → mI M' b j = mI M b j
theorem oth.t {M' M'' : Mem} (h : oth e M M') (h' : oth e M' M'') : oth e M M'' := fun b j h1 h2 => by rw [h' b j h1 h2, h b j h1 h2]
theorem oth_rfl : oth e M M := fun _ _ _ _ => rfl
theorem oth_u {y z : Int32} {i j : Nat} : oth e M (uI (uI M e i y) 495 j z) := fun b j h1 h2 => by rw [mI_ne (by omega), mI_ne (by omega)]
theorem lp_pack (hL : LF M0) (he : e ≠ 495 ∧ e ≠ 548 ∧ r ≠ e ∧ r ≠ 495) (hke : hasK M0 e (.inl (.int, N))) (hkr : ∃ N', hasK M0 r (.inl (.int, N')) ∧ p + n ≤ N' ∧ N' < 2147483648) (hN2 : N < 2147483648) (hl : xs.length + (n + 1) / 2 ≤ N) (hfb : ∀ i, i < n → f i < 16) (hM0 : Mem) (hrow : ∀ i, i < n → mI hM0 r (p + i) = nI (f i)) (hQ : ∀ M', nW M0 e (xs ++ pk n f ((n + 1) / 2)) M' → oth e hM0 M' → Q none M') : ∀ (z k : Nat), k + 2 * z = n → ∀ M, nW M0 e (xs ++ pk n f ((k + n % 2) / 2)) M → oth e hM0 M → Go G (MT 210) Q X 33 [some (.ref 495), some (.ref e), some (.ref r), some (.int (nI p)), some (.int (nI n)), some (.int (nI k))] [] M 0 0 := by
  obtain ⟨N', hk1, hk2, hk3⟩ := hkr
  intro z
  induction z with
  | zero =>
    intro k hk M hM ho
    have hk : k = n := by omega
    subst hk
    have hk5 : hasK M 495 (.inr 12) := by rw [(hM.L hL).hk]; rfl
    refine r_X12_pack (fun n => n == 33) 60 ?_
    simp only [cd_X12_pack, cf_X12_pack, wp, wq, wpI, cdF, w_CI, w_CL, w_CN, w_LI, w_LL, w_LA, w_SI, w_SL, w_SA, w_INC, w_II, w_IId, w_LLb, w_LLd, w_LS, w_I1, w_L1, w_I2L, w_L2I, w_CMP, w_DUP, w_POP, w_DUP2, w_IF, w_IC, w_GO, w_NUL, w_ACN, prs, w_GF, w_PF, w_GS, w_IAL, w_LEN, w_LAL, w_ZAL, w_AAL, w_IAS, w_LAS, w_ZAS, w_AAS, w_RI, w_RL, w_RA, w_NEW, w_NA, w_MNA, w_OI, w_THR, w_CV, w_CS, w_CN9, w_CI9, w_MX, w_cont, lget, sto1, sto2, wideV, vo, vo_rv, isR, isR_rv, rv, fget, fput, cats, Value.category, List.headD_cons, List.getD_cons_zero, List.getD_cons_succ, List.drop_succ_cons, List.drop_zero, List.take_succ_cons, List.take_zero, List.reverse_cons, List.reverse_nil, List.nil_append, List.cons_append, List.length_cons, List.length_nil, cond_true, cond_false, and_true, true_and, Nat.zero_add, Nat.add_zero, Nat.reduceAdd, Nat.reduceLT, Nat.reduceLeDiff, Nat.reduceEqDiff, Nat.reduceBEq, Nat.reduceSub, ↓reduceIte, Int32.reduceOfNat, Int64.reduceOfNat, reduceCtorEq, Nat.le_refl, Nat.zero_le, Bool.false_eq_true, beq_self_eq_true, Fin.isValue, Fin.val_zero, Fin.val_one, Fin.reduceFinMk, Fin.val_two, Nat.reduceMod, Bool.or_false, Bool.or_true, Bool.true_or, Bool.false_or, not_true_eq_false, not_false_eq_true, true_or, or_true, implies_true, false_implies, true_implies, Int32.reduceLT, Int32.reduceLE, ↓w_TAB3, ↓w_TAB4, ↓w_TAB5, ↓w_TAB7, ↓w_TAB10, ↓w_LK2, ↓w_LK6, false_and, and_false, i1z, i2z, iz1, im0, im1, l0z, hk5]
    refine ⟨fun _ => hQ M ?_ ho, fun q => absurd (nI_le (Nat.le_refl k) (by omega)) q⟩
    rw [show (k + 1) / 2 = (k + k % 2) / 2 by omega]
    exact hM
  | succ z ih =>
    intro k hk M hM ho
    have hLM := hM.L hL
    have hk5 : hasK M 495 (.inr 12) := by rw [hLM.hk]; rfl
    have hkM : ∀ b ty, hasK M0 b ty → hasK M b ty := fun b ty q => by obtain ⟨_, _, rfl, -⟩ := hM; exact q
    have tk := nI_toInt (n := k) (by omega)
    have tn := nI_toInt (n := n) (by omega)
    have hlen := hM.l he.1
    have e1 : nI p + nI k = nI (p + k) := nI_add p k
    have e2 : nI (p + k) + 1 = nI (p + k + 1) := nI_1 _
    have c1 := nI_clamp (n := p + k) (by omega)
    have c2 := nI_clamp (n := p + k + 1) (by omega)
    have hpk : (xs ++ pk n f ((k + n % 2) / 2)).length = xs.length + (k + n % 2) / 2 := by rw [List.length_append, pk_len]
    have c3 := nI_clamp (n := (xs ++ pk n f ((k + n % 2) / 2)).length) (by rw [hpk]; omega)
    have v1 : mI M r (p + k) = nI (f k) := by rw [ho r _ he.2.2.1 he.2.2.2]; exact hrow k (by omega)
    have v2 : mI M r (p + k + 1) = nI (f (k + 1)) := by rw [ho r _ he.2.2.1 he.2.2.2, Nat.add_assoc]; exact hrow (k + 1) (by omega)
    have h495 : (495 : Nat) ≠ e := fun q => he.1 q.symm
    refine r_X12_pack (fun n => n == 33) 60 ?_
    simp only [cd_X12_pack, cf_X12_pack, wp, wq, wpI, cdF, w_CI, w_CL, w_CN, w_LI, w_LL, w_LA, w_SI, w_SL, w_SA, w_INC, w_II, w_IId, w_LLb, w_LLd, w_LS, w_I1, w_L1, w_I2L, w_L2I, w_CMP, w_DUP, w_POP, w_DUP2, w_IF, w_IC, w_GO, w_NUL, w_ACN, prs, w_GF, w_PF, w_GS, w_IAL, w_LEN, w_LAL, w_ZAL, w_AAL, w_IAS, w_LAS, w_ZAS, w_AAS, w_RI, w_RL, w_RA, w_NEW, w_NA, w_MNA, w_OI, w_THR, w_CV, w_CS, w_CN9, w_CI9, w_MX, w_cont, lget, sto1, sto2, wideV, vo, vo_rv, isR, isR_rv, rv, fget, fput, cats, Value.category, List.headD_cons, List.getD_cons_zero, List.getD_cons_succ, List.drop_succ_cons, List.drop_zero, List.take_succ_cons, List.take_zero, List.reverse_cons, List.reverse_nil, List.nil_append, List.cons_append, List.length_cons, List.length_nil, cond_true, cond_false, and_true, true_and, Nat.zero_add, Nat.add_zero, Nat.reduceAdd, Nat.reduceLT, Nat.reduceLeDiff, Nat.reduceEqDiff, Nat.reduceBEq, Nat.reduceSub, ↓reduceIte, Int32.reduceOfNat, Int64.reduceOfNat, reduceCtorEq, Nat.le_refl, Nat.zero_le, Bool.false_eq_true, beq_self_eq_true, Fin.isValue, Fin.val_zero, Fin.val_one, Fin.reduceFinMk, Fin.val_two, Nat.reduceMod, Bool.or_false, Bool.or_true, Bool.true_or, Bool.false_or, not_true_eq_false, not_false_eq_true, true_or, or_true, implies_true, false_implies, true_implies, Int32.reduceLT, Int32.reduceLE, ↓w_TAB3, ↓w_TAB4, ↓w_TAB5, ↓w_TAB7, ↓w_TAB10, ↓w_LK2, ↓w_LK6, false_and, and_false, i1z, i2z, iz1, im0, im1, l0z, hk5, hlen, e1, e2, c1, c2, c3, v1, v2, hasK_uI, mI_uI, h495, nI_1]
    refine and_ii (fun q => ?_) (fun _ => ⟨_, hkM _ _ hk1, vp_in_nI (by omega) hk3, _, hkM _ _ hk1, vp_in_nI (by omega) hk3, _, hkM _ _ hke, vp_in_nI (by rw [hpk]; omega) hN2, ?_⟩)
    · exfalso; (simp only [i_lt, i_le, i_eq, l_lt, l_le, l_eq, Int32.toInt_toInt64, Int32.reduceToInt, Int64.reduceToInt, ne_eq, Classical.not_not] at *; omega)
    · have f1 := hfb k (by omega)
      have f2 := hfb (k + 1) (by omega)
      have ey : 16 * nI (f k) + nI (f (k + 1)) = nI (16 * f k + f (k + 1)) := by
        rw [← nI_add]
        congr 1
        rw [i_eq, i_mul] <;> rw [nI_toInt (n := f k) (by omega)] <;> first | (rw [nI_toInt (by omega)]; simp) | (simp; omega)
      have h' := nW_add hM ⟨he.1, he.2.1⟩ ey
      have hp := pk_succ n f ((k + n % 2) / 2)
      rw [show 2 * ((k + n % 2) / 2) = k + n % 2 by omega, hf_at, show k + n % 2 + 1 = k + 1 + n % 2 by omega, hf_at] at hp
      rw [show nI k + 2 = nI (k + 2) from nI_add k 2]
      refine ih (k + 2) (by omega) _ ?_ (ho.t oth_u)
      rw [show (k + 2 + n % 2) / 2 = (k + n % 2) / 2 + 1 by omega, hp, ← List.append_assoc]
      exact h'
theorem m_pack {y z : Int32} (hL : LF M0) (h : nW M0 e xs M) (he : e ≠ 495 ∧ e ≠ 548 ∧ r ≠ e ∧ r ≠ 495) (hke : hasK M0 e (.inl (.int, N))) (hkr : ∃ N', hasK M0 r (.inl (.int, N')) ∧ p + n ≤ N' ∧ N' < 2147483648) (hN2 : N < 2147483648) (hl : xs.length + (n + 1) / 2 ≤ N) (hfb : ∀ i, i < n → f i < 16) (hrow : ∀ i, i < n → mI M r (p + i) = nI (f i)) (hy : y = nI p) (hz : z = nI n) (hQ : ∀ M', nW M0 e (xs ++ pk n f ((n + 1) / 2)) M' → oth e M M' → Q none M') : Ct G (MT 210) [.ref 495, .ref e, .ref r, .int y, .int z] M Q X := by
  subst hy hz
  have hkr' := hkr
  obtain ⟨N', hk1, hk2, hk3⟩ := hkr
  have hLM := h.L hL
  have hk5 : hasK M 495 (.inr 12) := by rw [hLM.hk]; rfl
  have hkM : ∀ b ty, hasK M0 b ty → hasK M b ty := fun b ty q => by obtain ⟨_, _, rfl, -⟩ := h; exact q
  have hr := nI_rem (a := n) (b := 2) (by omega) (by omega) (by omega)
  rw [show nI 2 = (2 : Int32) from rfl] at hr
  have hlen := h.l he.1
  have c1 := nI_clamp (n := p) (by omega)
  have c3 := nI_clamp (n := xs.length) (by omega)
  have h495 : (495 : Nat) ≠ e := fun q => he.1 q.symm
  refine Ct.go (L0 := [some (.ref 495), some (.ref e), some (.ref r), some (.int (nI p)), some (.int (nI n)), none]) (by decide +kernel) rfl rfl ?_
  refine r_X12_pack (fun n => n == 33) 60 ?_
  simp only [cd_X12_pack, cf_X12_pack, wp, wq, wpI, cdF, w_CI, w_CL, w_CN, w_LI, w_LL, w_LA, w_SI, w_SL, w_SA, w_INC, w_II, w_IId, w_LLb, w_LLd, w_LS, w_I1, w_L1, w_I2L, w_L2I, w_CMP, w_DUP, w_POP, w_DUP2, w_IF, w_IC, w_GO, w_NUL, w_ACN, prs, w_GF, w_PF, w_GS, w_IAL, w_LEN, w_LAL, w_ZAL, w_AAL, w_IAS, w_LAS, w_ZAS, w_AAS, w_RI, w_RL, w_RA, w_NEW, w_NA, w_MNA, w_OI, w_THR, w_CV, w_CS, w_CN9, w_CI9, w_MX, w_cont, lget, sto1, sto2, wideV, vo, vo_rv, isR, isR_rv, rv, fget, fput, cats, Value.category, List.headD_cons, List.getD_cons_zero, List.getD_cons_succ, List.drop_succ_cons, List.drop_zero, List.take_succ_cons, List.take_zero, List.reverse_cons, List.reverse_nil, List.nil_append, List.cons_append, List.length_cons, List.length_nil, cond_true, cond_false, and_true, true_and, Nat.zero_add, Nat.add_zero, Nat.reduceAdd, Nat.reduceLT, Nat.reduceLeDiff, Nat.reduceEqDiff, Nat.reduceBEq, Nat.reduceSub, ↓reduceIte, Int32.reduceOfNat, Int64.reduceOfNat, reduceCtorEq, Nat.le_refl, Nat.zero_le, Bool.false_eq_true, beq_self_eq_true, Fin.isValue, Fin.val_zero, Fin.val_one, Fin.reduceFinMk, Fin.val_two, Nat.reduceMod, Bool.or_false, Bool.or_true, Bool.true_or, Bool.false_or, not_true_eq_false, not_false_eq_true, true_or, or_true, implies_true, false_implies, true_implies, Int32.reduceLT, Int32.reduceLE, ↓w_TAB3, ↓w_TAB4, ↓w_TAB5, ↓w_TAB7, ↓w_TAB10, ↓w_LK2, ↓w_LK6, false_and, and_false, i1z, i2z, iz1, im0, im1, l0z, hr, hk5, hlen, c1, c3, hasK_uI, mI_uI, h495, nI_1]
  rcases (show n % 2 = 0 ∨ n % 2 = 1 by omega) with q | q
  · rw [q]
    refine and_ii (fun _ => ?_) (fun q2 => absurd (by decide) q2)
    refine lp_pack hL he hke hkr' hN2 hl hfb M hrow hQ (n / 2) 0 (by omega) M ?_ oth_rfl
    rw [show (0 + n % 2) / 2 = 0 by omega, show pk n f 0 = [] from rfl, List.append_nil]
    exact h
  · rw [q]
    refine and_ii (fun q2 => absurd rfl q2) (fun _ => ⟨_, hkM _ _ hk1, vp_in_nI (by omega) hk3, _, hkM _ _ hke, vp_in_nI (by omega) hN2, ?_⟩)
    have hv : mI M r p = nI (f 0) := hrow 0 (by omega)
    have h' := nW_add h ⟨he.1, he.2.1⟩ hv
    refine lp_pack hL he hke hkr' hN2 hl hfb M hrow hQ (n / 2) 1 (by omega) _ ?_ oth_u
    have hp := pk_succ n f 0
    rw [show 2 * 0 = 0 by omega] at hp
    have h0 : hf n f 0 = 0 := by unfold hf; rw [if_pos q, if_pos rfl]
    have h1 : hf n f (0 + 1) = f 0 := by unfold hf; rw [if_pos q, if_neg (by omega)]
    rw [h0, h1, show pk n f 0 = [] from rfl] at hp
    rw [show (1 + n % 2) / 2 = 0 + 1 by omega, hp]
    simpa using h'
theorem lp_letters (hL : LF M0) (he : e ≠ 495 ∧ e ≠ 548 ∧ r ≠ e ∧ r ≠ 495) (hke : hasK M0 e (.inl (.int, N))) (hkr : hasK M0 r (.inl (.int, 672))) (hs : s < 16) (hn42 : n ≤ 42) (hN2 : N < 2147483648) (hl : xs.length + n ≤ N) (hfb : ∀ i, i < n → f i < 36) (hM0 : Mem) (hrow : ∀ i, i < n → mI hM0 r (42 * s + i) = nI (f i)) (hQ : ∀ M', nW M0 e (xs ++ ltL f n) M' → oth e hM0 M' → Q none M') : ∀ (z k : Nat), z + k = n → ∀ M, nW M0 e (xs ++ ltL f k) M → oth e hM0 M → Go G (MT 212) Q X 80 [some (.ref 495), some (.int (nI s)), some (.ref r), some (.int (nI n)), some (.ref e), some (.int (nI k)), none] [] M 0 0 := by
  intro z
  induction z with
  | zero =>
    intro k hk M hM ho
    have hk : k = n := by omega
    subst hk
    refine r_X12_writeField (fun n => n == 80 || n == 41 || n == 54 || n == 76) 60 ?_
    simp only [cd_X12_writeField, cf_X12_writeField, wp, wq, wpI, cdF, w_CI, w_CL, w_CN, w_LI, w_LL, w_LA, w_SI, w_SL, w_SA, w_INC, w_II, w_IId, w_LLb, w_LLd, w_LS, w_I1, w_L1, w_I2L, w_L2I, w_CMP, w_DUP, w_POP, w_DUP2, w_IF, w_IC, w_GO, w_NUL, w_ACN, prs, w_GF, w_PF, w_GS, w_IAL, w_LEN, w_LAL, w_ZAL, w_AAL, w_IAS, w_LAS, w_ZAS, w_AAS, w_RI, w_RL, w_RA, w_NEW, w_NA, w_MNA, w_OI, w_THR, w_CV, w_CS, w_CN9, w_CI9, w_MX, w_cont, lget, sto1, sto2, wideV, vo, vo_rv, isR, isR_rv, rv, fget, fput, cats, Value.category, List.headD_cons, List.getD_cons_zero, List.getD_cons_succ, List.drop_succ_cons, List.drop_zero, List.take_succ_cons, List.take_zero, List.reverse_cons, List.reverse_nil, List.nil_append, List.cons_append, List.length_cons, List.length_nil, cond_true, cond_false, and_true, true_and, Nat.zero_add, Nat.add_zero, Nat.reduceAdd, Nat.reduceLT, Nat.reduceLeDiff, Nat.reduceEqDiff, Nat.reduceBEq, Nat.reduceSub, ↓reduceIte, Int32.reduceOfNat, Int64.reduceOfNat, reduceCtorEq, Nat.le_refl, Nat.zero_le, Bool.false_eq_true, beq_self_eq_true, Fin.isValue, Fin.val_zero, Fin.val_one, Fin.reduceFinMk, Fin.val_two, Nat.reduceMod, Bool.or_false, Bool.or_true, Bool.true_or, Bool.false_or, not_true_eq_false, not_false_eq_true, true_or, or_true, implies_true, false_implies, true_implies, Int32.reduceLT, Int32.reduceLE, ↓w_TAB3, ↓w_TAB4, ↓w_TAB5, ↓w_TAB7, ↓w_TAB10, ↓w_LK2, ↓w_LK6, false_and, and_false, i1z, i2z, iz1, im0, im1, l0z]
    exact ⟨fun _ => hQ M hM ho, fun q => absurd (nI_le (Nat.le_refl k) (by omega)) q⟩
  | succ z ih =>
    intro k hk M hM ho
    have hLM := hM.L hL
    have hk5 : hasK M 495 (.inr 12) := by rw [hLM.hk]; rfl
    have hkM : ∀ b ty, hasK M0 b ty → hasK M b ty := fun b ty q => by obtain ⟨_, _, rfl, -⟩ := hM; exact q
    have tk := nI_toInt (n := k) (by omega)
    have tn := nI_toInt (n := n) (by omega)
    have hlen := hM.l he.1
    have e42 : (42 : Int32) * nI s = nI (42 * s) := by
      rw [i_eq, i_mul] <;> rw [nI_toInt (n := s) (by omega)] <;> first | (rw [nI_toInt (by omega)]; simp) | (simp; omega)
    have e1 : nI (42 * s) + nI k = nI (42 * s + k) := nI_add _ k
    have c1 := nI_clamp (n := 42 * s + k) (by omega)
    have hpk : (xs ++ ltL f k).length = xs.length + k := by rw [List.length_append, ltL_len]
    have c3 := nI_clamp (n := (xs ++ ltL f k).length) (by rw [hpk]; omega)
    have v1 : mI M r (42 * s + k) = nI (f k) := by rw [ho r _ he.2.2.1 he.2.2.2]; exact hrow k (by omega)
    have h495 : (495 : Nat) ≠ e := fun q => he.1 q.symm
    have fk := hfb k (by omega)
    have tf := nI_toInt (n := f k) (by omega)
    have ih' := ih (k + 1) (by omega)
    rw [ltL_succ, ← List.append_assoc] at ih'
    refine r_X12_writeField (fun n => n == 80 || n == 41 || n == 54 || n == 76) 60 ?_
    simp only [cd_X12_writeField, cf_X12_writeField, wp, wq, wpI, cdF, w_CI, w_CL, w_CN, w_LI, w_LL, w_LA, w_SI, w_SL, w_SA, w_INC, w_II, w_IId, w_LLb, w_LLd, w_LS, w_I1, w_L1, w_I2L, w_L2I, w_CMP, w_DUP, w_POP, w_DUP2, w_IF, w_IC, w_GO, w_NUL, w_ACN, prs, w_GF, w_PF, w_GS, w_IAL, w_LEN, w_LAL, w_ZAL, w_AAL, w_IAS, w_LAS, w_ZAS, w_AAS, w_RI, w_RL, w_RA, w_NEW, w_NA, w_MNA, w_OI, w_THR, w_CV, w_CS, w_CN9, w_CI9, w_MX, w_cont, lget, sto1, sto2, wideV, vo, vo_rv, isR, isR_rv, rv, fget, fput, cats, Value.category, List.headD_cons, List.getD_cons_zero, List.getD_cons_succ, List.drop_succ_cons, List.drop_zero, List.take_succ_cons, List.take_zero, List.reverse_cons, List.reverse_nil, List.nil_append, List.cons_append, List.length_cons, List.length_nil, cond_true, cond_false, and_true, true_and, Nat.zero_add, Nat.add_zero, Nat.reduceAdd, Nat.reduceLT, Nat.reduceLeDiff, Nat.reduceEqDiff, Nat.reduceBEq, Nat.reduceSub, ↓reduceIte, Int32.reduceOfNat, Int64.reduceOfNat, reduceCtorEq, Nat.le_refl, Nat.zero_le, Bool.false_eq_true, beq_self_eq_true, Fin.isValue, Fin.val_zero, Fin.val_one, Fin.reduceFinMk, Fin.val_two, Nat.reduceMod, Bool.or_false, Bool.or_true, Bool.true_or, Bool.false_or, not_true_eq_false, not_false_eq_true, true_or, or_true, implies_true, false_implies, true_implies, Int32.reduceLT, Int32.reduceLE, ↓w_TAB3, ↓w_TAB4, ↓w_TAB5, ↓w_TAB7, ↓w_TAB10, ↓w_LK2, ↓w_LK6, false_and, and_false, i1z, i2z, iz1, im0, im1, l0z, hk5, hlen, e42, e1, c1, c3, v1, hasK_uI, mI_uI, h495, nI_1]
    refine and_ii (fun q => ?_) (fun _ => ⟨_, hkM _ _ hkr, vp_in_nI (by omega) (by omega), and_ii (fun q => ⟨_, hkM _ _ hke, vp_in_nI (by rw [hpk]; omega) hN2, ?_⟩) (fun q => ⟨_, hkM _ _ hke, vp_in_nI (by rw [hpk]; omega) hN2, ?_⟩)⟩)
    · exfalso; (simp only [i_lt, i_le, i_eq, l_lt, l_le, l_eq, Int32.toInt_toInt64, Int32.reduceToInt, Int64.reduceToInt, ne_eq, Classical.not_not] at *; omega)
    · have hb : ¬ f k < 10 := by (simp only [i_lt, i_le, i_eq, l_lt, l_le, l_eq, Int32.toInt_toInt64, Int32.reduceToInt, Int64.reduceToInt, ne_eq, Classical.not_not] at *; omega)
      have ey : (55 : Int32) + nI (f k) = nI (ltB (f k)) := by
        unfold ltB
        rw [if_neg hb, show (55 : Int32) = nI 55 from rfl, nI_add]
      have h' := nW_add hM ⟨he.1, he.2.1⟩ ey
      refine Go.less (ih' _ h' (ho.t oth_u)) (fun i v h => ?_)
      rcases i with _ | _ | _ | _ | _ | _ | _ | i <;> simp at h ⊢ <;> exact h
    · have hb : f k < 10 := by (simp only [i_lt, i_le, i_eq, l_lt, l_le, l_eq, Int32.toInt_toInt64, Int32.reduceToInt, Int64.reduceToInt, ne_eq, Classical.not_not] at *; omega)
      have ey : (48 : Int32) + nI (f k) = nI (ltB (f k)) := by
        unfold ltB
        rw [if_pos hb, show (48 : Int32) = nI 48 from rfl, nI_add]
      have h' := nW_add hM ⟨he.1, he.2.1⟩ ey
      refine Go.less (ih' _ h' (ho.t oth_u)) (fun i v h => ?_)
      rcases i with _ | _ | _ | _ | _ | _ | _ | i <;> simp at h ⊢ <;> exact h
end SEM
