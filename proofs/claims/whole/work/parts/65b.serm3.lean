/-! A MESSAGE IS WRITTEN: the reference, the whole -/
section SM3
variable {G : En} {M M0 : Mem} {Q : Option Value → Mem → Prop} {X : String → Mem → Prop} {a b e r p s n N v k th c i : Nat} {m : Msg} {f : Nat → Nat} {xs : List Nat}
theorem nW_set {y : Int32} (h : nW M0 e xs M) (hi : i < xs.length) (hy : y = nI v) : nW M0 e (xs.set i v) (uI M e i y) := by
  obtain ⟨g, h', rfl, hg⟩ := h
  refine ⟨fun k => if k = i then y else g k, h', ?_, fun k hk => ?_⟩
  · rw [uI_sRow, List.length_set]
  · rw [List.length_set] at hk
    rw [gD_set hi]
    show (if k = i then y else g k) = _
    by_cases q : k = i
    · rw [if_pos q, if_pos q, hy]
    · rw [if_neg q, if_neg q]; exact hg k hk
theorem nW.at (h : nW M0 e xs M) (hi : i < xs.length) : mI M e i = nI (xs.getD i 0) := by
  obtain ⟨g, h', rfl, hg⟩ := h
  rw [mI_sRow, if_pos rfl]
  exact hg i hi
/-- the fields below i -/
def pl (th i s : Nat) : Nat := if s < i then pb th s else 0
theorem pk_4 (h : n ≤ 9999) : pk 4 (dgt 10 4 n) ((4 + 1) / 2) = tyB n := by
  show [16 * hf 4 (dgt 10 4 n) 0 + hf 4 (dgt 10 4 n) 1, 16 * hf 4 (dgt 10 4 n) 2 + hf 4 (dgt 10 4 n) 3] = _
  simp [hf, dgt, tyB]
  omega
theorem mod_succ : th % 2 ^ (i + 1) = th % 2 ^ i + 2 ^ i * pb th i := by
  unfold pb
  rw [Nat.pow_succ, Nat.mod_mul]
theorem sec_step (hi : i < 16) : (if 2048 ≤ th % 2 ^ (i + 1) then 1 else 0) = if 2048 ≤ th % 2 ^ i ∨ (pb th i = 1 ∧ 64 < fnF i) then 1 else 0 := by
  have e1 : ∀ s : Fin 16, 64 < fnF s.val ↔ 11 ≤ s.val := by decide
  have e1 := e1 ⟨i, hi⟩
  simp only at e1
  have hm := mod_succ (th := th) (i := i)
  have hp := pb_le th i
  have hl : th % 2 ^ i < 2 ^ i := Nat.mod_lt _ (Nat.pow_pos (by omega))
  by_cases q : 11 ≤ i
  · have h2 : 2048 ≤ 2 ^ i := Nat.pow_le_pow_right (n := 2) (by omega) q
    by_cases q2 : pb th i = 1
    · rw [if_pos (by rw [hm, q2]; omega), if_pos (Or.inr ⟨q2, e1.mpr q⟩)]
    · have q0 : pb th i = 0 := by omega
      rw [hm, q0, Nat.mul_zero, Nat.add_zero]
      by_cases q3 : 2048 ≤ th % 2 ^ i
      · rw [if_pos q3, if_pos (Or.inl q3)]
      · rw [if_neg q3, if_neg (fun q4 => q4.elim q3 (fun q5 => absurd q5.1 (by omega)))]
  · have h2 : 2 ^ (i + 1) ≤ 2048 := Nat.pow_le_pow_right (n := 2) (j := 11) (by omega) (by omega)
    have h3 : 2 ^ i ≤ 2048 := Nat.pow_le_pow_right (n := 2) (j := 11) (by omega) (by omega)
    have hl2 : th % 2 ^ (i + 1) < 2 ^ (i + 1) := Nat.mod_lt _ (Nat.pow_pos (by omega))
    rw [if_neg (by omega), if_neg]
    rintro (q3 | q3)
    · omega
    · exact q (e1.mp q3.2)
theorem mp_step (hi : i < 16) (hc : 11 ≤ i → c = 1) (hp : pb th i = 1) : (mpL (pl th i) c).set ((fnF i - 1) / 8) ((mpL (pl th i) c).getD ((fnF i - 1) / 8) 0 + 128 / 2 ^ ((fnF i - 1) % 8)) = mpL (pl th (i + 1)) c ∧ (fnF i - 1) / 8 < 8 + 8 * c := by
  have hc2 : (fnF i - 1) / 8 < 8 + 8 * c := by
    rcases i with _ | _ | _ | _ | _ | _ | _ | _ | _ | _ | _ | _ | _ | _ | _ | _ | i
    all_goals first | omega | (simp only [fnF]; omega) | (have := hc (by omega); subst this; simp only [fnF]; omega)
  refine ⟨?_, hc2⟩
  apply List.ext_getElem?
  intro k
  unfold mpL
  rw [List.getElem?_set, List.length_map, List.length_range, List.getElem?_map, List.getElem?_map]
  have hg : (List.map (mpB (pl th i) c) (List.range (8 + 8 * c))).getD ((fnF i - 1) / 8) 0 = mpB (pl th i) c ((fnF i - 1) / 8) := by
    rw [List.getD_eq_getElem?_getD, List.getElem?_map, List.getElem?_range hc2]
    rfl
  rw [hg]
  by_cases hk : k < 8 + 8 * c
  · rw [List.getElem?_range hk]
    simp only [Option.map_some]
    by_cases q : (fnF i - 1) / 8 = k
    · rw [if_pos q, if_pos hc2, q]
      congr 1
      subst q
      rcases i with _ | _ | _ | _ | _ | _ | _ | _ | _ | _ | _ | _ | _ | _ | _ | _ | i
      all_goals first | omega | (simp [fnF, mpB, pl, hp]; omega) | simp [fnF, mpB, pl, hp]
    · rw [if_neg q]
      congr 1
      rcases i with _ | _ | _ | _ | _ | _ | _ | _ | _ | _ | _ | _ | _ | _ | _ | _ | i
      all_goals try omega
      all_goals rcases k with _ | _ | _ | _ | _ | _ | _ | _ | _ | _ | _ | _ | k
      all_goals first | rfl | (exfalso; exact q rfl) | (simp [mpB, pl]; done) | omega
  · have e0 : (List.range (8 + 8 * c))[k]? = none := List.getElem?_eq_none (by simp; omega)
    rw [if_neg (by omega), e0]
    rfl
/-- the sizes and rows that a message has in the reference -/
def msR (M : Mem) (b c : Nat) (m : Msg) : Prop := ∀ s, s < 16 → (pb (gH m) s = 1 → mI M b s = nI (gN m s) ∧ ∀ i, i < gN m s → mI M c (42 * s + i) = nI (gS m s i)) ∧ (pb (gH m) s = 0 → mI M b s = -1)
theorem lp_w1 (hL : LF M0) (hK : mK M0) (he : 498 < e ∧ e ≠ b ∧ e ≠ 548) (hb : b ≠ 495 ∧ b ≠ 548 ∧ hasK M0 b (.inl (.int, 16))) (hm : msR M0 b r m) (ho : okM m) (h : nW M0 e xs M) (w : Int32) (hQ : Go G (MT 211) Q X 78 [some (.ref 495), some (.int w), some (.ref r), some (.ref b), some (.ref e), some (.int (nI (scF (gH m)))), none, none] [] M 0 0) : ∀ (z i : Nat), z + i = 16 → Go G (MT 211) Q X 34 [some (.ref 495), some (.int w), some (.ref r), some (.ref b), some (.ref e), some (.int (nI (if 2048 ≤ gH m % 2 ^ i then 1 else 0))), some (.int (nI i)), none] [] M 0 0 := by
  have hf : ∀ s, s < 16 → fnF s ≤ 95 := fun s _ => by unfold fnF; split <;> omega
  have hLM := h.L hL
  have hkM : hasK M b (.inl (.int, 16)) := by obtain ⟨_, _, rfl, -⟩ := h; exact hb.2.2
  intro z
  induction z with
  | zero =>
    intro i hi
    have hi : i = 16 := by omega
    subst hi
    have e0 : (if 2048 ≤ gH m % 2 ^ 16 then 1 else 0) = scF (gH m) := by
      unfold scF
      rw [Nat.mod_eq_of_lt ho.2.1]
    rw [e0]
    refine r_X12_write (fun n => n == 34 || n == 78 || n == 16 || n == 28 || n == 201) 60 ?_
    simp only [cd_X12_write, cf_X12_write, wp, wq, wpI, cdF, w_CI, w_CL, w_CN, w_LI, w_LL, w_LA, w_SI, w_SL, w_SA, w_INC, w_II, w_IId, w_LLb, w_LLd, w_LS, w_I1, w_L1, w_I2L, w_L2I, w_CMP, w_DUP, w_POP, w_DUP2, w_IF, w_IC, w_GO, w_NUL, w_ACN, prs, w_GF, w_PF, w_GS, w_IAL, w_LEN, w_LAL, w_ZAL, w_AAL, w_IAS, w_LAS, w_ZAS, w_AAS, w_RI, w_RL, w_RA, w_NEW, w_NA, w_MNA, w_OI, w_THR, w_CV, w_CS, w_CN9, w_CI9, w_MX, w_cont, lget, sto1, sto2, wideV, vo, vo_rv, isR, isR_rv, rv, fget, fput, cats, Value.category, List.headD_cons, List.getD_cons_zero, List.getD_cons_succ, List.drop_succ_cons, List.drop_zero, List.take_succ_cons, List.take_zero, List.reverse_cons, List.reverse_nil, List.nil_append, List.cons_append, List.length_cons, List.length_nil, cond_true, cond_false, and_true, true_and, Nat.zero_add, Nat.add_zero, Nat.reduceAdd, Nat.reduceLT, Nat.reduceLeDiff, Nat.reduceEqDiff, Nat.reduceBEq, Nat.reduceSub, ↓reduceIte, Int32.reduceOfNat, Int64.reduceOfNat, reduceCtorEq, Nat.le_refl, Nat.zero_le, Bool.false_eq_true, beq_self_eq_true, Fin.isValue, Fin.val_zero, Fin.val_one, Fin.reduceFinMk, Fin.val_two, Nat.reduceMod, Bool.or_false, Bool.or_true, Bool.true_or, Bool.false_or, not_true_eq_false, not_false_eq_true, true_or, or_true, implies_true, false_implies, true_implies, Int32.reduceLT, Int32.reduceLE, ↓w_TAB3, ↓w_TAB4, ↓w_TAB5, ↓w_TAB7, ↓w_TAB10, ↓w_LK2, ↓w_LK6, false_and, and_false, i1z, i2z, iz1, im0, im1, l0z]
    refine ⟨fun _ => Go.less hQ (fun i v h => ?_), fun q => absurd (by decide) q⟩
    rcases i with _ | _ | _ | _ | _ | _ | _ | _ | i <;> simp at h ⊢ <;> exact h
  | succ z ih =>
    intro i hi
    have hi16 : i < 16 := by omega
    have ti := nI_toInt (n := i) (by omega)
    have ci := nI_clamp (n := i) (by omega)
    have hfi := hf i hi16
    have tf := nI_toInt (n := fnF i) (by omega)
    have hnum : mI M 496 i = nI (fnF i) := by rw [h.i (by omega) (by omega)]; exact (hK i hi16).1
    have hsz : mI M b i = mI M0 b i := h.i (by omega) (by omega)
    have hmi := hm i hi16
    have hpb := pb_le (gH m) i
    have ih' := ih (i + 1) (by omega)
    rw [sec_step hi16] at ih'
    have lss : ∀ {A B : List (Option Value)}, True := trivial
    by_cases q1 : 2048 ≤ gH m % 2 ^ i
    · rw [if_pos (Or.inl q1)] at ih'
      rw [if_pos q1]
      have e1 : ¬ nI 1 = 0 := by decide
      refine r_X12_write (fun n => n == 34 || n == 78 || n == 16 || n == 28 || n == 201) 60 ?_
      simp only [cd_X12_write, cf_X12_write, wp, wq, wpI, cdF, w_CI, w_CL, w_CN, w_LI, w_LL, w_LA, w_SI, w_SL, w_SA, w_INC, w_II, w_IId, w_LLb, w_LLd, w_LS, w_I1, w_L1, w_I2L, w_L2I, w_CMP, w_DUP, w_POP, w_DUP2, w_IF, w_IC, w_GO, w_NUL, w_ACN, prs, w_GF, w_PF, w_GS, w_IAL, w_LEN, w_LAL, w_ZAL, w_AAL, w_IAS, w_LAS, w_ZAS, w_AAS, w_RI, w_RL, w_RA, w_NEW, w_NA, w_MNA, w_OI, w_THR, w_CV, w_CS, w_CN9, w_CI9, w_MX, w_cont, lget, sto1, sto2, wideV, vo, vo_rv, isR, isR_rv, rv, fget, fput, cats, Value.category, List.headD_cons, List.getD_cons_zero, List.getD_cons_succ, List.drop_succ_cons, List.drop_zero, List.take_succ_cons, List.take_zero, List.reverse_cons, List.reverse_nil, List.nil_append, List.cons_append, List.length_cons, List.length_nil, cond_true, cond_false, and_true, true_and, Nat.zero_add, Nat.add_zero, Nat.reduceAdd, Nat.reduceLT, Nat.reduceLeDiff, Nat.reduceEqDiff, Nat.reduceBEq, Nat.reduceSub, ↓reduceIte, Int32.reduceOfNat, Int64.reduceOfNat, reduceCtorEq, Nat.le_refl, Nat.zero_le, Bool.false_eq_true, beq_self_eq_true, Fin.isValue, Fin.val_zero, Fin.val_one, Fin.reduceFinMk, Fin.val_two, Nat.reduceMod, Bool.or_false, Bool.or_true, Bool.true_or, Bool.false_or, not_true_eq_false, not_false_eq_true, true_or, or_true, implies_true, false_implies, true_implies, Int32.reduceLT, Int32.reduceLE, ↓w_TAB3, ↓w_TAB4, ↓w_TAB5, ↓w_TAB7, ↓w_TAB10, ↓w_LK2, ↓w_LK6, false_and, and_false, i1z, i2z, iz1, im0, im1, l0z, e1, nI_1]
      refine and_ii (fun q => ?_) (fun _ => ih')
      exfalso; (simp only [i_lt, i_le, i_eq, l_lt, l_le, l_eq, Int32.toInt_toInt64, Int32.reduceToInt, Int64.reduceToInt, ne_eq, Classical.not_not] at *; omega)
    · rw [if_neg q1]
      have e1 : nI 0 = 0 := rfl
      refine r_X12_write (fun n => n == 34 || n == 78 || n == 16 || n == 28 || n == 201) 60 ?_
      simp only [cd_X12_write, cf_X12_write, wp, wq, wpI, cdF, w_CI, w_CL, w_CN, w_LI, w_LL, w_LA, w_SI, w_SL, w_SA, w_INC, w_II, w_IId, w_LLb, w_LLd, w_LS, w_I1, w_L1, w_I2L, w_L2I, w_CMP, w_DUP, w_POP, w_DUP2, w_IF, w_IC, w_GO, w_NUL, w_ACN, prs, w_GF, w_PF, w_GS, w_IAL, w_LEN, w_LAL, w_ZAL, w_AAL, w_IAS, w_LAS, w_ZAS, w_AAS, w_RI, w_RL, w_RA, w_NEW, w_NA, w_MNA, w_OI, w_THR, w_CV, w_CS, w_CN9, w_CI9, w_MX, w_cont, lget, sto1, sto2, wideV, vo, vo_rv, isR, isR_rv, rv, fget, fput, cats, Value.category, List.headD_cons, List.getD_cons_zero, List.getD_cons_succ, List.drop_succ_cons, List.drop_zero, List.take_succ_cons, List.take_zero, List.reverse_cons, List.reverse_nil, List.nil_append, List.cons_append, List.length_cons, List.length_nil, cond_true, cond_false, and_true, true_and, Nat.zero_add, Nat.add_zero, Nat.reduceAdd, Nat.reduceLT, Nat.reduceLeDiff, Nat.reduceEqDiff, Nat.reduceBEq, Nat.reduceSub, ↓reduceIte, Int32.reduceOfNat, Int64.reduceOfNat, reduceCtorEq, Nat.le_refl, Nat.zero_le, Bool.false_eq_true, beq_self_eq_true, Fin.isValue, Fin.val_zero, Fin.val_one, Fin.reduceFinMk, Fin.val_two, Nat.reduceMod, Bool.or_false, Bool.or_true, Bool.true_or, Bool.false_or, not_true_eq_false, not_false_eq_true, true_or, or_true, implies_true, false_implies, true_implies, Int32.reduceLT, Int32.reduceLE, ↓w_TAB3, ↓w_TAB4, ↓w_TAB5, ↓w_TAB7, ↓w_TAB10, ↓w_LK2, ↓w_LK6, false_and, and_false, i1z, i2z, iz1, im0, im1, l0z, e1, nI_1, ci, LF.hk hLM, layF, LF.r hLM, refF, hnum, hsz, ne_eq, not_false_eq_true, Option.some.injEq, Sum.inl.injEq, Prod.mk.injEq, exists_eq_left, exists_eq_left']
      refine and_ii (fun q => ?_) (fun _ => ?_)
      · exfalso; (simp only [i_lt, i_le, i_eq, l_lt, l_le, l_eq, Int32.toInt_toInt64, Int32.reduceToInt, Int64.reduceToInt, ne_eq, Classical.not_not] at *; omega)
      by_cases q2 : pb (gH m) i = 1
      · have hn42 := okM_42 ho i hi16 q2
        rw [(hmi.1 q2).1]
        have hx : layF b = some (.inl (.int, 16)) := by rw [← hLM.hk]; exact hkM
        refine ⟨16, hx, vp_in_nI hi16 (by omega), and_ii (fun q => absurd q (nI_pos (by omega))) (fun _ => ⟨vp_in_nI hi16 (by omega), and_ii (fun q => ?_) (fun q => ?_)⟩)⟩
        · rw [if_neg (by intro q3; rcases q3 with q3 | q3; · exact q1 q3
                         · have := q3.2; (simp only [i_lt, i_le, i_eq, l_lt, l_le, l_eq, Int32.toInt_toInt64, Int32.reduceToInt, Int64.reduceToInt, ne_eq, Classical.not_not] at *; omega))] at ih'
          exact ih'
        · rw [if_pos (Or.inr ⟨q2, by (simp only [i_lt, i_le, i_eq, l_lt, l_le, l_eq, Int32.toInt_toInt64, Int32.reduceToInt, Int64.reduceToInt, ne_eq, Classical.not_not] at *; omega)⟩)] at ih'
          exact ih'
      · have q0 : pb (gH m) i = 0 := by omega
        rw [hmi.2 q0]
        have hx : layF b = some (.inl (.int, 16)) := by rw [← hLM.hk]; exact hkM
        refine ⟨16, hx, vp_in_nI hi16 (by omega), and_ii (fun _ => ?_) (fun q => absurd (by decide) q)⟩
        rw [if_neg (fun q3 => q3.elim q1 (fun q4 => q2 q4.1))] at ih'
        exact ih'
end SM3
