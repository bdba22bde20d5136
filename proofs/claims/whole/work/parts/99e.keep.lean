/-! AN ANSWER IS KEPT, AND SENT: the class -/
section KP
variable {G : En} {M M0 Mz M' : Mem} {Q : Option Value → Mem → Prop} {X : String → Mem → Prop} {S : Sw} {t a b j k v i np T A s n d N r o' : Nat} {x y : Int32} {z : Int64} {u am : Int} {w c : Nat → Nat} {o : Nat} {p : Py} {q q' : Nat → Int × Int} {m mx : Msg} {xs ys : List Nat} {ar : Ar}
theorem lay_ab : ∀ i : Fin 48, layF (335 + 2 * i.val) = some (.inr 3) ∧ layF (335 + 2 * i.val + 1) = some (.inl (.int, 162)) := by decide
theorem BY_a (hL : LF M) (hi : i < 48) : BY M (335 + 2 * i) (335 + 2 * i + 1) 162 := ⟨by rw [hL.hk]; exact (lay_ab ⟨i, hi⟩).1, by rw [hL.2.2.2.2.2.2.2.1 i hi]; congr 1; omega, by rw [hL.hk]; exact (lay_ab ⟨i, hi⟩).2, by omega⟩
theorem BY_m (hL : LF M) (hi : i < 24) : BY M (335 + 4 * i) (335 + 4 * i + 1) 162 := by
  have := BY_a (i := 2 * i) hL (by omega)
  rw [show 335 + 2 * (2 * i) = 335 + 4 * i by omega] at this
  exact this
theorem BY_o (hL : LF M) (hi : i < 24) : BY M (337 + 4 * i) (337 + 4 * i + 1) 162 := by
  have := BY_a (i := 2 * i + 1) hL (by omega)
  rw [show 335 + 2 * (2 * i + 1) = 337 + 4 * i by omega] at this
  exact this
theorem RC_arc {na : Nat} {arc : Nat → Ar} (hR : RC w o c S M) (h60 : sN S 39 ≤ 60) (s0 : ∀ b, b < 328 ∨ (430 < b ∧ b < 495) → sA M M' b) (hL' : LF M') (n6 : mI M' 328 6 = nI na) (hr : cR o' na arc M') : RC w o' c (wR (wN S (up1 (sN S) 55 na)) arc) M' := by
  obtain ⟨hL, hN, hI, hLl, hF, hS, hA, hC, hP, hRr, hD, hT, hZ⟩ := hR
  refine ⟨hL', ?_, ?_, ?_, ?_, ?_, ?_, ?_, ⟨?_, hP.2.1, ?_⟩, hr, ?_, ?_, ?_⟩
  · unfold cN at hN ⊢
    rw [(s0 0 (by omega)).1, (s0 1 (by omega)).1, (s0 139 (by omega)).1, (s0 431 (by omega)).1, n6]
    obtain ⟨g1, g2, g3, g4, g5, g6, g7, g8, g9, g10, g11, g12, g13, g14, g15⟩ := hN
    exact ⟨g1, g2, g3, g4, g5, g6, g7, g8, g9, g10, g11, g12, g13, rfl, g15⟩
  · exact ⟨fun i hi => by rw [(s0 2 (by omega)).1, (s0 3 (by omega)).1, (s0 145 (by omega)).1]; exact hI.1 i hi, fun i hi => by rw [(s0 4 (by omega)).1, (s0 5 (by omega)).1, (s0 6 (by omega)).1]; exact hI.2.1 i hi, fun i hi => by rw [(s0 (11 + 2 * i) (by omega)).1]; exact hI.2.2.1 i hi, fun i hi => by rw [(s0 9 (by omega)).1, (s0 10 (by omega)).1]; exact hI.2.2.2 i hi⟩
  · exact ⟨fun i hi => by rw [(s0 141 (by omega)).2.1, (s0 142 (by omega)).2.1, (s0 146 (by omega)).2.1]; exact hLl.1 i hi, fun i hi => by rw [(s0 143 (by omega)).2.1, (s0 144 (by omega)).2.1]; exact hLl.2.1 i hi, fun i hi => by rw [(s0 (11 + 2 * i) (by omega)).2.1]; exact hLl.2.2 i hi⟩
  · exact fun i hi => by rw [(s0 (11 + 2 * i) (by omega)).1, (s0 (11 + 2 * i) (by omega)).2.1]; exact hF i hi
  · exact fun i hi => by rw [(s0 (11 + 2 * i) (by omega)).2.1]; exact hS i hi
  · intro i hi
    have hA := hA i hi
    exact ⟨by rw [(s0 (11 + 2 * i) (by omega)).1]; exact hA.1, ⟨hA.2.1.1, by rw [(s0 139 (by omega)).1]; exact hA.2.1.2⟩, fun k hk => by rw [(s0 (12 + 2 * i) (by omega)).1]; exact hA.2.2 k hk⟩
  · exact fun i hi => by rw [(s0 8 (by omega)).2.1]; exact hC i hi
  · exact fun i hi => by rw [(s0 147 (by omega)).2.2]; exact hP.1 i hi
  · intro i hi
    have hi : i < sN S 39 := hi
    have hwi := (hP.1 i (by omega)).2
    exact payC_fr (hP.2.2 i hi) (s0 _ (by omega)) (s0 _ (by omega)) (s0 _ (by omega))
  · exact ⟨by rw [(s0 432 (by omega)).1]; exact hD.1, by rw [(s0 432 (by omega)).1]; exact hD.2.1, fun s hs' hp' => ⟨by rw [(s0 433 (by omega)).1]; exact (hD.2.2 s hs' hp').1, fun i hi => by rw [(s0 (435 + s) (by omega)).1]; exact (hD.2.2 s hs' hp').2 i hi⟩⟩
  · exact hT.fr (s0 _ (by omega)) (s0 _ (by omega))
  · exact hZ.fr (s0 _ (by omega)) (s0 _ (by omega))
theorem keep_eq (h : sN S 55 ≤ 24) : keep S ar = wR (wN S (up1 (sN S) 55 (if sN S 55 < 24 then sN S 55 + 1 else sN S 55))) (if sN S 55 < 24 then up1 (sR S) (sN S 55) ar else fun k => if k < 23 then sR S (k + 1) else ar) := by
  unfold keep
  by_cases q : sN S 55 < 24
  · rw [if_pos q, if_pos q, if_pos q]
  · rw [if_neg q, if_neg q, if_neg q, up1_id]; rfl
/-- the ring, when a new answer has its row -/
theorem cR_keep (hr : cR o (sN S 55) (sR S) M) (hn : sN S 55 ≤ 24) (er : r = if sN S 55 < 24 then sN S 55 else o) (eo : o' = if sN S 55 < 24 then 0 else (o + 1) % 24) (h7 : mI M' 328 7 = nI o') (hx : arcC M' r ar) (hs : ∀ i ar', i < 24 → i ≠ r → arcC M i ar' → arcC M' i ar') : cR o' (if sN S 55 < 24 then sN S 55 + 1 else sN S 55) (if sN S 55 < 24 then up1 (sR S) (sN S 55) ar else fun k => if k < 23 then sR S (k + 1) else ar) M' := by
  obtain ⟨h1, h2, h3, h4⟩ := hr
  by_cases q : sN S 55 < 24
  · rw [if_pos q] at er eo ⊢
    rw [if_pos q]
    subst er eo
    have h3 := h3 q
    refine ⟨h7, by omega, fun _ => rfl, fun k hk => ?_⟩
    by_cases e : k = sN S 55
    · subst e
      rw [up1_same, show (0 + sN S 55) % 24 = sN S 55 by omega]
      exact hx
    · rw [up1_ne e]
      have := h4 k (by omega)
      rw [h3] at this
      exact hs _ _ (by omega) (by omega) this
  · rw [if_neg q] at er eo ⊢
    rw [if_neg q]
    subst er eo
    refine ⟨h7, by omega, fun e => absurd e q, fun k hk => ?_⟩
    show arcC M' (((r + 1) % 24 + k) % 24) (if k < 23 then sR S (k + 1) else ar)
    by_cases e : k < 23
    · rw [if_pos e]
      have := h4 (k + 1) (by omega)
      rw [show ((r + 1) % 24 + k) % 24 = (r + (k + 1)) % 24 by omega]
      exact hs _ _ (by omega) (by omega) this
    · rw [if_neg e, show ((r + 1) % 24 + k) % 24 = r by omega]
      exact hx
theorem c_takeRow (hL : LF M) (h6 : mI M 328 6 = nI (sN S 55)) (h7 : mI M 328 7 = nI o) (hn : sN S 55 ≤ 24) (ho : o < 24) (hz : sN S 55 < 24 → o = 0) (hQ : ∀ M', (∃ j v, M' = uI M 328 j v) → mI M' 328 6 = nI (if sN S 55 < 24 then sN S 55 + 1 else sN S 55) → mI M' 328 7 = nI (if sN S 55 < 24 then 0 else (o + 1) % 24) → Q (some (.int (nI (if sN S 55 < 24 then sN S 55 else o)))) M') : Ct G (MT 8) [.ref 328] M Q X := by
  have t55 := nI_toInt (n := sN S 55) (by omega)
  have i24 : ((24 : Int32) = 0) = False := eq_false (by decide)
  have e24 : nI (o + 1) - nI (o + 1) / 24 * 24 = nI ((o + 1) % 24) := nI_rem (b := 24) (by omega) (by omega) (by omega)
  have g6 : mI (uI M 328 6 (nI (sN S 55 + 1))) 328 6 = nI (sN S 55 + 1) := by rw [mI_uI, if_pos ⟨rfl, rfl⟩]
  have ep : nI (sN S 55 + 1) - 1 = nI (sN S 55) := nI_pred _
  refine Ct.go (L0 := [some (.ref 328), none]) (by decide +kernel) rfl rfl ?_
  refine r_X1_takeRow (fun _ => false) 60 ?_
  simp only [cd_X1_takeRow, cf_X1_takeRow, wp, wq, wpI, cdF, w_CI, w_CL, w_CN, w_LI, w_LL, w_LA, w_SI, w_SL, w_SA, w_INC, w_II, w_IId, w_LLb, w_LLd, w_LS, w_I1, w_L1, w_I2L, w_L2I, w_CMP, w_DUP, w_POP, w_DUP2, w_IF, w_IC, w_GO, w_NUL, w_ACN, prs, w_GF, w_PF, w_GS, w_IAL, w_LEN, w_LAL, w_ZAL, w_AAL, w_IAS, w_LAS, w_ZAS, w_AAS, w_RI, w_RL, w_RA, w_NEW, w_NA, w_MNA, w_OI, w_THR, w_CV, w_CS, w_CN9, w_CI9, w_MX, w_cont, lget, sto1, sto2, wideV, vo, vo_rv, isR, isR_rv, rv, fget, fput, cats, Value.category, List.headD_cons, List.getD_cons_zero, List.getD_cons_succ, List.drop_succ_cons, List.drop_zero, List.take_succ_cons, List.take_zero, List.reverse_cons, List.reverse_nil, List.nil_append, List.cons_append, List.length_cons, List.length_nil, cond_true, cond_false, and_true, true_and, Nat.zero_add, Nat.add_zero, Nat.reduceAdd, Nat.reduceLT, Nat.reduceLeDiff, Nat.reduceEqDiff, Nat.reduceBEq, Nat.reduceSub, ↓reduceIte, Int32.reduceOfNat, Int64.reduceOfNat, reduceCtorEq, Nat.le_refl, Nat.zero_le, Bool.false_eq_true, beq_self_eq_true, Fin.isValue, Fin.val_zero, Fin.val_one, Fin.reduceFinMk, Fin.val_two, Nat.reduceMod, Bool.or_false, Bool.or_true, Bool.true_or, Bool.false_or, not_true_eq_false, not_false_eq_true, true_or, or_true, implies_true, false_implies, true_implies, Int32.reduceLT, Int32.reduceLE, ↓w_TAB3, ↓w_TAB4, ↓w_TAB5, ↓w_TAB7, ↓w_TAB10, ↓w_LK2, ↓w_LK6, false_and, and_false, i1z, i2z, iz1, im0, im1, l0z, hasK_uI, hasK_uL, hasK_uR, hasK_uZ, hasK_sRow, mR_uI, mR_uL, mR_uZ, mR_sRow, mI_uL, mI_uR, mI_uZ, mL_uI, mL_uR, mL_uZ, mL_sRow, LF.hk hL, layF, LF.r hL, refF, ne_eq, not_false_eq_true, Option.some.injEq, Sum.inl.injEq, Sum.inr.injEq, Prod.mk.injEq, exists_eq_left, exists_eq_left', h6, h7, nI_1, i24, g6, ep, e24]
  refine and_ii (fun q => ?_) (fun q => ?_)
  · have q : ¬ sN S 55 < 24 := by (simp only [i_lt, i_le, i_eq, l_lt, l_le, l_eq, Int32.toInt_toInt64, Int32.reduceToInt, Int64.reduceToInt, ne_eq, Classical.not_not] at *; omega)
    rw [if_neg q, if_neg q, if_neg q] at hQ
    exact hQ _ ⟨_, _, rfl⟩ (by rw [mI_ne (by omega)]; exact h6) (by rw [mI_uI, if_pos ⟨rfl, rfl⟩])
  · have q : sN S 55 < 24 := by (simp only [i_lt, i_le, i_eq, l_lt, l_le, l_eq, Int32.toInt_toInt64, Int32.reduceToInt, Int64.reduceToInt, ne_eq, Classical.not_not] at *; omega)
    rw [if_pos q, if_pos q, if_pos q] at hQ
    exact hQ _ ⟨_, _, rfl⟩ g6 (by rw [mI_ne (by omega), h7, hz q])
set_option maxRecDepth 20000 in
theorem c_keep {rs : Nat} (hR : RC w o c S M) (h60 : sN S 39 ≤ 60) (h55 : sN S 55 ≤ 24) (hm : msgC M 454 455 457 m) (ho : okM m) (p3 : pb (gH m) 3 = 1) (hx : x = nI a) (hy : y = nI rs) (ht : jB 160 (sT S)) (hz : jB 160 (sZ S)) (hQ : ∀ o' M', RC w o' c (keep S (a, gT m / 100, val m 3, rs, sT S, sZ S)) M' → hiD M M' → Q none M') : Ct G (MT 7) [.ref 328, .int x, .ref 454, .int y, .ref 451, .ref 493] M Q X := by
  subst hx hy
  obtain ⟨hL, hN, hI, hLl, hF, hS, hA, hC, hP, hRr, hD, hT, hZ⟩ := id hR
  have hn := hN
  unfold cN at hn
  have hty := ho.1
  have v3 := val_lt ho (s := 3) (by omega) p3 rfl
  simp only [szF] at v3
  have i100 : ((100 : Int32) = 0) = False := eq_false (by decide)
  have e100 : nI (gT m) / 100 = nI (gT m / 100) := nI_div (b := 100) (by omega) (by omega) (by omega)
  have e3 := lI_i32 (n := val m 3) (by omega)
  refine Ct.go (L0 := [some (.ref 328), some (.int (nI a)), some (.ref 454), some (.int (nI rs)), some (.ref 451), some (.ref 493), none]) (by decide +kernel) rfl rfl ?_
  refine r_X1_keep (fun n => n == 4 || n == 25 || n == 61 || n == 73) 60 ?_
  simp only [cd_X1_keep, cf_X1_keep, wp, wq, wpI, cdF, w_CI, w_CL, w_CN, w_LI, w_LL, w_LA, w_SI, w_SL, w_SA, w_INC, w_II, w_IId, w_LLb, w_LLd, w_LS, w_I1, w_L1, w_I2L, w_L2I, w_CMP, w_DUP, w_POP, w_DUP2, w_IF, w_IC, w_GO, w_NUL, w_ACN, prs, w_GF, w_PF, w_GS, w_IAL, w_LEN, w_LAL, w_ZAL, w_AAL, w_IAS, w_LAS, w_ZAS, w_AAS, w_RI, w_RL, w_RA, w_NEW, w_NA, w_MNA, w_OI, w_THR, w_CV, w_CS, w_CN9, w_CI9, w_MX, w_cont, lget, sto1, sto2, wideV, vo, vo_rv, isR, isR_rv, rv, fget, fput, cats, Value.category, List.headD_cons, List.getD_cons_zero, List.getD_cons_succ, List.drop_succ_cons, List.drop_zero, List.take_succ_cons, List.take_zero, List.reverse_cons, List.reverse_nil, List.nil_append, List.cons_append, List.length_cons, List.length_nil, cond_true, cond_false, and_true, true_and, Nat.zero_add, Nat.add_zero, Nat.reduceAdd, Nat.reduceLT, Nat.reduceLeDiff, Nat.reduceEqDiff, Nat.reduceBEq, Nat.reduceSub, ↓reduceIte, Int32.reduceOfNat, Int64.reduceOfNat, reduceCtorEq, Nat.le_refl, Nat.zero_le, Bool.false_eq_true, beq_self_eq_true, Fin.isValue, Fin.val_zero, Fin.val_one, Fin.reduceFinMk, Fin.val_two, Nat.reduceMod, Bool.or_false, Bool.or_true, Bool.true_or, Bool.false_or, not_true_eq_false, not_false_eq_true, true_or, or_true, implies_true, false_implies, true_implies, Int32.reduceLT, Int32.reduceLE, ↓w_TAB3, ↓w_TAB4, ↓w_TAB5, ↓w_TAB7, ↓w_TAB10, ↓w_LK2, ↓w_LK6, false_and, and_false, i1z, i2z, iz1, im0, im1, l0z, hasK_uI, hasK_uL, hasK_uR, hasK_uZ, hasK_sRow, mR_uI, mR_uL, mR_uZ, mR_sRow, mI_uL, mI_uR, mI_uZ, mL_uI, mL_uR, mL_uZ, mL_sRow, LF.hk hL, layF, LF.r hL, refF, ne_eq, not_false_eq_true, Option.some.injEq, Sum.inl.injEq, Sum.inr.injEq, Prod.mk.injEq, exists_eq_left, exists_eq_left']
  refine c_takeRow (S := S) (o := o) hL (by simp only [hn]) hRr.1 h55 hRr.2.1 hRr.2.2.1 (fun M1 hM1 g6 g7 => ⟨_, rfl, ?_⟩)
  have hrl : (if sN S 55 < 24 then sN S 55 else o) < 24 := by have := hRr.2.1; split <;> omega
  obtain ⟨r, er⟩ : ∃ r, r = if sN S 55 < 24 then sN S 55 else o := ⟨_, rfl⟩
  rw [← er] at hrl ⊢
  have cr := nI_clamp (n := r) (by omega)
  have hv := vp_in_nI (n := r) (N := 24) hrl (by omega)
  have l1 : LF M1 := by obtain ⟨j, v, rfl⟩ := hM1; exact hL
  have s1 : ∀ b, b ≠ 328 → sA M M1 b := fun b hb => by obtain ⟨j, v, rfl⟩ := hM1; exact sA_uI hb (sA_rfl M b)
  have hm1 : msgC M1 454 455 457 m := by obtain ⟨j, v, rfl⟩ := hM1; exact msgC_uI hm (by omega)
  refine r_X1_keep (fun n => n == 4 || n == 25 || n == 61 || n == 73) 60 ?_
  simp only [cd_X1_keep, cf_X1_keep, wp, wq, wpI, cdF, w_CI, w_CL, w_CN, w_LI, w_LL, w_LA, w_SI, w_SL, w_SA, w_INC, w_II, w_IId, w_LLb, w_LLd, w_LS, w_I1, w_L1, w_I2L, w_L2I, w_CMP, w_DUP, w_POP, w_DUP2, w_IF, w_IC, w_GO, w_NUL, w_ACN, prs, w_GF, w_PF, w_GS, w_IAL, w_LEN, w_LAL, w_ZAL, w_AAL, w_IAS, w_LAS, w_ZAS, w_AAS, w_RI, w_RL, w_RA, w_NEW, w_NA, w_MNA, w_OI, w_THR, w_CV, w_CS, w_CN9, w_CI9, w_MX, w_cont, lget, sto1, sto2, wideV, vo, vo_rv, isR, isR_rv, rv, fget, fput, cats, Value.category, List.headD_cons, List.getD_cons_zero, List.getD_cons_succ, List.drop_succ_cons, List.drop_zero, List.take_succ_cons, List.take_zero, List.reverse_cons, List.reverse_nil, List.nil_append, List.cons_append, List.length_cons, List.length_nil, cond_true, cond_false, and_true, true_and, Nat.zero_add, Nat.add_zero, Nat.reduceAdd, Nat.reduceLT, Nat.reduceLeDiff, Nat.reduceEqDiff, Nat.reduceBEq, Nat.reduceSub, ↓reduceIte, Int32.reduceOfNat, Int64.reduceOfNat, reduceCtorEq, Nat.le_refl, Nat.zero_le, Bool.false_eq_true, beq_self_eq_true, Fin.isValue, Fin.val_zero, Fin.val_one, Fin.reduceFinMk, Fin.val_two, Nat.reduceMod, Bool.or_false, Bool.or_true, Bool.true_or, Bool.false_or, not_true_eq_false, not_false_eq_true, true_or, or_true, implies_true, false_implies, true_implies, Int32.reduceLT, Int32.reduceLE, ↓w_TAB3, ↓w_TAB4, ↓w_TAB5, ↓w_TAB7, ↓w_TAB10, ↓w_LK2, ↓w_LK6, false_and, and_false, i1z, i2z, iz1, im0, im1, l0z, hasK_uI, hasK_uL, hasK_uR, hasK_uZ, hasK_sRow, mR_uI, mR_uL, mR_uZ, mR_sRow, mI_uL, mI_uR, mI_uZ, mL_uI, mL_uR, mL_uZ, mL_sRow, LF.hg l1, layF, LF.r l1, refF, ne_eq, not_false_eq_true, Option.some.injEq, Sum.inl.injEq, Sum.inr.injEq, Prod.mk.injEq, exists_eq_left, exists_eq_left', cr]
  refine ⟨hv, ?_⟩
  refine c_numOf (s := 3) (M := uI M1 329 r (nI a)) (MS_r (show LF (uI M1 329 r (nI a)) from l1)) (msgC_uI hm1 (by omega)) ho (by omega) p3 rfl ⟨_, rfl, ?_⟩
  have t4 : mI (uI (uI M1 329 r (nI a)) 330 r (nI (val m 3))) 454 0 = nI (gT m) := by rw [mI_ne (by omega), mI_ne (by omega)]; exact hm1.1
  have l5 : LF (uI (uI (uI (uI M1 329 r (nI a)) 330 r (nI (val m 3))) 331 r (nI (gT m / 100))) 332 r (nI rs)) := l1
  have r33 : mR M1 333 r = some (335 + 4 * r) := (l1.2.2.2.2.2.2.1 r hrl).1
  have r34 : mR M1 334 r = some (337 + 4 * r) := (l1.2.2.2.2.2.2.1 r hrl).2
  refine r_X1_keep (fun n => n == 4 || n == 25 || n == 61 || n == 73) 60 ?_
  simp only [cd_X1_keep, cf_X1_keep, wp, wq, wpI, cdF, w_CI, w_CL, w_CN, w_LI, w_LL, w_LA, w_SI, w_SL, w_SA, w_INC, w_II, w_IId, w_LLb, w_LLd, w_LS, w_I1, w_L1, w_I2L, w_L2I, w_CMP, w_DUP, w_POP, w_DUP2, w_IF, w_IC, w_GO, w_NUL, w_ACN, prs, w_GF, w_PF, w_GS, w_IAL, w_LEN, w_LAL, w_ZAL, w_AAL, w_IAS, w_LAS, w_ZAS, w_AAS, w_RI, w_RL, w_RA, w_NEW, w_NA, w_MNA, w_OI, w_THR, w_CV, w_CS, w_CN9, w_CI9, w_MX, w_cont, lget, sto1, sto2, wideV, vo, vo_rv, isR, isR_rv, rv, fget, fput, cats, Value.category, List.headD_cons, List.getD_cons_zero, List.getD_cons_succ, List.drop_succ_cons, List.drop_zero, List.take_succ_cons, List.take_zero, List.reverse_cons, List.reverse_nil, List.nil_append, List.cons_append, List.length_cons, List.length_nil, cond_true, cond_false, and_true, true_and, Nat.zero_add, Nat.add_zero, Nat.reduceAdd, Nat.reduceLT, Nat.reduceLeDiff, Nat.reduceEqDiff, Nat.reduceBEq, Nat.reduceSub, ↓reduceIte, Int32.reduceOfNat, Int64.reduceOfNat, reduceCtorEq, Nat.le_refl, Nat.zero_le, Bool.false_eq_true, beq_self_eq_true, Fin.isValue, Fin.val_zero, Fin.val_one, Fin.reduceFinMk, Fin.val_two, Nat.reduceMod, Bool.or_false, Bool.or_true, Bool.true_or, Bool.false_or, not_true_eq_false, not_false_eq_true, true_or, or_true, implies_true, false_implies, true_implies, Int32.reduceLT, Int32.reduceLE, ↓w_TAB3, ↓w_TAB4, ↓w_TAB5, ↓w_TAB7, ↓w_TAB10, ↓w_LK2, ↓w_LK6, false_and, and_false, i1z, i2z, iz1, im0, im1, l0z, hasK_uI, hasK_uL, hasK_uR, hasK_uZ, hasK_sRow, mR_uI, mR_uL, mR_uZ, mR_sRow, mI_uL, mI_uR, mI_uZ, mL_uI, mL_uR, mL_uZ, mL_sRow, LF.hg l1, layF, LF.r l1, refF, ne_eq, not_false_eq_true, Option.some.injEq, Sum.inl.injEq, Sum.inr.injEq, Prod.mk.injEq, exists_eq_left, exists_eq_left', cr, e3, t4, i100, e100, r33, mR_uI, hasK_uI]
  have km := (BY_m l1 hrl).1
  refine ⟨hv, hv, hv, _, _, ⟨⟨rfl, rfl⟩, rfl⟩, hv, km, ?_⟩
  have s5 : ∀ b, b < 328 ∨ 332 < b → sA M (uI (uI (uI (uI M1 329 r (nI a)) 330 r (nI (val m 3))) 331 r (nI (gT m / 100))) 332 r (nI rs)) b := fun b hb => sA_uI (by omega) (sA_uI (by omega) (sA_uI (by omega) (sA_uI (by omega) (s1 b (by omega)))))
  have a1 : mI (uI (uI (uI (uI M1 329 r (nI a)) 330 r (nI (val m 3))) 331 r (nI (gT m / 100))) 332 r (nI rs)) 329 r = nI a := by rw [mI_ne (by omega), mI_ne (by omega), mI_ne (by omega), mI_uI, if_pos ⟨rfl, rfl⟩]
  have a2 : mI (uI (uI (uI (uI M1 329 r (nI a)) 330 r (nI (val m 3))) 331 r (nI (gT m / 100))) 332 r (nI rs)) 330 r = nI (val m 3) := by rw [mI_ne (by omega), mI_ne (by omega), mI_uI, if_pos ⟨rfl, rfl⟩]
  have a3 : mI (uI (uI (uI (uI M1 329 r (nI a)) 330 r (nI (val m 3))) 331 r (nI (gT m / 100))) 332 r (nI rs)) 331 r = nI (gT m / 100) := by rw [mI_ne (by omega), mI_uI, if_pos ⟨rfl, rfl⟩]
  have a4 : mI (uI (uI (uI (uI M1 329 r (nI a)) 330 r (nI (val m 3))) 331 r (nI (gT m / 100))) 332 r (nI rs)) 332 r = nI rs := by rw [mI_uI, if_pos ⟨rfl, rfl⟩]
  have a5 : ∀ i, i ≠ r → ∀ b, 329 ≤ b → b ≤ 332 → mI (uI (uI (uI (uI M1 329 r (nI a)) 330 r (nI (val m 3))) 331 r (nI (gT m / 100))) 332 r (nI rs)) b i = mI M b i := fun i hi b h1 h2 => by
    rw [mI_ne (by omega), mI_ne (by omega), mI_ne (by omega), mI_ne (by omega), (s1 b (by omega)).1]
  have a6 : mI (uI (uI (uI (uI M1 329 r (nI a)) 330 r (nI (val m 3))) 331 r (nI (gT m / 100))) 332 r (nI rs)) 328 6 = nI (if sN S 55 < 24 then sN S 55 + 1 else sN S 55) := by rw [mI_ne (by omega), mI_ne (by omega), mI_ne (by omega), mI_ne (by omega), g6]
  have a7 : mI (uI (uI (uI (uI M1 329 r (nI a)) 330 r (nI (val m 3))) 331 r (nI (gT m / 100))) 332 r (nI rs)) 328 7 = nI (if sN S 55 < 24 then 0 else (o + 1) % 24) := by rw [mI_ne (by omega), mI_ne (by omega), mI_ne (by omega), mI_ne (by omega), g7]
  generalize uI (uI (uI (uI M1 329 r (nI a)) 330 r (nI (val m 3))) 331 r (nI (gT m / 100))) 332 r (nI rs) = M5 at *
  have hT5 : BYL M5 451 452 (sT S) := hT.fr (s5 _ (by omega)) (s5 _ (by omega))
  refine c_copyB (N := 162) (N' := 400) (BY_m l5 hrl) (BY_t l5) (by omega) hT5 (by have := ht.1; omega) ht.2 (by omega) (fun M6 w6 => ⟨rfl, ?_⟩)
  have i6 : ∀ b j, b ≠ 335 + 4 * r → b ≠ 336 + 4 * r → mI M6 b j = mI M5 b j := fun b j h1 h2 => w6.i (by omega)
  have B6 := w6.B
  have l6 : LF M6 := by obtain ⟨g, rfl, -⟩ := w6; exact l5
  have r34' : mR M6 334 r = some (337 + 4 * r) := (l6.2.2.2.2.2.2.1 r hrl).2
  have ko := (BY_o l6 hrl).1
  have s6 : ∀ b, b ≠ 335 + 4 * r → b ≠ 336 + 4 * r → sA M5 M6 b := fun b h1 h2 => by obtain ⟨g, rfl, -⟩ := w6; exact sA_sRow (by omega) (sA_uI h1 (sA_rfl M5 b))
  refine r_X1_keep (fun n => n == 4 || n == 25 || n == 61 || n == 73) 60 ?_
  simp only [cd_X1_keep, cf_X1_keep, wp, wq, wpI, cdF, w_CI, w_CL, w_CN, w_LI, w_LL, w_LA, w_SI, w_SL, w_SA, w_INC, w_II, w_IId, w_LLb, w_LLd, w_LS, w_I1, w_L1, w_I2L, w_L2I, w_CMP, w_DUP, w_POP, w_DUP2, w_IF, w_IC, w_GO, w_NUL, w_ACN, prs, w_GF, w_PF, w_GS, w_IAL, w_LEN, w_LAL, w_ZAL, w_AAL, w_IAS, w_LAS, w_ZAS, w_AAS, w_RI, w_RL, w_RA, w_NEW, w_NA, w_MNA, w_OI, w_THR, w_CV, w_CS, w_CN9, w_CI9, w_MX, w_cont, lget, sto1, sto2, wideV, vo, vo_rv, isR, isR_rv, rv, fget, fput, cats, Value.category, List.headD_cons, List.getD_cons_zero, List.getD_cons_succ, List.drop_succ_cons, List.drop_zero, List.take_succ_cons, List.take_zero, List.reverse_cons, List.reverse_nil, List.nil_append, List.cons_append, List.length_cons, List.length_nil, cond_true, cond_false, and_true, true_and, Nat.zero_add, Nat.add_zero, Nat.reduceAdd, Nat.reduceLT, Nat.reduceLeDiff, Nat.reduceEqDiff, Nat.reduceBEq, Nat.reduceSub, ↓reduceIte, Int32.reduceOfNat, Int64.reduceOfNat, reduceCtorEq, Nat.le_refl, Nat.zero_le, Bool.false_eq_true, beq_self_eq_true, Fin.isValue, Fin.val_zero, Fin.val_one, Fin.reduceFinMk, Fin.val_two, Nat.reduceMod, Bool.or_false, Bool.or_true, Bool.true_or, Bool.false_or, not_true_eq_false, not_false_eq_true, true_or, or_true, implies_true, false_implies, true_implies, Int32.reduceLT, Int32.reduceLE, ↓w_TAB3, ↓w_TAB4, ↓w_TAB5, ↓w_TAB7, ↓w_TAB10, ↓w_LK2, ↓w_LK6, false_and, and_false, i1z, i2z, iz1, im0, im1, l0z, hasK_uI, hasK_uL, hasK_uR, hasK_uZ, hasK_sRow, mR_uI, mR_uL, mR_uZ, mR_sRow, mI_uL, mI_uR, mI_uZ, mL_uI, mL_uR, mL_uZ, mL_sRow, LF.hg l6, layF, LF.r l6, refF, ne_eq, not_false_eq_true, Option.some.injEq, Sum.inl.injEq, Sum.inr.injEq, Prod.mk.injEq, exists_eq_left, exists_eq_left', cr, r34', ko]
  refine ⟨_, _, ⟨⟨rfl, rfl⟩, rfl⟩, hv, ?_⟩
  have hZ6 : BYL M6 493 494 (sZ S) := hZ.fr ((s5 _ (by omega)).trans (s6 _ (by omega) (by omega))) ((s5 _ (by omega)).trans (s6 _ (by omega) (by omega)))
  refine c_copyB (N := 162) (N' := 162) (BY_o l6 hrl) (BY_z l6) (by omega) hZ6 (by have := hz.1; omega) hz.2 (by omega) (fun M7 w7 => ⟨rfl, ?_⟩)
  have B7 := w7.B
  have l7 : LF M7 := by obtain ⟨g, rfl, -⟩ := w7; exact l6
  have s7 : ∀ b, b ≠ 337 + 4 * r → b ≠ 338 + 4 * r → sA M6 M7 b := fun b h1 h2 => by obtain ⟨g, rfl, -⟩ := w7; exact sA_sRow (by omega) (sA_uI h1 (sA_rfl M6 b))
  have s57 : ∀ b, b ≠ 335 + 4 * r → b ≠ 336 + 4 * r → b ≠ 337 + 4 * r → b ≠ 338 + 4 * r → sA M5 M7 b := fun b h1 h2 h3 h4 => (s6 b h1 h2).trans (s7 b h3 h4)
  have sF : ∀ b, b < 328 ∨ 430 < b → sA M M7 b := fun b hb => (s5 b (by omega)).trans (s57 b (by omega) (by omega) (by omega) (by omega))
  refine r_X1_keep (fun n => n == 4 || n == 25 || n == 61 || n == 73) 60 ?_
  simp only [cd_X1_keep, cf_X1_keep, wp, wq, wpI, cdF, w_CI, w_CL, w_CN, w_LI, w_LL, w_LA, w_SI, w_SL, w_SA, w_INC, w_II, w_IId, w_LLb, w_LLd, w_LS, w_I1, w_L1, w_I2L, w_L2I, w_CMP, w_DUP, w_POP, w_DUP2, w_IF, w_IC, w_GO, w_NUL, w_ACN, prs, w_GF, w_PF, w_GS, w_IAL, w_LEN, w_LAL, w_ZAL, w_AAL, w_IAS, w_LAS, w_ZAS, w_AAS, w_RI, w_RL, w_RA, w_NEW, w_NA, w_MNA, w_OI, w_THR, w_CV, w_CS, w_CN9, w_CI9, w_MX, w_cont, lget, sto1, sto2, wideV, vo, vo_rv, isR, isR_rv, rv, fget, fput, cats, Value.category, List.headD_cons, List.getD_cons_zero, List.getD_cons_succ, List.drop_succ_cons, List.drop_zero, List.take_succ_cons, List.take_zero, List.reverse_cons, List.reverse_nil, List.nil_append, List.cons_append, List.length_cons, List.length_nil, cond_true, cond_false, and_true, true_and, Nat.zero_add, Nat.add_zero, Nat.reduceAdd, Nat.reduceLT, Nat.reduceLeDiff, Nat.reduceEqDiff, Nat.reduceBEq, Nat.reduceSub, ↓reduceIte, Int32.reduceOfNat, Int64.reduceOfNat, reduceCtorEq, Nat.le_refl, Nat.zero_le, Bool.false_eq_true, beq_self_eq_true, Fin.isValue, Fin.val_zero, Fin.val_one, Fin.reduceFinMk, Fin.val_two, Nat.reduceMod, Bool.or_false, Bool.or_true, Bool.true_or, Bool.false_or, not_true_eq_false, not_false_eq_true, true_or, or_true, implies_true, false_implies, true_implies, Int32.reduceLT, Int32.reduceLE, ↓w_TAB3, ↓w_TAB4, ↓w_TAB5, ↓w_TAB7, ↓w_TAB10, ↓w_LK2, ↓w_LK6, false_and, and_false, i1z, i2z, iz1, im0, im1, l0z]
  refine hQ (if sN S 55 < 24 then 0 else (o + 1) % 24) M7 ?_ (fun b hb => sF b (by omega))
  rw [keep_eq h55]
  refine RC_arc hR h60 (fun b hb => sF b (by omega)) l7 ?_ ?_
  · rw [(s57 328 (by omega) (by omega) (by omega) (by omega)).1]; exact a6
  · refine cR_keep (r := r) hRr h55 er rfl (by rw [(s57 328 (by omega) (by omega) (by omega) (by omega)).1]; exact a7) ?_ (fun i ar' hi hne h => ?_)
    · refine ⟨by rw [(s57 329 (by omega) (by omega) (by omega) (by omega)).1]; exact a1, by rw [(s57 331 (by omega) (by omega) (by omega) (by omega)).1]; exact a3, by rw [(s57 330 (by omega) (by omega) (by omega) (by omega)).1]; exact a2, by rw [(s57 332 (by omega) (by omega) (by omega) (by omega)).1]; exact a4, ?_, ?_⟩
      · rw [show 336 + 4 * r = 335 + 4 * r + 1 by omega]; exact B6.fr (s7 _ (by omega) (by omega)) (s7 _ (by omega) (by omega))
      · rw [show 338 + 4 * r = 337 + 4 * r + 1 by omega]; exact B7
    · obtain ⟨h1, h2, h3, h4, h5, h6⟩ := h
      have sr : ∀ b, 335 ≤ b → b ≤ 430 → b ≠ 335 + 4 * r → b ≠ 336 + 4 * r → b ≠ 337 + 4 * r → b ≠ 338 + 4 * r → sA M M7 b := fun b g1 g2 g3 g4 g5 g6 => (s5 b (by omega)).trans (s57 b g3 g4 g5 g6)
      refine ⟨by rw [(s57 329 (by omega) (by omega) (by omega) (by omega)).1, a5 i hne _ (by omega) (by omega)]; exact h1, by rw [(s57 331 (by omega) (by omega) (by omega) (by omega)).1, a5 i hne _ (by omega) (by omega)]; exact h2, by rw [(s57 330 (by omega) (by omega) (by omega) (by omega)).1, a5 i hne _ (by omega) (by omega)]; exact h3, by rw [(s57 332 (by omega) (by omega) (by omega) (by omega)).1, a5 i hne _ (by omega) (by omega)]; exact h4, h5.fr (sr _ (by omega) (by omega) (by omega) (by omega) (by omega) (by omega)) (sr _ (by omega) (by omega) (by omega) (by omega) (by omega) (by omega)), h6.fr (sr _ (by omega) (by omega) (by omega) (by omega) (by omega) (by omega)) (sr _ (by omega) (by omega) (by omega) (by omega) (by omega) (by omega))⟩
theorem c_again (h : DK w o c S m mx M0 M) (hj : Jv t S) (hk : k < sN S 55) (hx : x = nI ((o + k) % 24)) (hQ : ∀ M', RC w o c (wZ S (rO (sR S k))) M' → hiS M0 M' → Q (some (.int (nI (rP (sR S k))))) M') : Ct G (MT 41) [.ref 473, .int x] M Q X := by
  subst hx
  obtain ⟨hL, hN, hI, hLl, hF, hS, hA, hC, hP, hRr, hD, hT, hZ⟩ := id h.1
  have hs := hj.1
  unfold jS at hs
  have harc := hRr.2.2.2 k hk
  have hok := hj.2.2.2.2.2.1.1 k hk
  have hrl : (o + k) % 24 < 24 := Nat.mod_lt _ (by omega)
  generalize (o + k) % 24 = r at *
  have cr := nI_clamp (n := r) (by omega)
  have hv := vp_in_nI (n := r) (N := 24) hrl (by omega)
  have r34 : mR M 334 r = some (337 + 4 * r) := (hL.2.2.2.2.2.2.1 r hrl).2
  refine Ct.go (L0 := [some (.ref 473), some (.int (nI r))]) (by decide +kernel) rfl rfl ?_
  refine r_X4_answerAgain (fun n => n == 16) 60 ?_
  simp only [cd_X4_answerAgain, cf_X4_answerAgain, wp, wq, wpI, cdF, w_CI, w_CL, w_CN, w_LI, w_LL, w_LA, w_SI, w_SL, w_SA, w_INC, w_II, w_IId, w_LLb, w_LLd, w_LS, w_I1, w_L1, w_I2L, w_L2I, w_CMP, w_DUP, w_POP, w_DUP2, w_IF, w_IC, w_GO, w_NUL, w_ACN, prs, w_GF, w_PF, w_GS, w_IAL, w_LEN, w_LAL, w_ZAL, w_AAL, w_IAS, w_LAS, w_ZAS, w_AAS, w_RI, w_RL, w_RA, w_NEW, w_NA, w_MNA, w_OI, w_THR, w_CV, w_CS, w_CN9, w_CI9, w_MX, w_cont, lget, sto1, sto2, wideV, vo, vo_rv, isR, isR_rv, rv, fget, fput, cats, Value.category, List.headD_cons, List.getD_cons_zero, List.getD_cons_succ, List.drop_succ_cons, List.drop_zero, List.take_succ_cons, List.take_zero, List.reverse_cons, List.reverse_nil, List.nil_append, List.cons_append, List.length_cons, List.length_nil, cond_true, cond_false, and_true, true_and, Nat.zero_add, Nat.add_zero, Nat.reduceAdd, Nat.reduceLT, Nat.reduceLeDiff, Nat.reduceEqDiff, Nat.reduceBEq, Nat.reduceSub, ↓reduceIte, Int32.reduceOfNat, Int64.reduceOfNat, reduceCtorEq, Nat.le_refl, Nat.zero_le, Bool.false_eq_true, beq_self_eq_true, Fin.isValue, Fin.val_zero, Fin.val_one, Fin.reduceFinMk, Fin.val_two, Nat.reduceMod, Bool.or_false, Bool.or_true, Bool.true_or, Bool.false_or, not_true_eq_false, not_false_eq_true, true_or, or_true, implies_true, false_implies, true_implies, Int32.reduceLT, Int32.reduceLE, ↓w_TAB3, ↓w_TAB4, ↓w_TAB5, ↓w_TAB7, ↓w_TAB10, ↓w_LK2, ↓w_LK6, false_and, and_false, i1z, i2z, iz1, im0, im1, l0z, hasK_uI, hasK_uL, hasK_uR, hasK_uZ, hasK_sRow, mR_uI, mR_uL, mR_uZ, mR_sRow, mI_uL, mI_uR, mI_uZ, mL_uI, mL_uR, mL_uZ, mL_sRow, LF.hg hL, layF, LF.r hL, refF, ne_eq, not_false_eq_true, Option.some.injEq, Sum.inl.injEq, Sum.inr.injEq, Prod.mk.injEq, exists_eq_left, exists_eq_left', cr, r34]
  refine ⟨_, _, ⟨⟨rfl, rfl⟩, rfl⟩, hv, ?_⟩
  have hO : BYL M (337 + 4 * r) (337 + 4 * r + 1) (rO (sR S k)) := by
    have := harc.2.2.2.2.2
    rw [show 338 + 4 * r = 337 + 4 * r + 1 by omega] at this
    exact this
  refine c_copyB (N := 162) (N' := 162) (BY_z hL) (BY_o hL hrl) (by omega) hO (by have := hok.2.2.2.2.2.1; omega) hok.2.2.2.2.2.2 (by omega) (fun M1 w1 => ⟨rfl, ?_⟩)
  have rc1 := RC_Z h.1 (by omega) w1
  have l1 := rc1.1
  have e32 : mI M1 332 r = nI (rP (sR S k)) := by rw [w1.i (by omega)]; exact harc.2.2.2.1
  refine r_X4_answerAgain (fun n => n == 16) 60 ?_
  simp only [cd_X4_answerAgain, cf_X4_answerAgain, wp, wq, wpI, cdF, w_CI, w_CL, w_CN, w_LI, w_LL, w_LA, w_SI, w_SL, w_SA, w_INC, w_II, w_IId, w_LLb, w_LLd, w_LS, w_I1, w_L1, w_I2L, w_L2I, w_CMP, w_DUP, w_POP, w_DUP2, w_IF, w_IC, w_GO, w_NUL, w_ACN, prs, w_GF, w_PF, w_GS, w_IAL, w_LEN, w_LAL, w_ZAL, w_AAL, w_IAS, w_LAS, w_ZAS, w_AAS, w_RI, w_RL, w_RA, w_NEW, w_NA, w_MNA, w_OI, w_THR, w_CV, w_CS, w_CN9, w_CI9, w_MX, w_cont, lget, sto1, sto2, wideV, vo, vo_rv, isR, isR_rv, rv, fget, fput, cats, Value.category, List.headD_cons, List.getD_cons_zero, List.getD_cons_succ, List.drop_succ_cons, List.drop_zero, List.take_succ_cons, List.take_zero, List.reverse_cons, List.reverse_nil, List.nil_append, List.cons_append, List.length_cons, List.length_nil, cond_true, cond_false, and_true, true_and, Nat.zero_add, Nat.add_zero, Nat.reduceAdd, Nat.reduceLT, Nat.reduceLeDiff, Nat.reduceEqDiff, Nat.reduceBEq, Nat.reduceSub, ↓reduceIte, Int32.reduceOfNat, Int64.reduceOfNat, reduceCtorEq, Nat.le_refl, Nat.zero_le, Bool.false_eq_true, beq_self_eq_true, Fin.isValue, Fin.val_zero, Fin.val_one, Fin.reduceFinMk, Fin.val_two, Nat.reduceMod, Bool.or_false, Bool.or_true, Bool.true_or, Bool.false_or, not_true_eq_false, not_false_eq_true, true_or, or_true, implies_true, false_implies, true_implies, Int32.reduceLT, Int32.reduceLE, ↓w_TAB3, ↓w_TAB4, ↓w_TAB5, ↓w_TAB7, ↓w_TAB10, ↓w_LK2, ↓w_LK6, false_and, and_false, i1z, i2z, iz1, im0, im1, l0z, hasK_uI, hasK_uL, hasK_uR, hasK_uZ, hasK_sRow, mR_uI, mR_uL, mR_uZ, mR_sRow, mI_uL, mI_uR, mI_uZ, mL_uI, mL_uR, mL_uZ, mL_sRow, LF.hg l1, layF, LF.r l1, refF, ne_eq, not_false_eq_true, Option.some.injEq, Sum.inl.injEq, Sum.inr.injEq, Prod.mk.injEq, exists_eq_left, exists_eq_left', cr, e32]
  exact ⟨hv, hQ M1 rc1 (hiS_bW h.2.2.2 w1 (by omega))⟩
end KP
