/-! THE LAW, CASE BY CASE -/
section LCA
variable {G : En} {M M0 : Mem} {Q : Option Value → Mem → Prop} {X : String → Mem → Prop} {S : Sw} {t i kc ks : Nat}
theorem law_r : (iR (MT 327)).cells = 600128 ∧ (iR (MT 327)).slots = 7301064 := ⟨by decide +kernel, by decide +kernel⟩
theorem m_thrown {c : Int32} (hL : LF M) (h : mI M 495 3 = c) (hQ : Q (some (.int c)) M) : Ct G (MT 179) [.ref 495] M Q X := by
  subst h
  refine Ct.go (L0 := [some (.ref 495)]) (by decide +kernel) rfl rfl ?_
  refine r_X12_thrown (fun _ => false) 20 ?_
  simp only [cd_X12_thrown, cf_X12_thrown, wp, wq, wpI, cdF, w_CI, w_CL, w_CN, w_LI, w_LL, w_LA, w_SI, w_SL, w_SA, w_INC, w_II, w_IId, w_LLb, w_LLd, w_LS, w_I1, w_L1, w_I2L, w_L2I, w_CMP, w_DUP, w_POP, w_DUP2, w_IF, w_IC, w_GO, w_NUL, w_ACN, prs, w_GF, w_PF, w_GS, w_IAL, w_LEN, w_LAL, w_ZAL, w_AAL, w_IAS, w_LAS, w_ZAS, w_AAS, w_RI, w_RL, w_RA, w_NEW, w_NA, w_MNA, w_OI, w_THR, w_CV, w_CS, w_CN9, w_CI9, w_MX, w_cont, lget, sto1, sto2, wideV, vo, vo_rv, isR, isR_rv, rv, fget, fput, cats, Value.category, List.headD_cons, List.getD_cons_zero, List.getD_cons_succ, List.drop_succ_cons, List.drop_zero, List.take_succ_cons, List.take_zero, List.reverse_cons, List.reverse_nil, List.nil_append, List.cons_append, List.length_cons, List.length_nil, cond_true, cond_false, and_true, true_and, Nat.zero_add, Nat.add_zero, Nat.reduceAdd, Nat.reduceLT, Nat.reduceLeDiff, Nat.reduceEqDiff, Nat.reduceBEq, Nat.reduceSub, ↓reduceIte, Int32.reduceOfNat, Int64.reduceOfNat, reduceCtorEq, Nat.le_refl, Nat.zero_le, Bool.false_eq_true, beq_self_eq_true, Fin.isValue, Fin.val_zero, Fin.val_one, Fin.reduceFinMk, Fin.val_two, Nat.reduceMod, Bool.or_false, Bool.or_true, Bool.true_or, Bool.false_or, not_true_eq_false, not_false_eq_true, true_or, or_true, implies_true, false_implies, true_implies, Int32.reduceLT, Int32.reduceLE, ↓w_TAB3, ↓w_TAB4, ↓w_TAB5, ↓w_TAB7, ↓w_TAB10, ↓w_LK2, ↓w_LK6, false_and, and_false, i1z, i2z, iz1, im0, im1, l0z, hasK_uI, hasK_uL, hasK_uR, hasK_uZ, hasK_sRow, mR_uI, mR_uL, mR_uZ, mR_sRow, mI_uL, mI_uR, mI_uZ, mL_uI, mL_uR, mL_uZ, mL_sRow, LF.hk hL, layF, LF.r hL, refF, ne_eq, not_false_eq_true, Option.some.injEq, Sum.inl.injEq, Sum.inr.injEq, Prod.mk.injEq, exists_eq_left, exists_eq_left']
  exact hQ
theorem i32_lt (x : Int32) : x.toInt < 2147483648 := by have := x.toInt_lt; omega
theorem nI_02 {n : Nat} (h : n ≤ 2) (e : nI n = 0) : n = 0 := by
  rcases n with _ | _ | _ | n
  · rfl
  · exact absurd e (by decide)
  · exact absurd e (by decide)
  · omega
theorem x2_message {p0 : Int32} : (o_message S p0.toInt).1.1 ≠ 2 := gat_n2 rfl
theorem x2_approval {p0 : Int32} : (o_approval S p0.toInt).1.1 ≠ 2 := gat_n2 rfl
theorem x2_original {p0 : Int32} {p1 : Int32} {p2 : Int32} : (o_original S p0.toInt p1.toInt p2.toInt).1.1 ≠ 2 := gat_n2 rfl
theorem x2_ask {p0 : Int32} {p1 : Int32} {p2 : Int32} {p3 : Int32} {p4 : Int64} {p5 : Int32} {p6 : Int32} : (o_ask S p0.toInt p1.toInt p2.toInt p3.toInt p4.toInt p5.toInt p6.toInt).1.1 ≠ 2 := gat_n2 rfl
theorem x2_trim {p0 : Int32} : (o_trim S p0.toInt).1.1 ≠ 2 := gat_n2 rfl
theorem x2_spoil {p0 : Int32} {p1 : Int32} : (o_spoil S p0.toInt p1.toInt).1.1 ≠ 2 := gat_n2 rfl
theorem x2_fault {p0 : Int32} : (o_fault S p0.toInt).1.1 ≠ 2 := gat_n2 rfl
theorem x2_byteAt {p0 : Int32} : (o_byteAt S p0.toInt).1.1 ≠ 2 := gat_n2 rfl
theorem x2_omit {p0 : Int32} : (o_omit S p0.toInt).1.1 ≠ 2 := by
  unfold o_omit
  split
  · show (1 : Nat) ≠ 2; omega
  · show (0 : Nat) ≠ 2; omega
theorem x2_digits {p0 : Int32} {p1 : Int64} : (o_digits S p0.toInt p1.toInt).1.1 ≠ 2 := by
  unfold o_digits
  (repeat' split) <;> first | (show (1 : Nat) ≠ 2; omega) | (show (0 : Nat) ≠ 2; omega)
theorem x2_letters {p0 : Int32} {p1 : Int64} {p2 : Int32} : (o_letters S p0.toInt p1 p2.toInt).1.1 ≠ 2 := by
  unfold o_letters
  (repeat' split) <;> first | (show (1 : Nat) ≠ 2; omega) | (show (0 : Nat) ≠ 2; omega)
theorem x1_open : (o_open S).1.1 ≠ 1 := gat_n1 rfl
theorem x1_recover : (o_recover S).1.1 ≠ 1 := gat_n1 rfl
theorem x1_audit : (o_audit S).1.1 ≠ 1 := gat_n1 rfl
theorem x1_checkpoint : (o_checkpoint S).1.1 ≠ 1 := gat_n1 (by split <;> rfl)
theorem x1_cutoff : (o_cutoff S).1.1 ≠ 1 := gat_n1 (by split <;> rfl)
theorem x1_send : (o_send S).1.1 ≠ 1 := gat_n1 (by
  split
  · rfl
  · dsimp only
    repeat' split
    all_goals rfl)
end LCA
