/-! HOW CLASS AND REFERENCE ANSWER -/
/-- what the counters keep to, behind t calls -/
def jS (t : Nat) (n : Nat → Nat) : Prop := (n 4 ≤ 1 ∧ n 6 ≤ 1 ∧ (n 6 = 1 → n 4 = 1) ∧ (n 6 = 1 ↔ n 7 = 1) ∧ n 7 ≤ 1001) ∧ (n 17 ≤ 6 ∧ n 18 ≤ 6 ∧ n 24 ≤ 40 ∧ n 28 ≤ 64 ∧ n 34 ≤ 100 ∧ n 39 ≤ 60 ∧ n 55 ≤ 24) ∧ (4 ≤ n 8 ∧ n 8 ≤ 30 ∧ n 9 ≤ n 8 ∧ n 10 ≤ 100 * t ∧ n 11 ≤ 1000000 ∧ 1 ≤ n 12 ∧ n 12 ≤ t + 1 ∧ n 5 ≤ 30) ∧ (1 ≤ n 13 ∧ n 13 ≤ 5000 ∧ 1 ≤ n 14 ∧ n 14 ≤ 5000 ∧ 1 ≤ n 15 ∧ n 15 ≤ 5000 ∧ 1 ≤ n 16 ∧ n 16 ≤ 8) ∧ (n 4 = 0 → n 39 = 0) ∧ t ≤ 64
/-- the tables -/
def jI (t : Nat) (n : Nat → Nat) (f : Nat → Nat → Nat) : Prop := (∀ i, i < 12 → f 499 i ≤ 1000) ∧ (∀ i, i < 6 → f 502 i ≤ t) ∧ (∀ i, i < n 24 → 1 ≤ f 505 i ∧ f 505 i ≤ 8 ∧ f 504 i < 10 ^ f 505 i ∧ f 506 i < n 18) ∧ (∀ i, i < n 28 → f 507 i < n 18) ∧ (∀ i, i < n 34 → f 514 i < n 28) ∧ (∀ i, i < 100 → f 515 i ≤ 1)
def jB (k : Nat) (xs : List Nat) : Prop := xs.length ≤ k ∧ ∀ i, i < xs.length → xs.getD i 0 < 256
def RCx (S : Sw) (M : Mem) : Prop := ∃ w o c, RC w o c S M
def hiS (M M' : Mem) : Prop := ∀ b, 495 ≤ b → sA M M' b
def loS (M M' : Mem) : Prop := (∀ b, b < 495 → sA M M' b) ∧ sA M M' 551
def wdI (x : Int) : Int32 := Int32.ofInt x
def QcI (M : Mem) (r : Re) (v : Option Value) (M' : Mem) : Prop := r.1.1 = 0 ∧ v = some (.int (wdI r.1.2)) ∧ RCx r.2 M' ∧ hiS M M'
def QcL (M : Mem) (r : Re) (v : Option Value) (M' : Mem) : Prop := r.1.1 = 0 ∧ v = some (.long (lI r.1.2)) ∧ RCx r.2 M' ∧ hiS M M'
def QcV (M : Mem) (r : Re) (v : Option Value) (M' : Mem) : Prop := r.1.1 = 0 ∧ v = none ∧ RCx r.2 M' ∧ hiS M M'
def QcX (M : Mem) (r : Re) (E : String) (M' : Mem) : Prop := (r.1.1 = 1 ∧ E = xIA ∨ r.1.1 = 2 ∧ E = xIS) ∧ RCx r.2 M' ∧ hiS M M'
def QmI (M : Mem) (r : Re) (v : Option Value) (M' : Mem) : Prop := v = some (.int (wdI r.1.2)) ∧ mI M' 495 3 = nI r.1.1 ∧ RM r.2 M' ∧ loS M M'
def QmL (M : Mem) (r : Re) (v : Option Value) (M' : Mem) : Prop := v = some (.long (lI r.1.2)) ∧ mI M' 495 3 = nI r.1.1 ∧ RM r.2 M' ∧ loS M M'
def QmV (M : Mem) (r : Re) (v : Option Value) (M' : Mem) : Prop := v = none ∧ mI M' 495 3 = nI r.1.1 ∧ RM r.2 M' ∧ loS M M'
theorem i1z : ((1 : Int32) = 0) = False := eq_false (by decide)
theorem i2z : ((2 : Int32) = 0) = False := eq_false (by decide)
theorem iz1 : ((0 : Int32) = 1) = False := eq_false (by decide)
theorem im0 : ((-1 : Int32) = 0) = False := eq_false (by decide)
theorem im1 : ((0 : Int32) = -1) = False := eq_false (by decide)
theorem l0z : ((10 : Int64) = 0) = False := eq_false (by decide)
theorem and_ii {a b c d : Prop} (h1 : a → b) (h2 : c → d) : (a → b) ∧ (c → d) := ⟨h1, h2⟩
theorem imp_i {a b : Prop} (h : a → b) : a → b := h
theorem w_TAB3 {d lo t0 t1 t2 : Nat} {K : Kt} {pc : Nat} {L : List (Option Value)} {x : Int32} {r : List Value} {M : Mem} {kc ks : Nat} : w_TAB (List.getD [d, lo, t0, t1, t2] 0 0) (List.getD [d, lo, t0, t1, t2] 1 0) (List.drop 2 [d, lo, t0, t1, t2]) K pc L (.int x :: r) M kc ks = (((x.toInt < (lo : Int) ∨ (lo : Int) + ((3 : Nat) : Int) ≤ x.toInt) → K d L r M kc ks) ∧ (x = Int32.ofNat (lo) → K t0 L r M kc ks) ∧ (x = Int32.ofNat (lo + 1) → K t1 L r M kc ks) ∧ (x = Int32.ofNat (lo + 1 + 1) → K t2 L r M kc ks) ∧ True) := rfl
theorem w_TAB4 {d lo t0 t1 t2 t3 : Nat} {K : Kt} {pc : Nat} {L : List (Option Value)} {x : Int32} {r : List Value} {M : Mem} {kc ks : Nat} : w_TAB (List.getD [d, lo, t0, t1, t2, t3] 0 0) (List.getD [d, lo, t0, t1, t2, t3] 1 0) (List.drop 2 [d, lo, t0, t1, t2, t3]) K pc L (.int x :: r) M kc ks = (((x.toInt < (lo : Int) ∨ (lo : Int) + ((4 : Nat) : Int) ≤ x.toInt) → K d L r M kc ks) ∧ (x = Int32.ofNat (lo) → K t0 L r M kc ks) ∧ (x = Int32.ofNat (lo + 1) → K t1 L r M kc ks) ∧ (x = Int32.ofNat (lo + 1 + 1) → K t2 L r M kc ks) ∧ (x = Int32.ofNat (lo + 1 + 1 + 1) → K t3 L r M kc ks) ∧ True) := rfl
theorem w_TAB5 {d lo t0 t1 t2 t3 t4 : Nat} {K : Kt} {pc : Nat} {L : List (Option Value)} {x : Int32} {r : List Value} {M : Mem} {kc ks : Nat} : w_TAB (List.getD [d, lo, t0, t1, t2, t3, t4] 0 0) (List.getD [d, lo, t0, t1, t2, t3, t4] 1 0) (List.drop 2 [d, lo, t0, t1, t2, t3, t4]) K pc L (.int x :: r) M kc ks = (((x.toInt < (lo : Int) ∨ (lo : Int) + ((5 : Nat) : Int) ≤ x.toInt) → K d L r M kc ks) ∧ (x = Int32.ofNat (lo) → K t0 L r M kc ks) ∧ (x = Int32.ofNat (lo + 1) → K t1 L r M kc ks) ∧ (x = Int32.ofNat (lo + 1 + 1) → K t2 L r M kc ks) ∧ (x = Int32.ofNat (lo + 1 + 1 + 1) → K t3 L r M kc ks) ∧ (x = Int32.ofNat (lo + 1 + 1 + 1 + 1) → K t4 L r M kc ks) ∧ True) := rfl
theorem w_TAB7 {d lo t0 t1 t2 t3 t4 t5 t6 : Nat} {K : Kt} {pc : Nat} {L : List (Option Value)} {x : Int32} {r : List Value} {M : Mem} {kc ks : Nat} : w_TAB (List.getD [d, lo, t0, t1, t2, t3, t4, t5, t6] 0 0) (List.getD [d, lo, t0, t1, t2, t3, t4, t5, t6] 1 0) (List.drop 2 [d, lo, t0, t1, t2, t3, t4, t5, t6]) K pc L (.int x :: r) M kc ks = (((x.toInt < (lo : Int) ∨ (lo : Int) + ((7 : Nat) : Int) ≤ x.toInt) → K d L r M kc ks) ∧ (x = Int32.ofNat (lo) → K t0 L r M kc ks) ∧ (x = Int32.ofNat (lo + 1) → K t1 L r M kc ks) ∧ (x = Int32.ofNat (lo + 1 + 1) → K t2 L r M kc ks) ∧ (x = Int32.ofNat (lo + 1 + 1 + 1) → K t3 L r M kc ks) ∧ (x = Int32.ofNat (lo + 1 + 1 + 1 + 1) → K t4 L r M kc ks) ∧ (x = Int32.ofNat (lo + 1 + 1 + 1 + 1 + 1) → K t5 L r M kc ks) ∧ (x = Int32.ofNat (lo + 1 + 1 + 1 + 1 + 1 + 1) → K t6 L r M kc ks) ∧ True) := rfl
theorem w_TAB10 {d lo t0 t1 t2 t3 t4 t5 t6 t7 t8 t9 : Nat} {K : Kt} {pc : Nat} {L : List (Option Value)} {x : Int32} {r : List Value} {M : Mem} {kc ks : Nat} : w_TAB (List.getD [d, lo, t0, t1, t2, t3, t4, t5, t6, t7, t8, t9] 0 0) (List.getD [d, lo, t0, t1, t2, t3, t4, t5, t6, t7, t8, t9] 1 0) (List.drop 2 [d, lo, t0, t1, t2, t3, t4, t5, t6, t7, t8, t9]) K pc L (.int x :: r) M kc ks = (((x.toInt < (lo : Int) ∨ (lo : Int) + ((10 : Nat) : Int) ≤ x.toInt) → K d L r M kc ks) ∧ (x = Int32.ofNat (lo) → K t0 L r M kc ks) ∧ (x = Int32.ofNat (lo + 1) → K t1 L r M kc ks) ∧ (x = Int32.ofNat (lo + 1 + 1) → K t2 L r M kc ks) ∧ (x = Int32.ofNat (lo + 1 + 1 + 1) → K t3 L r M kc ks) ∧ (x = Int32.ofNat (lo + 1 + 1 + 1 + 1) → K t4 L r M kc ks) ∧ (x = Int32.ofNat (lo + 1 + 1 + 1 + 1 + 1) → K t5 L r M kc ks) ∧ (x = Int32.ofNat (lo + 1 + 1 + 1 + 1 + 1 + 1) → K t6 L r M kc ks) ∧ (x = Int32.ofNat (lo + 1 + 1 + 1 + 1 + 1 + 1 + 1) → K t7 L r M kc ks) ∧ (x = Int32.ofNat (lo + 1 + 1 + 1 + 1 + 1 + 1 + 1 + 1) → K t8 L r M kc ks) ∧ (x = Int32.ofNat (lo + 1 + 1 + 1 + 1 + 1 + 1 + 1 + 1 + 1) → K t9 L r M kc ks) ∧ True) := rfl
theorem w_LK2 {d a0 b0 a1 b1 : Nat} {K : Kt} {pc : Nat} {L : List (Option Value)} {x : Int32} {r : List Value} {M : Mem} {kc ks : Nat} : w_LOOK (List.headD [d, a0, b0, a1, b1] 0) (prs (List.drop 1 [d, a0, b0, a1, b1])) K pc L (.int x :: r) M kc ks = ((x = Int32.ofNat a0 → K b0 L r M kc ks) ∧ (¬ x = Int32.ofNat a0 → ((x = Int32.ofNat a1 → K b1 L r M kc ks) ∧ (¬ x = Int32.ofNat a1 → K d L r M kc ks)))) := rfl
theorem w_LK6 {d a0 b0 a1 b1 a2 b2 a3 b3 a4 b4 a5 b5 : Nat} {K : Kt} {pc : Nat} {L : List (Option Value)} {x : Int32} {r : List Value} {M : Mem} {kc ks : Nat} : w_LOOK (List.headD [d, a0, b0, a1, b1, a2, b2, a3, b3, a4, b4, a5, b5] 0) (prs (List.drop 1 [d, a0, b0, a1, b1, a2, b2, a3, b3, a4, b4, a5, b5])) K pc L (.int x :: r) M kc ks = ((x = Int32.ofNat a0 → K b0 L r M kc ks) ∧ (¬ x = Int32.ofNat a0 → ((x = Int32.ofNat a1 → K b1 L r M kc ks) ∧ (¬ x = Int32.ofNat a1 → ((x = Int32.ofNat a2 → K b2 L r M kc ks) ∧ (¬ x = Int32.ofNat a2 → ((x = Int32.ofNat a3 → K b3 L r M kc ks) ∧ (¬ x = Int32.ofNat a3 → ((x = Int32.ofNat a4 → K b4 L r M kc ks) ∧ (¬ x = Int32.ofNat a4 → ((x = Int32.ofNat a5 → K b5 L r M kc ks) ∧ (¬ x = Int32.ofNat a5 → K d L r M kc ks)))))))))))) := rfl
section FRA
variable {M M' : Mem} {a j : Nat} {v : Int32} {u : Int64} {S : Sw}
theorem hiS_rfl (M : Mem) : hiS M M := fun b _ => sA_rfl M b
theorem hiS_uI (h : hiS M M') (ha : a < 495) : hiS M (uI M' a j v) := fun b hb => sA_uI (by omega) (h b hb)
theorem hiS_uL (h : hiS M M') (ha : a < 495) : hiS M (uL M' a j u) := fun b hb => sA_uL (by omega) (h b hb)
theorem hiS_uR {r : Option Nat} (h : hiS M M') (ha : a < 495) : hiS M (uR M' a j r) := fun b hb => sA_uR (by omega) (h b hb)
theorem hiS_sRow {f : Nat → Int32} (h : hiS M M') (ha : a < 495) : hiS M (sRow M' a f) := fun b hb => sA_sRow (by omega) (h b hb)
theorem loS_rfl (M : Mem) : loS M M := ⟨fun b _ => sA_rfl M b, sA_rfl M 551⟩
theorem loS_uI (h : loS M M') (ha : 495 ≤ a ∧ a ≠ 551) : loS M (uI M' a j v) := ⟨fun b hb => sA_uI (by omega) (h.1 b hb), sA_uI (by omega) h.2⟩
theorem loS_uL (h : loS M M') (ha : 495 ≤ a ∧ a ≠ 551) : loS M (uL M' a j u) := ⟨fun b hb => sA_uL (by omega) (h.1 b hb), sA_uL (by omega) h.2⟩
theorem loS_sRow {f : Nat → Int32} (h : loS M M') (ha : 495 ≤ a ∧ a ≠ 551) : loS M (sRow M' a f) := ⟨fun b hb => sA_sRow (by omega) (h.1 b hb), sA_sRow (by omega) h.2⟩
theorem RCx_uZ (h : RCx S M) : RCx S (uZ M) := h
theorem QcX_1 (h : RCx S M) : QcX M (iaR S) xIA (uZ M) := ⟨Or.inl ⟨rfl, rfl⟩, h, hiS_rfl M⟩
theorem QcX_2 (h : RCx S M) : QcX M (izR S) xIS (uZ M) := ⟨Or.inr ⟨rfl, rfl⟩, h, hiS_rfl M⟩
/-- the reference's code alone is written -/
theorem RM_code (h : RM S M) : RM S (uI M 495 3 v) := by
  obtain ⟨h1, h2, h3, h4, h5, h6, h7, h8, h9, h10, h11, h12⟩ := h
  exact ⟨h1.uI, mNn_uI h2 (by omega), mIi_uI h3 (by omega), h4, mA_uI h5 (by omega), mC_uI h6 (by omega), mP_uI h7 (by omega), mRr_uI h8 (by omega), msgM_uI h9 (by omega), BYM_uI h10 (by omega), BYM_uI h11 (by omega), mK_uI h12 (by omega)⟩
theorem wdI_nat {n : Nat} : wdI (n : Int) = nI n := rfl
theorem w2i {x : Int32} (h : 0 ≤ x.toInt) : x = nI x.toInt.toNat := by
  rw [i_eq, nI_toInt (by have := (i_bnd x).2; omega)]; omega
end FRA
