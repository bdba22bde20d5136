/-! RULES OF NEW CELLS, OF STORES OF REFERENCES, OF A THROW -/
def cats : List Value → Nat
  | [] => 0
  | v :: r => v.category + cats r
theorem cats_gv (G : En) : ∀ r : List Value, ((r.map (gv G)).map fun v => v.category).sum = cats r
  | [] => rfl
  | v :: r => by
    show (gv G v).category + ((r.map (gv G)).map fun v => v.category).sum = v.category + cats r
    rw [gv_cat, cats_gv G r]
theorem cE_uN {G : En} {M : Mem} {e e' : Lk} {k : Nat} (h : k < mN M) : cE G (uN M e) k e' = cE G M k e' := by
  have hk : k ≠ M.1.1 := Nat.ne_of_lt h
  have h1 : ∀ i, mI (uN M e) k i = mI M k i := fun i => if_neg hk
  have h2 : ∀ i, mL (uN M e) k i = mL M k i := fun i => if_neg hk
  have h3 : ∀ i, mR (uN M e) k i = mR M k i := fun i => if_neg hk
  have h4 : mI (uN M e) k = mI M k := funext h1
  have h5 : mL (uN M e) k = mL M k := funext h2
  rcases e' with ⟨ty, n⟩ | ci
  · cases ty <;> simp only [cE, h3, h4, h5]
  · simp only [cE]
    congr 2
    apply List.map_congr_left
    intro i _
    cases clTy ci i <;> simp only [fvl, h1, h2, h3]
theorem wl_uN (G : En) (M : Mem) (e : Lk) : wl G (uN M e) = wl G M ++ [(eB G + mN M, cE G (uN M e) (mN M) e)] := by
  apply List.ext_getElem?
  intro k
  have hN : mN (uN M e) = mN M + 1 := rfl
  by_cases hl : k < mN M
  · rw [wl_get (by rw [hN]; omega), List.getElem?_append_left (by rw [wl_len]; exact hl), wl_get hl, cE_uN hl]
    have : mY (uN M e) k = mY M k := if_neg (Nat.ne_of_lt hl)
    rw [this]
  · by_cases he : k = mN M
    · subst he
      rw [wl_get (by rw [hN]; omega), List.getElem?_append_right (by rw [wl_len]; omega), wl_len, Nat.sub_self]
      have : mY (uN M e) (mN M) = some e := if_pos rfl
      rw [this]
      rfl
    · rw [List.getElem?_eq_none (by rw [wl_len, hN]; omega), List.getElem?_eq_none (by rw [List.length_append, wl_len, List.length_singleton]; omega)]
theorem Pw.new {G : En} {M : Mem} {H H1 : Heap} {e : Lk} (hP : Pw G M H) (hz : mZ M = true) (h1 : H1.size = H.size + 1) (hk : ∀ q, q < H.size → H1[q]? = H[q]?) (hn : va_at (eD G) vwCl (eB G + mN M, cE G (uN M e) (mN M) e) H1) : Pw G (uN M e) H1 := by
  have hs := hP.2.1 hz
  refine ⟨?_, fun _ => ?_, by have := hP.2.2; omega⟩
  · rw [wl_uN]
    refine va_P.app (hP.1.kept (fun k q hq => hk _ ((hP.1 k q hq).lt))) (fun k x hx => ?_)
    have hz : k < 1 := (List.getElem?_eq_some_iff.mp hx).1
    rw [show k = 0 by omega] at hx
    cases hx
    exact hn
  · show H1.size = eB G + (mN M + 1)
    omega
theorem va_S.grow {A : Nat → Prop} {H0 H H1 : Heap} {locs : List Loc} (h : va_S A H0 H locs) (h1 : H.size ≤ H1.size) (hk : ∀ q, q < H.size → H1[q]? = H[q]?) : va_S A H0 H1 locs :=
  ⟨Nat.le_trans h.1 h1, fun q a b => (hk q (Nat.lt_of_lt_of_le a h.1)).trans (h.2.1 q a b), h.2.2⟩
section MAKE
variable {G : En} {mi : Mi} {Q : Option Value → Mem → Prop} {X : String → Mem → Prop} {K : Kt} {pc : Nat} {L : List (Option Value)} {st : List Value} {M : Mem} {kc ks : Nat}
/-- a new object of class ci, of N fields; rc, rs: the method's own room -/
def w_NEW (ci N rc rs : Nat) (K : Kt) (pc : Nat) (L : List (Option Value)) (st : List Value) (M : Mem) (kc ks : Nat) : Prop := mZ M = true ∧ kc + 1 ≤ rc ∧ ks + N ≤ rs ∧ K (pc + 3) L (.ref (mN M) :: st) (uN M (.inr ci)) (kc + 1) (ks + N)
theorem fvl_new {G : En} {M : Mem} {e : Lk} {ty : FieldType} {j : Nat} (h : kindOf ty < 9) : fvl G (uN M e) ty (mN M) j = defaultValue ty := by
  have h1 : ∀ i, mI (uN M e) (mN M) i = 0 := fun i => if_pos rfl
  have h2 : ∀ i, mL (uN M e) (mN M) i = 0 := fun i => if_pos rfl
  have h3 : ∀ i, mR (uN M e) (mN M) i = none := fun i => if_pos rfl
  cases ty <;> first | (simp only [fvl, h1]; rfl) | (simp only [fvl, h2]; rfl) | (simp only [fvl, h3]; rfl) | (simp [kindOf] at h)
theorem s_new {n ci N rc rs : Nat} {C : String} {T : u_T} (hK : Kok G mi Q X K) (hd : decode (iC mi) pc = .ok (.new n, 3)) (hc : clOk ci C T N) (hty : ∀ k, k < N → kindOf (clTy ci k) < 9) (hw : Cond.classLink (iY mi).cls n C ∈ lw_tbl ∧ stw (Cond.classLink (iY mi).cls n C) = true) (hi : Cond.instantiable C N ∈ lw_tbl ∧ stw (Cond.instantiable C N) = true) (hn : Cond.initialized C ∈ lw_tbl ∧ stw (Cond.initialized C) = true) (hr : rc = (iR mi).cells ∧ rs = (iR mi).slots) (h : w_NEW ci N rc rs K pc L st M kc ks) : Go G mi Q X pc L st M kc ks := by
  obtain ⟨rfl, rfl⟩ := hr
  obtain ⟨h1, h2, h3, h4⟩ := h
  intro p e s m args below meth c H locs ls a1 a2 a3 a4 a5 a6 a7 a8 a9 a10
  have hs := a6.2.1 h1
  have hKn := a3.1 ci _ hc.1
  refine W.newcK a1.1 a1.2.1 a1.2.2.2.2.1 (a2 _ hw.1 hw.2 _) (a2 _ hi.1 hi.2 _) (a2 _ hn.1 hn.2 _) rfl hd h2 h3 hKn.2.1 hs (fun H' kC k1 k2 k3 k4 => ?_)
  have hb := u_born (clTy ci) (tbs_at a2 args) hc.ws hKn k1 k2 hc.2.2.1
  refine hK _ _ _ _ _ _ h4 p e s m args below meth c H' locs ls a1 a2 a3 a4 a5 (a6.new h1 (by omega) (fun q hq => k4 q (by omega)) ⟨_, hc.1, hb.to (fun j hj => ?_)⟩) (a7.grow (by omega) (fun q hq => k4 q (by omega))) h2 h3 a10
  show defaultValue (clTy ci j) = vp_V ((List.range (clN ci)).map (fun i => fvl G (uN M (.inr ci)) (clTy ci i) (mN M) i)) j
  unfold vp_V
  rw [List.getD_eq_getElem?_getD, List.getElem?_map, List.getElem?_range (by rw [hc.n]; exact hj), Option.map_some, Option.getD_some, fvl_new (hty j hj)]
end MAKE
