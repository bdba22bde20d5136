/-! NEW ARRAYS, STORES OF REFERENCES, Object.<init>, A THROW -/
section MAKE2
variable {G : En} {mi : Mi} {Q : Option Value → Mem → Prop} {X : String → Mem → Prop} {K : Kt} {pc : Nat} {L : List (Option Value)} {st : List Value} {M : Mem} {kc ks : Nat}
def w_NA (ty : FieldType) (rc rs : Nat) (K : Kt) (len : Nat) (pc : Nat) (L : List (Option Value)) (st : List Value) (M : Mem) (kc ks : Nat) : Prop := match st with
  | .int n :: r => (mZ M = true ∧ 0 ≤ n ∧ n.toNatClampNeg ≤ 10000 ∧ kc + 1 ≤ rc ∧ ks + n.toNatClampNeg ≤ rs ∧ K (pc + len) L (.ref (mN M) :: r) (uN M (.inl (ty, n.toNatClampNeg))) (kc + 1) (ks + n.toNatClampNeg))
  | _ => False
theorem s_newarray {at9 : ArrayType} {ty : FieldType} {rc rs : Nat} (hK : Kok G mi Q X K) (hd : decode (iC mi) pc = .ok (.newarray at9, 2)) (hty : (at9 = .int ∧ ty = .int) ∨ (at9 = .long ∧ ty = .long) ∨ (at9 = .boolean ∧ ty = .boolean)) (hw : Cond.arrayClass ty ∈ lw_tbl ∧ stw (Cond.arrayClass ty) = true) (hr : rc = (iR mi).cells ∧ rs = (iR mi).slots) (h : w_NA ty rc rs K 2 pc L st M kc ks) : Go G mi Q X pc L st M kc ks := by
  obtain ⟨rfl, rfl⟩ := hr
  unfold w_NA at h
  split at h
  · rename_i n r
    obtain ⟨h1, h2, h0, h3, h4, h5⟩ := h
    intro p e s m args below meth c H locs ls a1 a2 a3 a4 a5 a6 a7 a8 a9 a10
    have hs := a6.2.1 h1
    have hn : ¬ n < 0 := fun q => by
      have q1 := Int32.lt_iff_toInt_lt.mp q
      have q2 := Int32.le_iff_toInt_le.mp h2
      simp at q1 q2
      omega
    have e1 : newarray.typeOf at9 = ty := by rcases hty with ⟨rfl, rfl⟩ | ⟨rfl, rfl⟩ | ⟨rfl, rfl⟩ <;> rfl
    refine va_newaK a1.1 a1.2.1 (by rw [e1]; exact a2 _ hw.1 hw.2 _) rfl hd (n := n) (rest := r.map (gv G)) rfl hn rfl ?_ h3 h4 hs (fun H' cA k1 k2 k3 _ k5 => ?_)
    · rcases hty with ⟨rfl, rfl⟩ | ⟨rfl, rfl⟩ | ⟨rfl, rfl⟩ <;> simp only [newarray.typeOf, componentBytes] <;> omega
    · rw [e1] at k1 k5
      refine hK _ _ _ _ _ _ h5 p e s m args below meth c H' locs ls a1 a2 a3 a4 a5 (a6.new h1 (by omega) (fun q hq => k3 q (by omega)) ?_) (a7.grow (by omega) (fun q hq => k3 q (by omega))) h3 h4 a10
      have i1 : mI (uN M (.inl (ty, n.toNatClampNeg))) (mN M) = fun _ => 0 := funext fun i => if_pos rfl
      have i2 : mL (uN M (.inl (ty, n.toNatClampNeg))) (mN M) = fun _ => 0 := funext fun i => if_pos rfl
      rcases hty with ⟨rfl, rfl⟩ | ⟨rfl, rfl⟩ | ⟨rfl, rfl⟩
      · have hc : eC G .int = cA := Option.some.inj ((a3.2 0 _ rfl).2.symm.trans k5)
        show H'[eB G + mN M]? = some (vp_cell (eC G .int) (n.toNatClampNeg, .inl (mI (uN M _) (mN M))))
        rw [i1, hc]; exact k1
      · have hc : eC G .long = cA := Option.some.inj ((a3.2 1 _ rfl).2.symm.trans k5)
        show H'[eB G + mN M]? = some (vp_cell (eC G .long) (n.toNatClampNeg, .inr (.inl (mL (uN M _) (mN M)))))
        rw [i2, hc]; exact k1
      · have hc : eC G .boolean = cA := Option.some.inj ((a3.2 2 _ rfl).2.symm.trans k5)
        show H'[eB G + mN M]? = some (vp_cell (eC G .boolean) (n.toNatClampNeg, .inl (mI (uN M _) (mN M))))
        rw [i1, hc]; exact k1
  · exact h.elim
theorem s_anewarray {i : Nat} {C : String} {t rc rs : Nat} (hK : Kok G mi Q X K) (hd : decode (iC mi) pc = .ok (.anewarray i, 3)) (hty : rTy (.object C) = some t) (hw : Cond.classLink (iY mi).cls i C ∈ lw_tbl ∧ stw (Cond.classLink (iY mi).cls i C) = true) (hw2 : Cond.arrayOver (.object C) ∈ lw_tbl) (hr : rc = (iR mi).cells ∧ rs = (iR mi).slots) (h : w_NA (.object C) rc rs K 3 pc L st M kc ks) : Go G mi Q X pc L st M kc ks := by
  obtain ⟨rfl, rfl⟩ := hr
  unfold w_NA at h
  split at h
  · rename_i n r
    obtain ⟨h1, h2, h0, h3, h4, h5⟩ := h
    intro p e s m args below meth c H locs ls a1 a2 a3 a4 a5 a6 a7 a8 a9 a10
    have hs := a6.2.1 h1
    have hn : ¬ n < 0 := fun q => by
      have q1 := Int32.lt_iff_toInt_lt.mp q
      have q2 := Int32.le_iff_toInt_le.mp h2
      simp at q1 q2
      omega
    obtain ⟨r1, r2, r3⟩ := rTy_at (G := G) hty
    refine W.anew a1.1 a1.2.1 a1.2.2.2.2.1 (a2 _ hw.1 hw.2 _) (a2 _ hw2 rfl _) rfl hd (n := n) (rest := r.map (gv G)) rfl hn (by omega) h3 h4 (fun cA kA comp k1 k2 k3 k4 => ?_)
    have hc : eC G (.object C) = cA := by
      obtain ⟨_, _, _, _, _, q4⟩ := (a3.2 t _ r1).2
      exact Option.some.inj (q4.symm.trans k1)
    have hsz : ∀ x : Cell, (H.push x).size = H.size + 1 := fun x => Array.size_push ..
    have hold : ∀ (x : Cell) q, q < H.size → (H.push x)[q]? = H[q]? := fun x q hq => by rw [Array.getElem?_push_lt hq]; exact (Array.getElem?_eq_getElem hq).symm
    have hfin := fun (x : Cell) hx => hK _ _ _ _ _ _ h5 p e s m args below meth c (H.push x) locs ls a1 a2 a3 a4 a5 (a6.new h1 (hsz x) (hold x) hx) (a7.grow (by rw [hsz]; omega) (hold x)) h3 h4 a10
    have e2 : W p (eL G) e (iR mi) s m args below meth c (H.push { cls := cA, slots := Array.replicate n.toNatClampNeg .null, vm := .none }) locs (kc + 1) (ks + n.toNatClampNeg) (vx_MQ below (Qr G Q) (Xr G X) args s (iR mi).cells (iR mi).slots (aFr G)) (F0 m (pc + 3) ls (.ref (eB G + mN M) :: r.map (gv G))) := by
      refine hfin _ ?_
      have i3 : (fun j => (mR (uN M (.inl (FieldType.object C, n.toNatClampNeg))) (mN M) j).map (adr G)) = fun _ => none := funext fun i => by
        have : mR (uN M (.inl (FieldType.object C, n.toNatClampNeg))) (mN M) i = none := if_pos rfl
        rw [this]; rfl
      show (H.push _)[eB G + mN M]? = some (vp_cell (eC G (.object C)) (n.toNatClampNeg, .inr (.inr (.inr (.inr (fun j => (mR (uN M _) (mN M) j).map (adr G)))))))
      rw [i3, hc, ← hs, Array.getElem?_push_size]
      congr 1
      rw [arrV_new]
      rfl
    rw [← hs] at e2
    exact e2
  · exact h.elim
/-- the class's name of the objects that an array holds -/
def w_AAS (K : Kt) (pc : Nat) (L : List (Option Value)) (st : List Value) (M : Mem) (kc ks : Nat) : Prop := match st with
  | v :: .int i :: w :: r => (match vo v, vo w with
    | some (some b), some (some a) => (∃ ci n, ∃ q : vw_C, (vwCl[ci]? = some q ∧ hasK M b (.inr ci) ∧ hasK M a (.inl (.object q.1, n)) ∧ (rTy (.object q.1)).isSome = true) ∧ vp_in i n ∧ K (pc + 1) L r (uR M a i.toNatClampNeg (some b)) kc ks)
    | _, _ => False)
  | _ => False
theorem s_aastore (hK : Kok G mi Q X K) (hd : decode (iC mi) pc = .ok (.aastore, 1)) (h : w_AAS K pc L st M kc ks) : Go G mi Q X pc L st M kc ks := by
  unfold w_AAS at h
  split at h
  · rename_i v i w r
    split at h
    · rename_i b a hv hw
      have hv := vo_eq hv
      have hw := vo_eq hw
      subst hv
      subst hw
      obtain ⟨ci, n, q, ⟨hc, hb, ha, h0⟩, h2, h3⟩ := h
      obtain ⟨t, ht⟩ := Option.isSome_iff_exists.mp h0
      obtain ⟨r1, r2, r3⟩ := rTy_at (G := G) ht
      intro p e s m args below meth c H locs ls a1 a2 a3 a4 a5 a6 a7 a8 a9 a10
      have hat := wl_at (G := G) ha
      rw [r3] at hat
      have hbt := wl_at (G := G) hb
      have hlt : i.toNatClampNeg < n := Nat.not_le.mp fun q => h2 (Or.inr q)
      have h0 : ¬ i < 0 := fun q => h2 (Or.inl q)
      obtain ⟨r', hr', cellV, g1, g2, g3, -⟩ := a6.1 b _ hbt
      have hcls := (a3.1 ci q hc).2
      obtain ⟨kA, comp, k1, k2, k3, -⟩ := (a3.2 t _ r1).2
      have hcomp : comp = (eD G).1 ci := Option.some.inj (k3.symm.trans hcls.1)
      subst hcomp
      obtain ⟨kC, hkC, -⟩ := hcls.2
      refine W.aast a1.1 a1.2.1 (a6.1 a _ hat) (fun q h => by cases h) (fun h => by cases h) k1 k2 rfl hkC ⟨h0, by show _ < (arrV _ _ _).slots.size; rw [arrV_size]; exact hlt⟩ g1 (fun q h => by rw [g3] at h; cases h) (by rw [g2]; exact hkC) (by rw [g2]; exact va_assign hcls) rfl rfl hd fun H1 e9 z oq => ?_
      refine hK _ _ _ _ _ _ h3 p e s m args below meth c H1 _ ls a1 a2 a3 a4 a5 (a6.set ha (fun _ _ hq => cE_uR hq) rfl (a6.1.set (wl_D G M) hat ?_ oq) z) (a7.put z oq (Nat.le_add_right _ _)) a8 a9 a10
      rw [r3]
      show H1[eB G + a]? = some (vp_cell _ _)
      rw [e9]
      show some ((arrV (eC G (.object q.1)) n (fun j => va_rf ((mR M a j).map (adr G)))).setSlot _ _) = some (arrV (eC G (.object q.1)) n (fun j => va_rf ((mR (uR M a i.toNatClampNeg (some b)) a j).map (adr G))))
      rw [arrV_store]
      congr 2
      funext q
      by_cases hq : q = i.toNatClampNeg
      · subst hq
        simp [updV, uR, up2, mR, va_rf, adr]
      · simp [updV, uR, up2, mR, hq]
    · exact h.elim
  · exact h.elim
def w_OI (K : Kt) (pc : Nat) (L : List (Option Value)) (st : List Value) (M : Mem) (kc ks : Nat) : Prop := match st with
  | v :: r => (match vo v with | some (some _) => (cats r ≤ 0 ∧ K (pc + 3) L r M kc ks) | _ => False)
  | _ => False
theorem s_objInit {n : Nat} (hK : Kok G mi Q X K) (hd : decode (iC mi) pc = .ok (.invokespecial n, 3)) (hw : Cond.methodLink (iY mi).cls n Lib.objectInit ∈ lw_tbl ∧ stw (Cond.methodLink (iY mi).cls n Lib.objectInit) = true) (hi : Cond.instanceMethod Lib.objectInit ∈ lw_tbl ∧ stw (Cond.instanceMethod Lib.objectInit) = true) (hc : Cond.code Lib.objectInit ⟨#[0xb1]⟩ 1 none ∈ lw_tbl ∧ stw (Cond.code Lib.objectInit ⟨#[0xb1]⟩ 1 none) = true) (hR : 1 ≤ (iR mi).frames ∧ 12 ≤ (iR mi).locals) (h : w_OI K pc L st M kc ks) : Go G mi Q X pc L st M kc ks := by
  unfold w_OI at h
  split at h
  · rename_i v r
    split at h
    · rename_i a hv
      have hv := vo_eq hv
      subst hv
      intro p e s m args below meth c H locs ls a1 a2 a3 a4 a5 a6 a7 a8 a9 a10
      refine W.objInit a1.1 a1.2.1 a1.2.2.2.2.1 (a2 _ hw.1 hw.2 _) (a2 _ hi.1 hi.2 _) (a2 _ hc.1 hc.2 _) rfl (by rw [a1.2.2.2.1]; exact a5.1.1) (a := eB G + a) (rest := r.map (gv G)) rfl hd hR.1 ?_ (hK _ _ _ _ _ _ h.2 p e s m args below meth c H locs ls a1 a2 a3 a4 a5 a6 a7 a8 a9 a10)
      rw [cats_gv]
      have := h.1
      have := hR.2
      show 2 * 0 + cats r + 12 ≤ _
      omega
    · exact h.elim
  · exact h.elim
/-- new int[16][42]: one cell and sixteen behind it -/
def uM (M : Mem) : Mem := ((M.1.1 + 17, (fun a => if a = M.1.1 then some (.inl (.array .int, 16)) else if M.1.1 < a ∧ a < M.1.1 + 17 then some (.inl (.int, 42)) else M.1.2.1 a), M.1.2.2), (fun a j => if M.1.1 ≤ a ∧ a < M.1.1 + 17 then 0 else M.2.1 a j), (fun a j => if M.1.1 ≤ a ∧ a < M.1.1 + 17 then 0 else M.2.2.1 a j), (fun a j => if a = M.1.1 then (if j < 16 then some (M.1.1 + 1 + j) else none) else if M.1.1 < a ∧ a < M.1.1 + 17 then none else M.2.2.2 a j))
theorem cE_uM {G : En} {M : Mem} {e' : Lk} {k : Nat} (h : k < mN M) : cE G (uM M) k e' = cE G M k e' := by
  have h : k < M.1.1 := h
  have h1 : ∀ i, mI (uM M) k i = mI M k i := fun i => if_neg (by omega)
  have h2 : ∀ i, mL (uM M) k i = mL M k i := fun i => if_neg (by omega)
  have h3 : ∀ i, mR (uM M) k i = mR M k i := fun i => by
    show (if k = M.1.1 then _ else if M.1.1 < k ∧ k < M.1.1 + 17 then _ else M.2.2.2 k i) = _
    rw [if_neg (by omega), if_neg (by omega)]; rfl
  have h4 : mI (uM M) k = mI M k := funext h1
  have h5 : mL (uM M) k = mL M k := funext h2
  rcases e' with ⟨ty, n⟩ | ci
  · cases ty <;> simp only [cE, h3, h4, h5]
  · simp only [cE]
    congr 2
    apply List.map_congr_left
    intro i _
    cases clTy ci i <;> simp only [fvl, h1, h2, h3]
theorem Pw.multi {G : En} {M : Mem} {H H1 : Heap} (hP : Pw G M H) (hz : mZ M = true) (h1 : H1.size = H.size + 17) (hk : ∀ q, q < H.size → H1[q]? = H[q]?) (ho : H1[H.size]? = some (vp_cell (eC G (.array .int)) (16, .inr (.inr (.inr (.inr (fun i => if i < 16 then some (H.size + 1 + i) else none))))))) (hi : ∀ j, j < 16 → H1[H.size + 1 + j]? = some (vp_cell (eC G .int) (42, .inl (fun _ => 0)))) : Pw G (uM M) H1 := by
  have hs := hP.2.1 hz
  have hN : mN (uM M) = mN M + 17 := rfl
  refine ⟨fun k q hq => ?_, fun _ => by rw [hN]; omega, by have := hP.2.2; omega⟩
  have hl : k < mN M + 17 := by rw [← hN, ← wl_len G (uM M)]; exact (List.getElem?_eq_some_iff.mp hq).1
  rw [wl_get (by rw [hN]; exact hl)] at hq
  cases hq
  by_cases c1 : k < mN M
  · have e1 : mY (uM M) k = mY M k := by
      have c1 : k < M.1.1 := c1
      show (if k = M.1.1 then _ else if M.1.1 < k ∧ k < M.1.1 + 17 then _ else M.1.2.1 k) = _
      rw [if_neg (by omega), if_neg (by omega)]; rfl
    rw [e1, cE_uM c1]
    have h9 := hP.1 k _ (wl_get c1)
    exact h9.kept (hk _ h9.lt)
  · by_cases c2 : k = mN M
    · subst c2
      have e1 : mY (uM M) (mN M) = some (.inl (.array .int, 16)) := if_pos rfl
      rw [e1]
      have e2 : (fun j => (mR (uM M) (mN M) j).map (adr G)) = fun i => if i < 16 then some (H.size + 1 + i) else none := funext fun j => by
        have : mR (uM M) (mN M) j = if j < 16 then some (mN M + 1 + j) else none := if_pos rfl
        rw [this]
        split
        · simp only [Option.map_some, adr, Option.some.injEq]; omega
        · rfl
      show H1[eB G + mN M]? = some (vp_cell (eC G (.array .int)) (16, .inr (.inr (.inr (.inr (fun j => (mR (uM M) (mN M) j).map (adr G)))))))
      rw [e2, ← hs]
      exact ho
    · obtain ⟨j, hj, rfl⟩ : ∃ j, j < 16 ∧ k = mN M + 1 + j := ⟨k - mN M - 1, by omega, by omega⟩
      have e1 : mY (uM M) (mN M + 1 + j) = some (.inl (.int, 42)) := by
        show (if mN M + 1 + j = mN M then _ else if mN M < mN M + 1 + j ∧ mN M + 1 + j < mN M + 17 then some (Sum.inl (FieldType.int, 42) : Lk) else _) = _
        rw [if_neg (by omega), if_pos (by omega)]
      have e2 : mI (uM M) (mN M + 1 + j) = fun _ => 0 := funext fun i => by
        show (if mN M ≤ mN M + 1 + j ∧ mN M + 1 + j < mN M + 17 then (0 : Int32) else _) = 0
        rw [if_pos (by omega)]
      rw [e1]
      show H1[eB G + (mN M + 1 + j)]? = some (vp_cell (eC G .int) (42, .inl (mI (uM M) (mN M + 1 + j))))
      rw [e2, show eB G + (mN M + 1 + j) = H.size + 1 + j by omega]
      exact hi j hj
theorem outer_cell (c : ClassId) (N h0 : Nat) : ∀ i : Nat, Jvm.Free.Multi.outerC c N h0 i = arrV c N (fun j => va_rf (if j < i then some (h0 + 1 + j) else none))
  | 0 => by
    show ({ cls := c, slots := Array.replicate N .null, vm := .none } : Cell) = _
    rw [arrV_new]
    refine congrArg (arrV c N) (funext fun j => ?_)
    simp [va_rf]
  | i + 1 => by
    show (Jvm.Free.Multi.outerC c N h0 i).setSlot i (.ref (h0 + 1 + i)) = _
    rw [outer_cell c N h0 i, arrV_store]
    refine congrArg (arrV c N) (funext fun j => ?_)
    by_cases e : j = i
    · subst e
      simp [updV, va_rf]
    · by_cases h : j < i
      · simp [updV, e, h, Nat.lt_succ_of_lt h]
      · simp [updV, e, h, show ¬ j < i + 1 by omega]
def w_MNA (rc rs : Nat) (K : Kt) (pc : Nat) (L : List (Option Value)) (st : List Value) (M : Mem) (kc ks : Nat) : Prop := match st with
  | .int k :: .int n :: r => (mZ M = true ∧ k = 42 ∧ n = 16 ∧ kc + 17 ≤ rc ∧ ks + 688 ≤ rs ∧ K (pc + 4) L (.ref (mN M) :: r) (uM M) (kc + 17) (ks + 688))
  | _ => False
theorem s_multi {n rc rs : Nat} (hK : Kok G mi Q X K) (hd : decode (iC mi) pc = .ok (.multianewarray n 2, 4)) (hw : Cond.classLink (iY mi).cls n "[[I" ∈ lw_tbl ∧ stw (Cond.classLink (iY mi).cls n "[[I") = true) (hw2 : Cond.arrayOver (.array .int) ∈ lw_tbl) (hw3 : Cond.arrayClass .int ∈ lw_tbl ∧ stw (Cond.arrayClass .int) = true) (hr : rc = (iR mi).cells ∧ rs = (iR mi).slots) (h : w_MNA rc rs K pc L st M kc ks) : Go G mi Q X pc L st M kc ks := by
  obtain ⟨rfl, rfl⟩ := hr
  unfold w_MNA at h
  split at h
  · rename_i k n9 r
    obtain ⟨h1, rfl, rfl, h3, h4, h5⟩ := h
    intro p e s m args below meth c H locs ls a1 a2 a3 a4 a5 a6 a7 a8 a9 a10
    have hs := a6.2.1 h1
    have hb := a1.2.1
    intro T hT Xs
    obtain ⟨vm₁, cA, comp, -, fA, fC, hO, -, X', step⟩ := Jvm.Stand.multianewarray2F Xs a1.1 (ty := .int) a1.2.2.2.2.1 (a2 _ hw.1 hw.2 _) (a2 _ hw2 rfl _) (a2 _ hw3.1 hw3.2 _) (g := F0 m pc ls (.int 42 :: .int 16 :: r.map (gv G))) rfl (by rw [hb]; exact hd) (n := 16) (k := 42) (rest := r.map (gv G)) rfl (by decide) (by decide) (by decide) (by decide) (by decide) rfl rfl (show kc + (1 + 16) ≤ _ by omega) (show ks + (16 + 16 * 42) ≤ _ by omega)
    have c1 : eC G .int = comp := Option.some.inj ((a3.2 0 _ rfl).2.symm.trans fC)
    have c2 : eC G (.array .int) = cA := Option.some.inj ((a3.2 6 _ rfl).2.symm.trans fA)
    subst c1
    subst c2
    generalize hF : Jvm.Free.Multi.fill (T.setVm vm₁) (eC G (.array .int)) (eC G .int) (16 : Int32).toNatClampNeg (42 : Int32).toNatClampNeg (defaultValue .int) (16 : Int32).toNatClampNeg = F at X' step
    have hTh : (T.setVm vm₁).heap = H := hT
    obtain ⟨f1, f2, -, -⟩ := Jvm.Free.Multi.fill_facts (T.setVm vm₁) (eC G (.array .int)) (eC G .int) (16 : Int32).toNatClampNeg (42 : Int32).toNatClampNeg (defaultValue .int) (16 : Int32).toNatClampNeg
    rw [hF, hTh] at f1 f2
    have hold : ∀ x : Nat, x < H.size → F.heap[x]? = H[x]? := fun x hx => by
      have := Jvm.Free.Multi.fill_old (T.setVm vm₁) (eC G (.array .int)) (eC G .int) (16 : Int32).toNatClampNeg (42 : Int32).toNatClampNeg (defaultValue .int) (a := x) (by rw [hTh]; exact hx) (16 : Int32).toNatClampNeg
      rw [hF, hTh] at this
      exact this
    have hrow : ∀ j : Nat, j < 16 → F.heap[H.size + 1 + j]? = some (vp_cell (eC G .int) (42, .inl (fun _ => 0))) := fun j hj => by
      have := Jvm.Free.Multi.fill_inner (T.setVm vm₁) (eC G (.array .int)) (eC G .int) (16 : Int32).toNatClampNeg (42 : Int32).toNatClampNeg (defaultValue .int) (16 : Int32).toNatClampNeg j hj
      rw [hF, hTh] at this
      rw [this]
      congr 1
    rw [outer_cell] at f2
    have f1 : F.heap.size = H.size + 17 := f1
    have hk := hK _ _ _ _ _ _ h5 p e s m args below meth c F.heap locs ls a1 a2 a3 a4 a5 (a6.multi h1 f1 hold f2 hrow) (a7.grow (by rw [f1]; omega) hold) h3 h4 a10
    obtain ⟨t, b1, b2⟩ := hk F rfl X'
    refine ⟨t, step t ?_, b2⟩
    have e1 : T.heap.size = eB G + mN M := by rw [hT]; exact hs
    rw [e1]
    exact b1
  · exact h.elim
end MAKE2
