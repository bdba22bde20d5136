/-! RULES OF ARRAYS, ANSWERS -/
section ARR
variable {G : En} {mi : Mi} {Q : Option Value → Mem → Prop} {X : String → Mem → Prop} {K : Kt} {pc : Nat} {L : List (Option Value)} {st : List Value} {M : Mem} {kc ks : Nat}
def cLen (G : En) (q : Nat) : Nat := if q < 4 then (stT q).length else eN G
def cVal (G : En) (q j : Nat) : Int32 := if q < 4 then stV q j else eX G j
def w_IAL (G : En) (K : Kt) (pc : Nat) (L : List (Option Value)) (st : List Value) (M : Mem) (kc ks : Nat) : Prop := match st with
  | .int i :: .retAddr q :: r => (vp_in i (cLen G q) ∧ K (pc + 1) L (.int (cVal G q i.toNatClampNeg) :: r) M kc ks)
  | .int i :: v :: r => (match vo v with | some (some a) => (∃ n, hasK M a (.inl (.int, n)) ∧ vp_in i n ∧ K (pc + 1) L (.int (mI M a i.toNatClampNeg) :: r) M kc ks) | _ => False)
  | _ => False
theorem s_iaload (hK : Kok G mi Q X K) (hd : decode (iC mi) pc = .ok (.iaload, 1)) (h : w_IAL G K pc L st M kc ks) : Go G mi Q X pc L st M kc ks := by
  unfold w_IAL at h
  split at h
  · rename_i i q r
    intro p e s m args below meth c H locs ls a1 a2 a3 a4 a5 a6 a7 a8 a9 a10
    have hk9 := hK _ _ _ _ _ _ h.2 p e s m args below meth c H locs ls a1 a2 a3 a4 a5 a6 a7 a8 a9 a10
    by_cases hq : q < 4
    · have e1 : gv G (.retAddr q) = .ref (eS G q) := by show Value.ref (if q < 4 then eS G q else eA G) = _; rw [if_pos hq]
      show W p (eL G) e (iR mi) s m args below meth c H locs kc ks _ (F0 m pc ls (.int i :: gv G (.retAddr q) :: r.map (gv G)))
      rw [e1]
      refine va_ti a1.1 a1.2.1 (a4.1 q hq).2 a7 (by have h1 := h.1; unfold cLen at h1; rw [if_pos hq] at h1; exact h1) rfl hd ?_
      have e2 : cVal G q i.toNatClampNeg = stV q i.toNatClampNeg := by unfold cVal; rw [if_pos hq]
      rw [← e2]
      exact hk9
    · have e1 : gv G (.retAddr q) = .ref (eA G) := by show Value.ref (if q < 4 then eS G q else eA G) = _; rw [if_neg hq]
      show W p (eL G) e (iR mi) s m args below meth c H locs kc ks _ (F0 m pc ls (.int i :: gv G (.retAddr q) :: r.map (gv G)))
      rw [e1]
      refine va_sld a1.1 a1.2.1 a4.2.2.2.1 (Nat.lt_of_lt_of_le a4.2.2.2.2.1 a10) (by unfold aFr; have := a4.2.2.2.2.1; omega) a7 (by have h1 := h.1; unfold cLen at h1; rw [if_neg hq] at h1; exact h1) hd ?_
      have e2 : cVal G q i.toNatClampNeg = eX G i.toNatClampNeg := by unfold cVal; rw [if_neg hq]
      rw [← e2]
      exact hk9
  · rename_i i v r _
    split at h
    · rename_i a hv
      have hv := vo_eq hv
      subst hv
      obtain ⟨n, h1, h2, h3⟩ := h
      intro p e s m args below meth c H locs ls a1 a2 a3 a4 a5 a6 a7 a8 a9 a10
      exact va_iald (a := eB G + a) a1.1 a1.2.1 a3 a6.1 a 0 (wl_at (G := G) h1) rfl h2 hd (hK _ _ _ _ _ _ h3 p e s m args below meth c H locs ls a1 a2 a3 a4 a5 a6 a7 a8 a9 a10)
    · exact h.elim
  · exact h.elim
def w_LEN (G : En) (K : Kt) (pc : Nat) (L : List (Option Value)) (st : List Value) (M : Mem) (kc ks : Nat) : Prop := match st with
  | .retAddr q :: r => K (pc + 1) L (.int (Int32.ofNat (cLen G q)) :: r) M kc ks
  | v :: r => (match vo v with | some (some a) => (∃ ty n, (hasK M a (.inl (ty, n)) ∧ (ty = .int ∨ ty = .long)) ∧ K (pc + 1) L (.int (Int32.ofNat n) :: r) M kc ks) | _ => False)
  | _ => False
theorem s_arraylength (hK : Kok G mi Q X K) (hd : decode (iC mi) pc = .ok (.arraylength, 1)) (h : w_LEN G K pc L st M kc ks) : Go G mi Q X pc L st M kc ks := by
  unfold w_LEN at h
  split at h
  · rename_i q r
    intro p e s m args below meth c H locs ls a1 a2 a3 a4 a5 a6 a7 a8 a9 a10
    have hk9 := hK _ _ _ _ _ _ h p e s m args below meth c H locs ls a1 a2 a3 a4 a5 a6 a7 a8 a9 a10
    by_cases hq : q < 4
    · have e1 : gv G (.retAddr q) = .ref (eS G q) := by show Value.ref (if q < 4 then eS G q else eA G) = _; rw [if_pos hq]
      show W p (eL G) e (iR mi) s m args below meth c H locs kc ks _ (F0 m pc ls (gv G (.retAddr q) :: r.map (gv G)))
      rw [e1]
      exact va_tlen a1.1 a1.2.1 (a4.1 q hq).2 a7 (by unfold cLen; rw [if_pos hq]) hd hk9
    · have e1 : gv G (.retAddr q) = .ref (eA G) := by show Value.ref (if q < 4 then eS G q else eA G) = _; rw [if_neg hq]
      show W p (eL G) e (iR mi) s m args below meth c H locs kc ks _ (F0 m pc ls (gv G (.retAddr q) :: r.map (gv G)))
      rw [e1]
      refine va_slen a1.1 a1.2.1 a4.2.2.2.1 (Nat.lt_of_lt_of_le a4.2.2.2.2.1 a10) (by unfold aFr; have := a4.2.2.2.2.1; omega) a7 hd ?_
      have e2 : cLen G q = eN G := by unfold cLen; rw [if_neg hq]
      rw [← e2]
      exact hk9
  · rename_i v r _
    split at h
    · rename_i a hv
      have hv := vo_eq hv
      subst hv
      obtain ⟨ty, n, ⟨h1, h2⟩, h3⟩ := h
      intro p e s m args below meth c H locs ls a1 a2 a3 a4 a5 a6 a7 a8 a9 a10
      have hat := wl_at (G := G) h1
      rcases h2 with rfl | rfl
      · exact va_alen (a := eB G + a) a1.1 a1.2.1 a3 a6.1 a 0 hat rfl rfl hd (hK _ _ _ _ _ _ h3 p e s m args below meth c H locs ls a1 a2 a3 a4 a5 a6 a7 a8 a9 a10)
      · exact va_alen (a := eB G + a) a1.1 a1.2.1 a3 a6.1 a 1 hat rfl rfl hd (hK _ _ _ _ _ _ h3 p e s m args below meth c H locs ls a1 a2 a3 a4 a5 a6 a7 a8 a9 a10)
    · exact h.elim
  · exact h.elim
def w_LAL (K : Kt) (pc : Nat) (L : List (Option Value)) (st : List Value) (M : Mem) (kc ks : Nat) : Prop := match st with
  | .int i :: v :: r => (match vo v with | some (some a) => (∃ n, hasK M a (.inl (.long, n)) ∧ vp_in i n ∧ K (pc + 1) L (.long (mL M a i.toNatClampNeg) :: r) M kc ks) | _ => False)
  | _ => False
theorem s_laload (hK : Kok G mi Q X K) (hd : decode (iC mi) pc = .ok (.laload, 1)) (h : w_LAL K pc L st M kc ks) : Go G mi Q X pc L st M kc ks := by
  unfold w_LAL at h
  split at h
  · rename_i i v r
    split at h
    · rename_i a hv
      have hv := vo_eq hv
      subst hv
      obtain ⟨n, h1, h2, h3⟩ := h
      intro p e s m args below meth c H locs ls a1 a2 a3 a4 a5 a6 a7 a8 a9 a10
      exact va_lald (a := eB G + a) a1.1 a1.2.1 a3 a6.1 a 1 (wl_at (G := G) h1) rfl h2 hd (hK _ _ _ _ _ _ h3 p e s m args below meth c H locs ls a1 a2 a3 a4 a5 a6 a7 a8 a9 a10)
    · exact h.elim
  · exact h.elim
def w_ZAL (K : Kt) (pc : Nat) (L : List (Option Value)) (st : List Value) (M : Mem) (kc ks : Nat) : Prop := match st with
  | .int i :: v :: r => (match vo v with | some (some a) => (∃ n, hasK M a (.inl (.boolean, n)) ∧ vp_in i n ∧ K (pc + 1) L (.int (mI M a i.toNatClampNeg) :: r) M kc ks) | _ => False)
  | _ => False
theorem s_baload (hK : Kok G mi Q X K) (hd : decode (iC mi) pc = .ok (.baload, 1)) (h : w_ZAL K pc L st M kc ks) : Go G mi Q X pc L st M kc ks := by
  unfold w_ZAL at h
  split at h
  · rename_i i v r
    split at h
    · rename_i a hv
      have hv := vo_eq hv
      subst hv
      obtain ⟨n, h1, h2, h3⟩ := h
      intro p e s m args below meth c H locs ls a1 a2 a3 a4 a5 a6 a7 a8 a9 a10
      exact va_zald (a := eB G + a) a1.1 a1.2.1 a3 a6.1 a 2 (wl_at (G := G) h1) rfl h2 hd (hK _ _ _ _ _ _ h3 p e s m args below meth c H locs ls a1 a2 a3 a4 a5 a6 a7 a8 a9 a10)
    · exact h.elim
  · exact h.elim
/-- the arrays of references, by their places in tyL -/
def rTy : FieldType → Option Nat
  | .object C => if C = RX0 then some 3 else if C = RX3 then some 4 else if C = RX7 then some 5 else none
  | .array .int => some 6
  | _ => none
theorem rTy_at {G : En} {ty : FieldType} {t : Nat} (h : rTy ty = some t) : (tyL G)[t]? = some (eC G ty, ty) ∧ ty.isReference = true ∧ ∀ M a n, cE G M a (.inl (ty, n)) = .inl (eC G ty, n, .inr (.inr (.inr (.inr (fun j => (mR M a j).map (adr G)))))) := by
  unfold rTy at h
  split at h
  · split at h
    · rename_i e; subst e; cases h; exact ⟨rfl, rfl, fun _ _ _ => rfl⟩
    · split at h
      · rename_i e; subst e; cases h; exact ⟨rfl, rfl, fun _ _ _ => rfl⟩
      · split at h
        · rename_i e; subst e; cases h; exact ⟨rfl, rfl, fun _ _ _ => rfl⟩
        · cases h
  · cases h; exact ⟨rfl, rfl, fun _ _ _ => rfl⟩
  · cases h
def w_AAL (K : Kt) (pc : Nat) (L : List (Option Value)) (st : List Value) (M : Mem) (kc ks : Nat) : Prop := match st with
  | .int i :: v :: r => (match vo v with | some (some a) => (∃ ty n, (hasK M a (.inl (ty, n)) ∧ (rTy ty).isSome = true) ∧ vp_in i n ∧ K (pc + 1) L (rv (mR M a i.toNatClampNeg) :: r) M kc ks) | _ => False)
  | _ => False
theorem s_aaload (hK : Kok G mi Q X K) (hd : decode (iC mi) pc = .ok (.aaload, 1)) (h : w_AAL K pc L st M kc ks) : Go G mi Q X pc L st M kc ks := by
  unfold w_AAL at h
  split at h
  · rename_i i v r
    split at h
    · rename_i a hv
      have hv := vo_eq hv
      subst hv
      obtain ⟨ty, n, ⟨h1, h0⟩, h2, h3⟩ := h
      obtain ⟨t, ht⟩ := Option.isSome_iff_exists.mp h0
      obtain ⟨r1, r2, r3⟩ := rTy_at (G := G) ht
      intro p e s m args below meth c H locs ls a1 a2 a3 a4 a5 a6 a7 a8 a9 a10
      have hat := wl_at (G := G) h1
      rw [r3] at hat
      have hlt : i.toNatClampNeg < n := Nat.not_le.mp fun q => h2 (Or.inr q)
      have hk9 := hK _ _ _ _ _ _ h3 p e s m args below meth c H locs ls a1 a2 a3 a4 a5 a6 a7 a8 a9 a10
      have hk9 : W p (eL G) e (iR mi) s m args below meth c H locs kc ks _ (F0 m (pc + 1) ls (gv G (rv (mR M a i.toNatClampNeg)) :: r.map (gv G))) := hk9
      rw [gv_rv] at hk9
      exact W.aald (a := eB G + a) (v := va_rf ((mR M a i.toNatClampNeg).map (adr G))) (ty := ty) a1.1 a1.2.1 (a6.1 a _ hat) ((a3.2 t _ r1).1 n (fun j => va_rf ((mR M a j).map (adr G)))) r2 (fun q => by cases q) (by show ¬ (i < 0 ∨ (arrV _ _ _).slots.size ≤ _); rw [arrV_size]; exact h2) (by show (arrV _ _ _).slots[_]? = _; rw [arrV_read _ _ hlt]) rfl rfl hd hk9
    · exact h.elim
  · exact h.elim
def w_IAS (K : Kt) (pc : Nat) (L : List (Option Value)) (st : List Value) (M : Mem) (kc ks : Nat) : Prop := match st with
  | .int x :: .int i :: v :: r => (match vo v with | some (some a) => (∃ n, hasK M a (.inl (.int, n)) ∧ vp_in i n ∧ K (pc + 1) L r (uI M a i.toNatClampNeg x) kc ks) | _ => False)
  | _ => False
theorem s_iastore (hK : Kok G mi Q X K) (hd : decode (iC mi) pc = .ok (.iastore, 1)) (h : w_IAS K pc L st M kc ks) : Go G mi Q X pc L st M kc ks := by
  unfold w_IAS at h
  split at h
  · rename_i x i v r
    split at h
    · rename_i a hv
      have hv := vo_eq hv
      subst hv
      obtain ⟨n, h1, h2, h3⟩ := h
      intro p e s m args below meth c H locs ls a1 a2 a3 a4 a5 a6 a7 a8 a9 a10
      have hat := wl_at (G := G) h1
      refine W.iast (a := eB G + a) a1.1 a1.2.1 (a6.1 a _ hat) ((a3.2 0 _ rfl).1 n (fun j => .int (mI M a j))) (fun q => by cases q) (by show ¬ (i < 0 ∨ (arrV _ _ _).slots.size ≤ _); rw [arrV_size]; exact h2) rfl rfl hd fun H1 e z oq => ?_
      refine hK _ _ _ _ _ _ h3 p _ s m args below meth c H1 _ ls a1 a2 a3 a4 a5 (a6.set h1 (fun _ _ hq => cE_uI hq) rfl (a6.1.set (wl_D G M) hat ?_ oq) z) (a7.put z oq (Nat.le_add_right _ _)) a8 a9 a10
      show H1[eB G + a]? = some (vp_cell _ _)
      rw [e]
      show some ((arrV (eC G .int) n (fun j => .int (mI M a j))).setSlot _ _) = some (arrV (eC G .int) n (fun j => .int (mI (uI M a i.toNatClampNeg x) a j)))
      rw [arrV_store]
      congr 2
      funext q
      by_cases hq : q = i.toNatClampNeg
      · subst hq
        simp [updV, uI, up2, mI]
      · simp [updV, uI, up2, mI, hq]
    · exact h.elim
  · exact h.elim
def w_LAS (K : Kt) (pc : Nat) (L : List (Option Value)) (st : List Value) (M : Mem) (kc ks : Nat) : Prop := match st with
  | .long x :: .int i :: v :: r => (match vo v with | some (some a) => (∃ n, hasK M a (.inl (.long, n)) ∧ vp_in i n ∧ K (pc + 1) L r (uL M a i.toNatClampNeg x) kc ks) | _ => False)
  | _ => False
theorem s_lastore (hK : Kok G mi Q X K) (hd : decode (iC mi) pc = .ok (.lastore, 1)) (h : w_LAS K pc L st M kc ks) : Go G mi Q X pc L st M kc ks := by
  unfold w_LAS at h
  split at h
  · rename_i x i v r
    split at h
    · rename_i a hv
      have hv := vo_eq hv
      subst hv
      obtain ⟨n, h1, h2, h3⟩ := h
      intro p e s m args below meth c H locs ls a1 a2 a3 a4 a5 a6 a7 a8 a9 a10
      have hat := wl_at (G := G) h1
      refine W.last (a := eB G + a) a1.1 a1.2.1 (a6.1 a _ hat) ((a3.2 1 _ rfl).1 n (fun j => .long (mL M a j))) (fun q => by cases q) (by show ¬ (i < 0 ∨ (arrV _ _ _).slots.size ≤ _); rw [arrV_size]; exact h2) rfl rfl hd fun H1 e z oq => ?_
      refine hK _ _ _ _ _ _ h3 p _ s m args below meth c H1 _ ls a1 a2 a3 a4 a5 (a6.set h1 (fun _ _ hq => cE_uL hq) rfl (a6.1.set (wl_D G M) hat ?_ oq) z) (a7.put z oq (Nat.le_add_right _ _)) a8 a9 a10
      show H1[eB G + a]? = some (vp_cell _ _)
      rw [e]
      show some ((arrV (eC G .long) n (fun j => .long (mL M a j))).setSlot _ _) = some (arrV (eC G .long) n (fun j => .long (mL (uL M a i.toNatClampNeg x) a j)))
      rw [arrV_store]
      congr 2
      funext q
      by_cases hq : q = i.toNatClampNeg
      · subst hq
        simp [updV, uL, up2, mL]
      · simp [updV, uL, up2, mL, hq]
    · exact h.elim
  · exact h.elim
def w_ZAS (K : Kt) (pc : Nat) (L : List (Option Value)) (st : List Value) (M : Mem) (kc ks : Nat) : Prop := match st with
  | .int x :: .int i :: v :: r => (match vo v with | some (some a) => (∃ n, hasK M a (.inl (.boolean, n)) ∧ vp_in i n ∧ (x = 0 ∨ x = 1) ∧ K (pc + 1) L r (uI M a i.toNatClampNeg x) kc ks) | _ => False)
  | _ => False
theorem s_bastore (hK : Kok G mi Q X K) (hd : decode (iC mi) pc = .ok (.bastore, 1)) (h : w_ZAS K pc L st M kc ks) : Go G mi Q X pc L st M kc ks := by
  unfold w_ZAS at h
  split at h
  · rename_i x i v r
    split at h
    · rename_i a hv
      have hv := vo_eq hv
      subst hv
      obtain ⟨n, h1, h2, h3⟩ := h
      intro p e s m args below meth c H locs ls a1 a2 a3 a4 a5 a6 a7 a8 a9 a10
      have hat := wl_at (G := G) h1
      refine W.zast (a := eB G + a) a1.1 a1.2.1 (a6.1 a _ hat) ((a3.2 2 _ rfl).1 n (fun j => .int (mI M a j))) (fun q => by cases q) (by show ¬ (i < 0 ∨ (arrV _ _ _).slots.size ≤ _); rw [arrV_size]; exact h2) rfl rfl hd fun H1 e z oq => ?_
      refine hK _ _ _ _ _ _ h3.2 p _ s m args below meth c H1 _ ls a1 a2 a3 a4 a5 (a6.set h1 (fun _ _ hq => cE_uI hq) rfl (a6.1.set (wl_D G M) hat ?_ oq) z) (a7.put z oq (Nat.le_add_right _ _)) a8 a9 a10
      show H1[eB G + a]? = some (vp_cell _ _)
      rw [e]
      show some ((arrV (eC G .boolean) n (fun j => .int (mI M a j))).setSlot _ _) = some (arrV (eC G .boolean) n (fun j => .int (mI (uI M a i.toNatClampNeg x) a j)))
      rw [arrV_store]
      congr 2
      funext q
      by_cases hq : q = i.toNatClampNeg
      · subst hq
        rcases h3.1 with rfl | rfl <;> simp [updV, uI, up2, mI] <;> rfl
      · simp [updV, uI, up2, mI, hq]
    · exact h.elim
  · exact h.elim
/-- an answer -/
def w_RI (b : Nat) (Q : Option Value → Mem → Prop) (st : List Value) (M : Mem) : Prop := match st with
  | [.int x] => (match b with | 0 => Q (some (.int x)) M | _ => ((x = 0 ∨ x = 1) ∧ Q (some (.int x)) M))
  | _ => False
theorem s_ireturn {b : Nat} (hd : decode (iC mi) pc = .ok (.ireturn, 1)) (hb : (b = 0 ∧ iT mi = some .int) ∨ (b = 1 ∧ iT mi = some .boolean)) (h : w_RI b Q st M) : Go G mi Q X pc L st M kc ks := by
  unfold w_RI at h
  split at h
  · rename_i x
    intro p e s m args below meth c H locs ls a1 a2 a3 a4 a5 a6 a7 a8 a9 a10
    rcases hb with ⟨rfl, ht⟩ | ⟨rfl, ht⟩
    · exact W.widen a8 a9 (vx_ret (W.iret a1.1 a1.2.1 (a1.2.2.1.trans ht) (fun t ht9 _ => ⟨⟨_, M, rfl, h, by rw [ht9]; exact a6⟩, a7.F ht9⟩) a7.2.2 hd (hlocks := a1.2.2.2.2.2.1)))
    · exact W.widen a8 a9 (vx_ret (W.zret (ty := .boolean) a1.1 a1.2.1 (a1.2.2.1.trans ht) (by rcases h.1 with rfl | rfl <;> rfl) (fun t ht9 _ => ⟨⟨_, M, rfl, h.2, by rw [ht9]; exact a6⟩, a7.F ht9⟩) a7.2.2 hd (hlocks := a1.2.2.2.2.2.1)))
  · exact h.elim
def w_RL (Q : Option Value → Mem → Prop) (st : List Value) (M : Mem) : Prop := match st with
  | [.long x] => Q (some (.long x)) M
  | _ => False
theorem s_lreturn (hd : decode (iC mi) pc = .ok (.lreturn, 1)) (hb : iT mi = some .long) (h : w_RL Q st M) : Go G mi Q X pc L st M kc ks := by
  unfold w_RL at h
  split at h
  · rename_i x
    intro p e s m args below meth c H locs ls a1 a2 a3 a4 a5 a6 a7 a8 a9 a10
    exact W.widen a8 a9 (vx_ret (W.lret a1.1 a1.2.1 (a1.2.2.1.trans hb) (fun t ht9 _ => ⟨⟨_, M, rfl, h, by rw [ht9]; exact a6⟩, a7.F ht9⟩) a7.2.2 hd (hlocks := a1.2.2.2.2.2.1)))
  · exact h.elim
theorem s_return (hd : decode (iC mi) pc = .ok (.return_, 1)) (hb : iT mi = none) (he : st = []) (h : Q none M) : Go G mi Q X pc L st M kc ks := by
  subst he
  intro p e s m args below meth c H locs ls a1 a2 a3 a4 a5 a6 a7 a8 a9 a10
  exact W.widen a8 a9 (vx_ret (W.vret a1.1 a1.2.1 (a1.2.2.1.trans hb) (fun t ht9 _ => ⟨⟨none, M, rfl, h, by rw [ht9]; exact a6⟩, a7.F ht9⟩) a7.2.2 hd (hlocks := a1.2.2.2.2.2.1)))
def w_RA (Q : Option Value → Mem → Prop) (st : List Value) (M : Mem) : Prop := match st with
  | [v] => ((vo v).isSome = true ∧ Q (some v) M)
  | _ => False
theorem s_areturn {C : String} (hd : decode (iC mi) pc = .ok (.areturn, 1)) (hb : iT mi = some (.object C)) (h : w_RA Q st M) : Go G mi Q X pc L st M kc ks := by
  unfold w_RA at h
  split at h
  · rename_i v
    obtain ⟨h0, h⟩ := h
    obtain ⟨x, hv⟩ := Option.isSome_iff_exists.mp h0
    have hv := vo_eq hv
    subst hv
    intro p e s m args below meth c H locs ls a1 a2 a3 a4 a5 a6 a7 a8 a9 a10
    exact W.widen a8 a9 (vx_ret (W.aret (v := gv G (rv x)) a1.1 a1.2.1 (a1.2.2.1.trans hb) (Or.inl ⟨C, rfl⟩) (by cases x; exact Or.inl rfl; exact Or.inr ⟨_, rfl⟩) (fun t ht9 _ => ⟨⟨some (rv x), M, rfl, h, by rw [ht9]; exact a6⟩, a7.F ht9⟩) a7.2.2 hd (hlocks := a1.2.2.2.2.2.1)))
  · exact h.elim
end ARR
