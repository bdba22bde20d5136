/-! MORE RULES: putfield, static tables, arrays, answers -/
section HEAP2
variable {G : En} {mi : Mi} {Q : Option Value → Mem → Prop} {X : String → Mem → Prop} {K : Kt} {pc : Nat} {L : List (Option Value)} {st : List Value} {M : Mem} {kc ks : Nat}
/-- the memory with v in a place of kind kd -/
def fput (kd : Nat) (v : Value) (M : Mem) (a j : Nat) (k : Mem → Prop) : Prop := match kd with
  | 0 => (match v with | .int x => k (uI M a j x) | _ => False)
  | 1 => (match v with | .long x => k (uL M a j x) | _ => False)
  | 2 => (match vo v with | some x => k (uR M a j x) | none => False)
  | 3 => (match v with | .int x => ((x = 0 ∨ x = 1) ∧ k (uI M a j x)) | _ => False)
  | _ => False
theorem fput_spec {G : En} {ty : FieldType} {kd : Nat} {v : Value} {M : Mem} {a j : Nat} {k : Mem → Prop} (hk : kindOf ty = kd) (h : fput kd v M a j k) : ∃ M', k M' ∧ narrow ty (gv G v) = gv G v ∧ fits ty (gv G v) = true ∧ fvl G M' ty a j = gv G v ∧ (∀ i, i ≠ j → ∀ ty', fvl G M' ty' a i = fvl G M ty' a i) ∧ (∀ k e', k ≠ a → cE G M' k e' = cE G M k e') ∧ M'.1 = M.1 := by
  subst hk
  have i1 : ∀ x i, i ≠ j → ∀ ty', fvl G (uI M a j x) ty' a i = fvl G M ty' a i := fun x i hi ty' => by
    have : mI (uI M a j x) a i = mI M a i := up2_nk hi
    cases ty' <;> simp only [fvl, this] <;> rfl
  have i2 : ∀ x i, i ≠ j → ∀ ty', fvl G (uL M a j x) ty' a i = fvl G M ty' a i := fun x i hi ty' => by
    have : mL (uL M a j x) a i = mL M a i := up2_nk hi
    cases ty' <;> simp only [fvl, this] <;> rfl
  have i3 : ∀ x i, i ≠ j → ∀ ty', fvl G (uR M a j x) ty' a i = fvl G M ty' a i := fun x i hi ty' => by
    have : mR (uR M a j x) a i = mR M a i := up2_nk hi
    cases ty' <;> simp only [fvl, this] <;> rfl
  cases ty with
  | int =>
    simp only [kindOf, fput] at h
    split at h
    · rename_i x
      refine ⟨_, h, rfl, rfl, ?_, i1 x, fun _ _ hq => cE_uI hq, rfl⟩
      show Value.int (up2 M.2.1 a j x a j) = _
      rw [up2_eq]; rfl
    · exact h.elim
  | boolean =>
    simp only [kindOf, fput] at h
    split at h
    · rename_i x
      refine ⟨_, h.2, ?_, ?_, ?_, i1 x, fun _ _ hq => cE_uI hq, rfl⟩
      · rcases h.1 with rfl | rfl <;> rfl
      · rcases h.1 with rfl | rfl <;> rfl
      · show Value.int (up2 M.2.1 a j x a j) = _
        rw [up2_eq]; rfl
    · exact h.elim
  | long =>
    simp only [kindOf, fput] at h
    split at h
    · rename_i x
      refine ⟨_, h, rfl, rfl, ?_, i2 x, fun _ _ hq => cE_uL hq, rfl⟩
      show Value.long (up2 M.2.2.1 a j x a j) = _
      rw [up2_eq]; rfl
    · exact h.elim
  | object C =>
    simp only [kindOf, fput] at h
    split at h
    · rename_i x hv
      have hv := vo_eq hv
      subst hv
      refine ⟨_, h, ?_, ?_, ?_, i3 x, fun _ _ hq => cE_uR hq, rfl⟩
      · cases x <;> rfl
      · cases x <;> rfl
      · rw [gv_rv]
        show va_rf ((up2 M.2.2.2 a j x a j).map (adr G)) = _
        rw [up2_eq]
    · exact h.elim
  | array C =>
    simp only [kindOf, fput] at h
    split at h
    · rename_i x hv
      have hv := vo_eq hv
      subst hv
      refine ⟨_, h, ?_, ?_, ?_, i3 x, fun _ _ hq => cE_uR hq, rfl⟩
      · cases x <;> rfl
      · cases x <;> rfl
      · rw [gv_rv]
        show va_rf ((up2 M.2.2.2 a j x a j).map (adr G)) = _
        rw [up2_eq]
    · exact h.elim
  | _ => simp only [kindOf, fput] at h
/-- a cell has changed, the others not: the heap holds the new memory -/
theorem Pw.set {G : En} {M M' : Mem} {H H1 : Heap} {a : Nat} {e : Lk} (hP : Pw G M H) (h : hasK M a e) (hk : ∀ k e', k ≠ a → cE G M' k e' = cE G M k e') (h1 : M'.1 = M.1) (hH : va_P (eD G) vwCl ((wl G M).set a (eB G + a, cE G M' a e)) H1) (hz : H1.size = H.size) : Pw G M' H1 := by
  have e1 : mN M' = mN M := by unfold mN; rw [h1]
  have e2 : mY M' = mY M := by unfold mY; rw [h1]
  have e3 : mZ M' = mZ M := by unfold mZ; rw [h1]
  refine ⟨by rw [wl_set h e1 e2 hk]; exact hH, fun q => ?_, by rw [hz]; exact hP.2.2⟩
  rw [hz, e1]
  exact hP.2.1 (e3 ▸ q)
/-- what the object's row has in a place, and its class, for a store of v there -/
theorem vz_row {s : State} {args : Array Value} {D : va_G} {tys : List (ClassId × FieldType)} {ws : va_W} {H : Heap} {ci k q0 a : Nat} {C : String} {T : u_T} {N : Nat} {fs : List Value} (hc : clOk ci C T N) (hts : ∀ w ∈ tbs, w.before args s = true) (hK : va_K D vwCl tys s) (hP : va_P D vwCl ws H) (hD : va_D (fun _ => True) ws) (he : ws[q0]? = some (a, .inr (ci, fs))) (hk : k < N) (hl : k < fs.length) (v : Value) :
    ∃ (cell : Cell) (cf : ClassId) (kf : Class) (fi : Nat) (f : Field) (kC : Class), H[a]? = some cell ∧ cell.cls = D.1 ci ∧ cell.vm = .none ∧ f.slot < cell.slots.size ∧ s.fieldFound? (T k).1 (T k).2.1 (T k).2.2.1 = some (cf, kf, fi, f) ∧ s.vm.findClass C = some (D.1 ci) ∧ s.vm.classes[D.1 ci]? = some kC ∧ kC.kind = .ordinary ∧
      ∀ H' : Heap, H'[a]? = some (cell.setSlot f.slot v) → (∀ q, q ≠ a → H'[q]? = H[q]?) → va_P D vwCl (ws.set q0 (a, .inr (ci, fs.set k v))) H' := by
  have hap := va_apart (own := C) hts hc.ws (clTy ci) hc.2.2.1 hc.2.2.2 hK hc.1
  obtain ⟨r, h1, cell, q1, q2, q3, q4⟩ := hP q0 _ he
  have hr : r = (C, T, N) := Option.some.inj (h1.symm.trans hc.1)
  subst hr
  obtain ⟨hS, hfc, kC, hkC, hkind⟩ := hK.1 ci _ hc.1
  obtain ⟨cf, kf, fi, f, hi, hsl⟩ := hS k hk
  refine ⟨cell, cf, kf, fi, f, kC, q1, q2, q3, by rw [hsl]; exact k2_hasslot (q4 k hk), hi, hfc, hkC, hkind, fun H' e1 e3 => ?_⟩
  rw [hsl] at e1
  exact hP.set hD he ⟨_, hc.1, t_OB.to (V := updV (vp_V fs) k v) ⟨_, e1, q2, q3, t_set q4 hap hk v⟩ (fun j _ => vp_updV_set hl v j)⟩ e3
def w_PF (ci j kd : Nat) (K : Kt) (pc : Nat) (L : List (Option Value)) (st : List Value) (M : Mem) (kc ks : Nat) : Prop := match st with | v :: w :: r => (match vo w with | some (some a) => (hasK M a (.inr ci) ∧ fput kd v M a j (fun M' => K (pc + 3) L r M' kc ks)) | _ => False) | _ => False
theorem s_putfield {n ci j kd : Nat} {C : String} {T : u_T} {N : Nat} (hK : Kok G mi Q X K) (hd : decode (iC mi) pc = .ok (.putfield n, 3)) (hc : clOk ci C T N) (hj : j < N) (hk : kindOf (clTy ci j) = kd) (hw : (Cond.fieldLink (iY mi).cls n (T j).1 (T j).2.1 (T j).2.2.1 ∈ lw_tbl ∧ stw (Cond.fieldLink (iY mi).cls n (T j).1 (T j).2.1 (T j).2.2.1) = true ∧ ((T j).2.2.2 = false ∨ ((T j).2.2.2 = true ∧ (iY mi).name = "<init>" ∧ (T j).1 = (iY mi).cls))) ∨ (Cond.fieldLinkNest (iY mi).cls n (T j).1 (T j).2.1 (T j).2.2.1 "PaymentSwitch" ∈ lw_tbl ∧ (T j).2.2.2 = false)) (h : w_PF ci j kd K pc L st M kc ks) : Go G mi Q X pc L st M kc ks := by
  unfold w_PF at h
  split at h
  · rename_i v w r
    split at h
    · rename_i a hv
      have hv := vo_eq hv
      subst hv
      obtain ⟨hh, h⟩ := h
      obtain ⟨M', hk9, f1, f2, f3, f4, f5, f6⟩ := fput_spec (G := G) hk h
      intro p e s m args below meth c H locs ls a1 a2 a3 a4 a5 a6 a7 a8 a9 a10
      have hat := wl_at (G := G) hh
      have hlen : j < ((List.range (clN ci)).map (fun j => fvl G M (clTy ci j) a j)).length := by
        rw [List.length_map, List.length_range, hc.n]; exact hj
      have hrow : cE G M' a (.inr ci) = .inr (ci, ((List.range (clN ci)).map (fun j => fvl G M (clTy ci j) a j)).set j (gv G v)) := by
        show Sum.inr (ci, (List.range (clN ci)).map (fun i => fvl G M' (clTy ci i) a i)) = _
        rw [cE_row (G := G) (M := M) (M' := M') (a := a) (j := j) (fun i _ hi => f4 i hi _), f3]
      obtain ⟨cell, cf, kf, fi, f, kC, c1, c2, c3, c4, c5, c6, c7, c8, c9⟩ := vz_row hc (tbs_at a2 args) a3 a6.1 ((wl_D G M).weaken (fun _ _ _ _ => trivial)) hat hj hlen (gv G v)
      have fin : ∀ (H1 : Heap) (k : Nat), H1[eB G + a]? = some (cell.setSlot f.slot (gv G v)) → H1.size = H.size → (∀ q, q ≠ eB G + a → H1[q]? = H[q]?) → W p (eL G) e (iR mi) s m args below meth c H1 (locs ++ [⟨eB G + a, k⟩]) kc ks (vx_MQ below (Qr G Q) (Xr G X) args s (iR mi).cells (iR mi).slots (aFr G)) (F0 m (pc + 3) ls (r.map (gv G))) := fun H1 k q1 q3 q4 =>
        hK _ _ _ _ _ _ hk9 p e s m args below meth c H1 _ ls a1 a2 a3 a4 a5 (a6.set hh f5 f6 (by rw [hrow]; exact c9 H1 q1 q4) q3) (a7.put q3 q4 (Nat.le_add_right _ _)) a8 a9 a10
      show W p (eL G) e (iR mi) s m args below meth c H locs kc ks _ (F0 m pc ls (gv G v :: .ref (eB G + a) :: r.map (gv G)))
      have hlay := tbs_at a2 args _ (hc.ws _ (u_in_lay hj))
      unfold u_lay at hlay
      have hst := (u_facts c6 c7 (u_lays (tbs_at a2 args) hc.ws hj) c5).1
      rcases hw with ⟨hw, hs, hf | ⟨hf, hn, ho⟩⟩ | ⟨hw, hf⟩
      · rw [if_neg (by rw [hf]; decide)] at hlay
        have h6 := u_store c6 c7 c8 hlay c5 (hc.2.2.1 j hj) f1 f2
        exact W.putK a1.1 a1.2.1 (f := f) ⟨a1.2.2.2.2.1, a2 _ hw hs _, ⟨_, _, _, c5⟩, hst⟩ (by rw [c2]; exact h6) c1 c3 c4 rfl rfl hd fun H' e1 e2 e3 => fin H' _ e1 e2 e3
      · rw [if_pos hf] at hlay
        have hcf : m.cls = cf := by
          obtain ⟨_, _, c', _, _, _, -, -, hf', -, -, -, hown2, -⟩ := Cond.laysFinal_spec hlay
          have e1 : c' = cf := by have := c5.symm.trans hf'; simp at this; exact this.1.symm
          rw [ho] at hown2
          rw [← e1]; exact Option.some.inj (a1.2.2.2.2.1.symm.trans hown2)
        have h6 := u_fits c6 c7 c8 (Or.inr hlay) c5 (hc.2.2.1 j hj) f1 f2
        exact W.putFinK a1.1 a1.2.1 a1.2.2.2.2.1 (a2 _ hw hs _) c5 hst hcf (a1.2.2.2.2.2.2.1.trans hn) (by rw [c2]; exact h6) c1 c3 c4 rfl rfl hd fun H' e1 e2 e3 => fin H' _ e1 e2 e3
      · rw [if_neg (by rw [hf]; decide)] at hlay
        have h6 := u_store c6 c7 c8 hlay c5 (hc.2.2.1 j hj) f1 f2
        exact va_WputK a1.1 a1.2.1 (f := f) a1.2.2.2.2.1 (a2 _ hw rfl _) c5 hst (by rw [c2]; exact h6) c1 c3 c4 rfl rfl hd fun H' e1 e2 e3 => fin H' _ e1 e2 e3
    · exact h.elim
  · exact h.elim
def w_GS (i : Nat) (K : Kt) (pc : Nat) (L : List (Option Value)) (st : List Value) (M : Mem) (kc ks : Nat) : Prop := K (pc + 3) L (.retAddr i :: st) M kc ks
theorem s_getstatic {n i : Nat} (hK : Kok G mi Q X K) (hd : decode (iC mi) pc = .ok (.getstatic n, 3)) (hi : i < 4) (hw : (Cond.fieldLink (iY mi).cls n "PaymentSwitch" (stN i) "[I" ∈ lw_tbl ∧ stw (Cond.fieldLink (iY mi).cls n "PaymentSwitch" (stN i) "[I") = true) ∨ Cond.fieldLinkNest (iY mi).cls n "PaymentSwitch" (stN i) "[I" "PaymentSwitch" ∈ lw_tbl) (h : w_GS i K pc L st M kc ks) : Go G mi Q X pc L st M kc ks := by
  intro p e s m args below meth c H locs ls a1 a2 a3 a4 a5 a6 a7 a8 a9 a10
  have hk9 := hK _ _ _ _ _ _ h p e s m args below meth c H locs ls a1 a2 a3 a4 a5 a6 a7 a8 a9 a10
  have e1 : gv G (.retAddr i) = .ref (eS G i) := by show Value.ref (if i < 4 then eS G i else eA G) = _; rw [if_pos hi]
  have hk9 : W p (eL G) e (iR mi) s m args below meth c H locs kc ks _ (F0 m (pc + 3) ls (gv G (.retAddr i) :: st.map (gv G))) := hk9
  rw [e1] at hk9
  rcases hw with ⟨hw, hs⟩ | hw
  · exact va_gets a1.1 a1.2.1 (a4.1 i hi).1 a7 a1.2.2.2.2.1 (a2 _ hw hs _) (fun _ q => q) hd hk9
  · exact va_getsN a1.1 a1.2.1 (a4.1 i hi).1 a7 a1.2.2.2.2.1 (a2 _ hw rfl _) (fun _ q => q) hd hk9
end HEAP2
