/-! RULES OF CALLS -/
theorem Wd.blind {G : En} {M : Mem} {av : List Value} : FrameBlind (va_Pc av (fun U => Wd G M U)) := by
  intro a U g mk q
  obtain ⟨q0, q1, q2, q3, q4⟩ := q
  have hW : U.WarmedH (U.calling g mk a).vm := State.WarmedH.refl U
  exact ⟨q0, q1.go hW, va_K.moved (u := U) (U := U.calling g mk a) (Vm.Alike.refl U.vm) q2, q3.go (U := U.calling g mk a) (Vm.Alike.refl U.vm) (fun _ _ _ => rfl), q4⟩
/-- what the tables must say for a call of ci by mi, at the entry idx, with n values -/
def callOk (mi ci : Mi) (n : Nat) : Prop := (iR ci).frames + 1 ≤ (iR mi).frames ∧ 8 + (iL ci + 11) + (iR ci).locals ≤ (iR mi).locals ∧ (∀ w ∈ wsM ci, w ∈ lw_tbl ∧ stw w = true) ∧ (Cond.initialized (iY ci).cls ∈ lw_tbl ∧ stw (Cond.initialized (iY ci).cls) = true) ∧ ((iY ci).cls ≠ "java/lang/invoke/MethodHandle" ∧ (iY ci).cls ≠ "java/lang/invoke/VarHandle") ∧ (parseMethodDescriptor (iY ci).desc).map (fun d => d.parameters.length) = some n
theorem callOk.par {mi ci : Mi} {n : Nat} (h : callOk mi ci n) : ∀ sig, parseMethodDescriptor (iY ci).desc = some sig → n = sig.parameters.length := by
  intro sig hs
  have := h.2.2.2.2.2
  rw [hs] at this
  exact (Option.some.inj this).symm
theorem callOk.B {mi ci : Mi} {n idx : Nat} {s : State} {args : Array Value} (h : callOk mi ci n) (hh : iH ci = []) (ht : Tb s) (hw : Cond.methodLink (iY mi).cls idx (iY ci) ∈ lw_tbl ∧ stw (Cond.methodLink (iY mi).cls idx (iY ci)) = true) : CallB (iR mi) s args (iY mi).cls idx (iY ci) (iC ci) (iL ci) (iT ci) (wsM ci) (iR ci) (iR ci).cells (iR ci).slots n := by
  have hc : Cond.code (iY ci) (iC ci) (iL ci) (iT ci) ∈ wsM ci := by unfold wsM; rw [hh]; exact List.mem_cons_self
  have hc2 := h.2.2.1 _ hc
  exact ⟨rfl, rfl, h.1, h.2.1, fun w hw a' U hW => stw_at (h.2.2.1 w hw).2 hW (ht w (h.2.2.1 w hw).1 (h.2.2.1 w hw).2 #[]), hc, ht _ hc2.1 hc2.2 _, ht _ h.2.2.2.1.1 h.2.2.2.1.2 _, h.2.2.2.2.1, h.par, ht _ hw.1 hw.2 _⟩
/-- how the caller goes on with the answer -/
def w_cont (rk : Nat) (v : Option Value) (r : List Value) (k : List Value → Prop) : Prop := match rk with
  | 0 => v = none ∧ k r
  | 1 => ∃ x, v = some (.int x) ∧ k (.int x :: r)
  | 2 => ∃ x, v = some (.long x) ∧ k (.long x :: r)
  | _ => ∃ x, v = some (rv x) ∧ k (rv x :: r)
theorem w_cont_at {rk : Nat} {v : Option Value} {r : List Value} {k : List Value → Prop} (h : w_cont rk v r k) : k (v.toList ++ r) := by
  unfold w_cont at h
  split at h
  · obtain ⟨rfl, h⟩ := h; exact h
  · obtain ⟨x, rfl, h⟩ := h; exact h
  · obtain ⟨x, rfl, h⟩ := h; exact h
  · obtain ⟨x, rfl, h⟩ := h; exact h
section CALLS
variable {G : En} {mi ci : Mi} {Q : Option Value → Mem → Prop} {X : String → Mem → Prop} {K : Kt} {pc : Nat} {L : List (Option Value)} {st : List Value} {M : Mem} {kc ks : Nat}
/-- behind a call that was run: with the answer, or (thrown, and no handlers here) out -/
theorem go_run {p : Program} {e : Env} {s : State} {m : MethodId} {args a : Array Value} {below : List Frame} {meth : Method} {c : Code} {H : Heap} {locs : List Loc} {ls : Array Slot} {st0 r : List Value} {mc ms rk : Nat} {Qc : Option Value → Mem → Prop} {Xc : String → Mem → Prop} (a1 : Fr mi p s m meth c) (a2 : Tb s) (a3 : va_K (eD G) vwCl (tyL G) s) (a4 : St G s s.heap) (a5 : Lv G mi ls L) (a7 : va_S (aFr G) s.heap H locs) (a10 : eB G ≤ s.heap.size) (h1 : kc + mc ≤ (iR mi).cells) (h2 : ks + ms ≤ (iR mi).slots)
    (hr : vx_Run p (eL G) e (iR mi) s m args below meth c H locs kc ks mc ms (F0 m pc ls st0) (r.map (gv G)) (Qr G Qc a) (Xr G Xc) (aFr G)) (hK : Kok G mi Q X K) (hq : ∀ v M', Qc v M' → w_cont rk v r (fun st' => K (pc + 3) L st' M' (kc + mc) (ks + ms))) (hx : (∀ E M', ¬ Xc E M') ∨ (iH mi = [] ∧ ∀ E M', Xc E M' → X E M')) :
    W p (eL G) e (iR mi) s m args below meth c H locs kc ks (vx_MQ below (Qr G Q) (Xr G X) args s (iR mi).cells (iR mi).slots (aFr G)) (F0 m pc ls st0) := by
  intro T hT Y
  rcases hr T hT Y with ⟨v, st₀, t, T', L', h0, X', hL, e1, e2, ⟨⟨v', M', hv, hp, hb⟩, hF⟩, st⟩ | ⟨q, st₀, t, T', L', E, ce, h0, X', hL, e1, e2, ⟨⟨M', hp, hb⟩, hF⟩, hce, hcv, hcl, st⟩
  · cases hv
    obtain ⟨k1, k2, k3⟩ := vx_keep h0 e1 a7 (fun _ _ q => q) (fun _ q => q) hL hF
    have hk := hK _ _ _ _ _ _ (w_cont_at (hq v' M' hp)) p e s m args below meth c T'.heap (locs ++ L') ls a1 a2 a3 a4 a5 (by rw [e1]; exact hb) k3 h1 h2 a10
    have hm : ((v'.toList ++ r).map (gv G)) = (v'.map (gv G)).toList ++ r.map (gv G) := by cases v' <;> simp
    rw [hm] at hk
    obtain ⟨t2, b1, b2⟩ := hk T' rfl X'
    exact ⟨t2, st t2 b1, b2⟩
  · rcases hx with hx | ⟨hh, hx⟩
    · exact (hx E M' hp).elim
    · obtain ⟨k1, k2, k3⟩ := vx_keep h0 e1 a7 (fun _ _ q => q) (fun _ q => q) hL hF
      have ht : c.exceptionTable.toList = [] := by rw [a1.2.2.2.2.2.2.2, hh]; rfl
      have hk : vx_W p (eL G) e (iR mi) s m args below meth c T'.heap (locs ++ L') (kc + mc) (ks + ms) (vx_MQ below (Qr G Q) (Xr G X) args s (iR mi).cells (iR mi).slots (aFr G)) (F0 m pc ls (r.map (gv G))) q :=
        vx_out (fun x hx => by rw [ht] at hx; cases hx) a1.2.2.2.2.2.1 (E := E) (ce := ce) (by rw [e1]; exact hce) hcv hcl (fun t9 ht9 _ => ⟨⟨M', hx E M' hp, by rw [ht9, e1]; exact hb⟩, k3.F ht9⟩) k3.2.2 h1 h2
      obtain ⟨t2, b1, b2⟩ := hk T' rfl X'
      exact ⟨t2, st.trans b1, b2⟩
/-- the callee's start -/
theorem Wd.pre {G : En} {M : Mem} {av : List Value} {s : State} {H : Heap} {locs : List Loc} (a2 : Tb s) (a3 : va_K (eD G) vwCl (tyL G) s) (a4 : St G s s.heap) (a6 : Pw G M H) (a7 : va_S (aFr G) s.heap H locs) : ∀ U : State, U.heap = H → s.WarmedH U.vm → va_Pc av (fun U => Wd G M U) av.toArray U := fun U hU hW => by
  refine ⟨rfl, a2.go hW, va_K.moved hW.alike a3, a4.go hW.alike (fun q h1 h2 => by rw [hU]; exact a7.2.1 q h1 h2), by rw [hU]; exact a6⟩
/-- a call on an object: k the callee, n values, rk the answer's kind, c9 the receiver's class -/
def w_CV (G : En) (ci : Mi) (n rk c9 mc ms rc rs : Nat) (X : String → Mem → Prop) (K : Kt) (pc : Nat) (L : List (Option Value)) (st : List Value) (M : Mem) (kc ks : Nat) : Prop := match st.drop n with
  | v :: r => (match vo v with
    | some (some a) => (hasK M a (.inr c9) ∧ cats r ≤ 8 ∧ kc + mc ≤ rc ∧ ks + ms ≤ rs ∧ Ct G ci (.ref a :: (st.take n).reverse) M (fun v' M' => w_cont rk v' r (fun st' => K (pc + 3) L st' M' (kc + mc) (ks + ms))) X)
    | _ => False)
  | _ => False
theorem s_virtual {idx n rk c9 mc ms rc rs : Nat} {q : vw_C} (hK : Kok G mi Q X K) (hd : decode (iC mi) pc = .ok (.invokevirtual idx, 3)) (ho : callOk mi ci n) (hw : Cond.methodLink (iY mi).cls idx (iY ci) ∈ lw_tbl ∧ stw (Cond.methodLink (iY mi).cls idx (iY ci)) = true) (hi : Cond.instanceMethod (iY ci) ∈ lw_tbl ∧ stw (Cond.instanceMethod (iY ci)) = true) (hs : Cond.selects q.1 (iY ci) (iY ci) ∈ lw_tbl ∧ stw (Cond.selects q.1 (iY ci) (iY ci)) = true) (hq : vwCl[c9]? = some q) (hh : iH ci = [] ∧ iH mi = []) (hm : mc = (iR ci).cells ∧ ms = (iR ci).slots) (hr : rc = (iR mi).cells ∧ rs = (iR mi).slots) (h : w_CV G ci n rk c9 mc ms rc rs X K pc L st M kc ks) : Go G mi Q X pc L st M kc ks := by
  obtain ⟨rfl, rfl⟩ := hm
  obtain ⟨rfl, rfl⟩ := hr
  unfold w_CV at h
  split at h
  · rename_i v r hst
    split at h
    · rename_i a hv
      have hv := vo_eq hv
      subst hv
      obtain ⟨h1, h2, h3, h4, h5⟩ := h
      intro p e s m args below meth c H locs ls a1 a2 a3 a4 a5 a6 a7 a8 a9 a10
      have hlen : (st.take n).length = n := by
        have : (st.drop n).length = r.length + 1 := by rw [hst]; rfl
        rw [List.length_drop] at this
        rw [List.length_take]; omega
      have hsp : st.map (gv G) = ((st.take n).reverse.map (gv G)).reverse ++ .ref (eB G + a) :: r.map (gv G) := by
        rw [← List.map_reverse, List.reverse_reverse]
        conv => lhs; rw [← List.take_append_drop n st, hst, List.map_append]
        rfl
      have hrun := vx_runV (p := p) (l := eL G) (e := e) (R := iR mi) (s := s) (m := m) (args := args) (below := below) (meth := meth) (c := c) (H := H) (locs := locs) (cells := kc) (slots := ks) (g := F0 m pc ls (st.map (gv G))) (rest := r.map (gv G)) (As := (st.take n).reverse.map (gv G)) (b := eB G + a) ⟨a1.1, a1.2.1, a1.2.2.2.1, a1.2.2.2.2.1, tbs_at a2 args⟩ h5 ⟨ho.B hh.1 a2 hw, a2 _ hi.1 hi.2 _, a2 _ hs.1 hs.2 _⟩ ⟨Wd.blind, va_recv a3 a6.1 hq (wl_at (G := G) h1), Wd.pre a2 a3 a4 a6 a7⟩ rfl (by rw [List.length_map, List.length_reverse]; exact hlen) a5.1.1 hsp (by rw [cats_gv]; show 2 * 0 + cats r ≤ 8; omega) hd ⟨h3, h4⟩
      exact go_run a1 a2 a3 a4 a5 a7 a10 h3 h4 hrun hK (fun _ _ z => z) (Or.inr ⟨hh.2, fun _ _ z => z⟩)
    · exact h.elim
  · exact h.elim
/-- a static call -/
def w_CS (G : En) (ci : Mi) (n rk mc ms rc rs : Nat) (X : String → Mem → Prop) (K : Kt) (pc : Nat) (L : List (Option Value)) (st : List Value) (M : Mem) (kc ks : Nat) : Prop :=
  n ≤ st.length ∧ cats (st.drop n) ≤ 8 ∧ kc + mc ≤ rc ∧ ks + ms ≤ rs ∧ Ct G ci (st.take n).reverse M (fun v' M' => w_cont rk v' (st.drop n) (fun st' => K (pc + 3) L st' M' (kc + mc) (ks + ms))) X
theorem st_split {G : En} {n : Nat} {st : List Value} : st.map (gv G) = ((st.take n).reverse.map (gv G)).reverse ++ (st.drop n).map (gv G) := by
  rw [← List.map_reverse, List.reverse_reverse, ← List.map_append, List.take_append_drop]
theorem s_static {idx n rk mc ms rc rs : Nat} (hK : Kok G mi Q X K) (hd : decode (iC mi) pc = .ok (.invokestatic idx, 3)) (ho : callOk mi ci n) (hw : Cond.methodLink (iY mi).cls idx (iY ci) ∈ lw_tbl ∧ stw (Cond.methodLink (iY mi).cls idx (iY ci)) = true) (hi : Cond.static (iY ci) ∈ lw_tbl ∧ stw (Cond.static (iY ci)) = true) (hh : iH ci = [] ∧ iH mi = []) (hm : mc = (iR ci).cells ∧ ms = (iR ci).slots) (hr : rc = (iR mi).cells ∧ rs = (iR mi).slots) (h : w_CS G ci n rk mc ms rc rs X K pc L st M kc ks) : Go G mi Q X pc L st M kc ks := by
  obtain ⟨rfl, rfl⟩ := hm
  obtain ⟨rfl, rfl⟩ := hr
  obtain ⟨h1, h2, h3, h4, h5⟩ := h
  intro p e s m args below meth c H locs ls a1 a2 a3 a4 a5 a6 a7 a8 a9 a10
  have hlen : (st.take n).length = n := by rw [List.length_take]; omega
  have hrun := vx_runS (p := p) (l := eL G) (e := e) (R := iR mi) (s := s) (m := m) (args := args) (below := below) (meth := meth) (c := c) (H := H) (locs := locs) (cells := kc) (slots := ks) (g := F0 m pc ls (st.map (gv G))) (rest := (st.drop n).map (gv G)) (As := (st.take n).reverse.map (gv G)) ⟨a1.1, a1.2.1, a1.2.2.2.1, a1.2.2.2.2.1, tbs_at a2 args⟩ h5 ⟨ho.B hh.1 a2 hw, a2 _ hi.1 hi.2 _⟩ ⟨Wd.blind, Wd.pre a2 a3 a4 a6 a7⟩ rfl (by rw [List.length_map, List.length_reverse]; exact hlen) a5.1.1 st_split (by rw [cats_gv]; show 2 * 0 + cats (st.drop n) ≤ 8; omega) hd ⟨h3, h4⟩
  exact go_run a1 a2 a3 a4 a5 a7 a10 h3 h4 hrun hK (fun _ _ z => z) (Or.inr ⟨hh.2, fun _ _ z => z⟩)
/-- a static call of a nest mate's private method, which doesn't throw -/
def w_CN9 (G : En) (ci : Mi) (n rk mc ms rc rs : Nat) (K : Kt) (pc : Nat) (L : List (Option Value)) (st : List Value) (M : Mem) (kc ks : Nat) : Prop :=
  n ≤ st.length ∧ cats (st.drop n) ≤ 8 ∧ kc + mc ≤ rc ∧ ks + ms ≤ rs ∧ Ct G ci (st.take n).reverse M (fun v' M' => w_cont rk v' (st.drop n) (fun st' => K (pc + 3) L st' M' (kc + mc) (ks + ms))) (fun _ _ => False)
theorem s_nest {idx n rk mc ms rc rs : Nat} (hK : Kok G mi Q X K) (hd : decode (iC mi) pc = .ok (.invokestatic idx, 3)) (ho : callOk mi ci n) (hw : Cond.methodLinkNest (iY mi).cls idx (iY ci) "PaymentSwitch" ∈ lw_tbl) (hi : Cond.static (iY ci) ∈ lw_tbl ∧ stw (Cond.static (iY ci)) = true) (hh : iH ci = []) (hm : mc = (iR ci).cells ∧ ms = (iR ci).slots) (hr : rc = (iR mi).cells ∧ rs = (iR mi).slots) (h : w_CN9 G ci n rk mc ms rc rs K pc L st M kc ks) : Go G mi Q X pc L st M kc ks := by
  obtain ⟨rfl, rfl⟩ := hm
  obtain ⟨rfl, rfl⟩ := hr
  obtain ⟨h1, h2, h3, h4, h5⟩ := h
  intro p e s m args below meth c H locs ls a1 a2 a3 a4 a5 a6 a7 a8 a9 a10
  have hlen : (st.take n).length = n := by rw [List.length_take]; omega
  have hc : Cond.code (iY ci) (iC ci) (iL ci) (iT ci) ∈ wsM ci := by unfold wsM; rw [hh]; exact List.mem_cons_self
  have hc2 := ho.2.2.1 _ hc
  have hrun := va_runSN (p := p) (l := eL G) (e := e) (R := iR mi) (s := s) (m := m) (args := args) (below := below) (meth := meth) (c := c) (H := H) (locs := locs) (cells := kc) (slots := ks) (g := F0 m pc ls (st.map (gv G))) (rest := (st.drop n).map (gv G)) (As := (st.take n).reverse.map (gv G)) ⟨a1.1, a1.2.1, a1.2.2.2.1, a1.2.2.2.2.1, tbs_at a2 args⟩ h5.met ⟨⟨⟨rfl, rfl, ho.1, ho.2.1, fun w hw a' U hW => stw_at (ho.2.2.1 w hw).2 hW (a2 w (ho.2.2.1 w hw).1 (ho.2.2.1 w hw).2 #[]), hc⟩, a2 _ hc2.1 hc2.2 _, a2 _ ho.2.2.2.1.1 ho.2.2.2.1.2 _, ho.2.2.2.2.1, ho.par, a2 _ hw rfl _⟩, a2 _ hi.1 hi.2 _, trivial⟩ ⟨Wd.blind, Wd.pre a2 a3 a4 a6 a7⟩ rfl (by rw [List.length_map, List.length_reverse]; exact hlen) a5.1.1 st_split (by rw [cats_gv]; show 2 * 0 + cats (st.drop n) ≤ 8; omega) hd ⟨h3, h4⟩
  exact go_run (Xc := fun _ _ => False) a1 a2 a3 a4 a5 a7 a10 h3 h4 (fun T hT Y => Or.inl (hrun T hT Y)) hK (fun _ _ z => z) (Or.inl fun _ _ z => z)
/-- a constructor, which doesn't throw -/
def w_CI9 (G : En) (ci : Mi) (n mc ms rc rs : Nat) (K : Kt) (pc : Nat) (L : List (Option Value)) (st : List Value) (M : Mem) (kc ks : Nat) : Prop := match st.drop n with
  | v :: r => (match vo v with
    | some (some a) => (cats r ≤ 8 ∧ kc + mc ≤ rc ∧ ks + ms ≤ rs ∧ Ct G ci (.ref a :: (st.take n).reverse) M (fun v' M' => w_cont 0 v' r (fun st' => K (pc + 3) L st' M' (kc + mc) (ks + ms))) (fun _ _ => False))
    | _ => False)
  | _ => False
theorem s_special {idx n mc ms rc rs : Nat} (hK : Kok G mi Q X K) (hd : decode (iC mi) pc = .ok (.invokespecial idx, 3)) (ho : callOk mi ci n) (hw : Cond.methodLink (iY mi).cls idx (iY ci) ∈ lw_tbl ∧ stw (Cond.methodLink (iY mi).cls idx (iY ci)) = true) (hi : Cond.instanceMethod (iY ci) ∈ lw_tbl ∧ stw (Cond.instanceMethod (iY ci)) = true) (hn : (iY ci).name = "<init>" ∧ iT ci = none) (hh : iH ci = []) (hm : mc = (iR ci).cells ∧ ms = (iR ci).slots) (hr : rc = (iR mi).cells ∧ rs = (iR mi).slots) (h : w_CI9 G ci n mc ms rc rs K pc L st M kc ks) : Go G mi Q X pc L st M kc ks := by
  obtain ⟨rfl, rfl⟩ := hm
  obtain ⟨rfl, rfl⟩ := hr
  unfold w_CI9 at h
  split at h
  · rename_i v r hst
    split at h
    · rename_i a hv
      have hv := vo_eq hv
      subst hv
      obtain ⟨h2, h3, h4, h5⟩ := h
      intro p e s m args below meth c H locs ls a1 a2 a3 a4 a5 a6 a7 a8 a9 a10
      have hlen : (st.take n).length = n := by
        have : (st.drop n).length = r.length + 1 := by rw [hst]; rfl
        rw [List.length_drop] at this
        rw [List.length_take]; omega
      have hsp : st.map (gv G) = ((st.take n).reverse.map (gv G)).reverse ++ .ref (eB G + a) :: r.map (gv G) := by
        rw [← List.map_reverse, List.reverse_reverse]
        conv => lhs; rw [← List.take_append_drop n st, hst, List.map_append]
        rfl
      have hB := ho.B (args := args) hh a2 hw
      rw [hn.2] at hB
      have hrun := va_runI (p := p) (l := eL G) (e := e) (R := iR mi) (s := s) (m := m) (args := args) (below := below) (meth := meth) (c := c) (H := H) (locs := locs) (cells := kc) (slots := ks) (g := F0 m pc ls (st.map (gv G))) (rest := r.map (gv G)) (As := (st.take n).reverse.map (gv G)) (b := eB G + a) ⟨a1.1, a1.2.1, a1.2.2.2.1, a1.2.2.2.2.1, tbs_at a2 args⟩ h5.met ⟨hB, hn.1, a2 _ hi.1 hi.2 _⟩ ⟨Wd.blind, Wd.pre a2 a3 a4 a6 a7⟩ rfl (by rw [List.length_map, List.length_reverse]; exact hlen) a5.1.1 hsp (by rw [cats_gv]; show 2 * 0 + cats r ≤ 8; omega) hd ⟨h3, h4⟩
      exact go_run (Xc := fun _ _ => False) (rk := 0) a1 a2 a3 a4 a5 a7 a10 h3 h4 (fun T hT Y => Or.inl (hrun T hT Y)) hK (fun _ _ z => z) (Or.inl fun _ _ z => z)
    · exact h.elim
  · exact h.elim
theorem s_specialN {idx n mc ms rc rs : Nat} (hK : Kok G mi Q X K) (hd : decode (iC mi) pc = .ok (.invokespecial idx, 3)) (ho : callOk mi ci n) (hw : Cond.methodLinkNest (iY mi).cls idx (iY ci) "PaymentSwitch" ∈ lw_tbl) (hi : Cond.instanceMethod (iY ci) ∈ lw_tbl ∧ stw (Cond.instanceMethod (iY ci)) = true) (hn : (iY ci).name = "<init>" ∧ iT ci = none) (hh : iH ci = []) (hm : mc = (iR ci).cells ∧ ms = (iR ci).slots) (hr : rc = (iR mi).cells ∧ rs = (iR mi).slots) (h : w_CI9 G ci n mc ms rc rs K pc L st M kc ks) : Go G mi Q X pc L st M kc ks := by
  obtain ⟨rfl, rfl⟩ := hm
  obtain ⟨rfl, rfl⟩ := hr
  unfold w_CI9 at h
  split at h
  · rename_i v r hst
    split at h
    · rename_i a hv
      have hv := vo_eq hv
      subst hv
      obtain ⟨h2, h3, h4, h5⟩ := h
      intro p e s m args below meth c H locs ls a1 a2 a3 a4 a5 a6 a7 a8 a9 a10
      have hlen : (st.take n).length = n := by
        have : (st.drop n).length = r.length + 1 := by rw [hst]; rfl
        rw [List.length_drop] at this
        rw [List.length_take]; omega
      have hsp : st.map (gv G) = ((st.take n).reverse.map (gv G)).reverse ++ .ref (eB G + a) :: r.map (gv G) := by
        rw [← List.map_reverse, List.reverse_reverse]
        conv => lhs; rw [← List.take_append_drop n st, hst, List.map_append]
        rfl
      have hc : Cond.code (iY ci) (iC ci) (iL ci) (iT ci) ∈ wsM ci := by unfold wsM; rw [hh]; exact List.mem_cons_self
      have hc2 := ho.2.2.1 _ hc
      have hB : va_CN (iR mi) s args (iY mi).cls idx (iY ci) "PaymentSwitch" (iC ci) (iL ci) (iT ci) (wsM ci) (iR ci) (iR ci).cells (iR ci).slots n := ⟨⟨rfl, rfl, ho.1, ho.2.1, fun w hw a' U hW => stw_at (ho.2.2.1 w hw).2 hW (a2 w (ho.2.2.1 w hw).1 (ho.2.2.1 w hw).2 #[]), hc⟩, a2 _ hc2.1 hc2.2 _, a2 _ ho.2.2.2.1.1 ho.2.2.2.1.2 _, ho.2.2.2.2.1, ho.par, a2 _ hw rfl _⟩
      rw [hn.2] at hB
      have hrun := va_runIN (p := p) (l := eL G) (e := e) (R := iR mi) (s := s) (m := m) (args := args) (below := below) (meth := meth) (c := c) (H := H) (locs := locs) (cells := kc) (slots := ks) (g := F0 m pc ls (st.map (gv G))) (rest := r.map (gv G)) (As := (st.take n).reverse.map (gv G)) (b := eB G + a) ⟨a1.1, a1.2.1, a1.2.2.2.1, a1.2.2.2.2.1, tbs_at a2 args⟩ h5.met ⟨hB, hn.1, a2 _ hi.1 hi.2 _⟩ ⟨Wd.blind, Wd.pre a2 a3 a4 a6 a7⟩ rfl (by rw [List.length_map, List.length_reverse]; exact hlen) a5.1.1 hsp (by rw [cats_gv]; show 2 * 0 + cats r ≤ 8; omega) hd ⟨h3, h4⟩
      exact go_run (Xc := fun _ _ => False) (rk := 0) a1 a2 a3 a4 a5 a7 a10 h3 h4 (fun T hT Y => Or.inl (hrun T hT Y)) hK (fun _ _ z => z) (Or.inl fun _ _ z => z)
    · exact h.elim
  · exact h.elim
/-- Math.max, Math.min -/
def w_MX (mx : Bool) (K : Kt) (pc : Nat) (L : List (Option Value)) (st : List Value) (M : Mem) (kc ks : Nat) : Prop := match st with
  | .int y :: .int x :: r => (cats r ≤ 8 ∧ K (pc + 3) L (.int (bif mx then (if x < y then y else x) else (if y < x then y else x)) :: r) M kc ks)
  | _ => False
theorem s_max {idx : Nat} (hK : Kok G mi Q X K) (hd : decode (iC mi) pc = .ok (.invokestatic idx, 3)) (hw : ∀ w ∈ ([Cond.methodLink (iY mi).cls idx Lib.Math.max.name, Cond.static Lib.Math.max.name, Cond.initialized "java/lang/Math", Cond.code Lib.Math.max.name Lib.Math.max.code 2 (some .int)] : List Cond), w ∈ lw_tbl ∧ stw w = true) (hR : 1 ≤ (iR mi).frames ∧ 21 ≤ (iR mi).locals) (h : w_MX true K pc L st M kc ks) : Go G mi Q X pc L st M kc ks := by
  unfold w_MX at h
  split at h
  · rename_i y x r
    intro p e s m args below meth c H locs ls a1 a2 a3 a4 a5 a6 a7 a8 a9 a10
    have hq := fun w hw' => a2 w (hw w hw').1 (hw w hw').2 args
    exact va_mmax a1.1 a1.2.1 (a1.2.2.2.1.trans a5.1.1.symm) a1.2.2.2.2.1 (hq _ (by simp)) (hq _ (by simp)) (hq _ (by simp)) (hq _ (by simp)) hR.1 (by rw [cats_gv]; have := h.1; have := hR.2; omega) a8 a9 hd (hK _ _ _ _ _ _ h.2 p e s m args below meth c H locs ls a1 a2 a3 a4 a5 a6 a7 a8 a9 a10)
  · exact h.elim
theorem s_min {idx : Nat} (hK : Kok G mi Q X K) (hd : decode (iC mi) pc = .ok (.invokestatic idx, 3)) (hw : ∀ w ∈ ([Cond.methodLink (iY mi).cls idx Lib.Math.min.name, Cond.static Lib.Math.min.name, Cond.initialized "java/lang/Math", Cond.code Lib.Math.min.name Lib.Math.min.code 2 (some .int)] : List Cond), w ∈ lw_tbl ∧ stw w = true) (hR : 1 ≤ (iR mi).frames ∧ 21 ≤ (iR mi).locals) (h : w_MX false K pc L st M kc ks) : Go G mi Q X pc L st M kc ks := by
  unfold w_MX at h
  split at h
  · rename_i y x r
    intro p e s m args below meth c H locs ls a1 a2 a3 a4 a5 a6 a7 a8 a9 a10
    have hq := fun w hw' => a2 w (hw w hw').1 (hw w hw').2 args
    exact va_mmin a1.1 a1.2.1 (a1.2.2.2.1.trans a5.1.1.symm) a1.2.2.2.2.1 (hq _ (by simp)) (hq _ (by simp)) (hq _ (by simp)) (hq _ (by simp)) hR.1 (by rw [cats_gv]; have := h.1; have := hR.2; omega) a8 a9 hd (hK _ _ _ _ _ _ h.2 p e s m args below meth c H locs ls a1 a2 a3 a4 a5 a6 a7 a8 a9 a10)
  · exact h.elim
end CALLS
