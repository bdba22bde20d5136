/-! CALLS WHOSE THROWS ARE CAUGHT -/
/-- a local that is known no more -/
def sto0 : List (Option Value) → Nat → List (Option Value)
  | [], _ => []
  | _ :: r, 0 => none :: r
  | a :: r, 1 => (bif wideV a then none else a) :: sto0 r 0
  | a :: r, n + 2 => a :: sto0 r (n + 1)
theorem sto0_spec : ∀ (L : List (Option Value)) (i j : Nat) (w : Value), (sto0 L i)[j]? = some (some w) → j ≠ i ∧ L[j]? = some (some w) ∧ ¬ (j + 1 = i ∧ w.category = 2)
  | [], i, j, w, h => by simp [sto0] at h
  | a :: r, 0, 0, w, h => by simp [sto0] at h
  | a :: r, 0, j + 1, w, h => by simp [sto0] at h; exact ⟨by omega, by simpa using h, by omega⟩
  | a :: r, 1, 0, w, h => by
    simp only [sto0, List.getElem?_cons_zero, Option.some.injEq] at h
    cases hw : wideV a
    · rw [hw] at h
      simp only [cond_false] at h
      subst h
      exact ⟨by omega, rfl, fun q => by rw [wideV_cat hw] at q; omega⟩
    · rw [hw] at h
      simp at h
  | a :: r, 1, j + 1, w, h => by
    simp only [sto0, List.getElem?_cons_succ] at h
    obtain ⟨h1, h2, h3⟩ := sto0_spec r 0 j w h
    exact ⟨by omega, by simpa using h2, by omega⟩
  | a :: r, n + 2, 0, w, h => by
    simp only [sto0, List.getElem?_cons_zero, Option.some.injEq] at h
    subst h
    exact ⟨by omega, rfl, by omega⟩
  | a :: r, n + 2, j + 1, w, h => by
    simp only [sto0, List.getElem?_cons_succ] at h
    obtain ⟨h1, h2, h3⟩ := sto0_spec r (n + 1) j w h
    exact ⟨by omega, by simpa using h2, fun q => h3 ⟨by omega, q.2⟩⟩
theorem Lv.sto0 {G : En} {mi : Mi} {ls : Array Slot} {L : List (Option Value)} (h : Lv G mi ls L) {i : Nat} {v : Value} (hi : i < iL mi) (hc : v.category = 1) : ∃ ls', storeLocals ls i v = some ls' ∧ Lv G mi ls' (sto0 L i) := by
  obtain ⟨ls', e1, h1⟩ := lv_store1 h.1 hi hc
  refine ⟨ls', e1, ⟨⟨h1.1, h1.2.1, fun q hq => nomatch hq⟩, fun j w hw => ?_⟩⟩
  obtain ⟨n1, n2, n3⟩ := sto0_spec L i j w hw
  obtain ⟨ls2, e2, h2⟩ := lv_store1 (l := [(j, gv G w)]) (i := i) (v := v) ⟨h.1.1, h.1.2.1, fun q hq => by simp at hq; subst hq; exact h.2 j w n2⟩ hi hc
  cases e1.symm.trans e2
  refine h2.2.2 (j, gv G w) (List.mem_cons_of_mem _ ?_)
  simp only [List.mem_filter, List.mem_singleton, true_and, Bool.and_eq_true, Bool.not_eq_true', beq_eq_false_iff_ne, ne_eq, Bool.and_eq_false_iff, gv_cat]
  refine ⟨n1, ?_⟩
  by_cases q : j + 1 = i
  · exact Or.inr (fun z => n3 ⟨q, z⟩)
  · exact Or.inl q
def xIA : String := "java/lang/IllegalArgumentException"
def xIS : String := "java/lang/IllegalStateException"
/-- at pc the handler at h takes E; its first instruction keeps the thrown one in the local i; nx is behind that -/
def catchOk (mi : Mi) (pc : Nat) (E : String) (h i nx : Nat) : Prop := ∃ (pre : List (Nat × Nat × Nat × Nat)) (x : Nat × Nat × Nat × Nat) (suf : List (Nat × Nat × Nat × Nat)), iH mi = pre ++ x :: suf ∧ (∀ z ∈ pre, z.2.2.2 ≠ 0 ∧ (Cond.classLink (iY mi).cls z.2.2.2 xIA ∈ lw_tbl ∧ stw (Cond.classLink (iY mi).cls z.2.2.2 xIA) = true) ∧ E = xIS) ∧ (x.1 ≤ pc ∧ pc < x.2.1) ∧ x.2.2.1 = h ∧ x.2.2.2 ≠ 0 ∧ (Cond.classLink (iY mi).cls x.2.2.2 E ∈ lw_tbl ∧ stw (Cond.classLink (iY mi).cls x.2.2.2 E) = true) ∧ Cond.castable E E ∈ lw_tbl ∧ i < iL mi ∧ ((∃ f : Fin 4, f.val = i ∧ decode (iC mi) h = .ok (.astore_n f, 1) ∧ nx = h + 1) ∨ (decode (iC mi) h = .ok (.astore i, 2) ∧ nx = h + 2))
section CATCH
variable {G : En} {mi ci : Mi} {Q : Option Value → Mem → Prop} {X : String → Mem → Prop} {pc : Nat} {L : List (Option Value)} {st : List Value} {M : Mem} {kc ks : Nat}
/-- a call on an object whose throws are caught here -/
def w_CX (G : En) (mi ci : Mi) (n rk c9 mc ms : Nat) (Q : Option Value → Mem → Prop) (X : String → Mem → Prop) (pc : Nat) (L : List (Option Value)) (st : List Value) (M : Mem) (kc ks : Nat) : Prop := match st.drop n with
  | v :: r => (match vo v with
    | some (some a) => (hasK M a (.inr c9) ∧ cats r ≤ 8 ∧ kc + mc ≤ (iR mi).cells ∧ ks + ms ≤ (iR mi).slots ∧ Ct G ci (.ref a :: (st.take n).reverse) M (fun v' M' => w_cont rk v' r (fun st' => Go G mi Q X (pc + 3) L st' M' (kc + mc) (ks + ms))) (fun E M' => ∃ h i nx, catchOk mi pc E h i nx ∧ Go G mi Q X nx (sto0 L i) [] M' (kc + mc) (ks + ms)))
    | _ => False)
  | _ => False
theorem s_catch {idx n rk c9 mc ms : Nat} {q : vw_C} (hd : decode (iC mi) pc = .ok (.invokevirtual idx, 3)) (ho : callOk mi ci n) (hw : Cond.methodLink (iY mi).cls idx (iY ci) ∈ lw_tbl ∧ stw (Cond.methodLink (iY mi).cls idx (iY ci)) = true) (hi : Cond.instanceMethod (iY ci) ∈ lw_tbl ∧ stw (Cond.instanceMethod (iY ci)) = true) (hs : Cond.selects q.1 (iY ci) (iY ci) ∈ lw_tbl ∧ stw (Cond.selects q.1 (iY ci) (iY ci)) = true) (hq : vwCl[c9]? = some q) (hh : iH ci = []) (hm : mc = (iR ci).cells ∧ ms = (iR ci).slots) (h : w_CX G mi ci n rk c9 mc ms Q X pc L st M kc ks) : Go G mi Q X pc L st M kc ks := by
  obtain ⟨rfl, rfl⟩ := hm
  unfold w_CX at h
  split at h
  · rename_i v r hst
    split at h
    · rename_i a hv
      have hv := vo_eq hv
      subst hv
      obtain ⟨h1, h2, h3, h4, h5⟩ := h
      intro p e s m args below meth c H locs ls a1 a2 a3 a4 a5 a6 a7 a8 a9 a10
      have hlen : (st.take n).length = n := by
        have : (st.drop n).length = r.length + 1 := by rw [hst]; rfl
        rw [List.length_drop] at this
        rw [List.length_take]; omega
      have hsp : st.map (gv G) = ((st.take n).reverse.map (gv G)).reverse ++ .ref (eB G + a) :: r.map (gv G) := by
        rw [← List.map_reverse, List.reverse_reverse]
        conv => lhs; rw [← List.take_append_drop n st, hst, List.map_append]
        rfl
      have hrun := vx_runV (p := p) (l := eL G) (e := e) (R := iR mi) (s := s) (m := m) (args := args) (below := below) (meth := meth) (c := c) (H := H) (locs := locs) (cells := kc) (slots := ks) (g := F0 m pc ls (st.map (gv G))) (rest := r.map (gv G)) (As := (st.take n).reverse.map (gv G)) (b := eB G + a) ⟨a1.1, a1.2.1, a1.2.2.2.1, a1.2.2.2.2.1, tbs_at a2 args⟩ h5 ⟨ho.B hh a2 hw, a2 _ hi.1 hi.2 _, a2 _ hs.1 hs.2 _⟩ ⟨Wd.blind, va_recv a3 a6.1 hq (wl_at (G := G) h1), Wd.pre a2 a3 a4 a6 a7⟩ rfl (by rw [List.length_map, List.length_reverse]; exact hlen) a5.1.1 hsp (by rw [cats_gv]; show 2 * 0 + cats r ≤ 8; omega) hd ⟨h3, h4⟩
      intro T hT Y
      rcases hrun T hT Y with ⟨v, st₀, t, T', L', h0, X', hL, e1, e2, ⟨⟨v', M', hv, hp, hb⟩, hF⟩, st9⟩ | ⟨q9, st₀, t, T', L', E, ce, h0, X', hL, e1, e2, ⟨⟨M', hp, hb⟩, hF⟩, hce, hcv, hcl, st9⟩
      · cases hv
        obtain ⟨k1, k2, k3⟩ := vx_keep h0 e1 a7 (fun _ _ q => q) (fun _ q => q) hL hF
        have hk := (w_cont_at hp) p e s m args below meth c T'.heap (locs ++ L') ls a1 a2 a3 a4 a5 (by rw [e1]; exact hb) k3 h3 h4 a10
        have hm : ((v'.toList ++ r).map (gv G)) = (v'.map (gv G)).toList ++ r.map (gv G) := by cases v' <;> simp
        rw [hm] at hk
        obtain ⟨t2, b1, b2⟩ := hk T' rfl X'
        exact ⟨t2, st9 t2 b1, b2⟩
      · obtain ⟨k1, k2, k3⟩ := vx_keep h0 e1 a7 (fun _ _ q => q) (fun _ q => q) hL hF
        obtain ⟨h, i, nx, ⟨pre, x, suf, x1, x2, x3, x4, x5, x6, x7, x8, x9⟩, hgo⟩ := hp
        have ht : c.exceptionTable.toList = tableOf pre ++ (⟨x.1, x.2.1, x.2.2.1, x.2.2.2⟩ : ExceptionTableEntry) :: tableOf suf := by
          rw [a1.2.2.2.2.2.2.2, x1]
          simp [tableOf]
        obtain ⟨ls', f1, f2⟩ := Lv.sto0 a5 (i := i) (v := .ref q9) x8 rfl
        have hk : vx_W p (eL G) e (iR mi) s m args below meth c T'.heap (locs ++ L') (kc + (iR ci).cells) (ks + (iR ci).slots) (vx_MQ below (Qr G Q) (Xr G X) args s (iR mi).cells (iR mi).slots (aFr G)) (F0 m pc ls (r.map (gv G))) q9 := by
          refine vx_catch (own := (iY mi).cls) (name := E) (E := E) (ce := ce) a1.2.2.2.2.1 (tableOf pre) ⟨x.1, x.2.1, x.2.2.1, x.2.2.2⟩ (tableOf suf) ht (fun z hz => ?_) ?_ x5 (a2 _ x6.1 x6.2 _) (a2 _ x7 rfl _) (by rw [e1]; exact hce) hcv hcl ?_
          · obtain ⟨z9, hz9, rfl⟩ := List.mem_map.mp hz
            obtain ⟨y1, y2, y3⟩ := x2 z9 hz9
            refine Or.inr ⟨y1, xIA, a2 _ y2.1 y2.2 _, ?_⟩
            rw [y3]
            exact a4.2.2.2.2.2.2
          · simp [covers, x3.1, x3.2]
          · show W p (eL G) e (iR mi) s m args below meth c T'.heap (locs ++ L') _ _ _ (F0 m x.2.2.1 ls [.ref q9])
            rw [x4]
            have hg := hgo p e s m args below meth c T'.heap (locs ++ L') ls' a1 a2 a3 a4 f2 (by rw [e1]; exact hb) k3 h3 h4 a10
            have hb9 := a1.2.1
            have hexec := a1.1
            intro U hU Z
            obtain ⟨t2, b1, b2⟩ := hg U hU Z
            refine ⟨t2, ?_, b2⟩
            rcases x9 with ⟨f, hf, hd9, rfl⟩ | ⟨hd9, rfl⟩
            · subst hf
              jvm_step Z.here [Z.here.top, ↓top_set Z.here.top, hexec, hb9, hd9, f1]
              exact ⟨rfl, b1⟩
            · jvm_step Z.here [Z.here.top, ↓top_set Z.here.top, hexec, hb9, hd9, f1]
              exact ⟨rfl, b1⟩
        obtain ⟨t2, b1, b2⟩ := hk T' rfl X'
        exact ⟨t2, st9.trans b1, b2⟩
    · exact h.elim
  · exact h.elim
end CATCH
