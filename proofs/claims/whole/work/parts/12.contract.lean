/-! CONTRACTS: Ct, its proof by Go from the entry; a throw -/
def wsM (mi : Mi) : List Cond := match iH mi with
  | [] => [.code (iY mi) (iC mi) (iL mi) (iT mi)]
  | q :: hh => [.codeWith (iY mi) (iC mi) (iL mi) (iT mi) (q :: hh)]
/-- the method mi, called with these values in the memory M: it ends with Q or (thrown) X -/
def Ct (G : En) (mi : Mi) (avs : List Value) (M : Mem) (Q : Option Value → Mem → Prop) (X : String → Mem → Prop) : Prop :=
  vx_Met (eL G) (iY mi) (wsM mi) (iR mi) (va_Pc (avs.map (gv G)) (fun U => Wd G M U)) (Qr G Q) (Xr G X) (iR mi).cells (iR mi).slots (aFr G)
theorem Ct.mono {G : En} {mi : Mi} {avs : List Value} {M : Mem} {Q Q' : Option Value → Mem → Prop} {X X' : String → Mem → Prop} (h : Ct G mi avs M Q X) (hQ : ∀ v M', Q v M' → Q' v M') (hX : ∀ E M', X E M' → X' E M') : Ct G mi avs M Q' X' := by
  refine MetFree.mono h (fun _ _ q => q) (fun _ _ _ _ _ _ => trivial) (fun a s o t _ q => ?_)
  rcases q with ⟨⟨⟨v, M', e1, e2, e3⟩, e4⟩, e5⟩ | ⟨q, e0, E, ce, L, ⟨⟨M', e1, e2⟩, e3⟩, e4⟩
  · exact Or.inl ⟨⟨⟨v, M', e1, hQ _ _ e2, e3⟩, e4⟩, e5⟩
  · exact Or.inr ⟨q, e0, E, ce, L, ⟨⟨M', hX _ _ e1, e2⟩, e3⟩, e4⟩
theorem Ct.met {G : En} {mi : Mi} {avs : List Value} {M : Mem} {Q : Option Value → Mem → Prop} (h : Ct G mi avs M Q (fun _ _ => False)) : Met (eL G) (iY mi) (wsM mi) (iR mi) (va_Pc (avs.map (gv G)) (fun U => Wd G M U)) (Qr G Q) (iR mi).cells (iR mi).slots (aFr G) := by
  refine MetFree.mono h (fun _ _ q => q) (fun _ _ _ _ _ _ => trivial) (fun a s o t _ q => ?_)
  rcases q with q | ⟨q, e0, E, ce, L, ⟨⟨M', e1, e2⟩, e3⟩, e4⟩
  · exact q
  · exact e1.elim
/-- the locals at a method's entry -/
def entL : List Value → List (Option Value)
  | [] => []
  | v :: r => bif wideV (some v) then some v :: none :: entL r else some v :: entL r
theorem wideV_iff (v : Value) : wideV (some v) = decide (v.category = 2) := by cases v <;> rfl
theorem entL_args (G : En) : ∀ (vs : List Value) (i j : Nat) (v : Value), (entL vs)[j]? = some (some v) → (i + j, gv G v) ∈ lv_args i (vs.map (gv G))
  | [], i, j, v, h => by simp [entL] at h
  | w :: r, i, j, v, h => by
    unfold entL at h
    cases hw : wideV (some w)
    · rw [hw] at h
      have hc : ¬ (gv G w).category = 2 := by rw [gv_cat]; rw [wideV_iff] at hw; simpa using hw
      simp only [cond_false] at h
      show _ ∈ (i, gv G w) :: lv_args (if (gv G w).category = 2 then i + 2 else i + 1) (r.map (gv G))
      rw [if_neg hc]
      cases j with
      | zero => simp at h; subst h; exact List.mem_cons_self
      | succ j =>
        have := entL_args G r (i + 1) j v (by simpa using h)
        rw [show i + (j + 1) = i + 1 + j by omega]
        exact List.mem_cons_of_mem _ this
    · rw [hw] at h
      have hc : (gv G w).category = 2 := by rw [gv_cat]; rw [wideV_iff] at hw; simpa using hw
      simp only [cond_true] at h
      show _ ∈ (i, gv G w) :: lv_args (if (gv G w).category = 2 then i + 2 else i + 1) (r.map (gv G))
      rw [if_pos hc]
      match j, h with
      | 0, h => simp at h; subst h; exact List.mem_cons_self
      | 1, h => simp at h
      | j + 2, h =>
        have := entL_args G r (i + 2) j v (by simpa using h)
        rw [show i + (j + 2) = i + 2 + j by omega]
        exact List.mem_cons_of_mem _ this
theorem entL_len (G : En) : ∀ vs : List Value, (lg_sl (vs.map (gv G))).length = (entL vs).length
  | [] => rfl
  | w :: r => by
    have ih := entL_len G r
    have e1 : lg_sl ((w :: r).map (gv G)) = (if (gv G w).category = 2 then [.val (gv G w), .second] else [.val (gv G w)]) ++ lg_sl (r.map (gv G)) := rfl
    rw [e1]
    unfold entL
    rw [wideV_iff, gv_cat]
    by_cases hc : w.category = 2
    · simp [hc, ih]
    · simp [hc, ih]
theorem Ct.of {G : En} {mi : Mi} {avs : List Value} {M : Mem} {Q : Option Value → Mem → Prop} {X : String → Mem → Prop} (hy : plainName (iY mi).cls = true) (hl : (entL avs).length ≤ iL mi) (h : Go G mi Q X 0 (entL avs ++ List.replicate (iL mi - (entL avs).length) none) [] M 0 0) : Ct G mi avs M Q X := by
  have hlv := lv_entry (avs.map (gv G)) (n := iL mi) (by rw [entL_len]; exact hl)
  have body : ∀ (p : Program) (e : Env) (s : State) (m : MethodId) (args : Array Value) (below : List Frame) (meth : Method) (c : Code) (s₁ : State), BodyLoose p (eL G) (iY mi) (headSpec (wsM mi) (iR mi)) (iC mi) (iL mi) (iT mi) e s m args below meth c s₁ → c.maxLocals = iL mi → c.exceptionTable.toList = tableOf (iH mi) → va_Pc (avs.map (gv G)) (fun U => Wd G M U) args s →
      W p (eL G) e (headSpec (wsM mi) (iR mi)).room s m args below meth c s.heap [] 0 0 (vx_MQ below (Qr G Q) (Xr G X) args s (iR mi).cells (iR mi).slots (aFr G)) (entryFrame m args (iL mi)) := by
    intro p e s m args below meth c s₁ B hml ht hv
    obtain ⟨rfl, h1, h2, h3, h4⟩ := hv
    rw [lg_entry_eq]
    refine h p e s m _ below meth c s.heap [] _ ⟨B.exec, B.bytes, B.returns, hml, findClass_of_methodNamed B.named, B.notSynchronized, (name_of_methodNamed B.named B.method).1, ht⟩ h1 h2 h3 ⟨⟨hlv.1, hlv.2.1, fun q hq => nomatch hq⟩, fun i v hi => ?_⟩ h4 va_S.rf (Nat.zero_le _) (Nat.zero_le _) h4.2.2
    by_cases hj : i < (entL avs).length
    · rw [List.getElem?_append_left hj] at hi
      have := entL_args G avs 0 i v hi
      rw [Nat.zero_add] at this
      exact hlv.2.2 _ this
    · rw [List.getElem?_append_right (by omega)] at hi
      have := List.mem_of_getElem? hi
      simp at this
  cases hh : iH mi with
  | nil =>
    refine vx_ofW (cc := iC mi) (maxL := iL mi) (ret := iT mi) (ws' := []) hy (by unfold wsM; rw [hh]) (fun p e s m args below meth c s₁ B hml ht hP => body p e s m args below meth c s₁ B hml ?_ hP)
    rw [hh]
    cases hc : c.exceptionTable.toList with
    | nil => rfl
    | cons x r => exact (ht x (by rw [hc]; exact List.mem_cons_self)).elim
  | cons q hq =>
    have hw : wsM mi = [.codeWith (iY mi) (iC mi) (iL mi) (iT mi) (q :: hq)] := by unfold wsM; rw [hh]
    refine vx_ofWH (cc := iC mi) (maxL := iL mi) (ret := iT mi) (hh := q :: hq) (ws' := []) hy hw (fun p e s m args below meth c s₁ B hml hP => body p e s m args below meth c s₁ B hml ?_ hP)
    rw [hh]
    exact vx_table (x := iY mi) B (atoms_spec (ws := wsM mi) B.pre _ (by rw [hw]; exact List.mem_cons_self))
section THROW
variable {G : En} {mi : Mi} {Q : Option Value → Mem → Prop} {X : String → Mem → Prop} {pc : Nat} {L : List (Option Value)} {st : List Value} {M : Mem} {kc ks : Nat}
theorem Pw.z {G : En} {M : Mem} {H H1 : Heap} (hP : Pw G M H) (h1 : H.size ≤ H1.size) (hk : ∀ q, q < H.size → H1[q]? = H[q]?) : Pw G (uZ M) H1 := by
  refine ⟨hP.1.kept (fun k q hq => hk _ ((hP.1 k q hq).lt)), ⟨fun q => ?_, Nat.le_trans hP.2.2 h1⟩⟩
  exact absurd (show false = true from q) (by decide)
def xNames : List String := ["java/lang/RuntimeException", "java/lang/Exception"]
def w_THR (E : String) (rc rs : Nat) (X : String → Mem → Prop) (st : List Value) (M : Mem) (kc ks : Nat) : Prop := cats st ≤ 0 ∧ kc + 1 ≤ rc ∧ ks + 6 ≤ rs ∧ X E (uZ M)
theorem s_throw {n ic rc rs : Nat} {E : String} (d0 : decode (iC mi) pc = .ok (.new n, 3)) (d3 : decode (iC mi) (pc + 3) = .ok (.dup, 1)) (d4 : decode (iC mi) (pc + 4) = .ok (.invokespecial ic, 3)) (d7 : decode (iC mi) (pc + 7) = .ok (.athrow, 1)) (hE : Bundle.fit E = true) (hh : iH mi = []) (hw : Cond.classLink (iY mi).cls n E ∈ lw_tbl ∧ stw (Cond.classLink (iY mi).cls n E) = true) (hi : Cond.initialized E ∈ lw_tbl ∧ stw (Cond.initialized E) = true) (hat : ∀ w ∈ vx_at0 (iY mi).cls ic E xNames, w ∈ lw_tbl ∧ stw w = true) (hg : ∀ w ∈ Cond.classLink (iY mi).cls n E :: Cond.initialized E :: vx_at0 (iY mi).cls ic E xNames, vx_ot w = true) (hr : rc = (iR mi).cells ∧ rs = (iR mi).slots) (hR : 5 < (iR mi).frames ∧ 81 ≤ (iR mi).locals) (h : w_THR E rc rs X st M kc ks) : Go G mi Q X pc L st M kc ks := by
  obtain ⟨rfl, rfl⟩ := hr
  obtain ⟨h0, h1, h2, h3⟩ := h
  intro p e s m args below meth c H locs ls a1 a2 a3 a4 a5 a6 a7 a8 a9 a10
  have ht : c.exceptionTable.toList = [] := by rw [a1.2.2.2.2.2.2.2, hh]; rfl
  refine vx_throw0 a1.1 a1.2.1 a4.2.2.2.2.2.1 a1.2.2.2.2.1 hE (by decide +kernel : ∀ n ∈ xNames, Bundle.fit n = true) (a2 _ hw.1 hw.2 _) (a2 _ hi.1 hi.2 _) (fun w hw => a2 w (hat w hw).1 (hat w hw).2 _) hg a4.2.1 a4.2.2.1 a7 (by rw [a1.2.2.2.1]; exact a5.1.1) d0 d3 d4 d7 (fun x hx => by rw [ht] at hx; cases hx) (show 2 + 3 < _ from hR.1) ?_ h1 h2 a1.2.2.2.2.2.1 (fun t _ q1 q2 => ⟨⟨uZ M, h3, a6.z q1 q2⟩, ⟨Nat.le_trans a7.1 q1, fun q b1 b2 => (q2 q (Nat.lt_of_lt_of_le b1 a7.1)).trans (a7.2.1 q b1 b2)⟩⟩) a7.2.2 h1 h2
  rw [cats_gv]
  show cats st + 81 ≤ _
  omega
end THROW
