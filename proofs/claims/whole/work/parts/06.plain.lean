/-! RULES OF PLAIN INSTRUCTIONS: for each a shape w_.. (what must hold) and a rule s_.. (then it goes on) -/
abbrev Kt : Type := Nat → List (Option Value) → List Value → Mem → Nat → Nat → Prop
def Kok (G : En) (mi : Mi) (Q : Option Value → Mem → Prop) (X : String → Mem → Prop) (K : Kt) : Prop := ∀ pc L st M kc ks, K pc L st M kc ks → Go G mi Q X pc L st M kc ks
def lget : List (Option Value) → Nat → Option Value
  | [], _ => none
  | a :: _, 0 => a
  | _ :: r, n + 1 => lget r n
theorem lget_at : ∀ {L : List (Option Value)} {i : Nat} {v : Value}, lget L i = some v → L[i]? = some (some v)
  | [], _, _, h => by simp [lget] at h
  | a :: r, 0, v, h => by simp only [lget] at h; subst h; rfl
  | a :: r, n + 1, v, h => by simp only [lget] at h; simpa using lget_at h
def wideV : Option Value → Bool
  | some (.long _) => true
  | some (.double _) => true
  | _ => false
def sto1 : List (Option Value) → Nat → Value → List (Option Value)
  | [], _, _ => []
  | _ :: r, 0, v => some v :: r
  | a :: r, 1, v => (bif wideV a then none else a) :: sto1 r 0 v
  | a :: r, n + 2, v => a :: sto1 r (n + 1) v
def sto2 : List (Option Value) → Nat → Value → List (Option Value)
  | [], _, _ => []
  | _ :: [], 0, v => some v :: []
  | _ :: _ :: r, 0, v => some v :: none :: r
  | a :: r, 1, v => (bif wideV a then none else a) :: sto2 r 0 v
  | a :: r, n + 2, v => a :: sto2 r (n + 1) v
theorem wideV_cat {v : Value} (h : wideV (some v) = false) : v.category = 1 := by cases v <;> first | rfl | (simp [wideV] at h)
theorem gv_cat (G : En) (v : Value) : (gv G v).category = v.category := by cases v <;> rfl
theorem sto1_spec : ∀ (L : List (Option Value)) (i : Nat) (v : Value) (j : Nat) (w : Value), (sto1 L i v)[j]? = some (some w) → (j = i ∧ w = v) ∨ (j ≠ i ∧ L[j]? = some (some w) ∧ ¬ (j + 1 = i ∧ w.category = 2))
  | [], i, v, j, w, h => by simp [sto1] at h
  | a :: r, 0, v, 0, w, h => by simp [sto1] at h; exact Or.inl ⟨rfl, h.symm⟩
  | a :: r, 0, v, j + 1, w, h => by simp [sto1] at h; exact Or.inr ⟨by omega, by simpa using h, by omega⟩
  | a :: r, 1, v, 0, w, h => by
    simp only [sto1, List.getElem?_cons_zero, Option.some.injEq] at h
    cases hw : wideV a
    · rw [hw] at h
      simp only [cond_false] at h
      subst h
      exact Or.inr ⟨by omega, rfl, fun q => by rw [wideV_cat hw] at q; omega⟩
    · rw [hw] at h
      simp at h
  | a :: r, 1, v, j + 1, w, h => by
    simp only [sto1, List.getElem?_cons_succ] at h
    rcases sto1_spec r 0 v j w h with ⟨h1, h2⟩ | ⟨h1, h2, h3⟩
    · exact Or.inl ⟨by omega, h2⟩
    · exact Or.inr ⟨by omega, by simpa using h2, by omega⟩
  | a :: r, n + 2, v, 0, w, h => by
    simp only [sto1, List.getElem?_cons_zero, Option.some.injEq] at h
    subst h
    exact Or.inr ⟨by omega, rfl, by omega⟩
  | a :: r, n + 2, v, j + 1, w, h => by
    simp only [sto1, List.getElem?_cons_succ] at h
    rcases sto1_spec r (n + 1) v j w h with ⟨h1, h2⟩ | ⟨h1, h2, h3⟩
    · exact Or.inl ⟨by omega, h2⟩
    · exact Or.inr ⟨by omega, by simpa using h2, fun q => h3 ⟨by omega, q.2⟩⟩
theorem sto2_spec : ∀ (L : List (Option Value)) (i : Nat) (v : Value) (j : Nat) (w : Value), (sto2 L i v)[j]? = some (some w) → (j = i ∧ w = v) ∨ (j ≠ i ∧ j ≠ i + 1 ∧ L[j]? = some (some w) ∧ ¬ (j + 1 = i ∧ w.category = 2))
  | [], i, v, j, w, h => by simp [sto2] at h
  | a :: [], 0, v, 0, w, h => by simp [sto2] at h; exact Or.inl ⟨rfl, h.symm⟩
  | a :: [], 0, v, j + 1, w, h => by simp [sto2] at h
  | a :: b :: r, 0, v, 0, w, h => by simp [sto2] at h; exact Or.inl ⟨rfl, h.symm⟩
  | a :: b :: r, 0, v, 1, w, h => by simp [sto2] at h
  | a :: b :: r, 0, v, j + 2, w, h => by simp [sto2] at h; exact Or.inr ⟨by omega, by omega, by simpa using h, by omega⟩
  | a :: r, 1, v, 0, w, h => by
    simp only [sto2, List.getElem?_cons_zero, Option.some.injEq] at h
    cases hw : wideV a
    · rw [hw] at h
      simp only [cond_false] at h
      subst h
      exact Or.inr ⟨by omega, by omega, rfl, fun q => by rw [wideV_cat hw] at q; omega⟩
    · rw [hw] at h
      simp at h
  | a :: r, 1, v, j + 1, w, h => by
    simp only [sto2, List.getElem?_cons_succ] at h
    rcases sto2_spec r 0 v j w h with ⟨h1, h2⟩ | ⟨h1, h2, h3, h4⟩
    · exact Or.inl ⟨by omega, h2⟩
    · exact Or.inr ⟨by omega, by omega, by simpa using h3, by omega⟩
  | a :: r, n + 2, v, 0, w, h => by
    simp only [sto2, List.getElem?_cons_zero, Option.some.injEq] at h
    subst h
    exact Or.inr ⟨by omega, by omega, rfl, by omega⟩
  | a :: r, n + 2, v, j + 1, w, h => by
    simp only [sto2, List.getElem?_cons_succ] at h
    rcases sto2_spec r (n + 1) v j w h with ⟨h1, h2⟩ | ⟨h1, h2, h3, h4⟩
    · exact Or.inl ⟨by omega, h2⟩
    · exact Or.inr ⟨by omega, by omega, by simpa using h3, fun q => h4 ⟨by omega, q.2⟩⟩
theorem Lv.sto1 {G : En} {mi : Mi} {ls : Array Slot} {L : List (Option Value)} (h : Lv G mi ls L) {i : Nat} {v : Value} (hi : i < iL mi) (hc : v.category = 1) : ∃ ls', storeLocals ls i (gv G v) = some ls' ∧ Lv G mi ls' (sto1 L i v) := by
  have hc' : (gv G v).category = 1 := by rw [gv_cat]; exact hc
  obtain ⟨ls', e1, h1⟩ := lv_store1 h.1 hi hc'
  refine ⟨ls', e1, ⟨⟨h1.1, h1.2.1, fun q hq => nomatch hq⟩, fun j w hw => ?_⟩⟩
  rcases sto1_spec L i v j w hw with ⟨rfl, rfl⟩ | ⟨n1, n2, n3⟩
  · exact h1.2.2 _ List.mem_cons_self
  · obtain ⟨ls2, e2, h2⟩ := lv_store1 (l := [(j, gv G w)]) (i := i) (v := gv G v) ⟨h.1.1, h.1.2.1, fun q hq => by simp at hq; subst hq; exact h.2 j w n2⟩ hi hc'
    cases e1.symm.trans e2
    refine h2.2.2 (j, gv G w) (List.mem_cons_of_mem _ ?_)
    simp only [List.mem_filter, List.mem_singleton, true_and, Bool.and_eq_true, Bool.not_eq_true', beq_eq_false_iff_ne, ne_eq, Bool.and_eq_false_iff, gv_cat]
    refine ⟨n1, ?_⟩
    by_cases q : j + 1 = i
    · exact Or.inr (fun z => n3 ⟨q, z⟩)
    · exact Or.inl q
theorem Lv.sto2 {G : En} {mi : Mi} {ls : Array Slot} {L : List (Option Value)} (h : Lv G mi ls L) {i : Nat} {v : Value} (hi : i + 1 < iL mi) (hc : v.category = 2) : ∃ ls', storeLocals ls i (gv G v) = some ls' ∧ Lv G mi ls' (sto2 L i v) := by
  have hc' : (gv G v).category = 2 := by rw [gv_cat]; exact hc
  obtain ⟨ls', e1, h1⟩ := lv_store2 h.1 hi hc'
  refine ⟨ls', e1, ⟨⟨h1.1, h1.2.1, fun q hq => nomatch hq⟩, fun j w hw => ?_⟩⟩
  rcases sto2_spec L i v j w hw with ⟨rfl, rfl⟩ | ⟨n1, n0, n2, n3⟩
  · exact h1.2.2 _ List.mem_cons_self
  · obtain ⟨ls2, e2, h2⟩ := lv_store2 (l := [(j, gv G w)]) (i := i) (v := gv G v) ⟨h.1.1, h.1.2.1, fun q hq => by simp at hq; subst hq; exact h.2 j w n2⟩ hi hc'
    cases e1.symm.trans e2
    refine h2.2.2 (j, gv G w) (List.mem_cons_of_mem _ ?_)
    simp only [List.mem_filter, List.mem_singleton, true_and, Bool.and_eq_true, Bool.not_eq_true', beq_eq_false_iff_ne, ne_eq, Bool.and_eq_false_iff, gv_cat]
    refine ⟨n1, n0, ?_⟩
    by_cases q : j + 1 = i
    · exact Or.inr (fun z => n3 ⟨q, z⟩)
    · exact Or.inl q
/-- a reference, as a value -/
def vo : Value → Option (Option Nat)
  | .ref a => some (some a)
  | .null => some none
  | _ => none
theorem vo_rv (o : Option Nat) : vo (rv o) = some o := by cases o <;> rfl
theorem vo_eq {v : Value} {o : Option Nat} (h : vo v = some o) : v = rv o := by
  cases v <;> simp [vo] at h <;> subst h <;> rfl
def isR : Value → Bool
  | .ref _ => true
  | .null => true
  | .retAddr _ => true
  | _ => false
theorem isR_rv (o : Option Nat) : isR (rv o) = true := by cases o <;> rfl
theorem isR_gv (G : En) {v : Value} (h : isR v = true) : gv G v = .null ∨ ∃ x, gv G v = .ref x := by
  cases v <;> simp [isR] at h <;> first | exact Or.inl rfl | exact Or.inr ⟨_, rfl⟩
section PLAIN
variable {G : En} {mi : Mi} {Q : Option Value → Mem → Prop} {X : String → Mem → Prop} {K : Kt} {pc : Nat} {L : List (Option Value)} {st : List Value} {M : Mem} {kc ks : Nat}
def w_CI (n v : Nat) (K : Kt) (pc : Nat) (L : List (Option Value)) (st : List Value) (M : Mem) (kc ks : Nat) : Prop := K (pc + n) L (.int (Int32.ofNat v) :: st) M kc ks
def w_CL (n v : Nat) (K : Kt) (pc : Nat) (L : List (Option Value)) (st : List Value) (M : Mem) (kc ks : Nat) : Prop := K (pc + n) L (.long (Int64.ofNat v) :: st) M kc ks
def w_CN (K : Kt) (pc : Nat) (L : List (Option Value)) (st : List Value) (M : Mem) (kc ks : Nat) : Prop := K (pc + 1) L (.null :: st) M kc ks
theorem s_iconst {n : Int} {v : Nat} (hK : Kok G mi Q X K) (hd : decode (iC mi) pc = .ok (.iconst n, 1)) (hv : Int32.ofInt n = Int32.ofNat v) (h : w_CI 1 v K pc L st M kc ks) : Go G mi Q X pc L st M kc ks := by
  exact fun p e s m args below meth c H locs ls a1 a2 a3 a4 a5 a6 a7 a8 a9 a10 => lv_iconst a1.1 a1.2.1 hd hv (hK _ _ _ _ _ _ h p e s m args below meth c H locs ls a1 a2 a3 a4 a5 a6 a7 a8 a9 a10)
theorem s_bipush {n : Int} {v : Nat} (hK : Kok G mi Q X K) (hd : decode (iC mi) pc = .ok (.bipush n, 2)) (hv : (Int8.ofInt n).toInt32 = Int32.ofNat v) (h : w_CI 2 v K pc L st M kc ks) : Go G mi Q X pc L st M kc ks := by
  exact fun p e s m args below meth c H locs ls a1 a2 a3 a4 a5 a6 a7 a8 a9 a10 => lv_bipush a1.1 a1.2.1 hd hv (hK _ _ _ _ _ _ h p e s m args below meth c H locs ls a1 a2 a3 a4 a5 a6 a7 a8 a9 a10)
theorem s_sipush {n : Int} {v : Nat} (hK : Kok G mi Q X K) (hd : decode (iC mi) pc = .ok (.sipush n, 3)) (hv : (Int16.ofInt n).toInt32 = Int32.ofNat v) (h : w_CI 3 v K pc L st M kc ks) : Go G mi Q X pc L st M kc ks := by
  exact fun p e s m args below meth c H locs ls a1 a2 a3 a4 a5 a6 a7 a8 a9 a10 => lv_sipush a1.1 a1.2.1 hd hv (hK _ _ _ _ _ _ h p e s m args below meth c H locs ls a1 a2 a3 a4 a5 a6 a7 a8 a9 a10)
theorem s_lconst {n : Fin 2} {v : Nat} (hK : Kok G mi Q X K) (hd : decode (iC mi) pc = .ok (.lconst n, 1)) (hv : Int64.ofNat (n : Nat) = Int64.ofNat v) (h : w_CL 1 v K pc L st M kc ks) : Go G mi Q X pc L st M kc ks := by
  exact fun p e s m args below meth c H locs ls a1 a2 a3 a4 a5 a6 a7 a8 a9 a10 => lv_lconst a1.1 a1.2.1 hd hv (hK _ _ _ _ _ _ h p e s m args below meth c H locs ls a1 a2 a3 a4 a5 a6 a7 a8 a9 a10)
theorem s_ldc {n v : Nat} (hK : Kok G mi Q X K) (hd : decode (iC mi) pc = .ok (.ldc n, 2)) (hw : Cond.constant (iY mi).cls n (Int32.ofNat v) ∈ lw_tbl) (hs : stw (Cond.constant (iY mi).cls n (Int32.ofNat v)) = true) (h : w_CI 2 v K pc L st M kc ks) : Go G mi Q X pc L st M kc ks := by
  exact fun p e s m args below meth c H locs ls a1 a2 a3 a4 a5 a6 a7 a8 a9 a10 => lv_ldc a1.1 a1.2.1 a1.2.2.2.2.1 (a2 _ hw hs _) hd (hK _ _ _ _ _ _ h p e s m args below meth c H locs ls a1 a2 a3 a4 a5 a6 a7 a8 a9 a10)
theorem s_ldc_w {n v : Nat} (hK : Kok G mi Q X K) (hd : decode (iC mi) pc = .ok (.ldc_w n, 3)) (hw : Cond.constant (iY mi).cls n (Int32.ofNat v) ∈ lw_tbl) (hs : stw (Cond.constant (iY mi).cls n (Int32.ofNat v)) = true) (h : w_CI 3 v K pc L st M kc ks) : Go G mi Q X pc L st M kc ks := by
  exact fun p e s m args below meth c H locs ls a1 a2 a3 a4 a5 a6 a7 a8 a9 a10 => lv_ldcw a1.1 a1.2.1 a1.2.2.2.2.1 (a2 _ hw hs _) hd (hK _ _ _ _ _ _ h p e s m args below meth c H locs ls a1 a2 a3 a4 a5 a6 a7 a8 a9 a10)
theorem s_ldc2_w {n v : Nat} (hK : Kok G mi Q X K) (hd : decode (iC mi) pc = .ok (.ldc2_w n, 3)) (hw : Cond.constantLong (iY mi).cls n (Int64.ofNat v) ∈ lw_tbl) (hs : stw (Cond.constantLong (iY mi).cls n (Int64.ofNat v)) = true) (h : w_CL 3 v K pc L st M kc ks) : Go G mi Q X pc L st M kc ks := by
  exact fun p e s m args below meth c H locs ls a1 a2 a3 a4 a5 a6 a7 a8 a9 a10 => lv_ldc2 a1.1 a1.2.1 a1.2.2.2.2.1 (a2 _ hw hs _) hd (hK _ _ _ _ _ _ h p e s m args below meth c H locs ls a1 a2 a3 a4 a5 a6 a7 a8 a9 a10)
theorem s_aconst_null (hK : Kok G mi Q X K) (hd : decode (iC mi) pc = .ok (.aconst_null, 1)) (h : w_CN K pc L st M kc ks) : Go G mi Q X pc L st M kc ks := by
  exact fun p e s m args below meth c H locs ls a1 a2 a3 a4 a5 a6 a7 a8 a9 a10 => lv_null a1.1 a1.2.1 hd (hK _ _ _ _ _ _ h p e s m args below meth c H locs ls a1 a2 a3 a4 a5 a6 a7 a8 a9 a10)
def w_LI (n i : Nat) (K : Kt) (pc : Nat) (L : List (Option Value)) (st : List Value) (M : Mem) (kc ks : Nat) : Prop := match lget L i with | some (.int x) => K (pc + n) L (.int x :: st) M kc ks | _ => False
def w_LL (n i : Nat) (K : Kt) (pc : Nat) (L : List (Option Value)) (st : List Value) (M : Mem) (kc ks : Nat) : Prop := match lget L i with | some (.long x) => K (pc + n) L (.long x :: st) M kc ks | _ => False
def w_LA (n i : Nat) (K : Kt) (pc : Nat) (L : List (Option Value)) (st : List Value) (M : Mem) (kc ks : Nat) : Prop := match lget L i with | some v => (isR v = true ∧ K (pc + n) L (v :: st) M kc ks) | none => False
theorem s_iload {i : Nat} (hK : Kok G mi Q X K) (hd : decode (iC mi) pc = .ok (.iload i, 2)) (h : w_LI 2 i K pc L st M kc ks) : Go G mi Q X pc L st M kc ks := by
  unfold w_LI at h
  split at h
  · rename_i x hx
    exact fun p e s m args below meth c H locs ls a1 a2 a3 a4 a5 a6 a7 a8 a9 a10 => lv_iload a1.1 a1.2.1 hd (a5.2 _ _ (lget_at hx)) (hK _ _ _ _ _ _ h p e s m args below meth c H locs ls a1 a2 a3 a4 a5 a6 a7 a8 a9 a10)
  · exact h.elim
theorem s_iload_n {i : Fin 4} (hK : Kok G mi Q X K) (hd : decode (iC mi) pc = .ok (.iload_n i, 1)) (h : w_LI 1 i.val K pc L st M kc ks) : Go G mi Q X pc L st M kc ks := by
  unfold w_LI at h
  split at h
  · rename_i x hx
    exact fun p e s m args below meth c H locs ls a1 a2 a3 a4 a5 a6 a7 a8 a9 a10 => lv_iload_n a1.1 a1.2.1 hd rfl (a5.2 _ _ (lget_at hx)) (hK _ _ _ _ _ _ h p e s m args below meth c H locs ls a1 a2 a3 a4 a5 a6 a7 a8 a9 a10)
  · exact h.elim
theorem s_lload {i : Nat} (hK : Kok G mi Q X K) (hd : decode (iC mi) pc = .ok (.lload i, 2)) (h : w_LL 2 i K pc L st M kc ks) : Go G mi Q X pc L st M kc ks := by
  unfold w_LL at h
  split at h
  · rename_i x hx
    exact fun p e s m args below meth c H locs ls a1 a2 a3 a4 a5 a6 a7 a8 a9 a10 => lv_lload a1.1 a1.2.1 hd (a5.2 _ _ (lget_at hx)) (hK _ _ _ _ _ _ h p e s m args below meth c H locs ls a1 a2 a3 a4 a5 a6 a7 a8 a9 a10)
  · exact h.elim
theorem s_lload_n {i : Fin 4} (hK : Kok G mi Q X K) (hd : decode (iC mi) pc = .ok (.lload_n i, 1)) (h : w_LL 1 i.val K pc L st M kc ks) : Go G mi Q X pc L st M kc ks := by
  unfold w_LL at h
  split at h
  · rename_i x hx
    exact fun p e s m args below meth c H locs ls a1 a2 a3 a4 a5 a6 a7 a8 a9 a10 => lv_lload_n a1.1 a1.2.1 hd rfl (a5.2 _ _ (lget_at hx)) (hK _ _ _ _ _ _ h p e s m args below meth c H locs ls a1 a2 a3 a4 a5 a6 a7 a8 a9 a10)
  · exact h.elim
theorem s_aload {i : Nat} (hK : Kok G mi Q X K) (hd : decode (iC mi) pc = .ok (.aload i, 2)) (h : w_LA 2 i K pc L st M kc ks) : Go G mi Q X pc L st M kc ks := by
  unfold w_LA at h
  split at h
  · rename_i v hx
    intro p e s m args below meth c H locs ls a1 a2 a3 a4 a5 a6 a7 a8 a9 a10
    have hk9 := (hK _ _ _ _ _ _ h.2 p e s m args below meth c H locs ls a1 a2 a3 a4 a5 a6 a7 a8 a9 a10)
    have hl := a5.2 _ _ (lget_at hx)
    have hk9 : W p (eL G) e (iR mi) s m args below meth c H locs kc ks _ (F0 m (pc + 2) ls (gv G v :: st.map (gv G))) := hk9
    rcases isR_gv G h.1 with hg | ⟨x, hg⟩
    · rw [hg] at hl hk9
      exact lv_aloadN a1.1 a1.2.1 hd hl hk9
    · rw [hg] at hl hk9
      exact lv_aload a1.1 a1.2.1 hd hl hk9
  · exact h.elim
theorem s_aload_n {i : Fin 4} (hK : Kok G mi Q X K) (hd : decode (iC mi) pc = .ok (.aload_n i, 1)) (h : w_LA 1 i.val K pc L st M kc ks) : Go G mi Q X pc L st M kc ks := by
  unfold w_LA at h
  split at h
  · rename_i v hx
    intro p e s m args below meth c H locs ls a1 a2 a3 a4 a5 a6 a7 a8 a9 a10
    have hk9 := (hK _ _ _ _ _ _ h.2 p e s m args below meth c H locs ls a1 a2 a3 a4 a5 a6 a7 a8 a9 a10)
    have hl := a5.2 _ _ (lget_at hx)
    have hk9 : W p (eL G) e (iR mi) s m args below meth c H locs kc ks _ (F0 m (pc + 1) ls (gv G v :: st.map (gv G))) := hk9
    rcases isR_gv G h.1 with hg | ⟨x, hg⟩
    · rw [hg] at hl hk9
      exact lv_aload_nN a1.1 a1.2.1 hd rfl hl hk9
    · rw [hg] at hl hk9
      exact lv_aload_n a1.1 a1.2.1 hd rfl hl hk9
  · exact h.elim
def w_SI (n i : Nat) (K : Kt) (pc : Nat) (L : List (Option Value)) (st : List Value) (M : Mem) (kc ks : Nat) : Prop := match st with | .int x :: r => K (pc + n) (sto1 L i (.int x)) r M kc ks | _ => False
def w_SL (n i : Nat) (K : Kt) (pc : Nat) (L : List (Option Value)) (st : List Value) (M : Mem) (kc ks : Nat) : Prop := match st with | .long x :: r => K (pc + n) (sto2 L i (.long x)) r M kc ks | _ => False
def w_SA (n i : Nat) (K : Kt) (pc : Nat) (L : List (Option Value)) (st : List Value) (M : Mem) (kc ks : Nat) : Prop := match st with | v :: r => (isR v = true ∧ K (pc + n) (sto1 L i v) r M kc ks) | _ => False
theorem s_istore {i : Nat} (hK : Kok G mi Q X K) (hd : decode (iC mi) pc = .ok (.istore i, 2)) (hi : i < iL mi) (h : w_SI 2 i K pc L st M kc ks) : Go G mi Q X pc L st M kc ks := by
  unfold w_SI at h
  split at h
  · rename_i x r
    show Go G mi Q X pc L (.int x :: r) M kc ks
    intro p e s m args below meth c H locs ls a1 a2 a3 a4 a5 a6 a7 a8 a9 a10
    obtain ⟨ls', e', h'⟩ := Lv.sto1 a5 hi (v := .int x) rfl
    show W p (eL G) e (iR mi) s m args below meth c H locs kc ks _ (F0 m pc ls (.int x :: r.map (gv G)))
    intro T hT Y
    obtain ⟨t, q1, q2⟩ := hK _ _ _ _ _ _ h p e s m args below meth c H locs ls' a1 a2 a3 a4 h' a6 a7 a8 a9 a10 T hT Y
    refine ⟨t, ?_, q2⟩
    have e' : storeLocals ls i (.int x) = some ls' := e'
    have hb := a1.2.1
    have hexec := a1.1
    jvm_step Y.here [Y.here.top, ↓top_set Y.here.top, hexec, hb, hd, e']
    exact q1
  · exact h.elim
theorem s_istore_n {i : Fin 4} (hK : Kok G mi Q X K) (hd : decode (iC mi) pc = .ok (.istore_n i, 1)) (hi : i.val < iL mi) (h : w_SI 1 i.val K pc L st M kc ks) : Go G mi Q X pc L st M kc ks := by
  unfold w_SI at h
  split at h
  · rename_i x r
    show Go G mi Q X pc L (.int x :: r) M kc ks
    intro p e s m args below meth c H locs ls a1 a2 a3 a4 a5 a6 a7 a8 a9 a10
    obtain ⟨ls', e', h'⟩ := Lv.sto1 a5 hi (v := .int x) rfl
    show W p (eL G) e (iR mi) s m args below meth c H locs kc ks _ (F0 m pc ls (.int x :: r.map (gv G)))
    intro T hT Y
    obtain ⟨t, q1, q2⟩ := hK _ _ _ _ _ _ h p e s m args below meth c H locs ls' a1 a2 a3 a4 h' a6 a7 a8 a9 a10 T hT Y
    refine ⟨t, ?_, q2⟩
    have e' : storeLocals ls i.val (.int x) = some ls' := e'
    have hb := a1.2.1
    have hexec := a1.1
    jvm_step Y.here [Y.here.top, ↓top_set Y.here.top, hexec, hb, hd, e']
    exact q1
  · exact h.elim
theorem s_lstore {i : Nat} (hK : Kok G mi Q X K) (hd : decode (iC mi) pc = .ok (.lstore i, 2)) (hi : i + 1 < iL mi) (h : w_SL 2 i K pc L st M kc ks) : Go G mi Q X pc L st M kc ks := by
  unfold w_SL at h
  split at h
  · rename_i x r
    show Go G mi Q X pc L (.long x :: r) M kc ks
    intro p e s m args below meth c H locs ls a1 a2 a3 a4 a5 a6 a7 a8 a9 a10
    obtain ⟨ls', e', h'⟩ := Lv.sto2 a5 hi (v := .long x) rfl
    show W p (eL G) e (iR mi) s m args below meth c H locs kc ks _ (F0 m pc ls (.long x :: r.map (gv G)))
    intro T hT Y
    obtain ⟨t, q1, q2⟩ := hK _ _ _ _ _ _ h p e s m args below meth c H locs ls' a1 a2 a3 a4 h' a6 a7 a8 a9 a10 T hT Y
    refine ⟨t, ?_, q2⟩
    have e' : storeLocals ls i (.long x) = some ls' := e'
    have hb := a1.2.1
    have hexec := a1.1
    jvm_step Y.here [Y.here.top, ↓top_set Y.here.top, hexec, hb, hd, e']
    exact q1
  · exact h.elim
theorem s_lstore_n {i : Fin 4} (hK : Kok G mi Q X K) (hd : decode (iC mi) pc = .ok (.lstore_n i, 1)) (hi : i.val + 1 < iL mi) (h : w_SL 1 i.val K pc L st M kc ks) : Go G mi Q X pc L st M kc ks := by
  unfold w_SL at h
  split at h
  · rename_i x r
    show Go G mi Q X pc L (.long x :: r) M kc ks
    intro p e s m args below meth c H locs ls a1 a2 a3 a4 a5 a6 a7 a8 a9 a10
    obtain ⟨ls', e', h'⟩ := Lv.sto2 a5 hi (v := .long x) rfl
    show W p (eL G) e (iR mi) s m args below meth c H locs kc ks _ (F0 m pc ls (.long x :: r.map (gv G)))
    intro T hT Y
    obtain ⟨t, q1, q2⟩ := hK _ _ _ _ _ _ h p e s m args below meth c H locs ls' a1 a2 a3 a4 h' a6 a7 a8 a9 a10 T hT Y
    refine ⟨t, ?_, q2⟩
    have e' : storeLocals ls i.val (.long x) = some ls' := e'
    have hb := a1.2.1
    have hexec := a1.1
    jvm_step Y.here [Y.here.top, ↓top_set Y.here.top, hexec, hb, hd, e']
    exact q1
  · exact h.elim
theorem s_astore {i : Nat} (hK : Kok G mi Q X K) (hd : decode (iC mi) pc = .ok (.astore i, 2)) (hi : i < iL mi) (h : w_SA 2 i K pc L st M kc ks) : Go G mi Q X pc L st M kc ks := by
  unfold w_SA at h
  split at h
  · rename_i v r
    intro p e s m args below meth c H locs ls a1 a2 a3 a4 a5 a6 a7 a8 a9 a10
    have hc : v.category = 1 := by rw [← gv_cat G]; rcases isR_gv G h.1 with hg | ⟨x, hg⟩ <;> rw [hg] <;> rfl
    obtain ⟨ls', e', h'⟩ := Lv.sto1 a5 hi (v := v) hc
    show W p (eL G) e (iR mi) s m args below meth c H locs kc ks _ (F0 m pc ls (gv G v :: r.map (gv G)))
    intro T hT Y
    obtain ⟨t, q1, q2⟩ := hK _ _ _ _ _ _ h.2 p e s m args below meth c H locs ls' a1 a2 a3 a4 h' a6 a7 a8 a9 a10 T hT Y
    refine ⟨t, ?_, q2⟩
    have hb := a1.2.1
    have hexec := a1.1
    rcases isR_gv G h.1 with hg | ⟨x, hg⟩
    · rw [hg] at e' ⊢
      jvm_step Y.here [Y.here.top, ↓top_set Y.here.top, hexec, hb, hd, e']
      exact ⟨rfl, q1⟩
    · rw [hg] at e' ⊢
      jvm_step Y.here [Y.here.top, ↓top_set Y.here.top, hexec, hb, hd, e']
      exact ⟨rfl, q1⟩
  · exact h.elim
theorem s_astore_n {i : Fin 4} (hK : Kok G mi Q X K) (hd : decode (iC mi) pc = .ok (.astore_n i, 1)) (hi : i.val < iL mi) (h : w_SA 1 i.val K pc L st M kc ks) : Go G mi Q X pc L st M kc ks := by
  unfold w_SA at h
  split at h
  · rename_i v r
    intro p e s m args below meth c H locs ls a1 a2 a3 a4 a5 a6 a7 a8 a9 a10
    have hc : v.category = 1 := by rw [← gv_cat G]; rcases isR_gv G h.1 with hg | ⟨x, hg⟩ <;> rw [hg] <;> rfl
    obtain ⟨ls', e', h'⟩ := Lv.sto1 a5 hi (v := v) hc
    show W p (eL G) e (iR mi) s m args below meth c H locs kc ks _ (F0 m pc ls (gv G v :: r.map (gv G)))
    intro T hT Y
    obtain ⟨t, q1, q2⟩ := hK _ _ _ _ _ _ h.2 p e s m args below meth c H locs ls' a1 a2 a3 a4 h' a6 a7 a8 a9 a10 T hT Y
    refine ⟨t, ?_, q2⟩
    have hb := a1.2.1
    have hexec := a1.1
    rcases isR_gv G h.1 with hg | ⟨x, hg⟩
    · rw [hg] at e' ⊢
      jvm_step Y.here [Y.here.top, ↓top_set Y.here.top, hexec, hb, hd, e']
      exact ⟨rfl, q1⟩
    · rw [hg] at e' ⊢
      jvm_step Y.here [Y.here.top, ↓top_set Y.here.top, hexec, hb, hd, e']
      exact ⟨rfl, q1⟩
  · exact h.elim
def w_INC (i v : Nat) (K : Kt) (pc : Nat) (L : List (Option Value)) (st : List Value) (M : Mem) (kc ks : Nat) : Prop := match lget L i with | some (.int x) => K (pc + 3) (sto1 L i (.int (x + Int32.ofNat v))) st M kc ks | _ => False
theorem s_iinc {i v : Nat} {n : Int} (hK : Kok G mi Q X K) (hd : decode (iC mi) pc = .ok (.iinc i n, 3)) (hv : Int32.ofInt n = Int32.ofNat v) (hi : i < iL mi) (h : w_INC i v K pc L st M kc ks) : Go G mi Q X pc L st M kc ks := by
  unfold w_INC at h
  split at h
  · rename_i x hx
    intro p e s m args below meth c H locs ls a1 a2 a3 a4 a5 a6 a7 a8 a9 a10
    have hl := a5.2 _ _ (lget_at hx)
    obtain ⟨ls', e', h'⟩ := Lv.sto1 a5 hi (v := .int (x + Int32.ofNat v)) rfl
    intro T hT Y
    obtain ⟨t, q1, q2⟩ := hK _ _ _ _ _ _ h p e s m args below meth c H locs ls' a1 a2 a3 a4 h' a6 a7 a8 a9 a10 T hT Y
    refine ⟨t, ?_, q2⟩
    have hg : ls[i]? = some (.val (.int x)) := hl
    have e' : storeLocals ls i (.int (x + Int32.ofInt n)) = some ls' := by rw [hv]; exact e'
    have hb := a1.2.1
    have hexec := a1.1
    jvm_step Y.here [Y.here.top, ↓top_set Y.here.top, hexec, hb, hd, hg, e']
    exact q1
  · exact h.elim
def w_II (f : Int32 → Int32 → Int32) (K : Kt) (pc : Nat) (L : List (Option Value)) (st : List Value) (M : Mem) (kc ks : Nat) : Prop := match st with | .int y :: .int x :: r => K (pc + 1) L (.int (f x y) :: r) M kc ks | _ => False
def w_IId (f : Int32 → Int32 → Int32) (K : Kt) (pc : Nat) (L : List (Option Value)) (st : List Value) (M : Mem) (kc ks : Nat) : Prop := match st with | .int y :: .int x :: r => (¬ y = 0 ∧ K (pc + 1) L (.int (f x y) :: r) M kc ks) | _ => False
def w_LLb (f : Int64 → Int64 → Int64) (K : Kt) (pc : Nat) (L : List (Option Value)) (st : List Value) (M : Mem) (kc ks : Nat) : Prop := match st with | .long y :: .long x :: r => K (pc + 1) L (.long (f x y) :: r) M kc ks | _ => False
def w_LLd (f : Int64 → Int64 → Int64) (K : Kt) (pc : Nat) (L : List (Option Value)) (st : List Value) (M : Mem) (kc ks : Nat) : Prop := match st with | .long y :: .long x :: r => (¬ y = 0 ∧ K (pc + 1) L (.long (f x y) :: r) M kc ks) | _ => False
def w_LS (f : Int64 → Int32 → Int64) (K : Kt) (pc : Nat) (L : List (Option Value)) (st : List Value) (M : Mem) (kc ks : Nat) : Prop := match st with | .int y :: .long x :: r => K (pc + 1) L (.long (f x y) :: r) M kc ks | _ => False
def w_I1 (f : Int32 → Int32) (K : Kt) (pc : Nat) (L : List (Option Value)) (st : List Value) (M : Mem) (kc ks : Nat) : Prop := match st with | .int x :: r => K (pc + 1) L (.int (f x) :: r) M kc ks | _ => False
def w_L1 (f : Int64 → Int64) (K : Kt) (pc : Nat) (L : List (Option Value)) (st : List Value) (M : Mem) (kc ks : Nat) : Prop := match st with | .long x :: r => K (pc + 1) L (.long (f x) :: r) M kc ks | _ => False
def w_I2L (K : Kt) (pc : Nat) (L : List (Option Value)) (st : List Value) (M : Mem) (kc ks : Nat) : Prop := match st with | .int x :: r => K (pc + 1) L (.long x.toInt64 :: r) M kc ks | _ => False
def w_L2I (K : Kt) (pc : Nat) (L : List (Option Value)) (st : List Value) (M : Mem) (kc ks : Nat) : Prop := match st with | .long x :: r => K (pc + 1) L (.int x.toInt32 :: r) M kc ks | _ => False
def w_CMP (K : Kt) (pc : Nat) (L : List (Option Value)) (st : List Value) (M : Mem) (kc ks : Nat) : Prop := match st with | .long y :: .long x :: r => K (pc + 1) L (.int (lg_cmp x y) :: r) M kc ks | _ => False
theorem s_iadd (hK : Kok G mi Q X K) (hd : decode (iC mi) pc = .ok (.iadd, 1)) (h : w_II (fun x y => x + y) K pc L st M kc ks) : Go G mi Q X pc L st M kc ks := by
  unfold w_II at h
  split at h
  · exact fun p e s m args below meth c H locs ls a1 a2 a3 a4 a5 a6 a7 a8 a9 a10 => lv_iadd a1.1 a1.2.1 hd (hK _ _ _ _ _ _ h p e s m args below meth c H locs ls a1 a2 a3 a4 a5 a6 a7 a8 a9 a10)
  · exact h.elim
theorem s_isub (hK : Kok G mi Q X K) (hd : decode (iC mi) pc = .ok (.isub, 1)) (h : w_II (fun x y => x - y) K pc L st M kc ks) : Go G mi Q X pc L st M kc ks := by
  unfold w_II at h
  split at h
  · exact fun p e s m args below meth c H locs ls a1 a2 a3 a4 a5 a6 a7 a8 a9 a10 => lv_isub a1.1 a1.2.1 hd (hK _ _ _ _ _ _ h p e s m args below meth c H locs ls a1 a2 a3 a4 a5 a6 a7 a8 a9 a10)
  · exact h.elim
theorem s_imul (hK : Kok G mi Q X K) (hd : decode (iC mi) pc = .ok (.imul, 1)) (h : w_II (fun x y => x * y) K pc L st M kc ks) : Go G mi Q X pc L st M kc ks := by
  unfold w_II at h
  split at h
  · exact fun p e s m args below meth c H locs ls a1 a2 a3 a4 a5 a6 a7 a8 a9 a10 => lv_imul a1.1 a1.2.1 hd (hK _ _ _ _ _ _ h p e s m args below meth c H locs ls a1 a2 a3 a4 a5 a6 a7 a8 a9 a10)
  · exact h.elim
theorem s_iand (hK : Kok G mi Q X K) (hd : decode (iC mi) pc = .ok (.iand, 1)) (h : w_II (fun x y => x &&& y) K pc L st M kc ks) : Go G mi Q X pc L st M kc ks := by
  unfold w_II at h
  split at h
  · exact fun p e s m args below meth c H locs ls a1 a2 a3 a4 a5 a6 a7 a8 a9 a10 => lv_iand a1.1 a1.2.1 hd (hK _ _ _ _ _ _ h p e s m args below meth c H locs ls a1 a2 a3 a4 a5 a6 a7 a8 a9 a10)
  · exact h.elim
theorem s_ior (hK : Kok G mi Q X K) (hd : decode (iC mi) pc = .ok (.ior, 1)) (h : w_II (fun x y => x ||| y) K pc L st M kc ks) : Go G mi Q X pc L st M kc ks := by
  unfold w_II at h
  split at h
  · exact fun p e s m args below meth c H locs ls a1 a2 a3 a4 a5 a6 a7 a8 a9 a10 => lv_ior a1.1 a1.2.1 hd (hK _ _ _ _ _ _ h p e s m args below meth c H locs ls a1 a2 a3 a4 a5 a6 a7 a8 a9 a10)
  · exact h.elim
theorem s_ixor (hK : Kok G mi Q X K) (hd : decode (iC mi) pc = .ok (.ixor, 1)) (h : w_II (fun x y => x ^^^ y) K pc L st M kc ks) : Go G mi Q X pc L st M kc ks := by
  unfold w_II at h
  split at h
  · exact fun p e s m args below meth c H locs ls a1 a2 a3 a4 a5 a6 a7 a8 a9 a10 => lv_ixor a1.1 a1.2.1 hd (hK _ _ _ _ _ _ h p e s m args below meth c H locs ls a1 a2 a3 a4 a5 a6 a7 a8 a9 a10)
  · exact h.elim
theorem s_ishl (hK : Kok G mi Q X K) (hd : decode (iC mi) pc = .ok (.ishl, 1)) (h : w_II (fun x y => x <<< (y &&& 31)) K pc L st M kc ks) : Go G mi Q X pc L st M kc ks := by
  unfold w_II at h
  split at h
  · exact fun p e s m args below meth c H locs ls a1 a2 a3 a4 a5 a6 a7 a8 a9 a10 => lv_ishl a1.1 a1.2.1 hd (hK _ _ _ _ _ _ h p e s m args below meth c H locs ls a1 a2 a3 a4 a5 a6 a7 a8 a9 a10)
  · exact h.elim
theorem s_ishr (hK : Kok G mi Q X K) (hd : decode (iC mi) pc = .ok (.ishr, 1)) (h : w_II (fun x y => x >>> (y &&& 31)) K pc L st M kc ks) : Go G mi Q X pc L st M kc ks := by
  unfold w_II at h
  split at h
  · exact fun p e s m args below meth c H locs ls a1 a2 a3 a4 a5 a6 a7 a8 a9 a10 => lv_ishr a1.1 a1.2.1 hd (hK _ _ _ _ _ _ h p e s m args below meth c H locs ls a1 a2 a3 a4 a5 a6 a7 a8 a9 a10)
  · exact h.elim
theorem s_idiv (hK : Kok G mi Q X K) (hd : decode (iC mi) pc = .ok (.idiv, 1)) (h : w_IId (fun x y => x / y) K pc L st M kc ks) : Go G mi Q X pc L st M kc ks := by
  unfold w_IId at h
  split at h
  · exact fun p e s m args below meth c H locs ls a1 a2 a3 a4 a5 a6 a7 a8 a9 a10 => lv_idiv a1.1 a1.2.1 hd h.1 (hK _ _ _ _ _ _ h.2 p e s m args below meth c H locs ls a1 a2 a3 a4 a5 a6 a7 a8 a9 a10)
  · exact h.elim
theorem s_irem (hK : Kok G mi Q X K) (hd : decode (iC mi) pc = .ok (.irem, 1)) (h : w_IId (fun x y => x - x / y * y) K pc L st M kc ks) : Go G mi Q X pc L st M kc ks := by
  unfold w_IId at h
  split at h
  · exact fun p e s m args below meth c H locs ls a1 a2 a3 a4 a5 a6 a7 a8 a9 a10 => lv_irem a1.1 a1.2.1 hd h.1 (hK _ _ _ _ _ _ h.2 p e s m args below meth c H locs ls a1 a2 a3 a4 a5 a6 a7 a8 a9 a10)
  · exact h.elim
theorem s_ladd (hK : Kok G mi Q X K) (hd : decode (iC mi) pc = .ok (.ladd, 1)) (h : w_LLb (fun x y => x + y) K pc L st M kc ks) : Go G mi Q X pc L st M kc ks := by
  unfold w_LLb at h
  split at h
  · exact fun p e s m args below meth c H locs ls a1 a2 a3 a4 a5 a6 a7 a8 a9 a10 => lv_ladd a1.1 a1.2.1 hd (hK _ _ _ _ _ _ h p e s m args below meth c H locs ls a1 a2 a3 a4 a5 a6 a7 a8 a9 a10)
  · exact h.elim
theorem s_lsub (hK : Kok G mi Q X K) (hd : decode (iC mi) pc = .ok (.lsub, 1)) (h : w_LLb (fun x y => x - y) K pc L st M kc ks) : Go G mi Q X pc L st M kc ks := by
  unfold w_LLb at h
  split at h
  · exact fun p e s m args below meth c H locs ls a1 a2 a3 a4 a5 a6 a7 a8 a9 a10 => lv_lsub a1.1 a1.2.1 hd (hK _ _ _ _ _ _ h p e s m args below meth c H locs ls a1 a2 a3 a4 a5 a6 a7 a8 a9 a10)
  · exact h.elim
theorem s_lmul (hK : Kok G mi Q X K) (hd : decode (iC mi) pc = .ok (.lmul, 1)) (h : w_LLb (fun x y => x * y) K pc L st M kc ks) : Go G mi Q X pc L st M kc ks := by
  unfold w_LLb at h
  split at h
  · exact fun p e s m args below meth c H locs ls a1 a2 a3 a4 a5 a6 a7 a8 a9 a10 => lv_lmul a1.1 a1.2.1 hd (hK _ _ _ _ _ _ h p e s m args below meth c H locs ls a1 a2 a3 a4 a5 a6 a7 a8 a9 a10)
  · exact h.elim
theorem s_land (hK : Kok G mi Q X K) (hd : decode (iC mi) pc = .ok (.land, 1)) (h : w_LLb (fun x y => x &&& y) K pc L st M kc ks) : Go G mi Q X pc L st M kc ks := by
  unfold w_LLb at h
  split at h
  · exact fun p e s m args below meth c H locs ls a1 a2 a3 a4 a5 a6 a7 a8 a9 a10 => lv_land a1.1 a1.2.1 hd (hK _ _ _ _ _ _ h p e s m args below meth c H locs ls a1 a2 a3 a4 a5 a6 a7 a8 a9 a10)
  · exact h.elim
theorem s_lor (hK : Kok G mi Q X K) (hd : decode (iC mi) pc = .ok (.lor, 1)) (h : w_LLb (fun x y => x ||| y) K pc L st M kc ks) : Go G mi Q X pc L st M kc ks := by
  unfold w_LLb at h
  split at h
  · exact fun p e s m args below meth c H locs ls a1 a2 a3 a4 a5 a6 a7 a8 a9 a10 => lv_lor a1.1 a1.2.1 hd (hK _ _ _ _ _ _ h p e s m args below meth c H locs ls a1 a2 a3 a4 a5 a6 a7 a8 a9 a10)
  · exact h.elim
theorem s_ldiv (hK : Kok G mi Q X K) (hd : decode (iC mi) pc = .ok (.ldiv, 1)) (h : w_LLd (fun x y => x / y) K pc L st M kc ks) : Go G mi Q X pc L st M kc ks := by
  unfold w_LLd at h
  split at h
  · exact fun p e s m args below meth c H locs ls a1 a2 a3 a4 a5 a6 a7 a8 a9 a10 => lv_ldiv a1.1 a1.2.1 hd h.1 (hK _ _ _ _ _ _ h.2 p e s m args below meth c H locs ls a1 a2 a3 a4 a5 a6 a7 a8 a9 a10)
  · exact h.elim
theorem s_lrem (hK : Kok G mi Q X K) (hd : decode (iC mi) pc = .ok (.lrem, 1)) (h : w_LLd (fun x y => x - x / y * y) K pc L st M kc ks) : Go G mi Q X pc L st M kc ks := by
  unfold w_LLd at h
  split at h
  · exact fun p e s m args below meth c H locs ls a1 a2 a3 a4 a5 a6 a7 a8 a9 a10 => lv_lrem a1.1 a1.2.1 hd h.1 (hK _ _ _ _ _ _ h.2 p e s m args below meth c H locs ls a1 a2 a3 a4 a5 a6 a7 a8 a9 a10)
  · exact h.elim
theorem s_lshl (hK : Kok G mi Q X K) (hd : decode (iC mi) pc = .ok (.lshl, 1)) (h : w_LS (fun x y => x <<< (y.toInt64 &&& 63)) K pc L st M kc ks) : Go G mi Q X pc L st M kc ks := by
  unfold w_LS at h
  split at h
  · exact fun p e s m args below meth c H locs ls a1 a2 a3 a4 a5 a6 a7 a8 a9 a10 => lv_lshl a1.1 a1.2.1 hd rfl (hK _ _ _ _ _ _ h p e s m args below meth c H locs ls a1 a2 a3 a4 a5 a6 a7 a8 a9 a10)
  · exact h.elim
theorem s_lshr (hK : Kok G mi Q X K) (hd : decode (iC mi) pc = .ok (.lshr, 1)) (h : w_LS (fun x y => x >>> (y.toInt64 &&& 63)) K pc L st M kc ks) : Go G mi Q X pc L st M kc ks := by
  unfold w_LS at h
  split at h
  · exact fun p e s m args below meth c H locs ls a1 a2 a3 a4 a5 a6 a7 a8 a9 a10 => lv_lshr a1.1 a1.2.1 hd rfl (hK _ _ _ _ _ _ h p e s m args below meth c H locs ls a1 a2 a3 a4 a5 a6 a7 a8 a9 a10)
  · exact h.elim
theorem s_ineg (hK : Kok G mi Q X K) (hd : decode (iC mi) pc = .ok (.ineg, 1)) (h : w_I1 (fun x => -x) K pc L st M kc ks) : Go G mi Q X pc L st M kc ks := by
  unfold w_I1 at h
  split at h
  · exact fun p e s m args below meth c H locs ls a1 a2 a3 a4 a5 a6 a7 a8 a9 a10 => lv_ineg a1.1 a1.2.1 hd (hK _ _ _ _ _ _ h p e s m args below meth c H locs ls a1 a2 a3 a4 a5 a6 a7 a8 a9 a10)
  · exact h.elim
theorem s_lneg (hK : Kok G mi Q X K) (hd : decode (iC mi) pc = .ok (.lneg, 1)) (h : w_L1 (fun x => -x) K pc L st M kc ks) : Go G mi Q X pc L st M kc ks := by
  unfold w_L1 at h
  split at h
  · exact fun p e s m args below meth c H locs ls a1 a2 a3 a4 a5 a6 a7 a8 a9 a10 => lv_lneg a1.1 a1.2.1 hd (hK _ _ _ _ _ _ h p e s m args below meth c H locs ls a1 a2 a3 a4 a5 a6 a7 a8 a9 a10)
  · exact h.elim
theorem s_i2l (hK : Kok G mi Q X K) (hd : decode (iC mi) pc = .ok (.i2l, 1)) (h : w_I2L K pc L st M kc ks) : Go G mi Q X pc L st M kc ks := by
  unfold w_I2L at h
  split at h
  · exact fun p e s m args below meth c H locs ls a1 a2 a3 a4 a5 a6 a7 a8 a9 a10 => lv_i2l a1.1 a1.2.1 hd rfl (hK _ _ _ _ _ _ h p e s m args below meth c H locs ls a1 a2 a3 a4 a5 a6 a7 a8 a9 a10)
  · exact h.elim
theorem s_l2i (hK : Kok G mi Q X K) (hd : decode (iC mi) pc = .ok (.l2i, 1)) (h : w_L2I K pc L st M kc ks) : Go G mi Q X pc L st M kc ks := by
  unfold w_L2I at h
  split at h
  · exact fun p e s m args below meth c H locs ls a1 a2 a3 a4 a5 a6 a7 a8 a9 a10 => lv_l2i a1.1 a1.2.1 hd rfl (hK _ _ _ _ _ _ h p e s m args below meth c H locs ls a1 a2 a3 a4 a5 a6 a7 a8 a9 a10)
  · exact h.elim
theorem s_lcmp (hK : Kok G mi Q X K) (hd : decode (iC mi) pc = .ok (.lcmp, 1)) (h : w_CMP K pc L st M kc ks) : Go G mi Q X pc L st M kc ks := by
  unfold w_CMP at h
  split at h
  · exact fun p e s m args below meth c H locs ls a1 a2 a3 a4 a5 a6 a7 a8 a9 a10 => W.lcmp a1.1 a1.2.1 hd (hK _ _ _ _ _ _ h p e s m args below meth c H locs ls a1 a2 a3 a4 a5 a6 a7 a8 a9 a10)
  · exact h.elim
def w_DUP (K : Kt) (pc : Nat) (L : List (Option Value)) (st : List Value) (M : Mem) (kc ks : Nat) : Prop := match st with | v :: r => (v.category = 1 ∧ K (pc + 1) L (v :: v :: r) M kc ks) | _ => False
def w_POP (K : Kt) (pc : Nat) (L : List (Option Value)) (st : List Value) (M : Mem) (kc ks : Nat) : Prop := match st with | v :: r => (v.category = 1 ∧ K (pc + 1) L r M kc ks) | _ => False
def w_DUP2 (K : Kt) (pc : Nat) (L : List (Option Value)) (st : List Value) (M : Mem) (kc ks : Nat) : Prop := match st with | .long x :: r => K (pc + 1) L (.long x :: .long x :: r) M kc ks | v :: w :: r => (v.category = 1 ∧ w.category = 1 ∧ K (pc + 1) L (v :: w :: v :: w :: r) M kc ks) | _ => False
theorem s_dup (hK : Kok G mi Q X K) (hd : decode (iC mi) pc = .ok (.dup, 1)) (h : w_DUP K pc L st M kc ks) : Go G mi Q X pc L st M kc ks := by
  unfold w_DUP at h
  split at h
  · exact fun p e s m args below meth c H locs ls a1 a2 a3 a4 a5 a6 a7 a8 a9 a10 => lv_dup a1.1 a1.2.1 hd (by rw [gv_cat]; exact h.1) (hK _ _ _ _ _ _ h.2 p e s m args below meth c H locs ls a1 a2 a3 a4 a5 a6 a7 a8 a9 a10)
  · exact h.elim
theorem s_pop (hK : Kok G mi Q X K) (hd : decode (iC mi) pc = .ok (.pop, 1)) (h : w_POP K pc L st M kc ks) : Go G mi Q X pc L st M kc ks := by
  unfold w_POP at h
  split at h
  · exact fun p e s m args below meth c H locs ls a1 a2 a3 a4 a5 a6 a7 a8 a9 a10 => lv_pop a1.1 a1.2.1 hd (by rw [gv_cat]; exact h.1) (hK _ _ _ _ _ _ h.2 p e s m args below meth c H locs ls a1 a2 a3 a4 a5 a6 a7 a8 a9 a10)
  · exact h.elim
theorem s_dup2 (hK : Kok G mi Q X K) (hd : decode (iC mi) pc = .ok (.dup2, 1)) (h : w_DUP2 K pc L st M kc ks) : Go G mi Q X pc L st M kc ks := by
  unfold w_DUP2 at h
  split at h
  · exact fun p e s m args below meth c H locs ls a1 a2 a3 a4 a5 a6 a7 a8 a9 a10 => lv_dup2_2 a1.1 a1.2.1 hd rfl (hK _ _ _ _ _ _ h p e s m args below meth c H locs ls a1 a2 a3 a4 a5 a6 a7 a8 a9 a10)
  · exact fun p e s m args below meth c H locs ls a1 a2 a3 a4 a5 a6 a7 a8 a9 a10 => lv_dup2_11 a1.1 a1.2.1 hd (by rw [gv_cat]; exact h.1) (by rw [gv_cat]; exact h.2.1) (hK _ _ _ _ _ _ h.2.2 p e s m args below meth c H locs ls a1 a2 a3 a4 a5 a6 a7 a8 a9 a10)
  · exact h.elim
def w_IF (c : Int32 → Prop) (t : Nat) (K : Kt) (pc : Nat) (L : List (Option Value)) (st : List Value) (M : Mem) (kc ks : Nat) : Prop := match st with | .int x :: r => ((c x → K t L r M kc ks) ∧ (¬ c x → K (pc + 3) L r M kc ks)) | _ => False
def w_IC (c : Int32 → Int32 → Prop) (t : Nat) (K : Kt) (pc : Nat) (L : List (Option Value)) (st : List Value) (M : Mem) (kc ks : Nat) : Prop := match st with | .int y :: .int x :: r => ((c x y → K t L r M kc ks) ∧ (¬ c x y → K (pc + 3) L r M kc ks)) | _ => False
theorem s_if_eq {off : Int} {t : Nat} (hK : Kok G mi Q X K) (hd : decode (iC mi) pc = .ok (.ifCond .eq off, 3)) (ht : (pc : Int) + off = (t : Int)) (h : w_IF (fun x => x = 0) t K pc L st M kc ks) : Go G mi Q X pc L st M kc ks := by
  unfold w_IF at h
  split at h
  · exact fun p e s m args below meth c H locs ls a1 a2 a3 a4 a5 a6 a7 a8 a9 a10 => lv_if_eq a1.1 a1.2.1 hd ht (fun q => (hK _ _ _ _ _ _ (h.1 q) p e s m args below meth c H locs ls a1 a2 a3 a4 a5 a6 a7 a8 a9 a10)) (fun q => (hK _ _ _ _ _ _ (h.2 q) p e s m args below meth c H locs ls a1 a2 a3 a4 a5 a6 a7 a8 a9 a10))
  · exact h.elim
theorem s_icmp_eq {off : Int} {t : Nat} (hK : Kok G mi Q X K) (hd : decode (iC mi) pc = .ok (.if_icmp .eq off, 3)) (ht : (pc : Int) + off = (t : Int)) (h : w_IC (fun x y => x = y) t K pc L st M kc ks) : Go G mi Q X pc L st M kc ks := by
  unfold w_IC at h
  split at h
  · exact fun p e s m args below meth c H locs ls a1 a2 a3 a4 a5 a6 a7 a8 a9 a10 => lv_icmp_eq a1.1 a1.2.1 hd ht (fun q => (hK _ _ _ _ _ _ (h.1 q) p e s m args below meth c H locs ls a1 a2 a3 a4 a5 a6 a7 a8 a9 a10)) (fun q => (hK _ _ _ _ _ _ (h.2 q) p e s m args below meth c H locs ls a1 a2 a3 a4 a5 a6 a7 a8 a9 a10))
  · exact h.elim
theorem s_if_ne {off : Int} {t : Nat} (hK : Kok G mi Q X K) (hd : decode (iC mi) pc = .ok (.ifCond .ne off, 3)) (ht : (pc : Int) + off = (t : Int)) (h : w_IF (fun x => ¬ x = 0) t K pc L st M kc ks) : Go G mi Q X pc L st M kc ks := by
  unfold w_IF at h
  split at h
  · exact fun p e s m args below meth c H locs ls a1 a2 a3 a4 a5 a6 a7 a8 a9 a10 => lv_if_ne a1.1 a1.2.1 hd ht (fun q => (hK _ _ _ _ _ _ (h.1 q) p e s m args below meth c H locs ls a1 a2 a3 a4 a5 a6 a7 a8 a9 a10)) (fun q => (hK _ _ _ _ _ _ (h.2 (fun z => z q)) p e s m args below meth c H locs ls a1 a2 a3 a4 a5 a6 a7 a8 a9 a10))
  · exact h.elim
theorem s_icmp_ne {off : Int} {t : Nat} (hK : Kok G mi Q X K) (hd : decode (iC mi) pc = .ok (.if_icmp .ne off, 3)) (ht : (pc : Int) + off = (t : Int)) (h : w_IC (fun x y => ¬ x = y) t K pc L st M kc ks) : Go G mi Q X pc L st M kc ks := by
  unfold w_IC at h
  split at h
  · exact fun p e s m args below meth c H locs ls a1 a2 a3 a4 a5 a6 a7 a8 a9 a10 => lv_icmp_ne a1.1 a1.2.1 hd ht (fun q => (hK _ _ _ _ _ _ (h.1 q) p e s m args below meth c H locs ls a1 a2 a3 a4 a5 a6 a7 a8 a9 a10)) (fun q => (hK _ _ _ _ _ _ (h.2 (fun z => z q)) p e s m args below meth c H locs ls a1 a2 a3 a4 a5 a6 a7 a8 a9 a10))
  · exact h.elim
theorem s_if_lt {off : Int} {t : Nat} (hK : Kok G mi Q X K) (hd : decode (iC mi) pc = .ok (.ifCond .lt off, 3)) (ht : (pc : Int) + off = (t : Int)) (h : w_IF (fun x => x < 0) t K pc L st M kc ks) : Go G mi Q X pc L st M kc ks := by
  unfold w_IF at h
  split at h
  · exact fun p e s m args below meth c H locs ls a1 a2 a3 a4 a5 a6 a7 a8 a9 a10 => lv_if_lt a1.1 a1.2.1 hd ht (fun q => (hK _ _ _ _ _ _ (h.1 q) p e s m args below meth c H locs ls a1 a2 a3 a4 a5 a6 a7 a8 a9 a10)) (fun q => (hK _ _ _ _ _ _ (h.2 q) p e s m args below meth c H locs ls a1 a2 a3 a4 a5 a6 a7 a8 a9 a10))
  · exact h.elim
theorem s_icmp_lt {off : Int} {t : Nat} (hK : Kok G mi Q X K) (hd : decode (iC mi) pc = .ok (.if_icmp .lt off, 3)) (ht : (pc : Int) + off = (t : Int)) (h : w_IC (fun x y => x < y) t K pc L st M kc ks) : Go G mi Q X pc L st M kc ks := by
  unfold w_IC at h
  split at h
  · exact fun p e s m args below meth c H locs ls a1 a2 a3 a4 a5 a6 a7 a8 a9 a10 => lv_icmp_lt a1.1 a1.2.1 hd ht (fun q => (hK _ _ _ _ _ _ (h.1 q) p e s m args below meth c H locs ls a1 a2 a3 a4 a5 a6 a7 a8 a9 a10)) (fun q => (hK _ _ _ _ _ _ (h.2 q) p e s m args below meth c H locs ls a1 a2 a3 a4 a5 a6 a7 a8 a9 a10))
  · exact h.elim
theorem s_if_ge {off : Int} {t : Nat} (hK : Kok G mi Q X K) (hd : decode (iC mi) pc = .ok (.ifCond .ge off, 3)) (ht : (pc : Int) + off = (t : Int)) (h : w_IF (fun x => 0 ≤ x) t K pc L st M kc ks) : Go G mi Q X pc L st M kc ks := by
  unfold w_IF at h
  split at h
  · exact fun p e s m args below meth c H locs ls a1 a2 a3 a4 a5 a6 a7 a8 a9 a10 => lv_if_ge a1.1 a1.2.1 hd ht (fun q => (hK _ _ _ _ _ _ (h.1 q) p e s m args below meth c H locs ls a1 a2 a3 a4 a5 a6 a7 a8 a9 a10)) (fun q => (hK _ _ _ _ _ _ (h.2 q) p e s m args below meth c H locs ls a1 a2 a3 a4 a5 a6 a7 a8 a9 a10))
  · exact h.elim
theorem s_icmp_ge {off : Int} {t : Nat} (hK : Kok G mi Q X K) (hd : decode (iC mi) pc = .ok (.if_icmp .ge off, 3)) (ht : (pc : Int) + off = (t : Int)) (h : w_IC (fun x y => y ≤ x) t K pc L st M kc ks) : Go G mi Q X pc L st M kc ks := by
  unfold w_IC at h
  split at h
  · exact fun p e s m args below meth c H locs ls a1 a2 a3 a4 a5 a6 a7 a8 a9 a10 => lv_icmp_ge a1.1 a1.2.1 hd ht (fun q => (hK _ _ _ _ _ _ (h.1 q) p e s m args below meth c H locs ls a1 a2 a3 a4 a5 a6 a7 a8 a9 a10)) (fun q => (hK _ _ _ _ _ _ (h.2 q) p e s m args below meth c H locs ls a1 a2 a3 a4 a5 a6 a7 a8 a9 a10))
  · exact h.elim
theorem s_if_gt {off : Int} {t : Nat} (hK : Kok G mi Q X K) (hd : decode (iC mi) pc = .ok (.ifCond .gt off, 3)) (ht : (pc : Int) + off = (t : Int)) (h : w_IF (fun x => 0 < x) t K pc L st M kc ks) : Go G mi Q X pc L st M kc ks := by
  unfold w_IF at h
  split at h
  · exact fun p e s m args below meth c H locs ls a1 a2 a3 a4 a5 a6 a7 a8 a9 a10 => lv_if_gt a1.1 a1.2.1 hd ht (fun q => (hK _ _ _ _ _ _ (h.1 q) p e s m args below meth c H locs ls a1 a2 a3 a4 a5 a6 a7 a8 a9 a10)) (fun q => (hK _ _ _ _ _ _ (h.2 q) p e s m args below meth c H locs ls a1 a2 a3 a4 a5 a6 a7 a8 a9 a10))
  · exact h.elim
theorem s_icmp_gt {off : Int} {t : Nat} (hK : Kok G mi Q X K) (hd : decode (iC mi) pc = .ok (.if_icmp .gt off, 3)) (ht : (pc : Int) + off = (t : Int)) (h : w_IC (fun x y => y < x) t K pc L st M kc ks) : Go G mi Q X pc L st M kc ks := by
  unfold w_IC at h
  split at h
  · exact fun p e s m args below meth c H locs ls a1 a2 a3 a4 a5 a6 a7 a8 a9 a10 => lv_icmp_gt a1.1 a1.2.1 hd ht (fun q => (hK _ _ _ _ _ _ (h.1 q) p e s m args below meth c H locs ls a1 a2 a3 a4 a5 a6 a7 a8 a9 a10)) (fun q => (hK _ _ _ _ _ _ (h.2 q) p e s m args below meth c H locs ls a1 a2 a3 a4 a5 a6 a7 a8 a9 a10))
  · exact h.elim
theorem s_if_le {off : Int} {t : Nat} (hK : Kok G mi Q X K) (hd : decode (iC mi) pc = .ok (.ifCond .le off, 3)) (ht : (pc : Int) + off = (t : Int)) (h : w_IF (fun x => x ≤ 0) t K pc L st M kc ks) : Go G mi Q X pc L st M kc ks := by
  unfold w_IF at h
  split at h
  · exact fun p e s m args below meth c H locs ls a1 a2 a3 a4 a5 a6 a7 a8 a9 a10 => lv_if_le a1.1 a1.2.1 hd ht (fun q => (hK _ _ _ _ _ _ (h.1 q) p e s m args below meth c H locs ls a1 a2 a3 a4 a5 a6 a7 a8 a9 a10)) (fun q => (hK _ _ _ _ _ _ (h.2 q) p e s m args below meth c H locs ls a1 a2 a3 a4 a5 a6 a7 a8 a9 a10))
  · exact h.elim
theorem s_icmp_le {off : Int} {t : Nat} (hK : Kok G mi Q X K) (hd : decode (iC mi) pc = .ok (.if_icmp .le off, 3)) (ht : (pc : Int) + off = (t : Int)) (h : w_IC (fun x y => x ≤ y) t K pc L st M kc ks) : Go G mi Q X pc L st M kc ks := by
  unfold w_IC at h
  split at h
  · exact fun p e s m args below meth c H locs ls a1 a2 a3 a4 a5 a6 a7 a8 a9 a10 => lv_icmp_le a1.1 a1.2.1 hd ht (fun q => (hK _ _ _ _ _ _ (h.1 q) p e s m args below meth c H locs ls a1 a2 a3 a4 a5 a6 a7 a8 a9 a10)) (fun q => (hK _ _ _ _ _ _ (h.2 q) p e s m args below meth c H locs ls a1 a2 a3 a4 a5 a6 a7 a8 a9 a10))
  · exact h.elim
def w_GO (t : Nat) (K : Kt) (pc : Nat) (L : List (Option Value)) (st : List Value) (M : Mem) (kc ks : Nat) : Prop := K t L st M kc ks
theorem s_goto {off : Int} {t : Nat} (hK : Kok G mi Q X K) (hd : decode (iC mi) pc = .ok (.goto off, 3)) (ht : (pc : Int) + off = (t : Int)) (h : w_GO t K pc L st M kc ks) : Go G mi Q X pc L st M kc ks := by
  exact fun p e s m args below meth c H locs ls a1 a2 a3 a4 a5 a6 a7 a8 a9 a10 => lv_goto a1.1 a1.2.1 hd ht (hK _ _ _ _ _ _ h p e s m args below meth c H locs ls a1 a2 a3 a4 a5 a6 a7 a8 a9 a10)
def w_NUL (t1 t2 : Nat) (K : Kt) (pc : Nat) (L : List (Option Value)) (st : List Value) (M : Mem) (kc ks : Nat) : Prop := match st with | v :: r => (match vo v with | some x => ((x = none → K t1 L r M kc ks) ∧ (¬ x = none → K t2 L r M kc ks)) | none => False) | _ => False
theorem s_ifnull {off : Int} {t : Nat} (hK : Kok G mi Q X K) (hd : decode (iC mi) pc = .ok (.ifnull off, 3)) (ht : (pc : Int) + off = (t : Int)) (h : w_NUL t (pc + 3) K pc L st M kc ks) : Go G mi Q X pc L st M kc ks := by
  unfold w_NUL at h
  split at h
  · rename_i v r
    split at h
    · rename_i x hv
      have hv := vo_eq hv
      subst hv
      cases x with
      | none => exact fun p e s m args below meth c H locs ls a1 a2 a3 a4 a5 a6 a7 a8 a9 a10 => lv_ifnullN a1.1 a1.2.1 hd ht (hK _ _ _ _ _ _ (h.1 rfl) p e s m args below meth c H locs ls a1 a2 a3 a4 a5 a6 a7 a8 a9 a10)
      | some x => exact fun p e s m args below meth c H locs ls a1 a2 a3 a4 a5 a6 a7 a8 a9 a10 => lv_ifnull a1.1 a1.2.1 hd (hK _ _ _ _ _ _ (h.2 (fun q => nomatch q)) p e s m args below meth c H locs ls a1 a2 a3 a4 a5 a6 a7 a8 a9 a10)
    · exact h.elim
  · exact h.elim
theorem s_ifnonnull {off : Int} {t : Nat} (hK : Kok G mi Q X K) (hd : decode (iC mi) pc = .ok (.ifnonnull off, 3)) (ht : (pc : Int) + off = (t : Int)) (h : w_NUL (pc + 3) t K pc L st M kc ks) : Go G mi Q X pc L st M kc ks := by
  unfold w_NUL at h
  split at h
  · rename_i v r
    split at h
    · rename_i x hv
      have hv := vo_eq hv
      subst hv
      cases x with
      | none => exact fun p e s m args below meth c H locs ls a1 a2 a3 a4 a5 a6 a7 a8 a9 a10 => lv_ifnonnullN a1.1 a1.2.1 hd (hK _ _ _ _ _ _ (h.1 rfl) p e s m args below meth c H locs ls a1 a2 a3 a4 a5 a6 a7 a8 a9 a10)
      | some x => exact fun p e s m args below meth c H locs ls a1 a2 a3 a4 a5 a6 a7 a8 a9 a10 => lv_ifnonnull a1.1 a1.2.1 hd ht (hK _ _ _ _ _ _ (h.2 (fun q => nomatch q)) p e s m args below meth c H locs ls a1 a2 a3 a4 a5 a6 a7 a8 a9 a10)
    · exact h.elim
  · exact h.elim
def w_ACN (t : Nat) (K : Kt) (pc : Nat) (L : List (Option Value)) (st : List Value) (M : Mem) (kc ks : Nat) : Prop := match st with | v :: w :: r => (match vo v, vo w with | some y, some x => ((¬ x = y → K t L r M kc ks) ∧ (x = y → K (pc + 3) L r M kc ks)) | _, _ => False) | _ => False
theorem adr_inj {G : En} {x y : Option Nat} : x.map (adr G) = y.map (adr G) ↔ x = y := by
  cases x <;> cases y <;> simp [adr]
theorem s_acmp_ne {off : Int} {t : Nat} (hK : Kok G mi Q X K) (hd : decode (iC mi) pc = .ok (.if_acmp .ne off, 3)) (ht : (pc : Int) + off = (t : Int)) (h : w_ACN t K pc L st M kc ks) : Go G mi Q X pc L st M kc ks := by
  unfold w_ACN at h
  split at h
  · rename_i v w r
    split at h
    · rename_i y x hy hx
      have hy := vo_eq hy
      have hx := vo_eq hx
      subst hy
      subst hx
      intro p e s m args below meth c H locs ls a1 a2 a3 a4 a5 a6 a7 a8 a9 a10
      show W p (eL G) e (iR mi) s m args below meth c H locs kc ks _ (F0 m pc ls (gv G (rv y) :: gv G (rv x) :: r.map (gv G)))
      rw [gv_rv, gv_rv]
      exact lv_acmp_ne a1.1 a1.2.1 hd ht (fun q => (hK _ _ _ _ _ _ (h.1 (fun z => q (by rw [z]))) p e s m args below meth c H locs ls a1 a2 a3 a4 a5 a6 a7 a8 a9 a10)) (fun q => (hK _ _ _ _ _ _ (h.2 (adr_inj.mp q)) p e s m args below meth c H locs ls a1 a2 a3 a4 a5 a6 a7 a8 a9 a10))
    · exact h.elim
  · exact h.elim
/-- the targets ts of the cases k, k + 1, .. -/
def w_sw (K : Nat → Prop) (x : Int32) : Nat → List Nat → Prop
  | _, [] => True
  | k, t :: ts => (x = Int32.ofNat k → K t) ∧ w_sw K x (k + 1) ts
theorem w_sw_at {K : Nat → Prop} {x : Int32} : ∀ {k : Nat} {ts : List Nat} {i t : Nat}, w_sw K x k ts → ts[i]? = some t → x = Int32.ofNat (k + i) → K t
  | k, [], i, t, _, h, _ => by simp at h
  | k, a :: ts, 0, t, h, h1, h2 => by simp at h1; subst h1; exact h.1 h2
  | k, a :: ts, i + 1, t, h, h1, h2 => w_sw_at (i := i) h.2 (by simpa using h1) (by rw [h2]; congr 1; omega)
def w_TAB (d lo : Nat) (ts : List Nat) (K : Kt) (pc : Nat) (L : List (Option Value)) (st : List Value) (M : Mem) (kc ks : Nat) : Prop := match st with | .int x :: r => (((x.toInt < lo ∨ lo + ts.length ≤ x.toInt) → K d L r M kc ks) ∧ w_sw (fun t => K t L r M kc ks) x lo ts) | _ => False
theorem s_tableswitch {d lo : Nat} {ts : List Nat} {dflt : Int} {offs : Array Int} {len : Nat} {hi : Int} (hK : Kok G mi Q X K) (hd : decode (iC mi) pc = .ok (.tableswitch dflt lo hi offs, len)) (hdf : (pc : Int) + dflt = (d : Int)) (hhi : hi + 1 = lo + ts.length) (hsz : lo + ts.length < 2 ^ 31) (hts : ∀ (n : Nat) (hn : n < ts.length), ∃ off, offs[n]? = some off ∧ (pc : Int) + off = ((ts[n]) : Int)) (h : w_TAB d lo ts K pc L st M kc ks) : Go G mi Q X pc L st M kc ks := by
  unfold w_TAB at h
  split at h
  · rename_i x r
    intro p e s m args below meth c H locs ls a1 a2 a3 a4 a5 a6 a7 a8 a9 a10
    by_cases h1 : x.toInt < lo
    · exact lv_tableOut a1.1 a1.2.1 hd (Or.inl h1) hdf (hK _ _ _ _ _ _ (h.1 (Or.inl h1)) p e s m args below meth c H locs ls a1 a2 a3 a4 a5 a6 a7 a8 a9 a10)
    · by_cases h2 : hi < x.toInt
      · exact lv_tableOut a1.1 a1.2.1 hd (Or.inr h2) hdf (hK _ _ _ _ _ _ (h.1 (Or.inr (by omega))) p e s m args below meth c H locs ls a1 a2 a3 a4 a5 a6 a7 a8 a9 a10)
      · obtain ⟨n, hn⟩ : ∃ n : Nat, x.toInt = lo + n := ⟨(x.toInt - lo).toNat, by omega⟩
        have hlt : n < ts.length := by omega
        have hto := hts n hlt
        obtain ⟨off, ho1, ho2⟩ := hto
        refine lv_tableIn (tgt := ts[n]) a1.1 a1.2.1 hd h1 h2 (off := off) (by rw [show (x.toInt - lo).toNat = n by omega]; exact ho1) ho2 (hK _ _ _ _ _ _ (w_sw_at (K := fun t => K t L r M kc ks) (i := n) h.2 (List.getElem?_eq_getElem hlt) ?_) p e s m args below meth c H locs ls a1 a2 a3 a4 a5 a6 a7 a8 a9 a10)
        apply Int32.toInt_inj.mp
        rw [hn, Int32.toInt_ofNat_of_lt (by omega)]
        omega
  · exact h.elim
def w_lk (K : Nat → Prop) (x : Int32) (d : Nat) : List (Nat × Nat) → Prop
  | [] => K d
  | (k, t) :: ts => (x = Int32.ofNat k → K t) ∧ (¬ x = Int32.ofNat k → w_lk K x d ts)
theorem w_lk_at {K : Nat → Prop} {x : Int32} {d : Nat} {pc : Nat} {dflt : Int} (hdf : (pc : Int) + dflt = (d : Int)) : ∀ {ts : List (Nat × Nat)} {ps : List (Int × Int)}, ts.length = ps.length → (∀ (n : Nat) (q : Nat × Nat) (r : Int × Int), ts[n]? = some q → ps[n]? = some r → r.1 = (q.1 : Int) ∧ q.1 < 2 ^ 31 ∧ (pc : Int) + r.2 = (q.2 : Int)) → w_lk K x d ts → ∃ t : Nat, K t ∧ (pc : Int) + Op.lookupswitch.offset ps dflt x.toInt = (t : Int)
  | [], [], _, _, h => ⟨d, h, by simpa [Op.lookupswitch.offset] using hdf⟩
  | [], _ :: _, hl, _, _ => by simp at hl
  | _ :: _, [], hl, _, _ => by simp at hl
  | (k, t) :: ts, (a, o) :: ps, hl, hq, h => by
    obtain ⟨q1, q2, q3⟩ := hq 0 (k, t) (a, o) rfl rfl
    have hk : (Int32.ofNat k).toInt = a := by rw [Int32.toInt_ofNat_of_lt q2]; exact q1.symm
    by_cases hx : x = Int32.ofNat k
    · refine ⟨t, h.1 hx, ?_⟩
      rw [show Op.lookupswitch.offset ((a, o) :: ps) dflt x.toInt = o by rw [hx, hk]; simp [Op.lookupswitch.offset]]
      exact q3
    · rw [lv_osw hx hk]
      exact w_lk_at hdf (by simpa using hl) (fun n q r e1 e2 => hq (n + 1) q r (by simpa using e1) (by simpa using e2)) (h.2 hx)
def w_LOOK (d : Nat) (ts : List (Nat × Nat)) (K : Kt) (pc : Nat) (L : List (Option Value)) (st : List Value) (M : Mem) (kc ks : Nat) : Prop := match st with | .int x :: r => w_lk (fun t => K t L r M kc ks) x d ts | _ => False
theorem s_lookupswitch {d : Nat} {ts : List (Nat × Nat)} {dflt : Int} {ps : Array (Int × Int)} {len : Nat} (hK : Kok G mi Q X K) (hd : decode (iC mi) pc = .ok (.lookupswitch dflt ps, len)) (hdf : (pc : Int) + dflt = (d : Int)) (hp : (ps.toList.zip (ps.toList.drop 1)).all (fun (a, next) => a.1 < next.1) = true) (hl : ts.length = ps.toList.length) (hts : ∀ (n : Nat) (q : Nat × Nat) (r : Int × Int), ts[n]? = some q → ps.toList[n]? = some r → r.1 = (q.1 : Int) ∧ q.1 < 2 ^ 31 ∧ (pc : Int) + r.2 = (q.2 : Int)) (h : w_LOOK d ts K pc L st M kc ks) : Go G mi Q X pc L st M kc ks := by
  unfold w_LOOK at h
  split at h
  · rename_i x r
    intro p e s m args below meth c H locs ls a1 a2 a3 a4 a5 a6 a7 a8 a9 a10
    obtain ⟨t, h1, h2⟩ := w_lk_at hdf hl hts h
    exact lv_lookup a1.1 a1.2.1 hd hp rfl h2 (hK _ _ _ _ _ _ h1 p e s m args below meth c H locs ls a1 a2 a3 a4 a5 a6 a7 a8 a9 a10)
  · exact h.elim
end PLAIN
