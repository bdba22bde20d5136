/-! WHAT HOLDS AT A METHOD'S ENTRY, AND THE JUDGEMENT Go -/
/-- words that stay true while classes are linked -/
def stw : Cond → Bool
  | .fieldLinkNest _ _ _ _ _ _ => true
  | .methodLinkNest _ _ _ _ => true
  | .castable _ _ => true
  | .arrayOver (.object _) => true
  | .arrayOver (.array _) => true
  | .declares _ => true
  | w => goodWord w
theorem stw_at {w : Cond} (h : stw w = true) {s U : State} (hW : s.WarmedH U.vm) {args a' : Array Value} (hb : w.before args s = true) : w.before a' U = true := by
  unfold stw at h
  split at h
  · exact va_Nw.use rfl (va_Nw.warmF hW (va_Nw.of rfl hb))
  · exact va_Nw.use rfl (va_Nw.warmM hW (va_Nw.of rfl hb))
  · exact va_Nw.use rfl (va_Nw.warmC hW (va_Nw.of rfl hb))
  · exact va_AO.use (va_AO.moved hW.alike (va_AO.of hb))
  · exact Jvm.Stand.arrayOver_alikeB hW.alike hb
  · exact va_Nw.use rfl (va_Nw.warmD hW (va_Nw.of rfl hb))
  · exact word_at hW (good_of_word h) hb
def Tb (s : State) : Prop := ∀ w ∈ lw_tbl, stw w = true → ∀ args : Array Value, w.before args s = true
theorem Tb.go {s U : State} (h : Tb s) (hW : s.WarmedH U.vm) : Tb U := fun w hw hs a => stw_at hs hW (h w hw hs a)
def stN : Nat → String
  | 0 => "FIELD_OF_SLOT"
  | 1 => "SIGNS_OF_SLOT"
  | 2 => "LENGTH_DIGITS"
  | _ => "TYPES"
def stT : Nat → List Int32
  | 0 => [2, 3, 4, 11, 32, 37, 38, 39, 41, 49, 54, 70, 74, 86, 90, 95]
  | 1 => [19, 6, 12, 6, 11, 12, 6, 2, 8, 3, 40, 3, 10, 16, 42, 12]
  | 2 => [2, 0, 0, 0, 2, 0, 0, 0, 0, 0, 3, 0, 0, 0, 0, 0]
  | _ => [100, 101, 110, 220, 221, 230, 400, 401, 410, 420, 421, 430, 500, 501, 510, 800, 810]
def stV (i j : Nat) : Int32 := (stT i).getD j 0
def St (G : En) (s : State) (H : Heap) : Prop :=
  (∀ i, i < 4 → va_Z "PaymentSwitch" (stN i) "[I" (.ref (eS G i)) (aFr G) s H ∧ va_T .int (eS G i) (stT i).length (fun j => .int (stV i j)) (aFr G) s H) ∧
  vx_Zq Bundle.tN "UNASSIGNED_STACK" Bundle.steD (aFr G) s H ∧ vx_Zq Bundle.tN "SUPPRESSED_SENTINEL" Bundle.listD (aFr G) s H ∧
  va_X (eA G) (eN G) (eX G) s H ∧ eA G < eB G ∧ (eL G).stackTraces = false ∧ va_Nc "java/lang/IllegalStateException" "java/lang/IllegalArgumentException" s
theorem St.go {G : En} {s U : State} {H H1 : Heap} (h : St G s H) (hvm : s.vm.Alike U.vm) (hq : ∀ a : Nat, a < H.size → ¬ aFr G a → H1[a]? = H[a]?) : St G U H1 := by
  obtain ⟨h1, h2, h3, ⟨scr, x1, x2, x3, x4, x5⟩, h5, h6, h7⟩ := h
  refine ⟨fun i hi => ⟨((h1 i hi).1.kept hq).moved hvm, ((h1 i hi).2.kept hq).moved hvm⟩, (h2.kept hq).moved hvm, (h3.kept hq).moved hvm, ⟨scr, ?_, State.isArrayOf_alike hvm x2, x3, x4, x5⟩, h5, h6, h7.moved hvm⟩
  rw [hq _ (Array.getElem?_eq_some_iff.mp x1).1 (by unfold aFr; omega)]
  exact x1
def tyL (G : En) : List (ClassId × FieldType) := [(eC G .int, .int), (eC G .long, .long), (eC G .boolean, .boolean), (eC G (.object RX0), .object RX0), (eC G (.object RX3), .object RX3), (eC G (.object RX7), .object RX7), (eC G (.array .int), .array .int)]
/-- the heap holds the memory M -/
def Pw (G : En) (M : Mem) (H : Heap) : Prop := va_P (eD G) vwCl (wl G M) H ∧ (mZ M = true → H.size = eB G + mN M) ∧ eB G ≤ H.size
def Wd (G : En) (M : Mem) (s : State) : Prop := Tb s ∧ va_K (eD G) vwCl (tyL G) s ∧ St G s s.heap ∧ Pw G M s.heap
/-- a method: its name, its bytes, its locals, its answer's type, its handlers, its room -/
abbrev Mi : Type := MethodName × ByteArray × Nat × Option FieldType × List (Nat × Nat × Nat × Nat) × Room
def iY (mi : Mi) : MethodName := mi.1
def iC (mi : Mi) : ByteArray := mi.2.1
def iL (mi : Mi) : Nat := mi.2.2.1
def iT (mi : Mi) : Option FieldType := mi.2.2.2.1
def iH (mi : Mi) : List (Nat × Nat × Nat × Nat) := mi.2.2.2.2.1
def iR (mi : Mi) : Room := mi.2.2.2.2.2
def Fr (mi : Mi) (p : Program) (s : State) (m : MethodId) (meth : Method) (c : Code) : Prop :=
  p.tables.exec = Jvm.exec ∧ c.code = iC mi ∧ meth.sig.returnType = iT mi ∧ c.maxLocals = iL mi ∧ s.vm.findClass (iY mi).cls = some m.cls ∧ meth.locks = false ∧ meth.name = (iY mi).name ∧ c.exceptionTable.toList = tableOf (iH mi)
def Lv (G : En) (mi : Mi) (ls : Array Slot) (L : List (Option Value)) : Prop := lv_has ls (iL mi) [] ∧ ∀ (i : Nat) (v : Value), L[i]? = some (some v) → ls[i]? = some (.val (gv G v))
def Qr (G : En) (Q : Option Value → Mem → Prop) : Array Value → State → Outcome → State → Prop := fun _ st oc t => (∃ (v : Option Value) (M : Mem), oc = .returned (v.map (gv G)) ∧ Q v M ∧ Pw G M t.heap) ∧ va_F (aFr G) st t
def Xr (G : En) (X : String → Mem → Prop) : String → State → State → Prop := fun E st t => (∃ M : Mem, X E M ∧ Pw G M t.heap) ∧ va_F (aFr G) st t
/-- from the place pc of the method mi, with these locals, stack and memory, and kc cells of ks slots made so far: it ends, with Q or (thrown) X -/
def Go (G : En) (mi : Mi) (Q : Option Value → Mem → Prop) (X : String → Mem → Prop) (pc : Nat) (L : List (Option Value)) (st : List Value) (M : Mem) (kc ks : Nat) : Prop :=
  ∀ (p : Program) (e : Env) (s : State) (m : MethodId) (args : Array Value) (below : List Frame) (meth : Method) (c : Code) (H : Heap) (locs : List Loc) (ls : Array Slot),
    Fr mi p s m meth c → Tb s → va_K (eD G) vwCl (tyL G) s → St G s s.heap → Lv G mi ls L → Pw G M H → va_S (aFr G) s.heap H locs → kc ≤ (iR mi).cells → ks ≤ (iR mi).slots → eB G ≤ s.heap.size →
    W p (eL G) e (iR mi) s m args below meth c H locs kc ks (vx_MQ below (Qr G Q) (Xr G X) args s (iR mi).cells (iR mi).slots (aFr G)) (F0 m pc ls (st.map (gv G)))
/-- what is known of fewer locals -/
theorem Go.less {G : En} {mi : Mi} {Q : Option Value → Mem → Prop} {X : String → Mem → Prop} {pc : Nat} {L L' : List (Option Value)} {st : List Value} {M : Mem} {kc ks : Nat} (h : Go G mi Q X pc L' st M kc ks) (hL : ∀ (i : Nat) (v : Value), L'[i]? = some (some v) → L[i]? = some (some v)) : Go G mi Q X pc L st M kc ks :=
  fun p e s m args below meth c H locs ls a1 a2 a3 a4 a5 a6 a7 a8 a9 a10 => h p e s m args below meth c H locs ls a1 a2 a3 a4 ⟨a5.1, fun i v q => a5.2 i v (hL i v q)⟩ a6 a7 a8 a9 a10
/-- more cells and slots are counted -/
theorem Go.more {G : En} {mi : Mi} {Q : Option Value → Mem → Prop} {X : String → Mem → Prop} {pc : Nat} {L : List (Option Value)} {st : List Value} {M : Mem} {kc ks kc' ks' : Nat} (h1 : kc ≤ kc') (h2 : ks ≤ ks') (h3 : kc' ≤ (iR mi).cells) (h4 : ks' ≤ (iR mi).slots) (h : Go G mi Q X pc L st M kc' ks') : Go G mi Q X pc L st M kc ks :=
  fun p e s m args below meth c H locs ls a1 a2 a3 a4 a5 a6 a7 _ _ a10 => W.widen h1 h2 (h p e s m args below meth c H locs ls a1 a2 a3 a4 a5 a6 a7 h3 h4 a10)
