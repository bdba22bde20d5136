/-! THE WORLD: the system's cells as three tables by address (an offset from the law's first own cell) and place -/
abbrev Lk : Type := (FieldType × Nat) ⊕ Nat
abbrev Mem : Type := (Nat × (Nat → Option Lk) × Bool) × (Nat → Nat → Int32) × (Nat → Nat → Int64) × (Nat → Nat → Option Nat)
def mN (M : Mem) : Nat := M.1.1
def mY (M : Mem) : Nat → Option Lk := M.1.2.1
def mZ (M : Mem) : Bool := M.1.2.2
def mI (M : Mem) : Nat → Nat → Int32 := M.2.1
def mL (M : Mem) : Nat → Nat → Int64 := M.2.2.1
def mR (M : Mem) : Nat → Nat → Option Nat := M.2.2.2
def up2 {α : Type} (f : Nat → Nat → α) (a j : Nat) (v : α) : Nat → Nat → α := fun b k => if b = a ∧ k = j then v else f b k
def uI (M : Mem) (a j : Nat) (v : Int32) : Mem := (M.1, up2 M.2.1 a j v, M.2.2.1, M.2.2.2)
def uL (M : Mem) (a j : Nat) (v : Int64) : Mem := (M.1, M.2.1, up2 M.2.2.1 a j v, M.2.2.2)
def uR (M : Mem) (a j : Nat) (v : Option Nat) : Mem := (M.1, M.2.1, M.2.2.1, up2 M.2.2.2 a j v)
/-- one more cell, of the kind e, all default -/
def uN (M : Mem) (e : Lk) : Mem := ((M.1.1 + 1, (fun a => if a = M.1.1 then some e else M.1.2.1 a), M.1.2.2), (fun a j => if a = M.1.1 then 0 else M.2.1 a j), (fun a j => if a = M.1.1 then 0 else M.2.2.1 a j), (fun a j => if a = M.1.1 then none else M.2.2.2 a j))
/-- how large the heap is isn't known any more -/
def uZ (M : Mem) : Mem := ((M.1.1, M.1.2.1, false), M.2.1, M.2.2.1, M.2.2.2)
theorem up2_ne {α : Type} {f : Nat → Nat → α} {a j b k : Nat} {v : α} (h : b ≠ a) : up2 f a j v b k = f b k := by
  unfold up2; rw [if_neg (fun q => h q.1)]
theorem up2_nk {α : Type} {f : Nat → Nat → α} {a j b k : Nat} {v : α} (h : k ≠ j) : up2 f a j v b k = f b k := by
  unfold up2; rw [if_neg (fun q => h q.2)]
theorem up2_eq {α : Type} {f : Nat → Nat → α} {a j : Nat} {v : α} : up2 f a j v a j = v := by
  unfold up2; rw [if_pos ⟨rfl, rfl⟩]
/-- a cell of the kind e lies at a -/
def hasK (M : Mem) (a : Nat) (e : Lk) : Prop := a < mN M ∧ mY M a = some e
/-- the launch; the numbers of classes and slots; the array classes; the law's first cell; the static tables; the script -/
abbrev En : Type := Launch × va_G × (FieldType → ClassId) × Nat × (Nat → Nat) × Nat × Nat × (Nat → Int32)
def eL (G : En) : Launch := G.1
def eD (G : En) : va_G := G.2.1
def eC (G : En) : FieldType → ClassId := G.2.2.1
def eB (G : En) : Nat := G.2.2.2.1
def eS (G : En) : Nat → Nat := G.2.2.2.2.1
def eA (G : En) : Nat := G.2.2.2.2.2.1
def eN (G : En) : Nat := G.2.2.2.2.2.2.1
def eX (G : En) : Nat → Int32 := G.2.2.2.2.2.2.2
def aFr (G : En) : Nat → Prop := fun q => eB G ≤ q
/-- a reference k of the memory is the cell eB + k; 'retAddr q' stands for the static table q, or the script -/
def adr (G : En) (k : Nat) : Nat := eB G + k
def gv (G : En) : Value → Value
  | .ref k => .ref (adr G k)
  | .retAddr q => .ref (if q < 4 then eS G q else eA G)
  | v => v
def rv : Option Nat → Value
  | some k => .ref k
  | none => .null
theorem gv_rv (G : En) (o : Option Nat) : gv G (rv o) = va_rf (o.map (adr G)) := by cases o <;> rfl
def clTy (ci : Nat) : Nat → FieldType := match ci with
  | 0 => tyX0 | 1 => tyX1 | 2 => tyX2 | 3 => tyX3 | 4 => tyX4 | 5 => tyX5 | 6 => tyX6 | 7 => tyX7 | 8 => tyX8 | 9 => tyX9 | 10 => tyX10 | 11 => tyX11 | _ => tyX12
def clN (ci : Nat) : Nat := (vwCl.getD ci ("", TX0, 0)).2.2
def fvl (G : En) (M : Mem) (ty : FieldType) (a j : Nat) : Value := match ty with
  | .long => .long (mL M a j)
  | .object _ => va_rf ((mR M a j).map (adr G))
  | .array _ => va_rf ((mR M a j).map (adr G))
  | _ => .int (mI M a j)
def cE (G : En) (M : Mem) (a : Nat) (e : Lk) : va_E := match e with
  | .inl (ty, n) => .inl (eC G ty, n, match ty with
    | .long => .inr (.inl (mL M a))
    | .object _ => .inr (.inr (.inr (.inr (fun j => (mR M a j).map (adr G)))))
    | .array _ => .inr (.inr (.inr (.inr (fun j => (mR M a j).map (adr G)))))
    | _ => .inl (mI M a))
  | .inr ci => .inr (ci, (List.range (clN ci)).map (fun j => fvl G M (clTy ci j) a j))
def wl (G : En) (M : Mem) : va_W := (List.range (mN M)).map (fun a => (eB G + a, cE G M a ((mY M a).getD (.inr 99))))
theorem wl_len (G : En) (M : Mem) : (wl G M).length = mN M := by simp [wl]
theorem wl_at {G : En} {M : Mem} {a : Nat} {e : Lk} (h : hasK M a e) : (wl G M)[a]? = some (eB G + a, cE G M a e) := by
  unfold wl
  rw [List.getElem?_map, List.getElem?_range h.1, Option.map_some, h.2]
  rfl
theorem wl_get {G : En} {M : Mem} {k : Nat} (h : k < mN M) : (wl G M)[k]? = some (eB G + k, cE G M k ((mY M k).getD (.inr 99))) := by
  unfold wl
  rw [List.getElem?_map, List.getElem?_range h, Option.map_some]
theorem wl_set {G : En} {M M' : Mem} {a : Nat} {e : Lk} (h : hasK M a e) (hn : mN M' = mN M) (hy : mY M' = mY M) (hk : ∀ k e', k ≠ a → cE G M' k e' = cE G M k e') : wl G M' = (wl G M).set a (eB G + a, cE G M' a e) := by
  apply List.ext_getElem?
  intro k
  by_cases hl : k < mN M
  · rw [wl_get (by rw [hn]; exact hl), List.getElem?_set]
    by_cases e1 : a = k
    · subst e1
      rw [if_pos rfl, if_pos (by rw [wl_len]; exact hl), hy, h.2]
      rfl
    · rw [if_neg e1, wl_get hl, hy, hk k _ (Ne.symm e1)]
  · rw [List.getElem?_eq_none (by rw [wl_len, hn]; omega), List.getElem?_eq_none (by rw [List.length_set, wl_len]; omega)]
theorem wl_D (G : En) (M : Mem) : va_D (aFr G) (wl G M) := by
  refine ⟨fun i j p q hi hj he => ?_, fun k q hk => ?_⟩
  · have h1 : i < mN M := by rw [← wl_len G M]; exact (List.getElem?_eq_some_iff.mp hi).1
    have h2 : j < mN M := by rw [← wl_len G M]; exact (List.getElem?_eq_some_iff.mp hj).1
    rw [wl_get h1] at hi
    rw [wl_get h2] at hj
    cases hi
    cases hj
    have he : eB G + i = eB G + j := he
    omega
  · have h1 : k < mN M := by rw [← wl_len G M]; exact (List.getElem?_eq_some_iff.mp hk).1
    rw [wl_get h1] at hk
    cases hk
    show eB G ≤ eB G + k
    omega
theorem cE_uI {G : En} {M : Mem} {a j k : Nat} {v : Int32} {e : Lk} (h : k ≠ a) : cE G (uI M a j v) k e = cE G M k e := by
  have h1 : ∀ i, mI (uI M a j v) k i = mI M k i := fun i => up2_ne h
  have h2 : mI (uI M a j v) k = mI M k := funext h1
  rcases e with ⟨ty, n⟩ | ci
  · cases ty <;> simp only [cE, h2] <;> rfl
  · simp only [cE]
    congr 2
    apply List.map_congr_left
    intro i _
    cases clTy ci i <;> simp only [fvl, h1] <;> rfl
theorem cE_uL {G : En} {M : Mem} {a j k : Nat} {v : Int64} {e : Lk} (h : k ≠ a) : cE G (uL M a j v) k e = cE G M k e := by
  have h1 : ∀ i, mL (uL M a j v) k i = mL M k i := fun i => up2_ne h
  have h2 : mL (uL M a j v) k = mL M k := funext h1
  rcases e with ⟨ty, n⟩ | ci
  · cases ty <;> simp only [cE, h2] <;> rfl
  · simp only [cE]
    congr 2
    apply List.map_congr_left
    intro i _
    cases clTy ci i <;> simp only [fvl, h1] <;> rfl
theorem cE_uR {G : En} {M : Mem} {a j k : Nat} {v : Option Nat} {e : Lk} (h : k ≠ a) : cE G (uR M a j v) k e = cE G M k e := by
  have h1 : ∀ i, mR (uR M a j v) k i = mR M k i := fun i => up2_ne h
  rcases e with ⟨ty, n⟩ | ci
  · cases ty <;> simp only [cE, h1] <;> rfl
  · simp only [cE]
    congr 2
    apply List.map_congr_left
    intro i _
    cases clTy ci i <;> simp only [fvl, h1] <;> rfl
/-- a field of an object changes: the row of its fields has the new one -/
theorem cE_row {G : En} {M M' : Mem} {a j ci : Nat} (hj : ∀ i, i < clN ci → i ≠ j → fvl G M' (clTy ci i) a i = fvl G M (clTy ci i) a i) : (List.range (clN ci)).map (fun i => fvl G M' (clTy ci i) a i) = ((List.range (clN ci)).map (fun i => fvl G M (clTy ci i) a i)).set j (fvl G M' (clTy ci j) a j) := by
  apply List.ext_getElem?
  intro k
  rw [List.getElem?_set, List.getElem?_map, List.getElem?_map]
  by_cases hl : k < clN ci
  · rw [List.getElem?_range hl, Option.map_some, Option.map_some]
    by_cases e1 : j = k
    · subst e1
      rw [if_pos rfl, if_pos (by simpa using hl)]
    · rw [if_neg e1, hj k hl (Ne.symm e1)]
  · rw [List.getElem?_eq_none (by simpa using hl), Option.map_none, Option.map_none]
    by_cases e1 : j = k
    · rw [if_pos e1, if_neg (by simpa [e1] using hl)]
    · rw [if_neg e1]
