/-! RULES OF FIELDS, ARRAYS AND ANSWERS -/
/-- class ci of the list, by its name, table and number of fields, with what a field's row needs -/
def clOk (ci : Nat) (R : String) (T : u_T) (N : Nat) : Prop := vwCl[ci]? = some (R, T, N) ∧ (∀ w ∈ u_ws R T N, w ∈ lw_tbl ∧ stw w = true) ∧ (∀ k, k < N → parseFieldDescriptor (T k).2.2.1 = some (clTy ci k)) ∧ (∀ a, a < N → ∀ b, b < N → a ≠ b → (T a).2.1 ≠ (T b).2.1)
theorem clOk.n {ci : Nat} {R : String} {T : u_T} {N : Nat} (h : clOk ci R T N) : clN ci = N := by
  unfold clN
  rw [List.getD_eq_getElem?_getD, h.1]
  rfl
/-- the words of the tables that stay, at a method's entry -/
def tbs : List Cond := lw_tbl.filter stw
theorem tbs_at {s : State} (h : Tb s) (args : Array Value) : ∀ w ∈ tbs, w.before args s = true := fun w hw => h w (List.mem_filter.mp hw).1 (List.mem_filter.mp hw).2 args
theorem clOk.ws {ci : Nat} {R : String} {T : u_T} {N : Nat} (h : clOk ci R T N) : ∀ w ∈ u_ws R T N, w ∈ tbs := fun w hw => List.mem_filter.mpr (h.2.1 w hw)
def kindOf : FieldType → Nat
  | .int => 0
  | .long => 1
  | .object _ => 2
  | .array _ => 2
  | .boolean => 3
  | _ => 9
section HEAP
variable {G : En} {mi : Mi} {Q : Option Value → Mem → Prop} {X : String → Mem → Prop} {K : Kt} {pc : Nat} {L : List (Option Value)} {st : List Value} {M : Mem} {kc ks : Nat}
/-- what a field of kind kd holds -/
def fget (M : Mem) (kd a j : Nat) : Value := match kd with
  | 1 => .long (mL M a j)
  | 2 => rv (mR M a j)
  | _ => .int (mI M a j)
theorem fget_fvl {G : En} {M : Mem} {ty : FieldType} {kd a j : Nat} (h : kindOf ty = kd) : gv G (fget M kd a j) = fvl G M ty a j := by
  subst h
  cases ty <;> first | rfl | exact gv_rv G _
def w_GF (ci j kd : Nat) (K : Kt) (pc : Nat) (L : List (Option Value)) (st : List Value) (M : Mem) (kc ks : Nat) : Prop := match st with | v :: r => (match vo v with | some (some a) => (hasK M a (.inr ci) ∧ K (pc + 3) L (fget M kd a j :: r) M kc ks) | _ => False) | _ => False
theorem s_getfield {n ci j kd : Nat} {C : String} {T : u_T} {N : Nat} (hK : Kok G mi Q X K) (hd : decode (iC mi) pc = .ok (.getfield n, 3)) (hc : clOk ci C T N) (hj : j < N) (hk : kindOf (clTy ci j) = kd) (hw : (Cond.fieldLink (iY mi).cls n (T j).1 (T j).2.1 (T j).2.2.1 ∈ lw_tbl ∧ stw (Cond.fieldLink (iY mi).cls n (T j).1 (T j).2.1 (T j).2.2.1) = true) ∨ Cond.fieldLinkNest (iY mi).cls n (T j).1 (T j).2.1 (T j).2.2.1 "PaymentSwitch" ∈ lw_tbl) (h : w_GF ci j kd K pc L st M kc ks) : Go G mi Q X pc L st M kc ks := by
  unfold w_GF at h
  split at h
  · rename_i v r
    split at h
    · rename_i a hv
      have hv := vo_eq hv
      subst hv
      intro p e s m args below meth c H locs ls a1 a2 a3 a4 a5 a6 a7 a8 a9 a10
      have hk9 := hK _ _ _ _ _ _ h.2 p e s m args below meth c H locs ls a1 a2 a3 a4 a5 a6 a7 a8 a9 a10
      have hat := wl_at (G := G) h.1
      have hval : ((List.range (clN ci)).map (fun j => fvl G M (clTy ci j) a j))[j]? = some (gv G (fget M kd a j)) := by
        rw [List.getElem?_map, List.getElem?_range (by rw [hc.n]; exact hj), Option.map_some, fget_fvl hk]
      have e1 : gv G (rv (some a)) = .ref (eB G + a) := rfl
      show W p (eL G) e (iR mi) s m args below meth c H locs kc ks _ (F0 m pc ls (gv G (rv (some a)) :: r.map (gv G)))
      rw [e1]
      rcases hw with ⟨hw, hs⟩ | hw
      · exact va_get a1.1 a1.2.1 (tbs_at a2 args) hc.ws a1.2.2.2.2.1 a3 a6.1 a hat hc.1 j hj (a2 _ hw hs _) (fun _ q => q) hval hd hk9
      · exact va_getN a1.1 a1.2.1 (tbs_at a2 args) hc.ws a1.2.2.2.2.1 a3 a6.1 a hat hc.1 j hj (a2 _ hw rfl _) (fun _ q => q) hval hd hk9
    · exact h.elim
  · exact h.elim
end HEAP
