/-! AT THE LAW'S ENTRY -/
theorem tb_start {s : State} {a0 : Array Value} (hts : ∀ w ∈ lw_tbl, w.before a0 s = true) : Tb s := fun w hw hs _ => stw_at hs (State.WarmedH.refl s) (hts w hw)
theorem in_ok {ci : Nat} {q : vw_C} (h : vwCl[ci]? = some q) : Cond.instantiable q.1 q.2.2 ∈ lw_tbl := by
  match ci, h with
  | 0, h => cases h; exact List.mem_of_getElem? (i := 128) (by decide +kernel)
  | 1, h => cases h; exact List.mem_of_getElem? (i := 394) (by decide +kernel)
  | 2, h => cases h; exact List.mem_of_getElem? (i := 251) (by decide +kernel)
  | 3, h => cases h; exact List.mem_of_getElem? (i := 401) (by decide +kernel)
  | 4, h => cases h; exact List.mem_of_getElem? (i := 538) (by decide +kernel)
  | 5, h => cases h; exact List.mem_of_getElem? (i := 445) (by decide +kernel)
  | 6, h => cases h; exact List.mem_of_getElem? (i := 480) (by decide +kernel)
  | 7, h => cases h; exact List.mem_of_getElem? (i := 291) (by decide +kernel)
  | 8, h => cases h; exact List.mem_of_getElem? (i := 257) (by decide +kernel)
  | 9, h => cases h; exact List.mem_of_getElem? (i := 514) (by decide +kernel)
  | 10, h => cases h; exact List.mem_of_getElem? (i := 121) (by decide +kernel)
  | 11, h => cases h; exact List.mem_of_getElem? (i := 113) (by decide +kernel)
  | 12, h => cases h; exact List.mem_of_getElem? (i := 1524) (by decide +kernel)
  | n + 13, h => simp [vwCl] at h
theorem ty_prim {s : State} {a0 : Array Value} (hts : ∀ w ∈ lw_tbl, w.before a0 s = true) {ty : FieldType} (hm : Cond.arrayClass ty ∈ lw_tbl) (ho : ∀ C, ty ≠ .object C) : ∃ c : ClassId, ArrOfT s c ty ∧ va_RA s c ty := by
  obtain ⟨c, k, comp, h1, h2, h3⟩ := Cond.arrayClass_spec (hts _ hm)
  refine ⟨c, fun N z => ⟨(fun q hq => by cases hq), k, h2, comp, h3⟩, ?_⟩
  cases ty <;> first | exact h1 | exact absurd rfl (ho _)
theorem ty_obj {s : State} {a0 : Array Value} (hts : ∀ w ∈ lw_tbl, w.before a0 s = true) {C : String} (hm : Cond.arrayOver (.object C) ∈ lw_tbl) : ∃ c : ClassId, ArrOfT s c (.object C) ∧ va_RA s c (.object C) := by
  obtain ⟨comp, c, k, h1, h2, h3, h4, h5⟩ := Cond.arrayOver_spec (hts _ hm)
  exact ⟨c, fun N z => ⟨(fun q hq => by cases hq), k, h3, comp, h4⟩, k, comp, h3, h4, h1, h5⟩
theorem ty_arr {s : State} {a0 : Array Value} (hts : ∀ w ∈ lw_tbl, w.before a0 s = true) {t : FieldType} (hm : Cond.arrayOver (.array t) ∈ lw_tbl) : ∃ c : ClassId, ArrOfT s c (.array t) ∧ va_RA s c (.array t) := by
  obtain ⟨comp, c, k, h1, h2, h3, h4, h5⟩ := Jvm.Stand.arrayOver_specB (hts _ hm)
  exact ⟨c, fun N z => ⟨(fun q hq => by cases hq), k, h3, comp, h4⟩, h5⟩
/-- the classes' and the array classes' numbers -/
theorem k_start {s : State} {a0 : Array Value} (hts : ∀ w ∈ lw_tbl, w.before a0 s = true) : ∃ (D : va_G) (cC : FieldType → ClassId), va_K D vwCl [(cC .int, .int), (cC .long, .long), (cC .boolean, .boolean), (cC (.object RX0), .object RX0), (cC (.object RX3), .object RX3), (cC (.object RX7), .object RX7), (cC (.array .int), .array .int)] s := by
  have tb := tb_start hts
  have hcl : ∀ c : Nat, ∃ p : ClassId × (Nat → Nat), ∀ q, vwCl[c]? = some q → u_Kn s q.1 q.2.1 q.2.2 p.1 p.2 := by
    intro c
    cases hq : vwCl[c]? with
    | none => exact ⟨(0, fun _ => 0), fun q h => nomatch h⟩
    | some q =>
      obtain ⟨cC, iS, h⟩ := u_known (n := q.2.2) (tbs_at tb a0) (cl_ok hq).ws (hts _ (in_ok hq))
      exact ⟨(cC, iS), fun q' h' => by cases h'; exact h⟩
  obtain ⟨c1, i1⟩ := ty_prim hts (ty := .int) (List.mem_of_getElem? (i := 171) (by decide +kernel)) (fun _ h => nomatch h)
  obtain ⟨c2, i2⟩ := ty_prim hts (ty := .long) (List.mem_of_getElem? (i := 172) (by decide +kernel)) (fun _ h => nomatch h)
  obtain ⟨c3, i3⟩ := ty_prim hts (ty := .boolean) (List.mem_of_getElem? (i := 173) (by decide +kernel)) (fun _ h => nomatch h)
  obtain ⟨c4, i4⟩ := ty_obj hts (C := RX0) (List.mem_of_getElem? (i := 127) (by decide +kernel))
  obtain ⟨c5, i5⟩ := ty_obj hts (C := RX3) (List.mem_of_getElem? (i := 400) (by decide +kernel))
  obtain ⟨c6, i6⟩ := ty_obj hts (C := RX7) (List.mem_of_getElem? (i := 290) (by decide +kernel))
  obtain ⟨c7, i7⟩ := ty_arr hts (t := .int) (List.mem_of_getElem? (i := 486) (by decide +kernel))
  refine ⟨(fun c => (Classical.choose (hcl c)).1, fun c => (Classical.choose (hcl c)).2), fun ty => if ty = .int then c1 else if ty = .long then c2 else if ty = .boolean then c3 else if ty = .object RX0 then c4 else if ty = .object RX3 then c5 else if ty = .object RX7 then c6 else c7, fun c q hq => Classical.choose_spec (hcl c) q hq, fun k q hk => ?_⟩
  match k, hk with
  | 0, hk => cases hk; exact i1
  | 1, hk => cases hk; exact i2
  | 2, hk => cases hk; exact i3
  | 3, hk => cases hk; exact i4
  | 4, hk => cases hk; exact i5
  | 5, hk => cases hk; exact i6
  | 6, hk => cases hk; exact i7
  | n + 7, hk => simp at hk
theorem st_0 {s : State} {a0 : Array Value} {A : Nat → Prop} (hs : ∀ c ∈ flatC (Jvm.Cond.and given_1 narrow_1), c.before a0 s = true) (hA : ∀ a : Nat, a < s.heap.size → ¬ A a) : ∃ t : Nat, (Term.static "PaymentSwitch" "FIELD_OF_SLOT" "[I").eval a0 s none [] s = some (.ref t) ∧ va_T .int t 16 (fun j => .int (stV 0 j)) A s s.heap := by
  refine va_Tof (N := 16) (by decide) (hs (.arrayOf (.static "PaymentSwitch" "FIELD_OF_SLOT" "[I") .int) (by decide +kernel)) (va_eqt (hs (.eq (.length (.static "PaymentSwitch" "FIELD_OF_SLOT" "[I")) (.int 16)) (by decide +kernel))) (fun j hj => ?_) hA
  match j, hj with
  | 0, _ => exact va_eqt (hs (.eq (.elem (.static "PaymentSwitch" "FIELD_OF_SLOT" "[I") (.int 0)) (.int 2)) (by decide +kernel))
  | 1, _ => exact va_eqt (hs (.eq (.elem (.static "PaymentSwitch" "FIELD_OF_SLOT" "[I") (.int 1)) (.int 3)) (by decide +kernel))
  | 2, _ => exact va_eqt (hs (.eq (.elem (.static "PaymentSwitch" "FIELD_OF_SLOT" "[I") (.int 2)) (.int 4)) (by decide +kernel))
  | 3, _ => exact va_eqt (hs (.eq (.elem (.static "PaymentSwitch" "FIELD_OF_SLOT" "[I") (.int 3)) (.int 11)) (by decide +kernel))
  | 4, _ => exact va_eqt (hs (.eq (.elem (.static "PaymentSwitch" "FIELD_OF_SLOT" "[I") (.int 4)) (.int 32)) (by decide +kernel))
  | 5, _ => exact va_eqt (hs (.eq (.elem (.static "PaymentSwitch" "FIELD_OF_SLOT" "[I") (.int 5)) (.int 37)) (by decide +kernel))
  | 6, _ => exact va_eqt (hs (.eq (.elem (.static "PaymentSwitch" "FIELD_OF_SLOT" "[I") (.int 6)) (.int 38)) (by decide +kernel))
  | 7, _ => exact va_eqt (hs (.eq (.elem (.static "PaymentSwitch" "FIELD_OF_SLOT" "[I") (.int 7)) (.int 39)) (by decide +kernel))
  | 8, _ => exact va_eqt (hs (.eq (.elem (.static "PaymentSwitch" "FIELD_OF_SLOT" "[I") (.int 8)) (.int 41)) (by decide +kernel))
  | 9, _ => exact va_eqt (hs (.eq (.elem (.static "PaymentSwitch" "FIELD_OF_SLOT" "[I") (.int 9)) (.int 49)) (by decide +kernel))
  | 10, _ => exact va_eqt (hs (.eq (.elem (.static "PaymentSwitch" "FIELD_OF_SLOT" "[I") (.int 10)) (.int 54)) (by decide +kernel))
  | 11, _ => exact va_eqt (hs (.eq (.elem (.static "PaymentSwitch" "FIELD_OF_SLOT" "[I") (.int 11)) (.int 70)) (by decide +kernel))
  | 12, _ => exact va_eqt (hs (.eq (.elem (.static "PaymentSwitch" "FIELD_OF_SLOT" "[I") (.int 12)) (.int 74)) (by decide +kernel))
  | 13, _ => exact va_eqt (hs (.eq (.elem (.static "PaymentSwitch" "FIELD_OF_SLOT" "[I") (.int 13)) (.int 86)) (by decide +kernel))
  | 14, _ => exact va_eqt (hs (.eq (.elem (.static "PaymentSwitch" "FIELD_OF_SLOT" "[I") (.int 14)) (.int 90)) (by decide +kernel))
  | 15, _ => exact va_eqt (hs (.eq (.elem (.static "PaymentSwitch" "FIELD_OF_SLOT" "[I") (.int 15)) (.int 95)) (by decide +kernel))
  | n + 16, hj => omega
theorem st_1 {s : State} {a0 : Array Value} {A : Nat → Prop} (hs : ∀ c ∈ flatC (Jvm.Cond.and given_1 narrow_1), c.before a0 s = true) (hA : ∀ a : Nat, a < s.heap.size → ¬ A a) : ∃ t : Nat, (Term.static "PaymentSwitch" "SIGNS_OF_SLOT" "[I").eval a0 s none [] s = some (.ref t) ∧ va_T .int t 16 (fun j => .int (stV 1 j)) A s s.heap := by
  refine va_Tof (N := 16) (by decide) (hs (.arrayOf (.static "PaymentSwitch" "SIGNS_OF_SLOT" "[I") .int) (by decide +kernel)) (va_eqt (hs (.eq (.length (.static "PaymentSwitch" "SIGNS_OF_SLOT" "[I")) (.int 16)) (by decide +kernel))) (fun j hj => ?_) hA
  match j, hj with
  | 0, _ => exact va_eqt (hs (.eq (.elem (.static "PaymentSwitch" "SIGNS_OF_SLOT" "[I") (.int 0)) (.int 19)) (by decide +kernel))
  | 1, _ => exact va_eqt (hs (.eq (.elem (.static "PaymentSwitch" "SIGNS_OF_SLOT" "[I") (.int 1)) (.int 6)) (by decide +kernel))
  | 2, _ => exact va_eqt (hs (.eq (.elem (.static "PaymentSwitch" "SIGNS_OF_SLOT" "[I") (.int 2)) (.int 12)) (by decide +kernel))
  | 3, _ => exact va_eqt (hs (.eq (.elem (.static "PaymentSwitch" "SIGNS_OF_SLOT" "[I") (.int 3)) (.int 6)) (by decide +kernel))
  | 4, _ => exact va_eqt (hs (.eq (.elem (.static "PaymentSwitch" "SIGNS_OF_SLOT" "[I") (.int 4)) (.int 11)) (by decide +kernel))
  | 5, _ => exact va_eqt (hs (.eq (.elem (.static "PaymentSwitch" "SIGNS_OF_SLOT" "[I") (.int 5)) (.int 12)) (by decide +kernel))
  | 6, _ => exact va_eqt (hs (.eq (.elem (.static "PaymentSwitch" "SIGNS_OF_SLOT" "[I") (.int 6)) (.int 6)) (by decide +kernel))
  | 7, _ => exact va_eqt (hs (.eq (.elem (.static "PaymentSwitch" "SIGNS_OF_SLOT" "[I") (.int 7)) (.int 2)) (by decide +kernel))
  | 8, _ => exact va_eqt (hs (.eq (.elem (.static "PaymentSwitch" "SIGNS_OF_SLOT" "[I") (.int 8)) (.int 8)) (by decide +kernel))
  | 9, _ => exact va_eqt (hs (.eq (.elem (.static "PaymentSwitch" "SIGNS_OF_SLOT" "[I") (.int 9)) (.int 3)) (by decide +kernel))
  | 10, _ => exact va_eqt (hs (.eq (.elem (.static "PaymentSwitch" "SIGNS_OF_SLOT" "[I") (.int 10)) (.int 40)) (by decide +kernel))
  | 11, _ => exact va_eqt (hs (.eq (.elem (.static "PaymentSwitch" "SIGNS_OF_SLOT" "[I") (.int 11)) (.int 3)) (by decide +kernel))
  | 12, _ => exact va_eqt (hs (.eq (.elem (.static "PaymentSwitch" "SIGNS_OF_SLOT" "[I") (.int 12)) (.int 10)) (by decide +kernel))
  | 13, _ => exact va_eqt (hs (.eq (.elem (.static "PaymentSwitch" "SIGNS_OF_SLOT" "[I") (.int 13)) (.int 16)) (by decide +kernel))
  | 14, _ => exact va_eqt (hs (.eq (.elem (.static "PaymentSwitch" "SIGNS_OF_SLOT" "[I") (.int 14)) (.int 42)) (by decide +kernel))
  | 15, _ => exact va_eqt (hs (.eq (.elem (.static "PaymentSwitch" "SIGNS_OF_SLOT" "[I") (.int 15)) (.int 12)) (by decide +kernel))
  | n + 16, hj => omega
theorem st_2 {s : State} {a0 : Array Value} {A : Nat → Prop} (hs : ∀ c ∈ flatC (Jvm.Cond.and given_1 narrow_1), c.before a0 s = true) (hA : ∀ a : Nat, a < s.heap.size → ¬ A a) : ∃ t : Nat, (Term.static "PaymentSwitch" "LENGTH_DIGITS" "[I").eval a0 s none [] s = some (.ref t) ∧ va_T .int t 16 (fun j => .int (stV 2 j)) A s s.heap := by
  refine va_Tof (N := 16) (by decide) (hs (.arrayOf (.static "PaymentSwitch" "LENGTH_DIGITS" "[I") .int) (by decide +kernel)) (va_eqt (hs (.eq (.length (.static "PaymentSwitch" "LENGTH_DIGITS" "[I")) (.int 16)) (by decide +kernel))) (fun j hj => ?_) hA
  match j, hj with
  | 0, _ => exact va_eqt (hs (.eq (.elem (.static "PaymentSwitch" "LENGTH_DIGITS" "[I") (.int 0)) (.int 2)) (by decide +kernel))
  | 1, _ => exact va_eqt (hs (.eq (.elem (.static "PaymentSwitch" "LENGTH_DIGITS" "[I") (.int 1)) (.int 0)) (by decide +kernel))
  | 2, _ => exact va_eqt (hs (.eq (.elem (.static "PaymentSwitch" "LENGTH_DIGITS" "[I") (.int 2)) (.int 0)) (by decide +kernel))
  | 3, _ => exact va_eqt (hs (.eq (.elem (.static "PaymentSwitch" "LENGTH_DIGITS" "[I") (.int 3)) (.int 0)) (by decide +kernel))
  | 4, _ => exact va_eqt (hs (.eq (.elem (.static "PaymentSwitch" "LENGTH_DIGITS" "[I") (.int 4)) (.int 2)) (by decide +kernel))
  | 5, _ => exact va_eqt (hs (.eq (.elem (.static "PaymentSwitch" "LENGTH_DIGITS" "[I") (.int 5)) (.int 0)) (by decide +kernel))
  | 6, _ => exact va_eqt (hs (.eq (.elem (.static "PaymentSwitch" "LENGTH_DIGITS" "[I") (.int 6)) (.int 0)) (by decide +kernel))
  | 7, _ => exact va_eqt (hs (.eq (.elem (.static "PaymentSwitch" "LENGTH_DIGITS" "[I") (.int 7)) (.int 0)) (by decide +kernel))
  | 8, _ => exact va_eqt (hs (.eq (.elem (.static "PaymentSwitch" "LENGTH_DIGITS" "[I") (.int 8)) (.int 0)) (by decide +kernel))
  | 9, _ => exact va_eqt (hs (.eq (.elem (.static "PaymentSwitch" "LENGTH_DIGITS" "[I") (.int 9)) (.int 0)) (by decide +kernel))
  | 10, _ => exact va_eqt (hs (.eq (.elem (.static "PaymentSwitch" "LENGTH_DIGITS" "[I") (.int 10)) (.int 3)) (by decide +kernel))
  | 11, _ => exact va_eqt (hs (.eq (.elem (.static "PaymentSwitch" "LENGTH_DIGITS" "[I") (.int 11)) (.int 0)) (by decide +kernel))
  | 12, _ => exact va_eqt (hs (.eq (.elem (.static "PaymentSwitch" "LENGTH_DIGITS" "[I") (.int 12)) (.int 0)) (by decide +kernel))
  | 13, _ => exact va_eqt (hs (.eq (.elem (.static "PaymentSwitch" "LENGTH_DIGITS" "[I") (.int 13)) (.int 0)) (by decide +kernel))
  | 14, _ => exact va_eqt (hs (.eq (.elem (.static "PaymentSwitch" "LENGTH_DIGITS" "[I") (.int 14)) (.int 0)) (by decide +kernel))
  | 15, _ => exact va_eqt (hs (.eq (.elem (.static "PaymentSwitch" "LENGTH_DIGITS" "[I") (.int 15)) (.int 0)) (by decide +kernel))
  | n + 16, hj => omega
theorem st_3 {s : State} {a0 : Array Value} {A : Nat → Prop} (hs : ∀ c ∈ flatC (Jvm.Cond.and given_1 narrow_1), c.before a0 s = true) (hA : ∀ a : Nat, a < s.heap.size → ¬ A a) : ∃ t : Nat, (Term.static "PaymentSwitch" "TYPES" "[I").eval a0 s none [] s = some (.ref t) ∧ va_T .int t 17 (fun j => .int (stV 3 j)) A s s.heap := by
  refine va_Tof (N := 17) (by decide) (hs (.arrayOf (.static "PaymentSwitch" "TYPES" "[I") .int) (by decide +kernel)) (va_eqt (hs (.eq (.length (.static "PaymentSwitch" "TYPES" "[I")) (.int 17)) (by decide +kernel))) (fun j hj => ?_) hA
  match j, hj with
  | 0, _ => exact va_eqt (hs (.eq (.elem (.static "PaymentSwitch" "TYPES" "[I") (.int 0)) (.int 100)) (by decide +kernel))
  | 1, _ => exact va_eqt (hs (.eq (.elem (.static "PaymentSwitch" "TYPES" "[I") (.int 1)) (.int 101)) (by decide +kernel))
  | 2, _ => exact va_eqt (hs (.eq (.elem (.static "PaymentSwitch" "TYPES" "[I") (.int 2)) (.int 110)) (by decide +kernel))
  | 3, _ => exact va_eqt (hs (.eq (.elem (.static "PaymentSwitch" "TYPES" "[I") (.int 3)) (.int 220)) (by decide +kernel))
  | 4, _ => exact va_eqt (hs (.eq (.elem (.static "PaymentSwitch" "TYPES" "[I") (.int 4)) (.int 221)) (by decide +kernel))
  | 5, _ => exact va_eqt (hs (.eq (.elem (.static "PaymentSwitch" "TYPES" "[I") (.int 5)) (.int 230)) (by decide +kernel))
  | 6, _ => exact va_eqt (hs (.eq (.elem (.static "PaymentSwitch" "TYPES" "[I") (.int 6)) (.int 400)) (by decide +kernel))
  | 7, _ => exact va_eqt (hs (.eq (.elem (.static "PaymentSwitch" "TYPES" "[I") (.int 7)) (.int 401)) (by decide +kernel))
  | 8, _ => exact va_eqt (hs (.eq (.elem (.static "PaymentSwitch" "TYPES" "[I") (.int 8)) (.int 410)) (by decide +kernel))
  | 9, _ => exact va_eqt (hs (.eq (.elem (.static "PaymentSwitch" "TYPES" "[I") (.int 9)) (.int 420)) (by decide +kernel))
  | 10, _ => exact va_eqt (hs (.eq (.elem (.static "PaymentSwitch" "TYPES" "[I") (.int 10)) (.int 421)) (by decide +kernel))
  | 11, _ => exact va_eqt (hs (.eq (.elem (.static "PaymentSwitch" "TYPES" "[I") (.int 11)) (.int 430)) (by decide +kernel))
  | 12, _ => exact va_eqt (hs (.eq (.elem (.static "PaymentSwitch" "TYPES" "[I") (.int 12)) (.int 500)) (by decide +kernel))
  | 13, _ => exact va_eqt (hs (.eq (.elem (.static "PaymentSwitch" "TYPES" "[I") (.int 13)) (.int 501)) (by decide +kernel))
  | 14, _ => exact va_eqt (hs (.eq (.elem (.static "PaymentSwitch" "TYPES" "[I") (.int 14)) (.int 510)) (by decide +kernel))
  | 15, _ => exact va_eqt (hs (.eq (.elem (.static "PaymentSwitch" "TYPES" "[I") (.int 15)) (.int 800)) (by decide +kernel))
  | 16, _ => exact va_eqt (hs (.eq (.elem (.static "PaymentSwitch" "TYPES" "[I") (.int 16)) (.int 810)) (by decide +kernel))
  | n + 17, hj => omega
/-- static tables, the two statics of Throwable, the script -/
theorem st_start {s : State} {b L : Nat} {xs : Nat → Int32} (l : Launch) (D : va_G) (cC : FieldType → ClassId) (hl : l.stackTraces = false) (hts : ∀ w ∈ lw_tbl, w.before #[Value.ref b] s = true) (hX : va_X b L xs s s.heap) (hbl : b < s.heap.size) (hgv : (Jvm.Cond.and given_1 narrow_1).before #[Value.ref b] s = true) : ∃ sa : Nat → Nat, St (l, D, cC, s.heap.size, sa, b, L, xs) s s.heap := by
  have hs := flat_of_before _ hgv
  have hA : ∀ a : Nat, a < s.heap.size → ¬ (fun q => s.heap.size ≤ q) a := fun a h q => by
    have q : s.heap.size ≤ a := q
    omega
  obtain ⟨t0, e0, f0⟩ := st_0 hs hA
  obtain ⟨t1, e1, f1⟩ := st_1 hs hA
  obtain ⟨t2, e2, f2⟩ := st_2 hs hA
  obtain ⟨t3, e3, f3⟩ := st_3 hs hA
  have hi : (Cond.initialized "PaymentSwitch").before #[Value.ref b] s = true := hts _ (List.mem_of_getElem? (i := 93) (by decide +kernel))
  refine ⟨fun i => if i = 0 then t0 else if i = 1 then t1 else if i = 2 then t2 else t3, ?_, ?_, ?_, hX, hbl, hl, ?_⟩
  · intro i hi4
    match i, hi4 with
    | 0, _ => exact ⟨va_Zref (hts _ (List.mem_of_getElem? (i := 616) (by decide +kernel))) hi e0 hA, f0⟩
    | 1, _ => exact ⟨va_Zref (hts _ (List.mem_of_getElem? (i := 879) (by decide +kernel))) hi e1 hA, f1⟩
    | 2, _ => exact ⟨va_Zref (hts _ (List.mem_of_getElem? (i := 631) (by decide +kernel))) hi e2 hA, f2⟩
    | 3, _ => exact ⟨va_Zref (hts _ (List.mem_of_getElem? (i := 1070) (by decide +kernel))) hi e3 hA, f3⟩
  · exact vx_Zqof (hts _ (List.mem_of_getElem? (i := 693) (by decide +kernel))) (hts _ (List.mem_of_getElem? (i := 107) (by decide +kernel))) (hs _ (by decide +kernel)) hA
  · exact vx_Zqof (hts _ (List.mem_of_getElem? (i := 695) (by decide +kernel))) (hts _ (List.mem_of_getElem? (i := 107) (by decide +kernel))) (hs _ (by decide +kernel)) hA
  · exact va_Nc.of (hs (.not (.castable "java/lang/IllegalStateException" "java/lang/IllegalArgumentException")) (by decide +kernel))
