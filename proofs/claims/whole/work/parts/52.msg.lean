/-! PURE: messages as bytes -/
def fnF (s : Nat) : Nat := match s with
  | 0 => 2 | 1 => 3 | 2 => 4 | 3 => 11 | 4 => 32 | 5 => 37 | 6 => 38 | 7 => 39 | 8 => 41 | 9 => 49 | 10 => 54 | 11 => 70 | 12 => 74 | 13 => 86 | 14 => 90 | _ => 95
def szF (s : Nat) : Nat := match s with
  | 0 => 19 | 1 => 6 | 2 => 12 | 3 => 6 | 4 => 11 | 5 => 12 | 6 => 6 | 7 => 2 | 8 => 8 | 9 => 3 | 10 => 40 | 11 => 3 | 12 => 10 | 13 => 16 | 14 => 42 | _ => 12
/-- how many digits a field's length has -/
def ldF (s : Nat) : Nat := match s with
  | 0 => 2 | 4 => 2 | 10 => 3 | _ => 0
def ltF (s : Nat) : Bool := match s with
  | 5 => true | 6 => true | 7 => true | 8 => true | 10 => true | _ => false
/-- the signs of a field by halves of bytes -/
def hf (n : Nat) (f : Nat → Nat) (j : Nat) : Nat := if n % 2 = 1 then (if j = 0 then 0 else f (j - 1)) else f j
def pk (n : Nat) (f : Nat → Nat) (k : Nat) : List Nat := (List.range k).map (fun k => 16 * hf n f (2 * k) + hf n f (2 * k + 1))
def ltB (x : Nat) : Nat := if x < 10 then 48 + x else 55 + x
def ltL (f : Nat → Nat) (k : Nat) : List Nat := (List.range k).map (fun k => ltB (f k))
def lnB (s n : Nat) : List Nat := if ldF s = 2 then [16 * (n / 10 % 10) + n % 10] else if ldF s = 3 then [n / 100, 16 * (n / 10 % 10) + n % 10] else []
def fdB (s n : Nat) (f : Nat → Nat) : List Nat := lnB s n ++ (if ltF s then ltL f n else pk n f ((n + 1) / 2))
def mpB (p : Nat → Nat) (c k : Nat) : Nat := match k with
  | 0 => 128 * c + 64 * p 0 + 32 * p 1 + 16 * p 2
  | 1 => 32 * p 3
  | 3 => p 4
  | 4 => 8 * p 5 + 4 * p 6 + 2 * p 7
  | 5 => 128 * p 8
  | 6 => 128 * p 9 + 4 * p 10
  | 8 => 4 * p 11
  | 9 => 64 * p 12
  | 10 => 4 * p 13
  | 11 => 64 * p 14 + 2 * p 15
  | _ => 0
def scF (th : Nat) : Nat := if 2048 ≤ th then 1 else 0
def mpL (p : Nat → Nat) (c : Nat) : List Nat := (List.range (8 + 8 * c)).map (mpB p c)
def fdL (th : Nat) (ln : Nat → Nat) (sg : Nat → Nat → Nat) : Nat → List Nat
  | 0 => []
  | k + 1 => fdL th ln sg k ++ (if pb th k = 1 then fdB k (ln k) (sg k) else [])
def tyB (ty : Nat) : List Nat := [16 * (ty / 1000) + ty / 100 % 10, 16 * (ty / 10 % 10) + ty % 10]
/-- a message's type, its fields (bits), their lengths, their signs -/
abbrev Msg : Type := Nat × Nat × (Nat → Nat) × (Nat → Nat → Nat)
def gT (m : Msg) : Nat := m.1
def gH (m : Msg) : Nat := m.2.1
def gN (m : Msg) : Nat → Nat := m.2.2.1
def gS (m : Msg) : Nat → Nat → Nat := m.2.2.2
def ser (m : Msg) : List Nat := tyB (gT m) ++ mpL (pb (gH m)) (scF (gH m)) ++ fdL (gH m) (gN m) (gS m) 16
/-- a field's length and signs are such as it may have -/
def okF (s n : Nat) (f : Nat → Nat) : Prop := n ≤ szF s ∧ (ldF s = 0 → n = szF s) ∧ 1 ≤ n ∧ ∀ i, i < n → f i < (if ltF s then 36 else 10)
def okM (m : Msg) : Prop := gT m ≤ 9999 ∧ gH m < 65536 ∧ ∀ s, s < 16 → pb (gH m) s = 1 → okF s (gN m s) (gS m s)
def mxF (s : Nat) : Nat := match s with
  | 0 => 11 | 1 => 3 | 2 => 6 | 3 => 3 | 4 => 7 | 5 => 12 | 6 => 6 | 7 => 2 | 8 => 8 | 9 => 2 | 10 => 42 | 11 => 2 | 12 => 5 | 13 => 8 | 14 => 21 | _ => 6
def mxL (th : Nat) : Nat → Nat
  | 0 => 0
  | k + 1 => mxL th k + (if pb th k = 1 then mxF k else 0)
theorem pk_len (n : Nat) (f : Nat → Nat) (k : Nat) : (pk n f k).length = k := by simp [pk]
theorem ltL_len (f : Nat → Nat) (k : Nat) : (ltL f k).length = k := by simp [ltL]
theorem pk_succ (n : Nat) (f : Nat → Nat) (k : Nat) : pk n f (k + 1) = pk n f k ++ [16 * hf n f (2 * k) + hf n f (2 * k + 1)] := by simp [pk, List.range_succ]
theorem ltL_succ (f : Nat → Nat) (k : Nat) : ltL f (k + 1) = ltL f k ++ [ltB (f k)] := by simp [ltL, List.range_succ]
theorem fdB_len {s n : Nat} {f : Nat → Nat} (hs : s < 16) (h : okF s n f) : (fdB s n f).length ≤ mxF s := by
  obtain ⟨h1, h2, -, -⟩ := h
  unfold fdB lnB
  rw [List.length_append]
  rcases s with _ | _ | _ | _ | _ | _ | _ | _ | _ | _ | _ | _ | _ | _ | _ | _ | s <;> simp [ldF, szF, ltF, mxF, ltL_len, pk_len] at * <;> omega
theorem fdL_len {th : Nat} {ln : Nat → Nat} {sg : Nat → Nat → Nat} : ∀ (k : Nat), k ≤ 16 → (∀ s, s < k → pb th s = 1 → okF s (ln s) (sg s)) → (fdL th ln sg k).length ≤ mxL th k
  | 0, _, _ => by simp [fdL, mxL]
  | k + 1, hk, h => by
    have h1 := fdL_len (th := th) (ln := ln) (sg := sg) k (by omega) (fun s hs => h s (by omega))
    rw [fdL, mxL, List.length_append]
    split
    · rename_i q
      have := fdB_len (s := k) (by omega) (h k (by omega) q)
      omega
    · simp; omega
theorem mpL_len (p : Nat → Nat) (c : Nat) : (mpL p c).length = 8 + 8 * c := by simp [mpL]
theorem scF_le (th : Nat) : scF th ≤ 1 := by unfold scF; split <;> omega
theorem ser_len {m : Msg} (h : okM m) : (ser m).length ≤ 18 + mxL (gH m) 16 := by
  unfold ser
  have := fdL_len (th := gH m) (ln := gN m) (sg := gS m) 16 (by omega) h.2.2
  have := scF_le (gH m)
  simp only [List.length_append, mpL_len, tyB, List.length_cons, List.length_nil]
  omega
theorem pb_le (th s : Nat) : pb th s ≤ 1 := by unfold pb; omega
theorem mxL_mono {a b : Nat} : ∀ (k : Nat), (∀ s, s < k → pb a s = 1 → pb b s = 1) → mxL a k ≤ mxL b k
  | 0, _ => by simp [mxL]
  | k + 1, h => by
    have h1 := mxL_mono (a := a) (b := b) k (fun s hs => h s (by omega))
    have h2 := h k (by omega)
    rw [mxL, mxL]
    split
    · rename_i q
      rw [if_pos (h2 q)]
      omega
    · omega
theorem pb_all {s : Nat} (h : s < 16) : pb 65535 s = 1 := by
  rcases s with _ | _ | _ | _ | _ | _ | _ | _ | _ | _ | _ | _ | _ | _ | _ | _ | s
  all_goals first | rfl | omega
theorem mxL_le (th : Nat) : mxL th 16 ≤ 144 := mxL_mono (b := 65535) 16 (fun s hs _ => pb_all hs)
theorem ser_le {m : Msg} (h : okM m) : (ser m).length ≤ 162 := by
  have := ser_len h
  have := mxL_le (gH m)
  omega
/-! PURE: reading -/
def slF (k : Nat) : Option Nat := match k with
  | 2 => some 0 | 3 => some 1 | 4 => some 2 | 11 => some 3 | 32 => some 4 | 37 => some 5 | 38 => some 6 | 39 => some 7 | 41 => some 8 | 49 => some 9 | 54 => some 10 | 70 => some 11 | 74 => some 12 | 86 => some 13 | 90 => some 14 | 95 => some 15 | _ => none
/-- the half j of the bytes from a on -/
def nib (t : List Nat) (a j : Nat) : Nat := if j % 2 = 0 then t.getD (a + j / 2) 0 / 16 else t.getD (a + j / 2) 0 % 16
/-- the digit i of n that begin at a -/
def dig (t : List Nat) (a n i : Nat) : Nat := nib t a (i + n % 2)
def badD (t : List Nat) (n k i : Nat) : Bool := decide (t.getD i 0 / 16 > (if k = 0 ∧ n % 2 = 1 then 0 else 9) ∨ t.getD i 0 % 16 > 9)
/-- the first byte that isn't twM digits, of r, the next being the k-th from a on -/
def scD (t : List Nat) (n a : Nat) : Nat → Nat → Option Nat
  | 0, _ => none
  | r + 1, k => if badD t n k (a + k) then some (a + k) else scD t n a r (k + 1)
/-- what's wrong with n digits from a on -/
def chD (t : List Nat) (n a : Nat) : Option (Nat × Nat) := if t.length < a + (n + 1) / 2 then some (1, t.length) else (scD t n a ((n + 1) / 2) 0).map (fun i => (2, i))
def sgn (b : Nat) : Option Nat := if 48 ≤ b ∧ b ≤ 57 then some (b - 48) else if 65 ≤ b ∧ b ≤ 90 then some (b - 55) else none
def scL (t : List Nat) (a : Nat) : Nat → Nat → Option Nat
  | 0, _ => none
  | r + 1, k => if (sgn (t.getD (a + k) 0)).isNone then some (a + k) else scL t a r (k + 1)
def chL (t : List Nat) (n a : Nat) : Option (Nat × Nat) := if t.length < a + n then some (1, t.length) else (scL t a n 0).map (fun i => (6, i))
/-- the signs of a field -/
def sgs (t : List Nat) (s a n : Nat) : Nat → Nat := if ltF s then (fun i => (sgn (t.getD (a + i) 0)).getD 0) else dig t a n
def avF (s n : Nat) : Nat := if ltF s then n else (n + 1) / 2
def chS (t : List Nat) (s n a : Nat) : Option (Nat × Nat) := if ltF s then chL t n a else chD t n a
/-- the length of the field s, whose length's digits begin at a -/
def lnR (t : List Nat) (s a : Nat) : Nat := if ldF s = 0 then szF s else vl (dig t a (ldF s)) (ldF s)
def chN (t : List Nat) (s a : Nat) : Option (Nat × Nat) := if ldF s = 0 then none else (chD t (ldF s) a).or (if lnR t s a < 1 ∨ szF s < lnR t s a then some (5, a) else none)
def a1 (s a : Nat) : Nat := a + (ldF s + 1) / 2
def chF (t : List Nat) (s a : Nat) : Option (Nat × Nat) := (chN t s a).or (chS t s (lnR t s a) (a1 s a))
def a2 (t : List Nat) (s a : Nat) : Nat := a1 s a + avF s (lnR t s a)
abbrev Rd : Type := Nat × (Nat → Nat) × (Nat → Nat → Nat)
def up1 {α : Type} (f : Nat → α) (k : Nat) (v : α) : Nat → α := fun i => if i = k then v else f i
def rdF (t : List Nat) (th : Nat) : Nat → Nat → Rd → (Nat × Nat) ⊕ Rd
  | 0, _, x => .inr x
  | r + 1, s, x => if pb th s = 1 then (match chF t s x.1 with
    | some e => .inl e
    | none => rdF t th r (s + 1) (a2 t s x.1, up1 x.2.1 s (lnR t s x.1), up1 x.2.2 s (sgs t s (a1 s x.1) (lnR t s x.1)))) else rdF t th r (s + 1) x
def btM (t : List Nat) (k : Nat) : Nat := t.getD (2 + (k - 1) / 8) 0 / 2 ^ (7 - (k - 1) % 8) % 2
def scM (t : List Nat) : Nat → Nat → Option Nat
  | 0, _ => none
  | r + 1, k => if btM t k = 1 ∧ (slF k).isNone then some k else scM t r (k + 1)
/-- the fields whose bits are set, of those below k -/
def thM (t : List Nat) (k : Nat) : Nat → Nat
  | 0 => 0
  | s + 1 => thM t k s + (if fnF s < k ∧ btM t (fnF s) = 1 then 2 ^ s else 0)
def twM (t : List Nat) : Nat := btM t 1
def chM (t : List Nat) : Option (Nat × Nat) := if t.length < 10 then some (1, t.length) else if twM t = 1 ∧ t.length < 18 then some (1, t.length) else
  ((scM t (if twM t = 1 then 127 else 63) 2).map (fun k => (4, 2 + (k - 1) / 8))).or (if twM t = 1 ∧ thM t 129 16 < 2048 then some (4, 10) else none)
def tys : List Nat := [100, 101, 110, 220, 221, 230, 400, 401, 410, 420, 421, 430, 500, 501, 510, 800, 810]
def tyR (t : List Nat) : Nat := vl (dig t 0 4) 4
def thR (t : List Nat) : Nat := thM t (if twM t = 1 then 129 else 65) 16
def pR (t : List Nat) : (Nat × Nat) ⊕ Msg := match chD t 4 0 with
  | some e => .inl e
  | none => if tyR t ∈ tys then (match chM t with
    | some e => .inl e
    | none => (match rdF t (thR t) 16 0 (if twM t = 1 then 18 else 10, fun _ => 0, fun _ _ => 0) with
      | .inl e => .inl e
      | .inr x => if x.1 < t.length then .inl (7, x.1) else .inr (tyR t, thR t, x.2.1, x.2.2))) else .inl (3, 0)

theorem scD_none {t : List Nat} {n a : Nat} : ∀ (r k : Nat), scD t n a r k = none → ∀ j, k ≤ j → j < k + r → badD t n j (a + j) = false
  | 0, k, _, j, h1, h2 => by omega
  | r + 1, k, h, j, h1, h2 => by
    rw [scD] at h
    split at h
    · cases h
    · rename_i q
      by_cases e : j = k
      · subst e; simpa using q
      · exact scD_none r (k + 1) h j (by omega) (by omega)
theorem chD_none {t : List Nat} {n a : Nat} (h : chD t n a = none) : a + (n + 1) / 2 ≤ t.length ∧ scD t n a ((n + 1) / 2) 0 = none := by
  unfold chD at h
  split at h
  · cases h
  · exact ⟨by omega, by simpa using h⟩
theorem dig_lt {t : List Nat} {n a i : Nat} (h : chD t n a = none) (hi : i < n) : dig t a n i < 10 := by
  have h1 := scD_none _ _ (chD_none h).2 ((i + n % 2) / 2) (by omega) (by omega)
  unfold dig nib
  unfold badD at h1
  simp only [decide_eq_false_iff_not, not_or, Nat.not_lt] at h1
  have h2 : t.getD (a + (i + n % 2) / 2) 0 / 16 ≤ 9 := by
    have := h1.1
    split at this <;> omega
  split <;> omega
theorem scL_none {t : List Nat} {a : Nat} : ∀ (r k : Nat), scL t a r k = none → ∀ j, k ≤ j → j < k + r → (sgn (t.getD (a + j) 0)).isNone = false
  | 0, k, _, j, h1, h2 => by omega
  | r + 1, k, h, j, h1, h2 => by
    rw [scL] at h
    split at h
    · cases h
    · rename_i q
      by_cases e : j = k
      · subst e; exact Bool.eq_false_iff.mpr q
      · exact scL_none r (k + 1) h j (by omega) (by omega)
theorem chL_none {t : List Nat} {n a : Nat} (h : chL t n a = none) : a + n ≤ t.length ∧ scL t a n 0 = none := by
  unfold chL at h
  split at h
  · cases h
  · exact ⟨by omega, by simpa using h⟩
theorem sgn_lt {b : Nat} : (sgn b).getD 0 < 36 := by
  unfold sgn
  split
  · simp; omega
  · split <;> simp <;> omega
theorem chF_ok {t : List Nat} {s a : Nat} (hs : s < 16) (h : chF t s a = none) : okF s (lnR t s a) (sgs t s (a1 s a) (lnR t s a)) ∧ a2 t s a ≤ a + mxF s ∧ a2 t s a ≤ t.length := by
  unfold chF at h
  rw [Option.or_eq_none_iff] at h
  obtain ⟨h1, h2⟩ := h
  have h3 : lnR t s a ≤ szF s ∧ (ldF s = 0 → lnR t s a = szF s) ∧ 1 ≤ lnR t s a := by
    unfold chN at h1
    split at h1
    · rename_i q
      have e : lnR t s a = szF s := by unfold lnR; rw [if_pos q]
      rw [e]
      refine ⟨Nat.le_refl _, fun _ => rfl, ?_⟩
      rcases s with _ | _ | _ | _ | _ | _ | _ | _ | _ | _ | _ | _ | _ | _ | _ | _ | s <;> simp [szF]
    · rename_i q
      rw [Option.or_eq_none_iff] at h1
      have := h1.2
      split at this
      · cases this
      · exact ⟨by omega, fun q2 => absurd q2 q, by omega⟩
  refine ⟨⟨h3.1, h3.2.1, h3.2.2, fun i hi => ?_⟩, ?_, ?_⟩
  · unfold chS at h2
    unfold sgs
    split
    · rename_i q
      exact sgn_lt
    · rename_i q
      rw [if_neg q] at h2
      exact dig_lt h2 hi
  · unfold a2 a1 avF
    have := h3.1
    rcases s with _ | _ | _ | _ | _ | _ | _ | _ | _ | _ | _ | _ | _ | _ | _ | _ | s <;> simp [ldF, szF, ltF, mxF] at * <;> omega
  · unfold a2 avF
    unfold chS at h2
    split
    · rename_i q
      rw [if_pos q] at h2
      exact (chL_none h2).1
    · rename_i q
      rw [if_neg q] at h2
      exact (chD_none h2).1
theorem rdF_ok {t : List Nat} {th : Nat} : ∀ (r s : Nat) (x x' : Rd), r + s = 16 → rdF t th r s x = .inr x' → (∀ s', s' < s → pb th s' = 1 → okF s' (x.2.1 s') (x.2.2 s')) → x.1 ≤ t.length → (∀ s', s' < 16 → pb th s' = 1 → okF s' (x'.2.1 s') (x'.2.2 s')) ∧ x'.1 + mxL th s ≤ x.1 + mxL th 16 ∧ x'.1 ≤ t.length
  | 0, s, x, x', hr, h, ho, hx => by
    rw [rdF] at h
    cases h
    have : s = 16 := by omega
    subst this
    exact ⟨ho, Nat.le_refl _, hx⟩
  | r + 1, s, x, x', hr, h, ho, hx => by
    rw [rdF] at h
    split at h
    · rename_i q
      split at h
      · cases h
      · rename_i q2
        have h1 := chF_ok (by omega) q2
        have h2 := rdF_ok r (s + 1) _ x' (by omega) h (fun s' hs' hp => ?_) h1.2.2
        · refine ⟨h2.1, ?_, h2.2.2⟩
          have h3 := h2.2.1
          rw [mxL, if_pos q] at h3
          have h4 := h1.2.1
          simp only at h3
          omega
        · by_cases e : s' = s
          · subst e
            simp only [up1, if_pos]
            exact h1.1
          · simp only [up1, if_neg e]
            exact ho s' (by omega) hp
    · rename_i q
      have h2 := rdF_ok r (s + 1) x x' (by omega) h (fun s' hs' hp => ho s' (by
        have : s' ≠ s := fun e => q (e ▸ hp)
        omega) hp) hx
      refine ⟨h2.1, ?_, h2.2.2⟩
      have h3 := h2.2.1
      rw [mxL, if_neg q] at h3
      omega
theorem thM_lt {t : List Nat} {k : Nat} : ∀ (s : Nat), thM t k s < 2 ^ s
  | 0 => by simp [thM]
  | s + 1 => by
    have := thM_lt (t := t) (k := k) s
    rw [thM, Nat.pow_succ]
    split <;> omega
/-- what a whole reading gives -/
theorem pR_ok {t : List Nat} {m : Msg} (h : pR t = .inr m) : okM m ∧ t.length ≤ 18 + mxL (gH m) 16 ∧ gT m ∈ tys ∧ gH m = thR t := by
  unfold pR at h
  split at h
  · cases h
  · split at h
    · rename_i hy
      split at h
      · cases h
      · rename_i hm
        split at h
        · cases h
        · rename_i x hx
          split at h
          · cases h
          · cases h
            have hl : (if twM t = 1 then 18 else 10) ≤ t.length := by
              unfold chM at hm
              split at hm
              · cases hm
              · split at hm
                · cases hm
                · split <;> omega
            have h1 := rdF_ok 16 0 _ x (by omega) hx (fun s' hs => by omega) hl
            refine ⟨⟨?_, ?_, h1.1⟩, ?_, hy, rfl⟩
            · show tyR t ≤ 9999
              have : ∀ y ∈ tys, y ≤ 9999 := by decide
              exact this _ hy
            · exact thM_lt 16
            · have h2 := h1.2.1
              simp only [mxL] at h2
              show t.length ≤ 18 + mxL (thR t) 16
              have h3 : (if twM t = 1 then 18 else 10) ≤ 18 := by split <;> omega
              simp only [mxL]
              omega
    · cases h
