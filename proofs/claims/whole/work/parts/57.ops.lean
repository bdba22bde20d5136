/-! THE CALLS, AS THEY CHANGE THE STATE -/
section SET
variable (S : Sw)
def wN (n : Nat → Nat) : Sw := (n, S.2)
def wI (f : Nat → Nat → Nat) : Sw := (S.1, f, S.2.2)
def wL (f : Nat → Nat → Int) : Sw := (S.1, S.2.1, f, S.2.2.2)
def wP (p : Nat → Py) : Sw := (S.1, S.2.1, S.2.2.1, p, S.2.2.2.2)
def wR (r : Nat → Ar) : Sw := (S.1, S.2.1, S.2.2.1, S.2.2.2.1, r, S.2.2.2.2.2)
def wQ (q : Nat → List Nat) : Sw := (S.1, S.2.1, S.2.2.1, S.2.2.2.1, S.2.2.2.2.1, q, S.2.2.2.2.2.2)
def wC (c : Nat → Nat) : Sw := (S.1, S.2.1, S.2.2.1, S.2.2.2.1, S.2.2.2.2.1, S.2.2.2.2.2.1, c, S.2.2.2.2.2.2.2)
def wF (f : Nat → Int) : Sw := (S.1, S.2.1, S.2.2.1, S.2.2.2.1, S.2.2.2.2.1, S.2.2.2.2.2.1, S.2.2.2.2.2.2.1, f, S.2.2.2.2.2.2.2.2)
def wD (m : Msg) : Sw := (S.1, S.2.1, S.2.2.1, S.2.2.2.1, S.2.2.2.2.1, S.2.2.2.2.2.1, S.2.2.2.2.2.2.1, S.2.2.2.2.2.2.2.1, m, S.2.2.2.2.2.2.2.2.2)
def wT (t : List Nat) : Sw := (S.1, S.2.1, S.2.2.1, S.2.2.2.1, S.2.2.2.2.1, S.2.2.2.2.2.1, S.2.2.2.2.2.2.1, S.2.2.2.2.2.2.2.1, S.2.2.2.2.2.2.2.2.1, t, S.2.2.2.2.2.2.2.2.2.2)
def wZ (z : List Nat) : Sw := (S.1, S.2.1, S.2.2.1, S.2.2.2.1, S.2.2.2.2.1, S.2.2.2.2.2.1, S.2.2.2.2.2.2.1, S.2.2.2.2.2.2.2.1, S.2.2.2.2.2.2.2.2.1, S.2.2.2.2.2.2.2.2.2.1, z)
end SET
/-- an answer: 0 and a value, or how it is refused (1: its arguments, 2: the state) -/
abbrev Re : Type := (Nat × Int) × Sw
def okV (v : Int) (S : Sw) : Re := ((0, v), S)
def iaR (S : Sw) : Re := ((1, 0), S)
def izR (S : Sw) : Re := ((2, 0), S)
/-- two conditions, then what is done -/
def gat (S : Sw) (p q : Prop) [Decidable p] [Decidable q] (r : Re) : Re := if p then (if q then r else izR S) else iaR S
section GAT
variable {S : Sw} {p q : Prop} {r : Re}
theorem gat_1 [Decidable p] [Decidable q] (h : ¬ p) : gat S p q r = iaR S := by unfold gat; rw [if_neg h]
theorem gat_2 [Decidable p] [Decidable q] (h : p) (h2 : ¬ q) : gat S p q r = izR S := by unfold gat; rw [if_pos h, if_neg h2]
theorem gat_0 [Decidable p] [Decidable q] (h : p) (h2 : q) : gat S p q r = r := by unfold gat; rw [if_pos h, if_pos h2]
end GAT
abbrev isUp (S : Sw) : Prop := sN S 4 = 1 ∧ sN S 6 = 0
def ff (P : Nat → Bool) : Nat → Nat → Nat
  | 0, i => i
  | r + 1, i => if P i then i else ff P r (i + 1)
/-- the first of n places where P holds, or n -/
def fsn (P : Nat → Bool) (n : Nat) : Nat := ff P n 0
theorem ff_spec {P : Nat → Bool} : ∀ (r i : Nat), i ≤ ff P r i ∧ ff P r i ≤ i + r ∧ (ff P r i < i + r → P (ff P r i) = true) ∧ ∀ j, i ≤ j → j < ff P r i → P j = false
  | 0, i => by simp only [ff]; exact ⟨by omega, by omega, fun h => by omega, fun j h1 h2 => by omega⟩
  | r + 1, i => by
    rw [ff]
    split
    · rename_i q
      exact ⟨by omega, by omega, fun _ => q, fun j h1 h2 => by omega⟩
    · rename_i q
      obtain ⟨h1, h2, h3, h4⟩ := ff_spec (P := P) r (i + 1)
      refine ⟨by omega, by omega, fun h => h3 (by omega), fun j h5 h6 => ?_⟩
      by_cases e : j = i
      · subst e; simpa using q
      · exact h4 j (by omega) h6
theorem fsn_le {P : Nat → Bool} {n : Nat} : fsn P n ≤ n := by have := (ff_spec (P := P) n 0).2.1; unfold fsn; omega
theorem fsn_t {P : Nat → Bool} {n : Nat} (h : fsn P n < n) : P (fsn P n) = true := (ff_spec (P := P) n 0).2.2.1 (by unfold fsn at h; omega)
theorem fsn_f {P : Nat → Bool} {n j : Nat} (h : j < fsn P n) : P j = false := (ff_spec (P := P) n 0).2.2.2 j (by omega) h
theorem fsn_eq {P : Nat → Bool} {n i : Nat} (hi : i < n) (hp : P i = true) (h : ∀ j, j < i → P j = false) : fsn P n = i := by
  have h1 : ¬ fsn P n < i := fun q => by have := fsn_t (P := P) (n := n) (by omega); rw [h _ q] at this; cases this
  have h2 : ¬ i < fsn P n := fun q => by rw [fsn_f q] at hp; cases hp
  omega
theorem fsn_n {P : Nat → Bool} {n : Nat} (h : ∀ j, j < n → P j = false) : fsn P n = n := by
  have h1 : ¬ fsn P n < n := fun q => by have := fsn_t q; rw [h _ q] at this; cases this
  have := fsn_le (P := P) (n := n)
  omega
/-- only one place has P -/
theorem fsn_u {P : Nat → Bool} {n i : Nat} (hi : i < n) (hp : P i = true) (h : ∀ j, j < n → P j = true → j = i) : fsn P n = i := fsn_eq hi hp (fun j hj => by
  cases e : P j
  · rfl
  · have := h j (by omega) e; omega)
/-! the table -/
def o_acquirer (S : Sw) (x : Int) : Re := gat S (0 ≤ x ∧ x ≤ 1000) (sN S 4 = 0 ∧ sN S 17 < 6) (okV (sN S 17) (wI (wN S (up1 (sN S) 17 (sN S 17 + 1))) (up2 (sI S) 499 (sN S 17) x.toNat)))
def o_issuer (S : Sw) (x : Int) : Re := gat S (0 ≤ x ∧ x ≤ 1000) (sN S 4 = 0 ∧ sN S 18 < 6) (okV (sN S 18) (wI (wN S (up1 (sN S) 18 (sN S 18 + 1))) (up2 (sI S) 499 (6 + sN S 18) x.toNat)))
def fRt (S : Sw) (p d : Nat) : Nat := fsn (fun k => decide (sI S 504 k = p ∧ sI S 505 k = d)) (sN S 24)
def o_route (S : Sw) (i p d : Int) : Re := gat S (0 ≤ i ∧ i < sN S 18 ∧ 1 ≤ d ∧ d ≤ 8 ∧ 0 ≤ p ∧ (nd p.toNat : Int) ≤ d) (sN S 4 = 0 ∧ fRt S p.toNat d.toNat < 40)
  (okV (if fRt S p.toNat d.toNat < sN S 24 then (sI S 506 (fRt S p.toNat d.toNat) : Int) else -1)
    (wI (wN S (up1 (sN S) 24 (if fRt S p.toNat d.toNat = sN S 24 then sN S 24 + 1 else sN S 24))) (up2 (up2 (up2 (sI S) 504 (fRt S p.toNat d.toNat) p.toNat) 505 (fRt S p.toNat d.toNat) d.toNat) 506 (fRt S p.toNat d.toNat) i.toNat)))
def o_account (S : Sw) (i b m : Int) : Re := gat S (0 ≤ i ∧ i < sN S 18 ∧ -1000000000000 ≤ b ∧ b ≤ 1000000000000 ∧ -1000000000000 ≤ m ∧ m ≤ 0) (sN S 4 = 0 ∧ sN S 28 < 64)
  (okV (sN S 28) (wF (wL (wI (wN S (up1 (sN S) 28 (sN S 28 + 1))) (up2 (sI S) 507 (sN S 28) i.toNat)) (up2 (up2 (sL S) 509 (sN S 28) b) 508 (sN S 28) m)) (up1 (sF S) (sN S 28) (b - m))))
/-- the best route: its issuer and one, and its digits; ld d: the number of the first d digits, of n -/
def bst (f : Nat → Nat → Nat) (ld : Nat → Nat) (n : Nat) : Nat → Nat × Nat
  | 0 => (0, 0)
  | k + 1 => if f 505 k ≤ n ∧ (bst f ld n k).2 < f 505 k ∧ ld (f 505 k) = f 504 k then (f 506 k + 1, f 505 k) else bst f ld n k
def lsum (f : Nat → Nat) : Nat → Nat
  | 0 => 0
  | k + 1 => lsum f k + (if k % 2 = 0 then f k else if f k < 5 then 2 * f k else 2 * f k - 9)
def isG (N : Nat) : Prop := lsum (fun k => N / 10 ^ k % 10) 19 % 10 = 0
def fCd (S : Sw) (N : Nat) : Nat := fsn (fun k => decide (sC S k = N)) (sN S 34)
def rtN (S : Sw) (N : Nat) : Nat := (bst (sI S) (fun d => N / 10 ^ (nd N - d)) (nd N) (sN S 24)).1
def o_card (S : Sw) (N a : Int) : Re := gat S (0 ≤ N ∧ 12 ≤ nd N.toNat ∧ nd N.toNat ≤ 18 ∧ 0 ≤ a ∧ a < sN S 28) (sN S 4 = 0 ∧ sN S 34 < 100)
  (if lsum (fun k => N.toNat / 10 ^ k % 10) 19 % 10 ≠ 0 then okV (-5) S else if rtN S N.toNat = 0 then okV (-6) S else if rtN S N.toNat ≠ sI S 507 a.toNat + 1 then okV (-7) S else if fCd S N.toNat < sN S 34 then okV (-8) S else
    okV (sN S 34) (wC (wI (wN S (up1 (sN S) 34 (sN S 34 + 1))) (up2 (sI S) 514 (sN S 34) a.toNat)) (up1 (sC S) (sN S 34) N.toNat)))
def o_rules (S : Sw) (h w d m : Int) : Re := gat S (1 ≤ h ∧ h ≤ 5000 ∧ 1 ≤ w ∧ w ≤ 5000 ∧ 1 ≤ d ∧ d ≤ 5000 ∧ 1 ≤ m ∧ m ≤ 8) (sN S 4 = 0) (okV 0 (wN S (up1 (up1 (up1 (up1 (sN S) 13 h.toNat) 14 w.toNat) 15 d.toNat) 16 m.toNat)))
def o_open (S : Sw) : Re := gat S True (sN S 4 = 0) (okV 0 (wN S (up1 (sN S) 4 1)))
/-! the draft -/
def pt (m : Msg) (s n : Nat) (f : Nat → Nat) : Msg := (gT m, setB (gH m) s, up1 (gN m) s n, up1 (gS m) s f)
def lnN (s v : Nat) : Nat := if ldF s = 0 then szF s else nd v
def ptN (m : Msg) (s v : Nat) : Msg := pt m s (lnN s v) (dgt 10 (lnN s v) v)
def ptX (m : Msg) (s b v : Nat) : Msg := pt m s (szF s) (dgt b (szF s) v)
def orig (ty tr ac i : Nat) : Nat := if i < 4 then dgt 10 4 ty i else if i < 10 then dgt 10 6 tr (i - 4) else if i < 31 then dgt 10 21 ac (i - 10) else 0
def ptO (m : Msg) (ty tr ac : Nat) : Msg := pt m 14 42 (orig ty tr ac)
def bgn (m : Msg) (ty : Nat) : Msg := (ty, 0, gN m, gS m)
def ftN (s : Nat) (v : Int) : Prop := 0 ≤ v ∧ nd v.toNat ≤ szF s
def lettr (v : Int64) (k : Nat) : Nat := ((v >>> ((nI (5 * (k % 12))).toInt64 &&& 63)) &&& 31).toInt.toNat
def o_message (S : Sw) (ty : Int) : Re := gat S (0 ≤ ty ∧ ty ≤ 9999) True (okV 0 (wD S (bgn (sD S) ty.toNat)))
def o_approval (S : Sw) (x : Int) : Re := gat S (0 ≤ x ∧ x ≤ 1000000000) True (okV 0 (wD S (ptX (sD S) 6 36 x.toNat)))
def o_original (S : Sw) (ty tr ac : Int) : Re := gat S (0 ≤ ty ∧ ty ≤ 9999 ∧ 0 ≤ tr ∧ tr ≤ 999999 ∧ 0 ≤ ac ∧ ac ≤ 99999) True (okV 0 (wD S (ptO (sD S) ty.toNat tr.toNat ac.toNat)))
def slI (f : Int) : Option Nat := if f < 0 then none else slF f.toNat
def o_omit (S : Sw) (f : Int) : Re := match slI f with
  | none => iaR S
  | some s => okV (pb (gH (sD S)) s) (wD S (gT (sD S), clrB (gH (sD S)) s, gN (sD S), gS (sD S)))
def o_digits (S : Sw) (f v : Int) : Re := match slI f with
  | none => iaR S
  | some s => if ltF s = false ∧ 0 ≤ v ∧ nd v.toNat ≤ szF s then okV 0 (wD S (ptN (sD S) s v.toNat)) else iaR S
def o_letters (S : Sw) (f : Int) (v : Int64) (n : Int) : Re := match slI f with
  | none => iaR S
  | some s => if ltF s = true ∧ (if s = 10 then 1 ≤ n ∧ n ≤ 40 else n = 0) then okV 0 (wD S (pt (sD S) s (if s = 10 then n.toNat else szF s) (lettr v))) else iaR S
/-! the tape -/
def o_compose (S : Sw) : Re := okV (ser (sD S)).length (wT S (ser (sD S)))
def o_feed (S : Sw) (b : Int) : Re := gat S (0 ≤ b ∧ b ≤ 255) ((sT S).length < 400) (okV ((sT S).length + 1) (wT S (sT S ++ [b.toNat])))
def o_trim (S : Sw) (n : Int) : Re := gat S (0 ≤ n ∧ n ≤ (sT S).length) True (okV ((sT S).length - n) (wT S ((sT S).take ((sT S).length - n.toNat))))
def o_spoil (S : Sw) (i x : Int) : Re := gat S (0 ≤ i ∧ i < (sT S).length ∧ 0 ≤ x ∧ x ≤ 255) True (okV ((sT S).getD i.toNat 0 ^^^ x.toNat : Nat) (wT S ((sT S).set i.toNat ((sT S).getD i.toNat 0 ^^^ x.toNat))))
/-! what only tells -/
def o_size (S : Sw) : Re := okV (sZ S).length S
def o_byteAt (S : Sw) (i : Int) : Re := gat S (0 ≤ i ∧ i < (sZ S).length) True (okV ((sZ S).getD i.toNat 0) S)
def o_isDown (S : Sw) : Re := okV (sN S 6) S
def o_count (S : Sw) (k : Int) : Re := gat S (0 ≤ k ∧ k ≤ 5) (isUp S) (okV (if k = 0 then sN S 39 else if k = 1 then sN S 55 else if k = 2 then sN S 9 else if k = 3 then sN S 10 else if k = 4 then sN S 12 else sN S 11) S)
def hld (S : Sw) (a : Nat) : Int := sumF (hOf (sP S) a) (sN S 39)
def lkd (S : Sw) (a : Nat) : Int := sumF (kOf (sP S) a) (sN S 39)
def fre (S : Sw) (a : Nat) : Int := sL S 509 a - sL S 508 a - hld S a - lkd S a
def cntA (t : Int) : List Nat → Nat
  | [] => 0
  | x :: xs => cntA t xs + (if t ≤ x then 1 else 0)
def apr (S : Sw) (a : Nat) : Nat := cntA ((sN S 11 : Int) - sN S 14) (sQ S a)
def o_funds (S : Sw) (a k : Int) : Re := gat S (0 ≤ a ∧ a < sN S 28 ∧ 0 ≤ k ∧ k ≤ 4) (isUp S) (okV (if k = 0 then sL S 509 a.toNat else if k = 1 then hld S a.toNat else if k = 2 then lkd S a.toNat else if k = 3 then fre S a.toNat else apr S a.toNat) S)
def o_acquired (S : Sw) (a k : Int) : Re := gat S (0 ≤ a ∧ a < sN S 17 ∧ 0 ≤ k ∧ k ≤ 3) (isUp S) (okV (if k = 0 then sL S 500 a.toNat else if k = 1 then sL S 501 a.toNat else if k = 2 then (sI S 502 a.toNat : Int) else sL S 503 a.toNat) S)
def o_issued (S : Sw) (i k : Int) : Re := gat S (0 ≤ i ∧ (i < sN S 18 ∨ i = 6) ∧ 0 ≤ k ∧ k ≤ 1) (isUp S) (okV (if k = 0 then sL S 500 (6 + i.toNat) else sL S 501 (6 + i.toNat)) S)
def o_audit (S : Sw) : Re := gat S True (isUp S) (okV 0 S)
/-- the payment of this number -/
def fPn (S : Sw) (x : Int) : Nat := fsn (fun k => decide ((qI (sP S k) 40 : Int) = x)) (sN S 39)
/-- what asks for a payment: the arguments, then that the switch isn't down, then that there is such a payment -/
def gap (S : Sw) (p : Prop) [Decidable p] (x : Int) (r : Re) : Re := if p then (if sN S 6 = 1 then izR S else if fPn S x < sN S 39 then r else iaR S) else iaR S
def tell (p : Py) (k : Int) : Int := if k = 0 then qI p 47 else if k = 1 then qL p 48 else if k = 2 then qL p 49 else if k = 3 then qI p 50 else if k = 4 then (qI p 51 : Int) - 1 else if k = 5 then (qI p 45 : Int) - 1 else if k = 6 then qI p 41 else if k = 7 then qI p 46 else if k = 8 then qI p 52 else if k = 9 then qL p 53 else (qI p 54 : Int) - 1
def o_payment (S : Sw) (x k : Int) : Re := gap S (0 ≤ k ∧ k ≤ 10) x (okV (tell (sP S (fPn S x)) k) S)
/-! the journal -/
/-- k blocks are written -/
def spd (n : Nat → Nat) (k : Nat) : Nat → Nat := if n 7 = 0 then up1 n 10 (n 10 + k) else up1 (up1 (up1 n 10 (n 10 + k)) 7 (n 7 - k)) 6 (if n 7 - k = 1 then 1 else 0)
/-- one more block in the journal -/
def wr1 (n : Nat → Nat) : Nat → Nat := spd (up1 n 9 (n 9 + 1)) 1
def cutR (S : Sw) (v : Int) : Re := okV (if sN S 6 = 1 then -3 else v) S
def o_block (S : Sw) (c : Int) (on : Bool) : Re := gat S (0 ≤ c ∧ c < sN S 34) (isUp S) (if sI S 515 c.toNat = on.toNat then okV 0 S else if sN S 9 = sN S 8 then okV (-2) S else cutR (wI (wN S (wr1 (sN S))) (up2 (sI S) 515 c.toNat on.toNat)) 1)
def pgs (S : Sw) : Nat := (sN S 28 + 7) / 8 + (sN S 39 + 3) / 4 + (sN S 55 + 1) / 2 + 1
def o_checkpoint (S : Sw) : Re := gat S True (isUp S) (if sN S 7 = 0 ∨ pgs S < sN S 7 then cutR (wN S (spd (up1 (sN S) 9 0) (pgs S))) (pgs S) else cutR (wN S (spd (sN S) (sN S 7 - 1))) (pgs S))
def o_crash (S : Sw) (k : Int) : Re := gat S (-1 ≤ k ∧ k ≤ 1000) (isUp S) (okV 0 (wN S (up1 (up1 (sN S) 7 (k + 1).toNat) 6 (if k = 0 then 1 else 0))))
def o_recover (S : Sw) : Re := gat S True (sN S 6 = 1 ∧ sN S 5 < 30) (okV (sN S 9) (wN S (up1 (up1 (up1 (sN S) 5 (sN S 5 + 1)) 7 0) 6 0)))
