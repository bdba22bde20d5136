/-! THE STATE, AND HOW CLASS AND REFERENCE HOLD IT -/
/-- a payment: numbers by the reference's slot (45, 51, 54: one more), amounts, the card's signs, the reference's -/
abbrev Py : Type := (Nat → Nat) × (Nat → Int) × (Nat → Nat) × (Nat → Nat)
def qI (p : Py) : Nat → Nat := p.1
def qL (p : Py) : Nat → Int := p.2.1
def qC (p : Py) : Nat → Nat := p.2.2.1
def qR (p : Py) : Nat → Nat := p.2.2.2
/-- a kept answer: acquirer, kind, trace, response, message, answer -/
abbrev Ar : Type := Nat × Nat × Nat × Nat × List Nat × List Nat
def rA (x : Ar) : Nat := x.1
def rK (x : Ar) : Nat := x.2.1
def rT (x : Ar) : Nat := x.2.2.1
def rP (x : Ar) : Nat := x.2.2.2.1
def rM (x : Ar) : List Nat := x.2.2.2.2.1
def rO (x : Ar) : List Nat := x.2.2.2.2.2
/-- M' is M at the address b -/
def sA (M M' : Mem) (b : Nat) : Prop := mI M' b = mI M b ∧ mL M' b = mL M b ∧ mR M' b = mR M b
section SAA
variable {M M' M'' : Mem} {a b j : Nat}
theorem sA_rfl (M : Mem) (b : Nat) : sA M M b := ⟨rfl, rfl, rfl⟩
theorem sA.trans (h : sA M M' b) (h' : sA M' M'' b) : sA M M'' b := ⟨h'.1.trans h.1, h'.2.1.trans h.2.1, h'.2.2.trans h.2.2⟩
theorem sA_uI {v : Int32} (h : b ≠ a) (h' : sA M M' b) : sA M (uI M' a j v) b := ⟨by rw [← h'.1]; funext k; exact up2_ne h, h'.2.1, h'.2.2⟩
theorem sA_uL {v : Int64} (h : b ≠ a) (h' : sA M M' b) : sA M (uL M' a j v) b := ⟨h'.1, by rw [← h'.2.1]; funext k; exact up2_ne h, h'.2.2⟩
theorem sA_uR {v : Option Nat} (h : b ≠ a) (h' : sA M M' b) : sA M (uR M' a j v) b := ⟨h'.1, h'.2.1, by rw [← h'.2.2]; funext k; exact up2_ne h⟩
theorem sA_uZ (h' : sA M M' b) : sA M (uZ M') b := h'
theorem sA_sRow {f : Nat → Int32} (h : b ≠ a) (h' : sA M M' b) : sA M (sRow M' a f) b := ⟨by rw [← h'.1]; funext k; show (if b = a then _ else _) = _; rw [if_neg h]; rfl, h'.2.1, h'.2.2⟩
theorem sA.i (h : sA M M' b) : mI M' b j = mI M b j := by rw [h.1]
theorem sA.l (h : sA M M' b) : mL M' b j = mL M b j := by rw [h.2.1]
theorem sA.r (h : sA M M' b) : mR M' b j = mR M b j := by rw [h.2.2]
end SAA
/-- the same cells are there -/
def sY (M M' : Mem) : Prop := mN M' = mN M ∧ mY M' = mY M
def BYL (M : Mem) (a b : Nat) (xs : List Nat) : Prop := mI M a 1 = nI xs.length ∧ ∀ i, i < xs.length → mI M b i = nI (xs.getD i 0)
theorem BYL.fr {M M' : Mem} {a b : Nat} {xs : List Nat} (h : BYL M a b xs) (h1 : sA M M' a) (h2 : sA M M' b) : BYL M' a b xs := ⟨by rw [h1.i]; exact h.1, fun i hi => by rw [h2.i]; exact h.2 i hi⟩
/-- the message at a, whose lengths are at b, whose rows from c on -/
def msgC (M : Mem) (a b c : Nat) (m : Msg) : Prop := mI M a 0 = nI (gT m) ∧ mI M a 1 = nI (gH m) ∧ ∀ s, s < 16 → pb (gH m) s = 1 → mI M b s = nI (gN m s) ∧ ∀ i, i < gN m s → mI M (c + s) i = nI (gS m s i)
def msgM (M : Mem) (k b c : Nat) (m : Msg) : Prop := mI M 495 k = nI (gT m) ∧ ∀ s, s < 16 → (pb (gH m) s = 1 → mI M b s = nI (gN m s) ∧ ∀ i, i < gN m s → mI M c (42 * s + i) = nI (gS m s i)) ∧ (pb (gH m) s = 0 → mI M b s = -1)
def payC (M : Mem) (a : Nat) (p : Py) : Prop :=
  mI M a 0 = nI (qI p 40) ∧ mI M a 1 = nI (qI p 41) ∧ mI M a 2 = nI (qI p 46) ∧ mI M a 4 = nI (qI p 44) ∧ mI M a 7 = nI (qI p 47) ∧ mI M a 10 = nI (qI p 50) ∧ mI M a 11 = nI (qI p 51) - 1 ∧ mI M a 12 = nI (qI p 52) ∧ mI M a 14 = nI (qI p 54) - 1 ∧
  mL M a 8 = lI (qL p 48) ∧ mL M a 9 = lI (qL p 49) ∧ mL M a 13 = lI (qL p 53) ∧
  mR M a 6 = (if qI p 45 = 0 then none else some (9 + 2 * qI p 45)) ∧
  (∀ j, j < qI p 44 → mI M (a + 1) j = nI (qC p j)) ∧ (∀ j, j < 12 → mI M (a + 2) j = nI (qR p j))
def payM (M : Mem) (i : Nat) (p : Py) : Prop :=
  mI M 516 i = nI (qI p 40) ∧ mI M 517 i = nI (qI p 41) ∧ mI M 522 i = nI (qI p 46) ∧ mI M 520 i = nI (qI p 44) ∧ mI M 523 i = nI (qI p 47) ∧ mI M 526 i = nI (qI p 50) ∧ mI M 527 i = nI (qI p 51) - 1 ∧ mI M 528 i = nI (qI p 52) ∧ mI M 530 i = nI (qI p 54) - 1 ∧
  mL M 524 i = lI (qL p 48) ∧ mL M 525 i = lI (qL p 49) ∧ mL M 529 i = lI (qL p 53) ∧
  mI M 521 i = nI (qI p 45) - 1 ∧
  (∀ j, j < qI p 44 → mI M 519 (19 * i + j) = nI (qC p j)) ∧ (∀ j, j < 12 → mI M 518 (12 * i + j) = nI (qR p j))
def arcC (M : Mem) (k : Nat) (x : Ar) : Prop := mI M 329 k = nI (rA x) ∧ mI M 331 k = nI (rK x) ∧ mI M 330 k = nI (rT x) ∧ mI M 332 k = nI (rP x) ∧ BYL M (335 + 4 * k) (336 + 4 * k) (rM x) ∧ BYL M (337 + 4 * k) (338 + 4 * k) (rO x)
def arcM (M : Mem) (k : Nat) (x : Ar) : Prop := mI M 531 k = nI (rA x) ∧ mI M 532 k = nI (rK x) ∧ mI M 533 k = nI (rT x) ∧ mI M 538 k = nI (rP x) ∧ mI M 534 k = nI (rM x).length ∧ (∀ i, i < (rM x).length → mI M 535 (160 * k + i) = nI ((rM x).getD i 0)) ∧ mI M 536 k = nI (rO x).length ∧ (∀ i, i < (rO x).length → mI M 537 (160 * k + i) = nI ((rO x).getD i 0))
def sumF (f : Nat → Int) : Nat → Int
  | 0 => 0
  | n + 1 => sumF f n + f n
def hOf (pay : Nat → Py) (a i : Nat) : Int := if qI (pay i) 45 = a + 1 then qL (pay i) 48 else 0
def kOf (pay : Nat → Py) (a i : Nat) : Int := if qI (pay i) 45 = a + 1 ∧ (qI (pay i) 52 = 1 ∨ qI (pay i) 52 = 2) then qL (pay i) 53 else 0
/-- the class's scalars -/
def cN (n : Nat → Nat) (M : Mem) : Prop :=
  mI M 0 8 = nI (n 4) ∧ mI M 1 1 = nI (n 17) ∧ mI M 1 3 = nI (n 18) ∧ mI M 1 7 = nI (n 24) ∧ mI M 1 9 = nI (n 28) ∧ mI M 1 13 = nI (n 34) ∧ mI M 1 14 = nI (n 13) ∧ mI M 1 15 = nI (n 14) ∧ mI M 1 16 = nI (n 15) ∧ mI M 1 17 = nI (n 16) ∧
  mI M 139 3 = nI (n 39) ∧ mI M 139 4 = nI (n 12) ∧ mI M 139 5 = nI (n 11) ∧ mI M 328 6 = nI (n 55) ∧
  mI M 431 0 = nI (n 8) ∧ mI M 431 1 = nI (n 9) ∧ mI M 431 2 = nI (n 10) ∧ mI M 431 3 = nI (n 7) - 1 ∧ mI M 431 4 = nI (n 6) ∧ mI M 431 5 = nI (n 5)
def mNn (n : Nat → Nat) (M : Mem) : Prop :=
  mI M 495 4 = nI (n 4) ∧ mI M 495 17 = nI (n 17) ∧ mI M 495 18 = nI (n 18) ∧ mI M 495 24 = nI (n 24) ∧ mI M 495 28 = nI (n 28) ∧ mI M 495 34 = nI (n 34) ∧ mI M 495 13 = nI (n 13) ∧ mI M 495 14 = nI (n 14) ∧ mI M 495 15 = nI (n 15) ∧ mI M 495 16 = nI (n 16) ∧
  mI M 495 39 = nI (n 39) ∧ mI M 495 12 = nI (n 12) ∧ mI M 495 11 = nI (n 11) ∧ mI M 495 55 = nI (n 55) ∧
  mI M 495 8 = nI (n 8) ∧ mI M 495 9 = nI (n 9) ∧ mI M 495 10 = nI (n 10) ∧ mI M 495 7 = nI (n 7) - 1 ∧ mI M 495 6 = nI (n 6) ∧ mI M 495 5 = nI (n 5)
/-- the class's rows of ints -/
def cI (f : Nat → Nat → Nat) (M : Mem) : Prop :=
  (∀ i, i < 6 → mI M 2 i = nI (f 499 i) ∧ mI M 3 i = nI (f 499 (6 + i)) ∧ mI M 145 i = nI (f 502 i)) ∧
  (∀ i, i < 40 → mI M 4 i = nI (f 504 i) ∧ mI M 5 i = nI (f 505 i) ∧ mI M 6 i = nI (f 506 i)) ∧
  (∀ i, i < 64 → mI M (11 + 2 * i) 1 = nI (f 507 i)) ∧ (∀ i, i < 100 → mI M 9 i = nI (f 514 i) ∧ mI M 10 i = nI (f 515 i))
def mIi (f : Nat → Nat → Nat) (M : Mem) : Prop :=
  (∀ i, i < 12 → mI M 499 i = nI (f 499 i)) ∧ (∀ i, i < 6 → mI M 502 i = nI (f 502 i)) ∧
  (∀ i, i < 40 → mI M 504 i = nI (f 504 i) ∧ mI M 505 i = nI (f 505 i) ∧ mI M 506 i = nI (f 506 i)) ∧
  (∀ i, i < 64 → mI M 507 i = nI (f 507 i)) ∧ (∀ i, i < 100 → mI M 514 i = nI (f 514 i) ∧ mI M 515 i = nI (f 515 i))
def cL (f : Nat → Nat → Int) (M : Mem) : Prop :=
  (∀ i, i < 6 → mL M 141 i = lI (f 500 i) ∧ mL M 142 i = lI (f 501 i) ∧ mL M 146 i = lI (f 503 i)) ∧
  (∀ i, i < 7 → mL M 143 i = lI (f 500 (6 + i)) ∧ mL M 144 i = lI (f 501 (6 + i))) ∧
  (∀ i, i < 64 → mL M (11 + 2 * i) 2 = lI (f 508 i) ∧ mL M (11 + 2 * i) 4 = lI (f 509 i))
def mLl (f : Nat → Nat → Int) (M : Mem) : Prop :=
  (∀ i, i < 13 → mL M 500 i = lI (f 500 i) ∧ mL M 501 i = lI (f 501 i)) ∧ (∀ i, i < 6 → mL M 503 i = lI (f 503 i)) ∧
  (∀ i, i < 64 → mL M 508 i = lI (f 508 i) ∧ mL M 509 i = lI (f 509 i))
/-- the accounts' own numbers, and what was free at first -/
def cF (f : Nat → Int) (M : Mem) : Prop := ∀ i, i < 64 → mI M (11 + 2 * i) 0 = nI i ∧ mL M (11 + 2 * i) 3 = lI (f i)
/-- what is held, what is locked -/
def cS (np : Nat) (pay : Nat → Py) (M : Mem) : Prop := ∀ a, a < 64 → mL M (11 + 2 * a) 5 = lI (sumF (hOf pay a) np) ∧ mL M (11 + 2 * a) 6 = lI (sumF (kOf pay a) np)
/-- the approvals: a ring of 8 -/
def cA (c : Nat → Nat) (f : Nat → List Nat) (M : Mem) : Prop := ∀ a, a < 64 → mI M (11 + 2 * a) 8 = nI (c a) ∧ ((f a).length = min (c a) 8 ∧ (c a : Int) < (mI M 139 4).toInt) ∧ ∀ k, k < (f a).length → mI M (12 + 2 * a) ((c a - (f a).length + k) % 8) = nI ((f a).getD k 0)
def mA (f : Nat → List Nat) (M : Mem) : Prop := ∀ a, a < 64 → mI M 510 a = nI (f a).length ∧ ∀ k, k < (f a).length → mI M 511 (8 * a + k) = nI ((f a).getD k 0)
def cC (nc : Nat) (f : Nat → Nat) (M : Mem) : Prop := ∀ i, i < nc → mL M 8 i = lI (f i)
def mC (nc : Nat) (f : Nat → Nat) (M : Mem) : Prop := ∀ i, i < nc → mI M 513 i = nI (nd (f i)) ∧ ∀ j, j < nd (f i) → mI M 512 (19 * i + j) = nI (dgt 10 (nd (f i)) (f i) j)
def cP (w : Nat → Nat) (np : Nat) (pay : Nat → Py) (M : Mem) : Prop := (∀ i, i < 60 → mR M 147 i = some (148 + 3 * w i) ∧ w i < 60) ∧ (∀ i j, i < 60 → j < 60 → w i = w j → i = j) ∧ ∀ i, i < np → payC M (148 + 3 * w i) (pay i)
def mP (np : Nat) (pay : Nat → Py) (M : Mem) : Prop := ∀ i, i < np → payM M i (pay i)
def cR (o na : Nat) (arc : Nat → Ar) (M : Mem) : Prop := mI M 328 7 = nI o ∧ o < 24 ∧ (na < 24 → o = 0) ∧ ∀ k, k < na → arcC M ((o + k) % 24) (arc k)
def mRr (na : Nat) (arc : Nat → Ar) (M : Mem) : Prop := ∀ k, k < na → arcM M k (arc k)
def mK (M : Mem) : Prop := ∀ s, s < 16 → mI M 496 s = nI (fnF s) ∧ mI M 497 s = nI (szF s) ∧ mI M 498 s = nI ((if ltF s then 2 else 0) + (if ldF s = 0 then 0 else 1))
/-- the whole state: scalars, ints, longs, payments, archive, approvals, cards, free at first, draft, tape, last -/
abbrev Sw : Type := (Nat → Nat) × (Nat → Nat → Nat) × (Nat → Nat → Int) × (Nat → Py) × (Nat → Ar) × (Nat → List Nat) × (Nat → Nat) × (Nat → Int) × Msg × List Nat × List Nat
def sN (S : Sw) := S.1
def sI (S : Sw) := S.2.1
def sL (S : Sw) := S.2.2.1
def sP (S : Sw) := S.2.2.2.1
def sR (S : Sw) := S.2.2.2.2.1
def sQ (S : Sw) := S.2.2.2.2.2.1
def sC (S : Sw) := S.2.2.2.2.2.2.1
def sF (S : Sw) := S.2.2.2.2.2.2.2.1
def sD (S : Sw) := S.2.2.2.2.2.2.2.2.1
def sT (S : Sw) := S.2.2.2.2.2.2.2.2.2.1
def sZ (S : Sw) := S.2.2.2.2.2.2.2.2.2.2
def RC (w : Nat → Nat) (o : Nat) (c : Nat → Nat) (S : Sw) (M : Mem) : Prop := LF M ∧ cN (sN S) M ∧ cI (sI S) M ∧ cL (sL S) M ∧ cF (sF S) M ∧ cS (sN S 39) (sP S) M ∧ cA c (sQ S) M ∧ cC (sN S 34) (sC S) M ∧ cP w (sN S 39) (sP S) M ∧ cR o (sN S 55) (sR S) M ∧ msgC M 432 433 435 (sD S) ∧ BYL M 451 452 (sT S) ∧ BYL M 493 494 (sZ S)
def RM (S : Sw) (M : Mem) : Prop := LF M ∧ mNn (sN S) M ∧ mIi (sI S) M ∧ mLl (sL S) M ∧ mA (sQ S) M ∧ mC (sN S 34) (sC S) M ∧ mP (sN S 39) (sP S) M ∧ mRr (sN S 55) (sR S) M ∧ msgM M 64 540 539 (sD S) ∧ (mI M 495 74 = nI (sT S).length ∧ ∀ i, i < (sT S).length → mI M 545 i = nI ((sT S).getD i 0)) ∧ (mI M 495 78 = nI (sZ S).length ∧ ∀ i, i < (sZ S).length → mI M 547 i = nI ((sZ S).getD i 0)) ∧ mK M
