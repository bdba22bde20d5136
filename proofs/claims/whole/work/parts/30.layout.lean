/-! WHERE THE CELLS LIE, ONCE ALL ARE MADE -/
def layF (a : Nat) : Option Lk := if 552 ≤ a then none else (if a < 494 then (if a < 333 then (if a < 139 then (if a < 7 then (if a < 2 then (if a < 1 then (some (.inr 11)) else (some (.inr 10))) else (if a < 4 then (some (.inl (.int, 6))) else (some (.inl (.int, 40))))) else (if a < 9 then (if a < 8 then (some (.inl (.object RX0, 64))) else (some (.inl (.long, 100)))) else (if a < 10 then (some (.inl (.int, 100))) else (if a < 11 then (some (.inl (.boolean, 100))) else (if (a - 11) % 2 = 0 then some (.inr 0) else some (.inl (.int, 8))))))) else (if a < 146 then (if a < 141 then (if a < 140 then (some (.inr 2)) else (some (.inr 8))) else (if a < 143 then (some (.inl (.long, 6))) else (if a < 145 then (some (.inl (.long, 7))) else (some (.inl (.int, 6)))))) else (if a < 148 then (if a < 147 then (some (.inl (.long, 6))) else (some (.inl (.object RX7, 60)))) else (if a < 328 then (if (a - 148) % 3 = 0 then some (.inr 7) else if (a - 148) % 3 = 1 then some (.inl (.int, 19)) else some (.inl (.int, 12))) else (if a < 329 then (some (.inr 1)) else (some (.inl (.int, 24)))))))) else (if a < 454 then (if a < 434 then (if a < 431 then (if a < 335 then (some (.inl (.object RX3, 24))) else (if (a - 335) % 2 = 0 then some (.inr 3) else some (.inl (.int, 162)))) else (if a < 432 then (some (.inr 5)) else (if a < 433 then (some (.inr 6)) else (some (.inl (.int, 16)))))) else (if a < 451 then (if a < 435 then (some (.inl (.array .int, 16))) else (some (.inl (.int, 42)))) else (if a < 452 then (some (.inr 3)) else (if a < 453 then (some (.inl (.int, 400))) else (some (.inr 9)))))) else (if a < 474 then (if a < 456 then (if a < 455 then (some (.inr 6)) else (some (.inl (.int, 16)))) else (if a < 457 then (some (.inl (.array .int, 16))) else (if a < 473 then (some (.inl (.int, 42))) else (some (.inr 4))))) else (if a < 476 then (if a < 475 then (some (.inr 6)) else (some (.inl (.int, 16)))) else (if a < 477 then (some (.inl (.array .int, 16))) else (if a < 493 then (some (.inl (.int, 42))) else (some (.inr 3)))))))) else (if a < 526 then (if a < 510 then (if a < 502 then (if a < 496 then (if a < 495 then (some (.inl (.int, 162))) else (some (.inr 12))) else (if a < 499 then (some (.inl (.int, 16))) else (if a < 500 then (some (.inl (.int, 13))) else (some (.inl (.long, 13)))))) else (if a < 504 then (if a < 503 then (some (.inl (.int, 6))) else (some (.inl (.long, 6)))) else (if a < 507 then (some (.inl (.int, 40))) else (if a < 508 then (some (.inl (.int, 64))) else (some (.inl (.long, 64))))))) else (if a < 516 then (if a < 512 then (if a < 511 then (some (.inl (.int, 64))) else (some (.inl (.int, 512)))) else (if a < 513 then (some (.inl (.int, 1900))) else (if a < 515 then (some (.inl (.int, 100))) else (some (.inl (.boolean, 100)))))) else (if a < 519 then (if a < 518 then (some (.inl (.int, 61))) else (some (.inl (.int, 732)))) else (if a < 520 then (some (.inl (.int, 1159))) else (if a < 524 then (some (.inl (.int, 61))) else (some (.inl (.long, 61)))))))) else (if a < 541 then (if a < 536 then (if a < 530 then (if a < 529 then (some (.inl (.int, 61))) else (some (.inl (.long, 61)))) else (if a < 531 then (some (.inl (.int, 61))) else (if a < 535 then (some (.inl (.int, 25))) else (some (.inl (.int, 4000)))))) else (if a < 538 then (if a < 537 then (some (.inl (.int, 25))) else (some (.inl (.int, 4000)))) else (if a < 539 then (some (.inl (.int, 25))) else (if a < 540 then (some (.inl (.int, 672))) else (some (.inl (.int, 16))))))) else (if a < 546 then (if a < 543 then (if a < 542 then (some (.inl (.int, 672))) else (some (.inl (.int, 16)))) else (if a < 544 then (some (.inl (.int, 672))) else (if a < 545 then (some (.inl (.int, 16))) else (some (.inl (.int, 400)))))) else (if a < 549 then (if a < 548 then (some (.inl (.int, 160))) else (some (.inl (.int, 4)))) else (if a < 550 then (some (.inl (.int, 6))) else (if a < 551 then (some (.inl (.int, 672))) else (some (.inl (.long, 1))))))))))
/-- the references that stay, of single objects; 0: none -/
def refF (a j : Nat) : Nat := if a < 451 then (if a < 140 then (if a < 1 then (if a = 0 then (if j < 4 then (if j < 2 then (if j < 1 then (if j = 0 then 1 else 0) else (if j = 1 then 432 else 0)) else (if j < 3 then (if j = 2 then 451 else 0) else (if j = 3 then 453 else 0))) else (if j < 6 then (if j < 5 then (if j = 4 then 139 else 0) else (if j = 5 then 328 else 0)) else (if j < 7 then (if j = 6 then 431 else 0) else (if j = 7 then 473 else 0)))) else 0) else (if a < 139 then (if a = 1 then (if j < 6 then (if j < 4 then (if j < 2 then (if j = 0 then 2 else 0) else (if j = 2 then 3 else 0)) else (if j < 5 then (if j = 4 then 4 else 0) else (if j = 5 then 5 else 0))) else (if j < 10 then (if j < 8 then (if j = 6 then 6 else 0) else (if j = 8 then 7 else 0)) else (if j < 11 then (if j = 10 then 8 else 0) else (if j < 12 then (if j = 11 then 9 else 0) else (if j = 12 then 10 else 0))))) else 0) else (if a = 139 then (if j < 1 then (if j = 0 then 1 else 0) else (if j < 2 then (if j = 1 then 140 else 0) else (if j = 2 then 147 else 0))) else 0))) else (if a < 328 then (if a = 140 then (if j < 3 then (if j < 1 then (if j = 0 then 141 else 0) else (if j < 2 then (if j = 1 then 142 else 0) else (if j = 2 then 143 else 0))) else (if j < 4 then (if j = 3 then 144 else 0) else (if j < 5 then (if j = 4 then 145 else 0) else (if j = 5 then 146 else 0)))) else 0) else (if a < 432 then (if a = 328 then (if j < 3 then (if j < 1 then (if j = 0 then 329 else 0) else (if j < 2 then (if j = 1 then 330 else 0) else (if j = 2 then 331 else 0))) else (if j < 4 then (if j = 3 then 332 else 0) else (if j < 5 then (if j = 4 then 333 else 0) else (if j = 5 then 334 else 0)))) else 0) else (if a = 432 then (if j < 3 then (if j = 2 then 433 else 0) else (if j = 3 then 434 else 0)) else 0)))) else (if a < 473 then (if a < 453 then (if a = 451 then (if j = 0 then 452 else 0) else 0) else (if a < 454 then (if a = 453 then (if j = 0 then 454 else 0) else 0) else (if a = 454 then (if j < 3 then (if j = 2 then 455 else 0) else (if j = 3 then 456 else 0)) else 0))) else (if a < 493 then (if a < 474 then (if a = 473 then (if j < 3 then (if j < 1 then (if j = 0 then 1 else 0) else (if j < 2 then (if j = 1 then 139 else 0) else (if j = 2 then 328 else 0))) else (if j < 4 then (if j = 3 then 431 else 0) else (if j < 5 then (if j = 4 then 474 else 0) else (if j = 5 then 493 else 0)))) else 0) else (if a = 474 then (if j < 3 then (if j = 2 then 475 else 0) else (if j = 3 then 476 else 0)) else 0)) else (if a < 495 then (if a = 493 then (if j = 0 then 494 else 0) else 0) else (if a = 495 then (if j < 47 then (if j < 31 then (if j < 22 then (if j < 19 then (if j < 1 then (if j = 0 then 496 else 0) else (if j < 2 then (if j = 1 then 497 else 0) else (if j = 2 then 498 else 0))) else (if j < 20 then (if j = 19 then 499 else 0) else (if j < 21 then (if j = 20 then 500 else 0) else (if j = 21 then 501 else 0)))) else (if j < 26 then (if j < 23 then (if j = 22 then 502 else 0) else (if j < 25 then (if j = 23 then 503 else 0) else (if j = 25 then 504 else 0))) else (if j < 29 then (if j < 27 then (if j = 26 then 505 else 0) else (if j = 27 then 506 else 0)) else (if j < 30 then (if j = 29 then 507 else 0) else (if j = 30 then 508 else 0))))) else (if j < 40 then (if j < 35 then (if j < 32 then (if j = 31 then 509 else 0) else (if j < 33 then (if j = 32 then 510 else 0) else (if j = 33 then 511 else 0))) else (if j < 37 then (if j < 36 then (if j = 35 then 512 else 0) else (if j = 36 then 513 else 0)) else (if j < 38 then (if j = 37 then 514 else 0) else (if j = 38 then 515 else 0)))) else (if j < 43 then (if j < 41 then (if j = 40 then 516 else 0) else (if j < 42 then (if j = 41 then 517 else 0) else (if j = 42 then 518 else 0))) else (if j < 45 then (if j < 44 then (if j = 43 then 519 else 0) else (if j = 44 then 520 else 0)) else (if j < 46 then (if j = 45 then 521 else 0) else (if j = 46 then 522 else 0)))))) else (if j < 62 then (if j < 54 then (if j < 50 then (if j < 48 then (if j = 47 then 523 else 0) else (if j < 49 then (if j = 48 then 524 else 0) else (if j = 49 then 525 else 0))) else (if j < 52 then (if j < 51 then (if j = 50 then 526 else 0) else (if j = 51 then 527 else 0)) else (if j < 53 then (if j = 52 then 528 else 0) else (if j = 53 then 529 else 0)))) else (if j < 58 then (if j < 56 then (if j = 54 then 530 else 0) else (if j < 57 then (if j = 56 then 531 else 0) else (if j = 57 then 532 else 0))) else (if j < 60 then (if j < 59 then (if j = 58 then 533 else 0) else (if j = 59 then 534 else 0)) else (if j < 61 then (if j = 60 then 535 else 0) else (if j = 61 then 536 else 0))))) else (if j < 72 then (if j < 66 then (if j < 63 then (if j = 62 then 537 else 0) else (if j < 65 then (if j = 63 then 538 else 0) else (if j = 65 then 539 else 0))) else (if j < 69 then (if j < 68 then (if j = 66 then 540 else 0) else (if j = 68 then 541 else 0)) else (if j < 71 then (if j = 69 then 542 else 0) else (if j = 71 then 543 else 0)))) else (if j < 77 then (if j < 73 then (if j = 72 then 544 else 0) else (if j < 75 then (if j = 73 then 545 else 0) else (if j = 75 then 546 else 0))) else (if j < 84 then (if j < 83 then (if j = 77 then 547 else 0) else (if j = 83 then 548 else 0)) else (if j < 85 then (if j = 84 then 549 else 0) else (if j = 85 then 550 else 0))))))) else 0))))
/-- all cells are there, and what stays is as it was made -/
def LF (M : Mem) : Prop := mN M = 552 ∧ mY M = layF ∧ (∀ a j, refF a j ≠ 0 → mR M a j = some (refF a j)) ∧
  (∀ i, i < 64 → mR M 7 i = some (11 + 2 * i)) ∧ (∀ i, i < 64 → mR M (11 + 2 * i) 7 = some (12 + 2 * i)) ∧
  (∀ i, i < 60 → mR M (148 + 3 * i) 3 = some (149 + 3 * i) ∧ mR M (148 + 3 * i) 5 = some (150 + 3 * i)) ∧
  (∀ i, i < 24 → mR M 333 i = some (335 + 4 * i) ∧ mR M 334 i = some (337 + 4 * i)) ∧ (∀ i, i < 48 → mR M (335 + 2 * i) 0 = some (336 + 2 * i)) ∧
  (∀ i, i < 16 → mR M 434 i = some (435 + i) ∧ mR M 456 i = some (457 + i) ∧ mR M 476 i = some (477 + i))
section LAYF
variable {M : Mem} {a j k : Nat} {e : Lk}
theorem LF.hk (h : LF M) : hasK M a e = (layF a = some e) := by
  apply propext
  unfold hasK
  rw [h.1, h.2.1]
  refine ⟨fun q => q.2, fun q => ⟨?_, q⟩⟩
  apply Classical.byContradiction
  intro hn
  unfold layF at q
  rw [if_pos (by omega)] at q
  cases q
theorem LF.r (h : LF M) (hf : refF a j ≠ 0) : mR M a j = some (refF a j) := h.2.2.1 a j hf
theorem LF.uI (h : LF M) {v : Int32} : LF (uI M a j v) := h
theorem LF.uL (h : LF M) {v : Int64} : LF (uL M a j v) := h
theorem LF.sRow (h : LF M) {f : Nat → Int32} : LF (sRow M a f) := h
theorem LF.uZ (h : LF M) : LF (uZ M) := h
theorem lay_acc {i : Nat} (h : i < 64) : layF (11 + 2 * i) = some (.inr 0) := by
  unfold layF
  simp only [show ¬ 552 ≤ 11 + 2 * i by omega, if_false]
  repeat (first | rw [if_pos (by omega)] | rw [if_neg (by omega)])
theorem lay_accA {i : Nat} (h : i < 64) : layF (12 + 2 * i) = some (.inl (.int, 8)) := by
  unfold layF
  simp only [show ¬ 552 ≤ 12 + 2 * i by omega, if_false]
  repeat (first | rw [if_pos (by omega)] | rw [if_neg (by omega)])
theorem lay_pay {i : Nat} (h : i < 60) : layF (148 + 3 * i) = some (.inr 7) := by
  unfold layF
  simp only [show ¬ 552 ≤ 148 + 3 * i by omega, if_false]
  repeat (first | rw [if_pos (by omega)] | rw [if_neg (by omega)])
theorem lay_payC {i : Nat} (h : i < 60) : layF (149 + 3 * i) = some (.inl (.int, 19)) := by
  unfold layF
  simp only [show ¬ 552 ≤ 149 + 3 * i by omega, if_false]
  repeat (first | rw [if_pos (by omega)] | rw [if_neg (by omega)])
theorem lay_payR {i : Nat} (h : i < 60) : layF (150 + 3 * i) = some (.inl (.int, 12)) := by
  unfold layF
  simp only [show ¬ 552 ≤ 150 + 3 * i by omega, if_false]
  repeat (first | rw [if_pos (by omega)] | rw [if_neg (by omega)])
theorem lay_by {i : Nat} (h : i < 48) : layF (335 + 2 * i) = some (.inr 3) := by
  unfold layF
  simp only [show ¬ 552 ≤ 335 + 2 * i by omega, if_false]
  repeat (first | rw [if_pos (by omega)] | rw [if_neg (by omega)])
theorem lay_byR {i : Nat} (h : i < 48) : layF (336 + 2 * i) = some (.inl (.int, 162)) := by
  unfold layF
  simp only [show ¬ 552 ≤ 336 + 2 * i by omega, if_false]
  repeat (first | rw [if_pos (by omega)] | rw [if_neg (by omega)])
theorem lay_dr {i : Nat} (h : i < 16) : layF (435 + i) = some (.inl (.int, 42)) ∧ layF (457 + i) = some (.inl (.int, 42)) ∧ layF (477 + i) = some (.inl (.int, 42)) := by
  refine ⟨?_, ?_, ?_⟩
  · unfold layF
    simp only [show ¬ 552 ≤ 435 + i by omega, if_false]
    repeat (first | rw [if_pos (by omega)] | rw [if_neg (by omega)])
  · unfold layF
    simp only [show ¬ 552 ≤ 457 + i by omega, if_false]
    repeat (first | rw [if_pos (by omega)] | rw [if_neg (by omega)])
  · unfold layF
    simp only [show ¬ 552 ≤ 477 + i by omega, if_false]
    repeat (first | rw [if_pos (by omega)] | rw [if_neg (by omega)])
end LAYF
