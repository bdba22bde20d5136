/-! THE MAPS' BYTES -/
def byW (w : Int64) (i : Nat) : Int32 := ((w >>> (((56 : Int32) - 8 * nI i).toInt64 &&& 63)) &&& 255).toInt32
def fw1 (th : Nat) : Nat → Int64
  | 0 => 0
  | k + 1 => if pb th k = 1 ∧ fnF k ≤ 64 then fw1 th k ||| (1 <<< (((64 : Int32) - nI (fnF k)).toInt64 &&& 63)) else fw1 th k
def fw2 (th : Nat) : Nat → Int64
  | 0 => 0
  | k + 1 => if pb th k = 1 ∧ ¬ fnF k ≤ 64 then fw2 th k ||| (1 <<< (((128 : Int32) - nI (fnF k)).toInt64 &&& 63)) else fw2 th k
def byL (w : Int64) : List Int32 := [byW w 0, byW w 1, byW w 2, byW w 3, byW w 4, byW w 5, byW w 6, byW w 7]
theorem by_1 : ∀ x : Fin 2048, byL (fw1 x.val 16) = (List.range 8).map (fun i => nI (mpB (pb x.val) 0 i)) ∧ byL (fw1 x.val 16 ||| (-9223372036854775808)) = (List.range 8).map (fun i => nI (mpB (pb x.val) 1 i)) := by decide +kernel
theorem by_2 : ∀ x : Fin 32, byL (fw2 (2048 * x.val) 16) = (List.range 8).map (fun i => nI (mpB (pb (2048 * x.val)) 1 (8 + i))) ∧ (fw2 (2048 * x.val) 16 = 0 ↔ x.val = 0) := by decide +kernel
