/-! ===== shares: quotients of whole numbers, in their order ===== -/
/-- a number's place among the units of the least exponent -/
def kyD (x : UInt64) : Option Nat := match FP.Core.decode FP.Core.b64 x.toNat with
  | .fin s c q => if s = false ∧ -1074 ≤ q then some (FP.Core.inUnits c q (-1074)) else none
  | _ => none
def shX (c p : Nat) : UInt64 := FP.ddiv (FP.i2d (iI (c : Int))) (FP.i2d (iI (p : Int)))
def rowG (p : Nat) : Nat → Nat → Nat → Bool
  | 0, _, _ => true
  | t + 1, c, k => match kyD (shX c p) with
    | some a => Nat.ble k a && rowG p t (c + 1) a
    | none => false
def rowP (pr i : Nat) : Bool := (List.range 4).all fun b => rowG (pr * (4 * i + b + 1)) (pr * (4 * i + b + 1) + 1) 0 0
theorem rqc2_0 : rowP 2 0 = true := by decide +kernel
theorem rqc2_1 : rowP 2 1 = true := by decide +kernel
theorem rqc2_2 : rowP 2 2 = true := by decide +kernel
theorem rqc2_3 : rowP 2 3 = true := by decide +kernel
theorem rqc2_4 : rowP 2 4 = true := by decide +kernel
theorem rqc2_5 : rowP 2 5 = true := by decide +kernel
theorem rqc2_6 : rowP 2 6 = true := by decide +kernel
theorem rqc2_7 : rowP 2 7 = true := by decide +kernel
theorem rqc2_8 : rowP 2 8 = true := by decide +kernel
theorem rqc2_9 : rowP 2 9 = true := by decide +kernel
theorem rqc2_10 : rowP 2 10 = true := by decide +kernel
theorem rqc2_11 : rowP 2 11 = true := by decide +kernel
theorem rqc2_12 : rowP 2 12 = true := by decide +kernel
theorem rqc2_13 : rowP 2 13 = true := by decide +kernel
theorem rqc2_14 : rowP 2 14 = true := by decide +kernel
theorem rqc2_15 : rowP 2 15 = true := by decide +kernel
theorem rqc2_16 : rowP 2 16 = true := by decide +kernel
theorem rqc2_17 : rowP 2 17 = true := by decide +kernel
theorem rqc2_18 : rowP 2 18 = true := by decide +kernel
theorem rqc2_19 : rowP 2 19 = true := by decide +kernel
theorem rqc2_20 : rowP 2 20 = true := by decide +kernel
theorem rqc3_0 : rowP 3 0 = true := by decide +kernel
theorem rqc3_1 : rowP 3 1 = true := by decide +kernel
theorem rqc3_2 : rowP 3 2 = true := by decide +kernel
theorem rqc3_3 : rowP 3 3 = true := by decide +kernel
theorem rqc3_4 : rowP 3 4 = true := by decide +kernel
theorem rqc3_5 : rowP 3 5 = true := by decide +kernel
theorem rqc3_6 : rowP 3 6 = true := by decide +kernel
theorem rqc3_7 : rowP 3 7 = true := by decide +kernel
theorem rqc3_8 : rowP 3 8 = true := by decide +kernel
theorem rqc3_9 : rowP 3 9 = true := by decide +kernel
theorem rqc3_10 : rowP 3 10 = true := by decide +kernel
theorem rqc3_11 : rowP 3 11 = true := by decide +kernel
theorem rqc3_12 : rowP 3 12 = true := by decide +kernel
theorem rqc3_13 : rowP 3 13 = true := by decide +kernel
theorem rqc3_14 : rowP 3 14 = true := by decide +kernel
theorem rqc3_15 : rowP 3 15 = true := by decide +kernel
theorem rqc3_16 : rowP 3 16 = true := by decide +kernel
theorem rqc3_17 : rowP 3 17 = true := by decide +kernel
theorem rqc3_18 : rowP 3 18 = true := by decide +kernel
theorem rqc3_19 : rowP 3 19 = true := by decide +kernel
theorem rqc3_20 : rowP 3 20 = true := by decide +kernel
theorem rqc4_0 : rowP 4 0 = true := by decide +kernel
theorem rqc4_1 : rowP 4 1 = true := by decide +kernel
theorem rqc4_2 : rowP 4 2 = true := by decide +kernel
theorem rqc4_3 : rowP 4 3 = true := by decide +kernel
theorem rqc4_4 : rowP 4 4 = true := by decide +kernel
theorem rqc4_5 : rowP 4 5 = true := by decide +kernel
theorem rqc4_6 : rowP 4 6 = true := by decide +kernel
theorem rqc4_7 : rowP 4 7 = true := by decide +kernel
theorem rqc4_8 : rowP 4 8 = true := by decide +kernel
theorem rqc4_9 : rowP 4 9 = true := by decide +kernel
theorem rqc4_10 : rowP 4 10 = true := by decide +kernel
theorem rqc4_11 : rowP 4 11 = true := by decide +kernel
theorem rqc4_12 : rowP 4 12 = true := by decide +kernel
theorem rqc4_13 : rowP 4 13 = true := by decide +kernel
theorem rqc4_14 : rowP 4 14 = true := by decide +kernel
theorem rqc4_15 : rowP 4 15 = true := by decide +kernel
theorem rqc4_16 : rowP 4 16 = true := by decide +kernel
theorem rqc4_17 : rowP 4 17 = true := by decide +kernel
theorem rqc4_18 : rowP 4 18 = true := by decide +kernel
theorem rqc4_19 : rowP 4 19 = true := by decide +kernel
theorem rqc4_20 : rowP 4 20 = true := by decide +kernel
theorem rqc5_0 : rowP 5 0 = true := by decide +kernel
theorem rqc5_1 : rowP 5 1 = true := by decide +kernel
theorem rqc5_2 : rowP 5 2 = true := by decide +kernel
theorem rqc5_3 : rowP 5 3 = true := by decide +kernel
theorem rqc5_4 : rowP 5 4 = true := by decide +kernel
theorem rqc5_5 : rowP 5 5 = true := by decide +kernel
theorem rqc5_6 : rowP 5 6 = true := by decide +kernel
theorem rqc5_7 : rowP 5 7 = true := by decide +kernel
theorem rqc5_8 : rowP 5 8 = true := by decide +kernel
theorem rqc5_9 : rowP 5 9 = true := by decide +kernel
theorem rqc5_10 : rowP 5 10 = true := by decide +kernel
theorem rqc5_11 : rowP 5 11 = true := by decide +kernel
theorem rqc5_12 : rowP 5 12 = true := by decide +kernel
theorem rqc5_13 : rowP 5 13 = true := by decide +kernel
theorem rqc5_14 : rowP 5 14 = true := by decide +kernel
theorem rqc5_15 : rowP 5 15 = true := by decide +kernel
theorem rqc5_16 : rowP 5 16 = true := by decide +kernel
theorem rqc5_17 : rowP 5 17 = true := by decide +kernel
theorem rqc5_18 : rowP 5 18 = true := by decide +kernel
theorem rqc5_19 : rowP 5 19 = true := by decide +kernel
theorem rqc5_20 : rowP 5 20 = true := by decide +kernel
theorem rqc2 : ∀ i, i < 21 → rowP 2 i = true
  | 0, _ => rqc2_0
  | 1, _ => rqc2_1
  | 2, _ => rqc2_2
  | 3, _ => rqc2_3
  | 4, _ => rqc2_4
  | 5, _ => rqc2_5
  | 6, _ => rqc2_6
  | 7, _ => rqc2_7
  | 8, _ => rqc2_8
  | 9, _ => rqc2_9
  | 10, _ => rqc2_10
  | 11, _ => rqc2_11
  | 12, _ => rqc2_12
  | 13, _ => rqc2_13
  | 14, _ => rqc2_14
  | 15, _ => rqc2_15
  | 16, _ => rqc2_16
  | 17, _ => rqc2_17
  | 18, _ => rqc2_18
  | 19, _ => rqc2_19
  | 20, _ => rqc2_20
  | i + 21, h => absurd h (by omega)
theorem rqc3 : ∀ i, i < 21 → rowP 3 i = true
  | 0, _ => rqc3_0
  | 1, _ => rqc3_1
  | 2, _ => rqc3_2
  | 3, _ => rqc3_3
  | 4, _ => rqc3_4
  | 5, _ => rqc3_5
  | 6, _ => rqc3_6
  | 7, _ => rqc3_7
  | 8, _ => rqc3_8
  | 9, _ => rqc3_9
  | 10, _ => rqc3_10
  | 11, _ => rqc3_11
  | 12, _ => rqc3_12
  | 13, _ => rqc3_13
  | 14, _ => rqc3_14
  | 15, _ => rqc3_15
  | 16, _ => rqc3_16
  | 17, _ => rqc3_17
  | 18, _ => rqc3_18
  | 19, _ => rqc3_19
  | 20, _ => rqc3_20
  | i + 21, h => absurd h (by omega)
theorem rqc4 : ∀ i, i < 21 → rowP 4 i = true
  | 0, _ => rqc4_0
  | 1, _ => rqc4_1
  | 2, _ => rqc4_2
  | 3, _ => rqc4_3
  | 4, _ => rqc4_4
  | 5, _ => rqc4_5
  | 6, _ => rqc4_6
  | 7, _ => rqc4_7
  | 8, _ => rqc4_8
  | 9, _ => rqc4_9
  | 10, _ => rqc4_10
  | 11, _ => rqc4_11
  | 12, _ => rqc4_12
  | 13, _ => rqc4_13
  | 14, _ => rqc4_14
  | 15, _ => rqc4_15
  | 16, _ => rqc4_16
  | 17, _ => rqc4_17
  | 18, _ => rqc4_18
  | 19, _ => rqc4_19
  | 20, _ => rqc4_20
  | i + 21, h => absurd h (by omega)
theorem rqc5 : ∀ i, i < 21 → rowP 5 i = true
  | 0, _ => rqc5_0
  | 1, _ => rqc5_1
  | 2, _ => rqc5_2
  | 3, _ => rqc5_3
  | 4, _ => rqc5_4
  | 5, _ => rqc5_5
  | 6, _ => rqc5_6
  | 7, _ => rqc5_7
  | 8, _ => rqc5_8
  | 9, _ => rqc5_9
  | 10, _ => rqc5_10
  | 11, _ => rqc5_11
  | 12, _ => rqc5_12
  | 13, _ => rqc5_13
  | 14, _ => rqc5_14
  | 15, _ => rqc5_15
  | 16, _ => rqc5_16
  | 17, _ => rqc5_17
  | 18, _ => rqc5_18
  | 19, _ => rqc5_19
  | 20, _ => rqc5_20
  | i + 21, h => absurd h (by omega)
