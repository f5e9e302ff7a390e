/-! ===== shares: quotients of whole numbers, in their order ===== -/
/-- a number's place among the units of the least exponent -/
def kyD (x : UInt64) : Option Nat := match FP.Core.decode FP.Core.b64 x.toNat with
  | .fin s c q => if s = false ∧ -1074 ≤ q then some (FP.Core.inUnits c q (-1074)) else none
  | _ => none
def shX (c p : Nat) : UInt64 := FP.ddiv (FP.i2d (iI (c : Int))) (FP.i2d (iI (p : Int)))
def rowG (p : Nat) : Nat → Nat → Nat → Bool
  | 0, _, _ => true
  | t + 1, c, k => match kyD (shX c p) with
    | some a => Nat.ble k a && rowG p t (c + 1) a
    | none => false
theorem rw2 : ((List.range 84).all fun b => rowG (2 * (b + 1)) (2 * (b + 1) + 1) 0 0) = true := by decide +kernel
theorem rw3 : ((List.range 84).all fun b => rowG (3 * (b + 1)) (3 * (b + 1) + 1) 0 0) = true := by decide +kernel
theorem rw4 : ((List.range 84).all fun b => rowG (4 * (b + 1)) (4 * (b + 1) + 1) 0 0) = true := by decide +kernel
theorem rw5 : ((List.range 84).all fun b => rowG (5 * (b + 1)) (5 * (b + 1) + 1) 0 0) = true := by decide +kernel
