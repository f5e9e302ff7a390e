/-! ===== shares: quotients of whole numbers, in their order ===== -/
/-- a number's place among the units of the least exponent -/
def kyD (x : UInt64) : Option Nat := match FP.Core.decode FP.Core.b64 x.toNat with
  | .fin s c q => if s = false ∧ -1074 ≤ q then some (FP.Core.inUnits c q (-1074)) else none
  | _ => none
def shX (c p : Nat) : UInt64 := FP.ddiv (FP.i2d (iI (c : Int))) (FP.i2d (iI (p : Int)))
def chP (p : Nat) : Bool := (List.range p).all fun c => match kyD (shX c p), kyD (shX (c + 1) p) with
  | some a, some b => decide (a ≤ b)
  | _, _ => false
theorem chP_ok : ((List.range 100).all fun p => chP (p + 1)) = true := by decide +kernel
