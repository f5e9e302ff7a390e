theorem rw1 : ((List.range 421).all fun b => decide (b = 0) || decide (FP.dcmp (shX b b) FP.dconst1 = some .eq)) = true := by decide +kernel
theorem key_le {x y : UInt64} {a b : Nat} (hx : kyD x = some a) (hy : kyD y = some b) (h : a ≤ b) : FP.dcmp x y = some .lt ∨ FP.dcmp x y = some .eq := by
  unfold kyD at hx hy
  show FP.Core.order (FP.Core.decode FP.Core.b64 x.toNat) (FP.Core.decode FP.Core.b64 y.toNat) = some .lt ∨ FP.Core.order (FP.Core.decode FP.Core.b64 x.toNat) (FP.Core.decode FP.Core.b64 y.toNat) = some .eq
  cases h1 : FP.Core.decode FP.Core.b64 x.toNat with
  | nan => rw [h1] at hx; cases hx
  | inf s => rw [h1] at hx; cases hx
  | fin s c q =>
    cases h2 : FP.Core.decode FP.Core.b64 y.toNat with
    | nan => rw [h2] at hy; cases hy
    | inf s => rw [h2] at hy; cases hy
    | fin s' d r =>
      rw [h1] at hx
      rw [h2] at hy
      have hx' : (if s = false ∧ -1074 ≤ q then some (FP.Core.inUnits c q (-1074)) else none) = some a := hx
      have hy' : (if s' = false ∧ -1074 ≤ r then some (FP.Core.inUnits d r (-1074)) else none) = some b := hy
      by_cases z1 : s = false ∧ -1074 ≤ q
      · by_cases z2 : s' = false ∧ -1074 ≤ r
        · rw [if_pos z1] at hx'
          rw [if_pos z2] at hy'
          have ea := Option.some.inj hx'
          have eb := Option.some.inj hy'
          obtain ⟨s1, q1⟩ := z1
          obtain ⟨s2, q2⟩ := z2
          subst s1
          subst s2
          have key : FP.Core.inUnits c q (min q r) ≤ FP.Core.inUnits d r (min q r) := by
            have hm : ∀ (c : Nat) (q m : Int), -1074 ≤ m → m ≤ q → FP.Core.inUnits c q (-1074) = FP.Core.inUnits c q m * 2 ^ (m + 1074).toNat := fun c q m m1 m2 => by
              unfold FP.Core.inUnits
              rw [Nat.mul_assoc, ← Nat.pow_add]
              congr 2
              omega
            rw [hm c q (min q r) (by omega) (by omega)] at ea
            rw [hm d r (min q r) (by omega) (by omega)] at eb
            rw [← ea, ← eb] at h
            exact Nat.le_of_mul_le_mul_right h (Nat.pow_pos (by omega))
          show some (compare ((FP.Core.inUnits c q (min q r) : Nat) : Int) ((FP.Core.inUnits d r (min q r) : Nat) : Int)) = some .lt ∨ some (compare ((FP.Core.inUnits c q (min q r) : Nat) : Int) ((FP.Core.inUnits d r (min q r) : Nat) : Int)) = some .eq
          rcases Nat.eq_or_lt_of_le key with e | e
          · right
            rw [e]
            exact congrArg some (by simp [compare, compareOfLessAndEq])
          · left
            refine congrArg some ?_
            have : ((FP.Core.inUnits c q (min q r) : Nat) : Int) < ((FP.Core.inUnits d r (min q r) : Nat) : Int) := by omega
            simp [compare, compareOfLessAndEq, this]
        · rw [if_neg z2] at hy'; cases hy'
      · rw [if_neg z1] at hx'; cases hx'
theorem rowG_mono {p : Nat} : ∀ (t c k : Nat), rowG p t c k = true → (∀ j, c ≤ j → j < c + t → ∃ b, kyD (shX j p) = some b ∧ k ≤ b) ∧ ∀ i j, c ≤ i → i ≤ j → j < c + t → ∃ a b, kyD (shX i p) = some a ∧ kyD (shX j p) = some b ∧ a ≤ b
  | 0, c, k, _ => ⟨fun j h1 h2 => absurd h2 (by omega), fun i j h1 h2 h3 => absurd h3 (by omega)⟩
  | t + 1, c, k, h => by
    have h' : (match kyD (shX c p) with
      | some a => Nat.ble k a && rowG p t (c + 1) a
      | none => false) = true := h
    cases hk : kyD (shX c p) with
    | none => rw [hk] at h'; cases h'
    | some a =>
      rw [hk] at h'
      have h2 : (Nat.ble k a && rowG p t (c + 1) a) = true := h'
      rw [Bool.and_eq_true] at h2
      have hka := Nat.le_of_ble_eq_true h2.1
      obtain ⟨g1, g2⟩ := rowG_mono t (c + 1) a h2.2
      refine ⟨fun j j1 j2 => ?_, fun i j i1 i2 i3 => ?_⟩
      · rcases Nat.eq_or_lt_of_le j1 with e | e
        · subst e
          exact ⟨a, hk, hka⟩
        · obtain ⟨b, b1, b2⟩ := g1 j e (by omega)
          exact ⟨b, b1, Nat.le_trans hka b2⟩
      · rcases Nat.eq_or_lt_of_le i1 with e | e
        · subst e
          rcases Nat.eq_or_lt_of_le i2 with e | e
          · subst e
            exact ⟨a, a, hk, hk, Nat.le_refl _⟩
          · obtain ⟨b, b1, b2⟩ := g1 j e (by omega)
            exact ⟨a, b, hk, b1, b2⟩
        · exact g2 i j e i2 (by omega)
theorem shX_le {pr W c c' : Nat} (hp : 2 ≤ pr ∧ pr ≤ 5) (hW : 1 ≤ W ∧ W ≤ 84) (h : c' ≤ c) (hc : c ≤ pr * W) : FP.dcmp (shX c' (pr * W)) (shX c (pr * W)) = some .lt ∨ FP.dcmp (shX c' (pr * W)) (shX c (pr * W)) = some .eq := by
  have hr : rowG (pr * W) (pr * W + 1) 0 0 = true := by
    have hm : (W - 1) % 4 ∈ List.range 4 := List.mem_range.mpr (Nat.mod_lt _ (by omega))
    have e : 4 * ((W - 1) / 4) + (W - 1) % 4 + 1 = W := by omega
    have hp4 : rowP pr ((W - 1) / 4) = true := by
      have h4 : pr = 2 ∨ pr = 3 ∨ pr = 4 ∨ pr = 5 := by omega
      rcases h4 with q | q | q | q <;> subst q
      · exact rqc2 _ (by omega)
      · exact rqc3 _ (by omega)
      · exact rqc4 _ (by omega)
      · exact rqc5 _ (by omega)
    have := List.all_eq_true.mp hp4 _ hm
    rwa [e] at this
  obtain ⟨a, b, h1, h2, h3⟩ := (rowG_mono _ _ _ hr).2 c' c (Nat.zero_le _) h (by omega)
  exact key_le h1 h2 h3
theorem shV_X {c p : Int} (hc : 0 ≤ c) (hp : 1 ≤ p) : shV c p = shX c.toNat p.toNat := by
  unfold shV shX
  rw [if_neg (by omega), show ((c.toNat : Nat) : Int) = c by omega, show ((p.toNat : Nat) : Int) = p by omega]
theorem shV_le {pr c c' : Int} {W : Nat} (hp : 2 ≤ pr ∧ pr ≤ 5) (hW : 1 ≤ W ∧ W ≤ 84) (h0 : 0 ≤ c') (h : c' ≤ c) (hc : c ≤ pr * ((W : Nat) : Int)) : ∃ v : Int, Op.cmpValue (FP.dcmp (shV c' (pr * ((W : Nat) : Int))) (shV c (pr * ((W : Nat) : Int)))) .l = iI v ∧ (v = -1 ∨ v = 0) := by
  obtain ⟨q, rfl⟩ : ∃ q : Nat, pr = ((q : Nat) : Int) := ⟨pr.toNat, by omega⟩
  have hpW : 1 ≤ ((q : Nat) : Int) * ((W : Nat) : Int) := by
    have : 1 ≤ q * W := Nat.mul_pos (by omega) (by omega)
    rw [← Int.natCast_mul]
    omega
  rw [shV_X h0 hpW, shV_X (by omega) hpW, ← Int.natCast_mul, Int.toNat_natCast]
  rw [← Int.natCast_mul] at hc
  rcases shX_le (pr := q) (W := W) (c := c.toNat) (c' := c'.toNat) (by omega) hW (by omega) (by omega) with e | e
  · rw [e]
    exact ⟨-1, by decide, Or.inl rfl⟩
  · rw [e]
    exact ⟨0, by decide, Or.inr rfl⟩
theorem shV_1 {p : Int} (hp : 1 ≤ p ∧ p ≤ 420) : Op.cmpValue (FP.dcmp (shV p p) FP.dconst1) .l = iI 0 := by
  rw [shV_X (by omega) hp.1]
  have := List.all_eq_true.mp rw1 p.toNat (List.mem_range.mpr (by omega))
  rw [Bool.or_eq_true, decide_eq_true_eq, decide_eq_true_eq] at this
  rw [this.resolve_left (by omega)]
  decide
