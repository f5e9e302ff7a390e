set_option maxRecDepth 20000 in
theorem c_X5_plain {X : jX} {σ : jS} {a : Int}  : JM X mX5_plain rX5_plain [vI a] σ (jEnd (oI (-1 - a)) σ) := by
  refine JM.of (lc := [vI a]) rfl ?_
  refine J.iconst dX5_plain_0 ?_
  refine J.ild_n dX5_plain_1 rfl ?_
  refine J.isub dX5_plain_2 ?_
  refine J.iret .int dX5_plain_3 rfl rfl (by decide) (by decide) ?_
  exact ⟨rfl, rfl⟩
set_option maxRecDepth 20000 in
theorem c_X5_wordOf {X : jX} {σ : jS} {a : Int}  : JM X mX5_wordOf rX5_wordOf [vI a] σ (jEnd (oI (-1 - a)) σ) := by
  refine JM.of (lc := [vI a]) rfl ?_
  refine J.iconst dX5_wordOf_0 ?_
  refine J.ild_n dX5_wordOf_1 rfl ?_
  refine J.isub dX5_wordOf_2 ?_
  refine J.iret .int dX5_wordOf_3 rfl rfl (by decide) (by decide) ?_
  exact ⟨rfl, rfl⟩
set_option maxRecDepth 20000 in
theorem c_X5_isPlain {X : jX} {σ : jS} {a : Int} (ha : inI a) : JM X mX5_isPlain rX5_isPlain [vI a] σ (jEnd (oI (if a < 0 then 1 else 0)) σ) := by
  refine JM.of (lc := [vI a]) rfl ?_
  refine J.ild_n dX5_isPlain_0 rfl ?_
  refine J.if_ge dX5_isPlain_1 (by decide) (tgt := 8) ha (fun h => ?_) (fun h => ?_)
  · refine J.iconst dX5_isPlain_8 ?_
    refine J.iret .boolean dX5_isPlain_9 rfl rfl (by decide) (by decide) ?_
    exact ⟨by rw [if_neg (show ¬ a < 0 by omega)], rfl⟩
  · refine J.iconst dX5_isPlain_4 ?_
    refine J.goto dX5_isPlain_5 (by decide) (tgt := 9) ?_
    refine J.iret .boolean dX5_isPlain_9 rfl rfl (by decide) (by decide) ?_
    exact ⟨by rw [if_pos (show a < 0 by omega)], rfl⟩
theorem c_X5_isPlain_t {X : jX} {σ : jS} {a : Int} (ha : inI a) (h : a < 0) : JM X mX5_isPlain rX5_isPlain [vI a] σ (jEnd (oI 1) σ) := by
  have := c_X5_isPlain (X := X) (σ := σ) ha
  rw [if_pos h] at this
  exact this
theorem c_X5_isPlain_f {X : jX} {σ : jS} {a : Int} (ha : inI a) (h : ¬ a < 0) : JM X mX5_isPlain rX5_isPlain [vI a] σ (jEnd (oI 0) σ) := by
  have := c_X5_isPlain (X := X) (σ := σ) ha
  rw [if_neg h] at this
  exact this
def csL (m : Nat → Int) (pr : Int) : Nat → Nat → Int
  | 0, _ => 0
  | t + 1, a => (if m a < 0 then pr else 1) + csL m pr t (a + 1)
set_option maxRecDepth 20000 in
theorem c_X5_costAt {X : jX} {σ : jS} {i r n : Nat} {f : Nat → Int} {pr : Int} (e0 : σ.2 i = jO 4 [.ref r, vI (n : Int)]) (e1 : σ.2 r = jI 40 f) (hn : n ≤ 40) (hf : ∀ a, a < n → inI (f a)) : JM X mX5_costAt rX5_costAt [.ref i, vI pr] σ (jEnd (oI (csL f pr n 0)) σ) := by
  refine JM.of (lc := [.ref i, vI pr, .null, .null]) rfl ?_
  refine J.iconst dX5_costAt_0 ?_
  refine J.ist_n dX5_costAt_1 (by decide) (jnc_of rfl rfl) ?_
  refine J.iconst dX5_costAt_2 ?_
  refine J.ist_n dX5_costAt_3 (by decide) (jnc_of rfl rfl) ?_
  have L : ∀ (t : Nat), ∀ (a : Nat) (u : Int), a + t = n → J X mX5_costAt rX5_costAt 4 [.ref i, vI pr, vI u, vI ((a : Nat) : Int)] [] 0 0 σ (jEnd (oI (u + csL f pr t a)) σ) := by
    intro t
    induction t with
    | zero =>
      intro a u hat
      refine J.ild_n dX5_costAt_4 rfl ?_
      refine J.ald_n dX5_costAt_5 rfl ?_
      refine gf_X5_15 rfl dX5_costAt_6 e0 ?_
      refine J.icmp_ge dX5_costAt_9 (by decide) (tgt := 38) (by unfold inI; omega) (by unfold inI; omega) (fun h => ?_) (fun h => ?_)
      · refine J.ild_n dX5_costAt_38 rfl ?_
        refine J.iret .int dX5_costAt_39 rfl rfl (by decide) (by decide) ?_
        exact ⟨by rw [show csL f pr 0 a = 0 from rfl, Int.add_zero], rfl⟩
      · omega
    | succ t ih =>
      intro a u hat
      refine J.ild_n dX5_costAt_4 rfl ?_
      refine J.ald_n dX5_costAt_5 rfl ?_
      refine gf_X5_15 rfl dX5_costAt_6 e0 ?_
      refine J.icmp_ge dX5_costAt_9 (by decide) (tgt := 38) (by unfold inI; omega) (by unfold inI; omega) (fun h => ?_) (fun h => ?_)
      · omega
      · have hfa := hf a (by omega)
        refine J.ild_n dX5_costAt_12 rfl ?_
        refine J.ald_n dX5_costAt_13 rfl ?_
        refine gf_X5_9 rfl dX5_costAt_14 e0 ?_
        refine J.ild_n dX5_costAt_17 rfl ?_
        refine J.iald a dX5_costAt_18 e1 rfl (by omega) (by omega) ?_
        by_cases hp : f a < 0
        · refine J.callS (rm' := rX5_isPlain) [vI (f a)] dX5_costAt_19 (c_X5_isPlain_t hfa hp) st_X5_isPlain ml_X5_19 sm_X5_isPlain rfl (Nat.le_of_ble_eq_true rfl) (by decide) (by decide) (Nat.le_of_ble_eq_true rfl) (by decide) (by decide) (Or.inl rfl) (fun E9 σ9 hq9 _ => nomatch hq9.1) (fun r9 σ9 hq9 hle9 => ?_)
          obtain ⟨h9, h8⟩ := hq9
          rw [h8]
          clear hle9 h8 σ9
          cases h9
          refine J.if_eq dX5_costAt_22 (by decide) (tgt := 29) (by unfold inI; omega) (fun h9 => ?_) (fun h9 => ?_)
          · exact absurd h9 (by decide)
          · refine J.ild_n dX5_costAt_25 rfl ?_
            refine J.goto dX5_costAt_26 (by decide) (tgt := 30) ?_
            refine J.iadd dX5_costAt_30 ?_
            refine J.ist_n dX5_costAt_31 (by decide) (jnc_of rfl rfl) ?_
            refine J.iinc (v := ((a + 1 : Nat) : Int)) dX5_costAt_32 rfl (by first | rfl | omega) (by decide) (jnc_of rfl rfl) ?_
            refine J.goto dX5_costAt_35 (by decide) (tgt := 4) ?_
            rw [show u + csL f pr (t + 1) a = (u + pr) + csL f pr t (a + 1) from by rw [Int.add_assoc, show csL f pr (t + 1) a = (if f a < 0 then pr else 1) + csL f pr t (a + 1) from rfl, if_pos hp]]
            exact ih (a + 1) (u + pr) (by omega)
        · refine J.callS (rm' := rX5_isPlain) [vI (f a)] dX5_costAt_19 (c_X5_isPlain_f hfa hp) st_X5_isPlain ml_X5_19 sm_X5_isPlain rfl (Nat.le_of_ble_eq_true rfl) (by decide) (by decide) (Nat.le_of_ble_eq_true rfl) (by decide) (by decide) (Or.inl rfl) (fun E9 σ9 hq9 _ => nomatch hq9.1) (fun r9 σ9 hq9 hle9 => ?_)
          obtain ⟨h9, h8⟩ := hq9
          rw [h8]
          clear hle9 h8 σ9
          cases h9
          refine J.if_eq dX5_costAt_22 (by decide) (tgt := 29) (by unfold inI; omega) (fun h9 => ?_) (fun h9 => ?_)
          · refine J.iconst dX5_costAt_29 ?_
            refine J.iadd dX5_costAt_30 ?_
            refine J.ist_n dX5_costAt_31 (by decide) (jnc_of rfl rfl) ?_
            refine J.iinc (v := ((a + 1 : Nat) : Int)) dX5_costAt_32 rfl (by first | rfl | omega) (by decide) (jnc_of rfl rfl) ?_
            refine J.goto dX5_costAt_35 (by decide) (tgt := 4) ?_
            rw [show u + csL f pr (t + 1) a = (u + 1) + csL f pr t (a + 1) from by rw [Int.add_assoc, show csL f pr (t + 1) a = (if f a < 0 then pr else 1) + csL f pr t (a + 1) from rfl, if_neg hp]]
            exact ih (a + 1) (u + 1) (by omega)
          · exact absurd rfl h9
  have := L n 0 0 (by omega)
  rw [Int.zero_add] at this
  exact this
def tmG (lu du : Nat → Int) (x : Int) : Int := if x < 0 then 9 + usL du 10 4 (-1 - x).toNat else 12 + usL lu 26 5 x.toNat
def tmL (lu du m : Nat → Int) : Nat → Nat → Int
  | 0, _ => 0
  | t + 1, a => (if a = 0 then 0 else 7) + tmG lu du (m a) + tmL lu du m t (a + 1)
set_option maxRecDepth 20000 in
theorem c_X5_units {X : jX} {σ : jS} {i r n : Nat} {f lu du : Nat → Int} (e0 : σ.2 i = jO 4 [.ref r, vI (n : Int)]) (e1 : σ.2 r = jI 40 f) (hn : n ≤ 40) (hf : ∀ a, a < n → -10000 ≤ f a ∧ f a ≤ 11881375) (eL : σ.2 0 = jI 26 lu) (eD : σ.2 1 = jI 10 du) : JM X mX5_units rX5_units [.ref i] σ (jEnd (oI (tmL lu du f n 0)) σ) := by
  refine JM.of (lc := [.ref i, .null, .null]) rfl ?_
  refine J.iconst dX5_units_0 ?_
  refine J.ist_n dX5_units_1 (by decide) (jnc_of rfl rfl) ?_
  refine J.iconst dX5_units_2 ?_
  refine J.ist_n dX5_units_3 (by decide) (jnc_of rfl rfl) ?_
  have L : ∀ (t : Nat), ∀ (a : Nat) (u : Int), a + t = n → J X mX5_units rX5_units 4 [.ref i, vI u, vI ((a : Nat) : Int)] [] 0 0 σ (jEnd (oI (u + tmL lu du f t a)) σ) := by
    intro t
    induction t with
    | zero =>
      intro a u hat
      refine J.ild_n dX5_units_4 rfl ?_
      refine J.ald_n dX5_units_5 rfl ?_
      refine gf_X5_15 rfl dX5_units_6 e0 ?_
      refine J.icmp_ge dX5_units_9 (by decide) (tgt := 70) (by unfold inI; omega) (by unfold inI; omega) (fun h => ?_) (fun h => ?_)
      · refine J.ild_n dX5_units_70 rfl ?_
        refine J.iret .int dX5_units_71 rfl rfl (by decide) (by decide) ?_
        exact ⟨by rw [show tmL lu du f 0 a = 0 from rfl, Int.add_zero], rfl⟩
      · omega
    | succ t ih =>
      intro a u hat
      refine J.ild_n dX5_units_4 rfl ?_
      refine J.ald_n dX5_units_5 rfl ?_
      refine gf_X5_15 rfl dX5_units_6 e0 ?_
      refine J.icmp_ge dX5_units_9 (by decide) (tgt := 70) (by unfold inI; omega) (by unfold inI; omega) (fun h => ?_) (fun h => ?_)
      · omega
      · have hfa := hf a (by omega)
        have hfi : inI (f a) := by unfold inI; omega
        have K : ∀ g : Int, g = (if a = 0 then 0 else 7) → J X mX5_units rX5_units 23 [.ref i, vI u, vI ((a : Nat) : Int)] [vI g, vI u] 0 0 σ (jEnd (oI (u + tmL lu du f (t + 1) a)) σ) := by
          intro g hg
          refine J.iadd dX5_units_23 ?_
          refine J.ist_n dX5_units_24 (by decide) (jnc_of rfl rfl) ?_
          refine J.ild_n dX5_units_25 rfl ?_
          refine J.ald_n dX5_units_26 rfl ?_
          refine gf_X5_9 rfl dX5_units_27 e0 ?_
          refine J.ild_n dX5_units_30 rfl ?_
          refine J.iald a dX5_units_31 e1 rfl (by omega) (by omega) ?_
          by_cases hp : f a < 0
          · refine J.callS (rm' := rX5_isPlain) [vI (f a)] dX5_units_32 (c_X5_isPlain_t hfi hp) st_X5_isPlain ml_X5_19 sm_X5_isPlain rfl (Nat.le_of_ble_eq_true rfl) (by decide) (by decide) (Nat.le_of_ble_eq_true rfl) (by decide) (by decide) (Or.inl rfl) (fun E9 σ9 hq9 _ => nomatch hq9.1) (fun r9 σ9 hq9 hle9 => ?_)
            obtain ⟨h9, h8⟩ := hq9
            rw [h8]
            clear hle9 h8 σ9
            cases h9
            refine J.if_eq dX5_units_35 (by decide) (tgt := 53) (by unfold inI; omega) (fun h9 => ?_) (fun h9 => ?_)
            · exact absurd h9 (by decide)
            · refine J.ald_n dX5_units_38 rfl ?_
              refine gf_X5_9 rfl dX5_units_39 e0 ?_
              refine J.ild_n dX5_units_42 rfl ?_
              refine J.iald a dX5_units_43 e1 rfl (by omega) (by omega) ?_
              refine J.callS (rm' := rX5_wordOf) [vI (f a)] dX5_units_44 (c_X5_wordOf) st_X5_wordOf ml_X5_23 sm_X5_wordOf rfl (Nat.le_of_ble_eq_true rfl) (by decide) (by decide) (Nat.le_of_ble_eq_true rfl) (by decide) (by decide) (Or.inl rfl) (fun E9 σ9 hq9 _ => nomatch hq9.1) (fun r9 σ9 hq9 hle9 => ?_)
              obtain ⟨h9, h8⟩ := hq9
              rw [h8]
              clear hle9 h8 σ9
              cases h9
              rw [show -1 - f a = (((-1 - f a).toNat : Nat) : Int) by omega]
              refine J.callS (rm' := rX5_wordUnits) [vI (((-1 - f a).toNat : Nat) : Int)] dX5_units_47 (c_X5_wordUnits (by omega) eD) st_X5_wordUnits ml_X5_27 sm_X5_wordUnits rfl (Nat.le_of_ble_eq_true rfl) (by decide) (by decide) (Nat.le_of_ble_eq_true rfl) (by decide) (by decide) (Or.inl rfl) (fun E9 σ9 hq9 _ => nomatch hq9.1) (fun r9 σ9 hq9 hle9 => ?_)
              obtain ⟨h9, h8⟩ := hq9
              rw [h8]
              clear hle9 h8 σ9
              cases h9
              refine J.goto dX5_units_50 (by decide) (tgt := 62) ?_
              refine J.iadd dX5_units_62 ?_
              refine J.ist_n dX5_units_63 (by decide) (jnc_of rfl rfl) ?_
              refine J.iinc (v := ((a + 1 : Nat) : Int)) dX5_units_64 rfl (by first | rfl | omega) (by decide) (jnc_of rfl rfl) ?_
              refine J.goto dX5_units_67 (by decide) (tgt := 4) ?_
              rw [show u + tmL lu du f (t + 1) a = ((u + g) + (9 + usL du 10 4 (-1 - f a).toNat)) + tmL lu du f t (a + 1) from by rw [hg, show tmL lu du f (t + 1) a = (if a = 0 then 0 else 7) + tmG lu du (f a) + tmL lu du f t (a + 1) from rfl, show tmG lu du (f a) = (9 + usL du 10 4 (-1 - f a).toNat) from if_pos hp]; omega]
              exact ih (a + 1) _ (by omega)
          · refine J.callS (rm' := rX5_isPlain) [vI (f a)] dX5_units_32 (c_X5_isPlain_f hfi hp) st_X5_isPlain ml_X5_19 sm_X5_isPlain rfl (Nat.le_of_ble_eq_true rfl) (by decide) (by decide) (Nat.le_of_ble_eq_true rfl) (by decide) (by decide) (Or.inl rfl) (fun E9 σ9 hq9 _ => nomatch hq9.1) (fun r9 σ9 hq9 hle9 => ?_)
            obtain ⟨h9, h8⟩ := hq9
            rw [h8]
            clear hle9 h8 σ9
            cases h9
            refine J.if_eq dX5_units_35 (by decide) (tgt := 53) (by unfold inI; omega) (fun h9 => ?_) (fun h9 => ?_)
            · refine J.ald_n dX5_units_53 rfl ?_
              refine gf_X5_9 rfl dX5_units_54 e0 ?_
              refine J.ild_n dX5_units_57 rfl ?_
              refine J.iald a dX5_units_58 e1 rfl (by omega) (by omega) ?_
              rw [show f a = (((f a).toNat : Nat) : Int) by omega]
              refine J.callS (rm' := rX1_units) [vI (((f a).toNat : Nat) : Int)] dX5_units_59 (c_X1_units (by omega) eL) st_X1_units ml_X5_30 sm_X1_units rfl (Nat.le_of_ble_eq_true rfl) (by decide) (by decide) (Nat.le_of_ble_eq_true rfl) (by decide) (by decide) (Or.inl rfl) (fun E9 σ9 hq9 _ => nomatch hq9.1) (fun r9 σ9 hq9 hle9 => ?_)
              obtain ⟨h9, h8⟩ := hq9
              rw [h8]
              clear hle9 h8 σ9
              cases h9
              refine J.iadd dX5_units_62 ?_
              refine J.ist_n dX5_units_63 (by decide) (jnc_of rfl rfl) ?_
              refine J.iinc (v := ((a + 1 : Nat) : Int)) dX5_units_64 rfl (by first | rfl | omega) (by decide) (jnc_of rfl rfl) ?_
              refine J.goto dX5_units_67 (by decide) (tgt := 4) ?_
              rw [show u + tmL lu du f (t + 1) a = ((u + g) + (12 + usL lu 26 5 (f a).toNat)) + tmL lu du f t (a + 1) from by rw [hg, show tmL lu du f (t + 1) a = (if a = 0 then 0 else 7) + tmG lu du (f a) + tmL lu du f t (a + 1) from rfl, show tmG lu du (f a) = (12 + usL lu 26 5 (f a).toNat) from if_neg hp]; omega]
              exact ih (a + 1) _ (by omega)
            · exact absurd rfl h9
        refine J.ild_n dX5_units_12 rfl ?_
        refine J.ild_n dX5_units_13 rfl ?_
        refine J.if_ne dX5_units_14 (by decide) (tgt := 21) (by unfold inI; omega) (fun h3 => ?_) (fun h3 => ?_)
        · refine J.bipush dX5_units_21 (by decide) ?_
          exact K 7 (by rw [if_neg (by omega)])
        · refine J.iconst dX5_units_17 ?_
          refine J.goto dX5_units_18 (by decide) (tgt := 23) ?_
          exact K 0 (by rw [if_pos (by omega)])
  have := L n 0 0 (by omega)
  rw [Int.zero_add] at this
  exact this
def smU (f g : Nat → Int) : Nat → Nat → Nat → Bool
  | 0, _, _ => true
  | t + 1, a, b => decide (f a = g b) && smU f g t (a + 1) (b + 1)
theorem smU_iff {f g : Nat → Int} : ∀ (k a b : Nat), smU f g k a b = true ↔ ∀ t, t < k → f (a + t) = g (b + t)
  | 0, a, b => ⟨fun _ t h => absurd h (by omega), fun _ => rfl⟩
  | k + 1, a, b => by
    have ih := smU_iff (f := f) (g := g) k (a + 1) (b + 1)
    unfold smU
    rw [Bool.and_eq_true, decide_eq_true_eq, ih]
    constructor
    · rintro ⟨h1, h2⟩ t ht
      cases t with
      | zero => exact h1
      | succ t => have := h2 t (by omega); rw [show a + (t + 1) = a + 1 + t by omega, show b + (t + 1) = b + 1 + t by omega]; exact this
    · intro h
      exact ⟨h 0 (by omega), fun t ht => by have := h (t + 1) (by omega); rw [show a + (t + 1) = a + 1 + t by omega, show b + (t + 1) = b + 1 + t by omega] at this; exact this⟩
def bN (b : Bool) : Int := if b = true then 1 else 0
set_option maxRecDepth 20000 in
theorem c_X6_sameWords {X : jX} {σ : jS} {p q a b k N M : Nat} {f g : Nat → Int} (e1 : σ.2 p = jI N f) (e2 : σ.2 q = jI M g) (hN : N ≤ 100000) (hM : M ≤ 100000) (h1 : a + k ≤ N) (h2 : b + k ≤ M) (hf : ∀ t, t < N → inI (f t)) (hg : ∀ t, t < M → inI (g t)) : JM X mX6_sameWords rX6_sameWords [.ref p, vI ((a : Nat) : Int), .ref q, vI ((b : Nat) : Int), vI ((k : Nat) : Int)] σ (jEnd (oI (bN (smU f g k a b))) σ) := by
  refine JM.of (lc := [.ref p, vI ((a : Nat) : Int), .ref q, vI ((b : Nat) : Int), vI ((k : Nat) : Int), .null]) rfl ?_
  refine J.ild_n dX6_sameWords_0 rfl ?_
  refine J.if_lt dX6_sameWords_1 (by decide) (tgt := 26) (by unfold inI; omega) (fun h0 => ?_) (fun h0 => ?_)
  · refine J.iconst dX6_sameWords_26 ?_
    omega
  · refine J.ild_n dX6_sameWords_4 rfl ?_
    refine J.ild dX6_sameWords_5 rfl ?_
    refine J.iadd dX6_sameWords_7 ?_
    rw [show (((a : Nat) : Int) : Int) + ((k : Nat) : Int) = ((a + k : Nat) : Int) from by push_cast; rfl]
    refine J.ald_n dX6_sameWords_8 rfl ?_
    refine J.alen dX6_sameWords_9 e1 ?_
    refine J.icmp_gt dX6_sameWords_10 (by decide) (tgt := 26) (by unfold inI; omega) (by unfold inI; omega) (fun h1 => ?_) (fun h1 => ?_)
    · refine J.iconst dX6_sameWords_26 ?_
      omega
    · refine J.ild_n dX6_sameWords_13 rfl ?_
      refine J.if_lt dX6_sameWords_14 (by decide) (tgt := 26) (by unfold inI; omega) (fun h2 => ?_) (fun h2 => ?_)
      · refine J.iconst dX6_sameWords_26 ?_
        omega
      · refine J.ild_n dX6_sameWords_17 rfl ?_
        refine J.ild dX6_sameWords_18 rfl ?_
        refine J.iadd dX6_sameWords_20 ?_
        rw [show (((b : Nat) : Int) : Int) + ((k : Nat) : Int) = ((b + k : Nat) : Int) from by push_cast; rfl]
        refine J.ald_n dX6_sameWords_21 rfl ?_
        refine J.alen dX6_sameWords_22 e2 ?_
        refine J.icmp_le dX6_sameWords_23 (by decide) (tgt := 28) (by unfold inI; omega) (by unfold inI; omega) (fun h3 => ?_) (fun h3 => ?_)
        · refine J.iconst dX6_sameWords_28 ?_
          refine J.ist dX6_sameWords_29 (by decide) (jnc_of rfl rfl) ?_
          have L : ∀ (t : Nat), ∀ (j : Nat), j + t = k → J X mX6_sameWords rX6_sameWords 31 [.ref p, vI ((a : Nat) : Int), .ref q, vI ((b : Nat) : Int), vI ((k : Nat) : Int), vI ((j : Nat) : Int)] [] 0 0 σ (jEnd (oI (bN (smU f g t (a + j) (b + j)))) σ) := by
            intro t
            induction t with
            | zero =>
              intro j hj
              refine J.ild dX6_sameWords_31 rfl ?_
              refine J.ild dX6_sameWords_33 rfl ?_
              refine J.icmp_ge dX6_sameWords_35 (by decide) (tgt := 61) (by unfold inI; omega) (by unfold inI; omega) (fun h => ?_) (fun h => ?_)
              · refine J.iconst dX6_sameWords_61 ?_
                refine J.iret .boolean dX6_sameWords_62 rfl rfl (by decide) (by decide) ?_
                exact ⟨rfl, rfl⟩
              · omega
            | succ t ih =>
              intro j hj
              refine J.ild dX6_sameWords_31 rfl ?_
              refine J.ild dX6_sameWords_33 rfl ?_
              refine J.icmp_ge dX6_sameWords_35 (by decide) (tgt := 61) (by unfold inI; omega) (by unfold inI; omega) (fun h => ?_) (fun h => ?_)
              · omega
              · have hf1 := hf (a + j) (by omega)
                have hg1 := hg (b + j) (by omega)
                refine J.ald_n dX6_sameWords_38 rfl ?_
                refine J.ild_n dX6_sameWords_39 rfl ?_
                refine J.ild dX6_sameWords_40 rfl ?_
                refine J.iadd dX6_sameWords_42 ?_
                rw [show (((a : Nat) : Int) : Int) + ((j : Nat) : Int) = ((a + j : Nat) : Int) from by push_cast; rfl]
                refine J.iald (a + j) dX6_sameWords_43 e1 rfl (by omega) (by omega) ?_
                refine J.ald_n dX6_sameWords_44 rfl ?_
                refine J.ild_n dX6_sameWords_45 rfl ?_
                refine J.ild dX6_sameWords_46 rfl ?_
                refine J.iadd dX6_sameWords_48 ?_
                rw [show (((b : Nat) : Int) : Int) + ((j : Nat) : Int) = ((b + j : Nat) : Int) from by push_cast; rfl]
                refine J.iald (b + j) dX6_sameWords_49 e2 rfl (by omega) (by omega) ?_
                refine J.icmp_eq dX6_sameWords_50 (by decide) (tgt := 55) hf1 hg1 (fun h5 => ?_) (fun h5 => ?_)
                · refine J.iinc (v := ((j + 1 : Nat) : Int)) dX6_sameWords_55 rfl (by first | rfl | omega) (by decide) (jnc_of rfl rfl) ?_
                  refine J.goto dX6_sameWords_58 (by decide) (tgt := 31) ?_
                  rw [show smU f g (t + 1) (a + j) (b + j) = smU f g t (a + (j + 1)) (b + (j + 1)) from by rw [show smU f g (t + 1) (a + j) (b + j) = (decide (f (a + j) = g (b + j)) && smU f g t (a + j + 1) (b + j + 1)) from rfl, decide_eq_true h5]; rfl]
                  exact ih (j + 1) (by omega)
                · refine J.iconst dX6_sameWords_53 ?_
                  refine J.iret .boolean dX6_sameWords_54 rfl rfl (by decide) (by decide) ?_
                  exact ⟨by rw [show smU f g (t + 1) (a + j) (b + j) = false from by rw [show smU f g (t + 1) (a + j) (b + j) = (decide (f (a + j) = g (b + j)) && smU f g t (a + j + 1) (b + j + 1)) from rfl, decide_eq_false h5]; rfl] <;> rfl, rfl⟩
          exact L k 0 (by omega)
        · omega
def mxF (f : Nat → Int) : Nat → Nat → Int → Int
  | 0, _, d => d
  | t + 1, a, d => mxF f t (a + 1) (d * 31 + f a)
theorem jset_jset (σ : jS) (i : Nat) (e e' : jE) : jset (jset σ i e) i e' = jset σ i e' := by
  unfold jset
  refine Prod.ext rfl (funext fun j => ?_)
  show (if j = i then e' else if j = i then e else σ.2 j) = if j = i then e' else σ.2 j
  by_cases h : j = i
  · rw [if_pos h, if_pos h]
  · rw [if_neg h, if_neg h, if_neg h]
theorem jset_self {σ : jS} {i : Nat} {e : jE} (h : σ.2 i = e) : jset σ i e = σ := by
  refine Prod.ext rfl (funext fun j => ?_)
  show (if j = i then e else σ.2 j) = σ.2 j
  by_cases q : j = i
  · rw [if_pos q, q, h]
  · rw [if_neg q]
def flF (f : Nat → Int) (n : Nat) (v : Int) : Nat → Int := fun t => if t < n then v else f t
theorem flF_0 (f : Nat → Int) (v : Int) : flF f 0 v = f := funext fun t => if_neg (by omega)
theorem flF_s (f : Nat → Int) (n : Nat) (v : Int) : jup (flF f n v) n v = flF f (n + 1) v := funext fun t => by
  unfold jup flF
  by_cases h : t = n
  · rw [if_pos h, if_pos (by omega)]
  · rw [if_neg h]
    by_cases h2 : t < n
    · rw [if_pos h2, if_pos (by omega)]
    · rw [if_neg h2, if_neg (by omega)]
set_option maxRecDepth 20000 in
theorem c_J7_fill {X : jX} {σ : jS} {q N : Nat} {g : Nat → Int} {v : Int} (e2 : σ.2 q = jI N g) (h5 : 5 ≤ q) (hN : N ≤ 100000) : JM X mJ7_fill_53178 rJ7_fill_53178 [.ref q, vI v] σ (jEnd oV (jset σ q (jI N (flF g N v)))) := by
  refine JM.of (lc := [.ref q, vI v, .null, .null]) rfl ?_
  refine J.iconst dJ7_fill_53178_0 ?_
  refine J.ist_n dJ7_fill_53178_1 (by decide) (jnc_of rfl rfl) ?_
  refine J.ald_n dJ7_fill_53178_2 rfl ?_
  refine J.alen dJ7_fill_53178_3 e2 ?_
  refine J.ist_n dJ7_fill_53178_4 (by decide) (jnc_of rfl rfl) ?_
  have L : ∀ (t : Nat), ∀ (a : Nat), a + t = N → J X mJ7_fill_53178 rJ7_fill_53178 5 [.ref q, vI v, vI ((a : Nat) : Int), vI ((N : Nat) : Int)] [] 0 0 (jset σ q (jI N (flF g a v))) (jEnd oV (jset σ q (jI N (flF g N v)))) := by
    intro t
    induction t with
    | zero =>
      intro a ha
      refine J.ild_n dJ7_fill_53178_5 rfl ?_
      refine J.ild_n dJ7_fill_53178_6 rfl ?_
      refine J.icmp_ge dJ7_fill_53178_7 (by decide) (tgt := 20) (by unfold inI; omega) (by unfold inI; omega) (fun h => ?_) (fun h => ?_)
      · refine J.vret dJ7_fill_53178_20 rfl (by decide) (by decide) ?_
        exact ⟨rfl, by rw [show a = N by omega]⟩
      · omega
    | succ t ih =>
      intro a ha
      refine J.ild_n dJ7_fill_53178_5 rfl ?_
      refine J.ild_n dJ7_fill_53178_6 rfl ?_
      refine J.icmp_ge dJ7_fill_53178_7 (by decide) (tgt := 20) (by unfold inI; omega) (by unfold inI; omega) (fun h => ?_) (fun h => ?_)
      · omega
      · refine J.ald_n dJ7_fill_53178_10 rfl ?_
        refine J.ild_n dJ7_fill_53178_11 rfl ?_
        refine J.ild_n dJ7_fill_53178_12 rfl ?_
        refine J.iast a dJ7_fill_53178_13 (jset_eq _ _ _) h5 rfl (by omega) (by omega) ?_
        refine J.iinc (v := ((a + 1 : Nat) : Int)) dJ7_fill_53178_14 rfl (by first | rfl | omega) (by decide) (jnc_of rfl rfl) ?_
        refine J.goto dJ7_fill_53178_17 (by decide) (tgt := 5) ?_
        rw [jset_jset, flF_s]
        exact ih (a + 1) (by omega)
  have := L N 0 (by omega)
  rw [flF_0, jset_self e2] at this
  exact this
