/-! ===== numbers of code words ===== -/
def ltr (c p : Nat) : Nat := c / 26 ^ (4 - p) % 26
def wlt (c p l : Nat) : Nat := c / 26 ^ (5 - p) * 26 ^ (5 - p) + l * 26 ^ (4 - p) + c % 26 ^ (4 - p)
def swp (c p : Nat) : Nat := wlt (wlt c p (ltr c (p + 1))) (p + 1) (ltr c p)
theorem ltr_lt (c p : Nat) : ltr c p < 26 := Nat.mod_lt _ (by omega)
theorem p5 {P : Nat → Prop} (h0 : P 0) (h1 : P 1) (h2 : P 2) (h3 : P 3) (h4 : P 4) : ∀ p, p ≤ 4 → P p
  | 0, _ => h0
  | 1, _ => h1
  | 2, _ => h2
  | 3, _ => h3
  | 4, _ => h4
  | p + 5, h => absurd h (by omega)
theorem wlt_eq (c l : Nat) : ∀ p, p ≤ 4 → (c : Int) + ((l : Int) - ((ltr c p : Nat) : Int)) * ((26 ^ (4 - p) : Nat) : Int) = ((wlt c p l : Nat) : Int) := by
  apply p5 <;> (simp only [ltr, wlt, Nat.reduceSub, Nat.reducePow, Nat.div_one]; omega)
theorem wlt_le {c l : Nat} (hc : c ≤ 11881375) (hl : l < 26) : ∀ p, p ≤ 4 → wlt c p l ≤ 11881375 := by
  apply p5 <;> (simp only [wlt, Nat.reduceSub, Nat.reducePow, Nat.div_one]; omega)
/-- how two code words are alike: 2 the same, 3 in all letters but one, 4 by two letters that change places, 0 unlike -/
def lkE (l r : Nat) : Nat := if l / 26 = r / 26 then 3 else if l % 26 = r / 26 % 26 ∧ r % 26 = l / 26 % 26 ∧ l / 26 / 26 = r / 26 / 26 then 4 else 0
def lkL : Nat → Nat → Nat → Nat
  | 0, l, r => lkE l r
  | t + 1, l, r => if l % 26 = r % 26 then lkL t (l / 26) (r / 26) else lkE l r
def lk (a b : Nat) : Nat := if a = b then 2 else lkL 4 a b
set_option maxRecDepth 20000 in
theorem c_X1_letterAt {X : jX} {σ : jS} {c p : Nat} (hc : c ≤ 11881375) (hp : p ≤ 4) : JM X mX1_letterAt rX1_letterAt [vI ((c : Nat) : Int), vI ((p : Nat) : Int)] σ (jEnd (oI ((ltr c p : Nat) : Int)) σ) := by
  refine JM.of (lc := [vI ((c : Nat) : Int), vI ((p : Nat) : Int), .null, .null]) rfl ?_
  refine J.ild_n dX1_letterAt_0 rfl ?_
  refine J.ist_n dX1_letterAt_1 (by decide) (jnc_of rfl rfl) ?_
  refine J.iconst dX1_letterAt_2 ?_
  refine J.ist_n dX1_letterAt_3 (by decide) (jnc_of rfl rfl) ?_
  have L : ∀ (t : Nat), ∀ x : Nat, x ≤ 11881375 → p + t ≤ 4 → J X mX1_letterAt rX1_letterAt 4 [vI ((c : Nat) : Int), vI ((p : Nat) : Int), vI ((x : Nat) : Int), vI ((p + t : Nat) : Int)] [] 0 0 σ (jEnd (oI ((x / 26 ^ t % 26 : Nat) : Int)) σ) := by
    intro t
    induction t with
    | zero =>
      intro x hx ht
      refine J.ild_n dX1_letterAt_4 rfl ?_
      refine J.ild_n dX1_letterAt_5 rfl ?_
      refine J.icmp_le dX1_letterAt_6 (by decide) (tgt := 20) (by unfold inI; omega) (by unfold inI; omega) (fun h => ?_) (fun h => ?_)
      · refine J.ild_n dX1_letterAt_20 rfl ?_
        refine J.bipush dX1_letterAt_21 (by decide) ?_
        refine J.irem dX1_letterAt_23 (by unfold inI; omega) (by unfold inI; omega) (by omega) ?_
        rw [show Int.tmod ((x : Nat) : Int) 26 = ((x % 26 : Nat) : Int) from by first | rfl | (exact (Int.ofNat_tmod _ _).symm)]
        refine J.iret .int dX1_letterAt_24 rfl rfl (by decide) (by decide) ?_
        exact ⟨by rw [Nat.pow_zero, Nat.div_one], rfl⟩
      · omega
    | succ t ih =>
      intro x hx ht
      refine J.ild_n dX1_letterAt_4 rfl ?_
      refine J.ild_n dX1_letterAt_5 rfl ?_
      refine J.icmp_le dX1_letterAt_6 (by decide) (tgt := 20) (by unfold inI; omega) (by unfold inI; omega) (fun h => ?_) (fun h => ?_)
      · omega
      · refine J.ild_n dX1_letterAt_9 rfl ?_
        refine J.bipush dX1_letterAt_10 (by decide) ?_
        refine J.idiv dX1_letterAt_12 (by unfold inI; omega) (by unfold inI; omega) (by omega) ?_
        rw [show Int.tdiv ((x : Nat) : Int) 26 = ((x / 26 : Nat) : Int) from by first | rfl | (exact (Int.ofNat_tdiv _ _).symm)]
        refine J.ist_n dX1_letterAt_13 (by decide) (jnc_of rfl rfl) ?_
        refine J.iinc (v := ((p + t : Nat) : Int)) dX1_letterAt_14 rfl (by first | rfl | omega) (by decide) (jnc_of rfl rfl) ?_
        refine J.goto dX1_letterAt_17 (by decide) (tgt := 4) ?_
        rw [show x / 26 ^ (t + 1) = x / 26 / 26 ^ t by rw [Nat.div_div_eq_div_mul, Nat.pow_succ, Nat.mul_comm]]
        exact ih (x / 26) (by omega) (by omega)
  have := L (4 - p) c hc (by omega)
  rw [show p + (4 - p) = 4 by omega] at this
  exact this
set_option maxRecDepth 20000 in
theorem c_X1_withLetter {X : jX} {σ : jS} {c p l : Nat} (hc : c ≤ 11881375) (hp : p ≤ 4) : JM X mX1_withLetter rX1_withLetter [vI ((c : Nat) : Int), vI ((p : Nat) : Int), vI ((l : Nat) : Int)] σ (jEnd (oI ((wlt c p l : Nat) : Int)) σ) := by
  refine JM.of (lc := [vI ((c : Nat) : Int), vI ((p : Nat) : Int), vI ((l : Nat) : Int), .null, .null]) rfl ?_
  refine J.iconst dX1_withLetter_0 ?_
  refine J.ist_n dX1_withLetter_1 (by decide) (jnc_of rfl rfl) ?_
  refine J.iconst dX1_withLetter_2 ?_
  refine J.ist dX1_withLetter_3 (by decide) (jnc_of rfl rfl) ?_
  have L : ∀ (t : Nat), ∀ w : Nat, p + t ≤ 4 → J X mX1_withLetter rX1_withLetter 5 [vI ((c : Nat) : Int), vI ((p : Nat) : Int), vI ((l : Nat) : Int), vI ((w : Nat) : Int), vI ((p + t : Nat) : Int)] [] 0 0 σ (jEnd (oI ((c : Int) + ((l : Int) - ((ltr c p : Nat) : Int)) * ((w * 26 ^ t : Nat) : Int))) σ) := by
    intro t
    induction t with
    | zero =>
      intro w ht
      refine J.ild dX1_withLetter_5 rfl ?_
      refine J.ild_n dX1_withLetter_7 rfl ?_
      refine J.icmp_le dX1_withLetter_8 (by decide) (tgt := 22) (by unfold inI; omega) (by unfold inI; omega) (fun h => ?_) (fun h => ?_)
      · refine J.ild_n dX1_withLetter_22 rfl ?_
        refine J.ild_n dX1_withLetter_23 rfl ?_
        refine J.ild_n dX1_withLetter_24 rfl ?_
        refine J.ild_n dX1_withLetter_25 rfl ?_
        refine J.callS (rm' := rX1_letterAt) [vI ((c : Nat) : Int), vI ((p : Nat) : Int)] dX1_withLetter_26 (c_X1_letterAt hc hp) st_X1_letterAt ml_X1_9 sm_X1_letterAt rfl (Nat.le_of_ble_eq_true rfl) (by decide) (by decide) (Nat.le_of_ble_eq_true rfl) (by decide) (by decide) (Or.inl rfl) (fun E9 σ9 hq9 _ => nomatch hq9.1) (fun r9 σ9 hq9 hle9 => ?_)
        obtain ⟨h9, h8⟩ := hq9
        rw [h8]
        clear hle9 h8 σ9
        cases h9
        refine J.isub dX1_withLetter_29 ?_
        refine J.ild_n dX1_withLetter_30 rfl ?_
        refine J.imul dX1_withLetter_31 ?_
        refine J.iadd dX1_withLetter_32 ?_
        refine J.iret .int dX1_withLetter_33 rfl rfl (by decide) (by decide) ?_
        exact ⟨by rw [Nat.pow_zero, Nat.mul_one], rfl⟩
      · omega
    | succ t ih =>
      intro w ht
      refine J.ild dX1_withLetter_5 rfl ?_
      refine J.ild_n dX1_withLetter_7 rfl ?_
      refine J.icmp_le dX1_withLetter_8 (by decide) (tgt := 22) (by unfold inI; omega) (by unfold inI; omega) (fun h => ?_) (fun h => ?_)
      · omega
      · refine J.ild_n dX1_withLetter_11 rfl ?_
        refine J.bipush dX1_withLetter_12 (by decide) ?_
        refine J.imul dX1_withLetter_14 ?_
        rw [show (((w : Nat) : Int) : Int) * 26 = ((w * 26 : Nat) : Int) from by push_cast; rfl]
        refine J.ist_n dX1_withLetter_15 (by decide) (jnc_of rfl rfl) ?_
        refine J.iinc (v := ((p + t : Nat) : Int)) dX1_withLetter_16 rfl (by first | rfl | omega) (by decide) (jnc_of rfl rfl) ?_
        refine J.goto dX1_withLetter_19 (by decide) (tgt := 5) ?_
        rw [show w * 26 ^ (t + 1) = w * 26 * 26 ^ t by rw [Nat.pow_succ, Nat.mul_comm (26 ^ t) 26, ← Nat.mul_assoc]]
        exact ih (w * 26) (by omega)
  have := L (4 - p) 1 (by omega)
  rw [show p + (4 - p) = 4 by omega, Nat.one_mul, wlt_eq c l p hp] at this
  exact this
set_option maxRecDepth 20000 in
theorem c_X1_likeness {X : jX} {σ : jS} {a b : Nat} (ha : a ≤ 11881375) (hb : b ≤ 11881375) : JM X mX1_likeness rX1_likeness [vI ((a : Nat) : Int), vI ((b : Nat) : Int)] σ (jEnd (oI ((lk a b : Nat) : Int)) σ) := by
  refine JM.of (lc := [vI ((a : Nat) : Int), vI ((b : Nat) : Int), .null, .null, .null, .null, .null]) rfl ?_
  refine J.ild_n dX1_likeness_0 rfl ?_
  refine J.ild_n dX1_likeness_1 rfl ?_
  refine J.icmp_ne dX1_likeness_2 (by decide) (tgt := 7) (by unfold inI; omega) (by unfold inI; omega) (fun h => ?_) (fun h => ?_)
  · refine J.ild_n dX1_likeness_7 rfl ?_
    refine J.ist_n dX1_likeness_8 (by decide) (jnc_of rfl rfl) ?_
    refine J.ild_n dX1_likeness_9 rfl ?_
    refine J.ist_n dX1_likeness_10 (by decide) (jnc_of rfl rfl) ?_
    refine J.iconst dX1_likeness_11 ?_
    refine J.ist dX1_likeness_12 (by decide) (jnc_of rfl rfl) ?_
    have K : ∀ (l r : Nat) (u : Value), u.category = 1 → l ≤ 11881375 → r ≤ 11881375 → J X mX1_likeness rX1_likeness 46 [vI ((a : Nat) : Int), vI ((b : Nat) : Int), vI ((l : Nat) : Int), vI ((r : Nat) : Int), u, .null, .null] [] 0 0 σ (jEnd (oI ((lkE l r : Nat) : Int)) σ) := by
      intro l r u hu hl hr
      refine J.ild_n dX1_likeness_46 rfl ?_
      refine J.bipush dX1_likeness_47 (by decide) ?_
      refine J.idiv dX1_likeness_49 (by unfold inI; omega) (by unfold inI; omega) (by omega) ?_
      rw [show Int.tdiv ((l : Nat) : Int) 26 = ((l / 26 : Nat) : Int) from by first | rfl | (exact (Int.ofNat_tdiv _ _).symm)]
      refine J.ist dX1_likeness_50 (by decide) (jnc_of rfl rfl) ?_
      refine J.ild_n dX1_likeness_52 rfl ?_
      refine J.bipush dX1_likeness_53 (by decide) ?_
      refine J.idiv dX1_likeness_55 (by unfold inI; omega) (by unfold inI; omega) (by omega) ?_
      rw [show Int.tdiv ((r : Nat) : Int) 26 = ((r / 26 : Nat) : Int) from by first | rfl | (exact (Int.ofNat_tdiv _ _).symm)]
      refine J.ist dX1_likeness_56 (by decide) (jnc_of rfl rfl) ?_
      refine J.ild dX1_likeness_58 rfl ?_
      refine J.ild dX1_likeness_60 rfl ?_
      refine J.icmp_ne dX1_likeness_62 (by decide) (tgt := 67) (by unfold inI; omega) (by unfold inI; omega) (fun h1 => ?_) (fun h1 => ?_)
      · refine J.ild_n dX1_likeness_67 rfl ?_
        refine J.bipush dX1_likeness_68 (by decide) ?_
        refine J.irem dX1_likeness_70 (by unfold inI; omega) (by unfold inI; omega) (by omega) ?_
        rw [show Int.tmod ((l : Nat) : Int) 26 = ((l % 26 : Nat) : Int) from by first | rfl | (exact (Int.ofNat_tmod _ _).symm)]
        refine J.ild dX1_likeness_71 rfl ?_
        refine J.bipush dX1_likeness_73 (by decide) ?_
        refine J.irem dX1_likeness_75 (by unfold inI; omega) (by unfold inI; omega) (by omega) ?_
        rw [show Int.tmod ((r / 26 : Nat) : Int) 26 = (((r / 26) % 26 : Nat) : Int) from by first | rfl | (exact (Int.ofNat_tmod _ _).symm)]
        refine J.icmp_ne dX1_likeness_76 (by decide) (tgt := 95) (by unfold inI; omega) (by unfold inI; omega) (fun h2 => ?_) (fun h2 => ?_)
        · refine J.iconst dX1_likeness_95 ?_
          refine J.ist dX1_likeness_96 (by decide) (jnc_of rfl rfl) ?_
          refine J.ild dX1_likeness_98 rfl ?_
          refine J.if_eq dX1_likeness_100 (by decide) (tgt := 120) (by unfold inI; omega) (fun h9 => ?_) (fun h9 => ?_)
          · refine J.iconst dX1_likeness_120 ?_
            refine J.iret .int dX1_likeness_121 rfl rfl (by decide) (by decide) ?_
            exact ⟨by rw [show lkE l r = 0 from (if_neg (by omega)).trans (if_neg (by omega))] <;> rfl, rfl⟩
          · exact absurd rfl h9
        · refine J.ild_n dX1_likeness_79 rfl ?_
          refine J.bipush dX1_likeness_80 (by decide) ?_
          refine J.irem dX1_likeness_82 (by unfold inI; omega) (by unfold inI; omega) (by omega) ?_
          rw [show Int.tmod ((r : Nat) : Int) 26 = ((r % 26 : Nat) : Int) from by first | rfl | (exact (Int.ofNat_tmod _ _).symm)]
          refine J.ild dX1_likeness_83 rfl ?_
          refine J.bipush dX1_likeness_85 (by decide) ?_
          refine J.irem dX1_likeness_87 (by unfold inI; omega) (by unfold inI; omega) (by omega) ?_
          rw [show Int.tmod ((l / 26 : Nat) : Int) 26 = (((l / 26) % 26 : Nat) : Int) from by first | rfl | (exact (Int.ofNat_tmod _ _).symm)]
          refine J.icmp_ne dX1_likeness_88 (by decide) (tgt := 95) (by unfold inI; omega) (by unfold inI; omega) (fun h3 => ?_) (fun h3 => ?_)
          · refine J.iconst dX1_likeness_95 ?_
            refine J.ist dX1_likeness_96 (by decide) (jnc_of rfl rfl) ?_
            refine J.ild dX1_likeness_98 rfl ?_
            refine J.if_eq dX1_likeness_100 (by decide) (tgt := 120) (by unfold inI; omega) (fun h9 => ?_) (fun h9 => ?_)
            · refine J.iconst dX1_likeness_120 ?_
              refine J.iret .int dX1_likeness_121 rfl rfl (by decide) (by decide) ?_
              exact ⟨by rw [show lkE l r = 0 from (if_neg (by omega)).trans (if_neg (by omega))] <;> rfl, rfl⟩
            · exact absurd rfl h9
          · refine J.iconst dX1_likeness_91 ?_
            refine J.goto dX1_likeness_92 (by decide) (tgt := 96) ?_
            refine J.ist dX1_likeness_96 (by decide) (jnc_of rfl rfl) ?_
            refine J.ild dX1_likeness_98 rfl ?_
            refine J.if_eq dX1_likeness_100 (by decide) (tgt := 120) (by unfold inI; omega) (fun h9 => ?_) (fun h9 => ?_)
            · exact absurd h9 (by decide)
            · refine J.ild dX1_likeness_103 rfl ?_
              refine J.bipush dX1_likeness_105 (by decide) ?_
              refine J.idiv dX1_likeness_107 (by unfold inI; omega) (by unfold inI; omega) (by omega) ?_
              rw [show Int.tdiv ((l / 26 : Nat) : Int) 26 = (((l / 26) / 26 : Nat) : Int) from by first | rfl | (exact (Int.ofNat_tdiv _ _).symm)]
              refine J.ild dX1_likeness_108 rfl ?_
              refine J.bipush dX1_likeness_110 (by decide) ?_
              refine J.idiv dX1_likeness_112 (by unfold inI; omega) (by unfold inI; omega) (by omega) ?_
              rw [show Int.tdiv ((r / 26 : Nat) : Int) 26 = (((r / 26) / 26 : Nat) : Int) from by first | rfl | (exact (Int.ofNat_tdiv _ _).symm)]
              refine J.icmp_ne dX1_likeness_113 (by decide) (tgt := 120) (by unfold inI; omega) (by unfold inI; omega) (fun h4 => ?_) (fun h4 => ?_)
              · refine J.iconst dX1_likeness_120 ?_
                refine J.iret .int dX1_likeness_121 rfl rfl (by decide) (by decide) ?_
                exact ⟨by rw [show lkE l r = 0 from (if_neg (by omega)).trans (if_neg (by omega))] <;> rfl, rfl⟩
              · refine J.iconst dX1_likeness_116 ?_
                refine J.goto dX1_likeness_117 (by decide) (tgt := 121) ?_
                refine J.iret .int dX1_likeness_121 rfl rfl (by decide) (by decide) ?_
                exact ⟨by rw [show lkE l r = 4 from (if_neg (by omega)).trans (if_pos (by omega))] <;> rfl, rfl⟩
      · refine J.iconst dX1_likeness_65 ?_
        refine J.iret .int dX1_likeness_66 rfl rfl (by decide) (by decide) ?_
        exact ⟨by rw [show lkE l r = 3 from if_pos (by omega)] <;> rfl, rfl⟩
    have L : ∀ (t : Nat), ∀ l r : Nat, l ≤ 11881375 → r ≤ 11881375 → t ≤ 4 → J X mX1_likeness rX1_likeness 14 [vI ((a : Nat) : Int), vI ((b : Nat) : Int), vI ((l : Nat) : Int), vI ((r : Nat) : Int), vI ((t : Nat) : Int), .null, .null] [] 0 0 σ (jEnd (oI ((lkL t l r : Nat) : Int)) σ) := by
      intro t
      induction t with
      | zero =>
        intro l r hl hr ht
        refine J.ild dX1_likeness_14 rfl ?_
        refine J.if_le dX1_likeness_16 (by decide) (tgt := 46) (by unfold inI; omega) (fun h1 => ?_) (fun h1 => ?_)
        · exact K l r _ rfl hl hr
        · omega
      | succ t ih =>
        intro l r hl hr ht
        refine J.ild dX1_likeness_14 rfl ?_
        refine J.if_le dX1_likeness_16 (by decide) (tgt := 46) (by unfold inI; omega) (fun h1 => ?_) (fun h1 => ?_)
        · omega
        · refine J.ild_n dX1_likeness_19 rfl ?_
          refine J.bipush dX1_likeness_20 (by decide) ?_
          refine J.irem dX1_likeness_22 (by unfold inI; omega) (by unfold inI; omega) (by omega) ?_
          rw [show Int.tmod ((l : Nat) : Int) 26 = ((l % 26 : Nat) : Int) from by first | rfl | (exact (Int.ofNat_tmod _ _).symm)]
          refine J.ild_n dX1_likeness_23 rfl ?_
          refine J.bipush dX1_likeness_24 (by decide) ?_
          refine J.irem dX1_likeness_26 (by unfold inI; omega) (by unfold inI; omega) (by omega) ?_
          rw [show Int.tmod ((r : Nat) : Int) 26 = ((r % 26 : Nat) : Int) from by first | rfl | (exact (Int.ofNat_tmod _ _).symm)]
          refine J.icmp_ne dX1_likeness_27 (by decide) (tgt := 46) (by unfold inI; omega) (by unfold inI; omega) (fun h2 => ?_) (fun h2 => ?_)
          · rw [show lkL (t + 1) l r = lkE l r from if_neg (by omega)]
            exact K l r _ rfl hl hr
          · refine J.ild_n dX1_likeness_30 rfl ?_
            refine J.bipush dX1_likeness_31 (by decide) ?_
            refine J.idiv dX1_likeness_33 (by unfold inI; omega) (by unfold inI; omega) (by omega) ?_
            rw [show Int.tdiv ((l : Nat) : Int) 26 = ((l / 26 : Nat) : Int) from by first | rfl | (exact (Int.ofNat_tdiv _ _).symm)]
            refine J.ist_n dX1_likeness_34 (by decide) (jnc_of rfl rfl) ?_
            refine J.ild_n dX1_likeness_35 rfl ?_
            refine J.bipush dX1_likeness_36 (by decide) ?_
            refine J.idiv dX1_likeness_38 (by unfold inI; omega) (by unfold inI; omega) (by omega) ?_
            rw [show Int.tdiv ((r : Nat) : Int) 26 = ((r / 26 : Nat) : Int) from by first | rfl | (exact (Int.ofNat_tdiv _ _).symm)]
            refine J.ist_n dX1_likeness_39 (by decide) (jnc_of rfl rfl) ?_
            refine J.iinc (v := ((t : Nat) : Int)) dX1_likeness_40 rfl (by first | rfl | omega) (by decide) (jnc_of rfl rfl) ?_
            refine J.goto dX1_likeness_43 (by decide) (tgt := 14) ?_
            rw [show lkL (t + 1) l r = lkL t (l / 26) (r / 26) from if_pos (by omega)]
            exact ih (l / 26) (r / 26) (by omega) (by omega) (by omega)
    rw [show lk a b = lkL 4 a b from if_neg (by omega)]
    exact L 4 a b ha hb (by omega)
  · refine J.iconst dX1_likeness_5 ?_
    refine J.iret .int dX1_likeness_6 rfl rfl (by decide) (by decide) ?_
    exact ⟨by rw [show lk a b = 2 from if_pos (by omega)] <;> rfl, rfl⟩
theorem iI_xor {a b : Nat} : iI (a : Int) ^^^ iI (b : Int) = iI ((a ^^^ b : Nat) : Int) := by
  unfold iI
  rw [Int32.ofInt_eq_ofNat, Int32.ofInt_eq_ofNat, Int32.ofInt_eq_ofNat]
  apply Int32.toBitVec.inj
  apply BitVec.eq_of_toNat_eq
  simp [Int32.toBitVec_ofNat]
set_option maxRecDepth 20000 in
theorem c_J9_floorMod {X : jX} {σ : jS} {x m : Nat} (hx : x ≤ 11881375) (hm : m ≤ 26) (h0 : 0 < m) : JM X mJ9_floorMod_7cf53 rJ9_floorMod_7cf53 [vI ((x : Nat) : Int), vI ((m : Nat) : Int)] σ (jEnd (oI ((x % m : Nat) : Int)) σ) := by
  refine JM.of (lc := [vI ((x : Nat) : Int), vI ((m : Nat) : Int), .null]) rfl ?_
  refine J.ild_n dJ9_floorMod_7cf53_0 rfl ?_
  refine J.ild_n dJ9_floorMod_7cf53_1 rfl ?_
  refine J.irem dJ9_floorMod_7cf53_2 (by unfold inI; omega) (by unfold inI; omega) (by omega) ?_
  rw [show Int.tmod ((x : Nat) : Int) ((m : Nat) : Int) = ((x % m : Nat) : Int) from by first | rfl | (exact (Int.ofNat_tmod _ _).symm)]
  refine J.ist_n dJ9_floorMod_7cf53_3 (by decide) (jnc_of rfl rfl) ?_
  refine J.ild_n dJ9_floorMod_7cf53_4 rfl ?_
  refine J.ild_n dJ9_floorMod_7cf53_5 rfl ?_
  refine J.ixor dJ9_floorMod_7cf53_6 ?_
  rw [iI_xor]
  have hxm : x ^^^ m < 2147483648 := Nat.xor_lt_two_pow (n := 31) (by omega) (by omega)
  refine J.if_ge dJ9_floorMod_7cf53_7 (by decide) (tgt := 18) (by unfold inI; omega) (fun h => ?_) (fun h => ?_)
  · refine J.ild_n dJ9_floorMod_7cf53_18 rfl ?_
    refine J.iret .int dJ9_floorMod_7cf53_19 rfl rfl (by decide) (by decide) ?_
    exact ⟨rfl, rfl⟩
  · omega
def usL (lu : Nat → Int) (m : Nat) : Nat → Nat → Int
  | 0, _ => 0
  | t + 1, x => lu (x % m) + usL lu m t (x / m)
set_option maxRecDepth 20000 in
theorem c_X1_units {X : jX} {σ : jS} {c : Nat} {lu : Nat → Int} (hc : c ≤ 11881375) (eU : σ.2 0 = jI 26 lu) : JM X mX1_units rX1_units [vI ((c : Nat) : Int)] σ (jEnd (oI (12 + usL lu 26 5 c)) σ) := by
  refine JM.of (lc := [vI ((c : Nat) : Int), .null, .null, .null]) rfl ?_
  refine J.bipush dX1_units_0 (by decide) ?_
  refine J.ist_n dX1_units_2 (by decide) (jnc_of rfl rfl) ?_
  refine J.ild_n dX1_units_3 rfl ?_
  refine J.ist_n dX1_units_4 (by decide) (jnc_of rfl rfl) ?_
  refine J.iconst dX1_units_5 ?_
  refine J.ist_n dX1_units_6 (by decide) (jnc_of rfl rfl) ?_
  have L : ∀ (t : Nat), ∀ (a x : Nat) (u : Int), a + t = 5 → x ≤ 11881375 → J X mX1_units rX1_units 7 [vI ((c : Nat) : Int), vI u, vI ((x : Nat) : Int), vI ((a : Nat) : Int)] [] 0 0 σ (jEnd (oI (u + usL lu 26 t x)) σ) := by
    intro t
    induction t with
    | zero =>
      intro a x u hat hx
      refine J.ild_n dX1_units_7 rfl ?_
      refine J.iconst dX1_units_8 ?_
      refine J.icmp_ge dX1_units_9 (by decide) (tgt := 36) (by unfold inI; omega) (by unfold inI; omega) (fun h => ?_) (fun h => ?_)
      · refine J.ild_n dX1_units_36 rfl ?_
        refine J.iret .int dX1_units_37 rfl rfl (by decide) (by decide) ?_
        exact ⟨by rw [show usL lu 26 0 x = 0 from rfl, Int.add_zero], rfl⟩
      · omega
    | succ t ih =>
      intro a x u hat hx
      refine J.ild_n dX1_units_7 rfl ?_
      refine J.iconst dX1_units_8 ?_
      refine J.icmp_ge dX1_units_9 (by decide) (tgt := 36) (by unfold inI; omega) (by unfold inI; omega) (fun h => ?_) (fun h => ?_)
      · omega
      · refine J.ild_n dX1_units_12 rfl ?_
        refine J.getsL dX1_units_13 gs_X1_19 ?_
        refine J.ild_n dX1_units_16 rfl ?_
        refine J.bipush dX1_units_17 (by decide) ?_
        refine J.callSF (rm' := rJ9_floorMod_7cf53) [vI ((x : Nat) : Int), vI 26] dX1_units_19 (c_J9_floorMod (m := 26) hx (by omega) (by omega)) st_J9_floorMod_7cf53 ml_X1_23 sm_J9_floorMod_7cf53 rfl (Nat.le_of_ble_eq_true rfl) (by decide) (by decide) (Nat.le_of_ble_eq_true rfl) (by decide) (by decide) (fun E9 σ9 hq9 => nomatch hq9.1) (fun r9 σ9 hq9 hle9 => ?_)
        obtain ⟨h9, h8⟩ := hq9
        rw [h8]
        clear hle9 h8 σ9
        cases h9
        refine J.iald (x % 26) dX1_units_22 eU rfl (by omega) (by omega) ?_
        refine J.iadd dX1_units_23 ?_
        refine J.ist_n dX1_units_24 (by decide) (jnc_of rfl rfl) ?_
        refine J.ild_n dX1_units_25 rfl ?_
        refine J.bipush dX1_units_26 (by decide) ?_
        refine J.idiv dX1_units_28 (by unfold inI; omega) (by unfold inI; omega) (by omega) ?_
        rw [show Int.tdiv ((x : Nat) : Int) 26 = ((x / 26 : Nat) : Int) from by first | rfl | (exact (Int.ofNat_tdiv _ _).symm)]
        refine J.ist_n dX1_units_29 (by decide) (jnc_of rfl rfl) ?_
        refine J.iinc (v := ((a + 1 : Nat) : Int)) dX1_units_30 rfl (by first | rfl | omega) (by decide) (jnc_of rfl rfl) ?_
        refine J.goto dX1_units_33 (by decide) (tgt := 7) ?_
        rw [show u + usL lu 26 (t + 1) x = (u + lu (x % 26)) + usL lu 26 t (x / 26) from by rw [Int.add_assoc]; rfl]
        exact ih (a + 1) (x / 26) (u + lu (x % 26)) (by omega) (by omega)
  exact L 5 0 c 12 rfl hc
set_option maxRecDepth 20000 in
theorem c_X5_wordUnits {X : jX} {σ : jS} {c : Nat} {lu : Nat → Int} (hc : c ≤ 11881375) (eU : σ.2 1 = jI 10 lu) : JM X mX5_wordUnits rX5_wordUnits [vI ((c : Nat) : Int)] σ (jEnd (oI (9 + usL lu 10 4 c)) σ) := by
  refine JM.of (lc := [vI ((c : Nat) : Int), .null, .null, .null]) rfl ?_
  refine J.bipush dX5_wordUnits_0 (by decide) ?_
  refine J.ist_n dX5_wordUnits_2 (by decide) (jnc_of rfl rfl) ?_
  refine J.ild_n dX5_wordUnits_3 rfl ?_
  refine J.ist_n dX5_wordUnits_4 (by decide) (jnc_of rfl rfl) ?_
  refine J.iconst dX5_wordUnits_5 ?_
  refine J.ist_n dX5_wordUnits_6 (by decide) (jnc_of rfl rfl) ?_
  have L : ∀ (t : Nat), ∀ (a x : Nat) (u : Int), a + t = 4 → x ≤ 11881375 → J X mX5_wordUnits rX5_wordUnits 7 [vI ((c : Nat) : Int), vI u, vI ((x : Nat) : Int), vI ((a : Nat) : Int)] [] 0 0 σ (jEnd (oI (u + usL lu 10 t x)) σ) := by
    intro t
    induction t with
    | zero =>
      intro a x u hat hx
      refine J.ild_n dX5_wordUnits_7 rfl ?_
      refine J.iconst dX5_wordUnits_8 ?_
      refine J.icmp_ge dX5_wordUnits_9 (by decide) (tgt := 36) (by unfold inI; omega) (by unfold inI; omega) (fun h => ?_) (fun h => ?_)
      · refine J.ild_n dX5_wordUnits_36 rfl ?_
        refine J.iret .int dX5_wordUnits_37 rfl rfl (by decide) (by decide) ?_
        exact ⟨by rw [show usL lu 10 0 x = 0 from rfl, Int.add_zero], rfl⟩
      · omega
    | succ t ih =>
      intro a x u hat hx
      refine J.ild_n dX5_wordUnits_7 rfl ?_
      refine J.iconst dX5_wordUnits_8 ?_
      refine J.icmp_ge dX5_wordUnits_9 (by decide) (tgt := 36) (by unfold inI; omega) (by unfold inI; omega) (fun h => ?_) (fun h => ?_)
      · omega
      · refine J.ild_n dX5_wordUnits_12 rfl ?_
        refine J.getsD dX5_wordUnits_13 gs_X5_35 ?_
        refine J.ild_n dX5_wordUnits_16 rfl ?_
        refine J.bipush dX5_wordUnits_17 (by decide) ?_
        refine J.callSF (rm' := rJ9_floorMod_7cf53) [vI ((x : Nat) : Int), vI 10] dX5_wordUnits_19 (c_J9_floorMod (m := 10) hx (by omega) (by omega)) st_J9_floorMod_7cf53 ml_X5_38 sm_J9_floorMod_7cf53 rfl (Nat.le_of_ble_eq_true rfl) (by decide) (by decide) (Nat.le_of_ble_eq_true rfl) (by decide) (by decide) (fun E9 σ9 hq9 => nomatch hq9.1) (fun r9 σ9 hq9 hle9 => ?_)
        obtain ⟨h9, h8⟩ := hq9
        rw [h8]
        clear hle9 h8 σ9
        cases h9
        refine J.iald (x % 10) dX5_wordUnits_22 eU rfl (by omega) (by omega) ?_
        refine J.iadd dX5_wordUnits_23 ?_
        refine J.ist_n dX5_wordUnits_24 (by decide) (jnc_of rfl rfl) ?_
        refine J.ild_n dX5_wordUnits_25 rfl ?_
        refine J.bipush dX5_wordUnits_26 (by decide) ?_
        refine J.idiv dX5_wordUnits_28 (by unfold inI; omega) (by unfold inI; omega) (by omega) ?_
        rw [show Int.tdiv ((x : Nat) : Int) 10 = ((x / 10 : Nat) : Int) from by first | rfl | (exact (Int.ofNat_tdiv _ _).symm)]
        refine J.ist_n dX5_wordUnits_29 (by decide) (jnc_of rfl rfl) ?_
        refine J.iinc (v := ((a + 1 : Nat) : Int)) dX5_wordUnits_30 rfl (by first | rfl | omega) (by decide) (jnc_of rfl rfl) ?_
        refine J.goto dX5_wordUnits_33 (by decide) (tgt := 7) ?_
        rw [show u + usL lu 10 (t + 1) x = (u + lu (x % 10)) + usL lu 10 t (x / 10) from by rw [Int.add_assoc]; rfl]
        exact ih (a + 1) (x / 10) (u + lu (x % 10)) (by omega) (by omega)
  exact L 4 0 c 9 rfl hc
