/-! ===== the law's own helpers ===== -/
set_option maxRecDepth 20000 in
theorem l_below {X : jX} {σ : jS} {x : Int} {n : Nat} (hn : 0 < n ∧ n ≤ 10000) : JM X mL_below rL_below [vI x, vI ((n : Nat) : Int)] σ (fun o σ1 => (∃ c : Nat, c < n ∧ o = oI ((c : Nat) : Int)) ∧ σ1 = σ) := by
  refine JM.of (lc := [vI x, vI ((n : Nat) : Int)]) rfl ?_
  refine J.ild_n dL_below_0 rfl ?_
  refine J.ldc (b := 2147483647) dL_below_1 kc_L_7 (by decide) ?_
  obtain ⟨c, hc, he⟩ := msk (iI x)
  refine J.iand dL_below_3 ?_
  rw [he]
  refine J.ild_n dL_below_4 rfl ?_
  refine J.irem dL_below_5 (by unfold inI; omega) (by unfold inI; omega) (by omega) ?_
  rw [show Int.tmod ((c : Nat) : Int) ((n : Nat) : Int) = ((c % n : Nat) : Int) from by first | rfl | (exact (Int.ofNat_tmod _ _).symm)]
  refine J.iret .int dL_below_6 rfl rfl (by decide) (by decide) ?_
  exact ⟨⟨c % n, Nat.mod_lt _ (by omega), rfl⟩, rfl⟩
set_option maxRecDepth 20000 in
theorem l_cell {X : jX} {σ : jS} {k N : Nat} {s : Nat → Int} (e4 : σ.2 4 = jI N s) (hk : k ≤ 100000) (hN : N ≤ 100000) (hs : ∀ j, inI (s j)) : JM X mL_cell rL_cell [.ref 4, vI ((k : Nat) : Int)] σ (fun o σ1 => (∃ a : Int, inI a ∧ o = oI a) ∧ σ1 = σ) := by
  refine JM.of (lc := [.ref 4, vI ((k : Nat) : Int)]) rfl ?_
  refine J.ild_n dL_cell_0 rfl ?_
  refine J.ald_n dL_cell_1 rfl ?_
  refine J.alen dL_cell_2 e4 ?_
  refine J.icmp_ge dL_cell_3 (by decide) (tgt := 12) (by unfold inI; omega) (by unfold inI; omega) (fun h => ?_) (fun h => ?_)
  · refine J.ldc (b := 790386105) dL_cell_12 kc_L_8 (by decide) ?_
    refine J.ild_n dL_cell_14 rfl ?_
    refine J.iconst dL_cell_15 ?_
    refine J.iadd dL_cell_16 ?_
    rw [show (((k : Nat) : Int) : Int) + 3 = ((k + 3 : Nat) : Int) from by push_cast; rfl]
    refine J.imul dL_cell_17 ?_
    refine J.iret .int dL_cell_18 rfl rfl (by decide) (by decide) ?_
    obtain ⟨a, ha, e⟩ := iI_of (iI (790386105 * ((k + 3 : Nat) : Int)))
    exact ⟨⟨a, ha, congrArg (fun z => (Sum.inl (some (Value.int z)) : jOut)) e⟩, rfl⟩
  · refine J.ald_n dL_cell_6 rfl ?_
    refine J.ild_n dL_cell_7 rfl ?_
    refine J.iald k dL_cell_8 e4 rfl (by omega) (by omega) ?_
    refine J.goto dL_cell_9 (by decide) (tgt := 18) ?_
    refine J.iret .int dL_cell_18 rfl rfl (by decide) (by decide) ?_
    exact ⟨⟨s k, hs k, rfl⟩, rfl⟩
set_option maxRecDepth 20000 in
theorem l_letter {X : jX} {σ : jS} {c p : Nat} (hc : c ≤ 11881375) (hp : p ≤ 4) : JM X mL_letter rL_letter [vI ((c : Nat) : Int), vI ((p : Nat) : Int)] σ (jEnd (oI ((ltr c p : Nat) : Int)) σ) := by
  refine JM.of (lc := [vI ((c : Nat) : Int), vI ((p : Nat) : Int), .null, .null]) rfl ?_
  refine J.ild_n dL_letter_0 rfl ?_
  refine J.ist_n dL_letter_1 (by decide) (jnc_of rfl rfl) ?_
  refine J.iconst dL_letter_2 ?_
  refine J.ist_n dL_letter_3 (by decide) (jnc_of rfl rfl) ?_
  have L : ∀ (t : Nat), ∀ x : Nat, x ≤ 11881375 → p + t ≤ 4 → J X mL_letter rL_letter 4 [vI ((c : Nat) : Int), vI ((p : Nat) : Int), vI ((x : Nat) : Int), vI ((p + t : Nat) : Int)] [] 0 0 σ (jEnd (oI ((x / 26 ^ t % 26 : Nat) : Int)) σ) := by
    intro t
    induction t with
    | zero =>
      intro x hx ht
      refine J.ild_n dL_letter_4 rfl ?_
      refine J.ild_n dL_letter_5 rfl ?_
      refine J.icmp_le dL_letter_6 (by decide) (tgt := 20) (by unfold inI; omega) (by unfold inI; omega) (fun h => ?_) (fun h => ?_)
      · refine J.ild_n dL_letter_20 rfl ?_
        refine J.bipush dL_letter_21 (by decide) ?_
        refine J.irem dL_letter_23 (by unfold inI; omega) (by unfold inI; omega) (by omega) ?_
        rw [show Int.tmod ((x : Nat) : Int) 26 = ((x % 26 : Nat) : Int) from by first | rfl | (exact (Int.ofNat_tmod _ _).symm)]
        refine J.iret .int dL_letter_24 rfl rfl (by decide) (by decide) ?_
        exact ⟨by rw [Nat.pow_zero, Nat.div_one], rfl⟩
      · omega
    | succ t ih =>
      intro x hx ht
      refine J.ild_n dL_letter_4 rfl ?_
      refine J.ild_n dL_letter_5 rfl ?_
      refine J.icmp_le dL_letter_6 (by decide) (tgt := 20) (by unfold inI; omega) (by unfold inI; omega) (fun h => ?_) (fun h => ?_)
      · omega
      · refine J.ild_n dL_letter_9 rfl ?_
        refine J.bipush dL_letter_10 (by decide) ?_
        refine J.idiv dL_letter_12 (by unfold inI; omega) (by unfold inI; omega) (by omega) ?_
        rw [show Int.tdiv ((x : Nat) : Int) 26 = ((x / 26 : Nat) : Int) from by first | rfl | (exact (Int.ofNat_tdiv _ _).symm)]
        refine J.ist_n dL_letter_13 (by decide) (jnc_of rfl rfl) ?_
        refine J.iinc (v := ((p + t : Nat) : Int)) dL_letter_14 rfl (by first | rfl | omega) (by decide) (jnc_of rfl rfl) ?_
        refine J.goto dL_letter_17 (by decide) (tgt := 4) ?_
        rw [show x / 26 ^ (t + 1) = x / 26 / 26 ^ t by rw [Nat.div_div_eq_div_mul, Nat.pow_succ, Nat.mul_comm]]
        exact ih (x / 26) (by omega) (by omega)
  have := L (4 - p) c hc (by omega)
  rw [show p + (4 - p) = 4 by omega] at this
  exact this
set_option maxRecDepth 20000 in
theorem l_off {X : jX} {σ : jS} {a b : Nat} (ha : a ≤ 11881375) (hb : b ≤ 11881375) : JM X mL_off rL_off [vI ((a : Nat) : Int), vI ((b : Nat) : Int)] σ (fun o σ1 => o = oI ((ofR a b : Nat) : Int) ∧ σ1 = σ) := by
  refine JM.of (lc := [vI ((a : Nat) : Int), vI ((b : Nat) : Int), .null, .null, .null, .null]) rfl ?_
  refine J.iconst dL_off_0 ?_
  refine J.ist_n dL_off_1 (by decide) (jnc_of rfl rfl) ?_
  refine J.iconst dL_off_2 ?_
  refine J.ist_n dL_off_3 (by decide) (jnc_of rfl rfl) ?_
  refine J.iconst dL_off_4 ?_
  refine J.ist dL_off_5 (by decide) (jnc_of rfl rfl) ?_
  refine J.iconst dL_off_7 ?_
  refine J.ist dL_off_8 (by decide) (jnc_of rfl rfl) ?_
  have L : ∀ (t : Nat), ∀ (k m : Nat) (f l : Int), k + t = 5 → m ≤ k → ((m = 0 ∧ f = -1 ∧ l = -1) ∨ (1 ≤ m ∧ (0 ≤ f ∧ f < 5) ∧ (0 ≤ l ∧ l < 5))) → J X mL_off rL_off 10 [vI ((a : Nat) : Int), vI ((b : Nat) : Int), vI ((m : Nat) : Int), vI f, vI l, vI ((k : Nat) : Int)] [] 0 0 σ (fun o σ1 => o = oI ((ofE a b (ofU a b t k m f l) : Nat) : Int) ∧ σ1 = σ) := by
    intro t
    induction t with
    | zero =>
      intro k m f l hk hm hJ
      refine J.ild dL_off_10 rfl ?_
      refine J.iconst dL_off_12 ?_
      refine J.icmp_ge dL_off_13 (by decide) (tgt := 54) (by unfold inI; omega) (by unfold inI; omega) (fun h => ?_) (fun h => ?_)
      · refine J.ild_n dL_off_54 rfl ?_
        refine J.iconst dL_off_55 ?_
        refine J.icmp_ge dL_off_56 (by decide) (tgt := 61) (by unfold inI; omega) (by unfold inI; omega) (fun h1 => ?_) (fun h1 => ?_)
        · obtain ⟨hm1, hf1, hl1⟩ := hJ.resolve_left (by omega)
          obtain ⟨i, rfl⟩ : ∃ i : Nat, f = ((i : Nat) : Int) := ⟨f.toNat, by omega⟩
          obtain ⟨j, rfl⟩ : ∃ j : Nat, l = ((j : Nat) : Int) := ⟨l.toNat, by omega⟩
          refine J.ild_n dL_off_61 rfl ?_
          refine J.iconst dL_off_62 ?_
          refine J.icmp_ne dL_off_63 (by decide) (tgt := 106) (by unfold inI; omega) (by unfold inI; omega) (fun h2 => ?_) (fun h2 => ?_)
          · refine J.iconst dL_off_106 ?_
            refine J.iret .int dL_off_107 rfl rfl (by decide) (by decide) ?_
            exact ⟨by rw [show ofU a b 0 k m ((i : Nat) : Int) ((j : Nat) : Int) = (m, ((i : Nat) : Int), ((j : Nat) : Int)) from rfl, show ofE a b (m, ((i : Nat) : Int), ((j : Nat) : Int)) = 3 from (if_neg (show ¬ m < 2 by omega)).trans (if_neg (fun y => h2 (by have := y.1; omega)))]; rfl, rfl⟩
          · refine J.ild dL_off_66 rfl ?_
            refine J.ild_n dL_off_68 rfl ?_
            refine J.iconst dL_off_69 ?_
            refine J.iadd dL_off_70 ?_
            rw [show (((i : Nat) : Int) : Int) + 1 = ((i + 1 : Nat) : Int) from by push_cast; rfl]
            refine J.icmp_ne dL_off_71 (by decide) (tgt := 106) (by unfold inI; omega) (by unfold inI; omega) (fun h3 => ?_) (fun h3 => ?_)
            · refine J.iconst dL_off_106 ?_
              refine J.iret .int dL_off_107 rfl rfl (by decide) (by decide) ?_
              exact ⟨by rw [show ofU a b 0 k m ((i : Nat) : Int) ((j : Nat) : Int) = (m, ((i : Nat) : Int), ((j : Nat) : Int)) from rfl, show ofE a b (m, ((i : Nat) : Int), ((j : Nat) : Int)) = 3 from (if_neg (show ¬ m < 2 by omega)).trans (if_neg (fun y => h3 (by have hh : ((j : Nat) : Int) = ((i : Nat) : Int) + 1 := y.2.1; omega)))]; rfl, rfl⟩
            · refine J.ild_n dL_off_74 rfl ?_
              refine J.ild_n dL_off_75 rfl ?_
              refine J.callS (rm' := rL_letter) [vI ((a : Nat) : Int), vI ((i : Nat) : Int)] dL_off_76 (l_letter (c := a) (p := i) ha (by omega)) st_L_letter ml_L_9 sm_L_letter rfl (Nat.le_of_ble_eq_true rfl) (by decide) (by decide) (Nat.le_of_ble_eq_true rfl) (by decide) (by decide) (Or.inl rfl) (fun E9 σ9 hq9 _ => nomatch hq9.1) (fun r9 σ9 hq9 hle9 => ?_)
              obtain ⟨h9, h8⟩ := hq9
              rw [h8]
              clear hle9 h8 σ9
              cases h9
              refine J.ild_n dL_off_79 rfl ?_
              refine J.ild dL_off_80 rfl ?_
              refine J.callS (rm' := rL_letter) [vI ((b : Nat) : Int), vI ((j : Nat) : Int)] dL_off_82 (l_letter (c := b) (p := j) hb (by omega)) st_L_letter ml_L_9 sm_L_letter rfl (Nat.le_of_ble_eq_true rfl) (by decide) (by decide) (Nat.le_of_ble_eq_true rfl) (by decide) (by decide) (Or.inl rfl) (fun E9 σ9 hq9 _ => nomatch hq9.1) (fun r9 σ9 hq9 hle9 => ?_)
              obtain ⟨h9, h8⟩ := hq9
              rw [h8]
              clear hle9 h8 σ9
              cases h9
              have g1 := ltr_lt a i
              have g2 := ltr_lt b j
              refine J.icmp_ne dL_off_85 (by decide) (tgt := 106) (by unfold inI; omega) (by unfold inI; omega) (fun h4 => ?_) (fun h4 => ?_)
              · refine J.iconst dL_off_106 ?_
                refine J.iret .int dL_off_107 rfl rfl (by decide) (by decide) ?_
                exact ⟨by rw [show ofU a b 0 k m ((i : Nat) : Int) ((j : Nat) : Int) = (m, ((i : Nat) : Int), ((j : Nat) : Int)) from rfl, show ofE a b (m, ((i : Nat) : Int), ((j : Nat) : Int)) = 3 from (if_neg (show ¬ m < 2 by omega)).trans (if_neg (fun y => h4 (by have := y.2.2.1; rw [Int.toNat_natCast, Int.toNat_natCast] at this; omega)))]; rfl, rfl⟩
              · refine J.ild_n dL_off_88 rfl ?_
                refine J.ild dL_off_89 rfl ?_
                refine J.callS (rm' := rL_letter) [vI ((a : Nat) : Int), vI ((j : Nat) : Int)] dL_off_91 (l_letter (c := a) (p := j) ha (by omega)) st_L_letter ml_L_9 sm_L_letter rfl (Nat.le_of_ble_eq_true rfl) (by decide) (by decide) (Nat.le_of_ble_eq_true rfl) (by decide) (by decide) (Or.inl rfl) (fun E9 σ9 hq9 _ => nomatch hq9.1) (fun r9 σ9 hq9 hle9 => ?_)
                obtain ⟨h9, h8⟩ := hq9
                rw [h8]
                clear hle9 h8 σ9
                cases h9
                refine J.ild_n dL_off_94 rfl ?_
                refine J.ild_n dL_off_95 rfl ?_
                refine J.callS (rm' := rL_letter) [vI ((b : Nat) : Int), vI ((i : Nat) : Int)] dL_off_96 (l_letter (c := b) (p := i) hb (by omega)) st_L_letter ml_L_9 sm_L_letter rfl (Nat.le_of_ble_eq_true rfl) (by decide) (by decide) (Nat.le_of_ble_eq_true rfl) (by decide) (by decide) (Or.inl rfl) (fun E9 σ9 hq9 _ => nomatch hq9.1) (fun r9 σ9 hq9 hle9 => ?_)
                obtain ⟨h9, h8⟩ := hq9
                rw [h8]
                clear hle9 h8 σ9
                cases h9
                have g3 := ltr_lt a j
                have g4 := ltr_lt b i
                refine J.icmp_ne dL_off_99 (by decide) (tgt := 106) (by unfold inI; omega) (by unfold inI; omega) (fun h5 => ?_) (fun h5 => ?_)
                · refine J.iconst dL_off_106 ?_
                  refine J.iret .int dL_off_107 rfl rfl (by decide) (by decide) ?_
                  exact ⟨by rw [show ofU a b 0 k m ((i : Nat) : Int) ((j : Nat) : Int) = (m, ((i : Nat) : Int), ((j : Nat) : Int)) from rfl, show ofE a b (m, ((i : Nat) : Int), ((j : Nat) : Int)) = 3 from (if_neg (show ¬ m < 2 by omega)).trans (if_neg (fun y => h5 (by have := y.2.2.2; rw [Int.toNat_natCast, Int.toNat_natCast] at this; omega)))]; rfl, rfl⟩
                · refine J.iconst dL_off_102 ?_
                  refine J.goto dL_off_103 (by decide) (tgt := 107) ?_
                  refine J.iret .int dL_off_107 rfl rfl (by decide) (by decide) ?_
                  exact ⟨by rw [show ofU a b 0 k m ((i : Nat) : Int) ((j : Nat) : Int) = (m, ((i : Nat) : Int), ((j : Nat) : Int)) from rfl, show ofE a b (m, ((i : Nat) : Int), ((j : Nat) : Int)) = 2 from (if_neg (show ¬ m < 2 by omega)).trans (if_pos ⟨by show m = 2; omega, by show ((j : Nat) : Int) = ((i : Nat) : Int) + 1; omega, by show ltr a ((i : Nat) : Int).toNat = ltr b ((j : Nat) : Int).toNat; rw [Int.toNat_natCast, Int.toNat_natCast]; omega, by show ltr a ((j : Nat) : Int).toNat = ltr b ((i : Nat) : Int).toNat; rw [Int.toNat_natCast, Int.toNat_natCast]; omega⟩)]; rfl, rfl⟩
        · refine J.ild_n dL_off_59 rfl ?_
          refine J.iret .int dL_off_60 rfl rfl (by decide) (by decide) ?_
          exact ⟨by rw [show ofU a b 0 k m f l = (m, f, l) from rfl, show ofE a b (m, f, l) = m from if_pos (show m < 2 by omega)], rfl⟩
      · omega
    | succ t ih =>
      intro k m f l hk hm hJ
      refine J.ild dL_off_10 rfl ?_
      refine J.iconst dL_off_12 ?_
      refine J.icmp_ge dL_off_13 (by decide) (tgt := 54) (by unfold inI; omega) (by unfold inI; omega) (fun h => ?_) (fun h => ?_)
      · omega
      · refine J.ild_n dL_off_16 rfl ?_
        refine J.ild dL_off_17 rfl ?_
        refine J.callS (rm' := rL_letter) [vI ((a : Nat) : Int), vI ((k : Nat) : Int)] dL_off_19 (l_letter (c := a) (p := k) ha (by omega)) st_L_letter ml_L_9 sm_L_letter rfl (Nat.le_of_ble_eq_true rfl) (by decide) (by decide) (Nat.le_of_ble_eq_true rfl) (by decide) (by decide) (Or.inl rfl) (fun E9 σ9 hq9 _ => nomatch hq9.1) (fun r9 σ9 hq9 hle9 => ?_)
        obtain ⟨h9, h8⟩ := hq9
        rw [h8]
        clear hle9 h8 σ9
        cases h9
        refine J.ild_n dL_off_22 rfl ?_
        refine J.ild dL_off_23 rfl ?_
        refine J.callS (rm' := rL_letter) [vI ((b : Nat) : Int), vI ((k : Nat) : Int)] dL_off_25 (l_letter (c := b) (p := k) hb (by omega)) st_L_letter ml_L_9 sm_L_letter rfl (Nat.le_of_ble_eq_true rfl) (by decide) (by decide) (Nat.le_of_ble_eq_true rfl) (by decide) (by decide) (Or.inl rfl) (fun E9 σ9 hq9 _ => nomatch hq9.1) (fun r9 σ9 hq9 hle9 => ?_)
        obtain ⟨h9, h8⟩ := hq9
        rw [h8]
        clear hle9 h8 σ9
        cases h9
        have g1 := ltr_lt a k
        have g2 := ltr_lt b k
        refine J.icmp_ne dL_off_28 (by decide) (tgt := 34) (by unfold inI; omega) (by unfold inI; omega) (fun h1 => ?_) (fun h1 => ?_)
        · refine J.iinc (v := ((m + 1 : Nat) : Int)) dL_off_34 rfl (by first | rfl | omega) (by decide) (jnc_of rfl rfl) ?_
          refine J.ild_n dL_off_37 rfl ?_
          refine J.if_ge dL_off_38 (by decide) (tgt := 44) (by unfold inI; omega) (fun h2 => ?_) (fun h2 => ?_)
          · refine J.ild dL_off_44 rfl ?_
            refine J.ist dL_off_46 (by decide) (jnc_of rfl rfl) ?_
            refine J.iinc (v := ((k + 1 : Nat) : Int)) dL_off_48 rfl (by first | rfl | omega) (by decide) (jnc_of rfl rfl) ?_
            refine J.goto dL_off_51 (by decide) (tgt := 10) ?_
            rw [show ofU a b (t + 1) k m f l = ofU a b t (k + 1) (m + 1) f ((k : Nat) : Int) from (if_neg (by omega)).trans (by rw [if_neg (by omega)])]
            exact ih (k + 1) (m + 1) f ((k : Nat) : Int) (by omega) (by omega) (Or.inr ⟨by omega, by omega, by omega⟩)
          · refine J.ild dL_off_41 rfl ?_
            refine J.ist_n dL_off_43 (by decide) (jnc_of rfl rfl) ?_
            refine J.ild dL_off_44 rfl ?_
            refine J.ist dL_off_46 (by decide) (jnc_of rfl rfl) ?_
            refine J.iinc (v := ((k + 1 : Nat) : Int)) dL_off_48 rfl (by first | rfl | omega) (by decide) (jnc_of rfl rfl) ?_
            refine J.goto dL_off_51 (by decide) (tgt := 10) ?_
            rw [show ofU a b (t + 1) k m f l = ofU a b t (k + 1) (m + 1) ((k : Nat) : Int) ((k : Nat) : Int) from (if_neg (by omega)).trans (by rw [if_pos (by omega)])]
            exact ih (k + 1) (m + 1) ((k : Nat) : Int) ((k : Nat) : Int) (by omega) (by omega) (Or.inr ⟨by omega, by omega, by omega⟩)
        · refine J.goto dL_off_31 (by decide) (tgt := 48) ?_
          refine J.iinc (v := ((k + 1 : Nat) : Int)) dL_off_48 rfl (by first | rfl | omega) (by decide) (jnc_of rfl rfl) ?_
          refine J.goto dL_off_51 (by decide) (tgt := 10) ?_
          rw [show ofU a b (t + 1) k m f l = ofU a b t (k + 1) m f l from if_pos (by omega)]
          exact ih (k + 1) m f l (by omega) (by omega) (by omega)
  exact L 5 0 0 (-1) (-1) (by omega) (by omega) (Or.inl ⟨rfl, rfl, rfl⟩)
