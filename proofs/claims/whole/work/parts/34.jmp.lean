set_option maxRecDepth 20000 in
theorem c_X7_write {X : jX} {σ : jS} {th pr kn mn rd pa ps w : Int} {n : Nat} {ml : Nat → Int} (hO : MO σ th pr ((n : Nat) : Int) kn mn rd pa ps) (h38 : σ.2 38 = jI 40 ml) (hn : n ≤ 40) : JM X mX7_write rX7_write [.ref 37, vI w] σ (fun o σ1 => o = oV ∧ MO σ1 th pr ((apN n : Nat) : Int) kn mn rd pa ps ∧ σ1.2 38 = jI 40 (apF n ml w) ∧ σ1.1 = σ.1 ∧ ∀ j, j ≠ 37 → j ≠ 38 → σ1.2 j = σ.2 j) := by
  refine JM.of (lc := [.ref 37, vI w]) rfl ?_
  refine J.ald_n dX7_write_0 rfl ?_
  refine gf_X7_63 rfl dX7_write_1 hO ?_
  refine J.bipush dX7_write_4 (by decide) ?_
  refine J.icmp_ne dX7_write_6 (by decide) (tgt := 10) (by unfold inI; omega) (by unfold inI; omega) (fun h => ?_) (fun h => ?_)
  · refine J.ald_n dX7_write_10 rfl ?_
    refine gf_X7_13 rfl dX7_write_11 hO ?_
    refine J.ald_n dX7_write_14 rfl ?_
    refine gf_X7_63 rfl dX7_write_15 hO ?_
    refine J.ild_n dX7_write_18 rfl ?_
    refine J.iast n dX7_write_19 h38 (by omega) rfl (by omega) (by omega) ?_
    refine J.ald_n dX7_write_20 rfl ?_
    refine J.dup dX7_write_21 rfl ?_
    refine gf_X7_63 rfl dX7_write_22 ((jset_ne _ _ (by omega)).trans hO) ?_
    refine J.iconst dX7_write_25 ?_
    refine J.iadd dX7_write_26 ?_
    rw [show (((n : Nat) : Int) : Int) + 1 = ((n + 1 : Nat) : Int) from by push_cast; rfl]
    refine pf_X7_63 rfl dX7_write_27 ((jset_ne _ _ (by omega)).trans hO) ?_
    refine J.vret dX7_write_30 rfl (by decide) (by decide) ?_
    rw [show apN n = n + 1 from if_pos (by omega), show apF n ml w = jup ml n w from if_pos (by omega)]
    exact ⟨rfl, (jset_eq _ _ _), ((jset_ne _ _ (by omega)).trans (jset_eq _ _ _)), rfl, fun j q1 q2 => by rw [jset_ne _ _ q1, jset_ne _ _ q2]⟩
  · refine J.vret dX7_write_9 rfl (by decide) (by decide) ?_
    rw [show apN n = n from if_neg (by omega), show apF n ml w = ml from if_neg (by omega)]
    exact ⟨rfl, hO, h38, rfl, fun _ _ _ => rfl⟩
def luT (lu : Nat → Int) (c : Nat) : Nat → Nat → Int
  | 0, _ => 0
  | t + 1, p => lu (ltr c p) + (if p = 0 then 0 else 3) + luT lu c t (p + 1)
def duT (du : Nat → Int) : Nat → Nat → Nat → Int
  | 0, _, _ => 0
  | t + 1, p, w => du (w % 10) + (if p = 0 then 0 else 3) + duT du t (p + 1) (w / 10)
theorem luT_eq {lu : Nat → Int} {c : Nat} : luT lu c 5 0 = 12 + usL lu 26 5 c := by
  show lu (ltr c 0) + 0 + (lu (ltr c 1) + 3 + (lu (ltr c 2) + 3 + (lu (ltr c 3) + 3 + (lu (ltr c 4) + 3 + 0)))) = 12 + (lu (c % 26) + (lu (c / 26 % 26) + (lu (c / 26 / 26 % 26) + (lu (c / 26 / 26 / 26 % 26) + (lu (c / 26 / 26 / 26 / 26 % 26) + 0)))))
  rw [ltr_0, ltr_1, ltr_2, ltr_3, ltr_4, show c / 26 / 26 / 26 / 26 = c / 456976 by omega, show c / 26 / 26 / 26 = c / 17576 by omega, show c / 26 / 26 = c / 676 by omega]
  omega
theorem duT_eq {du : Nat → Int} {w : Nat} : duT du 4 0 w = 9 + usL du 10 4 w := by
  show du (w % 10) + 0 + (du (w / 10 % 10) + 3 + (du (w / 10 / 10 % 10) + 3 + (du (w / 10 / 10 / 10 % 10) + 3 + 0))) = 9 + (du (w % 10) + (du (w / 10 % 10) + (du (w / 10 / 10 % 10) + (du (w / 10 / 10 / 10 % 10) + 0))))
  omega
set_option maxRecDepth 20000 in
theorem c_X7_unitsOf {X : jX} {σ : jS} {lu du : Nat → Int} {x : Int} (hx : -10000 ≤ x ∧ x ≤ 11881375) (eL : σ.2 2 = jI 26 lu) (eD : σ.2 3 = jI 10 du) : JM X mX7_unitsOf rX7_unitsOf [vI x] σ (jEnd (oI (tmG lu du x)) σ) := by
  refine JM.of (lc := [vI x, .null, .null, .null]) rfl ?_
  by_cases hx0 : x < 0
  · obtain ⟨w, hw⟩ : ∃ w : Nat, -1 - x = ((w : Nat) : Int) := ⟨(-1 - x).toNat, by omega⟩
    rw [show tmG lu du x = 9 + usL du 10 4 w from by unfold tmG; rw [if_pos hx0, hw, Int.toNat_natCast], ← duT_eq]
    refine J.iconst dX7_unitsOf_0 ?_
    refine J.ist_n dX7_unitsOf_1 (by decide) (jnc_of rfl rfl) ?_
    refine J.iconst dX7_unitsOf_2 ?_
    refine J.ild_n dX7_unitsOf_3 rfl ?_
    refine J.isub dX7_unitsOf_4 ?_
    rw [show (-1) - x = ((w : Nat) : Int) from hw]
    refine J.ist_n dX7_unitsOf_5 (by decide) (jnc_of rfl rfl) ?_
    refine J.iconst dX7_unitsOf_6 ?_
    refine J.ist_n dX7_unitsOf_7 (by decide) (jnc_of rfl rfl) ?_
    refine J.ild_n dX7_unitsOf_8 rfl ?_
    refine J.iconst dX7_unitsOf_9 ?_
    refine J.icmp_ge dX7_unitsOf_10 (by decide) (tgt := 45) (by unfold inI; omega) (by unfold inI; omega) (fun h1 => ?_) (fun h1 => ?_)
    · omega
    · refine J.ild_n dX7_unitsOf_13 rfl ?_
      refine J.if_lt dX7_unitsOf_14 (by decide) (tgt := 45) (by unfold inI; omega) (fun h2 => ?_) (fun h2 => ?_)
      · refine J.iconst dX7_unitsOf_45 ?_
        refine J.ist_n dX7_unitsOf_46 (by decide) (jnc_of rfl rfl) ?_
        have L : ∀ (t : Nat), ∀ (p w : Nat) (u : Int), p + t = 4 → w ≤ 11881375 → J X mX7_unitsOf rX7_unitsOf 47 [vI x, vI u, vI ((w : Nat) : Int), vI ((p : Nat) : Int)] [] 0 0 σ (jEnd (oI (u + duT du t p w)) σ) := by
          intro t
          induction t with
          | zero =>
            intro p w u hp hw9
            refine J.ild_n dX7_unitsOf_47 rfl ?_
            refine J.iconst dX7_unitsOf_48 ?_
            refine J.icmp_ge dX7_unitsOf_49 (by decide) (tgt := 88) (by unfold inI; omega) (by unfold inI; omega) (fun h3 => ?_) (fun h3 => ?_)
            · refine J.ild_n dX7_unitsOf_88 rfl ?_
              refine J.iret .int dX7_unitsOf_89 rfl rfl (by decide) (by decide) ?_
              exact ⟨by rw [show duT du 0 p w = 0 from rfl, Int.add_zero], rfl⟩
            · omega
          | succ t ih =>
            intro p w u hp hw9
            refine J.ild_n dX7_unitsOf_47 rfl ?_
            refine J.iconst dX7_unitsOf_48 ?_
            refine J.icmp_ge dX7_unitsOf_49 (by decide) (tgt := 88) (by unfold inI; omega) (by unfold inI; omega) (fun h3 => ?_) (fun h3 => ?_)
            · omega
            · refine J.ild_n dX7_unitsOf_52 rfl ?_
              refine J.if_ge dX7_unitsOf_53 (by decide) (tgt := 88) (by unfold inI; omega) (fun h4 => ?_) (fun h4 => ?_)
              · omega
              · have hm := Nat.mod_lt w (show 10 > 0 by omega)
                refine J.ild_n dX7_unitsOf_56 rfl ?_
                refine J.getsMD dX7_unitsOf_57 gs_X7_143 ?_
                refine J.ild_n dX7_unitsOf_60 rfl ?_
                refine J.bipush dX7_unitsOf_61 (by decide) ?_
                refine J.irem dX7_unitsOf_63 (by unfold inI; omega) (by unfold inI; omega) (by omega) ?_
                rw [show Int.tmod ((w : Nat) : Int) 10 = ((w % 10 : Nat) : Int) from by first | rfl | (exact (Int.ofNat_tmod _ _).symm)]
                refine J.iald (w % 10) dX7_unitsOf_64 eD rfl (by omega) (by omega) ?_
                refine J.ild_n dX7_unitsOf_65 rfl ?_
                refine J.if_le dX7_unitsOf_66 (by decide) (tgt := 73) (by unfold inI; omega) (fun h5 => ?_) (fun h5 => ?_)
                · refine J.iconst dX7_unitsOf_73 ?_
                  refine J.iadd dX7_unitsOf_74 ?_
                  refine J.iadd dX7_unitsOf_75 ?_
                  refine J.ist_n dX7_unitsOf_76 (by decide) (jnc_of rfl rfl) ?_
                  refine J.ild_n dX7_unitsOf_77 rfl ?_
                  refine J.bipush dX7_unitsOf_78 (by decide) ?_
                  refine J.idiv dX7_unitsOf_80 (by unfold inI; omega) (by unfold inI; omega) (by omega) ?_
                  rw [show Int.tdiv ((w : Nat) : Int) 10 = ((w / 10 : Nat) : Int) from by first | rfl | (exact (Int.ofNat_tdiv _ _).symm)]
                  refine J.ist_n dX7_unitsOf_81 (by decide) (jnc_of rfl rfl) ?_
                  refine J.iinc (v := ((p + 1 : Nat) : Int)) dX7_unitsOf_82 rfl (by first | rfl | omega) (by decide) (jnc_of rfl rfl) ?_
                  refine J.goto dX7_unitsOf_85 (by decide) (tgt := 47) ?_
                  rw [show u + duT du (t + 1) p w = (u + (du (w % 10) + 0)) + duT du t (p + 1) (w / 10) from by rw [show duT du (t + 1) p w = du (w % 10) + (if p = 0 then 0 else 3) + duT du t (p + 1) (w / 10) from rfl, if_pos (show p = 0 by omega)]; omega]
                  exact ih (p + 1) (w / 10) _ (by omega) (by omega)
                · refine J.iconst dX7_unitsOf_69 ?_
                  refine J.goto dX7_unitsOf_70 (by decide) (tgt := 74) ?_
                  refine J.iadd dX7_unitsOf_74 ?_
                  refine J.iadd dX7_unitsOf_75 ?_
                  refine J.ist_n dX7_unitsOf_76 (by decide) (jnc_of rfl rfl) ?_
                  refine J.ild_n dX7_unitsOf_77 rfl ?_
                  refine J.bipush dX7_unitsOf_78 (by decide) ?_
                  refine J.idiv dX7_unitsOf_80 (by unfold inI; omega) (by unfold inI; omega) (by omega) ?_
                  rw [show Int.tdiv ((w : Nat) : Int) 10 = ((w / 10 : Nat) : Int) from by first | rfl | (exact (Int.ofNat_tdiv _ _).symm)]
                  refine J.ist_n dX7_unitsOf_81 (by decide) (jnc_of rfl rfl) ?_
                  refine J.iinc (v := ((p + 1 : Nat) : Int)) dX7_unitsOf_82 rfl (by first | rfl | omega) (by decide) (jnc_of rfl rfl) ?_
                  refine J.goto dX7_unitsOf_85 (by decide) (tgt := 47) ?_
                  rw [show u + duT du (t + 1) p w = (u + (du (w % 10) + 3)) + duT du t (p + 1) (w / 10) from by rw [show duT du (t + 1) p w = du (w % 10) + (if p = 0 then 0 else 3) + duT du t (p + 1) (w / 10) from rfl, if_neg (show ¬ p = 0 by omega)]; omega]
                  exact ih (p + 1) (w / 10) _ (by omega) (by omega)
        have := L 4 0 w 0 (by omega) (by omega)
        rw [Int.zero_add] at this
        exact this
      · omega
  · obtain ⟨c, rfl⟩ : ∃ c : Nat, x = ((c : Nat) : Int) := ⟨x.toNat, by omega⟩
    have hc : c ≤ 11881375 := by omega
    rw [show tmG lu du ((c : Nat) : Int) = 12 + usL lu 26 5 c from by unfold tmG; rw [if_neg hx0, Int.toNat_natCast], ← luT_eq]
    refine J.iconst dX7_unitsOf_0 ?_
    refine J.ist_n dX7_unitsOf_1 (by decide) (jnc_of rfl rfl) ?_
    refine J.iconst dX7_unitsOf_2 ?_
    refine J.ild_n dX7_unitsOf_3 rfl ?_
    refine J.isub dX7_unitsOf_4 ?_
    refine J.ist_n dX7_unitsOf_5 (by decide) (jnc_of rfl rfl) ?_
    refine J.iconst dX7_unitsOf_6 ?_
    refine J.ist_n dX7_unitsOf_7 (by decide) (jnc_of rfl rfl) ?_
    have L : ∀ (t : Nat), ∀ (p : Nat) (u : Int), p + t = 5 → J X mX7_unitsOf rX7_unitsOf 8 [vI ((c : Nat) : Int), vI u, vI (-1 - ((c : Nat) : Int)), vI ((p : Nat) : Int)] [] 0 0 σ (jEnd (oI (u + luT lu c t p)) σ) := by
      intro t
      induction t with
      | zero =>
        intro p u hp
        refine J.ild_n dX7_unitsOf_8 rfl ?_
        refine J.iconst dX7_unitsOf_9 ?_
        refine J.icmp_ge dX7_unitsOf_10 (by decide) (tgt := 45) (by unfold inI; omega) (by unfold inI; omega) (fun h3 => ?_) (fun h3 => ?_)
        · refine J.iconst dX7_unitsOf_45 ?_
          refine J.ist_n dX7_unitsOf_46 (by decide) (jnc_of rfl rfl) ?_
          refine J.ild_n dX7_unitsOf_47 rfl ?_
          refine J.iconst dX7_unitsOf_48 ?_
          refine J.icmp_ge dX7_unitsOf_49 (by decide) (tgt := 88) (by unfold inI; omega) (by unfold inI; omega) (fun h6 => ?_) (fun h6 => ?_)
          · omega
          · refine J.ild_n dX7_unitsOf_52 rfl ?_
            refine J.if_ge dX7_unitsOf_53 (by decide) (tgt := 88) (by unfold inI; omega) (fun h7 => ?_) (fun h7 => ?_)
            · refine J.ild_n dX7_unitsOf_88 rfl ?_
              refine J.iret .int dX7_unitsOf_89 rfl rfl (by decide) (by decide) ?_
              exact ⟨by rw [show luT lu c 0 p = 0 from rfl, Int.add_zero], rfl⟩
            · omega
        · omega
      | succ t ih =>
        intro p u hp
        refine J.ild_n dX7_unitsOf_8 rfl ?_
        refine J.iconst dX7_unitsOf_9 ?_
        refine J.icmp_ge dX7_unitsOf_10 (by decide) (tgt := 45) (by unfold inI; omega) (by unfold inI; omega) (fun h3 => ?_) (fun h3 => ?_)
        · omega
        · refine J.ild_n dX7_unitsOf_13 rfl ?_
          refine J.if_lt dX7_unitsOf_14 (by decide) (tgt := 45) (by unfold inI; omega) (fun h4 => ?_) (fun h4 => ?_)
          · omega
          · have hl := ltr_lt c p
            refine J.ild_n dX7_unitsOf_17 rfl ?_
            refine J.getsML dX7_unitsOf_18 gs_X7_140 ?_
            refine J.ild_n dX7_unitsOf_21 rfl ?_
            refine J.ild_n dX7_unitsOf_22 rfl ?_
            refine J.callS (rm' := rX7_letterOf) [vI ((c : Nat) : Int), vI ((p : Nat) : Int)] dX7_unitsOf_23 (c_X7_letterOf hc (by omega)) st_X7_letterOf ml_X7_81 sm_X7_letterOf rfl (Nat.le_of_ble_eq_true rfl) (by decide) (by decide) (Nat.le_of_ble_eq_true rfl) (by decide) (by decide) (Or.inl rfl) (fun E9 σ9 hq9 _ => nomatch hq9.1) (fun r9 σ9 hq9 hle9 => ?_)
            obtain ⟨h9, h8⟩ := hq9
            rw [h8]
            clear hle9 h8 σ9
            cases h9
            refine J.iald (ltr c p) dX7_unitsOf_26 eL rfl (by omega) (by omega) ?_
            refine J.ild_n dX7_unitsOf_27 rfl ?_
            refine J.if_le dX7_unitsOf_28 (by decide) (tgt := 35) (by unfold inI; omega) (fun h5 => ?_) (fun h5 => ?_)
            · refine J.iconst dX7_unitsOf_35 ?_
              refine J.iadd dX7_unitsOf_36 ?_
              refine J.iadd dX7_unitsOf_37 ?_
              refine J.ist_n dX7_unitsOf_38 (by decide) (jnc_of rfl rfl) ?_
              refine J.iinc (v := ((p + 1 : Nat) : Int)) dX7_unitsOf_39 rfl (by first | rfl | omega) (by decide) (jnc_of rfl rfl) ?_
              refine J.goto dX7_unitsOf_42 (by decide) (tgt := 8) ?_
              rw [show u + luT lu c (t + 1) p = (u + (lu (ltr c p) + 0)) + luT lu c t (p + 1) from by rw [show luT lu c (t + 1) p = lu (ltr c p) + (if p = 0 then 0 else 3) + luT lu c t (p + 1) from rfl, if_pos (show p = 0 by omega)]; omega]
              exact ih (p + 1) _ (by omega)
            · refine J.iconst dX7_unitsOf_31 ?_
              refine J.goto dX7_unitsOf_32 (by decide) (tgt := 36) ?_
              refine J.iadd dX7_unitsOf_36 ?_
              refine J.iadd dX7_unitsOf_37 ?_
              refine J.ist_n dX7_unitsOf_38 (by decide) (jnc_of rfl rfl) ?_
              refine J.iinc (v := ((p + 1 : Nat) : Int)) dX7_unitsOf_39 rfl (by first | rfl | omega) (by decide) (jnc_of rfl rfl) ?_
              refine J.goto dX7_unitsOf_42 (by decide) (tgt := 8) ?_
              rw [show u + luT lu c (t + 1) p = (u + (lu (ltr c p) + 3)) + luT lu c t (p + 1) from by rw [show luT lu c (t + 1) p = lu (ltr c p) + (if p = 0 then 0 else 3) + luT lu c t (p + 1) from rfl, if_neg (show ¬ p = 0 by omega)]; omega]
              exact ih (p + 1) _ (by omega)
    have := L 5 0 0 (by omega)
    rw [Int.zero_add] at this
    exact this
set_option maxRecDepth 20000 in
theorem c_X7_isSame {X : jX} {σ : jS} {th pr ln kn mn rd pa ps : Int} {x y z A B : Nat} {Kw kr : Nat → Int} (hO : MO σ th pr ln kn mn rd pa ps) (h40 : σ.2 40 = jI 480 Kw) (hx : ∀ t, t < z → Kw (x + t) = kr (A + t) ∧ 0 ≤ kr (A + t) ∧ kr (A + t) ≤ 9999) (hy : ∀ t, t < z → Kw (y + t) = kr (B + t) ∧ 0 ≤ kr (B + t) ∧ kr (B + t) ≤ 9999) (hx2 : x + z ≤ 480) (hy2 : y + z ≤ 480) : JM X mX7_isSame rX7_isSame [.ref 37, vI ((x : Nat) : Int), vI ((y : Nat) : Int), vI ((z : Nat) : Int)] σ (jEnd (oI (bN (smU kr kr z A B))) σ) := by
  refine JM.of (lc := [.ref 37, vI ((x : Nat) : Int), vI ((y : Nat) : Int), vI ((z : Nat) : Int), .null, .null]) rfl ?_
  refine J.iconst dX7_isSame_0 ?_
  refine J.ist dX7_isSame_1 (by decide) (jnc_of rfl rfl) ?_
  refine J.iconst dX7_isSame_3 ?_
  refine J.ist dX7_isSame_4 (by decide) (jnc_of rfl rfl) ?_
  have L : ∀ (t : Nat), ∀ (w : Nat), w + t = z → J X mX7_isSame rX7_isSame 6 [.ref 37, vI ((x : Nat) : Int), vI ((y : Nat) : Int), vI ((z : Nat) : Int), vI 1, vI ((w : Nat) : Int)] [] 0 0 σ (jEnd (oI (bN (smU kr kr t (A + w) (B + w)))) σ) := by
    intro t
    induction t with
    | zero =>
      intro w hw
      refine J.ild dX7_isSame_6 rfl ?_
      refine J.ild_n dX7_isSame_8 rfl ?_
      refine J.icmp_ge dX7_isSame_9 (by decide) (tgt := 51) (by unfold inI; omega) (by unfold inI; omega) (fun h1 => ?_) (fun h1 => ?_)
      · refine J.ild dX7_isSame_51 rfl ?_
        refine J.iret .boolean dX7_isSame_53 rfl rfl (by decide) (by decide) ?_
        exact ⟨rfl, rfl⟩
      · omega
    | succ t ih =>
      intro w hw
      refine J.ild dX7_isSame_6 rfl ?_
      refine J.ild_n dX7_isSame_8 rfl ?_
      refine J.icmp_ge dX7_isSame_9 (by decide) (tgt := 51) (by unfold inI; omega) (by unfold inI; omega) (fun h1 => ?_) (fun h1 => ?_)
      · omega
      · refine J.ild dX7_isSame_12 rfl ?_
        refine J.if_eq dX7_isSame_14 (by decide) (tgt := 51) (by unfold inI; omega) (fun h2 => ?_) (fun h2 => ?_)
        · exact absurd h2 (by decide)
        · have hxa := hx w (by omega)
          have hyb := hy w (by omega)
          refine J.ald_n dX7_isSame_17 rfl ?_
          refine gf_X7_20 rfl dX7_isSame_18 hO ?_
          refine J.ild_n dX7_isSame_21 rfl ?_
          refine J.ild dX7_isSame_22 rfl ?_
          refine J.iadd dX7_isSame_24 ?_
          rw [show (((x : Nat) : Int) : Int) + ((w : Nat) : Int) = ((x + w : Nat) : Int) from by push_cast; rfl]
          refine J.iald (x + w) dX7_isSame_25 h40 rfl (by omega) (by omega) ?_
          rw [show Kw (x + w) = (kr (A + w)) from hxa.1]
          refine J.ald_n dX7_isSame_26 rfl ?_
          refine gf_X7_20 rfl dX7_isSame_27 hO ?_
          refine J.ild_n dX7_isSame_30 rfl ?_
          refine J.ild dX7_isSame_31 rfl ?_
          refine J.iadd dX7_isSame_33 ?_
          rw [show (((y : Nat) : Int) : Int) + ((w : Nat) : Int) = ((y + w : Nat) : Int) from by push_cast; rfl]
          refine J.iald (y + w) dX7_isSame_34 h40 rfl (by omega) (by omega) ?_
          rw [show Kw (y + w) = (kr (B + w)) from hyb.1]
          refine J.icmp_ne dX7_isSame_35 (by decide) (tgt := 42) (inI_w hxa.2) (inI_w hyb.2) (fun h3 => ?_) (fun h3 => ?_)
          · rw [show smU kr kr (t + 1) (A + w) (B + w) = (decide (kr (A + w) = kr (B + w)) && smU kr kr t (A + (w + 1)) (B + (w + 1))) from rfl, decide_eq_false h3, Bool.false_and]
            refine J.iconst dX7_isSame_42 ?_
            refine J.ist dX7_isSame_43 (by decide) (jnc_of rfl rfl) ?_
            refine J.iinc (v := ((w + 1 : Nat) : Int)) dX7_isSame_45 rfl (by first | rfl | omega) (by decide) (jnc_of rfl rfl) ?_
            refine J.goto dX7_isSame_48 (by decide) (tgt := 6) ?_
            refine J.ild dX7_isSame_6 rfl ?_
            refine J.ild_n dX7_isSame_8 rfl ?_
            refine J.icmp_ge dX7_isSame_9 (by decide) (tgt := 51) (by unfold inI; omega) (by unfold inI; omega) (fun h4 => ?_) (fun h4 => ?_)
            · refine J.ild dX7_isSame_51 rfl ?_
              refine J.iret .boolean dX7_isSame_53 rfl rfl (by decide) (by decide) ?_
              exact ⟨rfl, rfl⟩
            · refine J.ild dX7_isSame_12 rfl ?_
              refine J.if_eq dX7_isSame_14 (by decide) (tgt := 51) (by unfold inI; omega) (fun h5 => ?_) (fun h5 => ?_)
              · refine J.ild dX7_isSame_51 rfl ?_
                refine J.iret .boolean dX7_isSame_53 rfl rfl (by decide) (by decide) ?_
                exact ⟨rfl, rfl⟩
              · exact absurd rfl h5
          · rw [show smU kr kr (t + 1) (A + w) (B + w) = (decide (kr (A + w) = kr (B + w)) && smU kr kr t (A + (w + 1)) (B + (w + 1))) from rfl, decide_eq_true (by omega), Bool.true_and]
            refine J.iconst dX7_isSame_38 ?_
            refine J.goto dX7_isSame_39 (by decide) (tgt := 43) ?_
            refine J.ist dX7_isSame_43 (by decide) (jnc_of rfl rfl) ?_
            refine J.iinc (v := ((w + 1 : Nat) : Int)) dX7_isSame_45 rfl (by first | rfl | omega) (by decide) (jnc_of rfl rfl) ?_
            refine J.goto dX7_isSame_48 (by decide) (tgt := 6) ?_
            exact ih (w + 1) (by omega)
  exact L z 0 (by omega)
def mA (a : Nat) : Nat := 40 * (a / 41) + a % 41
theorem mA_eq {k p : Nat} (hp : p < 41) : mA (k * 41 + p) = 40 * k + p := by
  unfold mA
  omega
/-- the words of a phrase, as the model keeps them -/
theorem kw_at {kn : Nat} {kr : Nat → Int} {ks : Nat → Nat} {kt : Nat → Nat → Int} {Kw : Nat → Int} (hki : KI kn kr ks kt) (hw9 : ∀ k i, k < kn → i < ks k → Kw (40 * k + i) = kr (k * 41 + i)) {z k p : Nat} (hk : k < kn) (hp : p + z ≤ ks k) : (∀ t, t < z → Kw (40 * k + p + t) = kr (k * 41 + p + t) ∧ 0 ≤ kr (k * 41 + p + t) ∧ kr (k * 41 + p + t) ≤ 9999) ∧ 40 * k + p + z ≤ 480 := by
  have h1 := hki.2.1 k hk
  have h2 := hki.1
  refine ⟨fun t ht => ⟨?_, hki.pos ⟨k, p, hk, hp, rfl⟩ ht⟩, by omega⟩
  rw [show 40 * k + p + t = 40 * k + (p + t) by omega, show k * 41 + p + t = k * 41 + (p + t) by omega]
  exact hw9 k (p + t) hk (by omega)
set_option maxRecDepth 20000 in
theorem c_X7_timesOf {X : jX} {σ : jS} {th pr ln mn rd pa ps : Int} {kn : Nat} {kr Kw : Nat → Int} {ks : Nat → Nat} {kt : Nat → Nat → Int} {k0 p0 z : Nat} (hO : MO σ th pr ln ((kn : Nat) : Int) mn rd pa ps) (h39 : σ.2 39 = jI 12 (fun e => ((ks e : Nat) : Int))) (h40 : σ.2 40 = jI 480 Kw) (hw9 : ∀ k i, k < kn → i < ks k → Kw (40 * k + i) = kr (k * 41 + i)) (hki : KI kn kr ks kt) (hz : 1 ≤ z ∧ z ≤ 6) (hk0 : k0 < kn) (hp0 : p0 + z ≤ ks k0) : JM X mX7_timesOf rX7_timesOf [.ref 37, vI ((40 * k0 + p0 : Nat) : Int), vI ((z : Nat) : Int)] σ (jEnd (oI ((tms kr ks z (k0 * 41 + p0) kn : Nat) : Int)) σ) := by
  refine JM.of (lc := [.ref 37, vI ((40 * k0 + p0 : Nat) : Int), vI ((z : Nat) : Int), .null, .null, .null, .null]) rfl ?_
  have hkn := hki.1
  have hA := kw_at hki hw9 hk0 hp0
  refine J.iconst dX7_timesOf_0 ?_
  refine J.ist_n dX7_timesOf_1 (by decide) (jnc_of rfl rfl) ?_
  refine J.iconst dX7_timesOf_2 ?_
  refine J.ist dX7_timesOf_3 (by decide) (jnc_of rfl rfl) ?_
  generalize hT9 : tms kr ks z (k0 * 41 + p0) kn = T9
  have L : ∀ (t : Nat), ∀ (k x : Nat) (u u2 : Value), k + t = kn → u.category = 1 → u2.category = 1 → x + tmU kr ks z (k0 * 41 + p0) t k = T9 → J X mX7_timesOf rX7_timesOf 5 [.ref 37, vI ((40 * k0 + p0 : Nat) : Int), vI ((z : Nat) : Int), vI ((x : Nat) : Int), vI ((k : Nat) : Int), u, u2] [] 0 0 σ (jEnd (oI ((T9 : Nat) : Int)) σ) := by
    intro t
    induction t with
    | zero =>
      intro k x u u2 hk hu hu2 hx
      refine J.ild dX7_timesOf_5 rfl ?_
      refine J.ald_n dX7_timesOf_7 rfl ?_
      refine gf_X7_66 rfl dX7_timesOf_8 hO ?_
      refine J.icmp_ge dX7_timesOf_11 (by decide) (tgt := 84) (by unfold inI; omega) (by unfold inI; omega) (fun h => ?_) (fun h => ?_)
      · refine J.ild_n dX7_timesOf_84 rfl ?_
        refine J.iret .int dX7_timesOf_85 rfl rfl (by decide) (by decide) ?_
        exact ⟨by rw [show x = T9 from hx], rfl⟩
      · omega
    | succ t ih =>
      intro k x u u2 hk hu hu2 hx
      have hkk := hki.2.1 k (by omega)
      refine J.ild dX7_timesOf_5 rfl ?_
      refine J.ald_n dX7_timesOf_7 rfl ?_
      refine gf_X7_66 rfl dX7_timesOf_8 hO ?_
      refine J.icmp_ge dX7_timesOf_11 (by decide) (tgt := 84) (by unfold inI; omega) (by unfold inI; omega) (fun h => ?_) (fun h => ?_)
      · omega
      · refine J.iconst dX7_timesOf_14 ?_
        refine J.ist dX7_timesOf_15 (by decide) (jnc_of rfl rfl) ?_
        have L2 : ∀ (t2 p x : Nat) (u2 : Value), ks k ≤ p + t2 → p ≤ 100 → u2.category = 1 → x + (gU (fun p => smU kr kr z (k0 * 41 + p0) (k * 41 + p)) z (ks k) (ks k) p + tmU kr ks z (k0 * 41 + p0) t (k + 1)) = T9 → J X mX7_timesOf rX7_timesOf 17 [.ref 37, vI ((40 * k0 + p0 : Nat) : Int), vI ((z : Nat) : Int), vI ((x : Nat) : Int), vI ((k : Nat) : Int), vI ((p : Nat) : Int), u2] [] 0 0 σ (jEnd (oI ((T9 : Nat) : Int)) σ) := by
          intro t2
          induction t2 with
          | zero =>
            intro p x u2 hp hp1 hu2 hx
            refine J.ild dX7_timesOf_17 rfl ?_
            refine J.ild_n dX7_timesOf_19 rfl ?_
            refine J.iadd dX7_timesOf_20 ?_
            rw [show (((p : Nat) : Int) : Int) + ((z : Nat) : Int) = ((p + z : Nat) : Int) from by push_cast; rfl]
            refine J.ald_n dX7_timesOf_21 rfl ?_
            refine gf_X7_17 rfl dX7_timesOf_22 hO ?_
            refine J.ild dX7_timesOf_25 rfl ?_
            refine J.iald k dX7_timesOf_27 h39 rfl (by omega) (by omega) ?_
            refine J.icmp_gt dX7_timesOf_28 (by decide) (tgt := 78) (by unfold inI; omega) (by unfold inI; omega) (fun h3 => ?_) (fun h3 => ?_)
            · refine J.iinc (v := ((k + 1 : Nat) : Int)) dX7_timesOf_78 rfl (by first | rfl | omega) (by decide) (jnc_of rfl rfl) ?_
              refine J.goto dX7_timesOf_81 (by decide) (tgt := 5) ?_
              exact ih (k + 1) x _ _ (by omega) (by first | rfl | assumption) (by first | rfl | assumption) (by rw [gU_out (by omega), Nat.zero_add] at hx; exact hx)
            · omega
          | succ t2 ih2 =>
            intro p x u2 hp hp1 hu2 hx
            refine J.ild dX7_timesOf_17 rfl ?_
            refine J.ild_n dX7_timesOf_19 rfl ?_
            refine J.iadd dX7_timesOf_20 ?_
            rw [show (((p : Nat) : Int) : Int) + ((z : Nat) : Int) = ((p + z : Nat) : Int) from by push_cast; rfl]
            refine J.ald_n dX7_timesOf_21 rfl ?_
            refine gf_X7_17 rfl dX7_timesOf_22 hO ?_
            refine J.ild dX7_timesOf_25 rfl ?_
            refine J.iald k dX7_timesOf_27 h39 rfl (by omega) (by omega) ?_
            refine J.icmp_gt dX7_timesOf_28 (by decide) (tgt := 78) (by unfold inI; omega) (by unfold inI; omega) (fun h3 => ?_) (fun h3 => ?_)
            · refine J.iinc (v := ((k + 1 : Nat) : Int)) dX7_timesOf_78 rfl (by first | rfl | omega) (by decide) (jnc_of rfl rfl) ?_
              refine J.goto dX7_timesOf_81 (by decide) (tgt := 5) ?_
              exact ih (k + 1) x _ _ (by omega) (by first | rfl | assumption) (by first | rfl | assumption) (by rw [gU_out (by omega), Nat.zero_add] at hx; exact hx)
            · have hB := kw_at hki hw9 (k := k) (p := p) (z := z) (by omega) (by omega)
              refine J.ald_n dX7_timesOf_31 rfl ?_
              refine J.ild_n dX7_timesOf_32 rfl ?_
              refine J.bipush dX7_timesOf_33 (by decide) ?_
              refine J.ild dX7_timesOf_35 rfl ?_
              refine J.imul dX7_timesOf_37 ?_
              rw [show (40 : Int) * ((k : Nat) : Int) = ((40 * k : Nat) : Int) from by push_cast; rfl]
              refine J.ild dX7_timesOf_38 rfl ?_
              refine J.iadd dX7_timesOf_40 ?_
              rw [show (((40 * k : Nat) : Int) : Int) + ((p : Nat) : Int) = (((40 * k) + p : Nat) : Int) from by push_cast; rfl]
              refine J.ild_n dX7_timesOf_41 rfl ?_
              refine J.callV (rm' := rX7_isSame) [vI ((40 * k0 + p0 : Nat) : Int), vI (((40 * k) + p : Nat) : Int), vI ((z : Nat) : Int)] dX7_timesOf_42 (c_X7_isSame (A := k0 * 41 + p0) (B := k * 41 + p) hO h40 hA.1 hB.1 hA.2 hB.2) hO rfl st_X7_isSame ml_X7_149 im_X7_isSame se_X7_isSame rfl (Nat.le_of_ble_eq_true rfl) (by decide) (by decide) (Nat.le_of_ble_eq_true rfl) (by decide) (by decide) (Or.inl rfl) (fun E9 σ9 hq9 _ => nomatch hq9.1) (fun r9 σ9 hq9 hle9 => ?_)
              obtain ⟨h9, h8⟩ := hq9
              rw [h8]
              clear hle9 h8 σ9
              cases h9
              rw [gU_step (p := p) hz.1 (by omega)] at hx
              by_cases hs : smU kr kr z (k0 * 41 + p0) (k * 41 + p) = true
              · rw [show bN (smU kr kr z (k0 * 41 + p0) (k * 41 + p)) = 1 from if_pos hs]
                rw [if_pos hs] at hx
                refine J.ist dX7_timesOf_45 (by decide) (jnc_of rfl rfl) ?_
                refine J.ild_n dX7_timesOf_47 rfl ?_
                refine J.ild dX7_timesOf_48 rfl ?_
                refine J.if_eq dX7_timesOf_50 (by decide) (tgt := 57) (by unfold inI; omega) (fun h4 => ?_) (fun h4 => ?_)
                · exact absurd h4 (by decide)
                · refine J.iconst dX7_timesOf_53 ?_
                  refine J.goto dX7_timesOf_54 (by decide) (tgt := 58) ?_
                  refine J.iadd dX7_timesOf_58 ?_
                  rw [show (((x : Nat) : Int) : Int) + 1 = ((x + 1 : Nat) : Int) from by push_cast; rfl]
                  refine J.ist_n dX7_timesOf_59 (by decide) (jnc_of rfl rfl) ?_
                  refine J.ild dX7_timesOf_60 rfl ?_
                  refine J.ild dX7_timesOf_62 rfl ?_
                  refine J.if_eq dX7_timesOf_64 (by decide) (tgt := 71) (by unfold inI; omega) (fun h5 => ?_) (fun h5 => ?_)
                  · exact absurd h5 (by decide)
                  · refine J.ild_n dX7_timesOf_67 rfl ?_
                    refine J.goto dX7_timesOf_68 (by decide) (tgt := 72) ?_
                    refine J.iadd dX7_timesOf_72 ?_
                    rw [show (((p : Nat) : Int) : Int) + ((z : Nat) : Int) = ((p + z : Nat) : Int) from by push_cast; rfl]
                    refine J.ist dX7_timesOf_73 (by decide) (jnc_of rfl rfl) ?_
                    refine J.goto dX7_timesOf_75 (by decide) (tgt := 17) ?_
                    exact ih2 (p + z) (x + 1) _ (by omega) (by omega) rfl (by omega)
              · rw [show bN (smU kr kr z (k0 * 41 + p0) (k * 41 + p)) = 0 from if_neg hs]
                rw [if_neg hs] at hx
                refine J.ist dX7_timesOf_45 (by decide) (jnc_of rfl rfl) ?_
                refine J.ild_n dX7_timesOf_47 rfl ?_
                refine J.ild dX7_timesOf_48 rfl ?_
                refine J.if_eq dX7_timesOf_50 (by decide) (tgt := 57) (by unfold inI; omega) (fun h4 => ?_) (fun h4 => ?_)
                · refine J.iconst dX7_timesOf_57 ?_
                  refine J.iadd dX7_timesOf_58 ?_
                  rw [show (((x : Nat) : Int) : Int) + 0 = ((x + 0 : Nat) : Int) from by push_cast; rfl]
                  refine J.ist_n dX7_timesOf_59 (by decide) (jnc_of rfl rfl) ?_
                  refine J.ild dX7_timesOf_60 rfl ?_
                  refine J.ild dX7_timesOf_62 rfl ?_
                  refine J.if_eq dX7_timesOf_64 (by decide) (tgt := 71) (by unfold inI; omega) (fun h5 => ?_) (fun h5 => ?_)
                  · refine J.iconst dX7_timesOf_71 ?_
                    refine J.iadd dX7_timesOf_72 ?_
                    rw [show (((p : Nat) : Int) : Int) + 1 = ((p + 1 : Nat) : Int) from by push_cast; rfl]
                    refine J.ist dX7_timesOf_73 (by decide) (jnc_of rfl rfl) ?_
                    refine J.goto dX7_timesOf_75 (by decide) (tgt := 17) ?_
                    exact ih2 (p + 1) x _ (by omega) (by omega) rfl hx
                  · exact absurd rfl h5
                · exact absurd rfl h4
        exact L2 (ks k) 0 x _ (by omega) (by omega) (by first | rfl | assumption) hx
  exact L kn 0 0 _ _ (by omega) rfl rfl (by rw [Nat.zero_add]; exact hT9)
set_option maxRecDepth 20000 in
theorem c_X7_isInBook {X : jX} {σ : jS} {th pr ln mn rd pa ps : Int} {kn : Nat} {kr Kw : Nat → Int} {ks : Nat → Nat} {kt : Nat → Nat → Int} {b : Nat} {bn Ms sz : Nat → Nat} {Mp ph : Nat → Int} {k0 p0 z : Nat} (hO : MO σ th pr ln ((kn : Nat) : Int) mn rd pa ps) (h40 : σ.2 40 = jI 480 Kw) (hw9 : ∀ k i, k < kn → i < ks k → Kw (40 * k + i) = kr (k * 41 + i)) (hki : KI kn kr ks kt) (hkw : ∀ t, t < 480 → inI (Kw t)) (h41 : σ.2 41 = jI 3 (fun e => ((bn e : Nat) : Int))) (hb : b < 3) (hn : bn b ≤ 40) (h43 : σ.2 43 = jI 120 (fun e => ((Ms e : Nat) : Int))) (hs9 : ∀ e, e < 40 → Ms (40 * b + e) = sz e) (h44 : σ.2 44 = jI 720 Mp) (hp9 : ∀ t, t < 240 → Mp (240 * b + t) = ph t) (hph : ∀ t, 0 ≤ ph t ∧ ph t ≤ 9999) (hsz : ∀ e, e < bn b → 1 ≤ sz e ∧ sz e ≤ 6) (hz : 1 ≤ z ∧ z ≤ 6) (hk0 : k0 < kn) (hp0 : p0 + z ≤ ks k0) : JM X mX7_isInBook rX7_isInBook [.ref 37, vI ((b : Nat) : Int), vI ((40 * k0 + p0 : Nat) : Int), vI ((z : Nat) : Int)] σ (jEnd (oI (bN (hpU sz ph kr (k0 * 41 + p0) z (bn b) 0))) σ) := by
  refine JM.of (lc := [.ref 37, vI ((b : Nat) : Int), vI ((40 * k0 + p0 : Nat) : Int), vI ((z : Nat) : Int), .null, .null]) rfl ?_
  have hkn := hki.1
  have hA := kw_at hki hw9 hk0 hp0
  refine J.iconst dX7_isInBook_0 ?_
  refine J.ist dX7_isInBook_1 (by decide) (jnc_of rfl rfl) ?_
  refine J.bipush dX7_isInBook_3 (by decide) ?_
  refine J.ild_n dX7_isInBook_5 rfl ?_
  refine J.imul dX7_isInBook_6 ?_
  rw [show (40 : Int) * ((b : Nat) : Int) = ((40 * b : Nat) : Int) from by push_cast; rfl]
  refine J.ist dX7_isInBook_7 (by decide) (jnc_of rfl rfl) ?_
  have L : ∀ (t : Nat), ∀ (e : Nat) (is : Bool), e + t = bn b → J X mX7_isInBook rX7_isInBook 9 [.ref 37, vI ((b : Nat) : Int), vI ((40 * k0 + p0 : Nat) : Int), vI ((z : Nat) : Int), vI (bN is), vI ((40 * b + e : Nat) : Int)] [] 0 0 σ (jEnd (oI (bN (is || hpU sz ph kr (k0 * 41 + p0) z t e))) σ) := by
    intro t
    induction t with
    | zero =>
      intro e is he
      refine J.ild dX7_isInBook_9 rfl ?_
      refine J.bipush dX7_isInBook_11 (by decide) ?_
      refine J.ild_n dX7_isInBook_13 rfl ?_
      refine J.imul dX7_isInBook_14 ?_
      rw [show (40 : Int) * ((b : Nat) : Int) = ((40 * b : Nat) : Int) from by push_cast; rfl]
      refine J.ald_n dX7_isInBook_15 rfl ?_
      refine gf_X7_23 rfl dX7_isInBook_16 hO ?_
      refine J.ild_n dX7_isInBook_19 rfl ?_
      refine J.iald b dX7_isInBook_20 h41 rfl (by omega) (by omega) ?_
      refine J.iadd dX7_isInBook_21 ?_
      rw [show (((40 * b : Nat) : Int) : Int) + ((bn b : Nat) : Int) = (((40 * b) + (bn b) : Nat) : Int) from by push_cast; rfl]
      refine J.icmp_ge dX7_isInBook_22 (by decide) (tgt := 71) (by unfold inI; omega) (by unfold inI; omega) (fun h => ?_) (fun h => ?_)
      · refine J.ild dX7_isInBook_71 rfl ?_
        rw [show hpU sz ph kr (k0 * 41 + p0) z 0 e = false from rfl, Bool.or_false]
        cases is with
        | true =>
          rw [show bN true = 1 from rfl]
          refine J.iret .boolean dX7_isInBook_73 rfl rfl (by decide) (by decide) ?_
          exact ⟨rfl, rfl⟩
        | false =>
          rw [show bN false = 0 from rfl]
          refine J.iret .boolean dX7_isInBook_73 rfl rfl (by decide) (by decide) ?_
          exact ⟨rfl, rfl⟩
      · omega
    | succ t ih =>
      intro e is he
      have hse := fun he : e < bn b => hsz e he
      refine J.ild dX7_isInBook_9 rfl ?_
      refine J.bipush dX7_isInBook_11 (by decide) ?_
      refine J.ild_n dX7_isInBook_13 rfl ?_
      refine J.imul dX7_isInBook_14 ?_
      rw [show (40 : Int) * ((b : Nat) : Int) = ((40 * b : Nat) : Int) from by push_cast; rfl]
      refine J.ald_n dX7_isInBook_15 rfl ?_
      refine gf_X7_23 rfl dX7_isInBook_16 hO ?_
      refine J.ild_n dX7_isInBook_19 rfl ?_
      refine J.iald b dX7_isInBook_20 h41 rfl (by omega) (by omega) ?_
      refine J.iadd dX7_isInBook_21 ?_
      rw [show (((40 * b : Nat) : Int) : Int) + ((bn b : Nat) : Int) = (((40 * b) + (bn b) : Nat) : Int) from by push_cast; rfl]
      refine J.icmp_ge dX7_isInBook_22 (by decide) (tgt := 71) (by unfold inI; omega) (by unfold inI; omega) (fun h => ?_) (fun h => ?_)
      · omega
      · rw [show hpU sz ph kr (k0 * 41 + p0) z (t + 1) e = ((decide (sz e = z) && smU ph kr z (e * 6) (k0 * 41 + p0)) || hpU sz ph kr (k0 * 41 + p0) z t (e + 1)) from rfl]
        have hse := hsz e (by omega)
        cases is with
        | true =>
          rw [show bN true = 1 from rfl]
          refine J.ild dX7_isInBook_25 rfl ?_
          refine J.if_ne dX7_isInBook_27 (by decide) (tgt := 58) (by unfold inI; omega) (fun h2 => ?_) (fun h2 => ?_)
          · refine J.iconst dX7_isInBook_58 ?_
            refine J.goto dX7_isInBook_59 (by decide) (tgt := 63) ?_
            refine J.ist dX7_isInBook_63 (by decide) (jnc_of rfl rfl) ?_
            refine J.iinc (v := ((40 * b + e + 1 : Nat) : Int)) dX7_isInBook_65 rfl (by first | rfl | omega) (by decide) (jnc_of rfl rfl) ?_
            refine J.goto dX7_isInBook_68 (by decide) (tgt := 9) ?_
            have := ih (e + 1) true (by omega)
            rw [Bool.true_or] at this ⊢
            exact this
          · exact absurd h2 (by decide)
        | false =>
          rw [show bN false = 0 from rfl]
          refine J.ild dX7_isInBook_25 rfl ?_
          refine J.if_ne dX7_isInBook_27 (by decide) (tgt := 58) (by unfold inI; omega) (fun h2 => ?_) (fun h2 => ?_)
          · exact absurd rfl h2
          · refine J.ald_n dX7_isInBook_30 rfl ?_
            refine gf_X7_29 rfl dX7_isInBook_31 hO ?_
            refine J.ild dX7_isInBook_34 rfl ?_
            refine J.iald (40 * b + e) dX7_isInBook_36 h43 rfl (by omega) (by omega) ?_
            rw [show Ms (40 * b + e) = ((sz e : Nat) : Int) from by rw [hs9 e (by omega)]]
            refine J.ild_n dX7_isInBook_37 rfl ?_
            refine J.icmp_ne dX7_isInBook_38 (by decide) (tgt := 62) (by unfold inI; omega) (by unfold inI; omega) (fun h3 => ?_) (fun h3 => ?_)
            · refine J.iconst dX7_isInBook_62 ?_
              refine J.ist dX7_isInBook_63 (by decide) (jnc_of rfl rfl) ?_
              refine J.iinc (v := ((40 * b + e + 1 : Nat) : Int)) dX7_isInBook_65 rfl (by first | rfl | omega) (by decide) (jnc_of rfl rfl) ?_
              refine J.goto dX7_isInBook_68 (by decide) (tgt := 9) ?_
              rw [decide_eq_false (show ¬ sz e = z by omega), Bool.false_and, Bool.false_or]
              exact ih (e + 1) false (by omega)
            · refine J.ald_n dX7_isInBook_41 rfl ?_
              refine J.ild dX7_isInBook_42 rfl ?_
              refine J.ald_n dX7_isInBook_44 rfl ?_
              refine gf_X7_20 rfl dX7_isInBook_45 hO ?_
              refine J.ild_n dX7_isInBook_48 rfl ?_
              refine J.ild_n dX7_isInBook_49 rfl ?_
              refine J.ild_n dX7_isInBook_50 rfl ?_
              refine J.iadd dX7_isInBook_51 ?_
              rw [show (((40 * k0 + p0 : Nat) : Int) : Int) + ((z : Nat) : Int) = (((40 * k0 + p0) + z : Nat) : Int) from by push_cast; rfl]
              refine J.callV (rm' := rX7_stands) [vI ((40 * b + e : Nat) : Int), .ref 40, vI ((40 * k0 + p0 : Nat) : Int), vI (((40 * k0 + p0) + z : Nat) : Int)] dX7_isInBook_52 (c_X7_stands (s := 40 * k0 + p0) (a := 0) (m := z) hO hb (by omega) hse h43 hs9 h44 hp9 hph h40 (by omega) hA.2 hkw (by omega)) hO rfl st_X7_stands ml_X7_111 im_X7_stands se_X7_stands rfl (Nat.le_of_ble_eq_true rfl) (by decide) (by decide) (Nat.le_of_ble_eq_true rfl) (by decide) (by decide) (Or.inl rfl) (fun E9 σ9 hq9 _ => nomatch hq9.1) (fun r9 σ9 hq9 hle9 => ?_)
              obtain ⟨h9, h8⟩ := hq9
              rw [h8]
              clear hle9 h8 σ9
              cases h9
              have hmt : mtB sz ph Kw (40 * k0 + p0) z 0 e = smU ph kr z (e * 6) (k0 * 41 + p0) := by
                rw [mtB_congr (g' := kr) (s' := k0 * 41 + p0) (fun t ht => (hA.1 t ht).1)]
                unfold mtB
                rw [show sz e = z by omega, decide_eq_true (by omega), Bool.true_and, Nat.add_zero]
              rw [hmt, decide_eq_true (show sz e = z by omega), Bool.true_and]
              cases smU ph kr z (e * 6) (k0 * 41 + p0) with
              | true =>
                rw [show bN true = 1 from rfl]
                refine J.if_eq dX7_isInBook_55 (by decide) (tgt := 62) (by unfold inI; omega) (fun h4 => ?_) (fun h4 => ?_)
                · exact absurd h4 (by decide)
                · refine J.iconst dX7_isInBook_58 ?_
                  refine J.goto dX7_isInBook_59 (by decide) (tgt := 63) ?_
                  refine J.ist dX7_isInBook_63 (by decide) (jnc_of rfl rfl) ?_
                  refine J.iinc (v := ((40 * b + e + 1 : Nat) : Int)) dX7_isInBook_65 rfl (by first | rfl | omega) (by decide) (jnc_of rfl rfl) ?_
                  refine J.goto dX7_isInBook_68 (by decide) (tgt := 9) ?_
                  have := ih (e + 1) true (by omega)
                  rw [Bool.true_or] at this ⊢
                  exact this
              | false =>
                rw [show bN false = 0 from rfl]
                refine J.if_eq dX7_isInBook_55 (by decide) (tgt := 62) (by unfold inI; omega) (fun h4 => ?_) (fun h4 => ?_)
                · refine J.iconst dX7_isInBook_62 ?_
                  refine J.ist dX7_isInBook_63 (by decide) (jnc_of rfl rfl) ?_
                  refine J.iinc (v := ((40 * b + e + 1 : Nat) : Int)) dX7_isInBook_65 rfl (by first | rfl | omega) (by decide) (jnc_of rfl rfl) ?_
                  refine J.goto dX7_isInBook_68 (by decide) (tgt := 9) ?_
                  exact ih (e + 1) false (by omega)
                · exact absurd rfl h4
  have := L (bn b) 0 false (by omega)
  rw [Bool.false_or] at this
  exact this
