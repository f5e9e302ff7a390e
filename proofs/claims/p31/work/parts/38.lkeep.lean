/-! ===== the law's keep: lines are said and kept ===== -/
/-- what stands outside the class: script, units, how many cells -/
def LF (s : Nat → Int) (N : Nat) (lu du : Nat → Int) (σ : jS) : Prop := σ.2 4 = jI N s ∧ (σ.2 0 = jI 26 lu ∧ σ.2 1 = jI 10 du) ∧ σ.1 = 38
theorem LF.kept {s : Nat → Int} {N : Nat} {lu du : Nat → Int} {σ σ1 : jS} (h : LF s N lu du σ) (hr : FrC σ σ1) : LF s N lu du σ1 :=
  ⟨(hr.2 _ (by omega)).trans h.1, ⟨(hr.2 _ (by omega)).trans h.2.1.1, (hr.2 _ (by omega)).trans h.2.1.2⟩, hr.1.trans h.2.2⟩
theorem LF.set {s : Nat → Int} {N : Nat} {lu du : Nat → Int} {σ : jS} {e : jE} (h : LF s N lu du σ) : LF s N lu du (jset σ 37 e) :=
  ⟨(jset_ne _ _ (by omega)).trans h.1, ⟨(jset_ne _ _ (by omega)).trans h.2.1.1, (jset_ne _ _ (by omega)).trans h.2.1.2⟩, h.2.2⟩
theorem CW.set {σ : jS} {pr : Int} {ln : Nat} {lw : Nat → Int} {bn : Nat → Nat} {cd sz : Nat → Nat → Nat} {ph : Nat → Nat → Int} {mn : Nat} {mg : Nat → Int} {kn : Nat} {kr : Nat → Int} {ks : Nat → Nat} {kt : Nat → Nat → Int} {rd : Nat} {rg : Nat → Int} {e : jE} (h : CW σ pr ln lw bn cd sz ph mn mg kn kr ks kt rd rg) : CW (jset σ 37 e) pr ln lw bn cd sz ph mn mg kn kr ks kt rd rg := h.keep (fun j hj => jset_ne _ _ (by omega))
set_option maxHeartbeats 2000000 in
set_option maxRecDepth 20000 in
theorem l_keep {X : jX} {σ : jS} {pr : Int} {lw0 : Nat → Int} {bn : Nat → Nat} {cd sz : Nat → Nat → Nat} {ph : Nat → Nat → Int} {mn : Nat} {mg : Nat → Int} {kr0 : Nat → Int} {ks0 : Nat → Nat} {kt0 : Nat → Nat → Int} {rd : Nat} {rg : Nat → Int} {s : Nat → Int} {N W : Nat} {lu du tf0 : Nat → Int} (hW : CW σ pr 0 lw0 bn cd sz ph mn mg 0 kr0 ks0 kt0 rd rg) (hI : CI pr 0 lw0 bn cd sz ph mn mg 0 kr0 ks0 kt0 rd rg) (hF : LF s N lu du σ) (ht : σ.2 37 = jI 492 tf0) (hN : N ≤ 260) (hs : ∀ j, inI (s j)) (hWb : 1 ≤ W ∧ W ≤ 5) : JM X mL_keep rL_keep [.ref 5, .ref 4, vI 0, vI ((W : Nat) : Int), .ref 37] σ (fun o σ1 => ∃ (many : Nat) (lw : Nat → Int) (kr : Nat → Int) (ks : Nat → Nat) (kt : Nat → Nat → Int) (tf : Nat → Int), o = oI ((many : Nat) : Int) ∧ (1 ≤ many ∧ many ≤ 6) ∧ CW σ1 pr 0 lw bn cd sz ph mn mg many kr ks kt rd rg ∧ CI pr 0 lw bn cd sz ph mn mg many kr ks kt rd rg ∧ (∀ j, j < many → ks j ≤ 14) ∧ σ1.2 37 = jI 492 tf ∧ (∀ j i, j < many → i < ks j → tf (41 * j + 1 + i) = kr (j * 41 + i)) ∧ LF s N lu du σ1) := by
  refine JM.of (lc := [.ref 5, .ref 4, vI 0, vI ((W : Nat) : Int), .ref 37, .null, .null, .null, .null]) rfl ?_
  refine J.iconst dL_keep_0 ?_
  refine J.ald_n dL_keep_1 rfl ?_
  refine J.ild_n dL_keep_2 rfl ?_
  refine J.callS (rm' := rL_cell) [.ref 4, vI 0] dL_keep_3 (l_cell (k := 0) hF.1 (by omega) (by omega) hs) st_L_cell ml_L_15 sm_L_cell rfl (Nat.le_of_ble_eq_true rfl) (by decide) (by decide) (Nat.le_of_ble_eq_true rfl) (show 0 + 0 ≤ 200 by omega) (show 0 + 0 ≤ 1200 by omega) (Or.inr (fun E9 σ9 hq9 => nomatch hq9.1.choose_spec.2)) (fun E9 σ9 hq9 _ => nomatch hq9.1.choose_spec.2) (fun r9 σ9 hq9 hle9 => ?_)
  obtain ⟨⟨x1, hx1, h9⟩, h8⟩ := hq9
  rw [h8]
  clear hle9 h8 σ9
  cases h9
  refine J.bipush dL_keep_6 (by decide) ?_
  refine J.callS (rm' := rL_below) [vI x1, vI 6] dL_keep_8 (l_below (x := x1) (n := 6) (by omega)) st_L_below ml_L_19 sm_L_below rfl (Nat.le_of_ble_eq_true rfl) (by decide) (by decide) (Nat.le_of_ble_eq_true rfl) (show 0 + 0 + 0 ≤ 200 by omega) (show 0 + 0 + 0 ≤ 1200 by omega) (Or.inr (fun E9 σ9 hq9 => nomatch hq9.1.choose_spec.2)) (fun E9 σ9 hq9 _ => nomatch hq9.1.choose_spec.2) (fun r9 σ9 hq9 hle9 => ?_)
  obtain ⟨⟨c1, hc1, h9⟩, h8⟩ := hq9
  rw [h8]
  clear hle9 h8 σ9
  cases h9
  refine J.iadd dL_keep_11 ?_
  rw [show (1 : Int) + ((c1 : Nat) : Int) = ((1 + c1 : Nat) : Int) from by push_cast; rfl]
  generalize hm : 1 + c1 = many
  have hmb : 1 ≤ many ∧ many ≤ 6 := by omega
  refine J.ist dL_keep_12 (by decide) (jnc_of rfl rfl) ?_
  refine J.iconst dL_keep_14 ?_
  refine J.ist dL_keep_15 (by decide) (jnc_of rfl rfl) ?_
  have L : ∀ (t : Nat), ∀ (k K M9 : Nat) (σ : jS) (lw kr : Nat → Int) (ks : Nat → Nat) (kt : Nat → Nat → Int) (tf : Nat → Int), k + t = many → K + 15 * t ≤ 150 → M9 + 90 * t ≤ 1000 → CW σ pr 0 lw bn cd sz ph mn mg k kr ks kt rd rg → CI pr 0 lw bn cd sz ph mn mg k kr ks kt rd rg → (∀ j, j < k → ks j ≤ 14) → σ.2 37 = jI 492 tf → (∀ j i, j < k → i < ks j → tf (41 * j + 1 + i) = kr (j * 41 + i)) → LF s N lu du σ → J X mL_keep rL_keep 17 [.ref 5, .ref 4, vI 0, vI ((W : Nat) : Int), .ref 37, vI ((many : Nat) : Int), vI ((k : Nat) : Int), .null, .null] [] K M9 σ (fun o σ1 => ∃ (many : Nat) (lw : Nat → Int) (kr : Nat → Int) (ks : Nat → Nat) (kt : Nat → Nat → Int) (tf : Nat → Int), o = oI ((many : Nat) : Int) ∧ (1 ≤ many ∧ many ≤ 6) ∧ CW σ1 pr 0 lw bn cd sz ph mn mg many kr ks kt rd rg ∧ CI pr 0 lw bn cd sz ph mn mg many kr ks kt rd rg ∧ (∀ j, j < many → ks j ≤ 14) ∧ σ1.2 37 = jI 492 tf ∧ (∀ j i, j < many → i < ks j → tf (41 * j + 1 + i) = kr (j * 41 + i)) ∧ LF s N lu du σ1) := by
    intro t
    induction t with
    | zero =>
      intro k K M9 σ lw kr ks kt tf hk hK hM hW hI hks ht hkt hF
      refine J.ild dL_keep_17 rfl ?_
      refine J.ild dL_keep_19 rfl ?_
      refine J.icmp_ge dL_keep_21 (by decide) (tgt := 147) (by unfold inI; omega) (by unfold inI; omega) (fun h => ?_) (fun h => ?_)
      · refine J.ild dL_keep_147 rfl ?_
        obtain rfl : k = many := by omega
        refine J.iret .int dL_keep_149 rfl rfl (show K ≤ 200 by omega) (show M9 ≤ 1200 by omega) ?_
        exact ⟨k, lw, kr, ks, kt, tf, rfl, hmb, hW, hI, hks, ht, hkt, hF⟩
      · omega
    | succ t ih =>
      intro k K M9 σ lw kr ks kt tf hk hK hM hW hI hks ht hkt hF
      refine J.ild dL_keep_17 rfl ?_
      refine J.ild dL_keep_19 rfl ?_
      refine J.icmp_ge dL_keep_21 (by decide) (tgt := 147) (by unfold inI; omega) (by unfold inI; omega) (fun h => ?_) (fun h => ?_)
      · omega
      · refine J.iconst dL_keep_24 ?_
        refine J.ald_n dL_keep_25 rfl ?_
        refine J.ild_n dL_keep_26 rfl ?_
        refine J.iconst dL_keep_27 ?_
        refine J.iadd dL_keep_28 ?_
        rw [show (0 : Int) + 1 = 1 from rfl]
        refine J.callS (rm' := rL_cell) [.ref 4, vI 1] dL_keep_29 (l_cell (k := 1) hF.1 (by omega) (by omega) hs) st_L_cell ml_L_15 sm_L_cell rfl (Nat.le_of_ble_eq_true rfl) (by decide) (by decide) (Nat.le_of_ble_eq_true rfl) (show K + 0 ≤ 200 by omega) (show M9 + 0 ≤ 1200 by omega) (Or.inr (fun E9 σ9 hq9 => nomatch hq9.1.choose_spec.2)) (fun E9 σ9 hq9 _ => nomatch hq9.1.choose_spec.2) (fun r9 σ9 hq9 hle9 => ?_)
        obtain ⟨⟨x2, hx2, h9⟩, h8⟩ := hq9
        rw [h8]
        clear hle9 h8 σ9
        cases h9
        refine J.iconst dL_keep_32 ?_
        refine J.ild dL_keep_33 rfl ?_
        refine J.imul dL_keep_35 ?_
        rw [show (4 : Int) * ((k : Nat) : Int) = ((4 * k : Nat) : Int) from by push_cast; rfl]
        refine J.shr dL_keep_36 (fun v3 hv3 => ?_)
        refine J.bipush dL_keep_37 (by decide) ?_
        refine J.callS (rm' := rL_below) [vI v3, vI 14] dL_keep_39 (l_below (x := v3) (n := 14) (by omega)) st_L_below ml_L_19 sm_L_below rfl (Nat.le_of_ble_eq_true rfl) (by decide) (by decide) (Nat.le_of_ble_eq_true rfl) (show K + 0 + 0 ≤ 200 by omega) (show M9 + 0 + 0 ≤ 1200 by omega) (Or.inr (fun E9 σ9 hq9 => nomatch hq9.1.choose_spec.2)) (fun E9 σ9 hq9 _ => nomatch hq9.1.choose_spec.2) (fun r9 σ9 hq9 hle9 => ?_)
        obtain ⟨⟨c2, hc2, h9⟩, h8⟩ := hq9
        rw [h8]
        clear hle9 h8 σ9
        cases h9
        refine J.iadd dL_keep_42 ?_
        rw [show (1 : Int) + ((c2 : Nat) : Int) = ((1 + c2 : Nat) : Int) from by push_cast; rfl]
        generalize hz : 1 + c2 = z
        have hzb : 1 ≤ z ∧ z ≤ 14 := by omega
        refine J.ist dL_keep_43 (by decide) (jnc_of rfl rfl) ?_
        refine J.ald dL_keep_45 rfl ?_
        refine J.bipush dL_keep_47 (by decide) ?_
        refine J.ild dL_keep_49 rfl ?_
        refine J.imul dL_keep_51 ?_
        rw [show (41 : Int) * ((k : Nat) : Int) = ((41 * k : Nat) : Int) from by push_cast; rfl]
        refine J.ild dL_keep_52 rfl ?_
        refine J.iast (41 * k) dL_keep_54 ht (by omega) rfl (by omega) (by omega) ?_
        refine J.iconst dL_keep_55 ?_
        refine J.ist dL_keep_56 (by decide) (jnc_of rfl rfl) ?_
        obtain ⟨hpr, ⟨-, hlw⟩, hbk, ⟨hmn, hmg⟩, hki, hrd, hrg⟩ := id hI
        have hW2 := hW.set (e := jI 492 (jup tf (41 * k) ((z : Nat) : Int)))
        have hF2 := hF.set (e := jI 492 (jup tf (41 * k) ((z : Nat) : Int)))
        have L2 : ∀ (t2 : Nat), ∀ (i K9 M8 : Nat) (σ : jS) (lw tf : Nat → Int), i + t2 = z → K9 + t2 ≤ K + 14 → M8 + 6 * t2 ≤ M9 + 84 → CW σ pr i lw bn cd sz ph mn mg k kr ks kt rd rg → (∀ t, 0 ≤ lw t ∧ lw t ≤ 9999) → σ.2 37 = jI 492 tf → (∀ j i, j < k → i < ks j → tf (41 * j + 1 + i) = kr (j * 41 + i)) → (∀ i', i' < i → tf (41 * k + 1 + i') = lw i') → LF s N lu du σ → J X mL_keep rL_keep 58 [.ref 5, .ref 4, vI 0, vI ((W : Nat) : Int), .ref 37, vI ((many : Nat) : Int), vI ((k : Nat) : Int), vI ((z : Nat) : Int), vI ((i : Nat) : Int)] [] K9 M8 σ (fun o σ1 => ∃ (many : Nat) (lw : Nat → Int) (kr : Nat → Int) (ks : Nat → Nat) (kt : Nat → Nat → Int) (tf : Nat → Int), o = oI ((many : Nat) : Int) ∧ (1 ≤ many ∧ many ≤ 6) ∧ CW σ1 pr 0 lw bn cd sz ph mn mg many kr ks kt rd rg ∧ CI pr 0 lw bn cd sz ph mn mg many kr ks kt rd rg ∧ (∀ j, j < many → ks j ≤ 14) ∧ σ1.2 37 = jI 492 tf ∧ (∀ j i, j < many → i < ks j → tf (41 * j + 1 + i) = kr (j * 41 + i)) ∧ LF s N lu du σ1) := by
          intro t2
          induction t2 with
          | zero =>
            intro i K9 M8 σ lw tf hi hK9 hM8 hW hlw ht hkt htl hF
            refine J.ild dL_keep_58 rfl ?_
            refine J.ild dL_keep_60 rfl ?_
            refine J.icmp_ge dL_keep_62 (by decide) (tgt := 128) (by unfold inI; omega) (by unfold inI; omega) (fun h2 => ?_) (fun h2 => ?_)
            · obtain rfl : i = z := by omega
              have hI2 : CI pr i lw bn cd sz ph mn mg k kr ks kt rd rg := ⟨hpr, ⟨by omega, hlw⟩, hbk, ⟨hmn, hmg⟩, hki, hrd, hrg⟩
              refine J.ald_n dL_keep_128 rfl ?_
              refine J.callV (rm' := rX6_keep) [] dL_keep_129 (c_keep_0 hW hI2 ⟨by omega, by omega⟩) hW.1.1 rfl st_X6_keep ml_L_28 im_X6_keep se_X6_keep rfl (Nat.le_of_ble_eq_true rfl) (by decide) (by decide) (Nat.le_of_ble_eq_true rfl) (show K9 + 1 ≤ 200 by omega) (show M8 + 6 ≤ 1200 by omega) (Or.inr (fun E9 σ9 hq9 => nomatch hq9.1)) (fun E9 σ9 hq9 _ => nomatch hq9.1) (fun r9 σ2 hq9 hle9 => ?_)
              obtain ⟨h9, hC2, hr2⟩ := hq9
              cases h9
              clear hle9
              refine J.ild dL_keep_132 rfl ?_
              refine J.iconst dL_keep_134 ?_
              refine J.iadd dL_keep_135 ?_
              rw [show (((k : Nat) : Int) : Int) + 1 = ((k + 1 : Nat) : Int) from by push_cast; rfl]
              refine J.icmp_eq dL_keep_136 (by decide) (tgt := 141) (by unfold inI; omega) (by unfold inI; omega) (fun h3 => ?_) (fun h3 => ?_)
              · refine J.iinc (v := ((k + 1 : Nat) : Int)) dL_keep_141 rfl (by first | rfl | omega) (by decide) (jnc_of rfl rfl) ?_
                refine J.goto dL_keep_144 (by decide) (tgt := 17) ?_
                refine J.forget [.ref 5, .ref 4, vI 0, vI ((W : Nat) : Int), .ref 37, vI ((many : Nat) : Int), vI ((k + 1 : Nat) : Int), .null, .null] ⟨Or.inr rfl, ⟨Or.inr rfl, ⟨Or.inr rfl, ⟨Or.inr rfl, ⟨Or.inr rfl, ⟨Or.inr rfl, ⟨Or.inr rfl, ⟨Or.inl rfl, ⟨Or.inl rfl, trivial⟩⟩⟩⟩⟩⟩⟩⟩⟩ ?_
                have hki2 := hki.add (m := i) (w := lw) (by omega) ⟨by omega, by omega⟩ hlw
                refine ih (k + 1) _ _ σ2 lw _ _ _ tf (by omega) (show K9 + 1 + 15 * t ≤ 150 by omega) (show M8 + 6 + 90 * t ≤ 1000 by omega) hC2 ⟨hpr, ⟨by omega, hlw⟩, hbk, ⟨hmn, hmg⟩, hki2, hrd, hrg⟩ (fun j hj => ?_) ((hr2.2 _ (by omega)).trans ht) (fun j i2 hj hi2 => ?_) (hF.kept hr2)
                · by_cases q : j = k
                  · rw [q, jup_eq]; omega
                  · rw [jup_ne _ _ q]; exact hks j (by omega)
                · by_cases q : j = k
                  · subst q
                    rw [jup_eq] at hi2
                    unfold jcp
                    rw [if_pos (by omega), htl i2 hi2]
                    congr 1
                    omega
                  · rw [jup_ne _ _ q] at hi2
                    have := hks j (by omega)
                    unfold jcp
                    rw [if_neg (by omega)]
                    exact hkt j i2 (by omega) hi2
              · omega
            · omega
          | succ t2 ih2 =>
            intro i K9 M8 σ lw tf hi hK9 hM8 hW hlw ht hkt htl hF
            refine J.ild dL_keep_58 rfl ?_
            refine J.ild dL_keep_60 rfl ?_
            refine J.icmp_ge dL_keep_62 (by decide) (tgt := 128) (by unfold inI; omega) (by unfold inI; omega) (fun h2 => ?_) (fun h2 => ?_)
            · omega
            · have hI2 : CI pr i lw bn cd sz ph mn mg k kr ks kt rd rg := ⟨hpr, ⟨by omega, hlw⟩, hbk, ⟨hmn, hmg⟩, hki, hrd, hrg⟩
              refine J.ald dL_keep_65 rfl ?_
              refine J.bipush dL_keep_67 (by decide) ?_
              refine J.ild dL_keep_69 rfl ?_
              refine J.imul dL_keep_71 ?_
              rw [show (41 : Int) * ((k : Nat) : Int) = ((41 * k : Nat) : Int) from by push_cast; rfl]
              refine J.iconst dL_keep_72 ?_
              refine J.iadd dL_keep_73 ?_
              rw [show (((41 * k : Nat) : Int) : Int) + 1 = (((41 * k) + 1 : Nat) : Int) from by push_cast; rfl]
              refine J.ild dL_keep_74 rfl ?_
              refine J.iadd dL_keep_76 ?_
              rw [show ((((41 * k) + 1 : Nat) : Int) : Int) + ((i : Nat) : Int) = ((((41 * k) + 1) + i : Nat) : Int) from by push_cast; rfl]
              refine J.ald_n dL_keep_77 rfl ?_
              refine J.ild_n dL_keep_78 rfl ?_
              refine J.iconst dL_keep_79 ?_
              refine J.iadd dL_keep_80 ?_
              rw [show (0 : Int) + 2 = 2 from rfl]
              refine J.ild dL_keep_81 rfl ?_
              refine J.iconst dL_keep_83 ?_
              refine J.irem dL_keep_84 (by unfold inI; omega) (by unfold inI; omega) (by omega) ?_
              rw [show Int.tmod ((i : Nat) : Int) 4 = ((i % 4 : Nat) : Int) from by first | rfl | (exact (Int.ofNat_tmod _ _).symm)]
              refine J.iadd dL_keep_85 ?_
              rw [show (2 : Int) + ((i % 4 : Nat) : Int) = ((2 + (i % 4) : Nat) : Int) from by push_cast; rfl]
              refine J.callS (rm' := rL_cell) [.ref 4, vI ((2 + (i % 4) : Nat) : Int)] dL_keep_86 (l_cell (k := 2 + i % 4) hF.1 (by omega) (by omega) hs) st_L_cell ml_L_15 sm_L_cell rfl (Nat.le_of_ble_eq_true rfl) (by decide) (by decide) (Nat.le_of_ble_eq_true rfl) (show K9 + 0 ≤ 200 by omega) (show M8 + 0 ≤ 1200 by omega) (Or.inr (fun E9 σ9 hq9 => nomatch hq9.1.choose_spec.2)) (fun E9 σ9 hq9 _ => nomatch hq9.1.choose_spec.2) (fun r9 σ9 hq9 hle9 => ?_)
              obtain ⟨⟨x3, hx3, h9⟩, h8⟩ := hq9
              rw [h8]
              clear hle9 h8 σ9
              cases h9
              refine J.ild dL_keep_89 rfl ?_
              refine J.iconst dL_keep_91 ?_
              refine J.idiv dL_keep_92 (by unfold inI; omega) (by unfold inI; omega) (by omega) ?_
              rw [show Int.tdiv ((i : Nat) : Int) 4 = ((i / 4 : Nat) : Int) from by first | rfl | (exact (Int.ofNat_tdiv _ _).symm)]
              refine J.iconst dL_keep_93 ?_
              refine J.imul dL_keep_94 ?_
              rw [show (((i / 4 : Nat) : Int) : Int) * 4 = (((i / 4) * 4 : Nat) : Int) from by push_cast; rfl]
              refine J.ild dL_keep_95 rfl ?_
              refine J.iadd dL_keep_97 ?_
              rw [show ((((i / 4) * 4 : Nat) : Int) : Int) + ((k : Nat) : Int) = ((((i / 4) * 4) + k : Nat) : Int) from by push_cast; rfl]
              refine J.shr dL_keep_98 (fun v4 hv4 => ?_)
              refine J.ild_n dL_keep_99 rfl ?_
              refine J.callS (rm' := rL_below) [vI v4, vI ((W : Nat) : Int)] dL_keep_100 (l_below (x := v4) (n := W) (by omega)) st_L_below ml_L_19 sm_L_below rfl (Nat.le_of_ble_eq_true rfl) (by decide) (by decide) (Nat.le_of_ble_eq_true rfl) (show K9 + 0 + 0 ≤ 200 by omega) (show M8 + 0 + 0 ≤ 1200 by omega) (Or.inr (fun E9 σ9 hq9 => nomatch hq9.1.choose_spec.2)) (fun E9 σ9 hq9 _ => nomatch hq9.1.choose_spec.2) (fun r9 σ9 hq9 hle9 => ?_)
              obtain ⟨⟨c3, hc3, h9⟩, h8⟩ := hq9
              rw [h8]
              clear hle9 h8 σ9
              cases h9
              refine J.iast (((41 * k) + 1) + i) dL_keep_103 ht (by omega) rfl (by omega) (by omega) ?_
              refine J.ald_n dL_keep_104 rfl ?_
              refine J.ald dL_keep_105 rfl ?_
              refine J.bipush dL_keep_107 (by decide) ?_
              refine J.ild dL_keep_109 rfl ?_
              refine J.imul dL_keep_111 ?_
              rw [show (41 : Int) * ((k : Nat) : Int) = ((41 * k : Nat) : Int) from by push_cast; rfl]
              refine J.iconst dL_keep_112 ?_
              refine J.iadd dL_keep_113 ?_
              rw [show (((41 * k : Nat) : Int) : Int) + 1 = (((41 * k) + 1 : Nat) : Int) from by push_cast; rfl]
              refine J.ild dL_keep_114 rfl ?_
              refine J.iadd dL_keep_116 ?_
              rw [show ((((41 * k) + 1 : Nat) : Int) : Int) + ((i : Nat) : Int) = ((((41 * k) + 1) + i : Nat) : Int) from by push_cast; rfl]
              refine J.iald (((41 * k) + 1) + i) dL_keep_117 (jset_eq _ _ _) rfl (by omega) (by omega) ?_
              rw [show (jup tf (((41 * k) + 1) + i) ((c3 : Nat) : Int)) (((41 * k) + 1) + i) = ((c3 : Nat) : Int) from jup_eq _ _ _]
              have hW3 := hW.set (e := jI 492 (jup tf (41 * k + 1 + i) ((c3 : Nat) : Int)))
              refine J.callV (rm' := rX6_say) [vI ((c3 : Nat) : Int)] dL_keep_118 (c_say_0 hW3 hI2 (by omega) (by omega)) hW3.1.1 rfl st_X6_say ml_L_22 im_X6_say se_X6_say rfl (Nat.le_of_ble_eq_true rfl) (by decide) (by decide) (Nat.le_of_ble_eq_true rfl) (show K9 + 0 + 0 + 1 ≤ 200 by omega) (show M8 + 0 + 0 + 6 ≤ 1200 by omega) (Or.inr (fun E9 σ9 hq9 => nomatch hq9.1)) (fun E9 σ9 hq9 _ => nomatch hq9.1) (fun r9 σ2 hq9 hle9 => ?_)
              obtain ⟨h9, hC2, hr2⟩ := hq9
              cases h9
              clear hle9
              refine J.pop dL_keep_121 rfl ?_
              refine J.iinc (v := ((i + 1 : Nat) : Int)) dL_keep_122 rfl (by first | rfl | omega) (by decide) (jnc_of rfl rfl) ?_
              refine J.goto dL_keep_125 (by decide) (tgt := 58) ?_
              refine ih2 (i + 1) _ _ σ2 (jup lw i ((c3 : Nat) : Int)) _ (by omega) (show K9 + 0 + 0 + 1 + t2 ≤ K + 14 by omega) (show M8 + 0 + 0 + 6 + 6 * t2 ≤ M9 + 84 by omega) hC2 (jupB hlw (by omega)) ((hr2.2 _ (by omega)).trans (jset_eq _ _ _)) (fun j i2 hj hi2 => ?_) (fun i2 hi2 => ?_) (hF.set.kept hr2)
              · have := hks j hj
                rw [jup_ne _ _ (by omega)]
                exact hkt j i2 hj hi2
              · by_cases q : i2 = i
                · rw [q, jup_eq, jup_eq]
                · rw [jup_ne _ _ (by omega), jup_ne _ _ q]
                  exact htl i2 (by omega)
        refine L2 z 0 _ _ _ lw _ (by omega) (show K + 0 + 0 + z ≤ K + 14 by omega) (show M9 + 0 + 0 + 6 * z ≤ M9 + 84 by omega) hW2 hlw (jset_eq _ _ _) (fun j i2 hj hi2 => ?_) (fun i2 hi2 => absurd hi2 (by omega)) hF2
        have := hks j hj
        rw [jup_ne _ _ (by omega)]
        exact hkt j i2 hj hi2
  exact L many 0 _ _ σ lw0 kr0 ks0 kt0 tf0 (by omega) (show 0 + 0 + 0 + 15 * many ≤ 150 by omega) (show 0 + 0 + 0 + 90 * many ≤ 1000 by omega) hW hI (fun j hj => absurd hj (by omega)) ht (fun j i hj => absurd hj (by omega)) hF
