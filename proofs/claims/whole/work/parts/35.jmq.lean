set_option maxRecDepth 20000 in
theorem c_X7_proposal {X : jX} {σ : jS} {th pr ln mn rd pa0 ps0 : Int} {kn : Nat} {kr Kw : Nat → Int} {ks : Nat → Nat} {kt : Nat → Nat → Int} {b : Nat} {bn Ms sz : Nat → Nat} {Mp ph : Nat → Int} {B9 : Int × Nat × Nat} (hB0 : B9 = pmO kr ks kn (fun k a => hpU sz ph kr a k (bn b) 0) pr 5 2 (0, 0, 0)) (hO : MO σ th pr ln ((kn : Nat) : Int) mn rd pa0 ps0) (h39 : σ.2 39 = jI 12 (fun e => ((ks e : Nat) : Int))) (h40 : σ.2 40 = jI 480 Kw) (hw9 : ∀ k i, k < kn → i < ks k → Kw (40 * k + i) = kr (k * 41 + i)) (hkw : ∀ t, t < 480 → inI (Kw t)) (hki : KI kn kr ks kt) (hpr : 1 ≤ pr ∧ pr ≤ 5) (h41 : σ.2 41 = jI 3 (fun e => ((bn e : Nat) : Int))) (hb : b < 3) (hn : bn b ≤ 40) (h43 : σ.2 43 = jI 120 (fun e => ((Ms e : Nat) : Int))) (hs9 : ∀ e, e < 40 → Ms (40 * b + e) = sz e) (h44 : σ.2 44 = jI 720 Mp) (hp9 : ∀ t, t < 240 → Mp (240 * b + t) = ph t) (hph : ∀ t, 0 ≤ ph t ∧ ph t ≤ 9999) (hsz : ∀ e, e < bn b → 1 ≤ sz e ∧ sz e ≤ 6) : JM X mX7_proposal rX7_proposal [.ref 37, vI ((b : Nat) : Int)] σ (fun o σ1 => o = oI B9.1 ∧ (∃ pa ps : Int, MO σ1 th pr ln ((kn : Nat) : Int) mn rd pa ps ∧ (0 < B9.1 → pa = ((mA B9.2.1 : Nat) : Int) ∧ ps = ((B9.2.2 : Nat) : Int))) ∧ σ1.1 = σ.1 ∧ ∀ j, j ≠ 37 → σ1.2 j = σ.2 j) := by
  refine JM.of (lc := [.ref 37, vI ((b : Nat) : Int), .null, .null, .null, .null, .null, .null, .null]) rfl ?_
  have hkn := hki.1
  refine J.iconst dX7_proposal_0 ?_
  refine J.ist_n dX7_proposal_1 (by decide) (jnc_of rfl rfl) ?_
  refine J.iconst dX7_proposal_2 ?_
  refine J.ist_n dX7_proposal_3 (by decide) (jnc_of rfl rfl) ?_
  have L : ∀ (t z : Nat) (σ' : jS) (B : Int × Nat × Nat) (pa ps : Int) (u4 u5 u6 u7 u8 : Value), z + t = 7 → 2 ≤ z → u4.category = 1 → u5.category = 1 → u6.category = 1 → u7.category = 1 → u8.category = 1 → σ'.1 = σ.1 → (∀ j, j ≠ 37 → σ'.2 j = σ.2 j) → MO σ' th pr ln ((kn : Nat) : Int) mn rd pa ps → ((0 ≤ B.1 ∧ B.1 ≤ 100000) ∧ (0 < B.1 → pa = ((mA B.2.1 : Nat) : Int) ∧ ps = ((B.2.2 : Nat) : Int))) → B9 = pmO kr ks kn (fun k a => hpU sz ph kr a k (bn b) 0) pr t z B → J X mX7_proposal rX7_proposal 4 [.ref 37, vI ((b : Nat) : Int), vI B.1, vI ((z : Nat) : Int), u4, u5, u6, u7, u8] [] 0 0 σ' (fun o σ1 => o = oI B9.1 ∧ (∃ pa ps : Int, MO σ1 th pr ln ((kn : Nat) : Int) mn rd pa ps ∧ (0 < B9.1 → pa = ((mA B9.2.1 : Nat) : Int) ∧ ps = ((B9.2.2 : Nat) : Int))) ∧ σ1.1 = σ.1 ∧ ∀ j, j ≠ 37 → σ1.2 j = σ.2 j) := by
    intro t
    induction t with
    | zero =>
      intro z σ' B pa ps u4 u5 u6 u7 u8 hz hz2 hu4 hu5 hu6 hu7 hu8 h1 h2 h3 hB hB9
      refine J.ild_n dX7_proposal_4 rfl ?_
      refine J.bipush dX7_proposal_5 (by decide) ?_
      refine J.icmp_gt dX7_proposal_7 (by decide) (tgt := 129) (by unfold inI; omega) (by unfold inI; omega) (fun h => ?_) (fun h => ?_)
      · refine J.ild_n dX7_proposal_129 rfl ?_
        refine J.iret .int dX7_proposal_130 rfl rfl (by decide) (by decide) ?_
        rw [show B9 = B from hB9]
        exact ⟨rfl, ⟨pa, ps, h3, hB.2⟩, h1, h2⟩
      · omega
    | succ t ih =>
      intro z σ' B pa ps u4 u5 u6 u7 u8 hz hz2 hu4 hu5 hu6 hu7 hu8 h1 h2 h3 hB hB9
      refine J.ild_n dX7_proposal_4 rfl ?_
      refine J.bipush dX7_proposal_5 (by decide) ?_
      refine J.icmp_gt dX7_proposal_7 (by decide) (tgt := 129) (by unfold inI; omega) (by unfold inI; omega) (fun h => ?_) (fun h => ?_)
      · omega
      · refine J.iconst dX7_proposal_10 ?_
        refine J.ist dX7_proposal_11 (by decide) (jnc_of rfl rfl) ?_
        have L2 : ∀ (t2 k : Nat) (σ' : jS) (B : Int × Nat × Nat) (pa ps : Int) (u5 u6 u7 u8 : Value), k + t2 = kn → u5.category = 1 → u6.category = 1 → u7.category = 1 → u8.category = 1 → σ'.1 = σ.1 → (∀ j, j ≠ 37 → σ'.2 j = σ.2 j) → MO σ' th pr ln ((kn : Nat) : Int) mn rd pa ps → ((0 ≤ B.1 ∧ B.1 ≤ 100000) ∧ (0 < B.1 → pa = ((mA B.2.1 : Nat) : Int) ∧ ps = ((B.2.2 : Nat) : Int))) → B9 = pmO kr ks kn (fun k a => hpU sz ph kr a k (bn b) 0) pr t (z + 1) (pmK kr ks kn (fun a => hpU sz ph kr a z (bn b) 0) z pr t2 k B) → J X mX7_proposal rX7_proposal 13 [.ref 37, vI ((b : Nat) : Int), vI B.1, vI ((z : Nat) : Int), vI ((k : Nat) : Int), u5, u6, u7, u8] [] 0 0 σ' (fun o σ1 => o = oI B9.1 ∧ (∃ pa ps : Int, MO σ1 th pr ln ((kn : Nat) : Int) mn rd pa ps ∧ (0 < B9.1 → pa = ((mA B9.2.1 : Nat) : Int) ∧ ps = ((B9.2.2 : Nat) : Int))) ∧ σ1.1 = σ.1 ∧ ∀ j, j ≠ 37 → σ1.2 j = σ.2 j) := by
          intro t2
          induction t2 with
          | zero =>
            intro k σ' B pa ps u5 u6 u7 u8 hk hu5 hu6 hu7 hu8 h1 h2 h3 hB hB9
            refine J.ild dX7_proposal_13 rfl ?_
            refine J.ald_n dX7_proposal_15 rfl ?_
            refine gf_X7_66 rfl dX7_proposal_16 h3 ?_
            refine J.icmp_ge dX7_proposal_19 (by decide) (tgt := 123) (by unfold inI; omega) (by unfold inI; omega) (fun h4 => ?_) (fun h4 => ?_)
            · refine J.iinc (v := ((z + 1 : Nat) : Int)) dX7_proposal_123 rfl (by first | rfl | omega) (by decide) (jnc_of rfl rfl) ?_
              refine J.goto dX7_proposal_126 (by decide) (tgt := 4) ?_
              exact ih (z + 1) σ' B pa ps _ _ _ _ _ (by omega) (by omega) (by first | rfl | assumption) (by first | rfl | assumption) (by first | rfl | assumption) (by first | rfl | assumption) (by first | rfl | assumption) h1 h2 h3 hB hB9
            · omega
          | succ t2 ih2 =>
            intro k σ' B pa ps u5 u6 u7 u8 hk hu5 hu6 hu7 hu8 h1 h2 h3 hB hB9
            have hkk := hki.2.1 k (by omega)
            refine J.ild dX7_proposal_13 rfl ?_
            refine J.ald_n dX7_proposal_15 rfl ?_
            refine gf_X7_66 rfl dX7_proposal_16 h3 ?_
            refine J.icmp_ge dX7_proposal_19 (by decide) (tgt := 123) (by unfold inI; omega) (by unfold inI; omega) (fun h4 => ?_) (fun h4 => ?_)
            · omega
            · refine J.iconst dX7_proposal_22 ?_
              refine J.ist dX7_proposal_23 (by decide) (jnc_of rfl rfl) ?_
              have L3 : ∀ (t3 p : Nat) (σ' : jS) (B : Int × Nat × Nat) (pa ps : Int) (u6 u7 u8 : Value), p + t3 = 41 → u6.category = 1 → u7.category = 1 → u8.category = 1 → σ'.1 = σ.1 → (∀ j, j ≠ 37 → σ'.2 j = σ.2 j) → MO σ' th pr ln ((kn : Nat) : Int) mn rd pa ps → ((0 ≤ B.1 ∧ B.1 ≤ 100000) ∧ (0 < B.1 → pa = ((mA B.2.1 : Nat) : Int) ∧ ps = ((B.2.2 : Nat) : Int))) → B9 = pmO kr ks kn (fun k a => hpU sz ph kr a k (bn b) 0) pr t (z + 1) (pmK kr ks kn (fun a => hpU sz ph kr a z (bn b) 0) z pr t2 (k + 1) (pmL kr ks kn (fun a => hpU sz ph kr a z (bn b) 0) z pr k t3 p B)) → J X mX7_proposal rX7_proposal 25 [.ref 37, vI ((b : Nat) : Int), vI B.1, vI ((z : Nat) : Int), vI ((k : Nat) : Int), vI ((p : Nat) : Int), u6, u7, u8] [] 0 0 σ' (fun o σ1 => o = oI B9.1 ∧ (∃ pa ps : Int, MO σ1 th pr ln ((kn : Nat) : Int) mn rd pa ps ∧ (0 < B9.1 → pa = ((mA B9.2.1 : Nat) : Int) ∧ ps = ((B9.2.2 : Nat) : Int))) ∧ σ1.1 = σ.1 ∧ ∀ j, j ≠ 37 → σ1.2 j = σ.2 j) := by
                intro t3
                induction t3 with
                | zero =>
                  intro p σ' B pa ps u6 u7 u8 hp hu6 hu7 hu8 h1 h2 h3 hB hB9
                  refine J.ild dX7_proposal_25 rfl ?_
                  refine J.ild_n dX7_proposal_27 rfl ?_
                  refine J.iadd dX7_proposal_28 ?_
                  rw [show (((p : Nat) : Int) : Int) + ((z : Nat) : Int) = ((p + z : Nat) : Int) from by push_cast; rfl]
                  refine J.ald_n dX7_proposal_29 rfl ?_
                  refine gf_X7_17 rfl dX7_proposal_30 h3 ?_
                  refine J.ild dX7_proposal_33 rfl ?_
                  refine J.iald k dX7_proposal_35 ((h2 _ (by omega)).trans h39) rfl (by omega) (by omega) ?_
                  refine J.icmp_gt dX7_proposal_36 (by decide) (tgt := 117) (by unfold inI; omega) (by unfold inI; omega) (fun h5 => ?_) (fun h5 => ?_)
                  · refine J.iinc (v := ((k + 1 : Nat) : Int)) dX7_proposal_117 rfl (by first | rfl | omega) (by decide) (jnc_of rfl rfl) ?_
                    refine J.goto dX7_proposal_120 (by decide) (tgt := 13) ?_
                    exact ih2 (k + 1) σ' B pa ps _ _ _ _ (by omega) (by first | rfl | assumption) (by first | rfl | assumption) (by first | rfl | assumption) (by first | rfl | assumption) h1 h2 h3 hB (hB9)
                  · omega
                | succ t3 ih3 =>
                  intro p σ' B pa ps u6 u7 u8 hp hu6 hu7 hu8 h1 h2 h3 hB hB9
                  refine J.ild dX7_proposal_25 rfl ?_
                  refine J.ild_n dX7_proposal_27 rfl ?_
                  refine J.iadd dX7_proposal_28 ?_
                  rw [show (((p : Nat) : Int) : Int) + ((z : Nat) : Int) = ((p + z : Nat) : Int) from by push_cast; rfl]
                  refine J.ald_n dX7_proposal_29 rfl ?_
                  refine gf_X7_17 rfl dX7_proposal_30 h3 ?_
                  refine J.ild dX7_proposal_33 rfl ?_
                  refine J.iald k dX7_proposal_35 ((h2 _ (by omega)).trans h39) rfl (by omega) (by omega) ?_
                  refine J.icmp_gt dX7_proposal_36 (by decide) (tgt := 117) (by unfold inI; omega) (by unfold inI; omega) (fun h5 => ?_) (fun h5 => ?_)
                  · refine J.iinc (v := ((k + 1 : Nat) : Int)) dX7_proposal_117 rfl (by first | rfl | omega) (by decide) (jnc_of rfl rfl) ?_
                    refine J.goto dX7_proposal_120 (by decide) (tgt := 13) ?_
                    exact ih2 (k + 1) σ' B pa ps _ _ _ _ (by omega) (by first | rfl | assumption) (by first | rfl | assumption) (by first | rfl | assumption) (by first | rfl | assumption) h1 h2 h3 hB (by rw [show pmL kr ks kn (fun a => hpU sz ph kr a z (bn b) 0) z pr k (t3 + 1) p B = B from if_neg (by omega)] at hB9; exact hB9)
                  · rw [show pmL kr ks kn (fun a => hpU sz ph kr a z (bn b) 0) z pr k (t3 + 1) p B = pmL kr ks kn (fun a => hpU sz ph kr a z (bn b) 0) z pr k t3 (p + 1) (stM kr ks kn (fun a => hpU sz ph kr a z (bn b) 0) z pr B (k * 41 + p)) from if_pos (by omega)] at hB9
                    have htm : (tms kr ks z (k * 41 + p) kn) ≤ 480 := by rw [tms_gT]; have := gT_le (kr := kr) (ks := ks) (z := z) (a := ffn kr z (k * 41 + p)) kn (fun j hj => (hki.2.1 j hj).2); omega
                    have hsv := sv_bd (x := (((tms kr ks z (k * 41 + p) kn) : Nat) : Int)) (pr := pr) (k := z) (by omega) hpr (by omega)
                    refine J.bipush dX7_proposal_39 (by decide) ?_
                    refine J.ild dX7_proposal_41 rfl ?_
                    refine J.imul dX7_proposal_43 ?_
                    rw [show (40 : Int) * ((k : Nat) : Int) = ((40 * k : Nat) : Int) from by push_cast; rfl]
                    refine J.ild dX7_proposal_44 rfl ?_
                    refine J.iadd dX7_proposal_46 ?_
                    rw [show (((40 * k : Nat) : Int) : Int) + ((p : Nat) : Int) = (((40 * k) + p : Nat) : Int) from by push_cast; rfl]
                    refine J.ist dX7_proposal_47 (by decide) (jnc_of rfl rfl) ?_
                    refine J.ald_n dX7_proposal_49 rfl ?_
                    refine J.ild dX7_proposal_50 rfl ?_
                    refine J.ild_n dX7_proposal_52 rfl ?_
                    refine J.callV (rm' := rX7_timesOf) [vI (((40 * k) + p : Nat) : Int), vI ((z : Nat) : Int)] dX7_proposal_53 (c_X7_timesOf (k0 := k) (p0 := p) h3 ((h2 _ (by omega)).trans h39) ((h2 _ (by omega)).trans h40) hw9 hki (by omega) (by omega) (by omega)) h3 rfl st_X7_timesOf ml_X7_152 im_X7_timesOf se_X7_timesOf rfl (Nat.le_of_ble_eq_true rfl) (by decide) (by decide) (Nat.le_of_ble_eq_true rfl) (by decide) (by decide) (Or.inl rfl) (fun E9 σ9 hq9 _ => nomatch hq9.1) (fun r9 σ9 hq9 hle9 => ?_)
                    obtain ⟨h9, h8⟩ := hq9
                    rw [h8]
                    clear hle9 h8 σ9
                    cases h9
                    refine J.ist dX7_proposal_56 (by decide) (jnc_of rfl rfl) ?_
                    refine J.ild dX7_proposal_58 rfl ?_
                    refine J.ild_n dX7_proposal_60 rfl ?_
                    refine J.ald_n dX7_proposal_61 rfl ?_
                    refine gf_X7_7 rfl dX7_proposal_62 h3 ?_
                    refine J.imul dX7_proposal_65 ?_
                    refine J.iconst dX7_proposal_66 ?_
                    refine J.isub dX7_proposal_67 ?_
                    refine J.imul dX7_proposal_68 ?_
                    refine J.ist dX7_proposal_69 (by decide) (jnc_of rfl rfl) ?_
                    refine J.ild dX7_proposal_71 rfl ?_
                    refine J.iconst dX7_proposal_73 ?_
                    refine J.icmp_lt dX7_proposal_74 (by decide) (tgt := 111) (by unfold inI; omega) (by unfold inI; omega) (fun h6 => ?_) (fun h6 => ?_)
                    · refine J.iinc (v := ((p + 1 : Nat) : Int)) dX7_proposal_111 rfl (by first | rfl | omega) (by decide) (jnc_of rfl rfl) ?_
                      refine J.goto dX7_proposal_114 (by decide) (tgt := 25) ?_
                      rw [show (stM kr ks kn (fun a => hpU sz ph kr a z (bn b) 0) z pr B (k * 41 + p)) = B from if_neg (by omega)] at hB9
                      exact ih3 (p + 1) σ' B pa ps _ _ _ (by omega) (by first | rfl | assumption) (by first | rfl | assumption) (by first | rfl | assumption) h1 h2 h3 hB hB9
                    · refine J.ild dX7_proposal_77 rfl ?_
                      refine J.ild_n dX7_proposal_79 rfl ?_
                      refine J.icmp_le dX7_proposal_80 (by decide) (tgt := 111) (by unfold inI; omega) (by unfold inI; omega) (fun h7 => ?_) (fun h7 => ?_)
                      · refine J.iinc (v := ((p + 1 : Nat) : Int)) dX7_proposal_111 rfl (by first | rfl | omega) (by decide) (jnc_of rfl rfl) ?_
                        refine J.goto dX7_proposal_114 (by decide) (tgt := 25) ?_
                        rw [show (stM kr ks kn (fun a => hpU sz ph kr a z (bn b) 0) z pr B (k * 41 + p)) = B from if_neg (by omega)] at hB9
                        exact ih3 (p + 1) σ' B pa ps _ _ _ (by omega) (by first | rfl | assumption) (by first | rfl | assumption) (by first | rfl | assumption) h1 h2 h3 hB hB9
                      · refine J.ald_n dX7_proposal_83 rfl ?_
                        refine J.ild_n dX7_proposal_84 rfl ?_
                        refine J.ild dX7_proposal_85 rfl ?_
                        refine J.ild_n dX7_proposal_87 rfl ?_
                        refine J.callV (rm' := rX7_isInBook) [vI ((b : Nat) : Int), vI (((40 * k) + p : Nat) : Int), vI ((z : Nat) : Int)] dX7_proposal_88 (c_X7_isInBook (k0 := k) (p0 := p) h3 ((h2 _ (by omega)).trans h40) hw9 hki hkw ((h2 _ (by omega)).trans h41) hb hn ((h2 _ (by omega)).trans h43) hs9 ((h2 _ (by omega)).trans h44) hp9 hph hsz (by omega) (by omega) (by omega)) h3 rfl st_X7_isInBook ml_X7_155 im_X7_isInBook se_X7_isInBook rfl (Nat.le_of_ble_eq_true rfl) (by decide) (by decide) (Nat.le_of_ble_eq_true rfl) (by decide) (by decide) (Or.inl rfl) (fun E9 σ9 hq9 _ => nomatch hq9.1) (fun r9 σ9 hq9 hle9 => ?_)
                        obtain ⟨h9, h8⟩ := hq9
                        rw [h8]
                        clear hle9 h8 σ9
                        cases h9
                        by_cases hno : hpU sz ph kr (k * 41 + p) z (bn b) 0 = true
                        · rw [show bN (hpU sz ph kr (k * 41 + p) z (bn b) 0) = 1 from if_pos hno]
                          refine J.if_eq dX7_proposal_91 (by decide) (tgt := 97) (by unfold inI; omega) (fun h8 => ?_) (fun h8 => ?_)
                          · exact absurd h8 (by decide)
                          · refine J.goto dX7_proposal_94 (by decide) (tgt := 111) ?_
                            refine J.iinc (v := ((p + 1 : Nat) : Int)) dX7_proposal_111 rfl (by first | rfl | omega) (by decide) (jnc_of rfl rfl) ?_
                            refine J.goto dX7_proposal_114 (by decide) (tgt := 25) ?_
                            rw [show (stM kr ks kn (fun a => hpU sz ph kr a z (bn b) 0) z pr B (k * 41 + p)) = B from if_neg (fun q => Bool.noConfusion (hno.symm.trans q.2.2))] at hB9
                            exact ih3 (p + 1) σ' B pa ps _ _ _ (by omega) (by first | rfl | assumption) (by first | rfl | assumption) (by first | rfl | assumption) h1 h2 h3 hB hB9
                        · rw [show bN (hpU sz ph kr (k * 41 + p) z (bn b) 0) = 0 from if_neg hno]
                          refine J.if_eq dX7_proposal_91 (by decide) (tgt := 97) (by unfold inI; omega) (fun h8 => ?_) (fun h8 => ?_)
                          · refine J.ild dX7_proposal_97 rfl ?_
                            refine J.ist_n dX7_proposal_99 (by decide) (jnc_of rfl rfl) ?_
                            refine J.ald_n dX7_proposal_100 rfl ?_
                            refine J.ild dX7_proposal_101 rfl ?_
                            refine pf_X7_158 rfl dX7_proposal_103 h3 ?_
                            refine J.ald_n dX7_proposal_106 rfl ?_
                            refine J.ild_n dX7_proposal_107 rfl ?_
                            refine pf_X7_161 rfl dX7_proposal_108 (jset_eq _ _ _) ?_
                            refine J.iinc (v := ((p + 1 : Nat) : Int)) dX7_proposal_111 rfl (by first | rfl | omega) (by decide) (jnc_of rfl rfl) ?_
                            refine J.goto dX7_proposal_114 (by decide) (tgt := 25) ?_
                            rw [show (stM kr ks kn (fun a => hpU sz ph kr a z (bn b) 0) z pr B (k * 41 + p)) = ((((tms kr ks z (k * 41 + p) kn) : Nat) : Int) * (((z : Nat) : Int) * pr - 1), k * 41 + p, z) from if_pos ⟨by omega, by omega, by simpa using hno⟩] at hB9
                            exact ih3 (p + 1) _ ((((tms kr ks z (k * 41 + p) kn) : Nat) : Int) * (((z : Nat) : Int) * pr - 1), k * 41 + p, z) _ _ _ _ _ (by omega) (by first | rfl | assumption) (by first | rfl | assumption) (by first | rfl | assumption) h1 (fun j q => by rw [jset_ne _ _ q, jset_ne _ _ q]; exact h2 j q) (jset_eq _ _ _) ⟨⟨by show 0 ≤ _ * _; omega, by show _ * _ ≤ 100000; omega⟩, fun _ => ⟨by rw [mA_eq (by omega)], rfl⟩⟩ hB9
                          · exact absurd rfl h8
              exact L3 41 0 σ' B pa ps _ _ _ (by omega) (by first | rfl | assumption) (by first | rfl | assumption) (by first | rfl | assumption) h1 h2 h3 hB hB9
        exact L2 kn 0 σ' B pa ps _ _ _ _ (by omega) (by first | rfl | assumption) (by first | rfl | assumption) (by first | rfl | assumption) (by first | rfl | assumption) h1 h2 h3 hB hB9
  exact L 5 2 σ (0, 0, 0) pa0 ps0 _ _ _ _ _ (by omega) (by omega) rfl rfl rfl rfl rfl rfl (fun _ _ => rfl) hO ⟨⟨by show (0 : Int) ≤ 0; omega, by show (0 : Int) ≤ 100000; omega⟩, fun q => absurd q (by decide)⟩ hB0
