/-! ===== the law: its end, all lines, all pairs of code words ===== -/
set_option maxHeartbeats 2000000 in
set_option maxRecDepth 20000 in
theorem law_end {X : jX} {nm : String} {hh : List (Nat × Nat × Nat × Nat)} {Q : jOut → jS → Prop} {s : Nat → Int} {N : Nat} {lu du tf : Nat → Int} {K M9 KB MB : Nat} {σ : jS} {pr : Int} {ln : Nat} {lw : Nat → Int} {bn : Nat → Nat} {cd sz : Nat → Nat → Nat} {ph : Nat → Nat → Int} {mn : Nat} {mg : Nat → Int} {kn : Nat} {kr : Nat → Int} {ks : Nat → Nat} {kt : Nat → Nat → Int} {rd : Nat} {rg : Nat → Int} {k : Nat} (hG : LG s N lu du pr bn cd kn kr ks tf) (hW : CW σ pr ln lw bn cd sz ph mn mg kn kr ks kt rd rg) (hI : CI pr ln lw bn cd sz ph mn mg kn kr ks kt rd rg) (hF : LF s N lu du σ) (ht : σ.2 37 = jI 492 tf) (hK : K + 10 ≤ KB) (hM : M9 + 6 * 10 ≤ MB) (hKB : KB ≤ 500000) (hMB : MB ≤ 5000000) (hQ : ∀ σ' : jS, Q (oI 1) σ') : J X (mLw nm hh) rL_law 547 [.ref 4, .ref 5, .ref 37, vI ((kn : Nat) : Int), vI pr, .null, .null, vI ((bn 0 : Nat) : Int), vI ((k : Nat) : Int), .null, .null, .null, .null, .null, .null, .null, .null, .null] [] K M9 σ Q := by
  obtain ⟨hN, hs, hlu, hdu, hpr2, hn6, hU, hkn6, hks, hkt, hb1⟩ := id hG
  obtain ⟨hpr, ⟨hln, hlw⟩, hbk, ⟨hmn, hmg⟩, hki, hrd, hrg⟩ := id hI
  obtain ⟨w1, w2⟩ := shA_rng (ks := ks) kn 0 (fun j _ hj => ⟨(hki.2.1 j (by omega)).1, hks j (by omega)⟩)
  have hpW : 1 ≤ pr * ((shA ks kn 0 : Nat) : Int) ∧ pr * ((shA ks kn 0 : Nat) : Int) ≤ 420 := by
    have h4 : pr = 2 ∨ pr = 3 ∨ pr = 4 ∨ pr = 5 := by omega
    rcases h4 with y | y | y | y <;> rw [y] <;> omega
  refine J.ald_n dL_law_547 rfl ?_
  refine J.iconst dL_law_548 ?_
  refine J.callV (rm' := rX6_entries) [vI 1] dL_law_549 (c_entries_0 hW hI (b := 1) (by omega)) hW.1.1 rfl st_X6_entries ml_L_46 im_X6_entries se_X6_entries rfl (Nat.le_of_ble_eq_true rfl) (by decide) (by decide) (Nat.le_of_ble_eq_true rfl) (show K + 1 ≤ 600130 by omega) (show M9 + 6 ≤ 7301080 by omega) (Or.inr (fun E9 σ9 hq9 => nomatch hq9.1)) (fun E9 σ9 hq9 _ => nomatch hq9.1) (fun r9 σ1 hq9 hle9 => ?_)
  obtain ⟨h9, hC1, hr1⟩ := hq9
  cases h9
  clear hle9
  refine J.if_ne dL_law_552 (by decide) (tgt := 569) (by unfold inI; omega) (fun h1 => ?_) (fun h1 => ?_)
  · omega
  · refine J.ald_n dL_law_555 rfl ?_
    refine J.iconst dL_law_556 ?_
    refine J.callV (rm' := rX6_share) [vI 1] dL_law_557 (c_share_0 hC1 hI (b := 1) (by omega)) hC1.1.1 rfl st_X6_share ml_L_39 im_X6_share se_X6_share rfl (Nat.le_of_ble_eq_true rfl) (by decide) (by decide) (Nat.le_of_ble_eq_true rfl) (show K + 1 + 1 ≤ 600130 by omega) (show M9 + 6 + 6 ≤ 7301080 by omega) (Or.inr (fun E9 σ9 hq9 => nomatch hq9.1)) (fun E9 σ9 hq9 _ => nomatch hq9.1) (fun r9 σ2 hq9 hle9 => ?_)
    obtain ⟨h9, hC2, hr2⟩ := hq9
    cases h9
    clear hle9
    rw [hb1, sh_emp]
    refine J.dconst1 dL_law_560 ?_
    refine J.dcmp dL_law_561 ?_
    rw [shV_1 hpW]
    refine J.if_ne dL_law_562 (by decide) (tgt := 569) (by unfold inI; omega) (fun h2 => ?_) (fun h2 => ?_)
    · exact absurd rfl h2
    · refine J.iconst dL_law_565 ?_
      refine J.goto dL_law_566 (by decide) (tgt := 570) ?_
      refine J.iret .boolean dL_law_570 rfl rfl (show K + 1 + 1 ≤ 600130 by omega) (show M9 + 6 + 6 ≤ 7301080 by omega) ?_
      exact hQ _

set_option maxHeartbeats 2000000 in
set_option maxRecDepth 20000 in
theorem law_lines {X : jX} {nm : String} {hh : List (Nat × Nat × Nat × Nat)} {Q : jOut → jS → Prop} {s : Nat → Int} {N : Nat} {lu du tf : Nat → Int} {pr : Int} {bn : Nat → Nat} {cd sz : Nat → Nat → Nat} {ph : Nat → Nat → Int} {kn : Nat} {kr : Nat → Int} {ks : Nat → Nat} {kt : Nat → Nat → Int} (hG : LG s N lu du pr bn cd kn kr ks tf) (hQ : ∀ σ' : jS, Q (oI 1) σ') : ∀ (t k K M9 : Nat) (σ : jS), k + t = kn → K + 90 * t ≤ 100000 → M9 + 540 * t ≤ 1000000 → LSt s N lu du pr bn cd sz ph kn kr ks kt tf σ → J X (mLw nm hh) rL_law 177 [.ref 4, .ref 5, .ref 37, vI ((kn : Nat) : Int), vI pr, .null, .null, vI ((bn 0 : Nat) : Int), vI ((k : Nat) : Int), .null, .null, .null, .null, .null, .null, .null, .null, .null] [] K M9 σ Q := by
  intro t
  induction t with
  | zero =>
    intro k K M9 σ hk hK hM hS
    obtain ⟨⟨ln, lw, mn, mg, rd, rg, hW, hI⟩, hF, ht⟩ := id hS
    have hkn6 := hG.2.2.2.2.2.2.2.1
    refine J.ild dL_law_177 rfl ?_
    refine J.ild_n dL_law_179 rfl ?_
    refine J.icmp_ge dL_law_180 (by decide) (tgt := 547) (by unfold inI; omega) (by unfold inI; omega) (fun h => ?_) (fun h => ?_)
    · exact law_end (KB := K + 10) (MB := M9 + 60) hG hW hI hF ht (Nat.le_refl _) (by omega) (by omega) (by omega) hQ
    · omega
  | succ t ih =>
    intro k K M9 σ hk hK hM hS
    obtain ⟨⟨ln, lw, mn, mg, rd, rg, hW, hI⟩, hF, ht⟩ := id hS
    have hkn6 := hG.2.2.2.2.2.2.2.1
    refine J.ild dL_law_177 rfl ?_
    refine J.ild_n dL_law_179 rfl ?_
    refine J.icmp_ge dL_law_180 (by decide) (tgt := 547) (by unfold inI; omega) (by unfold inI; omega) (fun h => ?_) (fun h => ?_)
    · omega
    · have hn : ∀ (σ' : jS) (K' M' : Nat), LSt s N lu du pr bn cd sz ph kn kr ks kt tf σ' → K' ≤ K + 90 → M' ≤ M9 + 540 → J X (mLw nm hh) rL_law 541 [.ref 4, .ref 5, .ref 37, vI ((kn : Nat) : Int), vI pr, .null, .null, vI ((bn 0 : Nat) : Int), vI ((k : Nat) : Int), .null, .null, .null, .null, .null, .null, .null, .null, .null] [] K' M' σ' Q := by
        intro σ' K' M' hS' hK' hM'
        refine J.iinc (v := ((k + 1 : Nat) : Int)) dL_law_541 rfl (by first | rfl | omega) (Nat.le_of_ble_eq_true rfl) (jnc_of rfl rfl) ?_
        refine J.goto dL_law_544 (by decide) (tgt := 177) ?_
        exact ih (k + 1) K' M' σ' (by omega) (by omega) (by omega) hS'
      exact law_line (KB := K + 90) (MB := M9 + 540) hG hW hI hF ht (by omega) (Nat.le_refl _) (by omega) (by omega) (by omega) hn
set_option maxHeartbeats 2000000 in
set_option maxRecDepth 20000 in
theorem law_pairs {X : jX} {nm : String} {hh : List (Nat × Nat × Nat × Nat)} {Q : jOut → jS → Prop} {s : Nat → Int} {N : Nat} {lu du tf : Nat → Int} {K M9 : Nat} {σ : jS} {pr : Int} {ln : Nat} {lw : Nat → Int} {bn : Nat → Nat} {cd sz : Nat → Nat → Nat} {ph : Nat → Nat → Int} {mn : Nat} {mg : Nat → Int} {kn : Nat} {kr : Nat → Int} {ks : Nat → Nat} {kt : Nat → Nat → Int} {rd : Nat} {rg : Nat → Int} (hG : LG s N lu du pr bn cd kn kr ks tf) (hW : CW σ pr ln lw bn cd sz ph mn mg kn kr ks kt rd rg) (hI : CI pr ln lw bn cd sz ph mn mg kn kr ks kt rd rg) (hF : LF s N lu du σ) (ht : σ.2 37 = jI 492 tf) (hK : K ≤ 50000) (hM : M9 ≤ 500000) (hQ : ∀ σ' : jS, Q (oI 1) σ') : J X (mLw nm hh) rL_law 110 [.ref 4, .ref 5, .ref 37, vI ((kn : Nat) : Int), vI pr, .null, .null, .null, .null, .null, .null, .null, .null, .null, .null, .null, .null, .null] [] K M9 σ Q := by
  obtain ⟨hN, hs, hlu, hdu, hpr2, hn6, hU, hkn6, hks, hkt, hb1⟩ := id hG
  obtain ⟨hpr, ⟨hln, hlw⟩, hbk, ⟨hmn, hmg⟩, hki, hrd, hrg⟩ := id hI
  obtain ⟨hb40, hC0, hS0, hP0⟩ := hbk 0 (by omega)
  refine J.ald_n dL_law_110 rfl ?_
  refine J.iconst dL_law_111 ?_
  refine J.callV (rm' := rX6_entries) [vI 0] dL_law_112 (c_entries_0 hW hI (b := 0) (by omega)) hW.1.1 rfl st_X6_entries ml_L_46 im_X6_entries se_X6_entries rfl (Nat.le_of_ble_eq_true rfl) (by decide) (by decide) (Nat.le_of_ble_eq_true rfl) (show K + 1 ≤ 600130 by omega) (show M9 + 6 ≤ 7301080 by omega) (Or.inr (fun E9 σ9 hq9 => nomatch hq9.1)) (fun E9 σ9 hq9 _ => nomatch hq9.1) (fun r9 σ1 hq9 hle9 => ?_)
  obtain ⟨h9, hC1, hr1⟩ := hq9
  cases h9
  clear hle9
  refine J.ist dL_law_115 (Nat.le_of_ble_eq_true rfl) (jnc_of rfl rfl) ?_
  refine J.iconst dL_law_117 ?_
  refine J.ist dL_law_118 (Nat.le_of_ble_eq_true rfl) (jnc_of rfl rfl) ?_
  have L : ∀ (t : Nat), ∀ (a K9 M8 : Nat) (σ : jS), a + t = bn 0 → K9 + 40 * t ≤ 90000 → M8 + 240 * t ≤ 900000 → CW σ pr ln lw bn cd sz ph mn mg kn kr ks kt rd rg → LF s N lu du σ → σ.2 37 = jI 492 tf → J X (mLw nm hh) rL_law 120 [.ref 4, .ref 5, .ref 37, vI ((kn : Nat) : Int), vI pr, .null, .null, vI ((bn 0 : Nat) : Int), vI ((a : Nat) : Int), .null, .null, .null, .null, .null, .null, .null, .null, .null] [] K9 M8 σ Q := by
    intro t
    induction t with
    | zero =>
      intro a K9 M8 σ ha hK9 hM8 hW hF ht
      refine J.ild dL_law_120 rfl ?_
      refine J.ild dL_law_122 rfl ?_
      refine J.icmp_ge dL_law_124 (by decide) (tgt := 174) (by unfold inI; omega) (by unfold inI; omega) (fun h1 => ?_) (fun h1 => ?_)
      · refine J.iconst dL_law_174 ?_
        refine J.ist dL_law_175 (Nat.le_of_ble_eq_true rfl) (jnc_of rfl rfl) ?_
        refine J.forget [.ref 4, .ref 5, .ref 37, vI ((kn : Nat) : Int), vI pr, .null, .null, vI ((bn 0 : Nat) : Int), vI 0, .null, .null, .null, .null, .null, .null, .null, .null, .null] ⟨Or.inr rfl, ⟨Or.inr rfl, ⟨Or.inr rfl, ⟨Or.inr rfl, ⟨Or.inr rfl, ⟨Or.inl rfl, ⟨Or.inl rfl, ⟨Or.inr rfl, ⟨Or.inr rfl, ⟨Or.inl rfl, ⟨Or.inl rfl, ⟨Or.inl rfl, ⟨Or.inl rfl, ⟨Or.inl rfl, ⟨Or.inl rfl, ⟨Or.inl rfl, ⟨Or.inl rfl, ⟨Or.inl rfl, trivial⟩⟩⟩⟩⟩⟩⟩⟩⟩⟩⟩⟩⟩⟩⟩⟩⟩⟩ ?_
        exact law_lines hG hQ kn 0 _ _ σ (by omega) (show K9 + 90 * kn ≤ 100000 by omega) (show M8 + 540 * kn ≤ 1000000 by omega) ⟨⟨_, _, _, _, _, _, hW, hI⟩, hF, ht⟩
      · omega
    | succ t ih =>
      intro a K9 M8 σ ha hK9 hM8 hW hF ht
      refine J.ild dL_law_120 rfl ?_
      refine J.ild dL_law_122 rfl ?_
      refine J.icmp_ge dL_law_124 (by decide) (tgt := 174) (by unfold inI; omega) (by unfold inI; omega) (fun h1 => ?_) (fun h1 => ?_)
      · omega
      · refine J.iconst dL_law_127 ?_
        refine J.ist dL_law_128 (Nat.le_of_ble_eq_true rfl) (jnc_of rfl rfl) ?_
        have L2 : ∀ (t2 : Nat), ∀ (b K8 M7 : Nat) (σ : jS), b + t2 = a → K8 + 6 * t2 ≤ K9 + 40 → M7 + 36 * t2 ≤ M8 + 240 → CW σ pr ln lw bn cd sz ph mn mg kn kr ks kt rd rg → LF s N lu du σ → σ.2 37 = jI 492 tf → J X (mLw nm hh) rL_law 130 [.ref 4, .ref 5, .ref 37, vI ((kn : Nat) : Int), vI pr, .null, .null, vI ((bn 0 : Nat) : Int), vI ((a : Nat) : Int), vI ((b : Nat) : Int), .null, .null, .null, .null, .null, .null, .null, .null] [] K8 M7 σ Q := by
          intro t2
          induction t2 with
          | zero =>
            intro b K8 M7 σ hb hK8 hM7 hW hF ht
            refine J.ild dL_law_130 rfl ?_
            refine J.ild dL_law_132 rfl ?_
            refine J.icmp_ge dL_law_134 (by decide) (tgt := 168) (by unfold inI; omega) (by unfold inI; omega) (fun h2 => ?_) (fun h2 => ?_)
            · refine J.iinc (v := ((a + 1 : Nat) : Int)) dL_law_168 rfl (by first | rfl | omega) (Nat.le_of_ble_eq_true rfl) (jnc_of rfl rfl) ?_
              refine J.goto dL_law_171 (by decide) (tgt := 120) ?_
              refine J.forget [.ref 4, .ref 5, .ref 37, vI ((kn : Nat) : Int), vI pr, .null, .null, vI ((bn 0 : Nat) : Int), vI ((a + 1 : Nat) : Int), .null, .null, .null, .null, .null, .null, .null, .null, .null] ⟨Or.inr rfl, ⟨Or.inr rfl, ⟨Or.inr rfl, ⟨Or.inr rfl, ⟨Or.inr rfl, ⟨Or.inl rfl, ⟨Or.inl rfl, ⟨Or.inr rfl, ⟨Or.inr rfl, ⟨Or.inl rfl, ⟨Or.inl rfl, ⟨Or.inl rfl, ⟨Or.inl rfl, ⟨Or.inl rfl, ⟨Or.inl rfl, ⟨Or.inl rfl, ⟨Or.inl rfl, ⟨Or.inl rfl, trivial⟩⟩⟩⟩⟩⟩⟩⟩⟩⟩⟩⟩⟩⟩⟩⟩⟩⟩ ?_
              exact ih (a + 1) _ _ σ (by omega) (by omega) (by omega) hW hF ht
            · omega
          | succ t2 ih2 =>
            intro b K8 M7 σ hb hK8 hM7 hW hF ht
            refine J.ild dL_law_130 rfl ?_
            refine J.ild dL_law_132 rfl ?_
            refine J.icmp_ge dL_law_134 (by decide) (tgt := 168) (by unfold inI; omega) (by unfold inI; omega) (fun h2 => ?_) (fun h2 => ?_)
            · omega
            · refine J.ald_n dL_law_137 rfl ?_
              refine J.iconst dL_law_138 ?_
              refine J.ild dL_law_139 rfl ?_
              refine J.iconst dL_law_141 ?_
              refine J.callV (rm' := rX6_entry) [vI 0, vI ((a : Nat) : Int), vI (-1)] dL_law_142 (c_entry_4 hW hI (b := 0) (e := a) (by omega) (by omega) rfl) hW.1.1 rfl st_X6_entry ml_L_49 im_X6_entry se_X6_entry rfl (Nat.le_of_ble_eq_true rfl) (by decide) (by decide) (Nat.le_of_ble_eq_true rfl) (show K8 + 3 ≤ 600130 by omega) (show M7 + 18 ≤ 7301080 by omega) (Or.inr (fun E9 σ9 hq9 => nomatch hq9.1)) (fun E9 σ9 hq9 _ => nomatch hq9.1) (fun r9 σ5 hq9 hle9 => ?_)
              obtain ⟨h9, hC5, hr5⟩ := hq9
              cases h9
              clear hle9
              refine J.ald_n dL_law_145 rfl ?_
              refine J.iconst dL_law_146 ?_
              refine J.ild dL_law_147 rfl ?_
              refine J.iconst dL_law_149 ?_
              refine J.callV (rm' := rX6_entry) [vI 0, vI ((b : Nat) : Int), vI (-1)] dL_law_150 (c_entry_4 hC5 hI (b := 0) (e := b) (by omega) (by omega) rfl) hC5.1.1 rfl st_X6_entry ml_L_49 im_X6_entry se_X6_entry rfl (Nat.le_of_ble_eq_true rfl) (by decide) (by decide) (Nat.le_of_ble_eq_true rfl) (show K8 + 3 + 3 ≤ 600130 by omega) (show M7 + 18 + 18 ≤ 7301080 by omega) (Or.inr (fun E9 σ9 hq9 => nomatch hq9.1)) (fun E9 σ9 hq9 _ => nomatch hq9.1) (fun r9 σ6 hq9 hle9 => ?_)
              obtain ⟨h9, hC6, hr6⟩ := hq9
              cases h9
              clear hle9
              refine J.callS (rm' := rL_off) [vI ((cd 0 a : Nat) : Int), vI ((cd 0 b : Nat) : Int)] dL_law_153 (l_off (a := (cd 0 a)) (b := (cd 0 b)) (hC0 a) (hC0 b)) st_L_off ml_L_53 sm_L_off rfl (Nat.le_of_ble_eq_true rfl) (by decide) (by decide) (Nat.le_of_ble_eq_true rfl) (show K8 + 3 + 3 + 0 ≤ 600130 by omega) (show M7 + 18 + 18 + 0 ≤ 7301080 by omega) (Or.inr (fun E9 σ9 hq9 => nomatch hq9.1)) (fun E9 σ9 hq9 _ => nomatch hq9.1) (fun r9 σ9 hq9 hle9 => ?_)
              obtain ⟨h9, h8⟩ := hq9
              rw [h8]
              clear hle9 h8 σ9
              cases h9
              have hof := ofR_le (cd 0 a) (cd 0 b)
              have hfar : ¬ ofR (cd 0 a) (cd 0 b) < 3 := fun q => (ofR_lt (hC0 a) (hC0 b)).mp q (lk_sym (hC0 b) (hC0 a) (hU b a (by omega) (by omega)))
              refine J.iconst dL_law_156 ?_
              refine J.icmp_ge dL_law_157 (by decide) (tgt := 162) (by unfold inI; omega) (by unfold inI; omega) (fun h3 => ?_) (fun h3 => ?_)
              · refine J.iinc (v := ((b + 1 : Nat) : Int)) dL_law_162 rfl (by first | rfl | omega) (Nat.le_of_ble_eq_true rfl) (jnc_of rfl rfl) ?_
                refine J.goto dL_law_165 (by decide) (tgt := 130) ?_
                exact ih2 (b + 1) _ _ σ6 (by omega) (show K8 + 3 + 3 + 0 + 6 * t2 ≤ K9 + 40 by omega) (show M7 + 18 + 18 + 0 + 36 * t2 ≤ M8 + 240 by omega) hC6 ((hF.kept hr5).kept hr6) ((hr6.2 _ (by omega)).trans ((hr5.2 _ (by omega)).trans ht))
              · omega
        exact L2 a 0 _ _ σ (by omega) (show K9 + 6 * a ≤ K9 + 40 by omega) (show M8 + 36 * a ≤ M8 + 240 by omega) hW hF ht
  exact L (bn 0) 0 _ _ σ1 (by omega) (show K + 1 + 40 * bn 0 ≤ 90000 by omega) (show M9 + 6 + 240 * bn 0 ≤ 900000 by omega) hC1 (hF.kept hr1) ((hr1.2 _ (by omega)).trans ht)
