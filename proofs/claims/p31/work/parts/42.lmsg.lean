/-! ===== the law: a line turned into a message; all lines ===== -/
set_option maxHeartbeats 2000000 in
set_option maxRecDepth 20000 in
theorem law_find {X : jX} {nm : String} {hh : List (Nat × Nat × Nat × Nat)} {Q : jOut → jS → Prop} {s : Nat → Int} {N : Nat} {lu du tf : Nat → Int} {K M9 KB MB : Nat} {σ : jS} {pr : Int} {lw : Nat → Int} {bn : Nat → Nat} {cd sz : Nat → Nat → Nat} {ph : Nat → Nat → Int} {mn : Nat} {mg : Nat → Int} {kn : Nat} {kr : Nat → Int} {ks : Nat → Nat} {kt : Nat → Nat → Int} {rd : Nat} {rg : Nat → Int} {k : Nat} (hG : LG s N lu du pr bn cd kn kr ks tf) (hW : CW σ pr (ks k) lw bn cd sz ph mn mg kn kr ks kt rd rg) (hI : CI pr (ks k) lw bn cd sz ph mn mg kn kr ks kt rd rg) (hF : LF s N lu du σ) (ht : σ.2 37 = jI 492 tf) (hk : k < kn) (hl : ∀ i, i < ks k → lw i = kr (k * 41 + i)) (hMs : MsK (bn 0) (cd 0) (sz 0) (ph 0) lw (ks k) mg mn 0 0) (hmn9 : mn ≤ 14) (hK : K + 80 ≤ KB) (hM : M9 + 6 * 80 ≤ MB) (hKB : KB ≤ 500000) (hMB : MB ≤ 5000000) (hn : ∀ (σ' : jS) (K' M' : Nat), LSt s N lu du pr bn cd sz ph kn kr ks kt tf σ' → K' ≤ KB → M' ≤ MB → J X (mLw nm hh) rL_law 541 [.ref 4, .ref 5, .ref 37, vI ((kn : Nat) : Int), vI pr, .null, .null, vI ((bn 0 : Nat) : Int), vI ((k : Nat) : Int), .null, .null, .null, .null, .null, .null, .null, .null, .null] [] K' M' σ' Q) : J X (mLw nm hh) rL_law 242 [.ref 4, .ref 5, .ref 37, vI ((kn : Nat) : Int), vI pr, .null, .null, vI ((bn 0 : Nat) : Int), vI ((k : Nat) : Int), vI ((ks k : Nat) : Int), .null, .null, .null, .null, .null, .null, .null, .null] [] K M9 σ Q := by
  obtain ⟨hN, hs, hlu, hdu, hpr2, hn6, hU, hkn6, hks, hkt, hb1⟩ := id hG
  have hkk := hks k hk
  have hmgb := hI.2.2.2.1
  refine J.iconst dL_law_242 ?_
  refine J.ist dL_law_243 (Nat.le_of_ble_eq_true rfl) (jnc_of rfl rfl) ?_
  refine J.iconst dL_law_245 ?_
  refine J.ist dL_law_246 (Nat.le_of_ble_eq_true rfl) (jnc_of rfl rfl) ?_
  refine J.iconst dL_law_248 ?_
  refine J.ist dL_law_249 (Nat.le_of_ble_eq_true rfl) (jnc_of rfl rfl) ?_
  have L : ∀ (t : Nat), ∀ (g K9 M8 : Nat) (σ : jS), g + t = mn → K9 + t + 61 ≤ KB → M8 + 6 * (t + 61) ≤ MB → CW σ pr (ks k) lw bn cd sz ph mn mg kn kr ks kt rd rg → LF s N lu du σ → σ.2 37 = jI 492 tf → (∀ j, j < g → mg j < 0) → J X (mLw nm hh) rL_law 251 [.ref 4, .ref 5, .ref 37, vI ((kn : Nat) : Int), vI pr, .null, .null, vI ((bn 0 : Nat) : Int), vI ((k : Nat) : Int), vI ((ks k : Nat) : Int), .null, vI 0, vI (-1), vI ((g : Nat) : Int), .null, .null, .null, .null] [] K9 M8 σ Q := by
    intro t
    induction t with
    | zero =>
      intro g K9 M8 σ hg hK9 hM8 hW hF ht hpl
      refine J.ild dL_law_251 rfl ?_
      refine J.ald_n dL_law_253 rfl ?_
      refine J.callV (rm' := rX6_groups) [] dL_law_254 (c_groups hW hI) hW.1.1 rfl st_X6_groups ml_L_65 im_X6_groups se_X6_groups rfl (Nat.le_of_ble_eq_true rfl) (by decide) (by decide) (Nat.le_of_ble_eq_true rfl) (show K9 + 0 ≤ 600130 by omega) (show M8 + 0 ≤ 7301080 by omega) (Or.inr (fun E9 σ9 hq9 => nomatch hq9.1)) (fun E9 σ9 hq9 _ => nomatch hq9.1) (fun r9 σ1 hq9 hle9 => ?_)
      obtain ⟨h9, hC1, hr1⟩ := hq9
      cases h9
      clear hle9
      refine J.icmp_ge dL_law_257 (by decide) (tgt := 284) (by unfold inI; omega) (by unfold inI; omega) (fun h1 => ?_) (fun h1 => ?_)
      · refine J.forget [.ref 4, .ref 5, .ref 37, vI ((kn : Nat) : Int), vI pr, .null, .null, vI ((bn 0 : Nat) : Int), vI ((k : Nat) : Int), vI ((ks k : Nat) : Int), .null, vI 0, vI (-1), .null, .null, .null, .null, .null] ⟨Or.inr rfl, ⟨Or.inr rfl, ⟨Or.inr rfl, ⟨Or.inr rfl, ⟨Or.inr rfl, ⟨Or.inl rfl, ⟨Or.inl rfl, ⟨Or.inr rfl, ⟨Or.inr rfl, ⟨Or.inr rfl, ⟨Or.inl rfl, ⟨Or.inr rfl, ⟨Or.inr rfl, ⟨Or.inl rfl, ⟨Or.inl rfl, ⟨Or.inl rfl, ⟨Or.inl rfl, ⟨Or.inl rfl, trivial⟩⟩⟩⟩⟩⟩⟩⟩⟩⟩⟩⟩⟩⟩⟩⟩⟩⟩ ?_
        refine J.ild dL_law_284 rfl ?_
        refine J.if_lt dL_law_286 (by decide) (tgt := 445) (by unfold inI; omega) (fun h9 => ?_) (fun h9 => ?_)
        · exact law_decA hG hC1 hI (hF.kept hr1) ((hr1.2 _ (by omega)).trans ht) hk hl hMs (fun j hj => hpl j (by omega)) (show K9 + 0 + 25 ≤ KB by omega) (show M8 + 0 + 6 * 25 ≤ MB by omega) hKB hMB hn
        · omega
      · omega
    | succ t ih =>
      intro g K9 M8 σ hg hK9 hM8 hW hF ht hpl
      refine J.ild dL_law_251 rfl ?_
      refine J.ald_n dL_law_253 rfl ?_
      refine J.callV (rm' := rX6_groups) [] dL_law_254 (c_groups hW hI) hW.1.1 rfl st_X6_groups ml_L_65 im_X6_groups se_X6_groups rfl (Nat.le_of_ble_eq_true rfl) (by decide) (by decide) (Nat.le_of_ble_eq_true rfl) (show K9 + 0 ≤ 600130 by omega) (show M8 + 0 ≤ 7301080 by omega) (Or.inr (fun E9 σ9 hq9 => nomatch hq9.1)) (fun E9 σ9 hq9 _ => nomatch hq9.1) (fun r9 σ1 hq9 hle9 => ?_)
      obtain ⟨h9, hC1, hr1⟩ := hq9
      cases h9
      clear hle9
      refine J.icmp_ge dL_law_257 (by decide) (tgt := 284) (by unfold inI; omega) (by unfold inI; omega) (fun h1 => ?_) (fun h1 => ?_)
      · omega
      · refine J.ild dL_law_260 rfl ?_
        refine J.if_ge dL_law_262 (by decide) (tgt := 284) (by unfold inI; omega) (fun h2 => ?_) (fun h2 => ?_)
        · omega
        · refine J.ald_n dL_law_265 rfl ?_
          refine J.ild dL_law_266 rfl ?_
          refine J.callV (rm' := rX6_group) [vI ((g : Nat) : Int)] dL_law_268 (c_group_0 hC1 hI (g := g) (by omega)) hC1.1.1 rfl st_X6_group ml_L_71 im_X6_group se_X6_group rfl (Nat.le_of_ble_eq_true rfl) (by decide) (by decide) (Nat.le_of_ble_eq_true rfl) (show K9 + 0 + 1 ≤ 600130 by omega) (show M8 + 0 + 6 ≤ 7301080 by omega) (Or.inr (fun E9 σ9 hq9 => nomatch hq9.1)) (fun E9 σ9 hq9 _ => nomatch hq9.1) (fun r9 σ2 hq9 hle9 => ?_)
          obtain ⟨h9, hC2, hr2⟩ := hq9
          cases h9
          clear hle9
          have hmb := hmgb.2 g
          refine J.if_lt dL_law_271 (by decide) (tgt := 278) (by unfold inI; omega) (fun h3 => ?_) (fun h3 => ?_)
          · refine J.iinc (v := ((g + 1 : Nat) : Int)) dL_law_278 rfl (by first | rfl | omega) (Nat.le_of_ble_eq_true rfl) (jnc_of rfl rfl) ?_
            refine J.goto dL_law_281 (by decide) (tgt := 251) ?_
            exact ih (g + 1) _ _ σ2 (by omega) (show K9 + 0 + 1 + t + 61 ≤ KB by omega) (show M8 + 0 + 6 + 6 * (t + 61) ≤ MB by omega) hC2 ((hF.kept hr1).kept hr2) ((hr2.2 _ (by omega)).trans ((hr1.2 _ (by omega)).trans ht)) (fun j hj => by
              rcases Nat.lt_or_ge j g with y | y
              · exact hpl j y
              · rw [show j = g by omega]; exact h3)
          · refine J.ild dL_law_274 rfl ?_
            refine J.ist dL_law_276 (Nat.le_of_ble_eq_true rfl) (jnc_of rfl rfl) ?_
            refine J.iinc (v := ((g + 1 : Nat) : Int)) dL_law_278 rfl (by first | rfl | omega) (Nat.le_of_ble_eq_true rfl) (jnc_of rfl rfl) ?_
            refine J.goto dL_law_281 (by decide) (tgt := 251) ?_
            refine J.ild dL_law_251 rfl ?_
            refine J.ald_n dL_law_253 rfl ?_
            refine J.callV (rm' := rX6_groups) [] dL_law_254 (c_groups hC2 hI) hC2.1.1 rfl st_X6_groups ml_L_65 im_X6_groups se_X6_groups rfl (Nat.le_of_ble_eq_true rfl) (by decide) (by decide) (Nat.le_of_ble_eq_true rfl) (show K9 + 0 + 1 + 0 ≤ 600130 by omega) (show M8 + 0 + 6 + 0 ≤ 7301080 by omega) (Or.inr (fun E9 σ9 hq9 => nomatch hq9.1)) (fun E9 σ9 hq9 _ => nomatch hq9.1) (fun r9 σ3 hq9 hle9 => ?_)
            obtain ⟨h9, hC3, hr3⟩ := hq9
            cases h9
            clear hle9
            refine J.icmp_ge dL_law_257 (by decide) (tgt := 284) (by unfold inI; omega) (by unfold inI; omega) (fun h4 => ?_) (fun h4 => ?_)
            · refine J.forget [.ref 4, .ref 5, .ref 37, vI ((kn : Nat) : Int), vI pr, .null, .null, vI ((bn 0 : Nat) : Int), vI ((k : Nat) : Int), vI ((ks k : Nat) : Int), .null, vI 0, vI ((g : Nat) : Int), .null, .null, .null, .null, .null] ⟨Or.inr rfl, ⟨Or.inr rfl, ⟨Or.inr rfl, ⟨Or.inr rfl, ⟨Or.inr rfl, ⟨Or.inl rfl, ⟨Or.inl rfl, ⟨Or.inr rfl, ⟨Or.inr rfl, ⟨Or.inr rfl, ⟨Or.inl rfl, ⟨Or.inr rfl, ⟨Or.inr rfl, ⟨Or.inl rfl, ⟨Or.inl rfl, ⟨Or.inl rfl, ⟨Or.inl rfl, ⟨Or.inl rfl, trivial⟩⟩⟩⟩⟩⟩⟩⟩⟩⟩⟩⟩⟩⟩⟩⟩⟩⟩ ?_
              exact law_grb hG hC3 hI (((hF.kept hr1).kept hr2).kept hr3) ((hr3.2 _ (by omega)).trans ((hr2.2 _ (by omega)).trans ((hr1.2 _ (by omega)).trans ht))) hk hl hMs (q := g) (by omega) (by omega) (show K9 + 0 + 1 + 0 + 60 ≤ KB by omega) (show M8 + 0 + 6 + 0 + 6 * 60 ≤ MB by omega) hKB hMB hn
            · refine J.ild dL_law_260 rfl ?_
              refine J.if_ge dL_law_262 (by decide) (tgt := 284) (by unfold inI; omega) (fun h5 => ?_) (fun h5 => ?_)
              · refine J.forget [.ref 4, .ref 5, .ref 37, vI ((kn : Nat) : Int), vI pr, .null, .null, vI ((bn 0 : Nat) : Int), vI ((k : Nat) : Int), vI ((ks k : Nat) : Int), .null, vI 0, vI ((g : Nat) : Int), .null, .null, .null, .null, .null] ⟨Or.inr rfl, ⟨Or.inr rfl, ⟨Or.inr rfl, ⟨Or.inr rfl, ⟨Or.inr rfl, ⟨Or.inl rfl, ⟨Or.inl rfl, ⟨Or.inr rfl, ⟨Or.inr rfl, ⟨Or.inr rfl, ⟨Or.inl rfl, ⟨Or.inr rfl, ⟨Or.inr rfl, ⟨Or.inl rfl, ⟨Or.inl rfl, ⟨Or.inl rfl, ⟨Or.inl rfl, ⟨Or.inl rfl, trivial⟩⟩⟩⟩⟩⟩⟩⟩⟩⟩⟩⟩⟩⟩⟩⟩⟩⟩ ?_
                exact law_grb hG hC3 hI (((hF.kept hr1).kept hr2).kept hr3) ((hr3.2 _ (by omega)).trans ((hr2.2 _ (by omega)).trans ((hr1.2 _ (by omega)).trans ht))) hk hl hMs (q := g) (by omega) (by omega) (show K9 + 0 + 1 + 0 + 60 ≤ KB by omega) (show M8 + 0 + 6 + 0 + 6 * 60 ≤ MB by omega) hKB hMB hn
              · omega
  exact L mn 0 _ _ σ (by omega) (show K + mn + 61 ≤ KB by omega) (show M9 + 6 * (mn + 61) ≤ MB by omega) hW hF ht (fun j hj => absurd hj (by omega))
set_option maxHeartbeats 2000000 in
set_option maxRecDepth 20000 in
theorem law_line {X : jX} {nm : String} {hh : List (Nat × Nat × Nat × Nat)} {Q : jOut → jS → Prop} {s : Nat → Int} {N : Nat} {lu du tf : Nat → Int} {K M9 KB MB : Nat} {σ : jS} {pr : Int} {ln : Nat} {lw : Nat → Int} {bn : Nat → Nat} {cd sz : Nat → Nat → Nat} {ph : Nat → Nat → Int} {mn : Nat} {mg : Nat → Int} {kn : Nat} {kr : Nat → Int} {ks : Nat → Nat} {kt : Nat → Nat → Int} {rd : Nat} {rg : Nat → Int} {k : Nat} (hG : LG s N lu du pr bn cd kn kr ks tf) (hW : CW σ pr ln lw bn cd sz ph mn mg kn kr ks kt rd rg) (hI : CI pr ln lw bn cd sz ph mn mg kn kr ks kt rd rg) (hF : LF s N lu du σ) (ht : σ.2 37 = jI 492 tf) (hk : k < kn) (hK : K + 90 ≤ KB) (hM : M9 + 6 * 90 ≤ MB) (hKB : KB ≤ 500000) (hMB : MB ≤ 5000000) (hn : ∀ (σ' : jS) (K' M' : Nat), LSt s N lu du pr bn cd sz ph kn kr ks kt tf σ' → K' ≤ KB → M' ≤ MB → J X (mLw nm hh) rL_law 541 [.ref 4, .ref 5, .ref 37, vI ((kn : Nat) : Int), vI pr, .null, .null, vI ((bn 0 : Nat) : Int), vI ((k : Nat) : Int), .null, .null, .null, .null, .null, .null, .null, .null, .null] [] K' M' σ' Q) : J X (mLw nm hh) rL_law 183 [.ref 4, .ref 5, .ref 37, vI ((kn : Nat) : Int), vI pr, .null, .null, vI ((bn 0 : Nat) : Int), vI ((k : Nat) : Int), .null, .null, .null, .null, .null, .null, .null, .null, .null] [] K M9 σ Q := by
  obtain ⟨hN, hs, hlu, hdu, hpr2, hn6, hU, hkn6, hks, hkt, hb1⟩ := id hG
  obtain ⟨hpr, ⟨hln, hlw⟩, hbk, ⟨hmn, hmg⟩, hki, hrd, hrg⟩ := id hI
  obtain ⟨hb40, hC0, hS0, hP0⟩ := hbk 0 (by omega)
  have hkk := hks k hk
  have hk1 := hki.2.1 k hk
  refine J.ald_n dL_law_183 rfl ?_
  refine J.ild dL_law_184 rfl ?_
  refine J.callV (rm' := rX6_recall) [vI ((k : Nat) : Int)] dL_law_186 (c_recall_0 hW hI (p := k) hk) hW.1.1 rfl st_X6_recall ml_L_56 im_X6_recall se_X6_recall rfl (Nat.le_of_ble_eq_true rfl) (by decide) (by decide) (Nat.le_of_ble_eq_true rfl) (show K + 1 ≤ 600130 by omega) (show M9 + 6 ≤ 7301080 by omega) (Or.inr (fun E9 σ9 hq9 => nomatch hq9.1)) (fun E9 σ9 hq9 _ => nomatch hq9.1) (fun r9 σ1 hq9 hle9 => ?_)
  obtain ⟨h9, hC1, hr1⟩ := hq9
  cases h9
  clear hle9
  have hlw2 : ∀ t, 0 ≤ alF kr (ks k) (k * 41) 0 lw t ∧ alF kr (ks k) (k * 41) 0 lw t ≤ 9999 := alF_in (P := fun y => 0 ≤ y ∧ y ≤ 9999) _ _ _ _ (fun i hi => ⟨hki.2.2.2.1 k i hk hi, (hki.2.2.1 (k * 41 + i) (by omega)).2⟩) hlw
  have hl2 : ∀ i, i < ks k → alF kr (ks k) (k * 41) 0 lw i = kr (k * 41 + i) := fun i hi => by rw [alF_eq _ _ _ _ _ (by omega), if_pos (by omega)]; rfl
  generalize alF kr (ks k) (k * 41) 0 lw = w2 at hC1 hlw2 hl2
  have hI1 : CI pr (ks k) w2 bn cd sz ph mn mg kn kr ks kt rd rg := ⟨hpr, ⟨by omega, hlw2⟩, hbk, ⟨hmn, hmg⟩, hki, hrd, hrg⟩
  refine J.ist dL_law_189 (Nat.le_of_ble_eq_true rfl) (jnc_of rfl rfl) ?_
  refine J.ald_n dL_law_191 rfl ?_
  refine J.iconst dL_law_192 ?_
  refine J.callV (rm' := rX6_encode) [vI 0] dL_law_193 (c_encode_0 hC1 hI1 (b := 0) (by omega)) hC1.1.1 rfl st_X6_encode ml_L_59 im_X6_encode se_X6_encode rfl (Nat.le_of_ble_eq_true rfl) (by decide) (by decide) (Nat.le_of_ble_eq_true rfl) (show K + 1 + 1 ≤ 600130 by omega) (show M9 + 6 + 6 ≤ 7301080 by omega) (Or.inr (fun E9 σ9 hq9 => nomatch hq9.1)) (fun E9 σ9 hq9 _ => nomatch hq9.1) (fun r9 σ2 hq9 hle9 => ?_)
  obtain ⟨h9, hC2, hr2⟩ := hq9
  cases h9
  clear hle9
  have hmb := enU_bd (pk := pkC (bn 0) (cd 0) (sz 0) (ph 0) w2 0 (ks k) pr) (cd := cd 0) (sz := sz 0) (lw := w2) (ln := ks k) hC0 hlw2 40 0 0 mg (by omega) hmg
  obtain ⟨u, u1, -, u3, u4, u5⟩ := enU_msk (C := cd 0) (P := ph 0) (pr := pr) (ln := ks k) hS0 (fun t => (hlw2 t).1) 40 0 0 mg (Nat.zero_le _) (by omega)
  rw [Nat.zero_add] at u1
  have hcp := cv_plain (P := ph 0) (g := w2) (s := 0) (m := ks k) (pr := pr) hS0 (ks k) 0 (by omega)
  have hcb := cvC_bd (n := bn 0) (sz := sz 0) (ph := ph 0) (g := w2) (s := 0) (m := ks k) (pr := pr) hpr (by omega) 0
  have hpk : 0 ≤ pr * ((ks k : Nat) : Int) ∧ pr * ((ks k : Nat) : Int) ≤ 200 := by
    have h4 : pr = 2 ∨ pr = 3 ∨ pr = 4 ∨ pr = 5 := by omega
    rcases h4 with y | y | y | y <;> rw [y] <;> omega
  rw [u1] at hC2 hmb
  generalize enU (pkC (bn 0) (cd 0) (sz 0) (ph 0) w2 0 (ks k) pr) (cd 0) (sz 0) w2 (ks k) 40 0 0 mg = E9 at hC2 hmb u1 u3 u4
  obtain ⟨mn9, m9⟩ := E9
  have hC2 : CW σ2 pr (ks k) w2 bn cd sz ph u m9 kn kr ks kt rd rg := hC2
  have hI2 : CI pr (ks k) w2 bn cd sz ph u m9 kn kr ks kt rd rg := ⟨hpr, ⟨by omega, hlw2⟩, hbk, ⟨hmb.1, hmb.2⟩, hki, hrd, hrg⟩
  have u4' : csL m9 pr u 0 = cvC (bn 0) (sz 0) (ph 0) w2 0 (ks k) pr 0 := u4
  have htl := tmL_lo (m := m9) (fun i hi => (hlu i hi).1) (fun i hi => (hdu i hi).1) u 0
  have htu := tmL_bd (m := m9) (lu := lu) (du := du) (fun i hi => ⟨by have := (hlu i hi).1; omega, (hlu i hi).2⟩) (fun i hi => ⟨by have := (hdu i hi).1; omega, (hdu i hi).2⟩) u 0
  generalize cvC (bn 0) (sz 0) (ph 0) w2 0 (ks k) pr 0 = cv at hcp hcb u4' ⊢
  refine J.ist dL_law_196 (Nat.le_of_ble_eq_true rfl) (jnc_of rfl rfl) ?_
  refine J.ild dL_law_198 rfl ?_
  refine J.ild dL_law_200 rfl ?_
  refine J.ild dL_law_202 rfl ?_
  refine J.imul dL_law_204 ?_
  refine J.icmp_gt dL_law_205 (by decide) (tgt := 240) (by unfold inI; omega) (by unfold inI; omega) (fun h1 => ?_) (fun h1 => ?_)
  · omega
  · refine J.ild dL_law_208 rfl ?_
    refine J.ald_n dL_law_210 rfl ?_
    refine J.callV (rm' := rX6_cost) [] dL_law_211 (c_cost hC2 hI2) hC2.1.1 rfl st_X6_cost ml_L_62 im_X6_cost se_X6_cost rfl (Nat.le_of_ble_eq_true rfl) (by decide) (by decide) (Nat.le_of_ble_eq_true rfl) (show K + 1 + 1 + 0 ≤ 600130 by omega) (show M9 + 6 + 6 + 0 ≤ 7301080 by omega) (Or.inr (fun E9 σ9 hq9 => nomatch hq9.1)) (fun E9 σ9 hq9 _ => nomatch hq9.1) (fun r9 σ3 hq9 hle9 => ?_)
    obtain ⟨h9, hC3, hr3⟩ := hq9
    cases h9
    clear hle9
    rw [show csL m9 pr u 0 = cv from u4']
    refine J.icmp_ne dL_law_214 (by decide) (tgt := 240) (by unfold inI; omega) (by unfold inI; omega) (fun h2 => ?_) (fun h2 => ?_)
    · exact absurd rfl h2
    · refine J.ald_n dL_law_217 rfl ?_
      refine J.callV (rm' := rX6_groups) [] dL_law_218 (c_groups hC3 hI2) hC3.1.1 rfl st_X6_groups ml_L_65 im_X6_groups se_X6_groups rfl (Nat.le_of_ble_eq_true rfl) (by decide) (by decide) (Nat.le_of_ble_eq_true rfl) (show K + 1 + 1 + 0 + 0 ≤ 600130 by omega) (show M9 + 6 + 6 + 0 + 0 ≤ 7301080 by omega) (Or.inr (fun E9 σ9 hq9 => nomatch hq9.1)) (fun E9 σ9 hq9 _ => nomatch hq9.1) (fun r9 σ4 hq9 hle9 => ?_)
      obtain ⟨h9, hC4, hr4⟩ := hq9
      cases h9
      clear hle9
      refine J.ild dL_law_221 rfl ?_
      refine J.icmp_gt dL_law_223 (by decide) (tgt := 240) (by unfold inI; omega) (by unfold inI; omega) (fun h3 => ?_) (fun h3 => ?_)
      · omega
      · refine J.ald_n dL_law_226 rfl ?_
        refine J.callV (rm' := rX6_time) [] dL_law_227 (c_time hC4 hI2 ((hr4.2 _ (by omega)).trans ((hr3.2 _ (by omega)).trans ((hr2.2 _ (by omega)).trans ((hr1.2 _ (by omega)).trans hF.2.1.1)))) ((hr4.2 _ (by omega)).trans ((hr3.2 _ (by omega)).trans ((hr2.2 _ (by omega)).trans ((hr1.2 _ (by omega)).trans hF.2.1.2))))) hC4.1.1 rfl st_X6_time ml_L_68 im_X6_time se_X6_time rfl (Nat.le_of_ble_eq_true rfl) (by decide) (by decide) (Nat.le_of_ble_eq_true rfl) (show K + 1 + 1 + 0 + 0 + 0 ≤ 600130 by omega) (show M9 + 6 + 6 + 0 + 0 + 0 ≤ 7301080 by omega) (Or.inr (fun E9 σ9 hq9 => nomatch hq9.1)) (fun E9 σ9 hq9 _ => nomatch hq9.1) (fun r9 σ5 hq9 hle9 => ?_)
        obtain ⟨h9, hC5, hr5⟩ := hq9
        cases h9
        clear hle9
        refine J.bipush dL_law_230 (by decide) ?_
        refine J.ald_n dL_law_232 rfl ?_
        refine J.callV (rm' := rX6_groups) [] dL_law_233 (c_groups hC5 hI2) hC5.1.1 rfl st_X6_groups ml_L_65 im_X6_groups se_X6_groups rfl (Nat.le_of_ble_eq_true rfl) (by decide) (by decide) (Nat.le_of_ble_eq_true rfl) (show K + 1 + 1 + 0 + 0 + 0 + 0 ≤ 600130 by omega) (show M9 + 6 + 6 + 0 + 0 + 0 + 0 ≤ 7301080 by omega) (Or.inr (fun E9 σ9 hq9 => nomatch hq9.1)) (fun E9 σ9 hq9 _ => nomatch hq9.1) (fun r9 σ6 hq9 hle9 => ?_)
        obtain ⟨h9, hC6, hr6⟩ := hq9
        cases h9
        clear hle9
        refine J.imul dL_law_236 ?_
        rw [show (17 : Int) * ((u : Nat) : Int) = ((17 * u : Nat) : Int) from by push_cast; rfl]
        refine J.icmp_ge dL_law_237 (by decide) (tgt := 242) (by unfold inI; omega) (by unfold inI; omega) (fun h4 => ?_) (fun h4 => ?_)
        · refine J.forget [.ref 4, .ref 5, .ref 37, vI ((kn : Nat) : Int), vI pr, .null, .null, vI ((bn 0 : Nat) : Int), vI ((k : Nat) : Int), vI ((ks k : Nat) : Int), .null, .null, .null, .null, .null, .null, .null, .null] ⟨Or.inr rfl, ⟨Or.inr rfl, ⟨Or.inr rfl, ⟨Or.inr rfl, ⟨Or.inr rfl, ⟨Or.inl rfl, ⟨Or.inl rfl, ⟨Or.inr rfl, ⟨Or.inr rfl, ⟨Or.inr rfl, ⟨Or.inl rfl, ⟨Or.inl rfl, ⟨Or.inl rfl, ⟨Or.inl rfl, ⟨Or.inl rfl, ⟨Or.inl rfl, ⟨Or.inl rfl, ⟨Or.inl rfl, trivial⟩⟩⟩⟩⟩⟩⟩⟩⟩⟩⟩⟩⟩⟩⟩⟩⟩⟩ ?_
          exact law_find hG hC6 hI2 ((((((hF.kept hr1).kept hr2).kept hr3).kept hr4).kept hr5).kept hr6) ((hr6.2 _ (by omega)).trans ((hr5.2 _ (by omega)).trans ((hr4.2 _ (by omega)).trans ((hr3.2 _ (by omega)).trans ((hr2.2 _ (by omega)).trans ((hr1.2 _ (by omega)).trans ht)))))) hk hl2 u3 (by omega) (show K + 1 + 1 + 0 + 0 + 0 + 0 + 80 ≤ KB by omega) (show M9 + 6 + 6 + 0 + 0 + 0 + 0 + 6 * 80 ≤ MB by omega) hKB hMB hn
        · omega
