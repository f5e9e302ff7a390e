/-! ===== the law: learning; the law from its entry ===== -/
set_option maxHeartbeats 2000000 in
set_option maxRecDepth 20000 in
theorem law_learn {X : jX} {nm : String} {hh : List (Nat × Nat × Nat × Nat)} {Q : jOut → jS → Prop} {s : Nat → Int} {N : Nat} {lu du tf : Nat → Int} {pr : Int} {kn : Nat} {kr : Nat → Int} {ks : Nat → Nat} {kt : Nat → Nat → Int} (hN : N ≤ 260) (hs : ∀ j, inI (s j)) (hlu : ∀ i, i < 26 → ((1 : Nat) : Int) ≤ lu i ∧ lu i ≤ 100) (hdu : ∀ i, i < 10 → ((9 : Nat) : Int) ≤ du i ∧ du i ≤ 100) (hpr2 : 2 ≤ pr ∧ pr ≤ 5) (hkn6 : 1 ≤ kn ∧ kn ≤ 6) (hks : ∀ j, j < kn → ks j ≤ 14) (hkt : ∀ j i, j < kn → i < ks j → tf (41 * j + 1 + i) = kr (j * 41 + i)) (hQ : ∀ σ' : jS, Q (oI 1) σ') : ∀ (t time K9 M8 : Nat) (σ : jS) (ln : Nat) (lw : Nat → Int) (bn : Nat → Nat) (cd sz : Nat → Nat → Nat) (ph : Nat → Nat → Int) (mn : Nat) (mg : Nat → Int) (rd : Nat) (rg : Nat → Int), time + t = 3 → K9 + 10 * t ≤ 40000 → M8 + 60 * t ≤ 400000 → CW σ pr ln lw bn cd sz ph mn mg kn kr ks kt rd rg → CI pr ln lw bn cd sz ph mn mg kn kr ks kt rd rg → LF s N lu du σ → σ.2 37 = jI 492 tf → LkI (bn 0) (cd 0) → bn 0 ≤ 2 * time → bn 1 = 0 → J X (mLw nm hh) rL_law 71 [.ref 4, .ref 5, .ref 37, vI ((kn : Nat) : Int), vI pr, .double (shV (shC (bn 0) (sz 0) (ph 0) kr ks pr kn 0) (pr * ((shA ks kn 0 : Nat) : Int))), .null, vI ((time : Nat) : Int), .null, .null, .null, .null, .null, .null, .null, .null, .null, .null] [] K9 M8 σ Q := by
  intro t
  induction t with
  | zero =>
    intro time K9 M8 σ ln lw bn cd sz ph mn mg rd rg htm hK9 hM8 hW hI hF ht hU hn2 hb1
    obtain ⟨hpr, ⟨hln, hlw⟩, hbk, ⟨hmn, hmg⟩, hki, hrd, hrg⟩ := id hI
    refine J.ild dL_law_71 rfl ?_
    refine J.iconst dL_law_73 ?_
    refine J.icmp_ge dL_law_74 (by decide) (tgt := 110) (by unfold inI; omega) (by unfold inI; omega) (fun h => ?_) (fun h => ?_)
    · refine J.forget [.ref 4, .ref 5, .ref 37, vI ((kn : Nat) : Int), vI pr, .null, .null, .null, .null, .null, .null, .null, .null, .null, .null, .null, .null, .null] ⟨Or.inr rfl, ⟨Or.inr rfl, ⟨Or.inr rfl, ⟨Or.inr rfl, ⟨Or.inr rfl, ⟨Or.inl rfl, ⟨Or.inl rfl, ⟨Or.inl rfl, ⟨Or.inl rfl, ⟨Or.inl rfl, ⟨Or.inl rfl, ⟨Or.inl rfl, ⟨Or.inl rfl, ⟨Or.inl rfl, ⟨Or.inl rfl, ⟨Or.inl rfl, ⟨Or.inl rfl, ⟨Or.inl rfl, trivial⟩⟩⟩⟩⟩⟩⟩⟩⟩⟩⟩⟩⟩⟩⟩⟩⟩⟩ ?_
      exact law_pairs ⟨hN, hs, hlu, hdu, hpr2, by omega, hU, hkn6, hks, hkt, hb1⟩ hW hI hF ht (by omega) (by omega) hQ
    · omega
  | succ t ih =>
    intro time K9 M8 σ ln lw bn cd sz ph mn mg rd rg htm hK9 hM8 hW hI hF ht hU hn2 hb1
    obtain ⟨hpr, ⟨hln, hlw⟩, hbk, ⟨hmn, hmg⟩, hki, hrd, hrg⟩ := id hI
    refine J.ild dL_law_71 rfl ?_
    refine J.iconst dL_law_73 ?_
    refine J.icmp_ge dL_law_74 (by decide) (tgt := 110) (by unfold inI; omega) (by unfold inI; omega) (fun h => ?_) (fun h => ?_)
    · omega
    · obtain ⟨hb40, hC0, hS0, hP0⟩ := hbk 0 (by omega)
      obtain ⟨w1, w2⟩ := shA_rng (ks := ks) kn 0 (fun j _ hj => ⟨(hki.2.1 j (by omega)).1, hks j (by omega)⟩)
      have hgr := lnU_grw (kn := kn) (kr := kr) (kt := kt) (pr := pr) 2 0 (bn 0) (cd 0) (sz 0) (ph 0) lw hU
      have hbd := lnU_bd (kt := kt) (pr := pr) hki 2 0 (bn 0) (cd 0) (sz 0) (ph 0) lw hb40 hC0 hS0 hP0 hlw
      refine J.ald_n dL_law_77 rfl ?_
      refine J.iconst dL_law_78 ?_
      refine J.iconst dL_law_79 ?_
      refine J.callV (rm' := rX6_learn) [vI 0, vI 2] dL_law_80 (c_learn_0 hW hI (b := 0) (m := 2) (by omega) (by omega)) hW.1.1 rfl st_X6_learn ml_L_43 im_X6_learn se_X6_learn rfl (Nat.le_of_ble_eq_true rfl) (by decide) (by decide) (Nat.le_of_ble_eq_true rfl) (show K9 + 2 ≤ 600130 by omega) (show M8 + 12 ≤ 7301080 by omega) (Or.inr (fun E9 σ9 hq9 => nomatch hq9.1)) (fun E9 σ9 hq9 _ => nomatch hq9.1) (fun r9 σ1 hq9 hle9 => ?_)
      obtain ⟨h9, hC1, hr1⟩ := hq9
      cases h9
      clear hle9
      generalize lnU kn kr kt pr 2 0 (bn 0) (cd 0) (sz 0) (ph 0) lw = r9 at hC1 hgr hbd ⊢
      obtain ⟨d9, n9, C9, S9, P9, w9⟩ := r9
      have hC1 : CW σ1 pr 0 w9 (jup bn 0 n9) (jup cd 0 C9) (jup sz 0 S9) (jup ph 0 P9) mn mg kn kr ks kt rd rg := hC1
      obtain ⟨hU9, hG9, hn9⟩ : LkI n9 C9 ∧ Grw (bn 0) (sz 0) (ph 0) n9 S9 P9 ∧ n9 ≤ bn 0 + 2 := hgr
      obtain ⟨-, b1, b2, b3, b4, b5⟩ : d9 ≤ 0 + 2 ∧ n9 ≤ 40 ∧ (∀ e, C9 e ≤ 11881375) ∧ (∀ e, e < n9 → 1 ≤ S9 e ∧ S9 e ≤ 6) ∧ (∀ i, 0 ≤ P9 i ∧ P9 i ≤ 9999) ∧ ∀ i, 0 ≤ w9 i ∧ w9 i ≤ 9999 := hbd
      have hI1 : CI pr 0 w9 (jup bn 0 n9) (jup cd 0 C9) (jup sz 0 S9) (jup ph 0 P9) mn mg kn kr ks kt rd rg := ⟨hpr, ⟨by omega, b5⟩, bkUp hbk 0 b1 b2 b3 b4, ⟨hmn, hmg⟩, hki, hrd, hrg⟩
      refine J.pop dL_law_83 rfl ?_
      refine J.ald_n dL_law_84 rfl ?_
      refine J.iconst dL_law_85 ?_
      refine J.callV (rm' := rX6_share) [vI 0] dL_law_86 (c_share_0 hC1 hI1 (b := 0) (by omega)) hC1.1.1 rfl st_X6_share ml_L_39 im_X6_share se_X6_share rfl (Nat.le_of_ble_eq_true rfl) (by decide) (by decide) (Nat.le_of_ble_eq_true rfl) (show K9 + 2 + 1 ≤ 600130 by omega) (show M8 + 12 + 6 ≤ 7301080 by omega) (Or.inr (fun E9 σ9 hq9 => nomatch hq9.1)) (fun E9 σ9 hq9 _ => nomatch hq9.1) (fun r9 σ2 hq9 hle9 => ?_)
      obtain ⟨h9, hC2, hr2⟩ := hq9
      cases h9
      clear hle9
      refine J.dld dL_law_89 rfl ?_
      obtain ⟨v, hv, hv2⟩ : ∃ v : Int, Op.cmpValue (FP.dcmp (shV (shC (jup bn 0 n9 0) (jup sz 0 S9 0) (jup ph 0 P9 0) kr ks pr kn 0) (pr * ((shA ks kn 0 : Nat) : Int))) (shV (shC (bn 0) (sz 0) (ph 0) kr ks pr kn 0) (pr * ((shA ks kn 0 : Nat) : Int)))) .l = iI v ∧ (v = -1 ∨ v = 0) := by
        rw [jup_eq, jup_eq, jup_eq]
        exact shV_le hpr2 (by omega) (shC_bd hpr kn 0 (fun j _ hj => (hki.2.1 j (by omega)).2)).1 (sh_mono hG9 hS0 b3 kn 0) (sh_plain hS0 kn 0)
      refine J.dcmp dL_law_91 ?_
      rw [hv]
      refine J.if_le dL_law_92 (by decide) (tgt := 97) (by unfold inI; omega) (fun h2 => ?_) (fun h2 => ?_)
      · refine J.ald_n dL_law_97 rfl ?_
        refine J.iconst dL_law_98 ?_
        refine J.callV (rm' := rX6_share) [vI 0] dL_law_99 (c_share_0 hC2 hI1 (b := 0) (by omega)) hC2.1.1 rfl st_X6_share ml_L_39 im_X6_share se_X6_share rfl (Nat.le_of_ble_eq_true rfl) (by decide) (by decide) (Nat.le_of_ble_eq_true rfl) (show K9 + 2 + 1 + 1 ≤ 600130 by omega) (show M8 + 12 + 6 + 6 ≤ 7301080 by omega) (Or.inr (fun E9 σ9 hq9 => nomatch hq9.1)) (fun E9 σ9 hq9 _ => nomatch hq9.1) (fun r9 σ3 hq9 hle9 => ?_)
        obtain ⟨h9, hC3, hr3⟩ := hq9
        cases h9
        clear hle9
        refine J.dst dL_law_102 (Nat.le_of_ble_eq_true rfl) (jnc_of rfl rfl) ?_
        refine J.iinc (v := ((time + 1 : Nat) : Int)) dL_law_104 rfl (by first | rfl | omega) (Nat.le_of_ble_eq_true rfl) (jnc_of rfl rfl) ?_
        refine J.goto dL_law_107 (by decide) (tgt := 71) ?_
        exact ih (time + 1) _ _ σ3 0 w9 _ _ _ _ mn mg rd rg (by omega) (show K9 + 2 + 1 + 1 + 10 * t ≤ 40000 by omega) (show M8 + 12 + 6 + 6 + 60 * t ≤ 400000 by omega) hC3 hI1 (((hF.kept hr1).kept hr2).kept hr3) ((hr3.2 _ (by omega)).trans ((hr2.2 _ (by omega)).trans ((hr1.2 _ (by omega)).trans ht))) (by rw [jup_eq, jup_eq]; exact hU9) (by rw [jup_eq]; omega) (by rw [jup_ne _ _ (by omega)]; exact hb1)
      · omega
set_option maxHeartbeats 2000000 in
set_option maxRecDepth 20000 in
theorem law_shr {X : jX} {nm : String} {hh : List (Nat × Nat × Nat × Nat)} {Q : jOut → jS → Prop} {s : Nat → Int} {N : Nat} {lu du tf : Nat → Int} {K M9 : Nat} {σ : jS} {pr : Int} {ln : Nat} {lw : Nat → Int} {bn : Nat → Nat} {cd sz : Nat → Nat → Nat} {ph : Nat → Nat → Int} {mn : Nat} {mg : Nat → Int} {kn : Nat} {kr : Nat → Int} {ks : Nat → Nat} {kt : Nat → Nat → Int} {rd : Nat} {rg : Nat → Int} (hN : N ≤ 260) (hs : ∀ j, inI (s j)) (hlu : ∀ i, i < 26 → ((1 : Nat) : Int) ≤ lu i ∧ lu i ≤ 100) (hdu : ∀ i, i < 10 → ((9 : Nat) : Int) ≤ du i ∧ du i ≤ 100) (hpr2 : 2 ≤ pr ∧ pr ≤ 5) (hkn6 : 1 ≤ kn ∧ kn ≤ 6) (hks : ∀ j, j < kn → ks j ≤ 14) (hkt : ∀ j i, j < kn → i < ks j → tf (41 * j + 1 + i) = kr (j * 41 + i)) (hQ : ∀ σ' : jS, Q (oI 1) σ') (hW : CW σ pr ln lw bn cd sz ph mn mg kn kr ks kt rd rg) (hI : CI pr ln lw bn cd sz ph mn mg kn kr ks kt rd rg) (hF : LF s N lu du σ) (ht : σ.2 37 = jI 492 tf) (hb0 : bn 0 = 0) (hb1 : bn 1 = 0) (hK : K ≤ 1000) (hM : M9 ≤ 20000) : J X (mLw nm hh) rL_law 61 [.ref 4, .ref 5, .ref 37, vI ((kn : Nat) : Int), vI pr, .null, .null, .null, .null, .null, .null, .null, .null, .null, .null, .null, .null, .null] [] K M9 σ Q := by
  refine J.ald_n dL_law_61 rfl ?_
  refine J.iconst dL_law_62 ?_
  refine J.callV (rm' := rX6_share) [vI 0] dL_law_63 (c_share_0 hW hI (b := 0) (by omega)) hW.1.1 rfl st_X6_share ml_L_39 im_X6_share se_X6_share rfl (Nat.le_of_ble_eq_true rfl) (by decide) (by decide) (Nat.le_of_ble_eq_true rfl) (show K + 1 ≤ 600130 by omega) (show M9 + 6 ≤ 7301080 by omega) (Or.inr (fun E9 σ9 hq9 => nomatch hq9.1)) (fun E9 σ9 hq9 _ => nomatch hq9.1) (fun r9 σ5 hq9 hle9 => ?_)
  obtain ⟨h9, hC5, hr5⟩ := hq9
  cases h9
  clear hle9
  refine J.dst dL_law_66 (Nat.le_of_ble_eq_true rfl) (jnc_of rfl rfl) ?_
  refine J.iconst dL_law_68 ?_
  refine J.ist dL_law_69 (Nat.le_of_ble_eq_true rfl) (jnc_of rfl rfl) ?_
  exact law_learn hN hs hlu hdu hpr2 hkn6 hks hkt hQ 3 0 _ _ σ5 ln lw bn cd sz ph mn mg rd rg (by omega) (show K + 1 + 10 * 3 ≤ 40000 by omega) (show M9 + 6 + 60 * 3 ≤ 400000 by omega) hC5 hI (hF.kept hr5) ((hr5.2 _ (by omega)).trans ht) (fun a b _ h => absurd h (by omega)) (by omega) hb1
set_option maxHeartbeats 2000000 in
set_option maxRecDepth 20000 in
theorem c_L_law {X : jX} {nm : String} {hh : List (Nat × Nat × Nat × Nat)} {σ : jS} {s : Nat → Int} {N : Nat} {lu du : Nat → Int} (hN5 : σ.1 = 5) (hN : N ≤ 260) (hs : ∀ j, inI (s j)) (hlu : ∀ i, i < 26 → ((1 : Nat) : Int) ≤ lu i ∧ lu i ≤ 100) (hdu : ∀ i, i < 10 → ((9 : Nat) : Int) ≤ du i ∧ du i ≤ 100) (e4 : σ.2 4 = jI N s) (h0 : σ.2 0 = jI 26 lu) (h1 : σ.2 1 = jI 10 du) : JM X (mLw nm hh) rL_law [.ref 4] σ (fun o _ => o = oI 1) := by
  refine JM.of (lc := [.ref 4, .null, .null, .null, .null, .null, .null, .null, .null, .null, .null, .null, .null, .null, .null, .null, .null, .null]) rfl ?_
  refine no_X6 5 (show σ.1 = 5 from hN5) dL_law_0 cl_L_23 (by decide) (by decide) ?_
  refine J.dup dL_law_3 rfl ?_
  refine J.callI (rm' := rX6_init) [] dL_law_4 (c_X6_init (show (jpush σ (jO 5 [.null, .null, .null, .null, .null, .null, vI 0, vI 0])).1 = 6 from by show σ.1 + 1 = 6; omega) (jpush_eq hN5)) st_X6_init rfl rfl ml_L_32 im_X6_init rfl (Nat.le_of_ble_eq_true rfl) (by decide) (by decide) (Nat.le_of_ble_eq_true rfl) (by decide) (by decide) (fun E9 σ9 hq9 => nomatch hq9.1) (fun r9 σ1 hq9 hle9 => ?_)
  obtain ⟨h9, hW, hn1, hj1⟩ := hq9
  cases h9
  clear hle9
  refine J.ast_n dL_law_7 (Nat.le_of_ble_eq_true rfl) (jnc_of rfl rfl) ?_
  refine J.sipush dL_law_8 (by decide) ?_
  refine J.newIx 492 37 hn1 dL_law_11 rfl (by omega) (by decide) (by decide) ac_int ?_
  refine J.ast_n dL_law_13 (Nat.le_of_ble_eq_true rfl) (jnc_of rfl rfl) ?_
  refine J.widen 100 10000 (by decide) (by decide) ?_
  have hs1 : ∀ j, j < 5 → σ1.2 j = σ.2 j := fun j hj => (hj1 j hj).trans (jpush_ne hN5 (by omega))
  have hW2 : CW (jpush σ1 (jI 492 (fun _ => 0))) 2 0 (fun _ => 0) (fun _ => 0) (fun _ _ => 0) (fun _ _ => 0) (fun _ _ => 0) 0 (fun _ => 0) 0 (flF (fun _ => 0) 492 (-1)) (fun _ => 0) (fun _ _ => 0) 0 (fun _ => 0) := hW.keep (fun j hj => jpush_ne hn1 (by omega))
  have ht2 : (jpush σ1 (jI 492 (fun _ => 0))).2 37 = jI 492 (fun _ => 0) := jpush_eq hn1
  have hF2 : LF s N lu du (jpush σ1 (jI 492 (fun _ => 0))) := ⟨(jpush_ne hn1 (by omega)).trans ((hs1 4 (by omega)).trans e4), ⟨(jpush_ne hn1 (by omega)).trans ((hs1 0 (by omega)).trans h0), (jpush_ne hn1 (by omega)).trans ((hs1 1 (by omega)).trans h1)⟩, by show σ1.1 + 1 = 38; omega⟩
  generalize jpush σ1 (jI 492 (fun _ => 0)) = σ2 at hW2 ht2 hF2 ⊢
  refine J.ald_n dL_law_14 rfl ?_
  refine J.ald_n dL_law_15 rfl ?_
  refine J.iconst dL_law_16 ?_
  refine J.iconst dL_law_17 ?_
  refine J.ald_n dL_law_18 rfl ?_
  refine J.bipush dL_law_19 (by decide) ?_
  refine J.callS (rm' := rL_cell) [.ref 4, vI 7] dL_law_21 (l_cell (k := 7) hF2.1 (by omega) (by omega) hs) st_L_cell ml_L_15 sm_L_cell rfl (Nat.le_of_ble_eq_true rfl) (by decide) (by decide) (Nat.le_of_ble_eq_true rfl) (show 100 + 0 ≤ 600130 by omega) (show 10000 + 0 ≤ 7301080 by omega) (Or.inr (fun E9 σ9 hq9 => nomatch hq9.1.choose_spec.2)) (fun E9 σ9 hq9 _ => nomatch hq9.1.choose_spec.2) (fun r9 σ9 hq9 hle9 => ?_)
  obtain ⟨⟨x1, hx1, h9⟩, h8⟩ := hq9
  rw [h8]
  clear hle9 h8 σ9
  cases h9
  refine J.iconst dL_law_24 ?_
  refine J.callS (rm' := rL_below) [vI x1, vI 5] dL_law_25 (l_below (x := x1) (n := 5) (by omega)) st_L_below ml_L_19 sm_L_below rfl (Nat.le_of_ble_eq_true rfl) (by decide) (by decide) (Nat.le_of_ble_eq_true rfl) (show 100 + 0 + 0 ≤ 600130 by omega) (show 10000 + 0 + 0 ≤ 7301080 by omega) (Or.inr (fun E9 σ9 hq9 => nomatch hq9.1.choose_spec.2)) (fun E9 σ9 hq9 _ => nomatch hq9.1.choose_spec.2) (fun r9 σ9 hq9 hle9 => ?_)
  obtain ⟨⟨c1, hc1, h9⟩, h8⟩ := hq9
  rw [h8]
  clear hle9 h8 σ9
  cases h9
  refine J.iadd dL_law_28 ?_
  rw [show (1 : Int) + ((c1 : Nat) : Int) = ((1 + c1 : Nat) : Int) from by push_cast; rfl]
  generalize hWg : 1 + c1 = W
  have hWb : 1 ≤ W ∧ W ≤ 5 := by omega
  refine J.ald_n dL_law_29 rfl ?_
  refine J.callS (rm' := rL_keep) [.ref 5, .ref 4, vI 0, vI ((W : Nat) : Int), .ref 37] dL_law_30 (l_keep hW2 CI_0 hF2 ht2 hN hs hWb) st_L_keep ml_L_33 sm_L_keep rfl (Nat.le_of_ble_eq_true rfl) (by decide) (by decide) (Nat.le_of_ble_eq_true rfl) (show 100 + 0 + 0 + 200 ≤ 600130 by omega) (show 10000 + 0 + 0 + 1200 ≤ 7301080 by omega) (Or.inr (fun E9 σ9 hq9 => (by obtain ⟨_, _, _, _, _, _, z0, _⟩ := hq9; cases z0))) (fun E9 σ9 hq9 _ => (by obtain ⟨_, _, _, _, _, _, z0, _⟩ := hq9; cases z0)) (fun r9 σ3 hq9 hle9 => ?_)
  obtain ⟨kn, lw, kr, ks, kt, tf, h9, hkn, hC3, hI3, hks, ht3, hkt, hF3⟩ := hq9
  cases h9
  clear hle9
  refine J.ist_n dL_law_33 (Nat.le_of_ble_eq_true rfl) (jnc_of rfl rfl) ?_
  refine J.ild_n dL_law_34 rfl ?_
  refine J.if_ge dL_law_35 (by decide) (tgt := 40) (by unfold inI; omega) (fun hg => ?_) (fun hg => ?_)
  · refine J.iconst dL_law_40 ?_
    refine J.ald_n dL_law_41 rfl ?_
    refine J.bipush dL_law_42 (by decide) ?_
    refine J.callS (rm' := rL_cell) [.ref 4, vI 8] dL_law_44 (l_cell (k := 8) hF3.1 (by omega) (by omega) hs) st_L_cell ml_L_15 sm_L_cell rfl (Nat.le_of_ble_eq_true rfl) (by decide) (by decide) (Nat.le_of_ble_eq_true rfl) (show 100 + 0 + 0 + 200 + 0 ≤ 600130 by omega) (show 10000 + 0 + 0 + 1200 + 0 ≤ 7301080 by omega) (Or.inr (fun E9 σ9 hq9 => nomatch hq9.1.choose_spec.2)) (fun E9 σ9 hq9 _ => nomatch hq9.1.choose_spec.2) (fun r9 σ9 hq9 hle9 => ?_)
    obtain ⟨⟨x2, hx2, h9⟩, h8⟩ := hq9
    rw [h8]
    clear hle9 h8 σ9
    cases h9
    refine J.iconst dL_law_47 ?_
    refine J.callS (rm' := rL_below) [vI x2, vI 4] dL_law_48 (l_below (x := x2) (n := 4) (by omega)) st_L_below ml_L_19 sm_L_below rfl (Nat.le_of_ble_eq_true rfl) (by decide) (by decide) (Nat.le_of_ble_eq_true rfl) (show 100 + 0 + 0 + 200 + 0 + 0 ≤ 600130 by omega) (show 10000 + 0 + 0 + 1200 + 0 + 0 ≤ 7301080 by omega) (Or.inr (fun E9 σ9 hq9 => nomatch hq9.1.choose_spec.2)) (fun E9 σ9 hq9 _ => nomatch hq9.1.choose_spec.2) (fun r9 σ9 hq9 hle9 => ?_)
    obtain ⟨⟨c2, hc2, h9⟩, h8⟩ := hq9
    rw [h8]
    clear hle9 h8 σ9
    cases h9
    refine J.iadd dL_law_51 ?_
    rw [show (2 : Int) + ((c2 : Nat) : Int) = ((2 + c2 : Nat) : Int) from by push_cast; rfl]
    generalize hprg : ((2 + c2 : Nat) : Int) = pr
    have hpr2 : 2 ≤ pr ∧ pr ≤ 5 := by omega
    refine J.ist dL_law_52 (Nat.le_of_ble_eq_true rfl) (jnc_of rfl rfl) ?_
    refine J.ald_n dL_law_54 rfl ?_
    refine J.ild dL_law_55 rfl ?_
    refine J.callV (rm' := rX6_setPrice) [vI pr] dL_law_57 (c_setPrice_0 hC3 hI3 (a := pr) (by omega)) hC3.1.1 rfl st_X6_setPrice ml_L_36 im_X6_setPrice se_X6_setPrice rfl (Nat.le_of_ble_eq_true rfl) (by decide) (by decide) (Nat.le_of_ble_eq_true rfl) (show 100 + 0 + 0 + 200 + 0 + 0 + 1 ≤ 600130 by omega) (show 10000 + 0 + 0 + 1200 + 0 + 0 + 6 ≤ 7301080 by omega) (Or.inr (fun E9 σ9 hq9 => nomatch hq9.1)) (fun E9 σ9 hq9 _ => nomatch hq9.1) (fun r9 σ4 hq9 hle9 => ?_)
    obtain ⟨h9, hC4, hr4⟩ := hq9
    cases h9
    clear hle9
    obtain ⟨-, q1, q2, q3, q4, q5, q6⟩ := id hI3
    have hI4 : CI pr 0 lw (fun _ => 0) (fun _ _ => 0) (fun _ _ => 0) (fun _ _ => 0) 0 (fun _ => 0) kn kr ks kt 0 (fun _ => 0) := ⟨by omega, q1, q2, q3, q4, q5, q6⟩
    refine J.pop dL_law_60 rfl ?_
    exact law_shr (bn := fun _ => 0) (cd := fun _ _ => 0) (sz := fun _ _ => 0) (ph := fun _ _ => 0) hN hs hlu hdu hpr2 hkn hks hkt (fun _ => rfl) hC4 hI4 (hF3.kept hr4) ((hr4.2 _ (by omega)).trans ht3) rfl rfl (show 100 + 0 + 0 + 200 + 0 + 0 + 1 ≤ 1000 by omega) (show 10000 + 0 + 0 + 1200 + 0 + 0 + 6 ≤ 20000 by omega)
  · omega
