/-! ===== the law: a letter garbled ===== -/
theorem ofR_le (a b : Nat) : ofR a b ≤ 3 := by
  unfold ofR ofE
  split
  · omega
  · split <;> omega
set_option maxHeartbeats 2000000 in
set_option maxRecDepth 20000 in
theorem law_grb {X : jX} {nm : String} {hh : List (Nat × Nat × Nat × Nat)} {Q : jOut → jS → Prop} {s : Nat → Int} {N : Nat} {lu du tf : Nat → Int} {K M9 KB MB : Nat} {σ : jS} {pr : Int} {lw : Nat → Int} {bn : Nat → Nat} {cd sz : Nat → Nat → Nat} {ph : Nat → Nat → Int} {mn : Nat} {mg : Nat → Int} {kn : Nat} {kr : Nat → Int} {ks : Nat → Nat} {kt : Nat → Nat → Int} {rd : Nat} {rg : Nat → Int} {k q : Nat} (hG : LG s N lu du pr bn cd kn kr ks tf) (hW : CW σ pr (ks k) lw bn cd sz ph mn mg kn kr ks kt rd rg) (hI : CI pr (ks k) lw bn cd sz ph mn mg kn kr ks kt rd rg) (hF : LF s N lu du σ) (ht : σ.2 37 = jI 492 tf) (hk : k < kn) (hl : ∀ i, i < ks k → lw i = kr (k * 41 + i)) (hMs : MsK (bn 0) (cd 0) (sz 0) (ph 0) lw (ks k) mg mn 0 0) (hq : q < mn) (hq0 : 0 ≤ mg q) (hK : K + 60 ≤ KB) (hM : M9 + 6 * 60 ≤ MB) (hKB : KB ≤ 500000) (hMB : MB ≤ 5000000) (hn : ∀ (σ' : jS) (K' M' : Nat), LSt s N lu du pr bn cd sz ph kn kr ks kt tf σ' → K' ≤ KB → M' ≤ MB → J X (mLw nm hh) rL_law 541 [.ref 4, .ref 5, .ref 37, vI ((kn : Nat) : Int), vI pr, .null, .null, vI ((bn 0 : Nat) : Int), vI ((k : Nat) : Int), .null, .null, .null, .null, .null, .null, .null, .null, .null] [] K' M' σ' Q) : J X (mLw nm hh) rL_law 284 [.ref 4, .ref 5, .ref 37, vI ((kn : Nat) : Int), vI pr, .null, .null, vI ((bn 0 : Nat) : Int), vI ((k : Nat) : Int), vI ((ks k : Nat) : Int), .null, vI 0, vI ((q : Nat) : Int), .null, .null, .null, .null, .null] [] K M9 σ Q := by
  obtain ⟨hN, hs, hlu, hdu, hpr2, hn6, hU, hkn6, hks, hkt, hb1⟩ := id hG
  obtain ⟨hpr, ⟨hln, hlw⟩, hbk, ⟨hmn, hmg⟩, hki, hrd, hrg⟩ := id hI
  obtain ⟨hb40, hC0, hS0, hP0⟩ := hbk 0 (by omega)
  have hkk := hks k hk
  have hlw0 : ∀ t, 0 ≤ lw t := fun t => (hlw t).1
  obtain ⟨e0, he, hqe⟩ := (MsK.kinds hlw0 mn 0 0 hMs q (Nat.zero_le _) (by omega)).resolve_left (by omega)
  have hce := hC0 e0
  refine J.ild dL_law_284 rfl ?_
  refine J.if_lt dL_law_286 (by decide) (tgt := 445) (by unfold inI; omega) (fun h1 => ?_) (fun h1 => ?_)
  · omega
  · refine J.ald_n dL_law_289 rfl ?_
    refine J.ild dL_law_290 rfl ?_
    refine J.callV (rm' := rX6_group) [vI ((q : Nat) : Int)] dL_law_292 (c_group_0 hW hI (g := q) hq) hW.1.1 rfl st_X6_group ml_L_71 im_X6_group se_X6_group rfl (Nat.le_of_ble_eq_true rfl) (by decide) (by decide) (Nat.le_of_ble_eq_true rfl) (show K + 1 ≤ 600130 by omega) (show M9 + 6 ≤ 7301080 by omega) (Or.inr (fun E9 σ9 hq9 => nomatch hq9.1)) (fun E9 σ9 hq9 _ => nomatch hq9.1) (fun r9 σ1 hq9 hle9 => ?_)
    obtain ⟨h9, hC1, hr1⟩ := hq9
    cases h9
    clear hle9
    rw [hqe]
    refine J.ist dL_law_295 (Nat.le_of_ble_eq_true rfl) (jnc_of rfl rfl) ?_
    refine J.ald_n dL_law_297 rfl ?_
    refine J.bipush dL_law_298 (by decide) ?_
    refine J.ild dL_law_300 rfl ?_
    refine J.iadd dL_law_302 ?_
    rw [show (9 : Int) + ((k : Nat) : Int) = ((9 + k : Nat) : Int) from by push_cast; rfl]
    refine J.callS (rm' := rL_cell) [.ref 4, vI ((9 + k : Nat) : Int)] dL_law_303 (l_cell (k := 9 + k) ((hr1.2 _ (by omega)).trans hF.1) (by omega) (by omega) hs) st_L_cell ml_L_15 sm_L_cell rfl (Nat.le_of_ble_eq_true rfl) (by decide) (by decide) (Nat.le_of_ble_eq_true rfl) (show K + 1 + 0 ≤ 600130 by omega) (show M9 + 6 + 0 ≤ 7301080 by omega) (Or.inr (fun E9 σ9 hq9 => nomatch hq9.1.choose_spec.2)) (fun E9 σ9 hq9 _ => nomatch hq9.1.choose_spec.2) (fun r9 σ9 hq9 hle9 => ?_)
    obtain ⟨⟨x1, hx1, h9⟩, h8⟩ := hq9
    rw [h8]
    clear hle9 h8 σ9
    cases h9
    refine J.iconst dL_law_306 ?_
    refine J.callS (rm' := rL_below) [vI x1, vI 5] dL_law_307 (l_below (x := x1) (n := 5) (by omega)) st_L_below ml_L_19 sm_L_below rfl (Nat.le_of_ble_eq_true rfl) (by decide) (by decide) (Nat.le_of_ble_eq_true rfl) (show K + 1 + 0 + 0 ≤ 600130 by omega) (show M9 + 6 + 0 + 0 ≤ 7301080 by omega) (Or.inr (fun E9 σ9 hq9 => nomatch hq9.1.choose_spec.2)) (fun E9 σ9 hq9 _ => nomatch hq9.1.choose_spec.2) (fun r9 σ9 hq9 hle9 => ?_)
    obtain ⟨⟨p, hp, h9⟩, h8⟩ := hq9
    rw [h8]
    clear hle9 h8 σ9
    cases h9
    refine J.ist dL_law_310 (Nat.le_of_ble_eq_true rfl) (jnc_of rfl rfl) ?_
    refine J.ald_n dL_law_312 rfl ?_
    refine J.ild dL_law_313 rfl ?_
    refine J.ild dL_law_315 rfl ?_
    refine J.ild dL_law_317 rfl ?_
    refine J.ild dL_law_319 rfl ?_
    refine J.callS (rm' := rL_letter) [vI ((cd 0 e0 : Nat) : Int), vI ((p : Nat) : Int)] dL_law_321 (l_letter (c := (cd 0 e0)) (p := p) hce (by omega)) st_L_letter ml_L_9 sm_L_letter rfl (Nat.le_of_ble_eq_true rfl) (by decide) (by decide) (Nat.le_of_ble_eq_true rfl) (show K + 1 + 0 + 0 + 0 ≤ 600130 by omega) (show M9 + 6 + 0 + 0 + 0 ≤ 7301080 by omega) (Or.inr (fun E9 σ9 hq9 => nomatch hq9.1)) (fun E9 σ9 hq9 _ => nomatch hq9.1) (fun r9 σ9 hq9 hle9 => ?_)
    obtain ⟨h9, h8⟩ := hq9
    rw [h8]
    clear hle9 h8 σ9
    cases h9
    have hll := ltr_lt (cd 0 e0) p
    refine J.iconst dL_law_324 ?_
    refine J.iadd dL_law_325 ?_
    rw [show (((ltr (cd 0 e0) p : Nat) : Int) : Int) + 1 = (((ltr (cd 0 e0) p) + 1 : Nat) : Int) from by push_cast; rfl]
    refine J.ald_n dL_law_326 rfl ?_
    refine J.bipush dL_law_327 (by decide) ?_
    refine J.ild dL_law_329 rfl ?_
    refine J.iadd dL_law_331 ?_
    rw [show (10 : Int) + ((k : Nat) : Int) = ((10 + k : Nat) : Int) from by push_cast; rfl]
    refine J.callS (rm' := rL_cell) [.ref 4, vI ((10 + k : Nat) : Int)] dL_law_332 (l_cell (k := 10 + k) ((hr1.2 _ (by omega)).trans hF.1) (by omega) (by omega) hs) st_L_cell ml_L_15 sm_L_cell rfl (Nat.le_of_ble_eq_true rfl) (by decide) (by decide) (Nat.le_of_ble_eq_true rfl) (show K + 1 + 0 + 0 + 0 + 0 ≤ 600130 by omega) (show M9 + 6 + 0 + 0 + 0 + 0 ≤ 7301080 by omega) (Or.inr (fun E9 σ9 hq9 => nomatch hq9.1.choose_spec.2)) (fun E9 σ9 hq9 _ => nomatch hq9.1.choose_spec.2) (fun r9 σ9 hq9 hle9 => ?_)
    obtain ⟨⟨x2, hx2, h9⟩, h8⟩ := hq9
    rw [h8]
    clear hle9 h8 σ9
    cases h9
    refine J.bipush dL_law_335 (by decide) ?_
    refine J.callS (rm' := rL_below) [vI x2, vI 25] dL_law_337 (l_below (x := x2) (n := 25) (by omega)) st_L_below ml_L_19 sm_L_below rfl (Nat.le_of_ble_eq_true rfl) (by decide) (by decide) (Nat.le_of_ble_eq_true rfl) (show K + 1 + 0 + 0 + 0 + 0 + 0 ≤ 600130 by omega) (show M9 + 6 + 0 + 0 + 0 + 0 + 0 ≤ 7301080 by omega) (Or.inr (fun E9 σ9 hq9 => nomatch hq9.1.choose_spec.2)) (fun E9 σ9 hq9 _ => nomatch hq9.1.choose_spec.2) (fun r9 σ9 hq9 hle9 => ?_)
    obtain ⟨⟨y, hy, h9⟩, h8⟩ := hq9
    rw [h8]
    clear hle9 h8 σ9
    cases h9
    refine J.iadd dL_law_340 ?_
    rw [show ((((ltr (cd 0 e0) p) + 1 : Nat) : Int) : Int) + ((y : Nat) : Int) = ((((ltr (cd 0 e0) p) + 1) + y : Nat) : Int) from by push_cast; rfl]
    refine J.bipush dL_law_341 (by decide) ?_
    refine J.irem dL_law_343 (by unfold inI; omega) (by unfold inI; omega) (by omega) ?_
    rw [show Int.tmod ((((ltr (cd 0 e0) p) + 1) + y : Nat) : Int) 26 = (((((ltr (cd 0 e0) p) + 1) + y) % 26 : Nat) : Int) from by first | rfl | (exact (Int.ofNat_tmod _ _).symm)]
    generalize hlx : (ltr (cd 0 e0) p + 1 + y) % 26 = l
    have hlb : l < 26 ∧ l ≠ ltr (cd 0 e0) p := by omega
    obtain ⟨g1, g2, g3, g4⟩ := grb hU hC0 he (p := p) (l := l) (by omega) hlb.1 hlb.2
    have hxb := wlt_le hce hlb.1 p (by omega)
    refine J.callV (rm' := rX6_garble) [vI ((q : Nat) : Int), vI ((p : Nat) : Int), vI ((l : Nat) : Int)] dL_law_344 (c_garble_0 hC1 hI (g := q) (p := p) (l := l) hq (by omega) hlb.1 (by omega)) hC1.1.1 rfl st_X6_garble ml_L_74 im_X6_garble se_X6_garble rfl (Nat.le_of_ble_eq_true rfl) (by decide) (by decide) (Nat.le_of_ble_eq_true rfl) (show K + 1 + 0 + 0 + 0 + 0 + 0 + 4 ≤ 600130 by omega) (show M9 + 6 + 0 + 0 + 0 + 0 + 0 + 24 ≤ 7301080 by omega) (Or.inr (fun E9 σ9 hq9 => nomatch hq9.1)) (fun E9 σ9 hq9 _ => nomatch hq9.1) (fun r9 σ2 hq9 hle9 => ?_)
    obtain ⟨h9, hC2, hr2⟩ := hq9
    cases h9
    clear hle9
    rw [hqe, Int.toNat_natCast] at hC2
    generalize hx : wlt (cd 0 e0) p l = x at hC2 g1 g2 g3 g4 hxb
    have hI2 : CI pr (ks k) lw bn cd sz ph mn (jup mg q ((x : Nat) : Int)) kn kr ks kt rd rg := ⟨hpr, ⟨hln, hlw⟩, hbk, ⟨hmn, jupB hmg (by omega)⟩, hki, hrd, hrg⟩
    refine J.pop dL_law_347 rfl ?_
    refine J.iconst dL_law_348 ?_
    refine J.ist dL_law_349 (Nat.le_of_ble_eq_true rfl) (jnc_of rfl rfl) ?_
    refine J.ald_n dL_law_351 rfl ?_
    refine J.iconst dL_law_352 ?_
    refine J.ald_n dL_law_353 rfl ?_
    refine J.ild dL_law_354 rfl ?_
    refine J.callV (rm' := rX6_group) [vI ((q : Nat) : Int)] dL_law_356 (c_group_0 hC2 hI2 (g := q) hq) hC2.1.1 rfl st_X6_group ml_L_71 im_X6_group se_X6_group rfl (Nat.le_of_ble_eq_true rfl) (by decide) (by decide) (Nat.le_of_ble_eq_true rfl) (show K + 1 + 0 + 0 + 0 + 0 + 0 + 4 + 1 ≤ 600130 by omega) (show M9 + 6 + 0 + 0 + 0 + 0 + 0 + 24 + 6 ≤ 7301080 by omega) (Or.inr (fun E9 σ9 hq9 => nomatch hq9.1)) (fun E9 σ9 hq9 _ => nomatch hq9.1) (fun r9 σ3 hq9 hle9 => ?_)
    obtain ⟨h9, hC3, hr3⟩ := hq9
    cases h9
    clear hle9
    rw [jup_eq]
    refine J.callV (rm' := rX6_find) [vI 0, vI ((x : Nat) : Int)] dL_law_359 (c_find_0 hC3 hI2 (b := 0) (c := x) (by omega) hxb) hC3.1.1 rfl st_X6_find ml_L_77 im_X6_find se_X6_find rfl (Nat.le_of_ble_eq_true rfl) (by decide) (by decide) (Nat.le_of_ble_eq_true rfl) (show K + 1 + 0 + 0 + 0 + 0 + 0 + 4 + 1 + 2 ≤ 600130 by omega) (show M9 + 6 + 0 + 0 + 0 + 0 + 0 + 24 + 6 + 12 ≤ 7301080 by omega) (Or.inr (fun E9 σ9 hq9 => nomatch hq9.1)) (fun E9 σ9 hq9 _ => nomatch hq9.1) (fun r9 σ4 hq9 hle9 => ?_)
    obtain ⟨h9, hC4, hr4⟩ := hq9
    cases h9
    clear hle9
    rw [g1]
    refine J.if_lt dL_law_362 (by decide) (tgt := 369) (by unfold inI; omega) (fun h2 => ?_) (fun h2 => ?_)
    · refine J.iconst dL_law_369 ?_
      refine J.ist dL_law_370 (Nat.le_of_ble_eq_true rfl) (jnc_of rfl rfl) ?_
      refine J.iconst dL_law_372 ?_
      refine J.ist dL_law_373 (Nat.le_of_ble_eq_true rfl) (jnc_of rfl rfl) ?_
      have hF4 := (((hF.kept hr1).kept hr2).kept hr3).kept hr4
      have ht4 : σ4.2 37 = jI 492 tf := (hr4.2 _ (by omega)).trans ((hr3.2 _ (by omega)).trans ((hr2.2 _ (by omega)).trans ((hr1.2 _ (by omega)).trans ht)))
      refine J.forget [.ref 4, .ref 5, .ref 37, vI ((kn : Nat) : Int), vI pr, .null, .null, vI ((bn 0 : Nat) : Int), vI ((k : Nat) : Int), vI ((ks k : Nat) : Int), .null, vI 0, vI ((q : Nat) : Int), .null, .null, vI 0, vI 0, vI 0] ⟨Or.inr rfl, ⟨Or.inr rfl, ⟨Or.inr rfl, ⟨Or.inr rfl, ⟨Or.inr rfl, ⟨Or.inl rfl, ⟨Or.inl rfl, ⟨Or.inr rfl, ⟨Or.inr rfl, ⟨Or.inr rfl, ⟨Or.inl rfl, ⟨Or.inr rfl, ⟨Or.inr rfl, ⟨Or.inl rfl, ⟨Or.inl rfl, ⟨Or.inr rfl, ⟨Or.inr rfl, ⟨Or.inr rfl, trivial⟩⟩⟩⟩⟩⟩⟩⟩⟩⟩⟩⟩⟩⟩⟩⟩⟩⟩ ?_
      have L : ∀ (t : Nat), ∀ (e K9 M8 : Nat) (σ : jS), e + t = bn 0 → K9 + 4 * t + 25 ≤ KB → M8 + 6 * (4 * t + 25) ≤ MB → CW σ pr (ks k) lw bn cd sz ph mn (jup mg q ((x : Nat) : Int)) kn kr ks kt rd rg → LF s N lu du σ → σ.2 37 = jI 492 tf → J X (mLw nm hh) rL_law 375 [.ref 4, .ref 5, .ref 37, vI ((kn : Nat) : Int), vI pr, .null, .null, vI ((bn 0 : Nat) : Int), vI ((k : Nat) : Int), vI ((ks k : Nat) : Int), .null, vI 0, vI ((q : Nat) : Int), .null, .null, vI ((nrF (cd 0) x e : Nat) : Int), vI 0, vI ((e : Nat) : Int)] [] K9 M8 σ Q := by
        intro t
        induction t with
        | zero =>
          intro e K9 M8 σ hee hK9 hM8 hW hF ht
          have hne := (nrF_le (C := cd 0) (x := x) 0 e).2
          refine J.ild dL_law_375 rfl ?_
          refine J.ild dL_law_377 rfl ?_
          refine J.icmp_ge dL_law_379 (by decide) (tgt := 419) (by unfold inI; omega) (by unfold inI; omega) (fun h3 => ?_) (fun h3 => ?_)
          · obtain rfl : e = bn 0 := by omega
            refine J.ild dL_law_419 rfl ?_
            refine J.if_ne dL_law_421 (by decide) (tgt := 430) (by unfold inI; omega) (fun h4 => ?_) (fun h4 => ?_)
            · exact absurd rfl h4
            · refine J.ild dL_law_424 rfl ?_
              refine J.iconst dL_law_426 ?_
              refine J.icmp_ge dL_law_427 (by decide) (tgt := 432) (by unfold inI; omega) (by unfold inI; omega) (fun h5 => ?_) (fun h5 => ?_)
              · refine J.ild dL_law_432 rfl ?_
                refine J.iconst dL_law_434 ?_
                refine J.icmp_ne dL_law_435 (by decide) (tgt := 442) (by unfold inI; omega) (by unfold inI; omega) (fun h6 => ?_) (fun h6 => ?_)
                · refine J.iconst dL_law_442 ?_
                  refine J.ist dL_law_443 (Nat.le_of_ble_eq_true rfl) (jnc_of rfl rfl) ?_
                  refine J.forget [.ref 4, .ref 5, .ref 37, vI ((kn : Nat) : Int), vI pr, .null, .null, vI ((bn 0 : Nat) : Int), vI ((k : Nat) : Int), vI ((ks k : Nat) : Int), .null, vI 1, vI ((q : Nat) : Int), .null, .null, .null, .null, .null] ⟨Or.inr rfl, ⟨Or.inr rfl, ⟨Or.inr rfl, ⟨Or.inr rfl, ⟨Or.inr rfl, ⟨Or.inl rfl, ⟨Or.inl rfl, ⟨Or.inr rfl, ⟨Or.inr rfl, ⟨Or.inr rfl, ⟨Or.inl rfl, ⟨Or.inr rfl, ⟨Or.inr rfl, ⟨Or.inl rfl, ⟨Or.inl rfl, ⟨Or.inl rfl, ⟨Or.inl rfl, ⟨Or.inl rfl, trivial⟩⟩⟩⟩⟩⟩⟩⟩⟩⟩⟩⟩⟩⟩⟩⟩⟩⟩ ?_
                  exact law_decC hG hW hI2 hF ht hk hl hMs hq he hqe (g4 (by omega)) (by omega) (by omega) hKB hMB hn
                · refine J.iconst dL_law_438 ?_
                  refine J.goto dL_law_439 (by decide) (tgt := 443) ?_
                  refine J.ist dL_law_443 (Nat.le_of_ble_eq_true rfl) (jnc_of rfl rfl) ?_
                  refine J.forget [.ref 4, .ref 5, .ref 37, vI ((kn : Nat) : Int), vI pr, .null, .null, vI ((bn 0 : Nat) : Int), vI ((k : Nat) : Int), vI ((ks k : Nat) : Int), .null, vI 0, vI ((q : Nat) : Int), .null, .null, .null, .null, .null] ⟨Or.inr rfl, ⟨Or.inr rfl, ⟨Or.inr rfl, ⟨Or.inr rfl, ⟨Or.inr rfl, ⟨Or.inl rfl, ⟨Or.inl rfl, ⟨Or.inr rfl, ⟨Or.inr rfl, ⟨Or.inr rfl, ⟨Or.inl rfl, ⟨Or.inr rfl, ⟨Or.inr rfl, ⟨Or.inl rfl, ⟨Or.inl rfl, ⟨Or.inl rfl, ⟨Or.inl rfl, ⟨Or.inl rfl, trivial⟩⟩⟩⟩⟩⟩⟩⟩⟩⟩⟩⟩⟩⟩⟩⟩⟩⟩ ?_
                  obtain ⟨hrx, hre⟩ := g3 (by omega)
                  exact law_decB hG hW hI2 hF ht hk hl hMs hq he hqe hrx hre (by omega) (by omega) hKB hMB hn
              · omega
          · omega
        | succ t ih =>
          intro e K9 M8 σ hee hK9 hM8 hW hF ht
          have hne := (nrF_le (C := cd 0) (x := x) 0 e).2
          refine J.ild dL_law_375 rfl ?_
          refine J.ild dL_law_377 rfl ?_
          refine J.icmp_ge dL_law_379 (by decide) (tgt := 419) (by unfold inI; omega) (by unfold inI; omega) (fun h3 => ?_) (fun h3 => ?_)
          · omega
          · refine J.ild dL_law_382 rfl ?_
            refine J.ald_n dL_law_384 rfl ?_
            refine J.iconst dL_law_385 ?_
            refine J.ild dL_law_386 rfl ?_
            refine J.iconst dL_law_388 ?_
            refine J.callV (rm' := rX6_entry) [vI 0, vI ((e : Nat) : Int), vI (-1)] dL_law_389 (c_entry_4 hW hI2 (b := 0) (e := e) (by omega) (by omega) rfl) hW.1.1 rfl st_X6_entry ml_L_49 im_X6_entry se_X6_entry rfl (Nat.le_of_ble_eq_true rfl) (by decide) (by decide) (Nat.le_of_ble_eq_true rfl) (show K9 + 3 ≤ 600130 by omega) (show M8 + 18 ≤ 7301080 by omega) (Or.inr (fun E9 σ9 hq9 => nomatch hq9.1)) (fun E9 σ9 hq9 _ => nomatch hq9.1) (fun r9 σ5 hq9 hle9 => ?_)
            obtain ⟨h9, hC5, hr5⟩ := hq9
            cases h9
            clear hle9
            refine J.ald_n dL_law_392 rfl ?_
            refine J.ild dL_law_393 rfl ?_
            refine J.callV (rm' := rX6_group) [vI ((q : Nat) : Int)] dL_law_395 (c_group_0 hC5 hI2 (g := q) hq) hC5.1.1 rfl st_X6_group ml_L_71 im_X6_group se_X6_group rfl (Nat.le_of_ble_eq_true rfl) (by decide) (by decide) (Nat.le_of_ble_eq_true rfl) (show K9 + 3 + 1 ≤ 600130 by omega) (show M8 + 18 + 6 ≤ 7301080 by omega) (Or.inr (fun E9 σ9 hq9 => nomatch hq9.1)) (fun E9 σ9 hq9 _ => nomatch hq9.1) (fun r9 σ6 hq9 hle9 => ?_)
            obtain ⟨h9, hC6, hr6⟩ := hq9
            cases h9
            clear hle9
            rw [jup_eq]
            refine J.callS (rm' := rL_off) [vI ((cd 0 e : Nat) : Int), vI ((x : Nat) : Int)] dL_law_398 (l_off (a := (cd 0 e)) (b := x) (hC0 e) hxb) st_L_off ml_L_53 sm_L_off rfl (Nat.le_of_ble_eq_true rfl) (by decide) (by decide) (Nat.le_of_ble_eq_true rfl) (show K9 + 3 + 1 + 0 ≤ 600130 by omega) (show M8 + 18 + 6 + 0 ≤ 7301080 by omega) (Or.inr (fun E9 σ9 hq9 => nomatch hq9.1)) (fun E9 σ9 hq9 _ => nomatch hq9.1) (fun r9 σ9 hq9 hle9 => ?_)
            obtain ⟨h9, h8⟩ := hq9
            rw [h8]
            clear hle9 h8 σ9
            cases h9
            have hof : ofR (cd 0 e) x ≤ 3 := ofR_le _ _
            refine J.iconst dL_law_401 ?_
            refine J.icmp_ge dL_law_402 (by decide) (tgt := 409) (by unfold inI; omega) (by unfold inI; omega) (fun h4 => ?_) (fun h4 => ?_)
            · refine J.iconst dL_law_409 ?_
              refine J.iadd dL_law_410 ?_
              rw [show (((nrF (cd 0) x e : Nat) : Int) : Int) + 0 = (((nrF (cd 0) x e) + 0 : Nat) : Int) from by push_cast; rfl]
              refine J.ist dL_law_411 (Nat.le_of_ble_eq_true rfl) (jnc_of rfl rfl) ?_
              refine J.iinc (v := ((e + 1 : Nat) : Int)) dL_law_413 rfl (by first | rfl | omega) (Nat.le_of_ble_eq_true rfl) (jnc_of rfl rfl) ?_
              refine J.goto dL_law_416 (by decide) (tgt := 375) ?_
              rw [show nrF (cd 0) x e + 0 = nrF (cd 0) x (e + 1) from (by show _ = nrF (cd 0) x e + (if ofR (cd 0 e) x < 3 then 1 else 0); rw [if_neg (by omega)])]
              exact ih (e + 1) _ _ σ6 (by omega) (show K9 + 3 + 1 + 0 + 4 * t + 25 ≤ KB by omega) (show M8 + 18 + 6 + 0 + 6 * (4 * t + 25) ≤ MB by omega) hC6 ((hF.kept hr5).kept hr6) ((hr6.2 _ (by omega)).trans ((hr5.2 _ (by omega)).trans ht))
            · refine J.iconst dL_law_405 ?_
              refine J.goto dL_law_406 (by decide) (tgt := 410) ?_
              refine J.iadd dL_law_410 ?_
              rw [show (((nrF (cd 0) x e : Nat) : Int) : Int) + 1 = (((nrF (cd 0) x e) + 1 : Nat) : Int) from by push_cast; rfl]
              refine J.ist dL_law_411 (Nat.le_of_ble_eq_true rfl) (jnc_of rfl rfl) ?_
              refine J.iinc (v := ((e + 1 : Nat) : Int)) dL_law_413 rfl (by first | rfl | omega) (Nat.le_of_ble_eq_true rfl) (jnc_of rfl rfl) ?_
              refine J.goto dL_law_416 (by decide) (tgt := 375) ?_
              rw [show nrF (cd 0) x e + 1 = nrF (cd 0) x (e + 1) from (by show _ = nrF (cd 0) x e + (if ofR (cd 0 e) x < 3 then 1 else 0); rw [if_pos (by omega)])]
              exact ih (e + 1) _ _ σ6 (by omega) (show K9 + 3 + 1 + 0 + 4 * t + 25 ≤ KB by omega) (show M8 + 18 + 6 + 0 + 6 * (4 * t + 25) ≤ MB by omega) hC6 ((hF.kept hr5).kept hr6) ((hr6.2 _ (by omega)).trans ((hr5.2 _ (by omega)).trans ht))
      exact L (bn 0) 0 _ _ σ4 (by omega) (show K + 1 + 0 + 0 + 0 + 0 + 0 + 4 + 1 + 2 + 4 * bn 0 + 25 ≤ KB by omega) (show M9 + 6 + 0 + 0 + 0 + 0 + 0 + 24 + 6 + 12 + 6 * (4 * bn 0 + 25) ≤ MB by omega) hC4 hF4 ht4
    · omega
