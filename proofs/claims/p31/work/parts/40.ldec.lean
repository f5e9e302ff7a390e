/-! ===== the law: a message read ===== -/
set_option maxHeartbeats 2000000 in
set_option maxRecDepth 20000 in
theorem law_decA {X : jX} {nm : String} {hh : List (Nat × Nat × Nat × Nat)} {Q : jOut → jS → Prop} {s : Nat → Int} {N : Nat} {lu du tf : Nat → Int} {K M9 KB MB : Nat} {σ : jS} {pr : Int} {lw : Nat → Int} {bn : Nat → Nat} {cd sz : Nat → Nat → Nat} {ph : Nat → Nat → Int} {mn : Nat} {mg : Nat → Int} {kn : Nat} {kr : Nat → Int} {ks : Nat → Nat} {kt : Nat → Nat → Int} {rd : Nat} {rg : Nat → Int} {k : Nat} (hG : LG s N lu du pr bn cd kn kr ks tf) (hW : CW σ pr (ks k) lw bn cd sz ph mn mg kn kr ks kt rd rg) (hI : CI pr (ks k) lw bn cd sz ph mn mg kn kr ks kt rd rg) (hF : LF s N lu du σ) (ht : σ.2 37 = jI 492 tf) (hk : k < kn) (hl : ∀ i, i < ks k → lw i = kr (k * 41 + i)) (hMs : MsK (bn 0) (cd 0) (sz 0) (ph 0) lw (ks k) mg mn 0 0) (hpl : ∀ j, j < mn → mg j < 0) (hK : K + 25 ≤ KB) (hM : M9 + 6 * 25 ≤ MB) (hKB : KB ≤ 500000) (hMB : MB ≤ 5000000) (hn : ∀ (σ' : jS) (K' M' : Nat), LSt s N lu du pr bn cd sz ph kn kr ks kt tf σ' → K' ≤ KB → M' ≤ MB → J X (mLw nm hh) rL_law 541 [.ref 4, .ref 5, .ref 37, vI ((kn : Nat) : Int), vI pr, .null, .null, vI ((bn 0 : Nat) : Int), vI ((k : Nat) : Int), .null, .null, .null, .null, .null, .null, .null, .null, .null] [] K' M' σ' Q) : J X (mLw nm hh) rL_law 445 [.ref 4, .ref 5, .ref 37, vI ((kn : Nat) : Int), vI pr, .null, .null, vI ((bn 0 : Nat) : Int), vI ((k : Nat) : Int), vI ((ks k : Nat) : Int), .null, vI 0, vI (-1), .null, .null, .null, .null, .null] [] K M9 σ Q := by
  obtain ⟨hN, hs, hlu, hdu, hpr2, hn6, hU, hkn6, hks, hkt, hb1⟩ := id hG
  obtain ⟨hpr, ⟨hln, hlw⟩, hbk, ⟨hmn, hmg⟩, hki, hrd, hrg⟩ := id hI
  obtain ⟨hb40, hC0, hS0, hP0⟩ := hbk 0 (by omega)
  have hkk := hks k hk
  have hlw0 : ∀ t, 0 ≤ lw t := fun t => (hlw t).1
  have hd := dcU_ok (n := bn 0) (C := cd 0) (S := sz 0) (P := ph 0) (lw := lw) (ln := ks k) (mg := mg) hlw0 (by omega) mn 0 0 lw rg 0 (MsK.toR hU mn 0 0 hMs) (fun i hi => absurd hi (by omega))
  have hx : (dcU (bn 0) (cd 0) (sz 0) (ph 0) mg mn 0 0 lw rg 0).2.2.2 = 0 := by
    rw [dcU_x, c3_0 mn 0 (fun j _ hj => by rw [rd_plain (hpl j (by omega))]; decide)]
    rfl
  have hdb := dcU_bd (n := bn 0) (cd := cd 0) (sz := sz 0) hP0 hmg mn 0 0 lw rg 0 (by omega) hlw hrg (Int.le_refl _)
  refine J.ald_n dL_law_445 rfl ?_
  refine J.iconst dL_law_446 ?_
  refine J.callV (rm' := rX6_decode) [vI 0] dL_law_447 (c_decode_0 hW hI (b := 0) (by omega)) hW.1.1 rfl st_X6_decode ml_L_80 im_X6_decode se_X6_decode rfl (Nat.le_of_ble_eq_true rfl) (by decide) (by decide) (Nat.le_of_ble_eq_true rfl) (show K + 1 ≤ 600130 by omega) (show M9 + 6 ≤ 7301080 by omega) (Or.inr (fun E9 σ9 hq9 => nomatch hq9.1)) (fun E9 σ9 hq9 _ => nomatch hq9.1) (fun r9 σ1 hq9 hle9 => ?_)
  obtain ⟨h9, hC1, hr1⟩ := hq9
  cases h9
  clear hle9
  rw [hx]
  rw [hd.1] at hC1 hdb
  refine J.ild dL_law_450 rfl ?_
  refine J.icmp_eq dL_law_452 (by decide) (tgt := 457) (by unfold inI; omega) (by unfold inI; omega) (fun h1 => ?_) (fun h1 => ?_)
  · refine J.ild dL_law_457 rfl ?_
    refine J.if_lt dL_law_459 (by decide) (tgt := 483) (by unfold inI; omega) (fun h2 => ?_) (fun h2 => ?_)
    · refine J.ild dL_law_483 rfl ?_
      refine J.if_le dL_law_485 (by decide) (tgt := 491) (by unfold inI; omega) (fun h3 => ?_) (fun h3 => ?_)
      · refine J.forget [.ref 4, .ref 5, .ref 37, vI ((kn : Nat) : Int), vI pr, .null, .null, vI ((bn 0 : Nat) : Int), vI ((k : Nat) : Int), vI ((ks k : Nat) : Int), .null, .null, .null, .null, .null, .null, .null, .null] ⟨Or.inr rfl, ⟨Or.inr rfl, ⟨Or.inr rfl, ⟨Or.inr rfl, ⟨Or.inr rfl, ⟨Or.inl rfl, ⟨Or.inl rfl, ⟨Or.inr rfl, ⟨Or.inr rfl, ⟨Or.inr rfl, ⟨Or.inl rfl, ⟨Or.inl rfl, ⟨Or.inl rfl, ⟨Or.inl rfl, ⟨Or.inl rfl, ⟨Or.inl rfl, ⟨Or.inl rfl, ⟨Or.inl rfl, trivial⟩⟩⟩⟩⟩⟩⟩⟩⟩⟩⟩⟩⟩⟩⟩⟩⟩⟩ ?_
        exact law_cmp hG hC1 ⟨hpr, ⟨hdb.1, hdb.2.1⟩, hbk, ⟨hmn, hmg⟩, hki, hmn, hdb.2.2.1⟩ (hF.kept hr1) ((hr1.2 _ (by omega)).trans ht) hk (fun i hi => (hd.2 i hi).trans (hl i hi)) (show K + 1 + 20 ≤ KB by omega) (show M9 + 6 + 6 * 20 ≤ MB by omega) hKB hMB hn
      · omega
    · omega
  · exact absurd rfl h1
set_option maxHeartbeats 2000000 in
set_option maxRecDepth 20000 in
theorem law_decB {X : jX} {nm : String} {hh : List (Nat × Nat × Nat × Nat)} {Q : jOut → jS → Prop} {s : Nat → Int} {N : Nat} {lu du tf : Nat → Int} {K M9 KB MB : Nat} {σ : jS} {pr : Int} {lw : Nat → Int} {bn : Nat → Nat} {cd sz : Nat → Nat → Nat} {ph : Nat → Nat → Int} {mn : Nat} {mg : Nat → Int} {kn : Nat} {kr : Nat → Int} {ks : Nat → Nat} {kt : Nat → Nat → Int} {rd : Nat} {rg : Nat → Int} {k q e0 x : Nat} (hG : LG s N lu du pr bn cd kn kr ks tf) (hW : CW σ pr (ks k) lw bn cd sz ph mn (jup mg q ((x : Nat) : Int)) kn kr ks kt rd rg) (hI : CI pr (ks k) lw bn cd sz ph mn (jup mg q ((x : Nat) : Int)) kn kr ks kt rd rg) (hF : LF s N lu du σ) (ht : σ.2 37 = jI 492 tf) (hk : k < kn) (hl : ∀ i, i < ks k → lw i = kr (k * 41 + i)) (hMs : MsK (bn 0) (cd 0) (sz 0) (ph 0) lw (ks k) mg mn 0 0) (hq : q < mn) (he : e0 < bn 0) (hqe : mg q = ((cd 0 e0 : Nat) : Int)) (hrx : rdR (bn 0) (cd 0) ((x : Nat) : Int) = 2) (hre : rdE (bn 0) (cd 0) ((x : Nat) : Int) = e0) (hK : K + 25 ≤ KB) (hM : M9 + 6 * 25 ≤ MB) (hKB : KB ≤ 500000) (hMB : MB ≤ 5000000) (hn : ∀ (σ' : jS) (K' M' : Nat), LSt s N lu du pr bn cd sz ph kn kr ks kt tf σ' → K' ≤ KB → M' ≤ MB → J X (mLw nm hh) rL_law 541 [.ref 4, .ref 5, .ref 37, vI ((kn : Nat) : Int), vI pr, .null, .null, vI ((bn 0 : Nat) : Int), vI ((k : Nat) : Int), .null, .null, .null, .null, .null, .null, .null, .null, .null] [] K' M' σ' Q) : J X (mLw nm hh) rL_law 445 [.ref 4, .ref 5, .ref 37, vI ((kn : Nat) : Int), vI pr, .null, .null, vI ((bn 0 : Nat) : Int), vI ((k : Nat) : Int), vI ((ks k : Nat) : Int), .null, vI 0, vI ((q : Nat) : Int), .null, .null, .null, .null, .null] [] K M9 σ Q := by
  obtain ⟨hN, hs, hlu, hdu, hpr2, hn6, hU, hkn6, hks, hkt, hb1⟩ := id hG
  obtain ⟨hpr, ⟨hln, hlw⟩, hbk, ⟨hmn, hmg⟩, hki, hrd, hrg⟩ := id hI
  obtain ⟨hb40, hC0, hS0, hP0⟩ := hbk 0 (by omega)
  have hkk := hks k hk
  have hlw0 : ∀ t, 0 ≤ lw t := fun t => (hlw t).1
  have hkd : ∀ j, j < mn → j ≠ q → rdR (bn 0) (cd 0) (jup mg q ((x : Nat) : Int) j) ≠ 3 := fun j hj hjq => by
    rw [jup_ne _ _ hjq]
    rcases MsK.kinds hlw0 mn 0 0 hMs j (Nat.zero_le _) (by omega) with h | ⟨e, h1, h2⟩
    · rw [rd_plain h]; decide
    · rw [h2, (rd_code hU h1).1]; decide
  have hrq := dcU_r (n := bn 0) (C := cd 0) (S := sz 0) (P := ph 0) (mg := jup mg q ((x : Nat) : Int)) mn 0 0 lw rg 0 q
  rw [if_pos ⟨Nat.zero_le _, by omega⟩, jup_eq, hrx] at hrq
  have hdb := dcU_bd (n := bn 0) (cd := cd 0) (sz := sz 0) hP0 hmg mn 0 0 lw rg 0 (by omega) hlw hrg (Int.le_refl _)
  have hd := dcU_ok (n := bn 0) (C := cd 0) (S := sz 0) (P := ph 0) (lw := lw) (ln := ks k) (mg := (jup mg q ((x : Nat) : Int))) hlw0 (by omega) mn 0 0 lw rg 0 (MsK.toG hU hlw0 he hqe ⟨by omega, by omega, hre⟩ mn 0 0 hMs) (fun i hi => absurd hi (by omega))
  have hx : (dcU (bn 0) (cd 0) (sz 0) (ph 0) (jup mg q ((x : Nat) : Int)) mn 0 0 lw rg 0).2.2.2 = 0 := by
    rw [dcU_x, c3_0 mn 0 (fun j _ hj => by
      by_cases y : j = q
      · rw [y, jup_eq, hrx]; decide
      · exact hkd j (by omega) y)]
    rfl
  refine J.ald_n dL_law_445 rfl ?_
  refine J.iconst dL_law_446 ?_
  refine J.callV (rm' := rX6_decode) [vI 0] dL_law_447 (c_decode_0 hW hI (b := 0) (by omega)) hW.1.1 rfl st_X6_decode ml_L_80 im_X6_decode se_X6_decode rfl (Nat.le_of_ble_eq_true rfl) (by decide) (by decide) (Nat.le_of_ble_eq_true rfl) (show K + 1 ≤ 600130 by omega) (show M9 + 6 ≤ 7301080 by omega) (Or.inr (fun E9 σ9 hq9 => nomatch hq9.1)) (fun E9 σ9 hq9 _ => nomatch hq9.1) (fun r9 σ1 hq9 hle9 => ?_)
  obtain ⟨h9, hC1, hr1⟩ := hq9
  cases h9
  clear hle9
  rw [hx]
  rw [hd.1] at hC1 hdb
  have hI1 : CI pr (ks k) ((dcU (bn 0) (cd 0) (sz 0) (ph 0) (jup mg q ((x : Nat) : Int)) mn 0 0 lw rg 0).2.1) bn cd sz ph mn (jup mg q ((x : Nat) : Int)) kn kr ks kt mn ((dcU (bn 0) (cd 0) (sz 0) (ph 0) (jup mg q ((x : Nat) : Int)) mn 0 0 lw rg 0).2.2.1) := ⟨hpr, ⟨hdb.1, hdb.2.1⟩, hbk, ⟨hmn, hmg⟩, hki, hmn, hdb.2.2.1⟩
  refine J.ild dL_law_450 rfl ?_
  refine J.icmp_eq dL_law_452 (by decide) (tgt := 457) (by unfold inI; omega) (by unfold inI; omega) (fun h1 => ?_) (fun h1 => ?_)
  · refine J.ild dL_law_457 rfl ?_
    refine J.if_lt dL_law_459 (by decide) (tgt := 483) (by unfold inI; omega) (fun h2 => ?_) (fun h2 => ?_)
    · omega
    · refine J.ald_n dL_law_462 rfl ?_
      refine J.ild dL_law_463 rfl ?_
      refine J.callV (rm' := rX6_how) [vI ((q : Nat) : Int)] dL_law_465 (c_how_0 hC1 hI1 (g := q) hq) hC1.1.1 rfl st_X6_how ml_L_83 im_X6_how se_X6_how rfl (Nat.le_of_ble_eq_true rfl) (by decide) (by decide) (Nat.le_of_ble_eq_true rfl) (show K + 1 + 1 ≤ 600130 by omega) (show M9 + 6 + 6 ≤ 7301080 by omega) (Or.inr (fun E9 σ9 hq9 => nomatch hq9.1)) (fun E9 σ9 hq9 _ => nomatch hq9.1) (fun r9 σ2 hq9 hle9 => ?_)
      obtain ⟨h9, hC2, hr2⟩ := hq9
      cases h9
      clear hle9
      rw [hrq]
      refine J.ild dL_law_468 rfl ?_
      refine J.if_ne dL_law_470 (by decide) (tgt := 477) (by unfold inI; omega) (fun h3 => ?_) (fun h3 => ?_)
      · exact absurd rfl h3
      · refine J.iconst dL_law_473 ?_
        refine J.goto dL_law_474 (by decide) (tgt := 478) ?_
        refine J.icmp_eq dL_law_478 (by decide) (tgt := 483) (by unfold inI; omega) (by unfold inI; omega) (fun h4 => ?_) (fun h4 => ?_)
        · refine J.ild dL_law_483 rfl ?_
          refine J.if_le dL_law_485 (by decide) (tgt := 491) (by unfold inI; omega) (fun h5 => ?_) (fun h5 => ?_)
          · refine J.forget [.ref 4, .ref 5, .ref 37, vI ((kn : Nat) : Int), vI pr, .null, .null, vI ((bn 0 : Nat) : Int), vI ((k : Nat) : Int), vI ((ks k : Nat) : Int), .null, .null, .null, .null, .null, .null, .null, .null] ⟨Or.inr rfl, ⟨Or.inr rfl, ⟨Or.inr rfl, ⟨Or.inr rfl, ⟨Or.inr rfl, ⟨Or.inl rfl, ⟨Or.inl rfl, ⟨Or.inr rfl, ⟨Or.inr rfl, ⟨Or.inr rfl, ⟨Or.inl rfl, ⟨Or.inl rfl, ⟨Or.inl rfl, ⟨Or.inl rfl, ⟨Or.inl rfl, ⟨Or.inl rfl, ⟨Or.inl rfl, ⟨Or.inl rfl, trivial⟩⟩⟩⟩⟩⟩⟩⟩⟩⟩⟩⟩⟩⟩⟩⟩⟩⟩ ?_
            exact law_cmp hG hC2 hI1 ((hF.kept hr1).kept hr2) ((hr2.2 _ (by omega)).trans ((hr1.2 _ (by omega)).trans ht)) hk (fun i hi => (hd.2 i hi).trans (hl i hi)) (show K + 1 + 1 + 20 ≤ KB by omega) (show M9 + 6 + 6 + 6 * 20 ≤ MB by omega) hKB hMB hn
          · omega
        · exact absurd rfl h4
  · exact absurd rfl h1
set_option maxHeartbeats 2000000 in
set_option maxRecDepth 20000 in
theorem law_decC {X : jX} {nm : String} {hh : List (Nat × Nat × Nat × Nat)} {Q : jOut → jS → Prop} {s : Nat → Int} {N : Nat} {lu du tf : Nat → Int} {K M9 KB MB : Nat} {σ : jS} {pr : Int} {lw : Nat → Int} {bn : Nat → Nat} {cd sz : Nat → Nat → Nat} {ph : Nat → Nat → Int} {mn : Nat} {mg : Nat → Int} {kn : Nat} {kr : Nat → Int} {ks : Nat → Nat} {kt : Nat → Nat → Int} {rd : Nat} {rg : Nat → Int} {k q e0 x : Nat} (hG : LG s N lu du pr bn cd kn kr ks tf) (hW : CW σ pr (ks k) lw bn cd sz ph mn (jup mg q ((x : Nat) : Int)) kn kr ks kt rd rg) (hI : CI pr (ks k) lw bn cd sz ph mn (jup mg q ((x : Nat) : Int)) kn kr ks kt rd rg) (hF : LF s N lu du σ) (ht : σ.2 37 = jI 492 tf) (hk : k < kn) (hl : ∀ i, i < ks k → lw i = kr (k * 41 + i)) (hMs : MsK (bn 0) (cd 0) (sz 0) (ph 0) lw (ks k) mg mn 0 0) (hq : q < mn) (he : e0 < bn 0) (hqe : mg q = ((cd 0 e0 : Nat) : Int)) (hrx : rdR (bn 0) (cd 0) ((x : Nat) : Int) = 3) (hK : K + 25 ≤ KB) (hM : M9 + 6 * 25 ≤ MB) (hKB : KB ≤ 500000) (hMB : MB ≤ 5000000) (hn : ∀ (σ' : jS) (K' M' : Nat), LSt s N lu du pr bn cd sz ph kn kr ks kt tf σ' → K' ≤ KB → M' ≤ MB → J X (mLw nm hh) rL_law 541 [.ref 4, .ref 5, .ref 37, vI ((kn : Nat) : Int), vI pr, .null, .null, vI ((bn 0 : Nat) : Int), vI ((k : Nat) : Int), .null, .null, .null, .null, .null, .null, .null, .null, .null] [] K' M' σ' Q) : J X (mLw nm hh) rL_law 445 [.ref 4, .ref 5, .ref 37, vI ((kn : Nat) : Int), vI pr, .null, .null, vI ((bn 0 : Nat) : Int), vI ((k : Nat) : Int), vI ((ks k : Nat) : Int), .null, vI 1, vI ((q : Nat) : Int), .null, .null, .null, .null, .null] [] K M9 σ Q := by
  obtain ⟨hN, hs, hlu, hdu, hpr2, hn6, hU, hkn6, hks, hkt, hb1⟩ := id hG
  obtain ⟨hpr, ⟨hln, hlw⟩, hbk, ⟨hmn, hmg⟩, hki, hrd, hrg⟩ := id hI
  obtain ⟨hb40, hC0, hS0, hP0⟩ := hbk 0 (by omega)
  have hkk := hks k hk
  have hlw0 : ∀ t, 0 ≤ lw t := fun t => (hlw t).1
  have hkd : ∀ j, j < mn → j ≠ q → rdR (bn 0) (cd 0) (jup mg q ((x : Nat) : Int) j) ≠ 3 := fun j hj hjq => by
    rw [jup_ne _ _ hjq]
    rcases MsK.kinds hlw0 mn 0 0 hMs j (Nat.zero_le _) (by omega) with h | ⟨e, h1, h2⟩
    · rw [rd_plain h]; decide
    · rw [h2, (rd_code hU h1).1]; decide
  have hrq := dcU_r (n := bn 0) (C := cd 0) (S := sz 0) (P := ph 0) (mg := jup mg q ((x : Nat) : Int)) mn 0 0 lw rg 0 q
  rw [if_pos ⟨Nat.zero_le _, by omega⟩, jup_eq, hrx] at hrq
  have hdb := dcU_bd (n := bn 0) (cd := cd 0) (sz := sz 0) hP0 hmg mn 0 0 lw rg 0 (by omega) hlw hrg (Int.le_refl _)
  have hx : (dcU (bn 0) (cd 0) (sz 0) (ph 0) (jup mg q ((x : Nat) : Int)) mn 0 0 lw rg 0).2.2.2 = 1 := by
    rw [dcU_x, c3_1 (q := q) (by rw [jup_eq, hrx]) mn 0 (fun j _ hj y => hkd j (by omega) y) (Nat.zero_le _) (by omega)]
    rfl
  refine J.ald_n dL_law_445 rfl ?_
  refine J.iconst dL_law_446 ?_
  refine J.callV (rm' := rX6_decode) [vI 0] dL_law_447 (c_decode_0 hW hI (b := 0) (by omega)) hW.1.1 rfl st_X6_decode ml_L_80 im_X6_decode se_X6_decode rfl (Nat.le_of_ble_eq_true rfl) (by decide) (by decide) (Nat.le_of_ble_eq_true rfl) (show K + 1 ≤ 600130 by omega) (show M9 + 6 ≤ 7301080 by omega) (Or.inr (fun E9 σ9 hq9 => nomatch hq9.1)) (fun E9 σ9 hq9 _ => nomatch hq9.1) (fun r9 σ1 hq9 hle9 => ?_)
  obtain ⟨h9, hC1, hr1⟩ := hq9
  cases h9
  clear hle9
  rw [hx]
  have hI1 : CI pr ((dcU (bn 0) (cd 0) (sz 0) (ph 0) (jup mg q ((x : Nat) : Int)) mn 0 0 lw rg 0).1) ((dcU (bn 0) (cd 0) (sz 0) (ph 0) (jup mg q ((x : Nat) : Int)) mn 0 0 lw rg 0).2.1) bn cd sz ph mn (jup mg q ((x : Nat) : Int)) kn kr ks kt mn ((dcU (bn 0) (cd 0) (sz 0) (ph 0) (jup mg q ((x : Nat) : Int)) mn 0 0 lw rg 0).2.2.1) := ⟨hpr, ⟨hdb.1, hdb.2.1⟩, hbk, ⟨hmn, hmg⟩, hki, hmn, hdb.2.2.1⟩
  refine J.ild dL_law_450 rfl ?_
  refine J.icmp_eq dL_law_452 (by decide) (tgt := 457) (by unfold inI; omega) (by unfold inI; omega) (fun h1 => ?_) (fun h1 => ?_)
  · refine J.ild dL_law_457 rfl ?_
    refine J.if_lt dL_law_459 (by decide) (tgt := 483) (by unfold inI; omega) (fun h2 => ?_) (fun h2 => ?_)
    · omega
    · refine J.ald_n dL_law_462 rfl ?_
      refine J.ild dL_law_463 rfl ?_
      refine J.callV (rm' := rX6_how) [vI ((q : Nat) : Int)] dL_law_465 (c_how_0 hC1 hI1 (g := q) hq) hC1.1.1 rfl st_X6_how ml_L_83 im_X6_how se_X6_how rfl (Nat.le_of_ble_eq_true rfl) (by decide) (by decide) (Nat.le_of_ble_eq_true rfl) (show K + 1 + 1 ≤ 600130 by omega) (show M9 + 6 + 6 ≤ 7301080 by omega) (Or.inr (fun E9 σ9 hq9 => nomatch hq9.1)) (fun E9 σ9 hq9 _ => nomatch hq9.1) (fun r9 σ2 hq9 hle9 => ?_)
      obtain ⟨h9, hC2, hr2⟩ := hq9
      cases h9
      clear hle9
      rw [hrq]
      refine J.ild dL_law_468 rfl ?_
      refine J.if_ne dL_law_470 (by decide) (tgt := 477) (by unfold inI; omega) (fun h3 => ?_) (fun h3 => ?_)
      · refine J.iconst dL_law_477 ?_
        refine J.icmp_eq dL_law_478 (by decide) (tgt := 483) (by unfold inI; omega) (by unfold inI; omega) (fun h4 => ?_) (fun h4 => ?_)
        · refine J.ild dL_law_483 rfl ?_
          refine J.if_le dL_law_485 (by decide) (tgt := 491) (by unfold inI; omega) (fun h5 => ?_) (fun h5 => ?_)
          · omega
          · refine J.goto dL_law_488 (by decide) (tgt := 541) ?_
            refine J.forget [.ref 4, .ref 5, .ref 37, vI ((kn : Nat) : Int), vI pr, .null, .null, vI ((bn 0 : Nat) : Int), vI ((k : Nat) : Int), .null, .null, .null, .null, .null, .null, .null, .null, .null] ⟨Or.inr rfl, ⟨Or.inr rfl, ⟨Or.inr rfl, ⟨Or.inr rfl, ⟨Or.inr rfl, ⟨Or.inl rfl, ⟨Or.inl rfl, ⟨Or.inr rfl, ⟨Or.inr rfl, ⟨Or.inl rfl, ⟨Or.inl rfl, ⟨Or.inl rfl, ⟨Or.inl rfl, ⟨Or.inl rfl, ⟨Or.inl rfl, ⟨Or.inl rfl, ⟨Or.inl rfl, ⟨Or.inl rfl, trivial⟩⟩⟩⟩⟩⟩⟩⟩⟩⟩⟩⟩⟩⟩⟩⟩⟩⟩ ?_
            exact hn σ2 _ _ ⟨⟨_, _, _, _, _, _, hC2, hI1⟩, (hF.kept hr1).kept hr2, (hr2.2 _ (by omega)).trans ((hr1.2 _ (by omega)).trans ht)⟩ (show K + 1 + 1 ≤ KB by omega) (show M9 + 6 + 6 ≤ MB by omega)
        · exact absurd rfl h4
      · omega
  · exact absurd rfl h1
