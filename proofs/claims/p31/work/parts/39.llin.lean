/-! ===== the law: a line read back ===== -/
abbrev rL_law : Room := { frames := 10, cells := 600130, slots := 7301080, locals := 348 }
abbrev mLw (nm : String) (hh : List (Nat × Nat × Nat × Nat)) : jMt := ({ yL_law with name := nm }, cL_law, 18, some .boolean, hh)
/-- what holds of script, units, price, book and kept lines from the first line on -/
def LG (s : Nat → Int) (N : Nat) (lu du : Nat → Int) (pr : Int) (bn : Nat → Nat) (cd : Nat → Nat → Nat) (kn : Nat) (kr : Nat → Int) (ks : Nat → Nat) (tf : Nat → Int) : Prop :=
  N ≤ 260 ∧ (∀ j, inI (s j)) ∧ (∀ i, i < 26 → ((1 : Nat) : Int) ≤ lu i ∧ lu i ≤ 100) ∧ (∀ i, i < 10 → ((9 : Nat) : Int) ≤ du i ∧ du i ≤ 100) ∧ (2 ≤ pr ∧ pr ≤ 5) ∧ bn 0 ≤ 6 ∧ LkI (bn 0) (cd 0) ∧ (1 ≤ kn ∧ kn ≤ 6) ∧ (∀ j, j < kn → ks j ≤ 14) ∧ (∀ j i, j < kn → i < ks j → tf (41 * j + 1 + i) = kr (j * 41 + i)) ∧ bn 1 = 0
def LSt (s : Nat → Int) (N : Nat) (lu du : Nat → Int) (pr : Int) (bn : Nat → Nat) (cd sz : Nat → Nat → Nat) (ph : Nat → Nat → Int) (kn : Nat) (kr : Nat → Int) (ks : Nat → Nat) (kt : Nat → Nat → Int) (tf : Nat → Int) (σ : jS) : Prop :=
  (∃ (ln : Nat) (lw : Nat → Int) (mn : Nat) (mg : Nat → Int) (rd : Nat) (rg : Nat → Int), CW σ pr ln lw bn cd sz ph mn mg kn kr ks kt rd rg ∧ CI pr ln lw bn cd sz ph mn mg kn kr ks kt rd rg) ∧ LF s N lu du σ ∧ σ.2 37 = jI 492 tf
set_option maxHeartbeats 2000000 in
set_option maxRecDepth 20000 in
theorem law_cmp {X : jX} {nm : String} {hh : List (Nat × Nat × Nat × Nat)} {Q : jOut → jS → Prop} {s : Nat → Int} {N : Nat} {lu du tf : Nat → Int} {K M9 KB MB : Nat} {σ : jS} {pr : Int} {lw : Nat → Int} {bn : Nat → Nat} {cd sz : Nat → Nat → Nat} {ph : Nat → Nat → Int} {mn : Nat} {mg : Nat → Int} {kn : Nat} {kr : Nat → Int} {ks : Nat → Nat} {kt : Nat → Nat → Int} {rd : Nat} {rg : Nat → Int} {k : Nat} (hG : LG s N lu du pr bn cd kn kr ks tf) (hW : CW σ pr (ks k) lw bn cd sz ph mn mg kn kr ks kt rd rg) (hI : CI pr (ks k) lw bn cd sz ph mn mg kn kr ks kt rd rg) (hF : LF s N lu du σ) (ht : σ.2 37 = jI 492 tf) (hk : k < kn) (hl : ∀ i, i < ks k → lw i = kr (k * 41 + i)) (hK : K + 20 ≤ KB) (hM : M9 + 6 * 20 ≤ MB) (hKB : KB ≤ 500000) (hMB : MB ≤ 5000000) (hn : ∀ (σ' : jS) (K' M' : Nat), LSt s N lu du pr bn cd sz ph kn kr ks kt tf σ' → K' ≤ KB → M' ≤ MB → J X (mLw nm hh) rL_law 541 [.ref 4, .ref 5, .ref 37, vI ((kn : Nat) : Int), vI pr, .null, .null, vI ((bn 0 : Nat) : Int), vI ((k : Nat) : Int), .null, .null, .null, .null, .null, .null, .null, .null, .null] [] K' M' σ' Q) : J X (mLw nm hh) rL_law 491 [.ref 4, .ref 5, .ref 37, vI ((kn : Nat) : Int), vI pr, .null, .null, vI ((bn 0 : Nat) : Int), vI ((k : Nat) : Int), vI ((ks k : Nat) : Int), .null, .null, .null, .null, .null, .null, .null, .null] [] K M9 σ Q := by
  obtain ⟨hN, hs, hlu, hdu, hpr2, hn6, hU, hkn6, hks, hkt, hb1⟩ := id hG
  have hkk := hks k hk
  have hlb := hI.2.1.2
  refine J.ald_n dL_law_491 rfl ?_
  refine J.callV (rm' := rX6_words) [] dL_law_492 (c_words hW hI) hW.1.1 rfl st_X6_words ml_L_86 im_X6_words se_X6_words rfl (Nat.le_of_ble_eq_true rfl) (by decide) (by decide) (Nat.le_of_ble_eq_true rfl) (show K + 0 ≤ 600130 by omega) (show M9 + 0 ≤ 7301080 by omega) (Or.inr (fun E9 σ9 hq9 => nomatch hq9.1)) (fun E9 σ9 hq9 _ => nomatch hq9.1) (fun r9 σ1 hq9 hle9 => ?_)
  obtain ⟨h9, hC1, hr1⟩ := hq9
  cases h9
  clear hle9
  refine J.ild dL_law_495 rfl ?_
  refine J.icmp_eq dL_law_497 (by decide) (tgt := 502) (by unfold inI; omega) (by unfold inI; omega) (fun h => ?_) (fun h => ?_)
  · refine J.iconst dL_law_502 ?_
    refine J.ist dL_law_503 (Nat.le_of_ble_eq_true rfl) (jnc_of rfl rfl) ?_
    have L : ∀ (t : Nat), ∀ (i K9 M8 : Nat) (σ : jS), i + t = ks k → K9 + t ≤ KB → M8 + 6 * t ≤ MB → CW σ pr (ks k) lw bn cd sz ph mn mg kn kr ks kt rd rg → LF s N lu du σ → σ.2 37 = jI 492 tf → J X (mLw nm hh) rL_law 505 [.ref 4, .ref 5, .ref 37, vI ((kn : Nat) : Int), vI pr, .null, .null, vI ((bn 0 : Nat) : Int), vI ((k : Nat) : Int), vI ((ks k : Nat) : Int), .null, .null, .null, vI ((i : Nat) : Int), .null, .null, .null, .null] [] K9 M8 σ Q := by
      intro t
      induction t with
      | zero =>
        intro i K9 M8 σ hi hK9 hM8 hW hF ht
        refine J.ild dL_law_505 rfl ?_
        refine J.ild dL_law_507 rfl ?_
        refine J.icmp_ge dL_law_509 (by decide) (tgt := 541) (by unfold inI; omega) (by unfold inI; omega) (fun h2 => ?_) (fun h2 => ?_)
        · refine J.forget [.ref 4, .ref 5, .ref 37, vI ((kn : Nat) : Int), vI pr, .null, .null, vI ((bn 0 : Nat) : Int), vI ((k : Nat) : Int), .null, .null, .null, .null, .null, .null, .null, .null, .null] ⟨Or.inr rfl, ⟨Or.inr rfl, ⟨Or.inr rfl, ⟨Or.inr rfl, ⟨Or.inr rfl, ⟨Or.inl rfl, ⟨Or.inl rfl, ⟨Or.inr rfl, ⟨Or.inr rfl, ⟨Or.inl rfl, ⟨Or.inl rfl, ⟨Or.inl rfl, ⟨Or.inl rfl, ⟨Or.inl rfl, ⟨Or.inl rfl, ⟨Or.inl rfl, ⟨Or.inl rfl, ⟨Or.inl rfl, trivial⟩⟩⟩⟩⟩⟩⟩⟩⟩⟩⟩⟩⟩⟩⟩⟩⟩⟩ ?_
          exact hn σ K9 M8 ⟨⟨_, lw, mn, mg, rd, rg, hW, hI⟩, hF, ht⟩ (by omega) (by omega)
        · omega
      | succ t ih =>
        intro i K9 M8 σ hi hK9 hM8 hW hF ht
        refine J.ild dL_law_505 rfl ?_
        refine J.ild dL_law_507 rfl ?_
        refine J.icmp_ge dL_law_509 (by decide) (tgt := 541) (by unfold inI; omega) (by unfold inI; omega) (fun h2 => ?_) (fun h2 => ?_)
        · omega
        · refine J.ald_n dL_law_512 rfl ?_
          refine J.ild dL_law_513 rfl ?_
          refine J.callV (rm' := rX6_wordAt) [vI ((i : Nat) : Int)] dL_law_515 (c_wordAt_0 hW hI (p := i) (by omega)) hW.1.1 rfl st_X6_wordAt ml_L_89 im_X6_wordAt se_X6_wordAt rfl (Nat.le_of_ble_eq_true rfl) (by decide) (by decide) (Nat.le_of_ble_eq_true rfl) (show K9 + 1 ≤ 600130 by omega) (show M8 + 6 ≤ 7301080 by omega) (Or.inr (fun E9 σ9 hq9 => nomatch hq9.1)) (fun E9 σ9 hq9 _ => nomatch hq9.1) (fun r9 σ2 hq9 hle9 => ?_)
          obtain ⟨h9, hC2, hr2⟩ := hq9
          cases h9
          clear hle9
          have heq : lw i = tf (41 * k + 1 + i) := by rw [hkt k i hk (by omega), hl i (by omega)]
          have hli := hlb i
          refine J.ald_n dL_law_518 rfl ?_
          refine J.bipush dL_law_519 (by decide) ?_
          refine J.ild dL_law_521 rfl ?_
          refine J.imul dL_law_523 ?_
          rw [show (41 : Int) * ((k : Nat) : Int) = ((41 * k : Nat) : Int) from by push_cast; rfl]
          refine J.iconst dL_law_524 ?_
          refine J.iadd dL_law_525 ?_
          rw [show (((41 * k : Nat) : Int) : Int) + 1 = (((41 * k) + 1 : Nat) : Int) from by push_cast; rfl]
          refine J.ild dL_law_526 rfl ?_
          refine J.iadd dL_law_528 ?_
          rw [show ((((41 * k) + 1 : Nat) : Int) : Int) + ((i : Nat) : Int) = ((((41 * k) + 1) + i : Nat) : Int) from by push_cast; rfl]
          refine J.iald (((41 * k) + 1) + i) dL_law_529 ((hr2.2 _ (by omega)).trans ht) rfl (by omega) (by omega) ?_
          refine J.icmp_eq dL_law_530 (by decide) (tgt := 535) (by unfold inI; omega) (by unfold inI; omega) (fun h3 => ?_) (fun h3 => ?_)
          · refine J.iinc (v := ((i + 1 : Nat) : Int)) dL_law_535 rfl (by first | rfl | omega) (Nat.le_of_ble_eq_true rfl) (jnc_of rfl rfl) ?_
            refine J.goto dL_law_538 (by decide) (tgt := 505) ?_
            exact ih (i + 1) _ _ σ2 (by omega) (show K9 + 1 + t ≤ KB by omega) (show M8 + 6 + 6 * t ≤ MB by omega) hC2 (hF.kept hr2) ((hr2.2 _ (by omega)).trans ht)
          · exact absurd heq h3
    exact L (ks k) 0 _ _ σ1 (by omega) (show K + 0 + ks k ≤ KB by omega) (show M9 + 0 + 6 * ks k ≤ MB by omega) hC1 (hF.kept hr1) ((hr1.2 _ (by omega)).trans ht)
  · exact absurd rfl h
