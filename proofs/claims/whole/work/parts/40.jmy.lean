set_option maxRecDepth 20000 in
theorem m_learn_1 {X : jX} {σ : jS} {pr : Int} {ln : Nat} {lw : Nat → Int} {bn : Nat → Nat} {cd sz : Nat → Nat → Nat} {ph : Nat → Nat → Int} {mn : Nat} {mg : Nat → Int} {kn : Nat} {kr : Nat → Int} {ks : Nat → Nat} {kt : Nat → Nat → Int} {rd : Nat} {rg : Nat → Int} {th : Int} {a c : Int} (hM : MW σ th pr ln lw bn cd sz ph mn mg kn kr ks kt rd rg) (hI : CI pr ln lw bn cd sz ph mn mg kn kr ks kt rd rg) (hi : inI a) (ha : ¬ (0 ≤ a ∧ a < 3)) : JM X mX7_learn rX7_learn [.ref 37, vI a, vI c] σ (MP 1 (0) σ (fun σ1 => MW σ1 1 pr ln lw bn cd sz ph mn mg kn kr ks kt rd rg)) := by
  refine JM.of (lc := [.ref 37, vI a, vI c, .null, .null]) rfl ?_
  obtain ⟨hpr, ⟨hln, hlw⟩, hbk, ⟨hmn, hmg⟩, hki, hrd, hrg⟩ := id hI
  obtain ⟨⟨pa, ps, hO⟩, ⟨ml, h38, hml, hmi⟩, h39, ⟨Kw, h40, hw9, hkw⟩, h41, ⟨Mc, h42, hMc⟩, ⟨Ms, h43, hMs⟩, ⟨Mp, h44, hMp⟩, h45, h46, ⟨lf, h47⟩, ⟨pc, h48⟩⟩ := id hM
  have hkn := hki.1
  refine J.ald_n dX7_learn_0 rfl ?_
  refine J.iconst dX7_learn_1 ?_
  refine pf_X7_47 rfl dX7_learn_2 hO ?_
  refine J.ild_n dX7_learn_5 rfl ?_
  refine J.callS (rm' := rX7_isBook) [vI a] dX7_learn_6 (c_X7_isBook_f hi (by omega)) st_X7_isBook ml_X7_55 sm_X7_isBook rfl (Nat.le_of_ble_eq_true rfl) (by decide) (by decide) (Nat.le_of_ble_eq_true rfl) (by decide) (by decide) (Or.inl rfl) (fun E9 σ9 hq9 _ => nomatch hq9.1) (fun r9 σ9 hq9 hle9 => ?_)
  obtain ⟨h9, h8⟩ := hq9
  rw [h8]
  clear hle9 h8 σ9
  cases h9
  refine J.if_ne dX7_learn_9 (by decide) (tgt := 18) (by unfold inI; omega) (fun hb9 => ?_) (fun hb9 => ?_)
  · first | exact absurd hb9 (by decide) | exact absurd rfl hb9 | omega
  · refine J.ald_n dX7_learn_12 rfl ?_
    refine J.iconst dX7_learn_13 ?_
    refine J.callV (rm' := rX7_no) [vI 1] dX7_learn_14 (c_X7_no (jset_eq _ _ _)) (jset_eq _ _ _) rfl st_X7_no ml_X7_59 im_X7_no se_X7_no rfl (Nat.le_of_ble_eq_true rfl) (by decide) (by decide) (Nat.le_of_ble_eq_true rfl) (by decide) (by decide) (Or.inl rfl) (fun E9 σ9 hq9 _ => nomatch hq9.1) (fun r9 σ9 hq9 hle9 => ?_)
    obtain ⟨h9, h8⟩ := hq9
    cases h9
    subst h8
    clear hle9
    refine J.iret .int dX7_learn_17 rfl rfl (by decide) (by decide) ?_
    exact ⟨⟨_, rfl, fun q => absurd q (by decide)⟩, ⟨⟨pa, ps, (jset_eq _ _ _)⟩, ⟨ml, ((jset_ne _ _ (by omega)).trans ((jset_ne _ _ (by omega)).trans h38)), hml, hmi⟩, ((jset_ne _ _ (by omega)).trans ((jset_ne _ _ (by omega)).trans h39)), ⟨Kw, ((jset_ne _ _ (by omega)).trans ((jset_ne _ _ (by omega)).trans h40)), hw9, hkw⟩, ((jset_ne _ _ (by omega)).trans ((jset_ne _ _ (by omega)).trans h41)), ⟨Mc, ((jset_ne _ _ (by omega)).trans ((jset_ne _ _ (by omega)).trans h42)), hMc⟩, ⟨Ms, ((jset_ne _ _ (by omega)).trans ((jset_ne _ _ (by omega)).trans h43)), hMs⟩, ⟨Mp, ((jset_ne _ _ (by omega)).trans ((jset_ne _ _ (by omega)).trans h44)), hMp⟩, ((jset_ne _ _ (by omega)).trans ((jset_ne _ _ (by omega)).trans h45)), ((jset_ne _ _ (by omega)).trans ((jset_ne _ _ (by omega)).trans h46)), ⟨_, ((jset_ne _ _ (by omega)).trans ((jset_ne _ _ (by omega)).trans h47))⟩, ⟨_, ((jset_ne _ _ (by omega)).trans ((jset_ne _ _ (by omega)).trans h48))⟩⟩, rfl, fun j hj => ((jset_ne _ _ (by omega)).trans ((jset_ne _ _ (by omega)).trans (rfl : σ.2 j = σ.2 j)))⟩
set_option maxRecDepth 20000 in
theorem m_learn_2 {X : jX} {σ : jS} {pr : Int} {ln : Nat} {lw : Nat → Int} {bn : Nat → Nat} {cd sz : Nat → Nat → Nat} {ph : Nat → Nat → Int} {mn : Nat} {mg : Nat → Int} {kn : Nat} {kr : Nat → Int} {ks : Nat → Nat} {kt : Nat → Nat → Int} {rd : Nat} {rg : Nat → Int} {th : Int} {b : Nat} {a : Int} (hM : MW σ th pr ln lw bn cd sz ph mn mg kn kr ks kt rd rg) (hI : CI pr ln lw bn cd sz ph mn mg kn kr ks kt rd rg) (hb : b < 3) (hi : inI a) (ha : ¬ (1 ≤ a ∧ a ≤ 40)) : JM X mX7_learn rX7_learn [.ref 37, vI ((b : Nat) : Int), vI a] σ (MP 2 (0) σ (fun σ1 => MW σ1 2 pr ln lw bn cd sz ph mn mg kn kr ks kt rd rg)) := by
  refine JM.of (lc := [.ref 37, vI ((b : Nat) : Int), vI a, .null, .null]) rfl ?_
  obtain ⟨hpr, ⟨hln, hlw⟩, hbk, ⟨hmn, hmg⟩, hki, hrd, hrg⟩ := id hI
  obtain ⟨⟨pa, ps, hO⟩, ⟨ml, h38, hml, hmi⟩, h39, ⟨Kw, h40, hw9, hkw⟩, h41, ⟨Mc, h42, hMc⟩, ⟨Ms, h43, hMs⟩, ⟨Mp, h44, hMp⟩, h45, h46, ⟨lf, h47⟩, ⟨pc, h48⟩⟩ := id hM
  have hkn := hki.1
  refine J.ald_n dX7_learn_0 rfl ?_
  refine J.iconst dX7_learn_1 ?_
  refine pf_X7_47 rfl dX7_learn_2 hO ?_
  refine J.ild_n dX7_learn_5 rfl ?_
  refine J.callS (rm' := rX7_isBook) [vI ((b : Nat) : Int)] dX7_learn_6 (c_X7_isBook_t (by unfold inI; omega) (by omega)) st_X7_isBook ml_X7_55 sm_X7_isBook rfl (Nat.le_of_ble_eq_true rfl) (by decide) (by decide) (Nat.le_of_ble_eq_true rfl) (by decide) (by decide) (Or.inl rfl) (fun E9 σ9 hq9 _ => nomatch hq9.1) (fun r9 σ9 hq9 hle9 => ?_)
  obtain ⟨h9, h8⟩ := hq9
  rw [h8]
  clear hle9 h8 σ9
  cases h9
  refine J.if_ne dX7_learn_9 (by decide) (tgt := 18) (by unfold inI; omega) (fun hb9 => ?_) (fun hb9 => ?_)
  · refine J.ild_n dX7_learn_18 rfl ?_
    refine J.iconst dX7_learn_19 ?_
    refine J.bipush dX7_learn_20 (by decide) ?_
    refine J.callS (rm' := rX7_isIn) [vI a, vI 1, vI 40] dX7_learn_22 (c_X7_isIn_f hi (by unfold inI; omega) (by unfold inI; omega) (by omega)) st_X7_isIn ml_X7_50 sm_X7_isIn rfl (Nat.le_of_ble_eq_true rfl) (by decide) (by decide) (Nat.le_of_ble_eq_true rfl) (by decide) (by decide) (Or.inl rfl) (fun E9 σ9 hq9 _ => nomatch hq9.1) (fun r9 σ9 hq9 hle9 => ?_)
    obtain ⟨h9, h8⟩ := hq9
    rw [h8]
    clear hle9 h8 σ9
    cases h9
    refine J.if_ne dX7_learn_25 (by decide) (tgt := 34) (by unfold inI; omega) (fun hb25 => ?_) (fun hb25 => ?_)
    · first | exact absurd hb25 (by decide) | exact absurd rfl hb25 | omega
    · refine J.ald_n dX7_learn_28 rfl ?_
      refine J.iconst dX7_learn_29 ?_
      refine J.callV (rm' := rX7_no) [vI 2] dX7_learn_30 (c_X7_no (jset_eq _ _ _)) (jset_eq _ _ _) rfl st_X7_no ml_X7_59 im_X7_no se_X7_no rfl (Nat.le_of_ble_eq_true rfl) (by decide) (by decide) (Nat.le_of_ble_eq_true rfl) (by decide) (by decide) (Or.inl rfl) (fun E9 σ9 hq9 _ => nomatch hq9.1) (fun r9 σ9 hq9 hle9 => ?_)
      obtain ⟨h9, h8⟩ := hq9
      cases h9
      subst h8
      clear hle9
      refine J.iret .int dX7_learn_33 rfl rfl (by decide) (by decide) ?_
      exact ⟨⟨_, rfl, fun q => absurd q (by decide)⟩, ⟨⟨pa, ps, (jset_eq _ _ _)⟩, ⟨ml, ((jset_ne _ _ (by omega)).trans ((jset_ne _ _ (by omega)).trans h38)), hml, hmi⟩, ((jset_ne _ _ (by omega)).trans ((jset_ne _ _ (by omega)).trans h39)), ⟨Kw, ((jset_ne _ _ (by omega)).trans ((jset_ne _ _ (by omega)).trans h40)), hw9, hkw⟩, ((jset_ne _ _ (by omega)).trans ((jset_ne _ _ (by omega)).trans h41)), ⟨Mc, ((jset_ne _ _ (by omega)).trans ((jset_ne _ _ (by omega)).trans h42)), hMc⟩, ⟨Ms, ((jset_ne _ _ (by omega)).trans ((jset_ne _ _ (by omega)).trans h43)), hMs⟩, ⟨Mp, ((jset_ne _ _ (by omega)).trans ((jset_ne _ _ (by omega)).trans h44)), hMp⟩, ((jset_ne _ _ (by omega)).trans ((jset_ne _ _ (by omega)).trans h45)), ((jset_ne _ _ (by omega)).trans ((jset_ne _ _ (by omega)).trans h46)), ⟨_, ((jset_ne _ _ (by omega)).trans ((jset_ne _ _ (by omega)).trans h47))⟩, ⟨_, ((jset_ne _ _ (by omega)).trans ((jset_ne _ _ (by omega)).trans h48))⟩⟩, rfl, fun j hj => ((jset_ne _ _ (by omega)).trans ((jset_ne _ _ (by omega)).trans (rfl : σ.2 j = σ.2 j)))⟩
  · first | exact absurd hb9 (by decide) | exact absurd rfl hb9 | omega
set_option maxRecDepth 20000 in
theorem m_learn_0 {X : jX} {σ : jS} {pr : Int} {ln : Nat} {lw : Nat → Int} {bn : Nat → Nat} {cd sz : Nat → Nat → Nat} {ph : Nat → Nat → Int} {mn : Nat} {mg : Nat → Int} {kn : Nat} {kr : Nat → Int} {ks : Nat → Nat} {kt : Nat → Nat → Int} {rd : Nat} {rg : Nat → Int} {th : Int} {b m : Nat} (hM : MW σ th pr ln lw bn cd sz ph mn mg kn kr ks kt rd rg) (hI : CI pr ln lw bn cd sz ph mn mg kn kr ks kt rd rg) (hb : b < 3) (hm : 1 ≤ m ∧ m ≤ 40) : JM X mX7_learn rX7_learn [.ref 37, vI ((b : Nat) : Int), vI ((m : Nat) : Int)] σ (MP 0 ((((lnU kn kr kt pr m 0 (bn b) (cd b) (sz b) (ph b) lw).1 : Nat) : Int)) σ (fun σ1 => MW σ1 0 pr 0 ((lnU kn kr kt pr m 0 (bn b) (cd b) (sz b) (ph b) lw).2.2.2.2.2) (jup bn b (lnU kn kr kt pr m 0 (bn b) (cd b) (sz b) (ph b) lw).2.1) (jup cd b (lnU kn kr kt pr m 0 (bn b) (cd b) (sz b) (ph b) lw).2.2.1) (jup sz b (lnU kn kr kt pr m 0 (bn b) (cd b) (sz b) (ph b) lw).2.2.2.1) (jup ph b (lnU kn kr kt pr m 0 (bn b) (cd b) (sz b) (ph b) lw).2.2.2.2.1) mn mg kn kr ks kt rd rg)) := by
  refine JM.of (lc := [.ref 37, vI ((b : Nat) : Int), vI ((m : Nat) : Int), .null, .null]) rfl ?_
  obtain ⟨hpr, ⟨hln, hlw⟩, hbk, ⟨hmn, hmg⟩, hki, hrd, hrg⟩ := id hI
  obtain ⟨⟨pa, ps, hO⟩, ⟨ml, h38, hml, hmi⟩, h39, ⟨Kw, h40, hw9, hkw⟩, h41, ⟨Mc, h42, hMc⟩, ⟨Ms, h43, hMs⟩, ⟨Mp, h44, hMp⟩, h45, h46, ⟨lf, h47⟩, ⟨pc, h48⟩⟩ := id hM
  have hkn := hki.1
  have hbn := (hbk b hb).1
  have hcd := (hbk b hb).2.1
  have hsz := (hbk b hb).2.2.1
  have hph := (hbk b hb).2.2.2
  have hc9 := fun e he => hMc b e hb he
  have hs9 := fun e he => hMs b e hb he
  have hp9 := fun t ht => hMp b t hb ht
  refine J.ald_n dX7_learn_0 rfl ?_
  refine J.iconst dX7_learn_1 ?_
  refine pf_X7_47 rfl dX7_learn_2 hO ?_
  refine J.ild_n dX7_learn_5 rfl ?_
  refine J.callS (rm' := rX7_isBook) [vI ((b : Nat) : Int)] dX7_learn_6 (c_X7_isBook_t (by unfold inI; omega) (by omega)) st_X7_isBook ml_X7_55 sm_X7_isBook rfl (Nat.le_of_ble_eq_true rfl) (by decide) (by decide) (Nat.le_of_ble_eq_true rfl) (by decide) (by decide) (Or.inl rfl) (fun E9 σ9 hq9 _ => nomatch hq9.1) (fun r9 σ9 hq9 hle9 => ?_)
  obtain ⟨h9, h8⟩ := hq9
  rw [h8]
  clear hle9 h8 σ9
  cases h9
  refine J.if_ne dX7_learn_9 (by decide) (tgt := 18) (by unfold inI; omega) (fun hb9 => ?_) (fun hb9 => ?_)
  · refine J.ild_n dX7_learn_18 rfl ?_
    refine J.iconst dX7_learn_19 ?_
    refine J.bipush dX7_learn_20 (by decide) ?_
    refine J.callS (rm' := rX7_isIn) [vI ((m : Nat) : Int), vI 1, vI 40] dX7_learn_22 (c_X7_isIn_t (by unfold inI; omega) (by unfold inI; omega) (by unfold inI; omega) (by omega)) st_X7_isIn ml_X7_50 sm_X7_isIn rfl (Nat.le_of_ble_eq_true rfl) (by decide) (by decide) (Nat.le_of_ble_eq_true rfl) (by decide) (by decide) (Or.inl rfl) (fun E9 σ9 hq9 _ => nomatch hq9.1) (fun r9 σ9 hq9 hle9 => ?_)
    obtain ⟨h9, h8⟩ := hq9
    rw [h8]
    clear hle9 h8 σ9
    cases h9
    refine J.if_ne dX7_learn_25 (by decide) (tgt := 34) (by unfold inI; omega) (fun hb25 => ?_) (fun hb25 => ?_)
    · refine J.ald_n dX7_learn_34 rfl ?_
      refine J.iconst dX7_learn_35 ?_
      refine pf_X7_63 rfl dX7_learn_36 (jset_eq _ _ _) ?_
      refine J.iconst dX7_learn_39 ?_
      refine J.ist_n dX7_learn_40 (by decide) (jnc_of rfl rfl) ?_
      have L : ∀ (t d n : Nat) (C S : Nat → Nat) (Ph w : Nat → Int) (σ' : jS) (Mc Ms : Nat → Nat) (Mp : Nat → Int) (pa ps : Int) (u4 : Value), d + t = m → u4.category = 1 → σ'.1 = σ.1 → (∀ j, j ≠ 37 → (j < 41 ∨ 44 < j) → σ'.2 j = σ.2 j) → MO σ' 0 pr 0 ((kn : Nat) : Int) ((mn : Nat) : Int) ((rd : Nat) : Int) pa ps → σ'.2 41 = jI 3 (fun e => ((jup bn b n e : Nat) : Int)) → σ'.2 42 = jI 120 (fun e => ((Mc e : Nat) : Int)) → σ'.2 43 = jI 120 (fun e => ((Ms e : Nat) : Int)) → σ'.2 44 = jI 720 Mp → (∀ b' e, b' < 3 → e < 40 → Mc (40 * b' + e) = jup cd b C b' e) → (∀ b' e, b' < 3 → e < 40 → Ms (40 * b' + e) = jup sz b S b' e) → (∀ b' t, b' < 3 → t < 240 → Mp (240 * b' + t) = jup ph b Ph b' t) → n ≤ 40 → (∀ e, C e ≤ 11881375) → (∀ e, e < n → 1 ≤ S e ∧ S e ≤ 6) → (∀ t, 0 ≤ Ph t ∧ Ph t ≤ 9999) → J X mX7_learn rX7_learn 41 [.ref 37, vI ((b : Nat) : Int), vI ((m : Nat) : Int), vI ((d : Nat) : Int), u4] [] 0 0 σ' (MP 0 (((lnU kn kr kt pr t d n C S Ph w).1 : Nat) : Int) σ (fun σ9 => MW σ9 0 pr 0 ((lnU kn kr kt pr t d n C S Ph w).2.2.2.2.2) (jup bn b (lnU kn kr kt pr t d n C S Ph w).2.1) (jup cd b (lnU kn kr kt pr t d n C S Ph w).2.2.1) (jup sz b (lnU kn kr kt pr t d n C S Ph w).2.2.2.1) (jup ph b (lnU kn kr kt pr t d n C S Ph w).2.2.2.2.1) mn mg kn kr ks kt rd rg)) := by
        intro t
        induction t with
        | zero =>
          intro d n C S Ph w σ' Mc Ms Mp pa ps u4 hd hu4 h1 h2 h3 k41 k42 k43 k44 r1 r2 r3 hn' hcd' hsz' hph'
          refine J.ild_n dX7_learn_41 rfl ?_
          refine J.ild_n dX7_learn_42 rfl ?_
          refine J.icmp_ge dX7_learn_43 (by decide) (tgt := 125) (by unfold inI; omega) (by unfold inI; omega) (fun h => ?_) (fun h => ?_)
          · refine J.ild_n dX7_learn_125 rfl ?_
            refine J.iret .int dX7_learn_126 rfl rfl (by decide) (by decide) ?_
            exact ⟨⟨_, rfl, fun _ => rfl⟩, ⟨⟨pa, ps, h3⟩, ⟨ml, ((h2 _ (by omega) (by omega)).trans h38), fun t ht => absurd ht (by omega), hmi⟩, ((h2 _ (by omega) (by omega)).trans h39), ⟨Kw, ((h2 _ (by omega) (by omega)).trans h40), hw9, hkw⟩, k41, ⟨Mc, k42, r1⟩, ⟨Ms, k43, r2⟩, ⟨Mp, k44, r3⟩, ((h2 _ (by omega) (by omega)).trans h45), ((h2 _ (by omega) (by omega)).trans h46), ⟨_, ((h2 _ (by omega) (by omega)).trans h47)⟩, ⟨_, ((h2 _ (by omega) (by omega)).trans h48)⟩⟩, h1, fun j hj => ((h2 _ (by omega) (by omega)).trans (rfl : σ.2 j = σ.2 j))⟩
          · omega
        | succ t ih =>
          intro d n C S Ph w σ' Mc Ms Mp pa ps u4 hd hu4 h1 h2 h3 k41 k42 k43 k44 r1 r2 r3 hn' hcd' hsz' hph'
          refine J.ild_n dX7_learn_41 rfl ?_
          refine J.ild_n dX7_learn_42 rfl ?_
          refine J.icmp_ge dX7_learn_43 (by decide) (tgt := 125) (by unfold inI; omega) (by unfold inI; omega) (fun h => ?_) (fun h => ?_)
          · omega
          · have hnb : jup bn b n b = n := jup_eq _ _ _
            have q1 : ∀ e, e < 40 → Mc (40 * b + e) = C e := fun e he => by rw [r1 b e hb he, jup_eq]
            have q2 : ∀ e, e < 40 → Ms (40 * b + e) = S e := fun e he => by rw [r2 b e hb he, jup_eq]
            have q3 : ∀ t, t < 240 → Mp (240 * b + t) = Ph t := fun t ht => by rw [r3 b t hb ht, jup_eq]
            have hnb2 : jup bn b n b ≤ 40 := by rw [hnb]; exact hn'
            have hpi := hki.pro (B := (lnB kn kr kt pr n S Ph)) rfl
            have hbd := proB_bd (B := (lnB kn kr kt pr n S Ph)) hki hpr rfl
            refine J.ald_n dX7_learn_46 rfl ?_
            refine J.ild_n dX7_learn_47 rfl ?_
            refine J.callV (rm' := rX7_proposal) [vI ((b : Nat) : Int)] dX7_learn_48 (c_X7_proposal (bn := jup bn b n) (sz := S) (ph := Ph) (B9 := (lnB kn kr kt pr n S Ph)) (by rw [hnb]; exact lnB_pm hki) h3 ((h2 _ (by omega) (by omega)).trans h39) ((h2 _ (by omega) (by omega)).trans h40) hw9 hkw hki hpr k41 hb hnb2 k43 q2 k44 q3 hph' (by rw [hnb]; exact hsz')) h3 rfl st_X7_proposal ml_X7_164 im_X7_proposal se_X7_proposal rfl (Nat.le_of_ble_eq_true rfl) (by decide) (by decide) (Nat.le_of_ble_eq_true rfl) (by decide) (by decide) (Or.inl rfl) (fun E9 σ9 hq9 _ => nomatch hq9.1) (fun r9 σ1 hq9 hle9 => ?_)
            obtain ⟨h9, ⟨pa1, ps1, k37, hpp⟩, hn1, hj1⟩ := hq9
            cases h9
            clear hle9
            refine J.if_le dX7_learn_51 (by decide) (tgt := 125) hbd (fun h0 => ?_) (fun h0 => ?_)
            · refine J.ild_n dX7_learn_125 rfl ?_
              refine J.iret .int dX7_learn_126 rfl rfl (by decide) (by decide) ?_
              rw [show (lnU kn kr kt pr (t + 1) d n C S Ph w) = (d, n, C, S, Ph, w) from if_neg (by omega)]
              exact ⟨⟨_, rfl, fun _ => rfl⟩, ⟨⟨pa1, ps1, k37⟩, ⟨ml, ((hj1 _ (by omega)).trans ((h2 _ (by omega) (by omega)).trans h38)), fun t ht => absurd ht (by omega), hmi⟩, ((hj1 _ (by omega)).trans ((h2 _ (by omega) (by omega)).trans h39)), ⟨Kw, ((hj1 _ (by omega)).trans ((h2 _ (by omega) (by omega)).trans h40)), hw9, hkw⟩, ((hj1 _ (by omega)).trans k41), ⟨Mc, ((hj1 _ (by omega)).trans k42), r1⟩, ⟨Ms, ((hj1 _ (by omega)).trans k43), r2⟩, ⟨Mp, ((hj1 _ (by omega)).trans k44), r3⟩, ((hj1 _ (by omega)).trans ((h2 _ (by omega) (by omega)).trans h45)), ((hj1 _ (by omega)).trans ((h2 _ (by omega) (by omega)).trans h46)), ⟨_, ((hj1 _ (by omega)).trans ((h2 _ (by omega) (by omega)).trans h47))⟩, ⟨_, ((hj1 _ (by omega)).trans ((h2 _ (by omega) (by omega)).trans h48))⟩⟩, (hn1.trans h1), fun j hj => ((hj1 _ (by omega)).trans ((h2 _ (by omega) (by omega)).trans (rfl : σ.2 j = σ.2 j)))⟩
            · have hp0 : 0 < (lnB kn kr kt pr n S Ph).1 := by omega
              obtain ⟨hz1, kk, p, hk, hp, hA⟩ := hpi.2 hp0
              have hkk := hki.2.1 kk hk
              have hmA : mA (lnB kn kr kt pr n S Ph).2.1 = 40 * kk + p := by rw [hA]; exact mA_eq (by omega)
              obtain ⟨rfl, rfl⟩ := hpp hp0
              rw [hmA] at k37
              refine J.ald_n dX7_learn_54 rfl ?_
              refine J.ild_n dX7_learn_55 rfl ?_
              refine J.ald_n dX7_learn_56 rfl ?_
              refine gf_X7_23 rfl dX7_learn_57 k37 ?_
              refine J.ild_n dX7_learn_60 rfl ?_
              refine J.iald b dX7_learn_61 ((hj1 _ (by omega)).trans k41) rfl (by omega) (by omega) ?_
              rw [show (jup bn b n) b = ((n : Nat) : Int) from by rw [hnb]]
              refine J.if_ne dX7_learn_62 (by decide) (tgt := 69) (by unfold inI; omega) (fun h5 => ?_) (fun h5 => ?_)
              · have h50 : ¬ n = 0 := by omega
                have hlc : ftt n C (C (n - 1)) = lnC n C := by unfold lnC; rw [if_neg h50]
                refine J.ald_n dX7_learn_69 rfl ?_
                refine gf_X7_26 rfl dX7_learn_70 k37 ?_
                refine J.bipush dX7_learn_73 (by decide) ?_
                refine J.ild_n dX7_learn_75 rfl ?_
                refine J.imul dX7_learn_76 ?_
                rw [show (40 : Int) * ((b : Nat) : Int) = ((40 * b : Nat) : Int) from by push_cast; rfl]
                refine J.ald_n dX7_learn_77 rfl ?_
                refine gf_X7_23 rfl dX7_learn_78 k37 ?_
                refine J.ild_n dX7_learn_81 rfl ?_
                refine J.iald b dX7_learn_82 ((hj1 _ (by omega)).trans k41) rfl (by omega) (by omega) ?_
                rw [show (jup bn b n) b = ((n : Nat) : Int) from by rw [hnb]]
                refine J.iadd dX7_learn_83 ?_
                rw [show (((40 * b : Nat) : Int) : Int) + ((n : Nat) : Int) = (((40 * b) + n : Nat) : Int) from by push_cast; rfl]
                refine J.iconst dX7_learn_84 ?_
                refine J.isub dX7_learn_85 ?_
                rw [show (((40 * b) + n : Nat) : Int) - 1 = ((40 * b + (n - 1) : Nat) : Int) from by omega]
                refine J.iald (40 * b + (n - 1)) dX7_learn_86 ((hj1 _ (by omega)).trans k42) rfl (by omega) (by omega) ?_
                rw [show Mc (40 * b + (n - 1)) = ((C (n - 1) : Nat) : Int) from by rw [q1 (n - 1) (by omega)]]
                refine J.callV (rm' := rX7_fitFrom) [vI ((b : Nat) : Int), vI ((C (n - 1) : Nat) : Int)] dX7_learn_87 (c_X7_fitFrom (bn := jup bn b n) (c := C (n - 1)) k37 ((hj1 _ (by omega)).trans k41) hb hnb2 ((hj1 _ (by omega)).trans k42) q1 hcd' (hcd' _)) k37 rfl st_X7_fitFrom ml_X7_98 im_X7_fitFrom se_X7_fitFrom rfl (Nat.le_of_ble_eq_true rfl) (by decide) (by decide) (Nat.le_of_ble_eq_true rfl) (by decide) (by decide) (Or.inl rfl) (fun E9 σ9 hq9 _ => nomatch hq9.1) (fun r9 σ9 hq9 hle9 => ?_)
                obtain ⟨h9, h8⟩ := hq9
                rw [h8]
                clear hle9 h8 σ9
                cases h9
                rw [hnb, hlc]
                rcases lnC_rng (n := n) (C := C) with hc | ⟨hn2, c, hc, hc2, -⟩
                · rw [hc]
                  refine J.ist dX7_learn_90 (by decide) (jnc_of rfl rfl) ?_
                  refine J.ild dX7_learn_92 rfl ?_
                  refine J.iconst dX7_learn_94 ?_
                  refine J.icmp_ne dX7_learn_95 (by decide) (tgt := 100) (by unfold inI; omega) (by unfold inI; omega) (fun h6 => ?_) (fun h6 => ?_)
                  · exact absurd rfl h6
                  · refine J.ild_n dX7_learn_98 rfl ?_
                    refine J.iret .int dX7_learn_99 rfl rfl (by decide) (by decide) ?_
                    rw [show (lnU kn kr kt pr (t + 1) d n C S Ph w) = (d, n, C, S, Ph, alF kr (lnB kn kr kt pr n S Ph).2.2 (lnB kn kr kt pr n S Ph).2.1 0 w) from (if_pos hp0).trans (if_pos hc)]
                    exact ⟨⟨_, rfl, fun _ => rfl⟩, ⟨⟨_, _, k37⟩, ⟨ml, ((hj1 _ (by omega)).trans ((h2 _ (by omega) (by omega)).trans h38)), fun t ht => absurd ht (by omega), hmi⟩, ((hj1 _ (by omega)).trans ((h2 _ (by omega) (by omega)).trans h39)), ⟨Kw, ((hj1 _ (by omega)).trans ((h2 _ (by omega) (by omega)).trans h40)), hw9, hkw⟩, ((hj1 _ (by omega)).trans k41), ⟨Mc, ((hj1 _ (by omega)).trans k42), r1⟩, ⟨Ms, ((hj1 _ (by omega)).trans k43), r2⟩, ⟨Mp, ((hj1 _ (by omega)).trans k44), r3⟩, ((hj1 _ (by omega)).trans ((h2 _ (by omega) (by omega)).trans h45)), ((hj1 _ (by omega)).trans ((h2 _ (by omega) (by omega)).trans h46)), ⟨_, ((hj1 _ (by omega)).trans ((h2 _ (by omega) (by omega)).trans h47))⟩, ⟨_, ((hj1 _ (by omega)).trans ((h2 _ (by omega) (by omega)).trans h48))⟩⟩, (hn1.trans h1), fun j hj => ((hj1 _ (by omega)).trans ((h2 _ (by omega) (by omega)).trans (rfl : σ.2 j = σ.2 j)))⟩
                · rw [hc]
                  refine J.ist dX7_learn_90 (by decide) (jnc_of rfl rfl) ?_
                  refine J.ild dX7_learn_92 rfl ?_
                  refine J.iconst dX7_learn_94 ?_
                  refine J.icmp_ne dX7_learn_95 (by decide) (tgt := 100) (by unfold inI; omega) (by unfold inI; omega) (fun h6 => ?_) (fun h6 => ?_)
                  · refine J.ald_n dX7_learn_100 rfl ?_
                    refine J.ild_n dX7_learn_101 rfl ?_
                    refine J.ild dX7_learn_102 rfl ?_
                    refine J.ald_n dX7_learn_104 rfl ?_
                    refine gf_X7_20 rfl dX7_learn_105 k37 ?_
                    refine J.ald_n dX7_learn_108 rfl ?_
                    refine gf_X7_158 rfl dX7_learn_109 k37 ?_
                    refine J.ald_n dX7_learn_112 rfl ?_
                    refine gf_X7_161 rfl dX7_learn_113 k37 ?_
                    refine J.callV (rm' := rX7_add) [vI ((b : Nat) : Int), vI ((c : Nat) : Int), .ref 40, vI ((40 * kk + p : Nat) : Int), vI (((lnB kn kr kt pr n S Ph).2.2 : Nat) : Int)] dX7_learn_116 (c_X7_add (bn := jup bn b n) k37 ((hj1 _ (by omega)).trans k41) ((hj1 _ (by omega)).trans k42) ((hj1 _ (by omega)).trans k43) ((hj1 _ (by omega)).trans k44) hb (by rw [hnb]; exact hn2) ((hj1 _ (by omega)).trans ((h2 _ (by omega) (by omega)).trans h40)) (by omega) (by omega) (by omega) (by omega)) k37 rfl st_X7_add ml_X7_101 im_X7_add se_X7_add rfl (Nat.le_of_ble_eq_true rfl) (by decide) (by decide) (Nat.le_of_ble_eq_true rfl) (by decide) (by decide) (Or.inl rfl) (fun E9 σ9 hq9 _ => nomatch hq9.1) (fun r9 σ2 hq9 hle9 => ?_)
                    obtain ⟨h9, g41, g42, g43, g44, hn3, hj3⟩ := hq9
                    cases h9
                    clear hle9
                    rw [hnb, jup_jup] at g41
                    rw [hnb] at g42 g43 g44
                    refine J.iinc (v := ((d + 1 : Nat) : Int)) dX7_learn_119 rfl (by first | rfl | omega) (by decide) (jnc_of rfl rfl) ?_
                    refine J.goto dX7_learn_122 (by decide) (tgt := 41) ?_
                    rw [show (lnU kn kr kt pr (t + 1) d n C S Ph w) = (lnU kn kr kt pr t (d + 1) (n + 1) (jup C n c) (jup S n (lnB kn kr kt pr n S Ph).2.2) (jcp kr Ph (lnB kn kr kt pr n S Ph).2.1 (n * 6) (lnB kn kr kt pr n S Ph).2.2) (alF kr (lnB kn kr kt pr n S Ph).2.2 (lnB kn kr kt pr n S Ph).2.1 0 w)) from (if_pos hp0).trans ((if_neg (by omega)).trans (by rw [hc, Int.toNat_natCast]))]
                    have a1 := addC (cd := jup cd b C) (n := n) (c := c) (b := b) r1 hn2
                    have a2 := addC (cd := jup sz b S) (n := n) (c := (lnB kn kr kt pr n S Ph).2.2) (b := b) r2 hn2
                    have a3 := addP (ph := jup ph b Ph) (n := n) (b := b) (m := (lnB kn kr kt pr n S Ph).2.2) (at_ := 40 * kk + p) (s := (lnB kn kr kt pr n S Ph).2.1) (g := Kw) (w := kr) r3 hn2 hz1.2 (fun i hi => by rw [hA, show 40 * kk + p + i = 40 * kk + (p + i) by omega, show kk * 41 + p + i = kk * 41 + (p + i) by omega]; exact hw9 kk (p + i) hk (by omega))
                    rw [jup_eq, jup_jup] at a1 a2 a3
                    refine ih (d + 1) (n + 1) _ _ _ _ σ2 _ _ _ _ _ _ (by omega) rfl (hn3.trans (hn1.trans h1)) (fun j q4 q5 => (hj3 j q5).trans ((hj1 j q4).trans (h2 j q4 q5))) ((hj3 _ (by omega)).trans k37) g41 g42 g43 g44 a1 a2 a3 (by omega) (fun e => ?_) (fun e he => ?_) (fun t2 => ?_)
                    · unfold jup; split
                      · exact hc2
                      · exact hcd' e
                    · by_cases hen : e = n
                      · subst hen; rw [jup_eq]; omega
                      · rw [jup_ne _ _ hen]; exact hsz' e (by omega)
                    · unfold jcp; split
                      · exact hki.pos (hpi.2 hp0).2 (by omega)
                      · exact hph' t2
                  · omega
              · have h50 : n = 0 := by omega
                have hlc : ftt n C 0 = lnC n C := by unfold lnC; rw [if_pos h50]
                refine J.iconst dX7_learn_65 ?_
                refine J.goto dX7_learn_66 (by decide) (tgt := 87) ?_
                refine J.callV (rm' := rX7_fitFrom) [vI ((b : Nat) : Int), vI 0] dX7_learn_87 (c_X7_fitFrom (bn := jup bn b n) (c := 0) k37 ((hj1 _ (by omega)).trans k41) hb hnb2 ((hj1 _ (by omega)).trans k42) q1 hcd' (by omega)) k37 rfl st_X7_fitFrom ml_X7_98 im_X7_fitFrom se_X7_fitFrom rfl (Nat.le_of_ble_eq_true rfl) (by decide) (by decide) (Nat.le_of_ble_eq_true rfl) (by decide) (by decide) (Or.inl rfl) (fun E9 σ9 hq9 _ => nomatch hq9.1) (fun r9 σ9 hq9 hle9 => ?_)
                obtain ⟨h9, h8⟩ := hq9
                rw [h8]
                clear hle9 h8 σ9
                cases h9
                rw [hnb, hlc]
                rcases lnC_rng (n := n) (C := C) with hc | ⟨hn2, c, hc, hc2, -⟩
                · rw [hc]
                  refine J.ist dX7_learn_90 (by decide) (jnc_of rfl rfl) ?_
                  refine J.ild dX7_learn_92 rfl ?_
                  refine J.iconst dX7_learn_94 ?_
                  refine J.icmp_ne dX7_learn_95 (by decide) (tgt := 100) (by unfold inI; omega) (by unfold inI; omega) (fun h6 => ?_) (fun h6 => ?_)
                  · exact absurd rfl h6
                  · refine J.ild_n dX7_learn_98 rfl ?_
                    refine J.iret .int dX7_learn_99 rfl rfl (by decide) (by decide) ?_
                    rw [show (lnU kn kr kt pr (t + 1) d n C S Ph w) = (d, n, C, S, Ph, alF kr (lnB kn kr kt pr n S Ph).2.2 (lnB kn kr kt pr n S Ph).2.1 0 w) from (if_pos hp0).trans (if_pos hc)]
                    exact ⟨⟨_, rfl, fun _ => rfl⟩, ⟨⟨_, _, k37⟩, ⟨ml, ((hj1 _ (by omega)).trans ((h2 _ (by omega) (by omega)).trans h38)), fun t ht => absurd ht (by omega), hmi⟩, ((hj1 _ (by omega)).trans ((h2 _ (by omega) (by omega)).trans h39)), ⟨Kw, ((hj1 _ (by omega)).trans ((h2 _ (by omega) (by omega)).trans h40)), hw9, hkw⟩, ((hj1 _ (by omega)).trans k41), ⟨Mc, ((hj1 _ (by omega)).trans k42), r1⟩, ⟨Ms, ((hj1 _ (by omega)).trans k43), r2⟩, ⟨Mp, ((hj1 _ (by omega)).trans k44), r3⟩, ((hj1 _ (by omega)).trans ((h2 _ (by omega) (by omega)).trans h45)), ((hj1 _ (by omega)).trans ((h2 _ (by omega) (by omega)).trans h46)), ⟨_, ((hj1 _ (by omega)).trans ((h2 _ (by omega) (by omega)).trans h47))⟩, ⟨_, ((hj1 _ (by omega)).trans ((h2 _ (by omega) (by omega)).trans h48))⟩⟩, (hn1.trans h1), fun j hj => ((hj1 _ (by omega)).trans ((h2 _ (by omega) (by omega)).trans (rfl : σ.2 j = σ.2 j)))⟩
                · rw [hc]
                  refine J.ist dX7_learn_90 (by decide) (jnc_of rfl rfl) ?_
                  refine J.ild dX7_learn_92 rfl ?_
                  refine J.iconst dX7_learn_94 ?_
                  refine J.icmp_ne dX7_learn_95 (by decide) (tgt := 100) (by unfold inI; omega) (by unfold inI; omega) (fun h6 => ?_) (fun h6 => ?_)
                  · refine J.ald_n dX7_learn_100 rfl ?_
                    refine J.ild_n dX7_learn_101 rfl ?_
                    refine J.ild dX7_learn_102 rfl ?_
                    refine J.ald_n dX7_learn_104 rfl ?_
                    refine gf_X7_20 rfl dX7_learn_105 k37 ?_
                    refine J.ald_n dX7_learn_108 rfl ?_
                    refine gf_X7_158 rfl dX7_learn_109 k37 ?_
                    refine J.ald_n dX7_learn_112 rfl ?_
                    refine gf_X7_161 rfl dX7_learn_113 k37 ?_
                    refine J.callV (rm' := rX7_add) [vI ((b : Nat) : Int), vI ((c : Nat) : Int), .ref 40, vI ((40 * kk + p : Nat) : Int), vI (((lnB kn kr kt pr n S Ph).2.2 : Nat) : Int)] dX7_learn_116 (c_X7_add (bn := jup bn b n) k37 ((hj1 _ (by omega)).trans k41) ((hj1 _ (by omega)).trans k42) ((hj1 _ (by omega)).trans k43) ((hj1 _ (by omega)).trans k44) hb (by rw [hnb]; exact hn2) ((hj1 _ (by omega)).trans ((h2 _ (by omega) (by omega)).trans h40)) (by omega) (by omega) (by omega) (by omega)) k37 rfl st_X7_add ml_X7_101 im_X7_add se_X7_add rfl (Nat.le_of_ble_eq_true rfl) (by decide) (by decide) (Nat.le_of_ble_eq_true rfl) (by decide) (by decide) (Or.inl rfl) (fun E9 σ9 hq9 _ => nomatch hq9.1) (fun r9 σ2 hq9 hle9 => ?_)
                    obtain ⟨h9, g41, g42, g43, g44, hn3, hj3⟩ := hq9
                    cases h9
                    clear hle9
                    rw [hnb, jup_jup] at g41
                    rw [hnb] at g42 g43 g44
                    refine J.iinc (v := ((d + 1 : Nat) : Int)) dX7_learn_119 rfl (by first | rfl | omega) (by decide) (jnc_of rfl rfl) ?_
                    refine J.goto dX7_learn_122 (by decide) (tgt := 41) ?_
                    rw [show (lnU kn kr kt pr (t + 1) d n C S Ph w) = (lnU kn kr kt pr t (d + 1) (n + 1) (jup C n c) (jup S n (lnB kn kr kt pr n S Ph).2.2) (jcp kr Ph (lnB kn kr kt pr n S Ph).2.1 (n * 6) (lnB kn kr kt pr n S Ph).2.2) (alF kr (lnB kn kr kt pr n S Ph).2.2 (lnB kn kr kt pr n S Ph).2.1 0 w)) from (if_pos hp0).trans ((if_neg (by omega)).trans (by rw [hc, Int.toNat_natCast]))]
                    have a1 := addC (cd := jup cd b C) (n := n) (c := c) (b := b) r1 hn2
                    have a2 := addC (cd := jup sz b S) (n := n) (c := (lnB kn kr kt pr n S Ph).2.2) (b := b) r2 hn2
                    have a3 := addP (ph := jup ph b Ph) (n := n) (b := b) (m := (lnB kn kr kt pr n S Ph).2.2) (at_ := 40 * kk + p) (s := (lnB kn kr kt pr n S Ph).2.1) (g := Kw) (w := kr) r3 hn2 hz1.2 (fun i hi => by rw [hA, show 40 * kk + p + i = 40 * kk + (p + i) by omega, show kk * 41 + p + i = kk * 41 + (p + i) by omega]; exact hw9 kk (p + i) hk (by omega))
                    rw [jup_eq, jup_jup] at a1 a2 a3
                    refine ih (d + 1) (n + 1) _ _ _ _ σ2 _ _ _ _ _ _ (by omega) rfl (hn3.trans (hn1.trans h1)) (fun j q4 q5 => (hj3 j q5).trans ((hj1 j q4).trans (h2 j q4 q5))) ((hj3 _ (by omega)).trans k37) g41 g42 g43 g44 a1 a2 a3 (by omega) (fun e => ?_) (fun e he => ?_) (fun t2 => ?_)
                    · unfold jup; split
                      · exact hc2
                      · exact hcd' e
                    · by_cases hen : e = n
                      · subst hen; rw [jup_eq]; omega
                      · rw [jup_ne _ _ hen]; exact hsz' e (by omega)
                    · unfold jcp; split
                      · exact hki.pos (hpi.2 hp0).2 (by omega)
                      · exact hph' t2
                  · omega
      exact L m 0 (bn b) (cd b) (sz b) (ph b) lw (jset (jset σ 37 (jO 6 [vI 0, vI pr, .ref 38, vI ((ln : Nat) : Int), vI ((kn : Nat) : Int), .ref 39, .ref 40, .ref 41, .ref 42, .ref 43, .ref 44, vI ((mn : Nat) : Int), .ref 45, vI ((rd : Nat) : Int), .ref 46, .ref 47, .ref 48, vI pa, vI ps])) 37 (jO 6 [vI 0, vI pr, .ref 38, vI 0, vI ((kn : Nat) : Int), .ref 39, .ref 40, .ref 41, .ref 42, .ref 43, .ref 44, vI ((mn : Nat) : Int), .ref 45, vI ((rd : Nat) : Int), .ref 46, .ref 47, .ref 48, vI pa, vI ps])) Mc Ms Mp pa ps .null (by omega) rfl rfl (fun j q1 q2 => by rw [jset_ne _ _ q1, jset_ne _ _ q1]) (jset_eq _ _ _) (by rw [jup_id]; exact ((jset_ne _ _ (by omega)).trans ((jset_ne _ _ (by omega)).trans h41))) ((jset_ne _ _ (by omega)).trans ((jset_ne _ _ (by omega)).trans h42)) ((jset_ne _ _ (by omega)).trans ((jset_ne _ _ (by omega)).trans h43)) ((jset_ne _ _ (by omega)).trans ((jset_ne _ _ (by omega)).trans h44)) (fun b' e hb' he => by rw [jup_id]; exact hMc b' e hb' he) (fun b' e hb' he => by rw [jup_id]; exact hMs b' e hb' he) (fun b' t hb' ht => by rw [jup_id]; exact hMp b' t hb' ht) hbn hcd hsz hph
    · first | exact absurd hb25 (by decide) | exact absurd rfl hb25
  · first | exact absurd hb9 (by decide) | exact absurd rfl hb9
