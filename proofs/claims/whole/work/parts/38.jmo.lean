def MPD (th : Int) (v : UInt64) (σ : jS) (C : jS → Prop) : jOut → jS → Prop := fun o σ1 => (∃ x : UInt64, o = .inl (some (.double x)) ∧ (th = 0 → x = v)) ∧ C σ1 ∧ FrM σ σ1
set_option maxRecDepth 20000 in
theorem m_share_1 {X : jX} {σ : jS} {pr : Int} {ln : Nat} {lw : Nat → Int} {bn : Nat → Nat} {cd sz : Nat → Nat → Nat} {ph : Nat → Nat → Int} {mn : Nat} {mg : Nat → Int} {kn : Nat} {kr : Nat → Int} {ks : Nat → Nat} {kt : Nat → Nat → Int} {rd : Nat} {rg : Nat → Int} {th : Int} {a : Int} (hM : MW σ th pr ln lw bn cd sz ph mn mg kn kr ks kt rd rg) (hI : CI pr ln lw bn cd sz ph mn mg kn kr ks kt rd rg) (hi : inI a) (ha : ¬ (0 ≤ a ∧ a < 3)) : JM X mX7_share rX7_share [.ref 37, vI a] σ (MPD 1 0 σ (fun σ1 => MW σ1 1 pr ln lw bn cd sz ph mn mg kn kr ks kt rd rg)) := by
  refine JM.of (lc := [.ref 37, vI a, .null, .null, .null]) rfl ?_
  obtain ⟨hpr, ⟨hln, hlw⟩, hbk, ⟨hmn, hmg⟩, hki, hrd, hrg⟩ := id hI
  obtain ⟨⟨pa, ps, hO⟩, ⟨ml, h38, hml, hmi⟩, h39, ⟨Kw, h40, hw9, hkw⟩, h41, ⟨Mc, h42, hMc⟩, ⟨Ms, h43, hMs⟩, ⟨Mp, h44, hMp⟩, h45, h46, ⟨lf, h47⟩, ⟨pc, h48⟩⟩ := id hM
  have hkn := hki.1
  refine J.ald_n dX7_share_0 rfl ?_
  refine J.ild_n dX7_share_1 rfl ?_
  refine J.callS (rm' := rX7_isBook) [vI a] dX7_share_2 (c_X7_isBook_f hi (by omega)) st_X7_isBook ml_X7_55 sm_X7_isBook rfl (Nat.le_of_ble_eq_true rfl) (by decide) (by decide) (Nat.le_of_ble_eq_true rfl) (by decide) (by decide) (Or.inl rfl) (fun E9 σ9 hq9 _ => nomatch hq9.1) (fun r9 σ9 hq9 hle9 => ?_)
  obtain ⟨h9, h8⟩ := hq9
  rw [h8]
  clear hle9 h8 σ9
  cases h9
  refine J.if_eq dX7_share_5 (by decide) (tgt := 12) (by unfold inI; omega) (fun hb5 => ?_) (fun hb5 => ?_)
  · refine J.iconst dX7_share_12 ?_
    refine pf_X7_47 rfl dX7_share_13 hO ?_
    refine J.ald_n dX7_share_16 rfl ?_
    refine gf_X7_47 rfl dX7_share_17 (jset_eq _ _ _) ?_
    refine J.if_eq dX7_share_20 (by decide) (tgt := 25) (by unfold inI; omega) (fun hb20 => ?_) (fun hb20 => ?_)
    · first | exact absurd hb20 (by decide) | exact absurd rfl hb20 | omega
    · refine J.dconst0 dX7_share_23 ?_
      refine J.dret dX7_share_24 rfl (by decide) (by decide) ?_
      exact ⟨⟨_, rfl, fun q => absurd q (by decide)⟩, ⟨⟨pa, ps, (jset_eq _ _ _)⟩, ⟨ml, ((jset_ne _ _ (by omega)).trans h38), hml, hmi⟩, ((jset_ne _ _ (by omega)).trans h39), ⟨Kw, ((jset_ne _ _ (by omega)).trans h40), hw9, hkw⟩, ((jset_ne _ _ (by omega)).trans h41), ⟨Mc, ((jset_ne _ _ (by omega)).trans h42), hMc⟩, ⟨Ms, ((jset_ne _ _ (by omega)).trans h43), hMs⟩, ⟨Mp, ((jset_ne _ _ (by omega)).trans h44), hMp⟩, ((jset_ne _ _ (by omega)).trans h45), ((jset_ne _ _ (by omega)).trans h46), ⟨_, ((jset_ne _ _ (by omega)).trans h47)⟩, ⟨_, ((jset_ne _ _ (by omega)).trans h48)⟩⟩, rfl, fun j hj => ((jset_ne _ _ (by omega)).trans (rfl : σ.2 j = σ.2 j))⟩
  · first | exact absurd hb5 (by decide) | exact absurd rfl hb5 | omega
set_option maxRecDepth 20000 in
theorem m_share_0 {X : jX} {σ : jS} {pr : Int} {ln : Nat} {lw : Nat → Int} {bn : Nat → Nat} {cd sz : Nat → Nat → Nat} {ph : Nat → Nat → Int} {mn : Nat} {mg : Nat → Int} {kn : Nat} {kr : Nat → Int} {ks : Nat → Nat} {kt : Nat → Nat → Int} {rd : Nat} {rg : Nat → Int} {th : Int} {b : Nat} (hM : MW σ th pr ln lw bn cd sz ph mn mg kn kr ks kt rd rg) (hI : CI pr ln lw bn cd sz ph mn mg kn kr ks kt rd rg) (hb : b < 3) : JM X mX7_share rX7_share [.ref 37, vI ((b : Nat) : Int)] σ (MPD 0 (shV (shC (bn b) (sz b) (ph b) kr ks pr kn 0) (pr * ((shA ks kn 0 : Nat) : Int))) σ (fun σ1 => MW σ1 0 pr ln lw bn cd sz ph mn mg kn kr ks kt rd rg)) := by
  refine JM.of (lc := [.ref 37, vI ((b : Nat) : Int), .null, .null, .null]) rfl ?_
  obtain ⟨hpr, ⟨hln, hlw⟩, hbk, ⟨hmn, hmg⟩, hki, hrd, hrg⟩ := id hI
  obtain ⟨⟨pa, ps, hO⟩, ⟨ml, h38, hml, hmi⟩, h39, ⟨Kw, h40, hw9, hkw⟩, h41, ⟨Mc, h42, hMc⟩, ⟨Ms, h43, hMs⟩, ⟨Mp, h44, hMp⟩, h45, h46, ⟨lf, h47⟩, ⟨pc, h48⟩⟩ := id hM
  have hkn := hki.1
  have hbn := (hbk b hb).1
  have hcd := (hbk b hb).2.1
  have hsz := (hbk b hb).2.2.1
  have hph := (hbk b hb).2.2.2
  have hc9 := fun e he => hMc b e hb he
  have hs9 := fun e he => hMs b e hb he
  have hp9 := fun t ht => hMp b t hb ht
  refine J.ald_n dX7_share_0 rfl ?_
  refine J.ild_n dX7_share_1 rfl ?_
  refine J.callS (rm' := rX7_isBook) [vI ((b : Nat) : Int)] dX7_share_2 (c_X7_isBook_t (by unfold inI; omega) (by omega)) st_X7_isBook ml_X7_55 sm_X7_isBook rfl (Nat.le_of_ble_eq_true rfl) (by decide) (by decide) (Nat.le_of_ble_eq_true rfl) (by decide) (by decide) (Or.inl rfl) (fun E9 σ9 hq9 _ => nomatch hq9.1) (fun r9 σ9 hq9 hle9 => ?_)
  obtain ⟨h9, h8⟩ := hq9
  rw [h8]
  clear hle9 h8 σ9
  cases h9
  refine J.if_eq dX7_share_5 (by decide) (tgt := 12) (by unfold inI; omega) (fun hb5 => ?_) (fun hb5 => ?_)
  · exact absurd hb5 (by decide)
  · refine J.iconst dX7_share_8 ?_
    refine J.goto dX7_share_9 (by decide) (tgt := 13) ?_
    refine pf_X7_47 rfl dX7_share_13 hO ?_
    refine J.ald_n dX7_share_16 rfl ?_
    refine gf_X7_47 rfl dX7_share_17 (jset_eq _ _ _) ?_
    refine J.if_eq dX7_share_20 (by decide) (tgt := 25) (by unfold inI; omega) (fun hb20 => ?_) (fun hb20 => ?_)
    · refine J.iconst dX7_share_25 ?_
      refine J.ist_n dX7_share_26 (by decide) (jnc_of rfl rfl) ?_
      refine J.iconst dX7_share_27 ?_
      refine J.ist_n dX7_share_28 (by decide) (jnc_of rfl rfl) ?_
      refine J.iconst dX7_share_29 ?_
      refine J.ist dX7_share_30 (by decide) (jnc_of rfl rfl) ?_
      have L : ∀ (t e : Nat) (σ' : jS) (lf pc : Nat → Int) (c : Int) (a : Nat), e + t = kn → a + shA ks t e = shA ks kn 0 → c + shC (bn b) (sz b) (ph b) kr ks pr t e = (shC (bn b) (sz b) (ph b) kr ks pr kn 0) → σ'.1 = σ.1 → (∀ j, j ≠ 37 → j ≠ 47 → j ≠ 48 → σ'.2 j = σ.2 j) → MO σ' 0 pr ((ln : Nat) : Int) ((kn : Nat) : Int) ((mn : Nat) : Int) ((rd : Nat) : Int) pa ps → σ'.2 47 = jI 41 lf → σ'.2 48 = jI 40 pc → J X mX7_share rX7_share 32 [.ref 37, vI ((b : Nat) : Int), vI c, vI ((a : Nat) : Int), vI ((e : Nat) : Int)] [] 0 0 σ' (MPD 0 (shV (shC (bn b) (sz b) (ph b) kr ks pr kn 0) (pr * ((shA ks kn 0 : Nat) : Int))) σ (fun σ1 => MW σ1 0 pr ln lw bn cd sz ph mn mg kn kr ks kt rd rg)) := by
        intro t
        induction t with
        | zero =>
          intro e σ' lf pc c a he ha hc h1 h2 h3 k47 k48
          have ha2 : a = shA ks kn 0 := ha
          have hc2 : c = (shC (bn b) (sz b) (ph b) kr ks pr kn 0) := by rw [← hc]; exact (Int.add_zero c).symm
          have hab := shA_bd (ks := ks) kn 0 (fun k _ hk => (hki.2.1 k (by omega)).2)
          have hcb := shC_bd (n := bn b) (sz := sz b) (ph := ph b) (kr := kr) (ks := ks) hpr kn 0 (fun k _ hk => (hki.2.1 k (by omega)).2)
          have hpa : 0 ≤ pr * ((a : Nat) : Int) ∧ pr * ((a : Nat) : Int) ≤ 5 * 480 := ⟨Int.mul_nonneg (by omega) (by omega), Int.mul_le_mul hpr.2 (by omega) (by omega) (by omega)⟩
          refine J.ild dX7_share_32 rfl ?_
          refine J.ald_n dX7_share_34 rfl ?_
          refine gf_X7_66 rfl dX7_share_35 h3 ?_
          refine J.icmp_ge dX7_share_38 (by decide) (tgt := 81) (by unfold inI; omega) (by unfold inI; omega) (fun h => ?_) (fun h => ?_)
          · refine J.ild_n dX7_share_81 rfl ?_
            refine J.if_ne dX7_share_82 (by decide) (tgt := 89) (by unfold inI; omega) (fun hz => ?_) (fun hz => ?_)
            · have hpa1 : 1 * 1 ≤ pr * ((a : Nat) : Int) := Int.mul_le_mul hpr.1 (by omega) (by omega) (by omega)
              refine J.ild_n dX7_share_89 rfl ?_
              refine J.i2d dX7_share_90 ?_
              refine J.ald_n dX7_share_91 rfl ?_
              refine gf_X7_7 rfl dX7_share_92 h3 ?_
              refine J.ild_n dX7_share_95 rfl ?_
              refine J.imul dX7_share_96 ?_
              refine J.i2d dX7_share_97 ?_
              refine J.ddiv dX7_share_98 (nan_ok (by omega) (by omega)) ?_
              refine J.dret dX7_share_99 rfl (by decide) (by decide) ?_
              rw [hc2.symm, show pr * ((shA ks kn 0 : Nat) : Int) = pr * ((a : Nat) : Int) from by rw [ha2]]
              exact ⟨⟨_, rfl, fun _ => by unfold shV; rw [if_neg (by omega)]⟩, ⟨⟨pa, ps, h3⟩, ⟨ml, ((h2 _ (by omega) (by omega) (by omega)).trans h38), hml, hmi⟩, ((h2 _ (by omega) (by omega) (by omega)).trans h39), ⟨Kw, ((h2 _ (by omega) (by omega) (by omega)).trans h40), hw9, hkw⟩, ((h2 _ (by omega) (by omega) (by omega)).trans h41), ⟨Mc, ((h2 _ (by omega) (by omega) (by omega)).trans h42), hMc⟩, ⟨Ms, ((h2 _ (by omega) (by omega) (by omega)).trans h43), hMs⟩, ⟨Mp, ((h2 _ (by omega) (by omega) (by omega)).trans h44), hMp⟩, ((h2 _ (by omega) (by omega) (by omega)).trans h45), ((h2 _ (by omega) (by omega) (by omega)).trans h46), ⟨_, k47⟩, ⟨_, k48⟩⟩, h1, fun j hj => ((h2 _ (by omega) (by omega) (by omega)).trans (rfl : σ.2 j = σ.2 j))⟩
            · refine J.dconst1 dX7_share_85 ?_
              refine J.goto dX7_share_86 (by decide) (tgt := 99) ?_
              refine J.dret dX7_share_99 rfl (by decide) (by decide) ?_
              rw [hc2.symm, show pr * ((shA ks kn 0 : Nat) : Int) = pr * ((a : Nat) : Int) from by rw [ha2]]
              exact ⟨⟨_, rfl, fun _ => by unfold shV; rw [if_pos (by rw [show a = 0 by omega]; exact Int.mul_zero pr)]⟩, ⟨⟨pa, ps, h3⟩, ⟨ml, ((h2 _ (by omega) (by omega) (by omega)).trans h38), hml, hmi⟩, ((h2 _ (by omega) (by omega) (by omega)).trans h39), ⟨Kw, ((h2 _ (by omega) (by omega) (by omega)).trans h40), hw9, hkw⟩, ((h2 _ (by omega) (by omega) (by omega)).trans h41), ⟨Mc, ((h2 _ (by omega) (by omega) (by omega)).trans h42), hMc⟩, ⟨Ms, ((h2 _ (by omega) (by omega) (by omega)).trans h43), hMs⟩, ⟨Mp, ((h2 _ (by omega) (by omega) (by omega)).trans h44), hMp⟩, ((h2 _ (by omega) (by omega) (by omega)).trans h45), ((h2 _ (by omega) (by omega) (by omega)).trans h46), ⟨_, k47⟩, ⟨_, k48⟩⟩, h1, fun j hj => ((h2 _ (by omega) (by omega) (by omega)).trans (rfl : σ.2 j = σ.2 j))⟩
          · omega
        | succ t ih =>
          intro e σ' lf pc c a he ha hc h1 h2 h3 k47 k48
          have hke := hki.2.1 e (by omega)
          refine J.ild dX7_share_32 rfl ?_
          refine J.ald_n dX7_share_34 rfl ?_
          refine gf_X7_66 rfl dX7_share_35 h3 ?_
          refine J.icmp_ge dX7_share_38 (by decide) (tgt := 81) (by unfold inI; omega) (by unfold inI; omega) (fun h => ?_) (fun h => ?_)
          · omega
          · refine J.ild_n dX7_share_41 rfl ?_
            refine J.ald_n dX7_share_42 rfl ?_
            refine J.ild_n dX7_share_43 rfl ?_
            refine J.ald_n dX7_share_44 rfl ?_
            refine gf_X7_20 rfl dX7_share_45 h3 ?_
            refine J.bipush dX7_share_48 (by decide) ?_
            refine J.ild dX7_share_50 rfl ?_
            refine J.imul dX7_share_52 ?_
            rw [show (40 : Int) * ((e : Nat) : Int) = ((40 * e : Nat) : Int) from by push_cast; rfl]
            refine J.ald_n dX7_share_53 rfl ?_
            refine gf_X7_17 rfl dX7_share_54 h3 ?_
            refine J.ild dX7_share_57 rfl ?_
            refine J.iald e dX7_share_59 ((h2 _ (by omega) (by omega) (by omega)).trans h39) rfl (by omega) (by omega) ?_
            refine J.callV (rm' := rX7_divide) [vI ((b : Nat) : Int), .ref 40, vI ((40 * e : Nat) : Int), vI ((ks e : Nat) : Int)] dX7_share_60 (c_X7_divide (s := 40 * e) h3 ((h2 _ (by omega) (by omega) (by omega)).trans h41) hb hbn ((h2 _ (by omega) (by omega) (by omega)).trans h42) hc9 hcd ((h2 _ (by omega) (by omega) (by omega)).trans h43) hs9 ((h2 _ (by omega) (by omega) (by omega)).trans h44) hp9 hph hsz k47 k48 ((h2 _ (by omega) (by omega) (by omega)).trans h40) (by omega) (by omega) hkw (by omega) hke.2 hpr) h3 rfl st_X7_divide ml_X7_120 im_X7_divide se_X7_divide rfl (Nat.le_of_ble_eq_true rfl) (by decide) (by decide) (Nat.le_of_ble_eq_true rfl) (by decide) (by decide) (Or.inl rfl) (fun E9 σ9 hq9 _ => nomatch hq9.1) (fun r9 σ1 hq9 hle9 => ?_)
            obtain ⟨h9, ⟨lf1, pc1, g47, g48, -⟩, hn1, hj1⟩ := hq9
            cases h9
            clear hle9
            rw [cvC_congr (g := Kw) (s := 40 * e) (g' := kr) (s' := e * 41) (fun t ht => hw9 e t (by omega) ht)]
            refine J.iadd dX7_share_63 ?_
            refine J.ist_n dX7_share_64 (by decide) (jnc_of rfl rfl) ?_
            refine J.ild_n dX7_share_65 rfl ?_
            refine J.ald_n dX7_share_66 rfl ?_
            refine gf_X7_17 rfl dX7_share_67 ((hj1 _ (by omega) (by omega)).trans h3) ?_
            refine J.ild dX7_share_70 rfl ?_
            refine J.iald e dX7_share_72 ((hj1 _ (by omega) (by omega)).trans ((h2 _ (by omega) (by omega) (by omega)).trans h39)) rfl (by omega) (by omega) ?_
            refine J.iadd dX7_share_73 ?_
            rw [show (((a : Nat) : Int) : Int) + ((ks e : Nat) : Int) = ((a + (ks e) : Nat) : Int) from by push_cast; rfl]
            refine J.ist_n dX7_share_74 (by decide) (jnc_of rfl rfl) ?_
            refine J.iinc (v := ((e + 1 : Nat) : Int)) dX7_share_75 rfl (by first | rfl | omega) (by decide) (jnc_of rfl rfl) ?_
            refine J.goto dX7_share_78 (by decide) (tgt := 32) ?_
            exact ih (e + 1) σ1 lf1 pc1 _ _ (by omega) (by rw [← ha]; show a + ks e + _ = a + (ks e + _); omega) (by rw [← hc]; exact Int.add_assoc _ _ _) (hn1.trans h1) (fun j q1 q2 q3 => (hj1 j q2 q3).trans (h2 j q1 q2 q3)) ((hj1 _ (by omega) (by omega)).trans h3) g47 g48
      exact L kn 0 _ lf pc 0 0 (by omega) (Nat.zero_add _) (Int.zero_add _) rfl (fun j q1 q2 q3 => jset_ne _ _ q1) (jset_eq _ _ _) ((jset_ne _ _ (by omega)).trans h47) ((jset_ne _ _ (by omega)).trans h48)
    · exact absurd rfl hb20
set_option maxRecDepth 20000 in
theorem m_propose_1 {X : jX} {σ : jS} {pr : Int} {ln : Nat} {lw : Nat → Int} {bn : Nat → Nat} {cd sz : Nat → Nat → Nat} {ph : Nat → Nat → Int} {mn : Nat} {mg : Nat → Int} {kn : Nat} {kr : Nat → Int} {ks : Nat → Nat} {kt : Nat → Nat → Int} {rd : Nat} {rg : Nat → Int} {th : Int} {a : Int} (hM : MW σ th pr ln lw bn cd sz ph mn mg kn kr ks kt rd rg) (hI : CI pr ln lw bn cd sz ph mn mg kn kr ks kt rd rg) (hi : inI a) (ha : ¬ (0 ≤ a ∧ a < 3)) : JM X mX7_propose rX7_propose [.ref 37, vI a] σ (MP 1 (0) σ (fun σ1 => MW σ1 1 pr ln lw bn cd sz ph mn mg kn kr ks kt rd rg)) := by
  refine JM.of (lc := [.ref 37, vI a, .null]) rfl ?_
  obtain ⟨hpr, ⟨hln, hlw⟩, hbk, ⟨hmn, hmg⟩, hki, hrd, hrg⟩ := id hI
  obtain ⟨⟨pa, ps, hO⟩, ⟨ml, h38, hml, hmi⟩, h39, ⟨Kw, h40, hw9, hkw⟩, h41, ⟨Mc, h42, hMc⟩, ⟨Ms, h43, hMs⟩, ⟨Mp, h44, hMp⟩, h45, h46, ⟨lf, h47⟩, ⟨pc, h48⟩⟩ := id hM
  have hkn := hki.1
  refine J.ald_n dX7_propose_0 rfl ?_
  refine J.iconst dX7_propose_1 ?_
  refine pf_X7_47 rfl dX7_propose_2 hO ?_
  refine J.ild_n dX7_propose_5 rfl ?_
  refine J.callS (rm' := rX7_isBook) [vI a] dX7_propose_6 (c_X7_isBook_f hi (by omega)) st_X7_isBook ml_X7_55 sm_X7_isBook rfl (Nat.le_of_ble_eq_true rfl) (by decide) (by decide) (Nat.le_of_ble_eq_true rfl) (by decide) (by decide) (Or.inl rfl) (fun E9 σ9 hq9 _ => nomatch hq9.1) (fun r9 σ9 hq9 hle9 => ?_)
  obtain ⟨h9, h8⟩ := hq9
  rw [h8]
  clear hle9 h8 σ9
  cases h9
  refine J.if_ne dX7_propose_9 (by decide) (tgt := 18) (by unfold inI; omega) (fun hb9 => ?_) (fun hb9 => ?_)
  · first | exact absurd hb9 (by decide) | exact absurd rfl hb9 | omega
  · refine J.ald_n dX7_propose_12 rfl ?_
    refine J.iconst dX7_propose_13 ?_
    refine J.callV (rm' := rX7_no) [vI 1] dX7_propose_14 (c_X7_no (jset_eq _ _ _)) (jset_eq _ _ _) rfl st_X7_no ml_X7_59 im_X7_no se_X7_no rfl (Nat.le_of_ble_eq_true rfl) (by decide) (by decide) (Nat.le_of_ble_eq_true rfl) (by decide) (by decide) (Or.inl rfl) (fun E9 σ9 hq9 _ => nomatch hq9.1) (fun r9 σ9 hq9 hle9 => ?_)
    obtain ⟨h9, h8⟩ := hq9
    cases h9
    subst h8
    clear hle9
    refine J.iret .int dX7_propose_17 rfl rfl (by decide) (by decide) ?_
    exact ⟨⟨_, rfl, fun q => absurd q (by decide)⟩, ⟨⟨pa, ps, (jset_eq _ _ _)⟩, ⟨ml, ((jset_ne _ _ (by omega)).trans ((jset_ne _ _ (by omega)).trans h38)), hml, hmi⟩, ((jset_ne _ _ (by omega)).trans ((jset_ne _ _ (by omega)).trans h39)), ⟨Kw, ((jset_ne _ _ (by omega)).trans ((jset_ne _ _ (by omega)).trans h40)), hw9, hkw⟩, ((jset_ne _ _ (by omega)).trans ((jset_ne _ _ (by omega)).trans h41)), ⟨Mc, ((jset_ne _ _ (by omega)).trans ((jset_ne _ _ (by omega)).trans h42)), hMc⟩, ⟨Ms, ((jset_ne _ _ (by omega)).trans ((jset_ne _ _ (by omega)).trans h43)), hMs⟩, ⟨Mp, ((jset_ne _ _ (by omega)).trans ((jset_ne _ _ (by omega)).trans h44)), hMp⟩, ((jset_ne _ _ (by omega)).trans ((jset_ne _ _ (by omega)).trans h45)), ((jset_ne _ _ (by omega)).trans ((jset_ne _ _ (by omega)).trans h46)), ⟨_, ((jset_ne _ _ (by omega)).trans ((jset_ne _ _ (by omega)).trans h47))⟩, ⟨_, ((jset_ne _ _ (by omega)).trans ((jset_ne _ _ (by omega)).trans h48))⟩⟩, rfl, fun j hj => ((jset_ne _ _ (by omega)).trans ((jset_ne _ _ (by omega)).trans (rfl : σ.2 j = σ.2 j)))⟩
set_option maxRecDepth 20000 in
theorem m_propose_0 {X : jX} {σ : jS} {pr : Int} {ln : Nat} {lw : Nat → Int} {bn : Nat → Nat} {cd sz : Nat → Nat → Nat} {ph : Nat → Nat → Int} {mn : Nat} {mg : Nat → Int} {kn : Nat} {kr : Nat → Int} {ks : Nat → Nat} {kt : Nat → Nat → Int} {rd : Nat} {rg : Nat → Int} {th : Int} {b : Nat} (hM : MW σ th pr ln lw bn cd sz ph mn mg kn kr ks kt rd rg) (hI : CI pr ln lw bn cd sz ph mn mg kn kr ks kt rd rg) (hb : b < 3) : JM X mX7_propose rX7_propose [.ref 37, vI ((b : Nat) : Int)] σ (MP 0 ((proB bn sz ph kn kr kt pr b).1) σ (fun σ1 => MW σ1 0 pr (proN (proB bn sz ph kn kr kt pr b) ln) (proF kr (proB bn sz ph kn kr kt pr b) lw) bn cd sz ph mn mg kn kr ks kt rd rg)) := by
  refine JM.of (lc := [.ref 37, vI ((b : Nat) : Int), .null]) rfl ?_
  obtain ⟨hpr, ⟨hln, hlw⟩, hbk, ⟨hmn, hmg⟩, hki, hrd, hrg⟩ := id hI
  obtain ⟨⟨pa, ps, hO⟩, ⟨ml, h38, hml, hmi⟩, h39, ⟨Kw, h40, hw9, hkw⟩, h41, ⟨Mc, h42, hMc⟩, ⟨Ms, h43, hMs⟩, ⟨Mp, h44, hMp⟩, h45, h46, ⟨lf, h47⟩, ⟨pc, h48⟩⟩ := id hM
  have hkn := hki.1
  have hbn := (hbk b hb).1
  have hcd := (hbk b hb).2.1
  have hsz := (hbk b hb).2.2.1
  have hph := (hbk b hb).2.2.2
  have hc9 := fun e he => hMc b e hb he
  have hs9 := fun e he => hMs b e hb he
  have hp9 := fun t ht => hMp b t hb ht
  refine J.ald_n dX7_propose_0 rfl ?_
  refine J.iconst dX7_propose_1 ?_
  refine pf_X7_47 rfl dX7_propose_2 hO ?_
  refine J.ild_n dX7_propose_5 rfl ?_
  refine J.callS (rm' := rX7_isBook) [vI ((b : Nat) : Int)] dX7_propose_6 (c_X7_isBook_t (by unfold inI; omega) (by omega)) st_X7_isBook ml_X7_55 sm_X7_isBook rfl (Nat.le_of_ble_eq_true rfl) (by decide) (by decide) (Nat.le_of_ble_eq_true rfl) (by decide) (by decide) (Or.inl rfl) (fun E9 σ9 hq9 _ => nomatch hq9.1) (fun r9 σ9 hq9 hle9 => ?_)
  obtain ⟨h9, h8⟩ := hq9
  rw [h8]
  clear hle9 h8 σ9
  cases h9
  refine J.if_ne dX7_propose_9 (by decide) (tgt := 18) (by unfold inI; omega) (fun hb9 => ?_) (fun hb9 => ?_)
  · refine J.ald_n dX7_propose_18 rfl ?_
    refine J.ild_n dX7_propose_19 rfl ?_
    have hpi := hki.pro (B := (proB bn sz ph kn kr kt pr b)) rfl
    have hbd := proB_bd (B := (proB bn sz ph kn kr kt pr b)) hki hpr rfl
    refine J.callV (rm' := rX7_proposal) [vI ((b : Nat) : Int)] dX7_propose_20 (c_X7_proposal (B9 := (proB bn sz ph kn kr kt pr b)) (lnB_pm hki) (jset_eq _ _ _) ((jset_ne _ _ (by omega)).trans h39) ((jset_ne _ _ (by omega)).trans h40) hw9 hkw hki hpr ((jset_ne _ _ (by omega)).trans h41) hb hbn ((jset_ne _ _ (by omega)).trans h43) hs9 ((jset_ne _ _ (by omega)).trans h44) hp9 hph hsz) (jset_eq _ _ _) rfl st_X7_proposal ml_X7_164 im_X7_proposal se_X7_proposal rfl (Nat.le_of_ble_eq_true rfl) (by decide) (by decide) (Nat.le_of_ble_eq_true rfl) (by decide) (by decide) (Or.inl rfl) (fun E9 σ9 hq9 _ => nomatch hq9.1) (fun r9 σ1 hq9 hle9 => ?_)
    obtain ⟨h9, ⟨pa1, ps1, k37, hpp⟩, hn1, hj1⟩ := hq9
    cases h9
    clear hle9
    refine J.ist_n dX7_propose_23 (by decide) (jnc_of rfl rfl) ?_
    refine J.ild_n dX7_propose_24 rfl ?_
    refine J.if_ne dX7_propose_25 (by decide) (tgt := 30) hbd (fun h1 => ?_) (fun h1 => ?_)
    · have hp0 : 0 < (proB bn sz ph kn kr kt pr b).1 := by omega
      rw [show proN (proB bn sz ph kn kr kt pr b) ln = (proB bn sz ph kn kr kt pr b).2.2 from if_pos hp0, show proF kr (proB bn sz ph kn kr kt pr b) lw = alF kr (proB bn sz ph kn kr kt pr b).2.2 (proB bn sz ph kn kr kt pr b).2.1 0 lw from if_pos hp0]
      obtain ⟨hz1, k, p, hk, hp, hA⟩ := hpi.2 hp0
      have hkk := hki.2.1 k hk
      have hmA : mA (proB bn sz ph kn kr kt pr b).2.1 = 40 * k + p := by rw [hA]; exact mA_eq (by omega)
      obtain ⟨rfl, rfl⟩ := hpp hp0
      rw [hmA] at k37
      refine J.ald_n dX7_propose_30 rfl ?_
      refine J.ald_n dX7_propose_31 rfl ?_
      refine gf_X7_161 rfl dX7_propose_32 k37 ?_
      refine pf_X7_63 rfl dX7_propose_35 k37 ?_
      refine J.ald_n dX7_propose_38 rfl ?_
      refine gf_X7_20 rfl dX7_propose_39 (jset_eq _ _ _) ?_
      refine J.ald_n dX7_propose_42 rfl ?_
      refine gf_X7_158 rfl dX7_propose_43 (jset_eq _ _ _) ?_
      refine J.ald_n dX7_propose_46 rfl ?_
      refine gf_X7_13 rfl dX7_propose_47 (jset_eq _ _ _) ?_
      refine J.iconst dX7_propose_50 ?_
      refine J.ald_n dX7_propose_51 rfl ?_
      refine gf_X7_63 rfl dX7_propose_52 (jset_eq _ _ _) ?_
      refine J.acopy (40 * k + p) 0 ((proB bn sz ph kn kr kt pr b).2.2) dX7_propose_55 ml_X7_69 na_acopy sm_acopy ini_java_lang_System ((jset_ne _ _ (by omega)).trans ((hj1 _ (by omega)).trans ((jset_ne _ _ (by omega)).trans h40))) ((jset_ne _ _ (by omega)).trans ((hj1 _ (by omega)).trans ((jset_ne _ _ (by omega)).trans h38))) (by omega) (by omega) rfl rfl rfl (by omega) (by omega) (by omega) (by omega) (by decide) (Nat.le_of_ble_eq_true rfl) ?_
      refine J.ild_n dX7_propose_58 rfl ?_
      refine J.iret .int dX7_propose_59 rfl rfl (by decide) (by decide) ?_
      exact ⟨⟨_, rfl, fun _ => rfl⟩, ⟨⟨_, _, ((jset_ne _ _ (by omega)).trans (jset_eq _ _ _))⟩, ⟨_, (jset_eq _ _ _), fun t ht => by unfold jcp; rw [if_pos (by omega), alF_eq _ _ _ _ _ (by omega), if_pos (by omega), hA, show 40 * k + p + (t - 0) = 40 * k + (p + t) by omega, show k * 41 + p + (t - 0) = k * 41 + (p + t) by omega]; exact hw9 k (p + t) hk (by omega), fun t ht => by unfold jcp; by_cases q : 0 ≤ t ∧ t < 0 + (proB bn sz ph kn kr kt pr b).2.2; rw [if_pos q]; exact hkw _ (by omega); rw [if_neg q]; exact hmi t ht⟩, ((jset_ne _ _ (by omega)).trans ((jset_ne _ _ (by omega)).trans ((hj1 _ (by omega)).trans ((jset_ne _ _ (by omega)).trans h39)))), ⟨Kw, ((jset_ne _ _ (by omega)).trans ((jset_ne _ _ (by omega)).trans ((hj1 _ (by omega)).trans ((jset_ne _ _ (by omega)).trans h40)))), hw9, hkw⟩, ((jset_ne _ _ (by omega)).trans ((jset_ne _ _ (by omega)).trans ((hj1 _ (by omega)).trans ((jset_ne _ _ (by omega)).trans h41)))), ⟨Mc, ((jset_ne _ _ (by omega)).trans ((jset_ne _ _ (by omega)).trans ((hj1 _ (by omega)).trans ((jset_ne _ _ (by omega)).trans h42)))), hMc⟩, ⟨Ms, ((jset_ne _ _ (by omega)).trans ((jset_ne _ _ (by omega)).trans ((hj1 _ (by omega)).trans ((jset_ne _ _ (by omega)).trans h43)))), hMs⟩, ⟨Mp, ((jset_ne _ _ (by omega)).trans ((jset_ne _ _ (by omega)).trans ((hj1 _ (by omega)).trans ((jset_ne _ _ (by omega)).trans h44)))), hMp⟩, ((jset_ne _ _ (by omega)).trans ((jset_ne _ _ (by omega)).trans ((hj1 _ (by omega)).trans ((jset_ne _ _ (by omega)).trans h45)))), ((jset_ne _ _ (by omega)).trans ((jset_ne _ _ (by omega)).trans ((hj1 _ (by omega)).trans ((jset_ne _ _ (by omega)).trans h46)))), ⟨_, ((jset_ne _ _ (by omega)).trans ((jset_ne _ _ (by omega)).trans ((hj1 _ (by omega)).trans ((jset_ne _ _ (by omega)).trans h47))))⟩, ⟨_, ((jset_ne _ _ (by omega)).trans ((jset_ne _ _ (by omega)).trans ((hj1 _ (by omega)).trans ((jset_ne _ _ (by omega)).trans h48))))⟩⟩, hn1, fun j hj => ((jset_ne _ _ (by omega)).trans ((jset_ne _ _ (by omega)).trans ((hj1 _ (by omega)).trans ((jset_ne _ _ (by omega)).trans (rfl : σ.2 j = σ.2 j)))))⟩
    · have hp0 : ¬ 0 < (proB bn sz ph kn kr kt pr b).1 := by omega
      rw [show proN (proB bn sz ph kn kr kt pr b) ln = ln from if_neg hp0, show proF kr (proB bn sz ph kn kr kt pr b) lw = lw from if_neg hp0]
      refine J.iconst dX7_propose_28 ?_
      refine J.iret .int dX7_propose_29 rfl rfl (by decide) (by decide) ?_
      exact ⟨⟨_, rfl, fun _ => by omega⟩, ⟨⟨pa1, ps1, k37⟩, ⟨ml, ((hj1 _ (by omega)).trans ((jset_ne _ _ (by omega)).trans h38)), hml, hmi⟩, ((hj1 _ (by omega)).trans ((jset_ne _ _ (by omega)).trans h39)), ⟨Kw, ((hj1 _ (by omega)).trans ((jset_ne _ _ (by omega)).trans h40)), hw9, hkw⟩, ((hj1 _ (by omega)).trans ((jset_ne _ _ (by omega)).trans h41)), ⟨Mc, ((hj1 _ (by omega)).trans ((jset_ne _ _ (by omega)).trans h42)), hMc⟩, ⟨Ms, ((hj1 _ (by omega)).trans ((jset_ne _ _ (by omega)).trans h43)), hMs⟩, ⟨Mp, ((hj1 _ (by omega)).trans ((jset_ne _ _ (by omega)).trans h44)), hMp⟩, ((hj1 _ (by omega)).trans ((jset_ne _ _ (by omega)).trans h45)), ((hj1 _ (by omega)).trans ((jset_ne _ _ (by omega)).trans h46)), ⟨_, ((hj1 _ (by omega)).trans ((jset_ne _ _ (by omega)).trans h47))⟩, ⟨_, ((hj1 _ (by omega)).trans ((jset_ne _ _ (by omega)).trans h48))⟩⟩, hn1, fun j hj => ((hj1 _ (by omega)).trans ((jset_ne _ _ (by omega)).trans (rfl : σ.2 j = σ.2 j)))⟩
  · first | exact absurd hb9 (by decide) | exact absurd rfl hb9
set_option maxRecDepth 20000 in
theorem m_encode_1 {X : jX} {σ : jS} {pr : Int} {ln : Nat} {lw : Nat → Int} {bn : Nat → Nat} {cd sz : Nat → Nat → Nat} {ph : Nat → Nat → Int} {mn : Nat} {mg : Nat → Int} {kn : Nat} {kr : Nat → Int} {ks : Nat → Nat} {kt : Nat → Nat → Int} {rd : Nat} {rg : Nat → Int} {th : Int} {a : Int} (hM : MW σ th pr ln lw bn cd sz ph mn mg kn kr ks kt rd rg) (hI : CI pr ln lw bn cd sz ph mn mg kn kr ks kt rd rg) (hi : inI a) (ha : ¬ (0 ≤ a ∧ a < 3)) : JM X mX7_encode rX7_encode [.ref 37, vI a] σ (MP 1 (0) σ (fun σ1 => MW σ1 1 pr ln lw bn cd sz ph mn mg kn kr ks kt rd rg)) := by
  refine JM.of (lc := [.ref 37, vI a, .null, .null, .null]) rfl ?_
  obtain ⟨hpr, ⟨hln, hlw⟩, hbk, ⟨hmn, hmg⟩, hki, hrd, hrg⟩ := id hI
  obtain ⟨⟨pa, ps, hO⟩, ⟨ml, h38, hml, hmi⟩, h39, ⟨Kw, h40, hw9, hkw⟩, h41, ⟨Mc, h42, hMc⟩, ⟨Ms, h43, hMs⟩, ⟨Mp, h44, hMp⟩, h45, h46, ⟨lf, h47⟩, ⟨pc, h48⟩⟩ := id hM
  have hkn := hki.1
  refine J.ald_n dX7_encode_0 rfl ?_
  refine J.iconst dX7_encode_1 ?_
  refine pf_X7_47 rfl dX7_encode_2 hO ?_
  refine J.ild_n dX7_encode_5 rfl ?_
  refine J.callS (rm' := rX7_isBook) [vI a] dX7_encode_6 (c_X7_isBook_f hi (by omega)) st_X7_isBook ml_X7_55 sm_X7_isBook rfl (Nat.le_of_ble_eq_true rfl) (by decide) (by decide) (Nat.le_of_ble_eq_true rfl) (by decide) (by decide) (Or.inl rfl) (fun E9 σ9 hq9 _ => nomatch hq9.1) (fun r9 σ9 hq9 hle9 => ?_)
  obtain ⟨h9, h8⟩ := hq9
  rw [h8]
  clear hle9 h8 σ9
  cases h9
  refine J.if_ne dX7_encode_9 (by decide) (tgt := 18) (by unfold inI; omega) (fun hb9 => ?_) (fun hb9 => ?_)
  · first | exact absurd hb9 (by decide) | exact absurd rfl hb9 | omega
  · refine J.ald_n dX7_encode_12 rfl ?_
    refine J.iconst dX7_encode_13 ?_
    refine J.callV (rm' := rX7_no) [vI 1] dX7_encode_14 (c_X7_no (jset_eq _ _ _)) (jset_eq _ _ _) rfl st_X7_no ml_X7_59 im_X7_no se_X7_no rfl (Nat.le_of_ble_eq_true rfl) (by decide) (by decide) (Nat.le_of_ble_eq_true rfl) (by decide) (by decide) (Or.inl rfl) (fun E9 σ9 hq9 _ => nomatch hq9.1) (fun r9 σ9 hq9 hle9 => ?_)
    obtain ⟨h9, h8⟩ := hq9
    cases h9
    subst h8
    clear hle9
    refine J.iret .int dX7_encode_17 rfl rfl (by decide) (by decide) ?_
    exact ⟨⟨_, rfl, fun q => absurd q (by decide)⟩, ⟨⟨pa, ps, (jset_eq _ _ _)⟩, ⟨ml, ((jset_ne _ _ (by omega)).trans ((jset_ne _ _ (by omega)).trans h38)), hml, hmi⟩, ((jset_ne _ _ (by omega)).trans ((jset_ne _ _ (by omega)).trans h39)), ⟨Kw, ((jset_ne _ _ (by omega)).trans ((jset_ne _ _ (by omega)).trans h40)), hw9, hkw⟩, ((jset_ne _ _ (by omega)).trans ((jset_ne _ _ (by omega)).trans h41)), ⟨Mc, ((jset_ne _ _ (by omega)).trans ((jset_ne _ _ (by omega)).trans h42)), hMc⟩, ⟨Ms, ((jset_ne _ _ (by omega)).trans ((jset_ne _ _ (by omega)).trans h43)), hMs⟩, ⟨Mp, ((jset_ne _ _ (by omega)).trans ((jset_ne _ _ (by omega)).trans h44)), hMp⟩, ((jset_ne _ _ (by omega)).trans ((jset_ne _ _ (by omega)).trans h45)), ((jset_ne _ _ (by omega)).trans ((jset_ne _ _ (by omega)).trans h46)), ⟨_, ((jset_ne _ _ (by omega)).trans ((jset_ne _ _ (by omega)).trans h47))⟩, ⟨_, ((jset_ne _ _ (by omega)).trans ((jset_ne _ _ (by omega)).trans h48))⟩⟩, rfl, fun j hj => ((jset_ne _ _ (by omega)).trans ((jset_ne _ _ (by omega)).trans (rfl : σ.2 j = σ.2 j)))⟩
set_option maxRecDepth 20000 in
theorem m_encode_0 {X : jX} {σ : jS} {pr : Int} {ln : Nat} {lw : Nat → Int} {bn : Nat → Nat} {cd sz : Nat → Nat → Nat} {ph : Nat → Nat → Int} {mn : Nat} {mg : Nat → Int} {kn : Nat} {kr : Nat → Int} {ks : Nat → Nat} {kt : Nat → Nat → Int} {rd : Nat} {rg : Nat → Int} {th : Int} {b : Nat} (hM : MW σ th pr ln lw bn cd sz ph mn mg kn kr ks kt rd rg) (hI : CI pr ln lw bn cd sz ph mn mg kn kr ks kt rd rg) (hb : b < 3) : JM X mX7_encode rX7_encode [.ref 37, vI ((b : Nat) : Int)] σ (MP 0 (cvC (bn b) (sz b) (ph b) lw 0 ln pr 0) σ (fun σ1 => MW σ1 0 pr ln lw bn cd sz ph ((enU (pkC (bn b) (cd b) (sz b) (ph b) lw 0 ln pr) (cd b) (sz b) lw ln 40 0 0 mg).1) ((enU (pkC (bn b) (cd b) (sz b) (ph b) lw 0 ln pr) (cd b) (sz b) lw ln 40 0 0 mg).2) kn kr ks kt rd rg)) := by
  refine JM.of (lc := [.ref 37, vI ((b : Nat) : Int), .null, .null, .null]) rfl ?_
  obtain ⟨hpr, ⟨hln, hlw⟩, hbk, ⟨hmn, hmg⟩, hki, hrd, hrg⟩ := id hI
  obtain ⟨⟨pa, ps, hO⟩, ⟨ml, h38, hml, hmi⟩, h39, ⟨Kw, h40, hw9, hkw⟩, h41, ⟨Mc, h42, hMc⟩, ⟨Ms, h43, hMs⟩, ⟨Mp, h44, hMp⟩, h45, h46, ⟨lf, h47⟩, ⟨pc, h48⟩⟩ := id hM
  have hkn := hki.1
  have hbn := (hbk b hb).1
  have hcd := (hbk b hb).2.1
  have hsz := (hbk b hb).2.2.1
  have hph := (hbk b hb).2.2.2
  have hc9 := fun e he => hMc b e hb he
  have hs9 := fun e he => hMs b e hb he
  have hp9 := fun t ht => hMp b t hb ht
  refine J.ald_n dX7_encode_0 rfl ?_
  refine J.iconst dX7_encode_1 ?_
  refine pf_X7_47 rfl dX7_encode_2 hO ?_
  refine J.ild_n dX7_encode_5 rfl ?_
  refine J.callS (rm' := rX7_isBook) [vI ((b : Nat) : Int)] dX7_encode_6 (c_X7_isBook_t (by unfold inI; omega) (by omega)) st_X7_isBook ml_X7_55 sm_X7_isBook rfl (Nat.le_of_ble_eq_true rfl) (by decide) (by decide) (Nat.le_of_ble_eq_true rfl) (by decide) (by decide) (Or.inl rfl) (fun E9 σ9 hq9 _ => nomatch hq9.1) (fun r9 σ9 hq9 hle9 => ?_)
  obtain ⟨h9, h8⟩ := hq9
  rw [h8]
  clear hle9 h8 σ9
  cases h9
  refine J.if_ne dX7_encode_9 (by decide) (tgt := 18) (by unfold inI; omega) (fun hb9 => ?_) (fun hb9 => ?_)
  · refine J.ald_n dX7_encode_18 rfl ?_
    refine J.ild_n dX7_encode_19 rfl ?_
    refine J.ald_n dX7_encode_20 rfl ?_
    refine gf_X7_13 rfl dX7_encode_21 (jset_eq _ _ _) ?_
    refine J.iconst dX7_encode_24 ?_
    refine J.ald_n dX7_encode_25 rfl ?_
    refine gf_X7_63 rfl dX7_encode_26 (jset_eq _ _ _) ?_
    refine J.callV (rm' := rX7_divide) [vI ((b : Nat) : Int), .ref 38, vI 0, vI ((ln : Nat) : Int)] dX7_encode_29 (c_X7_divide (s := 0) (jset_eq _ _ _) ((jset_ne _ _ (by omega)).trans h41) hb hbn ((jset_ne _ _ (by omega)).trans h42) hc9 hcd ((jset_ne _ _ (by omega)).trans h43) hs9 ((jset_ne _ _ (by omega)).trans h44) hp9 hph hsz ((jset_ne _ _ (by omega)).trans h47) ((jset_ne _ _ (by omega)).trans h48) ((jset_ne _ _ (by omega)).trans h38) (by omega) (by omega) hmi (by omega) hln hpr) (jset_eq _ _ _) rfl st_X7_divide ml_X7_120 im_X7_divide se_X7_divide rfl (Nat.le_of_ble_eq_true rfl) (by decide) (by decide) (Nat.le_of_ble_eq_true rfl) (by decide) (by decide) (Or.inl rfl) (fun E9 σ9 hq9 _ => nomatch hq9.1) (fun r9 σ1 hq9 hle9 => ?_)
    obtain ⟨h9, ⟨lf1, pc1, g47, g48, hpk⟩, hn1, hj1⟩ := hq9
    cases h9
    clear hle9
    have hcg : ∀ t, t < ln → ml (0 + t) = lw (0 + t) := fun t ht => by rw [Nat.zero_add]; exact hml t ht
    rw [cvC_congr hcg]
    rw [pkC_congr hcg] at hpk
    refine J.ist_n dX7_encode_32 (by decide) (jnc_of rfl rfl) ?_
    refine J.ald_n dX7_encode_33 rfl ?_
    refine J.iconst dX7_encode_34 ?_
    refine pf_X7_124 rfl dX7_encode_35 ((hj1 _ (by omega) (by omega)).trans (jset_eq _ _ _)) ?_
    refine J.iconst dX7_encode_38 ?_
    refine J.ist_n dX7_encode_39 (by decide) (jnc_of rfl rfl) ?_
    have L : ∀ (t g a : Nat) (σ' : jS) (f : Nat → Int) (u : Value), g + t = 40 → g ≤ a → a ≤ ln → u.category = 1 → σ'.1 = σ.1 → (∀ j, j ≠ 37 → j ≠ 45 → j ≠ 47 → j ≠ 48 → σ'.2 j = σ.2 j) → MO σ' 0 pr ((ln : Nat) : Int) ((kn : Nat) : Int) ((g : Nat) : Int) ((rd : Nat) : Int) pa ps → σ'.2 45 = jI 40 f → σ'.2 47 = jI 41 lf1 → σ'.2 48 = jI 40 pc1 → J X mX7_encode rX7_encode 40 [.ref 37, vI ((b : Nat) : Int), vI (cvC (bn b) (sz b) (ph b) lw 0 ln pr 0), vI ((a : Nat) : Int), u] [] 0 0 σ' (MP 0 (cvC (bn b) (sz b) (ph b) lw 0 ln pr 0) σ (fun σ9 => MW σ9 0 pr ln lw bn cd sz ph ((enU (pkC (bn b) (cd b) (sz b) (ph b) lw 0 ln pr) (cd b) (sz b) lw ln t a g f).1) ((enU (pkC (bn b) (cd b) (sz b) (ph b) lw 0 ln pr) (cd b) (sz b) lw ln t a g f).2) kn kr ks kt rd rg)) := by
      intro t
      induction t with
      | zero =>
        intro g a σ' f u hg hga ha hu h1 h2 h3 k45 k47 k48
        refine J.ild_n dX7_encode_40 rfl ?_
        refine J.ald_n dX7_encode_41 rfl ?_
        refine gf_X7_63 rfl dX7_encode_42 h3 ?_
        refine J.icmp_ge dX7_encode_45 (by decide) (tgt := 122) (by unfold inI; omega) (by unfold inI; omega) (fun h => ?_) (fun h => ?_)
        · refine J.ild_n dX7_encode_122 rfl ?_
          refine J.iret .int dX7_encode_123 rfl rfl (by decide) (by decide) ?_
          exact ⟨⟨_, rfl, fun _ => rfl⟩, ⟨⟨pa, ps, h3⟩, ⟨ml, ((h2 _ (by omega) (by omega) (by omega) (by omega)).trans h38), hml, hmi⟩, ((h2 _ (by omega) (by omega) (by omega) (by omega)).trans h39), ⟨Kw, ((h2 _ (by omega) (by omega) (by omega) (by omega)).trans h40), hw9, hkw⟩, ((h2 _ (by omega) (by omega) (by omega) (by omega)).trans h41), ⟨Mc, ((h2 _ (by omega) (by omega) (by omega) (by omega)).trans h42), hMc⟩, ⟨Ms, ((h2 _ (by omega) (by omega) (by omega) (by omega)).trans h43), hMs⟩, ⟨Mp, ((h2 _ (by omega) (by omega) (by omega) (by omega)).trans h44), hMp⟩, k45, ((h2 _ (by omega) (by omega) (by omega) (by omega)).trans h46), ⟨_, k47⟩, ⟨_, k48⟩⟩, h1, fun j hj => ((h2 _ (by omega) (by omega) (by omega) (by omega)).trans (rfl : σ.2 j = σ.2 j))⟩
        · omega
      | succ t ih =>
        intro g a σ' f u hg hga ha hu h1 h2 h3 k45 k47 k48
        refine J.ild_n dX7_encode_40 rfl ?_
        refine J.ald_n dX7_encode_41 rfl ?_
        refine gf_X7_63 rfl dX7_encode_42 h3 ?_
        refine J.icmp_ge dX7_encode_45 (by decide) (tgt := 122) (by unfold inI; omega) (by unfold inI; omega) (fun h => ?_) (fun h => ?_)
        · rw [show enU (pkC (bn b) (cd b) (sz b) (ph b) lw 0 ln pr) (cd b) (sz b) lw ln (t + 1) a g f = (g, f) from if_neg (by omega)]
          refine J.ild_n dX7_encode_122 rfl ?_
          refine J.iret .int dX7_encode_123 rfl rfl (by decide) (by decide) ?_
          exact ⟨⟨_, rfl, fun _ => rfl⟩, ⟨⟨pa, ps, h3⟩, ⟨ml, ((h2 _ (by omega) (by omega) (by omega) (by omega)).trans h38), hml, hmi⟩, ((h2 _ (by omega) (by omega) (by omega) (by omega)).trans h39), ⟨Kw, ((h2 _ (by omega) (by omega) (by omega) (by omega)).trans h40), hw9, hkw⟩, ((h2 _ (by omega) (by omega) (by omega) (by omega)).trans h41), ⟨Mc, ((h2 _ (by omega) (by omega) (by omega) (by omega)).trans h42), hMc⟩, ⟨Ms, ((h2 _ (by omega) (by omega) (by omega) (by omega)).trans h43), hMs⟩, ⟨Mp, ((h2 _ (by omega) (by omega) (by omega) (by omega)).trans h44), hMp⟩, k45, ((h2 _ (by omega) (by omega) (by omega) (by omega)).trans h46), ⟨_, k47⟩, ⟨_, k48⟩⟩, h1, fun j hj => ((h2 _ (by omega) (by omega) (by omega) (by omega)).trans (rfl : σ.2 j = σ.2 j))⟩
        · have hpa : pc1 a = ab b ((pkC (bn b) (cd b) (sz b) (ph b) lw 0 ln pr) a) := hpk a (by omega)
          have hma := hml a (by omega)
          have hEN : enU (pkC (bn b) (cd b) (sz b) (ph b) lw 0 ln pr) (cd b) (sz b) lw ln (t + 1) a g f = (if (pkC (bn b) (cd b) (sz b) (ph b) lw 0 ln pr) a = -1 then enU (pkC (bn b) (cd b) (sz b) (ph b) lw 0 ln pr) (cd b) (sz b) lw ln t (a + 1) (g + 1) (jup f g (-1 - lw a)) else enU (pkC (bn b) (cd b) (sz b) (ph b) lw 0 ln pr) (cd b) (sz b) lw ln t (a + sz b ((pkC (bn b) (cd b) (sz b) (ph b) lw 0 ln pr) a).toNat) (g + 1) (jup f g ((cd b ((pkC (bn b) (cd b) (sz b) (ph b) lw 0 ln pr) a).toNat : Nat) : Int))) := if_pos (by omega)
          rw [hEN]
          clear hEN
          rcases (pkC_rng (n := bn b) (cd := cd b) (sz := sz b) (ph := ph b) (g := lw) (s := 0) (m := ln) (pr := pr) (a := a)) with hk | ⟨k, hk, hkn2, hkm⟩
          · rw [hk] at hpa ⊢
            rw [if_pos rfl]
            rw [ab_n] at hpa
            refine J.ald_n dX7_encode_48 rfl ?_
            refine gf_X7_44 rfl dX7_encode_49 h3 ?_
            refine J.ild_n dX7_encode_52 rfl ?_
            refine J.iald a dX7_encode_53 k48 rfl (by omega) (by omega) ?_
            rw [show pc1 a = (-1) from hpa]
            refine J.ist dX7_encode_54 (by decide) (jnc_of rfl rfl) ?_
            refine J.ald_n dX7_encode_56 rfl ?_
            refine gf_X7_35 rfl dX7_encode_57 h3 ?_
            refine J.ald_n dX7_encode_60 rfl ?_
            refine gf_X7_124 rfl dX7_encode_61 h3 ?_
            refine J.ild dX7_encode_64 rfl ?_
            refine J.iconst dX7_encode_66 ?_
            refine J.icmp_ne dX7_encode_67 (by decide) (tgt := 81) (by unfold inI; omega) (by unfold inI; omega) (fun h6 => ?_) (fun h6 => ?_)
            · first | omega | exact absurd rfl h6
            · refine J.iconst dX7_encode_70 ?_
              refine J.ald_n dX7_encode_71 rfl ?_
              refine gf_X7_13 rfl dX7_encode_72 h3 ?_
              refine J.ild_n dX7_encode_75 rfl ?_
              refine J.iald a dX7_encode_76 ((h2 _ (by omega) (by omega) (by omega) (by omega)).trans h38) rfl (by omega) (by omega) ?_
              rw [show ml a = (lw a) from hma]
              refine J.isub dX7_encode_77 ?_
              refine J.goto dX7_encode_78 (by decide) (tgt := 88) ?_
              refine J.iast g dX7_encode_88 k45 (by omega) rfl (by omega) (by omega) ?_
              refine J.ild_n dX7_encode_89 rfl ?_
              refine J.ild dX7_encode_90 rfl ?_
              refine J.iconst dX7_encode_92 ?_
              refine J.icmp_ne dX7_encode_93 (by decide) (tgt := 100) (by unfold inI; omega) (by unfold inI; omega) (fun h7 => ?_) (fun h7 => ?_)
              · first | omega | exact absurd rfl h7
              · refine J.iconst dX7_encode_96 ?_
                refine J.goto dX7_encode_97 (by decide) (tgt := 107) ?_
                refine J.iadd dX7_encode_107 ?_
                rw [show (((a : Nat) : Int) : Int) + 1 = ((a + 1 : Nat) : Int) from by push_cast; rfl]
                refine J.ist_n dX7_encode_108 (by decide) (jnc_of rfl rfl) ?_
                refine J.ald_n dX7_encode_109 rfl ?_
                refine J.dup dX7_encode_110 rfl ?_
                refine gf_X7_124 rfl dX7_encode_111 ((jset_ne _ _ (by omega)).trans h3) ?_
                refine J.iconst dX7_encode_114 ?_
                refine J.iadd dX7_encode_115 ?_
                rw [show (((g : Nat) : Int) : Int) + 1 = ((g + 1 : Nat) : Int) from by push_cast; rfl]
                refine pf_X7_124 rfl dX7_encode_116 ((jset_ne _ _ (by omega)).trans h3) ?_
                refine J.goto dX7_encode_119 (by decide) (tgt := 40) ?_
                exact ih (g + 1) _ _ _ _ (by omega) (by omega) (by omega) rfl h1 (fun j q1 q2 q3 q4 => by rw [jset_ne _ _ q1, jset_ne _ _ q2]; exact h2 j q1 q2 q3 q4) (jset_eq _ _ _) ((jset_ne _ _ (by omega)).trans (jset_eq _ _ _)) ((jset_ne _ _ (by omega)).trans ((jset_ne _ _ (by omega)).trans k47)) ((jset_ne _ _ (by omega)).trans ((jset_ne _ _ (by omega)).trans k48))
          · rw [hk] at hpa ⊢
            rw [if_neg (by omega), show (((k : Nat) : Int)).toNat = k from rfl]
            have hkm2 := mtB_le hkm
            have hszk := hsz k hkn2
            rw [ab_s] at hpa
            refine J.ald_n dX7_encode_48 rfl ?_
            refine gf_X7_44 rfl dX7_encode_49 h3 ?_
            refine J.ild_n dX7_encode_52 rfl ?_
            refine J.iald a dX7_encode_53 k48 rfl (by omega) (by omega) ?_
            rw [show pc1 a = ((40 * b + k : Nat) : Int) from hpa]
            refine J.ist dX7_encode_54 (by decide) (jnc_of rfl rfl) ?_
            refine J.ald_n dX7_encode_56 rfl ?_
            refine gf_X7_35 rfl dX7_encode_57 h3 ?_
            refine J.ald_n dX7_encode_60 rfl ?_
            refine gf_X7_124 rfl dX7_encode_61 h3 ?_
            refine J.ild dX7_encode_64 rfl ?_
            refine J.iconst dX7_encode_66 ?_
            refine J.icmp_ne dX7_encode_67 (by decide) (tgt := 81) (by unfold inI; omega) (by unfold inI; omega) (fun h6 => ?_) (fun h6 => ?_)
            · refine J.ald_n dX7_encode_81 rfl ?_
              refine gf_X7_26 rfl dX7_encode_82 h3 ?_
              refine J.ild dX7_encode_85 rfl ?_
              refine J.iald (40 * b + k) dX7_encode_87 ((h2 _ (by omega) (by omega) (by omega) (by omega)).trans h42) rfl (by omega) (by omega) ?_
              rw [show Mc (40 * b + k) = ((cd b k : Nat) : Int) from by rw [hc9 k (by omega)]]
              refine J.iast g dX7_encode_88 k45 (by omega) rfl (by omega) (by omega) ?_
              refine J.ild_n dX7_encode_89 rfl ?_
              refine J.ild dX7_encode_90 rfl ?_
              refine J.iconst dX7_encode_92 ?_
              refine J.icmp_ne dX7_encode_93 (by decide) (tgt := 100) (by unfold inI; omega) (by unfold inI; omega) (fun h7 => ?_) (fun h7 => ?_)
              · refine J.ald_n dX7_encode_100 rfl ?_
                refine gf_X7_29 rfl dX7_encode_101 ((jset_ne _ _ (by omega)).trans h3) ?_
                refine J.ild dX7_encode_104 rfl ?_
                refine J.iald (40 * b + k) dX7_encode_106 ((jset_ne _ _ (by omega)).trans ((h2 _ (by omega) (by omega) (by omega) (by omega)).trans h43)) rfl (by omega) (by omega) ?_
                rw [show Ms (40 * b + k) = ((sz b k : Nat) : Int) from by rw [hs9 k (by omega)]]
                refine J.iadd dX7_encode_107 ?_
                rw [show (((a : Nat) : Int) : Int) + ((sz b k : Nat) : Int) = ((a + (sz b k) : Nat) : Int) from by push_cast; rfl]
                refine J.ist_n dX7_encode_108 (by decide) (jnc_of rfl rfl) ?_
                refine J.ald_n dX7_encode_109 rfl ?_
                refine J.dup dX7_encode_110 rfl ?_
                refine gf_X7_124 rfl dX7_encode_111 ((jset_ne _ _ (by omega)).trans h3) ?_
                refine J.iconst dX7_encode_114 ?_
                refine J.iadd dX7_encode_115 ?_
                rw [show (((g : Nat) : Int) : Int) + 1 = ((g + 1 : Nat) : Int) from by push_cast; rfl]
                refine pf_X7_124 rfl dX7_encode_116 ((jset_ne _ _ (by omega)).trans h3) ?_
                refine J.goto dX7_encode_119 (by decide) (tgt := 40) ?_
                exact ih (g + 1) _ _ _ _ (by omega) (by omega) (by omega) rfl h1 (fun j q1 q2 q3 q4 => by rw [jset_ne _ _ q1, jset_ne _ _ q2]; exact h2 j q1 q2 q3 q4) (jset_eq _ _ _) ((jset_ne _ _ (by omega)).trans (jset_eq _ _ _)) ((jset_ne _ _ (by omega)).trans ((jset_ne _ _ (by omega)).trans k47)) ((jset_ne _ _ (by omega)).trans ((jset_ne _ _ (by omega)).trans k48))
              · first | omega | exact absurd rfl h7
            · first | omega | exact absurd rfl h6
    exact L 40 0 0 (jset σ1 37 (jO 6 [vI 0, vI pr, .ref 38, vI ((ln : Nat) : Int), vI ((kn : Nat) : Int), .ref 39, .ref 40, .ref 41, .ref 42, .ref 43, .ref 44, vI 0, .ref 45, vI ((rd : Nat) : Int), .ref 46, .ref 47, .ref 48, vI pa, vI ps])) mg .null (by omega) (by omega) (by omega) rfl hn1 (fun j q1 q2 q3 q4 => by rw [jset_ne _ _ q1, hj1 j q3 q4, jset_ne _ _ q1]) (jset_eq _ _ _) ((jset_ne _ _ (by omega)).trans ((hj1 _ (by omega) (by omega)).trans ((jset_ne _ _ (by omega)).trans h45))) ((jset_ne _ _ (by omega)).trans g47) ((jset_ne _ _ (by omega)).trans g48)
  · first | exact absurd hb9 (by decide) | exact absurd rfl hb9
