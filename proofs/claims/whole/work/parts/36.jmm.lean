def MW (σ : jS) (th : Int) (pr : Int) (ln : Nat) (lw : Nat → Int) (bn : Nat → Nat) (cd sz : Nat → Nat → Nat) (ph : Nat → Nat → Int) (mn : Nat) (mg : Nat → Int) (kn : Nat) (kr : Nat → Int) (ks : Nat → Nat) (kt : Nat → Nat → Int) (rd : Nat) (rg : Nat → Int) : Prop :=
  (∃ pa ps : Int, MO σ th pr ((ln : Nat) : Int) ((kn : Nat) : Int) ((mn : Nat) : Int) ((rd : Nat) : Int) pa ps) ∧ (∃ ml : Nat → Int, σ.2 38 = jI 40 ml ∧ (∀ t, t < ln → ml t = lw t) ∧ ∀ t, t < 40 → inI (ml t)) ∧ σ.2 39 = jI 12 (fun e => ((ks e : Nat) : Int)) ∧ (∃ Kw : Nat → Int, σ.2 40 = jI 480 Kw ∧ (∀ k i, k < kn → i < ks k → Kw (40 * k + i) = kr (k * 41 + i)) ∧ ∀ t, t < 480 → inI (Kw t)) ∧ σ.2 41 = jI 3 (fun e => ((bn e : Nat) : Int)) ∧ (∃ Mc : Nat → Nat, σ.2 42 = jI 120 (fun e => ((Mc e : Nat) : Int)) ∧ ∀ b e, b < 3 → e < 40 → Mc (40 * b + e) = cd b e) ∧ (∃ Ms : Nat → Nat, σ.2 43 = jI 120 (fun e => ((Ms e : Nat) : Int)) ∧ ∀ b e, b < 3 → e < 40 → Ms (40 * b + e) = sz b e) ∧ (∃ Mp : Nat → Int, σ.2 44 = jI 720 Mp ∧ ∀ b t, b < 3 → t < 240 → Mp (240 * b + t) = ph b t) ∧ σ.2 45 = jI 40 mg ∧ σ.2 46 = jI 40 rg ∧ (∃ f, σ.2 47 = jI 41 f) ∧ ∃ f, σ.2 48 = jI 40 f
/-- nothing but the model's own cells has changed -/
def FrM (σ σ1 : jS) : Prop := σ1.1 = σ.1 ∧ ∀ j, (j < 37 ∨ 48 < j) → σ1.2 j = σ.2 j
def MP (th v : Int) (σ : jS) (C : jS → Prop) : jOut → jS → Prop := fun o σ1 => (∃ x : Int, o = oI x ∧ (th = 0 → x = v)) ∧ C σ1 ∧ FrM σ σ1
set_option maxRecDepth 20000 in
theorem m_say_1 {X : jX} {σ : jS} {pr : Int} {ln : Nat} {lw : Nat → Int} {bn : Nat → Nat} {cd sz : Nat → Nat → Nat} {ph : Nat → Nat → Int} {mn : Nat} {mg : Nat → Int} {kn : Nat} {kr : Nat → Int} {ks : Nat → Nat} {kt : Nat → Nat → Int} {rd : Nat} {rg : Nat → Int} {th : Int} {a : Int} (hM : MW σ th pr ln lw bn cd sz ph mn mg kn kr ks kt rd rg) (hI : CI pr ln lw bn cd sz ph mn mg kn kr ks kt rd rg) (hi : inI a) (ha : ¬ (0 ≤ a ∧ a ≤ 9999)) : JM X mX7_say rX7_say [.ref 37, vI a] σ (MP 1 (0) σ (fun σ1 => MW σ1 1 pr ln lw bn cd sz ph mn mg kn kr ks kt rd rg)) := by
  refine JM.of (lc := [.ref 37, vI a]) rfl ?_
  obtain ⟨hpr, ⟨hln, hlw⟩, hbk, ⟨hmn, hmg⟩, hki, hrd, hrg⟩ := id hI
  obtain ⟨⟨pa, ps, hO⟩, ⟨ml, h38, hml, hmi⟩, h39, ⟨Kw, h40, hw9, hkw⟩, h41, ⟨Mc, h42, hMc⟩, ⟨Ms, h43, hMs⟩, ⟨Mp, h44, hMp⟩, h45, h46, ⟨lf, h47⟩, ⟨pc, h48⟩⟩ := id hM
  have hkn := hki.1
  refine J.ald_n dX7_say_0 rfl ?_
  refine J.iconst dX7_say_1 ?_
  refine pf_X7_47 rfl dX7_say_2 hO ?_
  refine J.ild_n dX7_say_5 rfl ?_
  refine J.iconst dX7_say_6 ?_
  refine J.sipush dX7_say_7 (by decide) ?_
  refine J.callS (rm' := rX7_isIn) [vI a, vI 0, vI 9999] dX7_say_10 (c_X7_isIn_f hi (by unfold inI; omega) (by unfold inI; omega) (by omega)) st_X7_isIn ml_X7_50 sm_X7_isIn rfl (Nat.le_of_ble_eq_true rfl) (by decide) (by decide) (Nat.le_of_ble_eq_true rfl) (by decide) (by decide) (Or.inl rfl) (fun E9 σ9 hq9 _ => nomatch hq9.1) (fun r9 σ9 hq9 hle9 => ?_)
  obtain ⟨h9, h8⟩ := hq9
  rw [h8]
  clear hle9 h8 σ9
  cases h9
  refine J.if_ne dX7_say_13 (by decide) (tgt := 22) (by unfold inI; omega) (fun hb13 => ?_) (fun hb13 => ?_)
  · first | exact absurd hb13 (by decide) | exact absurd rfl hb13 | omega
  · refine J.ald_n dX7_say_16 rfl ?_
    refine J.iconst dX7_say_17 ?_
    refine J.callV (rm' := rX7_no) [vI 1] dX7_say_18 (c_X7_no (jset_eq _ _ _)) (jset_eq _ _ _) rfl st_X7_no ml_X7_59 im_X7_no se_X7_no rfl (Nat.le_of_ble_eq_true rfl) (by decide) (by decide) (Nat.le_of_ble_eq_true rfl) (by decide) (by decide) (Or.inl rfl) (fun E9 σ9 hq9 _ => nomatch hq9.1) (fun r9 σ9 hq9 hle9 => ?_)
    obtain ⟨h9, h8⟩ := hq9
    cases h9
    subst h8
    clear hle9
    refine J.iret .int dX7_say_21 rfl rfl (by decide) (by decide) ?_
    exact ⟨⟨_, rfl, fun q => absurd q (by decide)⟩, ⟨⟨pa, ps, (jset_eq _ _ _)⟩, ⟨ml, ((jset_ne _ _ (by omega)).trans ((jset_ne _ _ (by omega)).trans h38)), hml, hmi⟩, ((jset_ne _ _ (by omega)).trans ((jset_ne _ _ (by omega)).trans h39)), ⟨Kw, ((jset_ne _ _ (by omega)).trans ((jset_ne _ _ (by omega)).trans h40)), hw9, hkw⟩, ((jset_ne _ _ (by omega)).trans ((jset_ne _ _ (by omega)).trans h41)), ⟨Mc, ((jset_ne _ _ (by omega)).trans ((jset_ne _ _ (by omega)).trans h42)), hMc⟩, ⟨Ms, ((jset_ne _ _ (by omega)).trans ((jset_ne _ _ (by omega)).trans h43)), hMs⟩, ⟨Mp, ((jset_ne _ _ (by omega)).trans ((jset_ne _ _ (by omega)).trans h44)), hMp⟩, ((jset_ne _ _ (by omega)).trans ((jset_ne _ _ (by omega)).trans h45)), ((jset_ne _ _ (by omega)).trans ((jset_ne _ _ (by omega)).trans h46)), ⟨_, ((jset_ne _ _ (by omega)).trans ((jset_ne _ _ (by omega)).trans h47))⟩, ⟨_, ((jset_ne _ _ (by omega)).trans ((jset_ne _ _ (by omega)).trans h48))⟩⟩, rfl, fun j hj => ((jset_ne _ _ (by omega)).trans ((jset_ne _ _ (by omega)).trans (rfl : σ.2 j = σ.2 j)))⟩
set_option maxRecDepth 20000 in
theorem m_say_2 {X : jX} {σ : jS} {pr : Int} {ln : Nat} {lw : Nat → Int} {bn : Nat → Nat} {cd sz : Nat → Nat → Nat} {ph : Nat → Nat → Int} {mn : Nat} {mg : Nat → Int} {kn : Nat} {kr : Nat → Int} {ks : Nat → Nat} {kt : Nat → Nat → Int} {rd : Nat} {rg : Nat → Int} {th : Int} {a : Int} (hM : MW σ th pr ln lw bn cd sz ph mn mg kn kr ks kt rd rg) (hI : CI pr ln lw bn cd sz ph mn mg kn kr ks kt rd rg) (ha : 0 ≤ a ∧ a ≤ 9999) (h : ¬ ln < 40) : JM X mX7_say rX7_say [.ref 37, vI a] σ (MP 2 (0) σ (fun σ1 => MW σ1 2 pr ln lw bn cd sz ph mn mg kn kr ks kt rd rg)) := by
  refine JM.of (lc := [.ref 37, vI a]) rfl ?_
  obtain ⟨hpr, ⟨hln, hlw⟩, hbk, ⟨hmn, hmg⟩, hki, hrd, hrg⟩ := id hI
  obtain ⟨⟨pa, ps, hO⟩, ⟨ml, h38, hml, hmi⟩, h39, ⟨Kw, h40, hw9, hkw⟩, h41, ⟨Mc, h42, hMc⟩, ⟨Ms, h43, hMs⟩, ⟨Mp, h44, hMp⟩, h45, h46, ⟨lf, h47⟩, ⟨pc, h48⟩⟩ := id hM
  have hkn := hki.1
  refine J.ald_n dX7_say_0 rfl ?_
  refine J.iconst dX7_say_1 ?_
  refine pf_X7_47 rfl dX7_say_2 hO ?_
  refine J.ild_n dX7_say_5 rfl ?_
  refine J.iconst dX7_say_6 ?_
  refine J.sipush dX7_say_7 (by decide) ?_
  refine J.callS (rm' := rX7_isIn) [vI a, vI 0, vI 9999] dX7_say_10 (c_X7_isIn_t (by unfold inI; omega) (by unfold inI; omega) (by unfold inI; omega) (by omega)) st_X7_isIn ml_X7_50 sm_X7_isIn rfl (Nat.le_of_ble_eq_true rfl) (by decide) (by decide) (Nat.le_of_ble_eq_true rfl) (by decide) (by decide) (Or.inl rfl) (fun E9 σ9 hq9 _ => nomatch hq9.1) (fun r9 σ9 hq9 hle9 => ?_)
  obtain ⟨h9, h8⟩ := hq9
  rw [h8]
  clear hle9 h8 σ9
  cases h9
  refine J.if_ne dX7_say_13 (by decide) (tgt := 22) (by unfold inI; omega) (fun hb13 => ?_) (fun hb13 => ?_)
  · refine J.ald_n dX7_say_22 rfl ?_
    refine gf_X7_63 rfl dX7_say_23 (jset_eq _ _ _) ?_
    refine J.bipush dX7_say_26 (by decide) ?_
    refine J.icmp_ne dX7_say_28 (by decide) (tgt := 37) (by unfold inI; omega) (by unfold inI; omega) (fun hb28 => ?_) (fun hb28 => ?_)
    · first | omega | exact absurd rfl hb28 | exact absurd hb28 (by decide)
    · refine J.ald_n dX7_say_31 rfl ?_
      refine J.iconst dX7_say_32 ?_
      refine J.callV (rm' := rX7_no) [vI 2] dX7_say_33 (c_X7_no (jset_eq _ _ _)) (jset_eq _ _ _) rfl st_X7_no ml_X7_59 im_X7_no se_X7_no rfl (Nat.le_of_ble_eq_true rfl) (by decide) (by decide) (Nat.le_of_ble_eq_true rfl) (by decide) (by decide) (Or.inl rfl) (fun E9 σ9 hq9 _ => nomatch hq9.1) (fun r9 σ9 hq9 hle9 => ?_)
      obtain ⟨h9, h8⟩ := hq9
      cases h9
      subst h8
      clear hle9
      refine J.iret .int dX7_say_36 rfl rfl (by decide) (by decide) ?_
      exact ⟨⟨_, rfl, fun q => absurd q (by decide)⟩, ⟨⟨pa, ps, (jset_eq _ _ _)⟩, ⟨ml, ((jset_ne _ _ (by omega)).trans ((jset_ne _ _ (by omega)).trans h38)), hml, hmi⟩, ((jset_ne _ _ (by omega)).trans ((jset_ne _ _ (by omega)).trans h39)), ⟨Kw, ((jset_ne _ _ (by omega)).trans ((jset_ne _ _ (by omega)).trans h40)), hw9, hkw⟩, ((jset_ne _ _ (by omega)).trans ((jset_ne _ _ (by omega)).trans h41)), ⟨Mc, ((jset_ne _ _ (by omega)).trans ((jset_ne _ _ (by omega)).trans h42)), hMc⟩, ⟨Ms, ((jset_ne _ _ (by omega)).trans ((jset_ne _ _ (by omega)).trans h43)), hMs⟩, ⟨Mp, ((jset_ne _ _ (by omega)).trans ((jset_ne _ _ (by omega)).trans h44)), hMp⟩, ((jset_ne _ _ (by omega)).trans ((jset_ne _ _ (by omega)).trans h45)), ((jset_ne _ _ (by omega)).trans ((jset_ne _ _ (by omega)).trans h46)), ⟨_, ((jset_ne _ _ (by omega)).trans ((jset_ne _ _ (by omega)).trans h47))⟩, ⟨_, ((jset_ne _ _ (by omega)).trans ((jset_ne _ _ (by omega)).trans h48))⟩⟩, rfl, fun j hj => ((jset_ne _ _ (by omega)).trans ((jset_ne _ _ (by omega)).trans (rfl : σ.2 j = σ.2 j)))⟩
  · first | exact absurd hb13 (by decide) | exact absurd rfl hb13 | omega
set_option maxRecDepth 20000 in
theorem m_say_0 {X : jX} {σ : jS} {pr : Int} {ln : Nat} {lw : Nat → Int} {bn : Nat → Nat} {cd sz : Nat → Nat → Nat} {ph : Nat → Nat → Int} {mn : Nat} {mg : Nat → Int} {kn : Nat} {kr : Nat → Int} {ks : Nat → Nat} {kt : Nat → Nat → Int} {rd : Nat} {rg : Nat → Int} {th : Int} {a : Int} (hM : MW σ th pr ln lw bn cd sz ph mn mg kn kr ks kt rd rg) (hI : CI pr ln lw bn cd sz ph mn mg kn kr ks kt rd rg) (ha : 0 ≤ a ∧ a ≤ 9999) (h : ln < 40) : JM X mX7_say rX7_say [.ref 37, vI a] σ (MP 0 (((ln + 1 : Nat) : Int)) σ (fun σ1 => MW σ1 0 pr (ln + 1) (jup lw ln a) bn cd sz ph mn mg kn kr ks kt rd rg)) := by
  refine JM.of (lc := [.ref 37, vI a]) rfl ?_
  obtain ⟨hpr, ⟨hln, hlw⟩, hbk, ⟨hmn, hmg⟩, hki, hrd, hrg⟩ := id hI
  obtain ⟨⟨pa, ps, hO⟩, ⟨ml, h38, hml, hmi⟩, h39, ⟨Kw, h40, hw9, hkw⟩, h41, ⟨Mc, h42, hMc⟩, ⟨Ms, h43, hMs⟩, ⟨Mp, h44, hMp⟩, h45, h46, ⟨lf, h47⟩, ⟨pc, h48⟩⟩ := id hM
  have hkn := hki.1
  refine J.ald_n dX7_say_0 rfl ?_
  refine J.iconst dX7_say_1 ?_
  refine pf_X7_47 rfl dX7_say_2 hO ?_
  refine J.ild_n dX7_say_5 rfl ?_
  refine J.iconst dX7_say_6 ?_
  refine J.sipush dX7_say_7 (by decide) ?_
  refine J.callS (rm' := rX7_isIn) [vI a, vI 0, vI 9999] dX7_say_10 (c_X7_isIn_t (by unfold inI; omega) (by unfold inI; omega) (by unfold inI; omega) (by omega)) st_X7_isIn ml_X7_50 sm_X7_isIn rfl (Nat.le_of_ble_eq_true rfl) (by decide) (by decide) (Nat.le_of_ble_eq_true rfl) (by decide) (by decide) (Or.inl rfl) (fun E9 σ9 hq9 _ => nomatch hq9.1) (fun r9 σ9 hq9 hle9 => ?_)
  obtain ⟨h9, h8⟩ := hq9
  rw [h8]
  clear hle9 h8 σ9
  cases h9
  refine J.if_ne dX7_say_13 (by decide) (tgt := 22) (by unfold inI; omega) (fun hb13 => ?_) (fun hb13 => ?_)
  · refine J.ald_n dX7_say_22 rfl ?_
    refine gf_X7_63 rfl dX7_say_23 (jset_eq _ _ _) ?_
    refine J.bipush dX7_say_26 (by decide) ?_
    refine J.icmp_ne dX7_say_28 (by decide) (tgt := 37) (by unfold inI; omega) (by unfold inI; omega) (fun hb28 => ?_) (fun hb28 => ?_)
    · refine J.ald_n dX7_say_37 rfl ?_
      refine gf_X7_13 rfl dX7_say_38 (jset_eq _ _ _) ?_
      refine J.ald_n dX7_say_41 rfl ?_
      refine gf_X7_63 rfl dX7_say_42 (jset_eq _ _ _) ?_
      refine J.ild_n dX7_say_45 rfl ?_
      refine J.iast ln dX7_say_46 ((jset_ne _ _ (by omega)).trans h38) (by omega) rfl (by omega) (by omega) ?_
      refine J.ald_n dX7_say_47 rfl ?_
      refine J.dup dX7_say_48 rfl ?_
      refine gf_X7_63 rfl dX7_say_49 ((jset_ne _ _ (by omega)).trans (jset_eq _ _ _)) ?_
      refine J.iconst dX7_say_52 ?_
      refine J.iadd dX7_say_53 ?_
      rw [show (((ln : Nat) : Int) : Int) + 1 = ((ln + 1 : Nat) : Int) from by push_cast; rfl]
      refine pf_X7_63 rfl dX7_say_54 ((jset_ne _ _ (by omega)).trans (jset_eq _ _ _)) ?_
      refine J.ald_n dX7_say_57 rfl ?_
      refine gf_X7_63 rfl dX7_say_58 (jset_eq _ _ _) ?_
      refine J.iret .int dX7_say_61 rfl rfl (by decide) (by decide) ?_
      exact ⟨⟨_, rfl, fun _ => rfl⟩, ⟨⟨pa, ps, (jset_eq _ _ _)⟩, ⟨_, ((jset_ne _ _ (by omega)).trans (jset_eq _ _ _)), fun t ht => by unfold jup; by_cases q : t = ln; rw [if_pos q, if_pos q]; rw [if_neg q, if_neg q]; exact hml t (by omega), fun t ht => by unfold jup; by_cases q : t = ln; rw [if_pos q]; unfold inI; omega; rw [if_neg q]; exact hmi t ht⟩, ((jset_ne _ _ (by omega)).trans ((jset_ne _ _ (by omega)).trans ((jset_ne _ _ (by omega)).trans h39))), ⟨Kw, ((jset_ne _ _ (by omega)).trans ((jset_ne _ _ (by omega)).trans ((jset_ne _ _ (by omega)).trans h40))), hw9, hkw⟩, ((jset_ne _ _ (by omega)).trans ((jset_ne _ _ (by omega)).trans ((jset_ne _ _ (by omega)).trans h41))), ⟨Mc, ((jset_ne _ _ (by omega)).trans ((jset_ne _ _ (by omega)).trans ((jset_ne _ _ (by omega)).trans h42))), hMc⟩, ⟨Ms, ((jset_ne _ _ (by omega)).trans ((jset_ne _ _ (by omega)).trans ((jset_ne _ _ (by omega)).trans h43))), hMs⟩, ⟨Mp, ((jset_ne _ _ (by omega)).trans ((jset_ne _ _ (by omega)).trans ((jset_ne _ _ (by omega)).trans h44))), hMp⟩, ((jset_ne _ _ (by omega)).trans ((jset_ne _ _ (by omega)).trans ((jset_ne _ _ (by omega)).trans h45))), ((jset_ne _ _ (by omega)).trans ((jset_ne _ _ (by omega)).trans ((jset_ne _ _ (by omega)).trans h46))), ⟨_, ((jset_ne _ _ (by omega)).trans ((jset_ne _ _ (by omega)).trans ((jset_ne _ _ (by omega)).trans h47)))⟩, ⟨_, ((jset_ne _ _ (by omega)).trans ((jset_ne _ _ (by omega)).trans ((jset_ne _ _ (by omega)).trans h48)))⟩⟩, rfl, fun j hj => ((jset_ne _ _ (by omega)).trans ((jset_ne _ _ (by omega)).trans ((jset_ne _ _ (by omega)).trans (rfl : σ.2 j = σ.2 j))))⟩
    · first | omega | exact absurd rfl hb28 | exact absurd hb28 (by decide)
  · first | exact absurd hb13 (by decide) | exact absurd rfl hb13 | omega
set_option maxRecDepth 20000 in
theorem m_empty {X : jX} {σ : jS} {pr : Int} {ln : Nat} {lw : Nat → Int} {bn : Nat → Nat} {cd sz : Nat → Nat → Nat} {ph : Nat → Nat → Int} {mn : Nat} {mg : Nat → Int} {kn : Nat} {kr : Nat → Int} {ks : Nat → Nat} {kt : Nat → Nat → Int} {rd : Nat} {rg : Nat → Int} {th : Int}  (hM : MW σ th pr ln lw bn cd sz ph mn mg kn kr ks kt rd rg) (hI : CI pr ln lw bn cd sz ph mn mg kn kr ks kt rd rg)  : JM X mX7_empty rX7_empty [.ref 37] σ (MP 0 (((ln : Nat) : Int)) σ (fun σ1 => MW σ1 0 pr 0 lw bn cd sz ph mn mg kn kr ks kt rd rg)) := by
  refine JM.of (lc := [.ref 37, .null]) rfl ?_
  obtain ⟨hpr, ⟨hln, hlw⟩, hbk, ⟨hmn, hmg⟩, hki, hrd, hrg⟩ := id hI
  obtain ⟨⟨pa, ps, hO⟩, ⟨ml, h38, hml, hmi⟩, h39, ⟨Kw, h40, hw9, hkw⟩, h41, ⟨Mc, h42, hMc⟩, ⟨Ms, h43, hMs⟩, ⟨Mp, h44, hMp⟩, h45, h46, ⟨lf, h47⟩, ⟨pc, h48⟩⟩ := id hM
  have hkn := hki.1
  refine J.ald_n dX7_empty_0 rfl ?_
  refine J.iconst dX7_empty_1 ?_
  refine pf_X7_47 rfl dX7_empty_2 hO ?_
  refine J.ald_n dX7_empty_5 rfl ?_
  refine gf_X7_63 rfl dX7_empty_6 (jset_eq _ _ _) ?_
  refine J.ist_n dX7_empty_9 (by decide) (jnc_of rfl rfl) ?_
  refine J.ald_n dX7_empty_10 rfl ?_
  refine J.iconst dX7_empty_11 ?_
  refine pf_X7_63 rfl dX7_empty_12 (jset_eq _ _ _) ?_
  refine J.ild_n dX7_empty_15 rfl ?_
  refine J.iret .int dX7_empty_16 rfl rfl (by decide) (by decide) ?_
  exact ⟨⟨_, rfl, fun _ => rfl⟩, ⟨⟨pa, ps, (jset_eq _ _ _)⟩, ⟨ml, ((jset_ne _ _ (by omega)).trans ((jset_ne _ _ (by omega)).trans h38)), fun t ht => absurd ht (by omega), hmi⟩, ((jset_ne _ _ (by omega)).trans ((jset_ne _ _ (by omega)).trans h39)), ⟨Kw, ((jset_ne _ _ (by omega)).trans ((jset_ne _ _ (by omega)).trans h40)), hw9, hkw⟩, ((jset_ne _ _ (by omega)).trans ((jset_ne _ _ (by omega)).trans h41)), ⟨Mc, ((jset_ne _ _ (by omega)).trans ((jset_ne _ _ (by omega)).trans h42)), hMc⟩, ⟨Ms, ((jset_ne _ _ (by omega)).trans ((jset_ne _ _ (by omega)).trans h43)), hMs⟩, ⟨Mp, ((jset_ne _ _ (by omega)).trans ((jset_ne _ _ (by omega)).trans h44)), hMp⟩, ((jset_ne _ _ (by omega)).trans ((jset_ne _ _ (by omega)).trans h45)), ((jset_ne _ _ (by omega)).trans ((jset_ne _ _ (by omega)).trans h46)), ⟨_, ((jset_ne _ _ (by omega)).trans ((jset_ne _ _ (by omega)).trans h47))⟩, ⟨_, ((jset_ne _ _ (by omega)).trans ((jset_ne _ _ (by omega)).trans h48))⟩⟩, rfl, fun j hj => ((jset_ne _ _ (by omega)).trans ((jset_ne _ _ (by omega)).trans (rfl : σ.2 j = σ.2 j)))⟩
set_option maxRecDepth 20000 in
theorem m_words {X : jX} {σ : jS} {pr : Int} {ln : Nat} {lw : Nat → Int} {bn : Nat → Nat} {cd sz : Nat → Nat → Nat} {ph : Nat → Nat → Int} {mn : Nat} {mg : Nat → Int} {kn : Nat} {kr : Nat → Int} {ks : Nat → Nat} {kt : Nat → Nat → Int} {rd : Nat} {rg : Nat → Int} {th : Int}  (hM : MW σ th pr ln lw bn cd sz ph mn mg kn kr ks kt rd rg) (hI : CI pr ln lw bn cd sz ph mn mg kn kr ks kt rd rg)  : JM X mX7_words rX7_words [.ref 37] σ (MP 0 (((ln : Nat) : Int)) σ (fun σ1 => MW σ1 0 pr ln lw bn cd sz ph mn mg kn kr ks kt rd rg)) := by
  refine JM.of (lc := [.ref 37]) rfl ?_
  obtain ⟨hpr, ⟨hln, hlw⟩, hbk, ⟨hmn, hmg⟩, hki, hrd, hrg⟩ := id hI
  obtain ⟨⟨pa, ps, hO⟩, ⟨ml, h38, hml, hmi⟩, h39, ⟨Kw, h40, hw9, hkw⟩, h41, ⟨Mc, h42, hMc⟩, ⟨Ms, h43, hMs⟩, ⟨Mp, h44, hMp⟩, h45, h46, ⟨lf, h47⟩, ⟨pc, h48⟩⟩ := id hM
  have hkn := hki.1
  refine J.ald_n dX7_words_0 rfl ?_
  refine J.iconst dX7_words_1 ?_
  refine pf_X7_47 rfl dX7_words_2 hO ?_
  refine J.ald_n dX7_words_5 rfl ?_
  refine gf_X7_63 rfl dX7_words_6 (jset_eq _ _ _) ?_
  refine J.iret .int dX7_words_9 rfl rfl (by decide) (by decide) ?_
  exact ⟨⟨_, rfl, fun _ => rfl⟩, ⟨⟨pa, ps, (jset_eq _ _ _)⟩, ⟨ml, ((jset_ne _ _ (by omega)).trans h38), hml, hmi⟩, ((jset_ne _ _ (by omega)).trans h39), ⟨Kw, ((jset_ne _ _ (by omega)).trans h40), hw9, hkw⟩, ((jset_ne _ _ (by omega)).trans h41), ⟨Mc, ((jset_ne _ _ (by omega)).trans h42), hMc⟩, ⟨Ms, ((jset_ne _ _ (by omega)).trans h43), hMs⟩, ⟨Mp, ((jset_ne _ _ (by omega)).trans h44), hMp⟩, ((jset_ne _ _ (by omega)).trans h45), ((jset_ne _ _ (by omega)).trans h46), ⟨_, ((jset_ne _ _ (by omega)).trans h47)⟩, ⟨_, ((jset_ne _ _ (by omega)).trans h48)⟩⟩, rfl, fun j hj => ((jset_ne _ _ (by omega)).trans (rfl : σ.2 j = σ.2 j))⟩
set_option maxRecDepth 20000 in
theorem m_wordAt_1 {X : jX} {σ : jS} {pr : Int} {ln : Nat} {lw : Nat → Int} {bn : Nat → Nat} {cd sz : Nat → Nat → Nat} {ph : Nat → Nat → Int} {mn : Nat} {mg : Nat → Int} {kn : Nat} {kr : Nat → Int} {ks : Nat → Nat} {kt : Nat → Nat → Int} {rd : Nat} {rg : Nat → Int} {th : Int} {a : Int} (hM : MW σ th pr ln lw bn cd sz ph mn mg kn kr ks kt rd rg) (hI : CI pr ln lw bn cd sz ph mn mg kn kr ks kt rd rg) (hi : inI a) (ha : ¬ (0 ≤ a ∧ a < ((ln : Nat) : Int))) : JM X mX7_wordAt rX7_wordAt [.ref 37, vI a] σ (MP 1 (0) σ (fun σ1 => MW σ1 1 pr ln lw bn cd sz ph mn mg kn kr ks kt rd rg)) := by
  refine JM.of (lc := [.ref 37, vI a]) rfl ?_
  obtain ⟨hpr, ⟨hln, hlw⟩, hbk, ⟨hmn, hmg⟩, hki, hrd, hrg⟩ := id hI
  obtain ⟨⟨pa, ps, hO⟩, ⟨ml, h38, hml, hmi⟩, h39, ⟨Kw, h40, hw9, hkw⟩, h41, ⟨Mc, h42, hMc⟩, ⟨Ms, h43, hMs⟩, ⟨Mp, h44, hMp⟩, h45, h46, ⟨lf, h47⟩, ⟨pc, h48⟩⟩ := id hM
  have hkn := hki.1
  refine J.ald_n dX7_wordAt_0 rfl ?_
  refine J.iconst dX7_wordAt_1 ?_
  refine pf_X7_47 rfl dX7_wordAt_2 hO ?_
  refine J.ild_n dX7_wordAt_5 rfl ?_
  refine J.iconst dX7_wordAt_6 ?_
  refine J.ald_n dX7_wordAt_7 rfl ?_
  refine gf_X7_63 rfl dX7_wordAt_8 (jset_eq _ _ _) ?_
  refine J.iconst dX7_wordAt_11 ?_
  refine J.isub dX7_wordAt_12 ?_
  refine J.callS (rm' := rX7_isIn) [vI a, vI 0, vI (((ln : Nat) : Int) - 1)] dX7_wordAt_13 (c_X7_isIn_f hi (by unfold inI; omega) (by unfold inI; omega) (by omega)) st_X7_isIn ml_X7_50 sm_X7_isIn rfl (Nat.le_of_ble_eq_true rfl) (by decide) (by decide) (Nat.le_of_ble_eq_true rfl) (by decide) (by decide) (Or.inl rfl) (fun E9 σ9 hq9 _ => nomatch hq9.1) (fun r9 σ9 hq9 hle9 => ?_)
  obtain ⟨h9, h8⟩ := hq9
  rw [h8]
  clear hle9 h8 σ9
  cases h9
  refine J.if_eq dX7_wordAt_16 (by decide) (tgt := 28) (by unfold inI; omega) (fun hb16 => ?_) (fun hb16 => ?_)
  · refine J.ald_n dX7_wordAt_28 rfl ?_
    refine J.iconst dX7_wordAt_29 ?_
    refine J.callV (rm' := rX7_no) [vI 1] dX7_wordAt_30 (c_X7_no (jset_eq _ _ _)) (jset_eq _ _ _) rfl st_X7_no ml_X7_59 im_X7_no se_X7_no rfl (Nat.le_of_ble_eq_true rfl) (by decide) (by decide) (Nat.le_of_ble_eq_true rfl) (by decide) (by decide) (Or.inl rfl) (fun E9 σ9 hq9 _ => nomatch hq9.1) (fun r9 σ9 hq9 hle9 => ?_)
    obtain ⟨h9, h8⟩ := hq9
    cases h9
    subst h8
    clear hle9
    refine J.iret .int dX7_wordAt_33 rfl rfl (by decide) (by decide) ?_
    exact ⟨⟨_, rfl, fun q => absurd q (by decide)⟩, ⟨⟨pa, ps, (jset_eq _ _ _)⟩, ⟨ml, ((jset_ne _ _ (by omega)).trans ((jset_ne _ _ (by omega)).trans h38)), hml, hmi⟩, ((jset_ne _ _ (by omega)).trans ((jset_ne _ _ (by omega)).trans h39)), ⟨Kw, ((jset_ne _ _ (by omega)).trans ((jset_ne _ _ (by omega)).trans h40)), hw9, hkw⟩, ((jset_ne _ _ (by omega)).trans ((jset_ne _ _ (by omega)).trans h41)), ⟨Mc, ((jset_ne _ _ (by omega)).trans ((jset_ne _ _ (by omega)).trans h42)), hMc⟩, ⟨Ms, ((jset_ne _ _ (by omega)).trans ((jset_ne _ _ (by omega)).trans h43)), hMs⟩, ⟨Mp, ((jset_ne _ _ (by omega)).trans ((jset_ne _ _ (by omega)).trans h44)), hMp⟩, ((jset_ne _ _ (by omega)).trans ((jset_ne _ _ (by omega)).trans h45)), ((jset_ne _ _ (by omega)).trans ((jset_ne _ _ (by omega)).trans h46)), ⟨_, ((jset_ne _ _ (by omega)).trans ((jset_ne _ _ (by omega)).trans h47))⟩, ⟨_, ((jset_ne _ _ (by omega)).trans ((jset_ne _ _ (by omega)).trans h48))⟩⟩, rfl, fun j hj => ((jset_ne _ _ (by omega)).trans ((jset_ne _ _ (by omega)).trans (rfl : σ.2 j = σ.2 j)))⟩
  · first | exact absurd hb16 (by decide) | exact absurd rfl hb16 | omega
set_option maxRecDepth 20000 in
theorem m_wordAt_0 {X : jX} {σ : jS} {pr : Int} {ln : Nat} {lw : Nat → Int} {bn : Nat → Nat} {cd sz : Nat → Nat → Nat} {ph : Nat → Nat → Int} {mn : Nat} {mg : Nat → Int} {kn : Nat} {kr : Nat → Int} {ks : Nat → Nat} {kt : Nat → Nat → Int} {rd : Nat} {rg : Nat → Int} {th : Int} {p : Nat} (hM : MW σ th pr ln lw bn cd sz ph mn mg kn kr ks kt rd rg) (hI : CI pr ln lw bn cd sz ph mn mg kn kr ks kt rd rg) (hp : p < ln) : JM X mX7_wordAt rX7_wordAt [.ref 37, vI ((p : Nat) : Int)] σ (MP 0 (lw p) σ (fun σ1 => MW σ1 0 pr ln lw bn cd sz ph mn mg kn kr ks kt rd rg)) := by
  refine JM.of (lc := [.ref 37, vI ((p : Nat) : Int)]) rfl ?_
  obtain ⟨hpr, ⟨hln, hlw⟩, hbk, ⟨hmn, hmg⟩, hki, hrd, hrg⟩ := id hI
  obtain ⟨⟨pa, ps, hO⟩, ⟨ml, h38, hml, hmi⟩, h39, ⟨Kw, h40, hw9, hkw⟩, h41, ⟨Mc, h42, hMc⟩, ⟨Ms, h43, hMs⟩, ⟨Mp, h44, hMp⟩, h45, h46, ⟨lf, h47⟩, ⟨pc, h48⟩⟩ := id hM
  have hkn := hki.1
  refine J.ald_n dX7_wordAt_0 rfl ?_
  refine J.iconst dX7_wordAt_1 ?_
  refine pf_X7_47 rfl dX7_wordAt_2 hO ?_
  refine J.ild_n dX7_wordAt_5 rfl ?_
  refine J.iconst dX7_wordAt_6 ?_
  refine J.ald_n dX7_wordAt_7 rfl ?_
  refine gf_X7_63 rfl dX7_wordAt_8 (jset_eq _ _ _) ?_
  refine J.iconst dX7_wordAt_11 ?_
  refine J.isub dX7_wordAt_12 ?_
  refine J.callS (rm' := rX7_isIn) [vI ((p : Nat) : Int), vI 0, vI (((ln : Nat) : Int) - 1)] dX7_wordAt_13 (c_X7_isIn_t (by unfold inI; omega) (by unfold inI; omega) (by unfold inI; omega) (by omega)) st_X7_isIn ml_X7_50 sm_X7_isIn rfl (Nat.le_of_ble_eq_true rfl) (by decide) (by decide) (Nat.le_of_ble_eq_true rfl) (by decide) (by decide) (Or.inl rfl) (fun E9 σ9 hq9 _ => nomatch hq9.1) (fun r9 σ9 hq9 hle9 => ?_)
  obtain ⟨h9, h8⟩ := hq9
  rw [h8]
  clear hle9 h8 σ9
  cases h9
  refine J.if_eq dX7_wordAt_16 (by decide) (tgt := 28) (by unfold inI; omega) (fun hb16 => ?_) (fun hb16 => ?_)
  · first | exact absurd hb16 (by decide) | exact absurd rfl hb16 | omega
  · refine J.ald_n dX7_wordAt_19 rfl ?_
    refine gf_X7_13 rfl dX7_wordAt_20 (jset_eq _ _ _) ?_
    refine J.ild_n dX7_wordAt_23 rfl ?_
    refine J.iald p dX7_wordAt_24 ((jset_ne _ _ (by omega)).trans h38) rfl (by omega) (by omega) ?_
    rw [show ml p = (lw p) from hml p hp]
    refine J.goto dX7_wordAt_25 (by decide) (tgt := 33) ?_
    refine J.iret .int dX7_wordAt_33 rfl rfl (by decide) (by decide) ?_
    exact ⟨⟨_, rfl, fun _ => rfl⟩, ⟨⟨pa, ps, (jset_eq _ _ _)⟩, ⟨ml, ((jset_ne _ _ (by omega)).trans h38), hml, hmi⟩, ((jset_ne _ _ (by omega)).trans h39), ⟨Kw, ((jset_ne _ _ (by omega)).trans h40), hw9, hkw⟩, ((jset_ne _ _ (by omega)).trans h41), ⟨Mc, ((jset_ne _ _ (by omega)).trans h42), hMc⟩, ⟨Ms, ((jset_ne _ _ (by omega)).trans h43), hMs⟩, ⟨Mp, ((jset_ne _ _ (by omega)).trans h44), hMp⟩, ((jset_ne _ _ (by omega)).trans h45), ((jset_ne _ _ (by omega)).trans h46), ⟨_, ((jset_ne _ _ (by omega)).trans h47)⟩, ⟨_, ((jset_ne _ _ (by omega)).trans h48)⟩⟩, rfl, fun j hj => ((jset_ne _ _ (by omega)).trans (rfl : σ.2 j = σ.2 j))⟩
set_option maxRecDepth 20000 in
theorem m_keep_1 {X : jX} {σ : jS} {pr : Int} {ln : Nat} {lw : Nat → Int} {bn : Nat → Nat} {cd sz : Nat → Nat → Nat} {ph : Nat → Nat → Int} {mn : Nat} {mg : Nat → Int} {kn : Nat} {kr : Nat → Int} {ks : Nat → Nat} {kt : Nat → Nat → Int} {rd : Nat} {rg : Nat → Int} {th : Int}  (hM : MW σ th pr ln lw bn cd sz ph mn mg kn kr ks kt rd rg) (hI : CI pr ln lw bn cd sz ph mn mg kn kr ks kt rd rg) (h : ¬ (0 < ln ∧ kn < 12)) : JM X mX7_keep rX7_keep [.ref 37] σ (MP 1 (0) σ (fun σ1 => MW σ1 1 pr ln lw bn cd sz ph mn mg kn kr ks kt rd rg)) := by
  refine JM.of (lc := [.ref 37]) rfl ?_
  obtain ⟨hpr, ⟨hln, hlw⟩, hbk, ⟨hmn, hmg⟩, hki, hrd, hrg⟩ := id hI
  obtain ⟨⟨pa, ps, hO⟩, ⟨ml, h38, hml, hmi⟩, h39, ⟨Kw, h40, hw9, hkw⟩, h41, ⟨Mc, h42, hMc⟩, ⟨Ms, h43, hMs⟩, ⟨Mp, h44, hMp⟩, h45, h46, ⟨lf, h47⟩, ⟨pc, h48⟩⟩ := id hM
  have hkn := hki.1
  refine J.ald_n dX7_keep_0 rfl ?_
  refine J.iconst dX7_keep_1 ?_
  refine pf_X7_47 rfl dX7_keep_2 hO ?_
  refine J.ald_n dX7_keep_5 rfl ?_
  refine gf_X7_63 rfl dX7_keep_6 (jset_eq _ _ _) ?_
  refine J.if_eq dX7_keep_9 (by decide) (tgt := 21) (by unfold inI; omega) (fun hb9 => ?_) (fun hb9 => ?_)
  · refine J.ald_n dX7_keep_21 rfl ?_
    refine J.iconst dX7_keep_22 ?_
    refine J.callV (rm' := rX7_no) [vI 1] dX7_keep_23 (c_X7_no (jset_eq _ _ _)) (jset_eq _ _ _) rfl st_X7_no ml_X7_59 im_X7_no se_X7_no rfl (Nat.le_of_ble_eq_true rfl) (by decide) (by decide) (Nat.le_of_ble_eq_true rfl) (by decide) (by decide) (Or.inl rfl) (fun E9 σ9 hq9 _ => nomatch hq9.1) (fun r9 σ9 hq9 hle9 => ?_)
    obtain ⟨h9, h8⟩ := hq9
    cases h9
    subst h8
    clear hle9
    refine J.iret .int dX7_keep_26 rfl rfl (by decide) (by decide) ?_
    exact ⟨⟨_, rfl, fun q => absurd q (by decide)⟩, ⟨⟨pa, ps, (jset_eq _ _ _)⟩, ⟨ml, ((jset_ne _ _ (by omega)).trans ((jset_ne _ _ (by omega)).trans h38)), hml, hmi⟩, ((jset_ne _ _ (by omega)).trans ((jset_ne _ _ (by omega)).trans h39)), ⟨Kw, ((jset_ne _ _ (by omega)).trans ((jset_ne _ _ (by omega)).trans h40)), hw9, hkw⟩, ((jset_ne _ _ (by omega)).trans ((jset_ne _ _ (by omega)).trans h41)), ⟨Mc, ((jset_ne _ _ (by omega)).trans ((jset_ne _ _ (by omega)).trans h42)), hMc⟩, ⟨Ms, ((jset_ne _ _ (by omega)).trans ((jset_ne _ _ (by omega)).trans h43)), hMs⟩, ⟨Mp, ((jset_ne _ _ (by omega)).trans ((jset_ne _ _ (by omega)).trans h44)), hMp⟩, ((jset_ne _ _ (by omega)).trans ((jset_ne _ _ (by omega)).trans h45)), ((jset_ne _ _ (by omega)).trans ((jset_ne _ _ (by omega)).trans h46)), ⟨_, ((jset_ne _ _ (by omega)).trans ((jset_ne _ _ (by omega)).trans h47))⟩, ⟨_, ((jset_ne _ _ (by omega)).trans ((jset_ne _ _ (by omega)).trans h48))⟩⟩, rfl, fun j hj => ((jset_ne _ _ (by omega)).trans ((jset_ne _ _ (by omega)).trans (rfl : σ.2 j = σ.2 j)))⟩
  · refine J.ald_n dX7_keep_12 rfl ?_
    refine gf_X7_66 rfl dX7_keep_13 (jset_eq _ _ _) ?_
    refine J.bipush dX7_keep_16 (by decide) ?_
    refine J.icmp_ne dX7_keep_18 (by decide) (tgt := 27) (by unfold inI; omega) (by unfold inI; omega) (fun hb18 => ?_) (fun hb18 => ?_)
    · first | omega | exact absurd rfl hb18 | exact absurd hb18 (by decide)
    · refine J.ald_n dX7_keep_21 rfl ?_
      refine J.iconst dX7_keep_22 ?_
      refine J.callV (rm' := rX7_no) [vI 1] dX7_keep_23 (c_X7_no (jset_eq _ _ _)) (jset_eq _ _ _) rfl st_X7_no ml_X7_59 im_X7_no se_X7_no rfl (Nat.le_of_ble_eq_true rfl) (by decide) (by decide) (Nat.le_of_ble_eq_true rfl) (by decide) (by decide) (Or.inl rfl) (fun E9 σ9 hq9 _ => nomatch hq9.1) (fun r9 σ9 hq9 hle9 => ?_)
      obtain ⟨h9, h8⟩ := hq9
      cases h9
      subst h8
      clear hle9
      refine J.iret .int dX7_keep_26 rfl rfl (by decide) (by decide) ?_
      exact ⟨⟨_, rfl, fun q => absurd q (by decide)⟩, ⟨⟨pa, ps, (jset_eq _ _ _)⟩, ⟨ml, ((jset_ne _ _ (by omega)).trans ((jset_ne _ _ (by omega)).trans h38)), hml, hmi⟩, ((jset_ne _ _ (by omega)).trans ((jset_ne _ _ (by omega)).trans h39)), ⟨Kw, ((jset_ne _ _ (by omega)).trans ((jset_ne _ _ (by omega)).trans h40)), hw9, hkw⟩, ((jset_ne _ _ (by omega)).trans ((jset_ne _ _ (by omega)).trans h41)), ⟨Mc, ((jset_ne _ _ (by omega)).trans ((jset_ne _ _ (by omega)).trans h42)), hMc⟩, ⟨Ms, ((jset_ne _ _ (by omega)).trans ((jset_ne _ _ (by omega)).trans h43)), hMs⟩, ⟨Mp, ((jset_ne _ _ (by omega)).trans ((jset_ne _ _ (by omega)).trans h44)), hMp⟩, ((jset_ne _ _ (by omega)).trans ((jset_ne _ _ (by omega)).trans h45)), ((jset_ne _ _ (by omega)).trans ((jset_ne _ _ (by omega)).trans h46)), ⟨_, ((jset_ne _ _ (by omega)).trans ((jset_ne _ _ (by omega)).trans h47))⟩, ⟨_, ((jset_ne _ _ (by omega)).trans ((jset_ne _ _ (by omega)).trans h48))⟩⟩, rfl, fun j hj => ((jset_ne _ _ (by omega)).trans ((jset_ne _ _ (by omega)).trans (rfl : σ.2 j = σ.2 j)))⟩
set_option maxRecDepth 20000 in
theorem m_keep_0 {X : jX} {σ : jS} {pr : Int} {ln : Nat} {lw : Nat → Int} {bn : Nat → Nat} {cd sz : Nat → Nat → Nat} {ph : Nat → Nat → Int} {mn : Nat} {mg : Nat → Int} {kn : Nat} {kr : Nat → Int} {ks : Nat → Nat} {kt : Nat → Nat → Int} {rd : Nat} {rg : Nat → Int} {th : Int}  (hM : MW σ th pr ln lw bn cd sz ph mn mg kn kr ks kt rd rg) (hI : CI pr ln lw bn cd sz ph mn mg kn kr ks kt rd rg) (h : 0 < ln ∧ kn < 12) : JM X mX7_keep rX7_keep [.ref 37] σ (MP 0 (((kn + 1 : Nat) : Int)) σ (fun σ1 => MW σ1 0 pr 0 lw bn cd sz ph mn mg (kn + 1) (jcp lw kr 0 (kn * 41) ln) (jup ks kn ln) (fun s => cpU (jcp lw kr 0 (kn * 41) ln) (s + 2) (kn * 41 + ln) ln (kn * 41) (kt s) (fun _ => 0)) rd rg)) := by
  refine JM.of (lc := [.ref 37]) rfl ?_
  obtain ⟨hpr, ⟨hln, hlw⟩, hbk, ⟨hmn, hmg⟩, hki, hrd, hrg⟩ := id hI
  obtain ⟨⟨pa, ps, hO⟩, ⟨ml, h38, hml, hmi⟩, h39, ⟨Kw, h40, hw9, hkw⟩, h41, ⟨Mc, h42, hMc⟩, ⟨Ms, h43, hMs⟩, ⟨Mp, h44, hMp⟩, h45, h46, ⟨lf, h47⟩, ⟨pc, h48⟩⟩ := id hM
  have hkn := hki.1
  refine J.ald_n dX7_keep_0 rfl ?_
  refine J.iconst dX7_keep_1 ?_
  refine pf_X7_47 rfl dX7_keep_2 hO ?_
  refine J.ald_n dX7_keep_5 rfl ?_
  refine gf_X7_63 rfl dX7_keep_6 (jset_eq _ _ _) ?_
  refine J.if_eq dX7_keep_9 (by decide) (tgt := 21) (by unfold inI; omega) (fun hb9 => ?_) (fun hb9 => ?_)
  · first | omega | exact absurd rfl hb9 | exact absurd hb9 (by decide)
  · refine J.ald_n dX7_keep_12 rfl ?_
    refine gf_X7_66 rfl dX7_keep_13 (jset_eq _ _ _) ?_
    refine J.bipush dX7_keep_16 (by decide) ?_
    refine J.icmp_ne dX7_keep_18 (by decide) (tgt := 27) (by unfold inI; omega) (by unfold inI; omega) (fun hb18 => ?_) (fun hb18 => ?_)
    · refine J.ald_n dX7_keep_27 rfl ?_
      refine gf_X7_13 rfl dX7_keep_28 (jset_eq _ _ _) ?_
      refine J.iconst dX7_keep_31 ?_
      refine J.ald_n dX7_keep_32 rfl ?_
      refine gf_X7_20 rfl dX7_keep_33 (jset_eq _ _ _) ?_
      refine J.bipush dX7_keep_36 (by decide) ?_
      refine J.ald_n dX7_keep_38 rfl ?_
      refine gf_X7_66 rfl dX7_keep_39 (jset_eq _ _ _) ?_
      refine J.imul dX7_keep_42 ?_
      rw [show (40 : Int) * ((kn : Nat) : Int) = ((40 * kn : Nat) : Int) from by push_cast; rfl]
      refine J.ald_n dX7_keep_43 rfl ?_
      refine gf_X7_63 rfl dX7_keep_44 (jset_eq _ _ _) ?_
      refine J.acopy 0 (40 * kn) ln dX7_keep_47 ml_X7_69 na_acopy sm_acopy ini_java_lang_System ((jset_ne _ _ (by omega)).trans h38) ((jset_ne _ _ (by omega)).trans h40) (by omega) (by omega) rfl rfl rfl (by omega) (by omega) (by omega) (by omega) (by decide) (Nat.le_of_ble_eq_true rfl) ?_
      refine J.ald_n dX7_keep_50 rfl ?_
      refine gf_X7_17 rfl dX7_keep_51 ((jset_ne _ _ (by omega)).trans (jset_eq _ _ _)) ?_
      refine J.ald_n dX7_keep_54 rfl ?_
      refine gf_X7_66 rfl dX7_keep_55 ((jset_ne _ _ (by omega)).trans (jset_eq _ _ _)) ?_
      refine J.ald_n dX7_keep_58 rfl ?_
      refine gf_X7_63 rfl dX7_keep_59 ((jset_ne _ _ (by omega)).trans (jset_eq _ _ _)) ?_
      refine J.iast kn dX7_keep_62 ((jset_ne _ _ (by omega)).trans ((jset_ne _ _ (by omega)).trans h39)) (by omega) rfl (by omega) (by omega) ?_
      refine J.ald_n dX7_keep_63 rfl ?_
      refine J.dup dX7_keep_64 rfl ?_
      refine gf_X7_66 rfl dX7_keep_65 ((jset_ne _ _ (by omega)).trans ((jset_ne _ _ (by omega)).trans (jset_eq _ _ _))) ?_
      refine J.iconst dX7_keep_68 ?_
      refine J.iadd dX7_keep_69 ?_
      rw [show (((kn : Nat) : Int) : Int) + 1 = ((kn + 1 : Nat) : Int) from by push_cast; rfl]
      refine pf_X7_66 rfl dX7_keep_70 ((jset_ne _ _ (by omega)).trans ((jset_ne _ _ (by omega)).trans (jset_eq _ _ _))) ?_
      refine J.ald_n dX7_keep_73 rfl ?_
      refine J.iconst dX7_keep_74 ?_
      refine pf_X7_63 rfl dX7_keep_75 (jset_eq _ _ _) ?_
      refine J.ald_n dX7_keep_78 rfl ?_
      refine gf_X7_66 rfl dX7_keep_79 (jset_eq _ _ _) ?_
      refine J.iret .int dX7_keep_82 rfl rfl (by decide) (by decide) ?_
      have hwN : ∀ k i, k < kn + 1 → i < jup ks kn ln k → jcp ml Kw 0 (40 * kn) ln (40 * k + i) = jcp lw kr 0 (kn * 41) ln (k * 41 + i) := fun k i hk hi => by
        unfold jcp
        by_cases q : k = kn
        · subst q; rw [jup_eq] at hi; rw [if_pos (by omega), if_pos (by omega), show 0 + (40 * k + i - 40 * k) = i by omega, show 0 + (k * 41 + i - k * 41) = i by omega]; exact hml i hi
        · rw [jup_ne _ _ q] at hi
          have := hki.2.1 k (by omega)
          rw [if_neg (by omega), if_neg (by omega)]; exact hw9 k i (by omega) hi
      have hkN : ∀ t, t < 480 → inI (jcp ml Kw 0 (40 * kn) ln t) := fun t ht => by
        unfold jcp
        by_cases q : 40 * kn ≤ t ∧ t < 40 * kn + ln
        · rw [if_pos q, hml _ (by omega)]; exact inI_w (hlw _)
        · rw [if_neg q]; exact hkw t ht
      exact ⟨⟨_, rfl, fun _ => rfl⟩, ⟨⟨pa, ps, (jset_eq _ _ _)⟩, ⟨ml, ((jset_ne _ _ (by omega)).trans ((jset_ne _ _ (by omega)).trans ((jset_ne _ _ (by omega)).trans ((jset_ne _ _ (by omega)).trans ((jset_ne _ _ (by omega)).trans h38))))), fun t ht => absurd ht (by omega), hmi⟩, (by rw [← jup_cast]; exact ((jset_ne _ _ (by omega)).trans ((jset_ne _ _ (by omega)).trans (jset_eq _ _ _)))), ⟨_, ((jset_ne _ _ (by omega)).trans ((jset_ne _ _ (by omega)).trans ((jset_ne _ _ (by omega)).trans (jset_eq _ _ _)))), hwN, hkN⟩, ((jset_ne _ _ (by omega)).trans ((jset_ne _ _ (by omega)).trans ((jset_ne _ _ (by omega)).trans ((jset_ne _ _ (by omega)).trans ((jset_ne _ _ (by omega)).trans h41))))), ⟨Mc, ((jset_ne _ _ (by omega)).trans ((jset_ne _ _ (by omega)).trans ((jset_ne _ _ (by omega)).trans ((jset_ne _ _ (by omega)).trans ((jset_ne _ _ (by omega)).trans h42))))), hMc⟩, ⟨Ms, ((jset_ne _ _ (by omega)).trans ((jset_ne _ _ (by omega)).trans ((jset_ne _ _ (by omega)).trans ((jset_ne _ _ (by omega)).trans ((jset_ne _ _ (by omega)).trans h43))))), hMs⟩, ⟨Mp, ((jset_ne _ _ (by omega)).trans ((jset_ne _ _ (by omega)).trans ((jset_ne _ _ (by omega)).trans ((jset_ne _ _ (by omega)).trans ((jset_ne _ _ (by omega)).trans h44))))), hMp⟩, ((jset_ne _ _ (by omega)).trans ((jset_ne _ _ (by omega)).trans ((jset_ne _ _ (by omega)).trans ((jset_ne _ _ (by omega)).trans ((jset_ne _ _ (by omega)).trans h45))))), ((jset_ne _ _ (by omega)).trans ((jset_ne _ _ (by omega)).trans ((jset_ne _ _ (by omega)).trans ((jset_ne _ _ (by omega)).trans ((jset_ne _ _ (by omega)).trans h46))))), ⟨_, ((jset_ne _ _ (by omega)).trans ((jset_ne _ _ (by omega)).trans ((jset_ne _ _ (by omega)).trans ((jset_ne _ _ (by omega)).trans ((jset_ne _ _ (by omega)).trans h47)))))⟩, ⟨_, ((jset_ne _ _ (by omega)).trans ((jset_ne _ _ (by omega)).trans ((jset_ne _ _ (by omega)).trans ((jset_ne _ _ (by omega)).trans ((jset_ne _ _ (by omega)).trans h48)))))⟩⟩, rfl, fun j hj => ((jset_ne _ _ (by omega)).trans ((jset_ne _ _ (by omega)).trans ((jset_ne _ _ (by omega)).trans ((jset_ne _ _ (by omega)).trans ((jset_ne _ _ (by omega)).trans (rfl : σ.2 j = σ.2 j))))))⟩
    · first | omega | exact absurd rfl hb18 | exact absurd hb18 (by decide)
set_option maxRecDepth 20000 in
theorem m_recall_1 {X : jX} {σ : jS} {pr : Int} {ln : Nat} {lw : Nat → Int} {bn : Nat → Nat} {cd sz : Nat → Nat → Nat} {ph : Nat → Nat → Int} {mn : Nat} {mg : Nat → Int} {kn : Nat} {kr : Nat → Int} {ks : Nat → Nat} {kt : Nat → Nat → Int} {rd : Nat} {rg : Nat → Int} {th : Int} {a : Int} (hM : MW σ th pr ln lw bn cd sz ph mn mg kn kr ks kt rd rg) (hI : CI pr ln lw bn cd sz ph mn mg kn kr ks kt rd rg) (hi : inI a) (ha : ¬ (0 ≤ a ∧ a < ((kn : Nat) : Int))) : JM X mX7_recall rX7_recall [.ref 37, vI a] σ (MP 1 (0) σ (fun σ1 => MW σ1 1 pr ln lw bn cd sz ph mn mg kn kr ks kt rd rg)) := by
  refine JM.of (lc := [.ref 37, vI a]) rfl ?_
  obtain ⟨hpr, ⟨hln, hlw⟩, hbk, ⟨hmn, hmg⟩, hki, hrd, hrg⟩ := id hI
  obtain ⟨⟨pa, ps, hO⟩, ⟨ml, h38, hml, hmi⟩, h39, ⟨Kw, h40, hw9, hkw⟩, h41, ⟨Mc, h42, hMc⟩, ⟨Ms, h43, hMs⟩, ⟨Mp, h44, hMp⟩, h45, h46, ⟨lf, h47⟩, ⟨pc, h48⟩⟩ := id hM
  have hkn := hki.1
  refine J.ald_n dX7_recall_0 rfl ?_
  refine J.iconst dX7_recall_1 ?_
  refine pf_X7_47 rfl dX7_recall_2 hO ?_
  refine J.ild_n dX7_recall_5 rfl ?_
  refine J.iconst dX7_recall_6 ?_
  refine J.ald_n dX7_recall_7 rfl ?_
  refine gf_X7_66 rfl dX7_recall_8 (jset_eq _ _ _) ?_
  refine J.iconst dX7_recall_11 ?_
  refine J.isub dX7_recall_12 ?_
  refine J.callS (rm' := rX7_isIn) [vI a, vI 0, vI (((kn : Nat) : Int) - 1)] dX7_recall_13 (c_X7_isIn_f hi (by unfold inI; omega) (by unfold inI; omega) (by omega)) st_X7_isIn ml_X7_50 sm_X7_isIn rfl (Nat.le_of_ble_eq_true rfl) (by decide) (by decide) (Nat.le_of_ble_eq_true rfl) (by decide) (by decide) (Or.inl rfl) (fun E9 σ9 hq9 _ => nomatch hq9.1) (fun r9 σ9 hq9 hle9 => ?_)
  obtain ⟨h9, h8⟩ := hq9
  rw [h8]
  clear hle9 h8 σ9
  cases h9
  refine J.if_ne dX7_recall_16 (by decide) (tgt := 25) (by unfold inI; omega) (fun hb16 => ?_) (fun hb16 => ?_)
  · first | exact absurd hb16 (by decide) | exact absurd rfl hb16 | omega
  · refine J.ald_n dX7_recall_19 rfl ?_
    refine J.iconst dX7_recall_20 ?_
    refine J.callV (rm' := rX7_no) [vI 1] dX7_recall_21 (c_X7_no (jset_eq _ _ _)) (jset_eq _ _ _) rfl st_X7_no ml_X7_59 im_X7_no se_X7_no rfl (Nat.le_of_ble_eq_true rfl) (by decide) (by decide) (Nat.le_of_ble_eq_true rfl) (by decide) (by decide) (Or.inl rfl) (fun E9 σ9 hq9 _ => nomatch hq9.1) (fun r9 σ9 hq9 hle9 => ?_)
    obtain ⟨h9, h8⟩ := hq9
    cases h9
    subst h8
    clear hle9
    refine J.iret .int dX7_recall_24 rfl rfl (by decide) (by decide) ?_
    exact ⟨⟨_, rfl, fun q => absurd q (by decide)⟩, ⟨⟨pa, ps, (jset_eq _ _ _)⟩, ⟨ml, ((jset_ne _ _ (by omega)).trans ((jset_ne _ _ (by omega)).trans h38)), hml, hmi⟩, ((jset_ne _ _ (by omega)).trans ((jset_ne _ _ (by omega)).trans h39)), ⟨Kw, ((jset_ne _ _ (by omega)).trans ((jset_ne _ _ (by omega)).trans h40)), hw9, hkw⟩, ((jset_ne _ _ (by omega)).trans ((jset_ne _ _ (by omega)).trans h41)), ⟨Mc, ((jset_ne _ _ (by omega)).trans ((jset_ne _ _ (by omega)).trans h42)), hMc⟩, ⟨Ms, ((jset_ne _ _ (by omega)).trans ((jset_ne _ _ (by omega)).trans h43)), hMs⟩, ⟨Mp, ((jset_ne _ _ (by omega)).trans ((jset_ne _ _ (by omega)).trans h44)), hMp⟩, ((jset_ne _ _ (by omega)).trans ((jset_ne _ _ (by omega)).trans h45)), ((jset_ne _ _ (by omega)).trans ((jset_ne _ _ (by omega)).trans h46)), ⟨_, ((jset_ne _ _ (by omega)).trans ((jset_ne _ _ (by omega)).trans h47))⟩, ⟨_, ((jset_ne _ _ (by omega)).trans ((jset_ne _ _ (by omega)).trans h48))⟩⟩, rfl, fun j hj => ((jset_ne _ _ (by omega)).trans ((jset_ne _ _ (by omega)).trans (rfl : σ.2 j = σ.2 j)))⟩
set_option maxRecDepth 20000 in
theorem m_recall_0 {X : jX} {σ : jS} {pr : Int} {ln : Nat} {lw : Nat → Int} {bn : Nat → Nat} {cd sz : Nat → Nat → Nat} {ph : Nat → Nat → Int} {mn : Nat} {mg : Nat → Int} {kn : Nat} {kr : Nat → Int} {ks : Nat → Nat} {kt : Nat → Nat → Int} {rd : Nat} {rg : Nat → Int} {th : Int} {p : Nat} (hM : MW σ th pr ln lw bn cd sz ph mn mg kn kr ks kt rd rg) (hI : CI pr ln lw bn cd sz ph mn mg kn kr ks kt rd rg) (hp : p < kn) : JM X mX7_recall rX7_recall [.ref 37, vI ((p : Nat) : Int)] σ (MP 0 (((ks p : Nat) : Int)) σ (fun σ1 => MW σ1 0 pr (ks p) (alF kr (ks p) (p * 41) 0 lw) bn cd sz ph mn mg kn kr ks kt rd rg)) := by
  refine JM.of (lc := [.ref 37, vI ((p : Nat) : Int)]) rfl ?_
  obtain ⟨hpr, ⟨hln, hlw⟩, hbk, ⟨hmn, hmg⟩, hki, hrd, hrg⟩ := id hI
  obtain ⟨⟨pa, ps, hO⟩, ⟨ml, h38, hml, hmi⟩, h39, ⟨Kw, h40, hw9, hkw⟩, h41, ⟨Mc, h42, hMc⟩, ⟨Ms, h43, hMs⟩, ⟨Mp, h44, hMp⟩, h45, h46, ⟨lf, h47⟩, ⟨pc, h48⟩⟩ := id hM
  have hkn := hki.1
  have hkp := hki.2.1 p hp
  refine J.ald_n dX7_recall_0 rfl ?_
  refine J.iconst dX7_recall_1 ?_
  refine pf_X7_47 rfl dX7_recall_2 hO ?_
  refine J.ild_n dX7_recall_5 rfl ?_
  refine J.iconst dX7_recall_6 ?_
  refine J.ald_n dX7_recall_7 rfl ?_
  refine gf_X7_66 rfl dX7_recall_8 (jset_eq _ _ _) ?_
  refine J.iconst dX7_recall_11 ?_
  refine J.isub dX7_recall_12 ?_
  refine J.callS (rm' := rX7_isIn) [vI ((p : Nat) : Int), vI 0, vI (((kn : Nat) : Int) - 1)] dX7_recall_13 (c_X7_isIn_t (by unfold inI; omega) (by unfold inI; omega) (by unfold inI; omega) (by omega)) st_X7_isIn ml_X7_50 sm_X7_isIn rfl (Nat.le_of_ble_eq_true rfl) (by decide) (by decide) (Nat.le_of_ble_eq_true rfl) (by decide) (by decide) (Or.inl rfl) (fun E9 σ9 hq9 _ => nomatch hq9.1) (fun r9 σ9 hq9 hle9 => ?_)
  obtain ⟨h9, h8⟩ := hq9
  rw [h8]
  clear hle9 h8 σ9
  cases h9
  refine J.if_ne dX7_recall_16 (by decide) (tgt := 25) (by unfold inI; omega) (fun hb16 => ?_) (fun hb16 => ?_)
  · refine J.ald_n dX7_recall_25 rfl ?_
    refine J.ald_n dX7_recall_26 rfl ?_
    refine gf_X7_17 rfl dX7_recall_27 (jset_eq _ _ _) ?_
    refine J.ild_n dX7_recall_30 rfl ?_
    refine J.iald p dX7_recall_31 ((jset_ne _ _ (by omega)).trans h39) rfl (by omega) (by omega) ?_
    refine pf_X7_63 rfl dX7_recall_32 (jset_eq _ _ _) ?_
    refine J.ald_n dX7_recall_35 rfl ?_
    refine gf_X7_20 rfl dX7_recall_36 (jset_eq _ _ _) ?_
    refine J.bipush dX7_recall_39 (by decide) ?_
    refine J.ild_n dX7_recall_41 rfl ?_
    refine J.imul dX7_recall_42 ?_
    rw [show (40 : Int) * ((p : Nat) : Int) = ((40 * p : Nat) : Int) from by push_cast; rfl]
    refine J.ald_n dX7_recall_43 rfl ?_
    refine gf_X7_13 rfl dX7_recall_44 (jset_eq _ _ _) ?_
    refine J.iconst dX7_recall_47 ?_
    refine J.ald_n dX7_recall_48 rfl ?_
    refine gf_X7_63 rfl dX7_recall_49 (jset_eq _ _ _) ?_
    refine J.acopy (40 * p) 0 (ks p) dX7_recall_52 ml_X7_69 na_acopy sm_acopy ini_java_lang_System ((jset_ne _ _ (by omega)).trans ((jset_ne _ _ (by omega)).trans h40)) ((jset_ne _ _ (by omega)).trans ((jset_ne _ _ (by omega)).trans h38)) (by omega) (by omega) rfl rfl rfl (by omega) (by omega) (by omega) (by omega) (by decide) (Nat.le_of_ble_eq_true rfl) ?_
    refine J.ald_n dX7_recall_55 rfl ?_
    refine gf_X7_63 rfl dX7_recall_56 ((jset_ne _ _ (by omega)).trans (jset_eq _ _ _)) ?_
    refine J.iret .int dX7_recall_59 rfl rfl (by decide) (by decide) ?_
    exact ⟨⟨_, rfl, fun _ => rfl⟩, ⟨⟨pa, ps, ((jset_ne _ _ (by omega)).trans (jset_eq _ _ _))⟩, ⟨_, (jset_eq _ _ _), fun t ht => by unfold jcp; rw [if_pos (by omega), alF_eq _ _ _ _ _ (by omega), if_pos (by omega), show 40 * p + (t - 0) = 40 * p + t by omega, show p * 41 + (t - 0) = p * 41 + t by omega]; exact hw9 p t hp ht, fun t ht => by unfold jcp; by_cases q : 0 ≤ t ∧ t < 0 + ks p; rw [if_pos q]; exact hkw _ (by omega); rw [if_neg q]; exact hmi t ht⟩, ((jset_ne _ _ (by omega)).trans ((jset_ne _ _ (by omega)).trans ((jset_ne _ _ (by omega)).trans h39))), ⟨Kw, ((jset_ne _ _ (by omega)).trans ((jset_ne _ _ (by omega)).trans ((jset_ne _ _ (by omega)).trans h40))), hw9, hkw⟩, ((jset_ne _ _ (by omega)).trans ((jset_ne _ _ (by omega)).trans ((jset_ne _ _ (by omega)).trans h41))), ⟨Mc, ((jset_ne _ _ (by omega)).trans ((jset_ne _ _ (by omega)).trans ((jset_ne _ _ (by omega)).trans h42))), hMc⟩, ⟨Ms, ((jset_ne _ _ (by omega)).trans ((jset_ne _ _ (by omega)).trans ((jset_ne _ _ (by omega)).trans h43))), hMs⟩, ⟨Mp, ((jset_ne _ _ (by omega)).trans ((jset_ne _ _ (by omega)).trans ((jset_ne _ _ (by omega)).trans h44))), hMp⟩, ((jset_ne _ _ (by omega)).trans ((jset_ne _ _ (by omega)).trans ((jset_ne _ _ (by omega)).trans h45))), ((jset_ne _ _ (by omega)).trans ((jset_ne _ _ (by omega)).trans ((jset_ne _ _ (by omega)).trans h46))), ⟨_, ((jset_ne _ _ (by omega)).trans ((jset_ne _ _ (by omega)).trans ((jset_ne _ _ (by omega)).trans h47)))⟩, ⟨_, ((jset_ne _ _ (by omega)).trans ((jset_ne _ _ (by omega)).trans ((jset_ne _ _ (by omega)).trans h48)))⟩⟩, rfl, fun j hj => ((jset_ne _ _ (by omega)).trans ((jset_ne _ _ (by omega)).trans ((jset_ne _ _ (by omega)).trans (rfl : σ.2 j = σ.2 j))))⟩
  · first | exact absurd hb16 (by decide) | exact absurd rfl hb16 | omega
set_option maxRecDepth 20000 in
theorem m_letter_1 {X : jX} {σ : jS} {pr : Int} {ln : Nat} {lw : Nat → Int} {bn : Nat → Nat} {cd sz : Nat → Nat → Nat} {ph : Nat → Nat → Int} {mn : Nat} {mg : Nat → Int} {kn : Nat} {kr : Nat → Int} {ks : Nat → Nat} {kt : Nat → Nat → Int} {rd : Nat} {rg : Nat → Int} {th : Int} {a p : Int} (hM : MW σ th pr ln lw bn cd sz ph mn mg kn kr ks kt rd rg) (hI : CI pr ln lw bn cd sz ph mn mg kn kr ks kt rd rg) (hi : inI a) (ha : ¬ (0 ≤ a ∧ a ≤ 11881375)) : JM X mX7_letter rX7_letter [.ref 37, vI a, vI p] σ (MP 1 (0) σ (fun σ1 => MW σ1 1 pr ln lw bn cd sz ph mn mg kn kr ks kt rd rg)) := by
  refine JM.of (lc := [.ref 37, vI a, vI p]) rfl ?_
  obtain ⟨hpr, ⟨hln, hlw⟩, hbk, ⟨hmn, hmg⟩, hki, hrd, hrg⟩ := id hI
  obtain ⟨⟨pa, ps, hO⟩, ⟨ml, h38, hml, hmi⟩, h39, ⟨Kw, h40, hw9, hkw⟩, h41, ⟨Mc, h42, hMc⟩, ⟨Ms, h43, hMs⟩, ⟨Mp, h44, hMp⟩, h45, h46, ⟨lf, h47⟩, ⟨pc, h48⟩⟩ := id hM
  have hkn := hki.1
  refine J.ald_n dX7_letter_0 rfl ?_
  refine J.iconst dX7_letter_1 ?_
  refine pf_X7_47 rfl dX7_letter_2 hO ?_
  refine J.ild_n dX7_letter_5 rfl ?_
  refine J.callS (rm' := rX7_isCode) [vI a] dX7_letter_6 (c_X7_isCode_f hi (by omega)) st_X7_isCode ml_X7_78 sm_X7_isCode rfl (Nat.le_of_ble_eq_true rfl) (by decide) (by decide) (Nat.le_of_ble_eq_true rfl) (by decide) (by decide) (Or.inl rfl) (fun E9 σ9 hq9 _ => nomatch hq9.1) (fun r9 σ9 hq9 hle9 => ?_)
  obtain ⟨h9, h8⟩ := hq9
  rw [h8]
  clear hle9 h8 σ9
  cases h9
  refine J.if_ne dX7_letter_9 (by decide) (tgt := 18) (by unfold inI; omega) (fun hb9 => ?_) (fun hb9 => ?_)
  · first | exact absurd hb9 (by decide) | exact absurd rfl hb9 | omega
  · refine J.ald_n dX7_letter_12 rfl ?_
    refine J.iconst dX7_letter_13 ?_
    refine J.callV (rm' := rX7_no) [vI 1] dX7_letter_14 (c_X7_no (jset_eq _ _ _)) (jset_eq _ _ _) rfl st_X7_no ml_X7_59 im_X7_no se_X7_no rfl (Nat.le_of_ble_eq_true rfl) (by decide) (by decide) (Nat.le_of_ble_eq_true rfl) (by decide) (by decide) (Or.inl rfl) (fun E9 σ9 hq9 _ => nomatch hq9.1) (fun r9 σ9 hq9 hle9 => ?_)
    obtain ⟨h9, h8⟩ := hq9
    cases h9
    subst h8
    clear hle9
    refine J.iret .int dX7_letter_17 rfl rfl (by decide) (by decide) ?_
    exact ⟨⟨_, rfl, fun q => absurd q (by decide)⟩, ⟨⟨pa, ps, (jset_eq _ _ _)⟩, ⟨ml, ((jset_ne _ _ (by omega)).trans ((jset_ne _ _ (by omega)).trans h38)), hml, hmi⟩, ((jset_ne _ _ (by omega)).trans ((jset_ne _ _ (by omega)).trans h39)), ⟨Kw, ((jset_ne _ _ (by omega)).trans ((jset_ne _ _ (by omega)).trans h40)), hw9, hkw⟩, ((jset_ne _ _ (by omega)).trans ((jset_ne _ _ (by omega)).trans h41)), ⟨Mc, ((jset_ne _ _ (by omega)).trans ((jset_ne _ _ (by omega)).trans h42)), hMc⟩, ⟨Ms, ((jset_ne _ _ (by omega)).trans ((jset_ne _ _ (by omega)).trans h43)), hMs⟩, ⟨Mp, ((jset_ne _ _ (by omega)).trans ((jset_ne _ _ (by omega)).trans h44)), hMp⟩, ((jset_ne _ _ (by omega)).trans ((jset_ne _ _ (by omega)).trans h45)), ((jset_ne _ _ (by omega)).trans ((jset_ne _ _ (by omega)).trans h46)), ⟨_, ((jset_ne _ _ (by omega)).trans ((jset_ne _ _ (by omega)).trans h47))⟩, ⟨_, ((jset_ne _ _ (by omega)).trans ((jset_ne _ _ (by omega)).trans h48))⟩⟩, rfl, fun j hj => ((jset_ne _ _ (by omega)).trans ((jset_ne _ _ (by omega)).trans (rfl : σ.2 j = σ.2 j)))⟩
set_option maxRecDepth 20000 in
theorem m_letter_2 {X : jX} {σ : jS} {pr : Int} {ln : Nat} {lw : Nat → Int} {bn : Nat → Nat} {cd sz : Nat → Nat → Nat} {ph : Nat → Nat → Int} {mn : Nat} {mg : Nat → Int} {kn : Nat} {kr : Nat → Int} {ks : Nat → Nat} {kt : Nat → Nat → Int} {rd : Nat} {rg : Nat → Int} {th : Int} {c : Nat} {a : Int} (hM : MW σ th pr ln lw bn cd sz ph mn mg kn kr ks kt rd rg) (hI : CI pr ln lw bn cd sz ph mn mg kn kr ks kt rd rg) (hi : inI a) (hc : c ≤ 11881375) (ha : ¬ (0 ≤ a ∧ a < ((5 : Nat) : Int))) : JM X mX7_letter rX7_letter [.ref 37, vI ((c : Nat) : Int), vI a] σ (MP 2 (0) σ (fun σ1 => MW σ1 2 pr ln lw bn cd sz ph mn mg kn kr ks kt rd rg)) := by
  refine JM.of (lc := [.ref 37, vI ((c : Nat) : Int), vI a]) rfl ?_
  obtain ⟨hpr, ⟨hln, hlw⟩, hbk, ⟨hmn, hmg⟩, hki, hrd, hrg⟩ := id hI
  obtain ⟨⟨pa, ps, hO⟩, ⟨ml, h38, hml, hmi⟩, h39, ⟨Kw, h40, hw9, hkw⟩, h41, ⟨Mc, h42, hMc⟩, ⟨Ms, h43, hMs⟩, ⟨Mp, h44, hMp⟩, h45, h46, ⟨lf, h47⟩, ⟨pc, h48⟩⟩ := id hM
  have hkn := hki.1
  refine J.ald_n dX7_letter_0 rfl ?_
  refine J.iconst dX7_letter_1 ?_
  refine pf_X7_47 rfl dX7_letter_2 hO ?_
  refine J.ild_n dX7_letter_5 rfl ?_
  refine J.callS (rm' := rX7_isCode) [vI ((c : Nat) : Int)] dX7_letter_6 (c_X7_isCode_t (by unfold inI; omega) (by omega)) st_X7_isCode ml_X7_78 sm_X7_isCode rfl (Nat.le_of_ble_eq_true rfl) (by decide) (by decide) (Nat.le_of_ble_eq_true rfl) (by decide) (by decide) (Or.inl rfl) (fun E9 σ9 hq9 _ => nomatch hq9.1) (fun r9 σ9 hq9 hle9 => ?_)
  obtain ⟨h9, h8⟩ := hq9
  rw [h8]
  clear hle9 h8 σ9
  cases h9
  refine J.if_ne dX7_letter_9 (by decide) (tgt := 18) (by unfold inI; omega) (fun hb9 => ?_) (fun hb9 => ?_)
  · refine J.ild_n dX7_letter_18 rfl ?_
    refine J.iconst dX7_letter_19 ?_
    refine J.iconst dX7_letter_20 ?_
    refine J.callS (rm' := rX7_isIn) [vI a, vI 0, vI 4] dX7_letter_21 (c_X7_isIn_f hi (by unfold inI; omega) (by unfold inI; omega) (by omega)) st_X7_isIn ml_X7_50 sm_X7_isIn rfl (Nat.le_of_ble_eq_true rfl) (by decide) (by decide) (Nat.le_of_ble_eq_true rfl) (by decide) (by decide) (Or.inl rfl) (fun E9 σ9 hq9 _ => nomatch hq9.1) (fun r9 σ9 hq9 hle9 => ?_)
    obtain ⟨h9, h8⟩ := hq9
    rw [h8]
    clear hle9 h8 σ9
    cases h9
    refine J.if_eq dX7_letter_24 (by decide) (tgt := 35) (by unfold inI; omega) (fun hb24 => ?_) (fun hb24 => ?_)
    · refine J.ald_n dX7_letter_35 rfl ?_
      refine J.iconst dX7_letter_36 ?_
      refine J.callV (rm' := rX7_no) [vI 2] dX7_letter_37 (c_X7_no (jset_eq _ _ _)) (jset_eq _ _ _) rfl st_X7_no ml_X7_59 im_X7_no se_X7_no rfl (Nat.le_of_ble_eq_true rfl) (by decide) (by decide) (Nat.le_of_ble_eq_true rfl) (by decide) (by decide) (Or.inl rfl) (fun E9 σ9 hq9 _ => nomatch hq9.1) (fun r9 σ9 hq9 hle9 => ?_)
      obtain ⟨h9, h8⟩ := hq9
      cases h9
      subst h8
      clear hle9
      refine J.iret .int dX7_letter_40 rfl rfl (by decide) (by decide) ?_
      exact ⟨⟨_, rfl, fun q => absurd q (by decide)⟩, ⟨⟨pa, ps, (jset_eq _ _ _)⟩, ⟨ml, ((jset_ne _ _ (by omega)).trans ((jset_ne _ _ (by omega)).trans h38)), hml, hmi⟩, ((jset_ne _ _ (by omega)).trans ((jset_ne _ _ (by omega)).trans h39)), ⟨Kw, ((jset_ne _ _ (by omega)).trans ((jset_ne _ _ (by omega)).trans h40)), hw9, hkw⟩, ((jset_ne _ _ (by omega)).trans ((jset_ne _ _ (by omega)).trans h41)), ⟨Mc, ((jset_ne _ _ (by omega)).trans ((jset_ne _ _ (by omega)).trans h42)), hMc⟩, ⟨Ms, ((jset_ne _ _ (by omega)).trans ((jset_ne _ _ (by omega)).trans h43)), hMs⟩, ⟨Mp, ((jset_ne _ _ (by omega)).trans ((jset_ne _ _ (by omega)).trans h44)), hMp⟩, ((jset_ne _ _ (by omega)).trans ((jset_ne _ _ (by omega)).trans h45)), ((jset_ne _ _ (by omega)).trans ((jset_ne _ _ (by omega)).trans h46)), ⟨_, ((jset_ne _ _ (by omega)).trans ((jset_ne _ _ (by omega)).trans h47))⟩, ⟨_, ((jset_ne _ _ (by omega)).trans ((jset_ne _ _ (by omega)).trans h48))⟩⟩, rfl, fun j hj => ((jset_ne _ _ (by omega)).trans ((jset_ne _ _ (by omega)).trans (rfl : σ.2 j = σ.2 j)))⟩
    · first | exact absurd hb24 (by decide) | exact absurd rfl hb24 | omega
  · first | exact absurd hb9 (by decide) | exact absurd rfl hb9 | omega
set_option maxRecDepth 20000 in
theorem m_letter_0 {X : jX} {σ : jS} {pr : Int} {ln : Nat} {lw : Nat → Int} {bn : Nat → Nat} {cd sz : Nat → Nat → Nat} {ph : Nat → Nat → Int} {mn : Nat} {mg : Nat → Int} {kn : Nat} {kr : Nat → Int} {ks : Nat → Nat} {kt : Nat → Nat → Int} {rd : Nat} {rg : Nat → Int} {th : Int} {c p : Nat} (hM : MW σ th pr ln lw bn cd sz ph mn mg kn kr ks kt rd rg) (hI : CI pr ln lw bn cd sz ph mn mg kn kr ks kt rd rg) (hc : c ≤ 11881375) (hp : p < 5) : JM X mX7_letter rX7_letter [.ref 37, vI ((c : Nat) : Int), vI ((p : Nat) : Int)] σ (MP 0 (((ltr c p : Nat) : Int)) σ (fun σ1 => MW σ1 0 pr ln lw bn cd sz ph mn mg kn kr ks kt rd rg)) := by
  refine JM.of (lc := [.ref 37, vI ((c : Nat) : Int), vI ((p : Nat) : Int)]) rfl ?_
  obtain ⟨hpr, ⟨hln, hlw⟩, hbk, ⟨hmn, hmg⟩, hki, hrd, hrg⟩ := id hI
  obtain ⟨⟨pa, ps, hO⟩, ⟨ml, h38, hml, hmi⟩, h39, ⟨Kw, h40, hw9, hkw⟩, h41, ⟨Mc, h42, hMc⟩, ⟨Ms, h43, hMs⟩, ⟨Mp, h44, hMp⟩, h45, h46, ⟨lf, h47⟩, ⟨pc, h48⟩⟩ := id hM
  have hkn := hki.1
  refine J.ald_n dX7_letter_0 rfl ?_
  refine J.iconst dX7_letter_1 ?_
  refine pf_X7_47 rfl dX7_letter_2 hO ?_
  refine J.ild_n dX7_letter_5 rfl ?_
  refine J.callS (rm' := rX7_isCode) [vI ((c : Nat) : Int)] dX7_letter_6 (c_X7_isCode_t (by unfold inI; omega) (by omega)) st_X7_isCode ml_X7_78 sm_X7_isCode rfl (Nat.le_of_ble_eq_true rfl) (by decide) (by decide) (Nat.le_of_ble_eq_true rfl) (by decide) (by decide) (Or.inl rfl) (fun E9 σ9 hq9 _ => nomatch hq9.1) (fun r9 σ9 hq9 hle9 => ?_)
  obtain ⟨h9, h8⟩ := hq9
  rw [h8]
  clear hle9 h8 σ9
  cases h9
  refine J.if_ne dX7_letter_9 (by decide) (tgt := 18) (by unfold inI; omega) (fun hb9 => ?_) (fun hb9 => ?_)
  · refine J.ild_n dX7_letter_18 rfl ?_
    refine J.iconst dX7_letter_19 ?_
    refine J.iconst dX7_letter_20 ?_
    refine J.callS (rm' := rX7_isIn) [vI ((p : Nat) : Int), vI 0, vI 4] dX7_letter_21 (c_X7_isIn_t (by unfold inI; omega) (by unfold inI; omega) (by unfold inI; omega) (by omega)) st_X7_isIn ml_X7_50 sm_X7_isIn rfl (Nat.le_of_ble_eq_true rfl) (by decide) (by decide) (Nat.le_of_ble_eq_true rfl) (by decide) (by decide) (Or.inl rfl) (fun E9 σ9 hq9 _ => nomatch hq9.1) (fun r9 σ9 hq9 hle9 => ?_)
    obtain ⟨h9, h8⟩ := hq9
    rw [h8]
    clear hle9 h8 σ9
    cases h9
    refine J.if_eq dX7_letter_24 (by decide) (tgt := 35) (by unfold inI; omega) (fun hb24 => ?_) (fun hb24 => ?_)
    · first | exact absurd hb24 (by decide) | exact absurd rfl hb24 | omega
    · refine J.ild_n dX7_letter_27 rfl ?_
      refine J.ild_n dX7_letter_28 rfl ?_
      refine J.callS (rm' := rX7_letterOf) [vI ((c : Nat) : Int), vI ((p : Nat) : Int)] dX7_letter_29 (c_X7_letterOf hc (by omega)) st_X7_letterOf ml_X7_81 sm_X7_letterOf rfl (Nat.le_of_ble_eq_true rfl) (by decide) (by decide) (Nat.le_of_ble_eq_true rfl) (by decide) (by decide) (Or.inl rfl) (fun E9 σ9 hq9 _ => nomatch hq9.1) (fun r9 σ9 hq9 hle9 => ?_)
      obtain ⟨h9, h8⟩ := hq9
      rw [h8]
      clear hle9 h8 σ9
      cases h9
      refine J.goto dX7_letter_32 (by decide) (tgt := 40) ?_
      refine J.iret .int dX7_letter_40 rfl rfl (by decide) (by decide) ?_
      exact ⟨⟨_, rfl, fun _ => rfl⟩, ⟨⟨pa, ps, (jset_eq _ _ _)⟩, ⟨ml, ((jset_ne _ _ (by omega)).trans h38), hml, hmi⟩, ((jset_ne _ _ (by omega)).trans h39), ⟨Kw, ((jset_ne _ _ (by omega)).trans h40), hw9, hkw⟩, ((jset_ne _ _ (by omega)).trans h41), ⟨Mc, ((jset_ne _ _ (by omega)).trans h42), hMc⟩, ⟨Ms, ((jset_ne _ _ (by omega)).trans h43), hMs⟩, ⟨Mp, ((jset_ne _ _ (by omega)).trans h44), hMp⟩, ((jset_ne _ _ (by omega)).trans h45), ((jset_ne _ _ (by omega)).trans h46), ⟨_, ((jset_ne _ _ (by omega)).trans h47)⟩, ⟨_, ((jset_ne _ _ (by omega)).trans h48)⟩⟩, rfl, fun j hj => ((jset_ne _ _ (by omega)).trans (rfl : σ.2 j = σ.2 j))⟩
  · first | exact absurd hb9 (by decide) | exact absurd rfl hb9 | omega
set_option maxRecDepth 20000 in
theorem m_reason_1 {X : jX} {σ : jS} {pr : Int} {ln : Nat} {lw : Nat → Int} {bn : Nat → Nat} {cd sz : Nat → Nat → Nat} {ph : Nat → Nat → Int} {mn : Nat} {mg : Nat → Int} {kn : Nat} {kr : Nat → Int} {ks : Nat → Nat} {kt : Nat → Nat → Int} {rd : Nat} {rg : Nat → Int} {th : Int} {a c : Int} (hM : MW σ th pr ln lw bn cd sz ph mn mg kn kr ks kt rd rg) (hI : CI pr ln lw bn cd sz ph mn mg kn kr ks kt rd rg) (hi : inI a) (ha : ¬ (0 ≤ a ∧ a < 3)) : JM X mX7_reason rX7_reason [.ref 37, vI a, vI c] σ (MP 1 (0) σ (fun σ1 => MW σ1 1 pr ln lw bn cd sz ph mn mg kn kr ks kt rd rg)) := by
  refine JM.of (lc := [.ref 37, vI a, vI c]) rfl ?_
  obtain ⟨hpr, ⟨hln, hlw⟩, hbk, ⟨hmn, hmg⟩, hki, hrd, hrg⟩ := id hI
  obtain ⟨⟨pa, ps, hO⟩, ⟨ml, h38, hml, hmi⟩, h39, ⟨Kw, h40, hw9, hkw⟩, h41, ⟨Mc, h42, hMc⟩, ⟨Ms, h43, hMs⟩, ⟨Mp, h44, hMp⟩, h45, h46, ⟨lf, h47⟩, ⟨pc, h48⟩⟩ := id hM
  have hkn := hki.1
  refine J.ald_n dX7_reason_0 rfl ?_
  refine J.iconst dX7_reason_1 ?_
  refine pf_X7_47 rfl dX7_reason_2 hO ?_
  refine J.ild_n dX7_reason_5 rfl ?_
  refine J.callS (rm' := rX7_isBook) [vI a] dX7_reason_6 (c_X7_isBook_f hi (by omega)) st_X7_isBook ml_X7_55 sm_X7_isBook rfl (Nat.le_of_ble_eq_true rfl) (by decide) (by decide) (Nat.le_of_ble_eq_true rfl) (by decide) (by decide) (Or.inl rfl) (fun E9 σ9 hq9 _ => nomatch hq9.1) (fun r9 σ9 hq9 hle9 => ?_)
  obtain ⟨h9, h8⟩ := hq9
  rw [h8]
  clear hle9 h8 σ9
  cases h9
  refine J.if_ne dX7_reason_9 (by decide) (tgt := 18) (by unfold inI; omega) (fun hb9 => ?_) (fun hb9 => ?_)
  · first | exact absurd hb9 (by decide) | exact absurd rfl hb9 | omega
  · refine J.ald_n dX7_reason_12 rfl ?_
    refine J.iconst dX7_reason_13 ?_
    refine J.callV (rm' := rX7_no) [vI 1] dX7_reason_14 (c_X7_no (jset_eq _ _ _)) (jset_eq _ _ _) rfl st_X7_no ml_X7_59 im_X7_no se_X7_no rfl (Nat.le_of_ble_eq_true rfl) (by decide) (by decide) (Nat.le_of_ble_eq_true rfl) (by decide) (by decide) (Or.inl rfl) (fun E9 σ9 hq9 _ => nomatch hq9.1) (fun r9 σ9 hq9 hle9 => ?_)
    obtain ⟨h9, h8⟩ := hq9
    cases h9
    subst h8
    clear hle9
    refine J.iret .int dX7_reason_17 rfl rfl (by decide) (by decide) ?_
    exact ⟨⟨_, rfl, fun q => absurd q (by decide)⟩, ⟨⟨pa, ps, (jset_eq _ _ _)⟩, ⟨ml, ((jset_ne _ _ (by omega)).trans ((jset_ne _ _ (by omega)).trans h38)), hml, hmi⟩, ((jset_ne _ _ (by omega)).trans ((jset_ne _ _ (by omega)).trans h39)), ⟨Kw, ((jset_ne _ _ (by omega)).trans ((jset_ne _ _ (by omega)).trans h40)), hw9, hkw⟩, ((jset_ne _ _ (by omega)).trans ((jset_ne _ _ (by omega)).trans h41)), ⟨Mc, ((jset_ne _ _ (by omega)).trans ((jset_ne _ _ (by omega)).trans h42)), hMc⟩, ⟨Ms, ((jset_ne _ _ (by omega)).trans ((jset_ne _ _ (by omega)).trans h43)), hMs⟩, ⟨Mp, ((jset_ne _ _ (by omega)).trans ((jset_ne _ _ (by omega)).trans h44)), hMp⟩, ((jset_ne _ _ (by omega)).trans ((jset_ne _ _ (by omega)).trans h45)), ((jset_ne _ _ (by omega)).trans ((jset_ne _ _ (by omega)).trans h46)), ⟨_, ((jset_ne _ _ (by omega)).trans ((jset_ne _ _ (by omega)).trans h47))⟩, ⟨_, ((jset_ne _ _ (by omega)).trans ((jset_ne _ _ (by omega)).trans h48))⟩⟩, rfl, fun j hj => ((jset_ne _ _ (by omega)).trans ((jset_ne _ _ (by omega)).trans (rfl : σ.2 j = σ.2 j)))⟩
set_option maxRecDepth 20000 in
theorem m_reason_2 {X : jX} {σ : jS} {pr : Int} {ln : Nat} {lw : Nat → Int} {bn : Nat → Nat} {cd sz : Nat → Nat → Nat} {ph : Nat → Nat → Int} {mn : Nat} {mg : Nat → Int} {kn : Nat} {kr : Nat → Int} {ks : Nat → Nat} {kt : Nat → Nat → Int} {rd : Nat} {rg : Nat → Int} {th : Int} {b : Nat} {a : Int} (hM : MW σ th pr ln lw bn cd sz ph mn mg kn kr ks kt rd rg) (hI : CI pr ln lw bn cd sz ph mn mg kn kr ks kt rd rg) (hb : b < 3) (hi : inI a) (ha : ¬ (0 ≤ a ∧ a ≤ 11881375)) : JM X mX7_reason rX7_reason [.ref 37, vI ((b : Nat) : Int), vI a] σ (MP 2 (0) σ (fun σ1 => MW σ1 2 pr ln lw bn cd sz ph mn mg kn kr ks kt rd rg)) := by
  refine JM.of (lc := [.ref 37, vI ((b : Nat) : Int), vI a]) rfl ?_
  obtain ⟨hpr, ⟨hln, hlw⟩, hbk, ⟨hmn, hmg⟩, hki, hrd, hrg⟩ := id hI
  obtain ⟨⟨pa, ps, hO⟩, ⟨ml, h38, hml, hmi⟩, h39, ⟨Kw, h40, hw9, hkw⟩, h41, ⟨Mc, h42, hMc⟩, ⟨Ms, h43, hMs⟩, ⟨Mp, h44, hMp⟩, h45, h46, ⟨lf, h47⟩, ⟨pc, h48⟩⟩ := id hM
  have hkn := hki.1
  refine J.ald_n dX7_reason_0 rfl ?_
  refine J.iconst dX7_reason_1 ?_
  refine pf_X7_47 rfl dX7_reason_2 hO ?_
  refine J.ild_n dX7_reason_5 rfl ?_
  refine J.callS (rm' := rX7_isBook) [vI ((b : Nat) : Int)] dX7_reason_6 (c_X7_isBook_t (by unfold inI; omega) (by omega)) st_X7_isBook ml_X7_55 sm_X7_isBook rfl (Nat.le_of_ble_eq_true rfl) (by decide) (by decide) (Nat.le_of_ble_eq_true rfl) (by decide) (by decide) (Or.inl rfl) (fun E9 σ9 hq9 _ => nomatch hq9.1) (fun r9 σ9 hq9 hle9 => ?_)
  obtain ⟨h9, h8⟩ := hq9
  rw [h8]
  clear hle9 h8 σ9
  cases h9
  refine J.if_ne dX7_reason_9 (by decide) (tgt := 18) (by unfold inI; omega) (fun hb9 => ?_) (fun hb9 => ?_)
  · refine J.ild_n dX7_reason_18 rfl ?_
    refine J.callS (rm' := rX7_isCode) [vI a] dX7_reason_19 (c_X7_isCode_f hi (by omega)) st_X7_isCode ml_X7_78 sm_X7_isCode rfl (Nat.le_of_ble_eq_true rfl) (by decide) (by decide) (Nat.le_of_ble_eq_true rfl) (by decide) (by decide) (Or.inl rfl) (fun E9 σ9 hq9 _ => nomatch hq9.1) (fun r9 σ9 hq9 hle9 => ?_)
    obtain ⟨h9, h8⟩ := hq9
    rw [h8]
    clear hle9 h8 σ9
    cases h9
    refine J.if_eq dX7_reason_22 (by decide) (tgt := 34) (by unfold inI; omega) (fun hb22 => ?_) (fun hb22 => ?_)
    · refine J.ald_n dX7_reason_34 rfl ?_
      refine J.iconst dX7_reason_35 ?_
      refine J.callV (rm' := rX7_no) [vI 2] dX7_reason_36 (c_X7_no (jset_eq _ _ _)) (jset_eq _ _ _) rfl st_X7_no ml_X7_59 im_X7_no se_X7_no rfl (Nat.le_of_ble_eq_true rfl) (by decide) (by decide) (Nat.le_of_ble_eq_true rfl) (by decide) (by decide) (Or.inl rfl) (fun E9 σ9 hq9 _ => nomatch hq9.1) (fun r9 σ9 hq9 hle9 => ?_)
      obtain ⟨h9, h8⟩ := hq9
      cases h9
      subst h8
      clear hle9
      refine J.iret .int dX7_reason_39 rfl rfl (by decide) (by decide) ?_
      exact ⟨⟨_, rfl, fun q => absurd q (by decide)⟩, ⟨⟨pa, ps, (jset_eq _ _ _)⟩, ⟨ml, ((jset_ne _ _ (by omega)).trans ((jset_ne _ _ (by omega)).trans h38)), hml, hmi⟩, ((jset_ne _ _ (by omega)).trans ((jset_ne _ _ (by omega)).trans h39)), ⟨Kw, ((jset_ne _ _ (by omega)).trans ((jset_ne _ _ (by omega)).trans h40)), hw9, hkw⟩, ((jset_ne _ _ (by omega)).trans ((jset_ne _ _ (by omega)).trans h41)), ⟨Mc, ((jset_ne _ _ (by omega)).trans ((jset_ne _ _ (by omega)).trans h42)), hMc⟩, ⟨Ms, ((jset_ne _ _ (by omega)).trans ((jset_ne _ _ (by omega)).trans h43)), hMs⟩, ⟨Mp, ((jset_ne _ _ (by omega)).trans ((jset_ne _ _ (by omega)).trans h44)), hMp⟩, ((jset_ne _ _ (by omega)).trans ((jset_ne _ _ (by omega)).trans h45)), ((jset_ne _ _ (by omega)).trans ((jset_ne _ _ (by omega)).trans h46)), ⟨_, ((jset_ne _ _ (by omega)).trans ((jset_ne _ _ (by omega)).trans h47))⟩, ⟨_, ((jset_ne _ _ (by omega)).trans ((jset_ne _ _ (by omega)).trans h48))⟩⟩, rfl, fun j hj => ((jset_ne _ _ (by omega)).trans ((jset_ne _ _ (by omega)).trans (rfl : σ.2 j = σ.2 j)))⟩
    · first | exact absurd hb22 (by decide) | exact absurd rfl hb22 | omega
  · first | exact absurd hb9 (by decide) | exact absurd rfl hb9 | omega
set_option maxRecDepth 20000 in
theorem m_reason_0 {X : jX} {σ : jS} {pr : Int} {ln : Nat} {lw : Nat → Int} {bn : Nat → Nat} {cd sz : Nat → Nat → Nat} {ph : Nat → Nat → Int} {mn : Nat} {mg : Nat → Int} {kn : Nat} {kr : Nat → Int} {ks : Nat → Nat} {kt : Nat → Nat → Int} {rd : Nat} {rg : Nat → Int} {th : Int} {b c : Nat} (hM : MW σ th pr ln lw bn cd sz ph mn mg kn kr ks kt rd rg) (hI : CI pr ln lw bn cd sz ph mn mg kn kr ks kt rd rg) (hb : b < 3) (hc : c ≤ 11881375) : JM X mX7_reason rX7_reason [.ref 37, vI ((b : Nat) : Int), vI ((c : Nat) : Int)] σ (MP 0 (((rsn (bn b) (cd b) c : Nat) : Int)) σ (fun σ1 => MW σ1 0 pr ln lw bn cd sz ph mn mg kn kr ks kt rd rg)) := by
  refine JM.of (lc := [.ref 37, vI ((b : Nat) : Int), vI ((c : Nat) : Int)]) rfl ?_
  obtain ⟨hpr, ⟨hln, hlw⟩, hbk, ⟨hmn, hmg⟩, hki, hrd, hrg⟩ := id hI
  obtain ⟨⟨pa, ps, hO⟩, ⟨ml, h38, hml, hmi⟩, h39, ⟨Kw, h40, hw9, hkw⟩, h41, ⟨Mc, h42, hMc⟩, ⟨Ms, h43, hMs⟩, ⟨Mp, h44, hMp⟩, h45, h46, ⟨lf, h47⟩, ⟨pc, h48⟩⟩ := id hM
  have hkn := hki.1
  have hbn := (hbk b hb).1
  have hcd := (hbk b hb).2.1
  have hsz := (hbk b hb).2.2.1
  have hph := (hbk b hb).2.2.2
  have hc9 := fun e he => hMc b e hb he
  have hs9 := fun e he => hMs b e hb he
  have hp9 := fun t ht => hMp b t hb ht
  refine J.ald_n dX7_reason_0 rfl ?_
  refine J.iconst dX7_reason_1 ?_
  refine pf_X7_47 rfl dX7_reason_2 hO ?_
  refine J.ild_n dX7_reason_5 rfl ?_
  refine J.callS (rm' := rX7_isBook) [vI ((b : Nat) : Int)] dX7_reason_6 (c_X7_isBook_t (by unfold inI; omega) (by omega)) st_X7_isBook ml_X7_55 sm_X7_isBook rfl (Nat.le_of_ble_eq_true rfl) (by decide) (by decide) (Nat.le_of_ble_eq_true rfl) (by decide) (by decide) (Or.inl rfl) (fun E9 σ9 hq9 _ => nomatch hq9.1) (fun r9 σ9 hq9 hle9 => ?_)
  obtain ⟨h9, h8⟩ := hq9
  rw [h8]
  clear hle9 h8 σ9
  cases h9
  refine J.if_ne dX7_reason_9 (by decide) (tgt := 18) (by unfold inI; omega) (fun hb9 => ?_) (fun hb9 => ?_)
  · refine J.ild_n dX7_reason_18 rfl ?_
    refine J.callS (rm' := rX7_isCode) [vI ((c : Nat) : Int)] dX7_reason_19 (c_X7_isCode_t (by unfold inI; omega) (by omega)) st_X7_isCode ml_X7_78 sm_X7_isCode rfl (Nat.le_of_ble_eq_true rfl) (by decide) (by decide) (Nat.le_of_ble_eq_true rfl) (by decide) (by decide) (Or.inl rfl) (fun E9 σ9 hq9 _ => nomatch hq9.1) (fun r9 σ9 hq9 hle9 => ?_)
    obtain ⟨h9, h8⟩ := hq9
    rw [h8]
    clear hle9 h8 σ9
    cases h9
    refine J.if_eq dX7_reason_22 (by decide) (tgt := 34) (by unfold inI; omega) (fun hb22 => ?_) (fun hb22 => ?_)
    · first | exact absurd hb22 (by decide) | exact absurd rfl hb22 | omega
    · refine J.ald_n dX7_reason_25 rfl ?_
      refine J.ild_n dX7_reason_26 rfl ?_
      refine J.ild_n dX7_reason_27 rfl ?_
      refine J.callV (rm' := rX7_reasonFor) [vI ((b : Nat) : Int), vI ((c : Nat) : Int)] dX7_reason_28 (c_X7_reasonFor (jset_eq _ _ _) ((jset_ne _ _ (by omega)).trans h41) hb hbn ((jset_ne _ _ (by omega)).trans h42) hc9 hcd hc) (jset_eq _ _ _) rfl st_X7_reasonFor ml_X7_95 im_X7_reasonFor se_X7_reasonFor rfl (Nat.le_of_ble_eq_true rfl) (by decide) (by decide) (Nat.le_of_ble_eq_true rfl) (by decide) (by decide) (Or.inl rfl) (fun E9 σ9 hq9 _ => nomatch hq9.1) (fun r9 σ9 hq9 hle9 => ?_)
      obtain ⟨h9, h8⟩ := hq9
      rw [h8]
      clear hle9 h8 σ9
      cases h9
      refine J.goto dX7_reason_31 (by decide) (tgt := 39) ?_
      refine J.iret .int dX7_reason_39 rfl rfl (by decide) (by decide) ?_
      exact ⟨⟨_, rfl, fun _ => rfl⟩, ⟨⟨pa, ps, (jset_eq _ _ _)⟩, ⟨ml, ((jset_ne _ _ (by omega)).trans h38), hml, hmi⟩, ((jset_ne _ _ (by omega)).trans h39), ⟨Kw, ((jset_ne _ _ (by omega)).trans h40), hw9, hkw⟩, ((jset_ne _ _ (by omega)).trans h41), ⟨Mc, ((jset_ne _ _ (by omega)).trans h42), hMc⟩, ⟨Ms, ((jset_ne _ _ (by omega)).trans h43), hMs⟩, ⟨Mp, ((jset_ne _ _ (by omega)).trans h44), hMp⟩, ((jset_ne _ _ (by omega)).trans h45), ((jset_ne _ _ (by omega)).trans h46), ⟨_, ((jset_ne _ _ (by omega)).trans h47)⟩, ⟨_, ((jset_ne _ _ (by omega)).trans h48)⟩⟩, rfl, fun j hj => ((jset_ne _ _ (by omega)).trans (rfl : σ.2 j = σ.2 j))⟩
  · first | exact absurd hb9 (by decide) | exact absurd rfl hb9 | omega
set_option maxRecDepth 20000 in
theorem m_firstFit_1 {X : jX} {σ : jS} {pr : Int} {ln : Nat} {lw : Nat → Int} {bn : Nat → Nat} {cd sz : Nat → Nat → Nat} {ph : Nat → Nat → Int} {mn : Nat} {mg : Nat → Int} {kn : Nat} {kr : Nat → Int} {ks : Nat → Nat} {kt : Nat → Nat → Int} {rd : Nat} {rg : Nat → Int} {th : Int} {a c : Int} (hM : MW σ th pr ln lw bn cd sz ph mn mg kn kr ks kt rd rg) (hI : CI pr ln lw bn cd sz ph mn mg kn kr ks kt rd rg) (hi : inI a) (ha : ¬ (0 ≤ a ∧ a < 3)) : JM X mX7_firstFit rX7_firstFit [.ref 37, vI a, vI c] σ (MP 1 (0) σ (fun σ1 => MW σ1 1 pr ln lw bn cd sz ph mn mg kn kr ks kt rd rg)) := by
  refine JM.of (lc := [.ref 37, vI a, vI c]) rfl ?_
  obtain ⟨hpr, ⟨hln, hlw⟩, hbk, ⟨hmn, hmg⟩, hki, hrd, hrg⟩ := id hI
  obtain ⟨⟨pa, ps, hO⟩, ⟨ml, h38, hml, hmi⟩, h39, ⟨Kw, h40, hw9, hkw⟩, h41, ⟨Mc, h42, hMc⟩, ⟨Ms, h43, hMs⟩, ⟨Mp, h44, hMp⟩, h45, h46, ⟨lf, h47⟩, ⟨pc, h48⟩⟩ := id hM
  have hkn := hki.1
  refine J.ald_n dX7_firstFit_0 rfl ?_
  refine J.iconst dX7_firstFit_1 ?_
  refine pf_X7_47 rfl dX7_firstFit_2 hO ?_
  refine J.ild_n dX7_firstFit_5 rfl ?_
  refine J.callS (rm' := rX7_isBook) [vI a] dX7_firstFit_6 (c_X7_isBook_f hi (by omega)) st_X7_isBook ml_X7_55 sm_X7_isBook rfl (Nat.le_of_ble_eq_true rfl) (by decide) (by decide) (Nat.le_of_ble_eq_true rfl) (by decide) (by decide) (Or.inl rfl) (fun E9 σ9 hq9 _ => nomatch hq9.1) (fun r9 σ9 hq9 hle9 => ?_)
  obtain ⟨h9, h8⟩ := hq9
  rw [h8]
  clear hle9 h8 σ9
  cases h9
  refine J.if_ne dX7_firstFit_9 (by decide) (tgt := 18) (by unfold inI; omega) (fun hb9 => ?_) (fun hb9 => ?_)
  · first | exact absurd hb9 (by decide) | exact absurd rfl hb9 | omega
  · refine J.ald_n dX7_firstFit_12 rfl ?_
    refine J.iconst dX7_firstFit_13 ?_
    refine J.callV (rm' := rX7_no) [vI 1] dX7_firstFit_14 (c_X7_no (jset_eq _ _ _)) (jset_eq _ _ _) rfl st_X7_no ml_X7_59 im_X7_no se_X7_no rfl (Nat.le_of_ble_eq_true rfl) (by decide) (by decide) (Nat.le_of_ble_eq_true rfl) (by decide) (by decide) (Or.inl rfl) (fun E9 σ9 hq9 _ => nomatch hq9.1) (fun r9 σ9 hq9 hle9 => ?_)
    obtain ⟨h9, h8⟩ := hq9
    cases h9
    subst h8
    clear hle9
    refine J.iret .int dX7_firstFit_17 rfl rfl (by decide) (by decide) ?_
    exact ⟨⟨_, rfl, fun q => absurd q (by decide)⟩, ⟨⟨pa, ps, (jset_eq _ _ _)⟩, ⟨ml, ((jset_ne _ _ (by omega)).trans ((jset_ne _ _ (by omega)).trans h38)), hml, hmi⟩, ((jset_ne _ _ (by omega)).trans ((jset_ne _ _ (by omega)).trans h39)), ⟨Kw, ((jset_ne _ _ (by omega)).trans ((jset_ne _ _ (by omega)).trans h40)), hw9, hkw⟩, ((jset_ne _ _ (by omega)).trans ((jset_ne _ _ (by omega)).trans h41)), ⟨Mc, ((jset_ne _ _ (by omega)).trans ((jset_ne _ _ (by omega)).trans h42)), hMc⟩, ⟨Ms, ((jset_ne _ _ (by omega)).trans ((jset_ne _ _ (by omega)).trans h43)), hMs⟩, ⟨Mp, ((jset_ne _ _ (by omega)).trans ((jset_ne _ _ (by omega)).trans h44)), hMp⟩, ((jset_ne _ _ (by omega)).trans ((jset_ne _ _ (by omega)).trans h45)), ((jset_ne _ _ (by omega)).trans ((jset_ne _ _ (by omega)).trans h46)), ⟨_, ((jset_ne _ _ (by omega)).trans ((jset_ne _ _ (by omega)).trans h47))⟩, ⟨_, ((jset_ne _ _ (by omega)).trans ((jset_ne _ _ (by omega)).trans h48))⟩⟩, rfl, fun j hj => ((jset_ne _ _ (by omega)).trans ((jset_ne _ _ (by omega)).trans (rfl : σ.2 j = σ.2 j)))⟩
set_option maxRecDepth 20000 in
theorem m_firstFit_2 {X : jX} {σ : jS} {pr : Int} {ln : Nat} {lw : Nat → Int} {bn : Nat → Nat} {cd sz : Nat → Nat → Nat} {ph : Nat → Nat → Int} {mn : Nat} {mg : Nat → Int} {kn : Nat} {kr : Nat → Int} {ks : Nat → Nat} {kt : Nat → Nat → Int} {rd : Nat} {rg : Nat → Int} {th : Int} {b : Nat} {a : Int} (hM : MW σ th pr ln lw bn cd sz ph mn mg kn kr ks kt rd rg) (hI : CI pr ln lw bn cd sz ph mn mg kn kr ks kt rd rg) (hb : b < 3) (hi : inI a) (ha : ¬ (0 ≤ a ∧ a ≤ 11881375)) : JM X mX7_firstFit rX7_firstFit [.ref 37, vI ((b : Nat) : Int), vI a] σ (MP 2 (0) σ (fun σ1 => MW σ1 2 pr ln lw bn cd sz ph mn mg kn kr ks kt rd rg)) := by
  refine JM.of (lc := [.ref 37, vI ((b : Nat) : Int), vI a]) rfl ?_
  obtain ⟨hpr, ⟨hln, hlw⟩, hbk, ⟨hmn, hmg⟩, hki, hrd, hrg⟩ := id hI
  obtain ⟨⟨pa, ps, hO⟩, ⟨ml, h38, hml, hmi⟩, h39, ⟨Kw, h40, hw9, hkw⟩, h41, ⟨Mc, h42, hMc⟩, ⟨Ms, h43, hMs⟩, ⟨Mp, h44, hMp⟩, h45, h46, ⟨lf, h47⟩, ⟨pc, h48⟩⟩ := id hM
  have hkn := hki.1
  refine J.ald_n dX7_firstFit_0 rfl ?_
  refine J.iconst dX7_firstFit_1 ?_
  refine pf_X7_47 rfl dX7_firstFit_2 hO ?_
  refine J.ild_n dX7_firstFit_5 rfl ?_
  refine J.callS (rm' := rX7_isBook) [vI ((b : Nat) : Int)] dX7_firstFit_6 (c_X7_isBook_t (by unfold inI; omega) (by omega)) st_X7_isBook ml_X7_55 sm_X7_isBook rfl (Nat.le_of_ble_eq_true rfl) (by decide) (by decide) (Nat.le_of_ble_eq_true rfl) (by decide) (by decide) (Or.inl rfl) (fun E9 σ9 hq9 _ => nomatch hq9.1) (fun r9 σ9 hq9 hle9 => ?_)
  obtain ⟨h9, h8⟩ := hq9
  rw [h8]
  clear hle9 h8 σ9
  cases h9
  refine J.if_ne dX7_firstFit_9 (by decide) (tgt := 18) (by unfold inI; omega) (fun hb9 => ?_) (fun hb9 => ?_)
  · refine J.ild_n dX7_firstFit_18 rfl ?_
    refine J.callS (rm' := rX7_isCode) [vI a] dX7_firstFit_19 (c_X7_isCode_f hi (by omega)) st_X7_isCode ml_X7_78 sm_X7_isCode rfl (Nat.le_of_ble_eq_true rfl) (by decide) (by decide) (Nat.le_of_ble_eq_true rfl) (by decide) (by decide) (Or.inl rfl) (fun E9 σ9 hq9 _ => nomatch hq9.1) (fun r9 σ9 hq9 hle9 => ?_)
    obtain ⟨h9, h8⟩ := hq9
    rw [h8]
    clear hle9 h8 σ9
    cases h9
    refine J.if_eq dX7_firstFit_22 (by decide) (tgt := 34) (by unfold inI; omega) (fun hb22 => ?_) (fun hb22 => ?_)
    · refine J.ald_n dX7_firstFit_34 rfl ?_
      refine J.iconst dX7_firstFit_35 ?_
      refine J.callV (rm' := rX7_no) [vI 2] dX7_firstFit_36 (c_X7_no (jset_eq _ _ _)) (jset_eq _ _ _) rfl st_X7_no ml_X7_59 im_X7_no se_X7_no rfl (Nat.le_of_ble_eq_true rfl) (by decide) (by decide) (Nat.le_of_ble_eq_true rfl) (by decide) (by decide) (Or.inl rfl) (fun E9 σ9 hq9 _ => nomatch hq9.1) (fun r9 σ9 hq9 hle9 => ?_)
      obtain ⟨h9, h8⟩ := hq9
      cases h9
      subst h8
      clear hle9
      refine J.iret .int dX7_firstFit_39 rfl rfl (by decide) (by decide) ?_
      exact ⟨⟨_, rfl, fun q => absurd q (by decide)⟩, ⟨⟨pa, ps, (jset_eq _ _ _)⟩, ⟨ml, ((jset_ne _ _ (by omega)).trans ((jset_ne _ _ (by omega)).trans h38)), hml, hmi⟩, ((jset_ne _ _ (by omega)).trans ((jset_ne _ _ (by omega)).trans h39)), ⟨Kw, ((jset_ne _ _ (by omega)).trans ((jset_ne _ _ (by omega)).trans h40)), hw9, hkw⟩, ((jset_ne _ _ (by omega)).trans ((jset_ne _ _ (by omega)).trans h41)), ⟨Mc, ((jset_ne _ _ (by omega)).trans ((jset_ne _ _ (by omega)).trans h42)), hMc⟩, ⟨Ms, ((jset_ne _ _ (by omega)).trans ((jset_ne _ _ (by omega)).trans h43)), hMs⟩, ⟨Mp, ((jset_ne _ _ (by omega)).trans ((jset_ne _ _ (by omega)).trans h44)), hMp⟩, ((jset_ne _ _ (by omega)).trans ((jset_ne _ _ (by omega)).trans h45)), ((jset_ne _ _ (by omega)).trans ((jset_ne _ _ (by omega)).trans h46)), ⟨_, ((jset_ne _ _ (by omega)).trans ((jset_ne _ _ (by omega)).trans h47))⟩, ⟨_, ((jset_ne _ _ (by omega)).trans ((jset_ne _ _ (by omega)).trans h48))⟩⟩, rfl, fun j hj => ((jset_ne _ _ (by omega)).trans ((jset_ne _ _ (by omega)).trans (rfl : σ.2 j = σ.2 j)))⟩
    · first | exact absurd hb22 (by decide) | exact absurd rfl hb22 | omega
  · first | exact absurd hb9 (by decide) | exact absurd rfl hb9 | omega
set_option maxRecDepth 20000 in
theorem m_firstFit_0 {X : jX} {σ : jS} {pr : Int} {ln : Nat} {lw : Nat → Int} {bn : Nat → Nat} {cd sz : Nat → Nat → Nat} {ph : Nat → Nat → Int} {mn : Nat} {mg : Nat → Int} {kn : Nat} {kr : Nat → Int} {ks : Nat → Nat} {kt : Nat → Nat → Int} {rd : Nat} {rg : Nat → Int} {th : Int} {b c : Nat} (hM : MW σ th pr ln lw bn cd sz ph mn mg kn kr ks kt rd rg) (hI : CI pr ln lw bn cd sz ph mn mg kn kr ks kt rd rg) (hb : b < 3) (hc : c ≤ 11881375) : JM X mX7_firstFit rX7_firstFit [.ref 37, vI ((b : Nat) : Int), vI ((c : Nat) : Int)] σ (MP 0 ((ftt (bn b) (cd b) c)) σ (fun σ1 => MW σ1 0 pr ln lw bn cd sz ph mn mg kn kr ks kt rd rg)) := by
  refine JM.of (lc := [.ref 37, vI ((b : Nat) : Int), vI ((c : Nat) : Int)]) rfl ?_
  obtain ⟨hpr, ⟨hln, hlw⟩, hbk, ⟨hmn, hmg⟩, hki, hrd, hrg⟩ := id hI
  obtain ⟨⟨pa, ps, hO⟩, ⟨ml, h38, hml, hmi⟩, h39, ⟨Kw, h40, hw9, hkw⟩, h41, ⟨Mc, h42, hMc⟩, ⟨Ms, h43, hMs⟩, ⟨Mp, h44, hMp⟩, h45, h46, ⟨lf, h47⟩, ⟨pc, h48⟩⟩ := id hM
  have hkn := hki.1
  have hbn := (hbk b hb).1
  have hcd := (hbk b hb).2.1
  have hsz := (hbk b hb).2.2.1
  have hph := (hbk b hb).2.2.2
  have hc9 := fun e he => hMc b e hb he
  have hs9 := fun e he => hMs b e hb he
  have hp9 := fun t ht => hMp b t hb ht
  refine J.ald_n dX7_firstFit_0 rfl ?_
  refine J.iconst dX7_firstFit_1 ?_
  refine pf_X7_47 rfl dX7_firstFit_2 hO ?_
  refine J.ild_n dX7_firstFit_5 rfl ?_
  refine J.callS (rm' := rX7_isBook) [vI ((b : Nat) : Int)] dX7_firstFit_6 (c_X7_isBook_t (by unfold inI; omega) (by omega)) st_X7_isBook ml_X7_55 sm_X7_isBook rfl (Nat.le_of_ble_eq_true rfl) (by decide) (by decide) (Nat.le_of_ble_eq_true rfl) (by decide) (by decide) (Or.inl rfl) (fun E9 σ9 hq9 _ => nomatch hq9.1) (fun r9 σ9 hq9 hle9 => ?_)
  obtain ⟨h9, h8⟩ := hq9
  rw [h8]
  clear hle9 h8 σ9
  cases h9
  refine J.if_ne dX7_firstFit_9 (by decide) (tgt := 18) (by unfold inI; omega) (fun hb9 => ?_) (fun hb9 => ?_)
  · refine J.ild_n dX7_firstFit_18 rfl ?_
    refine J.callS (rm' := rX7_isCode) [vI ((c : Nat) : Int)] dX7_firstFit_19 (c_X7_isCode_t (by unfold inI; omega) (by omega)) st_X7_isCode ml_X7_78 sm_X7_isCode rfl (Nat.le_of_ble_eq_true rfl) (by decide) (by decide) (Nat.le_of_ble_eq_true rfl) (by decide) (by decide) (Or.inl rfl) (fun E9 σ9 hq9 _ => nomatch hq9.1) (fun r9 σ9 hq9 hle9 => ?_)
    obtain ⟨h9, h8⟩ := hq9
    rw [h8]
    clear hle9 h8 σ9
    cases h9
    refine J.if_eq dX7_firstFit_22 (by decide) (tgt := 34) (by unfold inI; omega) (fun hb22 => ?_) (fun hb22 => ?_)
    · first | exact absurd hb22 (by decide) | exact absurd rfl hb22 | omega
    · refine J.ald_n dX7_firstFit_25 rfl ?_
      refine J.ild_n dX7_firstFit_26 rfl ?_
      refine J.ild_n dX7_firstFit_27 rfl ?_
      refine J.callV (rm' := rX7_fitFrom) [vI ((b : Nat) : Int), vI ((c : Nat) : Int)] dX7_firstFit_28 (c_X7_fitFrom (jset_eq _ _ _) ((jset_ne _ _ (by omega)).trans h41) hb hbn ((jset_ne _ _ (by omega)).trans h42) hc9 hcd hc) (jset_eq _ _ _) rfl st_X7_fitFrom ml_X7_98 im_X7_fitFrom se_X7_fitFrom rfl (Nat.le_of_ble_eq_true rfl) (by decide) (by decide) (Nat.le_of_ble_eq_true rfl) (by decide) (by decide) (Or.inl rfl) (fun E9 σ9 hq9 _ => nomatch hq9.1) (fun r9 σ9 hq9 hle9 => ?_)
      obtain ⟨h9, h8⟩ := hq9
      rw [h8]
      clear hle9 h8 σ9
      cases h9
      refine J.goto dX7_firstFit_31 (by decide) (tgt := 39) ?_
      refine J.iret .int dX7_firstFit_39 rfl rfl (by decide) (by decide) ?_
      exact ⟨⟨_, rfl, fun _ => rfl⟩, ⟨⟨pa, ps, (jset_eq _ _ _)⟩, ⟨ml, ((jset_ne _ _ (by omega)).trans h38), hml, hmi⟩, ((jset_ne _ _ (by omega)).trans h39), ⟨Kw, ((jset_ne _ _ (by omega)).trans h40), hw9, hkw⟩, ((jset_ne _ _ (by omega)).trans h41), ⟨Mc, ((jset_ne _ _ (by omega)).trans h42), hMc⟩, ⟨Ms, ((jset_ne _ _ (by omega)).trans h43), hMs⟩, ⟨Mp, ((jset_ne _ _ (by omega)).trans h44), hMp⟩, ((jset_ne _ _ (by omega)).trans h45), ((jset_ne _ _ (by omega)).trans h46), ⟨_, ((jset_ne _ _ (by omega)).trans h47)⟩, ⟨_, ((jset_ne _ _ (by omega)).trans h48)⟩⟩, rfl, fun j hj => ((jset_ne _ _ (by omega)).trans (rfl : σ.2 j = σ.2 j))⟩
  · first | exact absurd hb9 (by decide) | exact absurd rfl hb9 | omega
set_option maxRecDepth 20000 in
theorem m_find_1 {X : jX} {σ : jS} {pr : Int} {ln : Nat} {lw : Nat → Int} {bn : Nat → Nat} {cd sz : Nat → Nat → Nat} {ph : Nat → Nat → Int} {mn : Nat} {mg : Nat → Int} {kn : Nat} {kr : Nat → Int} {ks : Nat → Nat} {kt : Nat → Nat → Int} {rd : Nat} {rg : Nat → Int} {th : Int} {a c : Int} (hM : MW σ th pr ln lw bn cd sz ph mn mg kn kr ks kt rd rg) (hI : CI pr ln lw bn cd sz ph mn mg kn kr ks kt rd rg) (hi : inI a) (ha : ¬ (0 ≤ a ∧ a < 3)) : JM X mX7_find rX7_find [.ref 37, vI a, vI c] σ (MP 1 (0) σ (fun σ1 => MW σ1 1 pr ln lw bn cd sz ph mn mg kn kr ks kt rd rg)) := by
  refine JM.of (lc := [.ref 37, vI a, vI c]) rfl ?_
  obtain ⟨hpr, ⟨hln, hlw⟩, hbk, ⟨hmn, hmg⟩, hki, hrd, hrg⟩ := id hI
  obtain ⟨⟨pa, ps, hO⟩, ⟨ml, h38, hml, hmi⟩, h39, ⟨Kw, h40, hw9, hkw⟩, h41, ⟨Mc, h42, hMc⟩, ⟨Ms, h43, hMs⟩, ⟨Mp, h44, hMp⟩, h45, h46, ⟨lf, h47⟩, ⟨pc, h48⟩⟩ := id hM
  have hkn := hki.1
  refine J.ald_n dX7_find_0 rfl ?_
  refine J.iconst dX7_find_1 ?_
  refine pf_X7_47 rfl dX7_find_2 hO ?_
  refine J.ild_n dX7_find_5 rfl ?_
  refine J.callS (rm' := rX7_isBook) [vI a] dX7_find_6 (c_X7_isBook_f hi (by omega)) st_X7_isBook ml_X7_55 sm_X7_isBook rfl (Nat.le_of_ble_eq_true rfl) (by decide) (by decide) (Nat.le_of_ble_eq_true rfl) (by decide) (by decide) (Or.inl rfl) (fun E9 σ9 hq9 _ => nomatch hq9.1) (fun r9 σ9 hq9 hle9 => ?_)
  obtain ⟨h9, h8⟩ := hq9
  rw [h8]
  clear hle9 h8 σ9
  cases h9
  refine J.if_ne dX7_find_9 (by decide) (tgt := 18) (by unfold inI; omega) (fun hb9 => ?_) (fun hb9 => ?_)
  · first | exact absurd hb9 (by decide) | exact absurd rfl hb9 | omega
  · refine J.ald_n dX7_find_12 rfl ?_
    refine J.iconst dX7_find_13 ?_
    refine J.callV (rm' := rX7_no) [vI 1] dX7_find_14 (c_X7_no (jset_eq _ _ _)) (jset_eq _ _ _) rfl st_X7_no ml_X7_59 im_X7_no se_X7_no rfl (Nat.le_of_ble_eq_true rfl) (by decide) (by decide) (Nat.le_of_ble_eq_true rfl) (by decide) (by decide) (Or.inl rfl) (fun E9 σ9 hq9 _ => nomatch hq9.1) (fun r9 σ9 hq9 hle9 => ?_)
    obtain ⟨h9, h8⟩ := hq9
    cases h9
    subst h8
    clear hle9
    refine J.iret .int dX7_find_17 rfl rfl (by decide) (by decide) ?_
    exact ⟨⟨_, rfl, fun q => absurd q (by decide)⟩, ⟨⟨pa, ps, (jset_eq _ _ _)⟩, ⟨ml, ((jset_ne _ _ (by omega)).trans ((jset_ne _ _ (by omega)).trans h38)), hml, hmi⟩, ((jset_ne _ _ (by omega)).trans ((jset_ne _ _ (by omega)).trans h39)), ⟨Kw, ((jset_ne _ _ (by omega)).trans ((jset_ne _ _ (by omega)).trans h40)), hw9, hkw⟩, ((jset_ne _ _ (by omega)).trans ((jset_ne _ _ (by omega)).trans h41)), ⟨Mc, ((jset_ne _ _ (by omega)).trans ((jset_ne _ _ (by omega)).trans h42)), hMc⟩, ⟨Ms, ((jset_ne _ _ (by omega)).trans ((jset_ne _ _ (by omega)).trans h43)), hMs⟩, ⟨Mp, ((jset_ne _ _ (by omega)).trans ((jset_ne _ _ (by omega)).trans h44)), hMp⟩, ((jset_ne _ _ (by omega)).trans ((jset_ne _ _ (by omega)).trans h45)), ((jset_ne _ _ (by omega)).trans ((jset_ne _ _ (by omega)).trans h46)), ⟨_, ((jset_ne _ _ (by omega)).trans ((jset_ne _ _ (by omega)).trans h47))⟩, ⟨_, ((jset_ne _ _ (by omega)).trans ((jset_ne _ _ (by omega)).trans h48))⟩⟩, rfl, fun j hj => ((jset_ne _ _ (by omega)).trans ((jset_ne _ _ (by omega)).trans (rfl : σ.2 j = σ.2 j)))⟩
set_option maxRecDepth 20000 in
theorem m_find_2 {X : jX} {σ : jS} {pr : Int} {ln : Nat} {lw : Nat → Int} {bn : Nat → Nat} {cd sz : Nat → Nat → Nat} {ph : Nat → Nat → Int} {mn : Nat} {mg : Nat → Int} {kn : Nat} {kr : Nat → Int} {ks : Nat → Nat} {kt : Nat → Nat → Int} {rd : Nat} {rg : Nat → Int} {th : Int} {b : Nat} {a : Int} (hM : MW σ th pr ln lw bn cd sz ph mn mg kn kr ks kt rd rg) (hI : CI pr ln lw bn cd sz ph mn mg kn kr ks kt rd rg) (hb : b < 3) (hi : inI a) (ha : ¬ (0 ≤ a ∧ a ≤ 11881375)) : JM X mX7_find rX7_find [.ref 37, vI ((b : Nat) : Int), vI a] σ (MP 2 (0) σ (fun σ1 => MW σ1 2 pr ln lw bn cd sz ph mn mg kn kr ks kt rd rg)) := by
  refine JM.of (lc := [.ref 37, vI ((b : Nat) : Int), vI a]) rfl ?_
  obtain ⟨hpr, ⟨hln, hlw⟩, hbk, ⟨hmn, hmg⟩, hki, hrd, hrg⟩ := id hI
  obtain ⟨⟨pa, ps, hO⟩, ⟨ml, h38, hml, hmi⟩, h39, ⟨Kw, h40, hw9, hkw⟩, h41, ⟨Mc, h42, hMc⟩, ⟨Ms, h43, hMs⟩, ⟨Mp, h44, hMp⟩, h45, h46, ⟨lf, h47⟩, ⟨pc, h48⟩⟩ := id hM
  have hkn := hki.1
  refine J.ald_n dX7_find_0 rfl ?_
  refine J.iconst dX7_find_1 ?_
  refine pf_X7_47 rfl dX7_find_2 hO ?_
  refine J.ild_n dX7_find_5 rfl ?_
  refine J.callS (rm' := rX7_isBook) [vI ((b : Nat) : Int)] dX7_find_6 (c_X7_isBook_t (by unfold inI; omega) (by omega)) st_X7_isBook ml_X7_55 sm_X7_isBook rfl (Nat.le_of_ble_eq_true rfl) (by decide) (by decide) (Nat.le_of_ble_eq_true rfl) (by decide) (by decide) (Or.inl rfl) (fun E9 σ9 hq9 _ => nomatch hq9.1) (fun r9 σ9 hq9 hle9 => ?_)
  obtain ⟨h9, h8⟩ := hq9
  rw [h8]
  clear hle9 h8 σ9
  cases h9
  refine J.if_ne dX7_find_9 (by decide) (tgt := 18) (by unfold inI; omega) (fun hb9 => ?_) (fun hb9 => ?_)
  · refine J.ild_n dX7_find_18 rfl ?_
    refine J.callS (rm' := rX7_isCode) [vI a] dX7_find_19 (c_X7_isCode_f hi (by omega)) st_X7_isCode ml_X7_78 sm_X7_isCode rfl (Nat.le_of_ble_eq_true rfl) (by decide) (by decide) (Nat.le_of_ble_eq_true rfl) (by decide) (by decide) (Or.inl rfl) (fun E9 σ9 hq9 _ => nomatch hq9.1) (fun r9 σ9 hq9 hle9 => ?_)
    obtain ⟨h9, h8⟩ := hq9
    rw [h8]
    clear hle9 h8 σ9
    cases h9
    refine J.if_eq dX7_find_22 (by decide) (tgt := 34) (by unfold inI; omega) (fun hb22 => ?_) (fun hb22 => ?_)
    · refine J.ald_n dX7_find_34 rfl ?_
      refine J.iconst dX7_find_35 ?_
      refine J.callV (rm' := rX7_no) [vI 2] dX7_find_36 (c_X7_no (jset_eq _ _ _)) (jset_eq _ _ _) rfl st_X7_no ml_X7_59 im_X7_no se_X7_no rfl (Nat.le_of_ble_eq_true rfl) (by decide) (by decide) (Nat.le_of_ble_eq_true rfl) (by decide) (by decide) (Or.inl rfl) (fun E9 σ9 hq9 _ => nomatch hq9.1) (fun r9 σ9 hq9 hle9 => ?_)
      obtain ⟨h9, h8⟩ := hq9
      cases h9
      subst h8
      clear hle9
      refine J.iret .int dX7_find_39 rfl rfl (by decide) (by decide) ?_
      exact ⟨⟨_, rfl, fun q => absurd q (by decide)⟩, ⟨⟨pa, ps, (jset_eq _ _ _)⟩, ⟨ml, ((jset_ne _ _ (by omega)).trans ((jset_ne _ _ (by omega)).trans h38)), hml, hmi⟩, ((jset_ne _ _ (by omega)).trans ((jset_ne _ _ (by omega)).trans h39)), ⟨Kw, ((jset_ne _ _ (by omega)).trans ((jset_ne _ _ (by omega)).trans h40)), hw9, hkw⟩, ((jset_ne _ _ (by omega)).trans ((jset_ne _ _ (by omega)).trans h41)), ⟨Mc, ((jset_ne _ _ (by omega)).trans ((jset_ne _ _ (by omega)).trans h42)), hMc⟩, ⟨Ms, ((jset_ne _ _ (by omega)).trans ((jset_ne _ _ (by omega)).trans h43)), hMs⟩, ⟨Mp, ((jset_ne _ _ (by omega)).trans ((jset_ne _ _ (by omega)).trans h44)), hMp⟩, ((jset_ne _ _ (by omega)).trans ((jset_ne _ _ (by omega)).trans h45)), ((jset_ne _ _ (by omega)).trans ((jset_ne _ _ (by omega)).trans h46)), ⟨_, ((jset_ne _ _ (by omega)).trans ((jset_ne _ _ (by omega)).trans h47))⟩, ⟨_, ((jset_ne _ _ (by omega)).trans ((jset_ne _ _ (by omega)).trans h48))⟩⟩, rfl, fun j hj => ((jset_ne _ _ (by omega)).trans ((jset_ne _ _ (by omega)).trans (rfl : σ.2 j = σ.2 j)))⟩
    · first | exact absurd hb22 (by decide) | exact absurd rfl hb22 | omega
  · first | exact absurd hb9 (by decide) | exact absurd rfl hb9 | omega
set_option maxRecDepth 20000 in
theorem m_find_0 {X : jX} {σ : jS} {pr : Int} {ln : Nat} {lw : Nat → Int} {bn : Nat → Nat} {cd sz : Nat → Nat → Nat} {ph : Nat → Nat → Int} {mn : Nat} {mg : Nat → Int} {kn : Nat} {kr : Nat → Int} {ks : Nat → Nat} {kt : Nat → Nat → Int} {rd : Nat} {rg : Nat → Int} {th : Int} {b c : Nat} (hM : MW σ th pr ln lw bn cd sz ph mn mg kn kr ks kt rd rg) (hI : CI pr ln lw bn cd sz ph mn mg kn kr ks kt rd rg) (hb : b < 3) (hc : c ≤ 11881375) : JM X mX7_find rX7_find [.ref 37, vI ((b : Nat) : Int), vI ((c : Nat) : Int)] σ (MP 0 ((fnU (cd b) c (bn b) 0)) σ (fun σ1 => MW σ1 0 pr ln lw bn cd sz ph mn mg kn kr ks kt rd rg)) := by
  refine JM.of (lc := [.ref 37, vI ((b : Nat) : Int), vI ((c : Nat) : Int)]) rfl ?_
  obtain ⟨hpr, ⟨hln, hlw⟩, hbk, ⟨hmn, hmg⟩, hki, hrd, hrg⟩ := id hI
  obtain ⟨⟨pa, ps, hO⟩, ⟨ml, h38, hml, hmi⟩, h39, ⟨Kw, h40, hw9, hkw⟩, h41, ⟨Mc, h42, hMc⟩, ⟨Ms, h43, hMs⟩, ⟨Mp, h44, hMp⟩, h45, h46, ⟨lf, h47⟩, ⟨pc, h48⟩⟩ := id hM
  have hkn := hki.1
  have hbn := (hbk b hb).1
  have hcd := (hbk b hb).2.1
  have hsz := (hbk b hb).2.2.1
  have hph := (hbk b hb).2.2.2
  have hc9 := fun e he => hMc b e hb he
  have hs9 := fun e he => hMs b e hb he
  have hp9 := fun t ht => hMp b t hb ht
  refine J.ald_n dX7_find_0 rfl ?_
  refine J.iconst dX7_find_1 ?_
  refine pf_X7_47 rfl dX7_find_2 hO ?_
  refine J.ild_n dX7_find_5 rfl ?_
  refine J.callS (rm' := rX7_isBook) [vI ((b : Nat) : Int)] dX7_find_6 (c_X7_isBook_t (by unfold inI; omega) (by omega)) st_X7_isBook ml_X7_55 sm_X7_isBook rfl (Nat.le_of_ble_eq_true rfl) (by decide) (by decide) (Nat.le_of_ble_eq_true rfl) (by decide) (by decide) (Or.inl rfl) (fun E9 σ9 hq9 _ => nomatch hq9.1) (fun r9 σ9 hq9 hle9 => ?_)
  obtain ⟨h9, h8⟩ := hq9
  rw [h8]
  clear hle9 h8 σ9
  cases h9
  refine J.if_ne dX7_find_9 (by decide) (tgt := 18) (by unfold inI; omega) (fun hb9 => ?_) (fun hb9 => ?_)
  · refine J.ild_n dX7_find_18 rfl ?_
    refine J.callS (rm' := rX7_isCode) [vI ((c : Nat) : Int)] dX7_find_19 (c_X7_isCode_t (by unfold inI; omega) (by omega)) st_X7_isCode ml_X7_78 sm_X7_isCode rfl (Nat.le_of_ble_eq_true rfl) (by decide) (by decide) (Nat.le_of_ble_eq_true rfl) (by decide) (by decide) (Or.inl rfl) (fun E9 σ9 hq9 _ => nomatch hq9.1) (fun r9 σ9 hq9 hle9 => ?_)
    obtain ⟨h9, h8⟩ := hq9
    rw [h8]
    clear hle9 h8 σ9
    cases h9
    refine J.if_eq dX7_find_22 (by decide) (tgt := 34) (by unfold inI; omega) (fun hb22 => ?_) (fun hb22 => ?_)
    · first | exact absurd hb22 (by decide) | exact absurd rfl hb22 | omega
    · refine J.ald_n dX7_find_25 rfl ?_
      refine J.ild_n dX7_find_26 rfl ?_
      refine J.ild_n dX7_find_27 rfl ?_
      refine J.callV (rm' := rX7_entryOf) [vI ((b : Nat) : Int), vI ((c : Nat) : Int)] dX7_find_28 (c_X7_entryOf (jset_eq _ _ _) ((jset_ne _ _ (by omega)).trans h41) hb hbn ((jset_ne _ _ (by omega)).trans h42) hc9 hcd hc) (jset_eq _ _ _) rfl st_X7_entryOf ml_X7_108 im_X7_entryOf se_X7_entryOf rfl (Nat.le_of_ble_eq_true rfl) (by decide) (by decide) (Nat.le_of_ble_eq_true rfl) (by decide) (by decide) (Or.inl rfl) (fun E9 σ9 hq9 _ => nomatch hq9.1) (fun r9 σ9 hq9 hle9 => ?_)
      obtain ⟨h9, h8⟩ := hq9
      rw [h8]
      clear hle9 h8 σ9
      cases h9
      refine J.goto dX7_find_31 (by decide) (tgt := 39) ?_
      refine J.iret .int dX7_find_39 rfl rfl (by decide) (by decide) ?_
      exact ⟨⟨_, rfl, fun _ => rfl⟩, ⟨⟨pa, ps, (jset_eq _ _ _)⟩, ⟨ml, ((jset_ne _ _ (by omega)).trans h38), hml, hmi⟩, ((jset_ne _ _ (by omega)).trans h39), ⟨Kw, ((jset_ne _ _ (by omega)).trans h40), hw9, hkw⟩, ((jset_ne _ _ (by omega)).trans h41), ⟨Mc, ((jset_ne _ _ (by omega)).trans h42), hMc⟩, ⟨Ms, ((jset_ne _ _ (by omega)).trans h43), hMs⟩, ⟨Mp, ((jset_ne _ _ (by omega)).trans h44), hMp⟩, ((jset_ne _ _ (by omega)).trans h45), ((jset_ne _ _ (by omega)).trans h46), ⟨_, ((jset_ne _ _ (by omega)).trans h47)⟩, ⟨_, ((jset_ne _ _ (by omega)).trans h48)⟩⟩, rfl, fun j hj => ((jset_ne _ _ (by omega)).trans (rfl : σ.2 j = σ.2 j))⟩
  · first | exact absurd hb9 (by decide) | exact absurd rfl hb9 | omega
set_option maxRecDepth 20000 in
theorem m_entries_1 {X : jX} {σ : jS} {pr : Int} {ln : Nat} {lw : Nat → Int} {bn : Nat → Nat} {cd sz : Nat → Nat → Nat} {ph : Nat → Nat → Int} {mn : Nat} {mg : Nat → Int} {kn : Nat} {kr : Nat → Int} {ks : Nat → Nat} {kt : Nat → Nat → Int} {rd : Nat} {rg : Nat → Int} {th : Int} {a : Int} (hM : MW σ th pr ln lw bn cd sz ph mn mg kn kr ks kt rd rg) (hI : CI pr ln lw bn cd sz ph mn mg kn kr ks kt rd rg) (hi : inI a) (ha : ¬ (0 ≤ a ∧ a < 3)) : JM X mX7_entries rX7_entries [.ref 37, vI a] σ (MP 1 (0) σ (fun σ1 => MW σ1 1 pr ln lw bn cd sz ph mn mg kn kr ks kt rd rg)) := by
  refine JM.of (lc := [.ref 37, vI a]) rfl ?_
  obtain ⟨hpr, ⟨hln, hlw⟩, hbk, ⟨hmn, hmg⟩, hki, hrd, hrg⟩ := id hI
  obtain ⟨⟨pa, ps, hO⟩, ⟨ml, h38, hml, hmi⟩, h39, ⟨Kw, h40, hw9, hkw⟩, h41, ⟨Mc, h42, hMc⟩, ⟨Ms, h43, hMs⟩, ⟨Mp, h44, hMp⟩, h45, h46, ⟨lf, h47⟩, ⟨pc, h48⟩⟩ := id hM
  have hkn := hki.1
  refine J.ald_n dX7_entries_0 rfl ?_
  refine J.iconst dX7_entries_1 ?_
  refine pf_X7_47 rfl dX7_entries_2 hO ?_
  refine J.ild_n dX7_entries_5 rfl ?_
  refine J.callS (rm' := rX7_isBook) [vI a] dX7_entries_6 (c_X7_isBook_f hi (by omega)) st_X7_isBook ml_X7_55 sm_X7_isBook rfl (Nat.le_of_ble_eq_true rfl) (by decide) (by decide) (Nat.le_of_ble_eq_true rfl) (by decide) (by decide) (Or.inl rfl) (fun E9 σ9 hq9 _ => nomatch hq9.1) (fun r9 σ9 hq9 hle9 => ?_)
  obtain ⟨h9, h8⟩ := hq9
  rw [h8]
  clear hle9 h8 σ9
  cases h9
  refine J.if_eq dX7_entries_9 (by decide) (tgt := 21) (by unfold inI; omega) (fun hb9 => ?_) (fun hb9 => ?_)
  · refine J.ald_n dX7_entries_21 rfl ?_
    refine J.iconst dX7_entries_22 ?_
    refine J.callV (rm' := rX7_no) [vI 1] dX7_entries_23 (c_X7_no (jset_eq _ _ _)) (jset_eq _ _ _) rfl st_X7_no ml_X7_59 im_X7_no se_X7_no rfl (Nat.le_of_ble_eq_true rfl) (by decide) (by decide) (Nat.le_of_ble_eq_true rfl) (by decide) (by decide) (Or.inl rfl) (fun E9 σ9 hq9 _ => nomatch hq9.1) (fun r9 σ9 hq9 hle9 => ?_)
    obtain ⟨h9, h8⟩ := hq9
    cases h9
    subst h8
    clear hle9
    refine J.iret .int dX7_entries_26 rfl rfl (by decide) (by decide) ?_
    exact ⟨⟨_, rfl, fun q => absurd q (by decide)⟩, ⟨⟨pa, ps, (jset_eq _ _ _)⟩, ⟨ml, ((jset_ne _ _ (by omega)).trans ((jset_ne _ _ (by omega)).trans h38)), hml, hmi⟩, ((jset_ne _ _ (by omega)).trans ((jset_ne _ _ (by omega)).trans h39)), ⟨Kw, ((jset_ne _ _ (by omega)).trans ((jset_ne _ _ (by omega)).trans h40)), hw9, hkw⟩, ((jset_ne _ _ (by omega)).trans ((jset_ne _ _ (by omega)).trans h41)), ⟨Mc, ((jset_ne _ _ (by omega)).trans ((jset_ne _ _ (by omega)).trans h42)), hMc⟩, ⟨Ms, ((jset_ne _ _ (by omega)).trans ((jset_ne _ _ (by omega)).trans h43)), hMs⟩, ⟨Mp, ((jset_ne _ _ (by omega)).trans ((jset_ne _ _ (by omega)).trans h44)), hMp⟩, ((jset_ne _ _ (by omega)).trans ((jset_ne _ _ (by omega)).trans h45)), ((jset_ne _ _ (by omega)).trans ((jset_ne _ _ (by omega)).trans h46)), ⟨_, ((jset_ne _ _ (by omega)).trans ((jset_ne _ _ (by omega)).trans h47))⟩, ⟨_, ((jset_ne _ _ (by omega)).trans ((jset_ne _ _ (by omega)).trans h48))⟩⟩, rfl, fun j hj => ((jset_ne _ _ (by omega)).trans ((jset_ne _ _ (by omega)).trans (rfl : σ.2 j = σ.2 j)))⟩
  · first | exact absurd hb9 (by decide) | exact absurd rfl hb9 | omega
set_option maxRecDepth 20000 in
theorem m_entries_0 {X : jX} {σ : jS} {pr : Int} {ln : Nat} {lw : Nat → Int} {bn : Nat → Nat} {cd sz : Nat → Nat → Nat} {ph : Nat → Nat → Int} {mn : Nat} {mg : Nat → Int} {kn : Nat} {kr : Nat → Int} {ks : Nat → Nat} {kt : Nat → Nat → Int} {rd : Nat} {rg : Nat → Int} {th : Int} {b : Nat} (hM : MW σ th pr ln lw bn cd sz ph mn mg kn kr ks kt rd rg) (hI : CI pr ln lw bn cd sz ph mn mg kn kr ks kt rd rg) (hb : b < 3) : JM X mX7_entries rX7_entries [.ref 37, vI ((b : Nat) : Int)] σ (MP 0 (((bn b : Nat) : Int)) σ (fun σ1 => MW σ1 0 pr ln lw bn cd sz ph mn mg kn kr ks kt rd rg)) := by
  refine JM.of (lc := [.ref 37, vI ((b : Nat) : Int)]) rfl ?_
  obtain ⟨hpr, ⟨hln, hlw⟩, hbk, ⟨hmn, hmg⟩, hki, hrd, hrg⟩ := id hI
  obtain ⟨⟨pa, ps, hO⟩, ⟨ml, h38, hml, hmi⟩, h39, ⟨Kw, h40, hw9, hkw⟩, h41, ⟨Mc, h42, hMc⟩, ⟨Ms, h43, hMs⟩, ⟨Mp, h44, hMp⟩, h45, h46, ⟨lf, h47⟩, ⟨pc, h48⟩⟩ := id hM
  have hkn := hki.1
  have hbn := (hbk b hb).1
  have hcd := (hbk b hb).2.1
  have hsz := (hbk b hb).2.2.1
  have hph := (hbk b hb).2.2.2
  have hc9 := fun e he => hMc b e hb he
  have hs9 := fun e he => hMs b e hb he
  have hp9 := fun t ht => hMp b t hb ht
  refine J.ald_n dX7_entries_0 rfl ?_
  refine J.iconst dX7_entries_1 ?_
  refine pf_X7_47 rfl dX7_entries_2 hO ?_
  refine J.ild_n dX7_entries_5 rfl ?_
  refine J.callS (rm' := rX7_isBook) [vI ((b : Nat) : Int)] dX7_entries_6 (c_X7_isBook_t (by unfold inI; omega) (by omega)) st_X7_isBook ml_X7_55 sm_X7_isBook rfl (Nat.le_of_ble_eq_true rfl) (by decide) (by decide) (Nat.le_of_ble_eq_true rfl) (by decide) (by decide) (Or.inl rfl) (fun E9 σ9 hq9 _ => nomatch hq9.1) (fun r9 σ9 hq9 hle9 => ?_)
  obtain ⟨h9, h8⟩ := hq9
  rw [h8]
  clear hle9 h8 σ9
  cases h9
  refine J.if_eq dX7_entries_9 (by decide) (tgt := 21) (by unfold inI; omega) (fun hb9 => ?_) (fun hb9 => ?_)
  · first | exact absurd hb9 (by decide) | exact absurd rfl hb9 | omega
  · refine J.ald_n dX7_entries_12 rfl ?_
    refine gf_X7_23 rfl dX7_entries_13 (jset_eq _ _ _) ?_
    refine J.ild_n dX7_entries_16 rfl ?_
    refine J.iald b dX7_entries_17 ((jset_ne _ _ (by omega)).trans h41) rfl (by omega) (by omega) ?_
    refine J.goto dX7_entries_18 (by decide) (tgt := 26) ?_
    refine J.iret .int dX7_entries_26 rfl rfl (by decide) (by decide) ?_
    exact ⟨⟨_, rfl, fun _ => rfl⟩, ⟨⟨pa, ps, (jset_eq _ _ _)⟩, ⟨ml, ((jset_ne _ _ (by omega)).trans h38), hml, hmi⟩, ((jset_ne _ _ (by omega)).trans h39), ⟨Kw, ((jset_ne _ _ (by omega)).trans h40), hw9, hkw⟩, ((jset_ne _ _ (by omega)).trans h41), ⟨Mc, ((jset_ne _ _ (by omega)).trans h42), hMc⟩, ⟨Ms, ((jset_ne _ _ (by omega)).trans h43), hMs⟩, ⟨Mp, ((jset_ne _ _ (by omega)).trans h44), hMp⟩, ((jset_ne _ _ (by omega)).trans h45), ((jset_ne _ _ (by omega)).trans h46), ⟨_, ((jset_ne _ _ (by omega)).trans h47)⟩, ⟨_, ((jset_ne _ _ (by omega)).trans h48)⟩⟩, rfl, fun j hj => ((jset_ne _ _ (by omega)).trans (rfl : σ.2 j = σ.2 j))⟩
set_option maxRecDepth 20000 in
theorem m_entry_1 {X : jX} {σ : jS} {pr : Int} {ln : Nat} {lw : Nat → Int} {bn : Nat → Nat} {cd sz : Nat → Nat → Nat} {ph : Nat → Nat → Int} {mn : Nat} {mg : Nat → Int} {kn : Nat} {kr : Nat → Int} {ks : Nat → Nat} {kt : Nat → Nat → Int} {rd : Nat} {rg : Nat → Int} {th : Int} {a c d : Int} (hM : MW σ th pr ln lw bn cd sz ph mn mg kn kr ks kt rd rg) (hI : CI pr ln lw bn cd sz ph mn mg kn kr ks kt rd rg) (hi : inI a) (ha : ¬ (0 ≤ a ∧ a < 3)) : JM X mX7_entry rX7_entry [.ref 37, vI a, vI c, vI d] σ (MP 1 (0) σ (fun σ1 => MW σ1 1 pr ln lw bn cd sz ph mn mg kn kr ks kt rd rg)) := by
  refine JM.of (lc := [.ref 37, vI a, vI c, vI d, .null]) rfl ?_
  obtain ⟨hpr, ⟨hln, hlw⟩, hbk, ⟨hmn, hmg⟩, hki, hrd, hrg⟩ := id hI
  obtain ⟨⟨pa, ps, hO⟩, ⟨ml, h38, hml, hmi⟩, h39, ⟨Kw, h40, hw9, hkw⟩, h41, ⟨Mc, h42, hMc⟩, ⟨Ms, h43, hMs⟩, ⟨Mp, h44, hMp⟩, h45, h46, ⟨lf, h47⟩, ⟨pc, h48⟩⟩ := id hM
  have hkn := hki.1
  refine J.ald_n dX7_entry_0 rfl ?_
  refine J.iconst dX7_entry_1 ?_
  refine pf_X7_47 rfl dX7_entry_2 hO ?_
  refine J.ald_n dX7_entry_5 rfl ?_
  refine J.ild_n dX7_entry_6 rfl ?_
  refine J.ild_n dX7_entry_7 rfl ?_
  refine J.callV (rm' := rX7_isEntry) [vI a, vI c] dX7_entry_8 (c_X7_isEntry_b (jset_eq _ _ _) hi (by omega)) (jset_eq _ _ _) rfl st_X7_isEntry ml_X7_105 im_X7_isEntry se_X7_isEntry rfl (Nat.le_of_ble_eq_true rfl) (by decide) (by decide) (Nat.le_of_ble_eq_true rfl) (by decide) (by decide) (Or.inl rfl) (fun E9 σ9 hq9 _ => nomatch hq9.1) (fun r9 σ9 hq9 hle9 => ?_)
  obtain ⟨h9, h8⟩ := hq9
  rw [h8]
  clear hle9 h8 σ9
  cases h9
  refine J.if_ne dX7_entry_11 (by decide) (tgt := 20) (by unfold inI; omega) (fun hb11 => ?_) (fun hb11 => ?_)
  · first | exact absurd hb11 (by decide) | exact absurd rfl hb11 | omega
  · refine J.ald_n dX7_entry_14 rfl ?_
    refine J.iconst dX7_entry_15 ?_
    refine J.callV (rm' := rX7_no) [vI 1] dX7_entry_16 (c_X7_no (jset_eq _ _ _)) (jset_eq _ _ _) rfl st_X7_no ml_X7_59 im_X7_no se_X7_no rfl (Nat.le_of_ble_eq_true rfl) (by decide) (by decide) (Nat.le_of_ble_eq_true rfl) (by decide) (by decide) (Or.inl rfl) (fun E9 σ9 hq9 _ => nomatch hq9.1) (fun r9 σ9 hq9 hle9 => ?_)
    obtain ⟨h9, h8⟩ := hq9
    cases h9
    subst h8
    clear hle9
    refine J.iret .int dX7_entry_19 rfl rfl (by decide) (by decide) ?_
    exact ⟨⟨_, rfl, fun q => absurd q (by decide)⟩, ⟨⟨pa, ps, (jset_eq _ _ _)⟩, ⟨ml, ((jset_ne _ _ (by omega)).trans ((jset_ne _ _ (by omega)).trans h38)), hml, hmi⟩, ((jset_ne _ _ (by omega)).trans ((jset_ne _ _ (by omega)).trans h39)), ⟨Kw, ((jset_ne _ _ (by omega)).trans ((jset_ne _ _ (by omega)).trans h40)), hw9, hkw⟩, ((jset_ne _ _ (by omega)).trans ((jset_ne _ _ (by omega)).trans h41)), ⟨Mc, ((jset_ne _ _ (by omega)).trans ((jset_ne _ _ (by omega)).trans h42)), hMc⟩, ⟨Ms, ((jset_ne _ _ (by omega)).trans ((jset_ne _ _ (by omega)).trans h43)), hMs⟩, ⟨Mp, ((jset_ne _ _ (by omega)).trans ((jset_ne _ _ (by omega)).trans h44)), hMp⟩, ((jset_ne _ _ (by omega)).trans ((jset_ne _ _ (by omega)).trans h45)), ((jset_ne _ _ (by omega)).trans ((jset_ne _ _ (by omega)).trans h46)), ⟨_, ((jset_ne _ _ (by omega)).trans ((jset_ne _ _ (by omega)).trans h47))⟩, ⟨_, ((jset_ne _ _ (by omega)).trans ((jset_ne _ _ (by omega)).trans h48))⟩⟩, rfl, fun j hj => ((jset_ne _ _ (by omega)).trans ((jset_ne _ _ (by omega)).trans (rfl : σ.2 j = σ.2 j)))⟩
set_option maxRecDepth 20000 in
theorem m_entry_2 {X : jX} {σ : jS} {pr : Int} {ln : Nat} {lw : Nat → Int} {bn : Nat → Nat} {cd sz : Nat → Nat → Nat} {ph : Nat → Nat → Int} {mn : Nat} {mg : Nat → Int} {kn : Nat} {kr : Nat → Int} {ks : Nat → Nat} {kt : Nat → Nat → Int} {rd : Nat} {rg : Nat → Int} {th : Int} {b : Nat} {a d : Int} (hM : MW σ th pr ln lw bn cd sz ph mn mg kn kr ks kt rd rg) (hI : CI pr ln lw bn cd sz ph mn mg kn kr ks kt rd rg) (hb : b < 3) (hi : inI a) (ha : ¬ (0 ≤ a ∧ a < ((bn b : Nat) : Int))) : JM X mX7_entry rX7_entry [.ref 37, vI ((b : Nat) : Int), vI a, vI d] σ (MP 1 (0) σ (fun σ1 => MW σ1 1 pr ln lw bn cd sz ph mn mg kn kr ks kt rd rg)) := by
  refine JM.of (lc := [.ref 37, vI ((b : Nat) : Int), vI a, vI d, .null]) rfl ?_
  obtain ⟨hpr, ⟨hln, hlw⟩, hbk, ⟨hmn, hmg⟩, hki, hrd, hrg⟩ := id hI
  obtain ⟨⟨pa, ps, hO⟩, ⟨ml, h38, hml, hmi⟩, h39, ⟨Kw, h40, hw9, hkw⟩, h41, ⟨Mc, h42, hMc⟩, ⟨Ms, h43, hMs⟩, ⟨Mp, h44, hMp⟩, h45, h46, ⟨lf, h47⟩, ⟨pc, h48⟩⟩ := id hM
  have hkn := hki.1
  have hbn := (hbk b hb).1
  have hcd := (hbk b hb).2.1
  have hsz := (hbk b hb).2.2.1
  have hph := (hbk b hb).2.2.2
  have hc9 := fun e he => hMc b e hb he
  have hs9 := fun e he => hMs b e hb he
  have hp9 := fun t ht => hMp b t hb ht
  refine J.ald_n dX7_entry_0 rfl ?_
  refine J.iconst dX7_entry_1 ?_
  refine pf_X7_47 rfl dX7_entry_2 hO ?_
  refine J.ald_n dX7_entry_5 rfl ?_
  refine J.ild_n dX7_entry_6 rfl ?_
  refine J.ild_n dX7_entry_7 rfl ?_
  refine J.callV (rm' := rX7_isEntry) [vI ((b : Nat) : Int), vI a] dX7_entry_8 (c_X7_isEntry_f (jset_eq _ _ _) ((jset_ne _ _ (by omega)).trans h41) hb hbn hi ha) (jset_eq _ _ _) rfl st_X7_isEntry ml_X7_105 im_X7_isEntry se_X7_isEntry rfl (Nat.le_of_ble_eq_true rfl) (by decide) (by decide) (Nat.le_of_ble_eq_true rfl) (by decide) (by decide) (Or.inl rfl) (fun E9 σ9 hq9 _ => nomatch hq9.1) (fun r9 σ9 hq9 hle9 => ?_)
  obtain ⟨h9, h8⟩ := hq9
  rw [h8]
  clear hle9 h8 σ9
  cases h9
  refine J.if_ne dX7_entry_11 (by decide) (tgt := 20) (by unfold inI; omega) (fun hb11 => ?_) (fun hb11 => ?_)
  · first | exact absurd hb11 (by decide) | exact absurd rfl hb11 | omega
  · refine J.ald_n dX7_entry_14 rfl ?_
    refine J.iconst dX7_entry_15 ?_
    refine J.callV (rm' := rX7_no) [vI 1] dX7_entry_16 (c_X7_no (jset_eq _ _ _)) (jset_eq _ _ _) rfl st_X7_no ml_X7_59 im_X7_no se_X7_no rfl (Nat.le_of_ble_eq_true rfl) (by decide) (by decide) (Nat.le_of_ble_eq_true rfl) (by decide) (by decide) (Or.inl rfl) (fun E9 σ9 hq9 _ => nomatch hq9.1) (fun r9 σ9 hq9 hle9 => ?_)
    obtain ⟨h9, h8⟩ := hq9
    cases h9
    subst h8
    clear hle9
    refine J.iret .int dX7_entry_19 rfl rfl (by decide) (by decide) ?_
    exact ⟨⟨_, rfl, fun q => absurd q (by decide)⟩, ⟨⟨pa, ps, (jset_eq _ _ _)⟩, ⟨ml, ((jset_ne _ _ (by omega)).trans ((jset_ne _ _ (by omega)).trans h38)), hml, hmi⟩, ((jset_ne _ _ (by omega)).trans ((jset_ne _ _ (by omega)).trans h39)), ⟨Kw, ((jset_ne _ _ (by omega)).trans ((jset_ne _ _ (by omega)).trans h40)), hw9, hkw⟩, ((jset_ne _ _ (by omega)).trans ((jset_ne _ _ (by omega)).trans h41)), ⟨Mc, ((jset_ne _ _ (by omega)).trans ((jset_ne _ _ (by omega)).trans h42)), hMc⟩, ⟨Ms, ((jset_ne _ _ (by omega)).trans ((jset_ne _ _ (by omega)).trans h43)), hMs⟩, ⟨Mp, ((jset_ne _ _ (by omega)).trans ((jset_ne _ _ (by omega)).trans h44)), hMp⟩, ((jset_ne _ _ (by omega)).trans ((jset_ne _ _ (by omega)).trans h45)), ((jset_ne _ _ (by omega)).trans ((jset_ne _ _ (by omega)).trans h46)), ⟨_, ((jset_ne _ _ (by omega)).trans ((jset_ne _ _ (by omega)).trans h47))⟩, ⟨_, ((jset_ne _ _ (by omega)).trans ((jset_ne _ _ (by omega)).trans h48))⟩⟩, rfl, fun j hj => ((jset_ne _ _ (by omega)).trans ((jset_ne _ _ (by omega)).trans (rfl : σ.2 j = σ.2 j)))⟩
set_option maxRecDepth 20000 in
theorem m_entry_3 {X : jX} {σ : jS} {pr : Int} {ln : Nat} {lw : Nat → Int} {bn : Nat → Nat} {cd sz : Nat → Nat → Nat} {ph : Nat → Nat → Int} {mn : Nat} {mg : Nat → Int} {kn : Nat} {kr : Nat → Int} {ks : Nat → Nat} {kt : Nat → Nat → Int} {rd : Nat} {rg : Nat → Int} {th : Int} {b e : Nat} {a : Int} (hM : MW σ th pr ln lw bn cd sz ph mn mg kn kr ks kt rd rg) (hI : CI pr ln lw bn cd sz ph mn mg kn kr ks kt rd rg) (hb : b < 3) (he : e < bn b) (hi : inI a) (ha : ¬ (-1 ≤ a ∧ a < ((sz b e : Nat) : Int))) : JM X mX7_entry rX7_entry [.ref 37, vI ((b : Nat) : Int), vI ((e : Nat) : Int), vI a] σ (MP 1 (0) σ (fun σ1 => MW σ1 1 pr ln lw bn cd sz ph mn mg kn kr ks kt rd rg)) := by
  refine JM.of (lc := [.ref 37, vI ((b : Nat) : Int), vI ((e : Nat) : Int), vI a, .null]) rfl ?_
  obtain ⟨hpr, ⟨hln, hlw⟩, hbk, ⟨hmn, hmg⟩, hki, hrd, hrg⟩ := id hI
  obtain ⟨⟨pa, ps, hO⟩, ⟨ml, h38, hml, hmi⟩, h39, ⟨Kw, h40, hw9, hkw⟩, h41, ⟨Mc, h42, hMc⟩, ⟨Ms, h43, hMs⟩, ⟨Mp, h44, hMp⟩, h45, h46, ⟨lf, h47⟩, ⟨pc, h48⟩⟩ := id hM
  have hkn := hki.1
  have hbn := (hbk b hb).1
  have hcd := (hbk b hb).2.1
  have hsz := (hbk b hb).2.2.1
  have hph := (hbk b hb).2.2.2
  have hc9 := fun e he => hMc b e hb he
  have hs9 := fun e he => hMs b e hb he
  have hp9 := fun t ht => hMp b t hb ht
  have hse := hsz e he
  refine J.ald_n dX7_entry_0 rfl ?_
  refine J.iconst dX7_entry_1 ?_
  refine pf_X7_47 rfl dX7_entry_2 hO ?_
  refine J.ald_n dX7_entry_5 rfl ?_
  refine J.ild_n dX7_entry_6 rfl ?_
  refine J.ild_n dX7_entry_7 rfl ?_
  refine J.callV (rm' := rX7_isEntry) [vI ((b : Nat) : Int), vI ((e : Nat) : Int)] dX7_entry_8 (c_X7_isEntry_t (jset_eq _ _ _) ((jset_ne _ _ (by omega)).trans h41) hb hbn he) (jset_eq _ _ _) rfl st_X7_isEntry ml_X7_105 im_X7_isEntry se_X7_isEntry rfl (Nat.le_of_ble_eq_true rfl) (by decide) (by decide) (Nat.le_of_ble_eq_true rfl) (by decide) (by decide) (Or.inl rfl) (fun E9 σ9 hq9 _ => nomatch hq9.1) (fun r9 σ9 hq9 hle9 => ?_)
  obtain ⟨h9, h8⟩ := hq9
  rw [h8]
  clear hle9 h8 σ9
  cases h9
  refine J.if_ne dX7_entry_11 (by decide) (tgt := 20) (by unfold inI; omega) (fun hb11 => ?_) (fun hb11 => ?_)
  · refine J.bipush dX7_entry_20 (by decide) ?_
    refine J.ild_n dX7_entry_22 rfl ?_
    refine J.imul dX7_entry_23 ?_
    rw [show (40 : Int) * ((b : Nat) : Int) = ((40 * b : Nat) : Int) from by push_cast; rfl]
    refine J.ild_n dX7_entry_24 rfl ?_
    refine J.iadd dX7_entry_25 ?_
    rw [show (((40 * b : Nat) : Int) : Int) + ((e : Nat) : Int) = (((40 * b) + e : Nat) : Int) from by push_cast; rfl]
    refine J.ist dX7_entry_26 (by decide) (jnc_of rfl rfl) ?_
    refine J.ild_n dX7_entry_28 rfl ?_
    refine J.iconst dX7_entry_29 ?_
    refine J.ald_n dX7_entry_30 rfl ?_
    refine gf_X7_29 rfl dX7_entry_31 (jset_eq _ _ _) ?_
    refine J.ild dX7_entry_34 rfl ?_
    refine J.iald (40 * b + e) dX7_entry_36 ((jset_ne _ _ (by omega)).trans h43) rfl (by omega) (by omega) ?_
    rw [show Ms (40 * b + e) = ((sz b e : Nat) : Int) from by rw [hs9 e (by omega)]]
    refine J.iconst dX7_entry_37 ?_
    refine J.isub dX7_entry_38 ?_
    refine J.callS (rm' := rX7_isIn) [vI a, vI (-1), vI (((sz b e : Nat) : Int) - 1)] dX7_entry_39 (c_X7_isIn_f hi (by unfold inI; omega) (by unfold inI; omega) (by omega)) st_X7_isIn ml_X7_50 sm_X7_isIn rfl (Nat.le_of_ble_eq_true rfl) (by decide) (by decide) (Nat.le_of_ble_eq_true rfl) (by decide) (by decide) (Or.inl rfl) (fun E9 σ9 hq9 _ => nomatch hq9.1) (fun r9 σ9 hq9 hle9 => ?_)
    obtain ⟨h9, h8⟩ := hq9
    rw [h8]
    clear hle9 h8 σ9
    cases h9
    refine J.if_ne dX7_entry_42 (by decide) (tgt := 51) (by unfold inI; omega) (fun hb42 => ?_) (fun hb42 => ?_)
    · first | exact absurd hb42 (by decide) | exact absurd rfl hb42 | omega
    · refine J.ald_n dX7_entry_45 rfl ?_
      refine J.iconst dX7_entry_46 ?_
      refine J.callV (rm' := rX7_no) [vI 1] dX7_entry_47 (c_X7_no (jset_eq _ _ _)) (jset_eq _ _ _) rfl st_X7_no ml_X7_59 im_X7_no se_X7_no rfl (Nat.le_of_ble_eq_true rfl) (by decide) (by decide) (Nat.le_of_ble_eq_true rfl) (by decide) (by decide) (Or.inl rfl) (fun E9 σ9 hq9 _ => nomatch hq9.1) (fun r9 σ9 hq9 hle9 => ?_)
      obtain ⟨h9, h8⟩ := hq9
      cases h9
      subst h8
      clear hle9
      refine J.iret .int dX7_entry_50 rfl rfl (by decide) (by decide) ?_
      exact ⟨⟨_, rfl, fun q => absurd q (by decide)⟩, ⟨⟨pa, ps, (jset_eq _ _ _)⟩, ⟨ml, ((jset_ne _ _ (by omega)).trans ((jset_ne _ _ (by omega)).trans h38)), hml, hmi⟩, ((jset_ne _ _ (by omega)).trans ((jset_ne _ _ (by omega)).trans h39)), ⟨Kw, ((jset_ne _ _ (by omega)).trans ((jset_ne _ _ (by omega)).trans h40)), hw9, hkw⟩, ((jset_ne _ _ (by omega)).trans ((jset_ne _ _ (by omega)).trans h41)), ⟨Mc, ((jset_ne _ _ (by omega)).trans ((jset_ne _ _ (by omega)).trans h42)), hMc⟩, ⟨Ms, ((jset_ne _ _ (by omega)).trans ((jset_ne _ _ (by omega)).trans h43)), hMs⟩, ⟨Mp, ((jset_ne _ _ (by omega)).trans ((jset_ne _ _ (by omega)).trans h44)), hMp⟩, ((jset_ne _ _ (by omega)).trans ((jset_ne _ _ (by omega)).trans h45)), ((jset_ne _ _ (by omega)).trans ((jset_ne _ _ (by omega)).trans h46)), ⟨_, ((jset_ne _ _ (by omega)).trans ((jset_ne _ _ (by omega)).trans h47))⟩, ⟨_, ((jset_ne _ _ (by omega)).trans ((jset_ne _ _ (by omega)).trans h48))⟩⟩, rfl, fun j hj => ((jset_ne _ _ (by omega)).trans ((jset_ne _ _ (by omega)).trans (rfl : σ.2 j = σ.2 j)))⟩
  · first | exact absurd hb11 (by decide) | exact absurd rfl hb11 | omega
set_option maxRecDepth 20000 in
theorem m_entry_4 {X : jX} {σ : jS} {pr : Int} {ln : Nat} {lw : Nat → Int} {bn : Nat → Nat} {cd sz : Nat → Nat → Nat} {ph : Nat → Nat → Int} {mn : Nat} {mg : Nat → Int} {kn : Nat} {kr : Nat → Int} {ks : Nat → Nat} {kt : Nat → Nat → Int} {rd : Nat} {rg : Nat → Int} {th : Int} {b e : Nat} {a : Int} (hM : MW σ th pr ln lw bn cd sz ph mn mg kn kr ks kt rd rg) (hI : CI pr ln lw bn cd sz ph mn mg kn kr ks kt rd rg) (hb : b < 3) (he : e < bn b) (ha : a = -1) : JM X mX7_entry rX7_entry [.ref 37, vI ((b : Nat) : Int), vI ((e : Nat) : Int), vI a] σ (MP 0 (((cd b e : Nat) : Int)) σ (fun σ1 => MW σ1 0 pr ln lw bn cd sz ph mn mg kn kr ks kt rd rg)) := by
  refine JM.of (lc := [.ref 37, vI ((b : Nat) : Int), vI ((e : Nat) : Int), vI a, .null]) rfl ?_
  obtain ⟨hpr, ⟨hln, hlw⟩, hbk, ⟨hmn, hmg⟩, hki, hrd, hrg⟩ := id hI
  obtain ⟨⟨pa, ps, hO⟩, ⟨ml, h38, hml, hmi⟩, h39, ⟨Kw, h40, hw9, hkw⟩, h41, ⟨Mc, h42, hMc⟩, ⟨Ms, h43, hMs⟩, ⟨Mp, h44, hMp⟩, h45, h46, ⟨lf, h47⟩, ⟨pc, h48⟩⟩ := id hM
  have hkn := hki.1
  have hbn := (hbk b hb).1
  have hcd := (hbk b hb).2.1
  have hsz := (hbk b hb).2.2.1
  have hph := (hbk b hb).2.2.2
  have hc9 := fun e he => hMc b e hb he
  have hs9 := fun e he => hMs b e hb he
  have hp9 := fun t ht => hMp b t hb ht
  have hse := hsz e he
  refine J.ald_n dX7_entry_0 rfl ?_
  refine J.iconst dX7_entry_1 ?_
  refine pf_X7_47 rfl dX7_entry_2 hO ?_
  refine J.ald_n dX7_entry_5 rfl ?_
  refine J.ild_n dX7_entry_6 rfl ?_
  refine J.ild_n dX7_entry_7 rfl ?_
  refine J.callV (rm' := rX7_isEntry) [vI ((b : Nat) : Int), vI ((e : Nat) : Int)] dX7_entry_8 (c_X7_isEntry_t (jset_eq _ _ _) ((jset_ne _ _ (by omega)).trans h41) hb hbn he) (jset_eq _ _ _) rfl st_X7_isEntry ml_X7_105 im_X7_isEntry se_X7_isEntry rfl (Nat.le_of_ble_eq_true rfl) (by decide) (by decide) (Nat.le_of_ble_eq_true rfl) (by decide) (by decide) (Or.inl rfl) (fun E9 σ9 hq9 _ => nomatch hq9.1) (fun r9 σ9 hq9 hle9 => ?_)
  obtain ⟨h9, h8⟩ := hq9
  rw [h8]
  clear hle9 h8 σ9
  cases h9
  refine J.if_ne dX7_entry_11 (by decide) (tgt := 20) (by unfold inI; omega) (fun hb11 => ?_) (fun hb11 => ?_)
  · refine J.bipush dX7_entry_20 (by decide) ?_
    refine J.ild_n dX7_entry_22 rfl ?_
    refine J.imul dX7_entry_23 ?_
    rw [show (40 : Int) * ((b : Nat) : Int) = ((40 * b : Nat) : Int) from by push_cast; rfl]
    refine J.ild_n dX7_entry_24 rfl ?_
    refine J.iadd dX7_entry_25 ?_
    rw [show (((40 * b : Nat) : Int) : Int) + ((e : Nat) : Int) = (((40 * b) + e : Nat) : Int) from by push_cast; rfl]
    refine J.ist dX7_entry_26 (by decide) (jnc_of rfl rfl) ?_
    refine J.ild_n dX7_entry_28 rfl ?_
    refine J.iconst dX7_entry_29 ?_
    refine J.ald_n dX7_entry_30 rfl ?_
    refine gf_X7_29 rfl dX7_entry_31 (jset_eq _ _ _) ?_
    refine J.ild dX7_entry_34 rfl ?_
    refine J.iald (40 * b + e) dX7_entry_36 ((jset_ne _ _ (by omega)).trans h43) rfl (by omega) (by omega) ?_
    rw [show Ms (40 * b + e) = ((sz b e : Nat) : Int) from by rw [hs9 e (by omega)]]
    refine J.iconst dX7_entry_37 ?_
    refine J.isub dX7_entry_38 ?_
    refine J.callS (rm' := rX7_isIn) [vI a, vI (-1), vI (((sz b e : Nat) : Int) - 1)] dX7_entry_39 (c_X7_isIn_t (by unfold inI; omega) (by unfold inI; omega) (by unfold inI; omega) (by omega)) st_X7_isIn ml_X7_50 sm_X7_isIn rfl (Nat.le_of_ble_eq_true rfl) (by decide) (by decide) (Nat.le_of_ble_eq_true rfl) (by decide) (by decide) (Or.inl rfl) (fun E9 σ9 hq9 _ => nomatch hq9.1) (fun r9 σ9 hq9 hle9 => ?_)
    obtain ⟨h9, h8⟩ := hq9
    rw [h8]
    clear hle9 h8 σ9
    cases h9
    refine J.if_ne dX7_entry_42 (by decide) (tgt := 51) (by unfold inI; omega) (fun hb42 => ?_) (fun hb42 => ?_)
    · refine J.ild_n dX7_entry_51 rfl ?_
      refine J.iconst dX7_entry_52 ?_
      refine J.icmp_ne dX7_entry_53 (by decide) (tgt := 66) (by unfold inI; omega) (by unfold inI; omega) (fun hb53 => ?_) (fun hb53 => ?_)
      · first | omega | exact absurd rfl hb53 | exact absurd hb53 (by decide)
      · refine J.ald_n dX7_entry_56 rfl ?_
        refine gf_X7_26 rfl dX7_entry_57 (jset_eq _ _ _) ?_
        refine J.ild dX7_entry_60 rfl ?_
        refine J.iald (40 * b + e) dX7_entry_62 ((jset_ne _ _ (by omega)).trans h42) rfl (by omega) (by omega) ?_
        rw [show Mc (40 * b + e) = ((cd b e : Nat) : Int) from by rw [hc9 e (by omega)]]
        refine J.goto dX7_entry_63 (by decide) (tgt := 78) ?_
        refine J.iret .int dX7_entry_78 rfl rfl (by decide) (by decide) ?_
        exact ⟨⟨_, rfl, fun _ => rfl⟩, ⟨⟨pa, ps, (jset_eq _ _ _)⟩, ⟨ml, ((jset_ne _ _ (by omega)).trans h38), hml, hmi⟩, ((jset_ne _ _ (by omega)).trans h39), ⟨Kw, ((jset_ne _ _ (by omega)).trans h40), hw9, hkw⟩, ((jset_ne _ _ (by omega)).trans h41), ⟨Mc, ((jset_ne _ _ (by omega)).trans h42), hMc⟩, ⟨Ms, ((jset_ne _ _ (by omega)).trans h43), hMs⟩, ⟨Mp, ((jset_ne _ _ (by omega)).trans h44), hMp⟩, ((jset_ne _ _ (by omega)).trans h45), ((jset_ne _ _ (by omega)).trans h46), ⟨_, ((jset_ne _ _ (by omega)).trans h47)⟩, ⟨_, ((jset_ne _ _ (by omega)).trans h48)⟩⟩, rfl, fun j hj => ((jset_ne _ _ (by omega)).trans (rfl : σ.2 j = σ.2 j))⟩
    · first | exact absurd hb42 (by decide) | exact absurd rfl hb42 | omega
  · first | exact absurd hb11 (by decide) | exact absurd rfl hb11 | omega
set_option maxRecDepth 20000 in
theorem m_entry_0 {X : jX} {σ : jS} {pr : Int} {ln : Nat} {lw : Nat → Int} {bn : Nat → Nat} {cd sz : Nat → Nat → Nat} {ph : Nat → Nat → Int} {mn : Nat} {mg : Nat → Int} {kn : Nat} {kr : Nat → Int} {ks : Nat → Nat} {kt : Nat → Nat → Int} {rd : Nat} {rg : Nat → Int} {th : Int} {b e w : Nat} (hM : MW σ th pr ln lw bn cd sz ph mn mg kn kr ks kt rd rg) (hI : CI pr ln lw bn cd sz ph mn mg kn kr ks kt rd rg) (hb : b < 3) (he : e < bn b) (hw : w < sz b e) : JM X mX7_entry rX7_entry [.ref 37, vI ((b : Nat) : Int), vI ((e : Nat) : Int), vI ((w : Nat) : Int)] σ (MP 0 (ph b (e * 6 + w)) σ (fun σ1 => MW σ1 0 pr ln lw bn cd sz ph mn mg kn kr ks kt rd rg)) := by
  refine JM.of (lc := [.ref 37, vI ((b : Nat) : Int), vI ((e : Nat) : Int), vI ((w : Nat) : Int), .null]) rfl ?_
  obtain ⟨hpr, ⟨hln, hlw⟩, hbk, ⟨hmn, hmg⟩, hki, hrd, hrg⟩ := id hI
  obtain ⟨⟨pa, ps, hO⟩, ⟨ml, h38, hml, hmi⟩, h39, ⟨Kw, h40, hw9, hkw⟩, h41, ⟨Mc, h42, hMc⟩, ⟨Ms, h43, hMs⟩, ⟨Mp, h44, hMp⟩, h45, h46, ⟨lf, h47⟩, ⟨pc, h48⟩⟩ := id hM
  have hkn := hki.1
  have hbn := (hbk b hb).1
  have hcd := (hbk b hb).2.1
  have hsz := (hbk b hb).2.2.1
  have hph := (hbk b hb).2.2.2
  have hc9 := fun e he => hMc b e hb he
  have hs9 := fun e he => hMs b e hb he
  have hp9 := fun t ht => hMp b t hb ht
  have hse := hsz e he
  refine J.ald_n dX7_entry_0 rfl ?_
  refine J.iconst dX7_entry_1 ?_
  refine pf_X7_47 rfl dX7_entry_2 hO ?_
  refine J.ald_n dX7_entry_5 rfl ?_
  refine J.ild_n dX7_entry_6 rfl ?_
  refine J.ild_n dX7_entry_7 rfl ?_
  refine J.callV (rm' := rX7_isEntry) [vI ((b : Nat) : Int), vI ((e : Nat) : Int)] dX7_entry_8 (c_X7_isEntry_t (jset_eq _ _ _) ((jset_ne _ _ (by omega)).trans h41) hb hbn he) (jset_eq _ _ _) rfl st_X7_isEntry ml_X7_105 im_X7_isEntry se_X7_isEntry rfl (Nat.le_of_ble_eq_true rfl) (by decide) (by decide) (Nat.le_of_ble_eq_true rfl) (by decide) (by decide) (Or.inl rfl) (fun E9 σ9 hq9 _ => nomatch hq9.1) (fun r9 σ9 hq9 hle9 => ?_)
  obtain ⟨h9, h8⟩ := hq9
  rw [h8]
  clear hle9 h8 σ9
  cases h9
  refine J.if_ne dX7_entry_11 (by decide) (tgt := 20) (by unfold inI; omega) (fun hb11 => ?_) (fun hb11 => ?_)
  · refine J.bipush dX7_entry_20 (by decide) ?_
    refine J.ild_n dX7_entry_22 rfl ?_
    refine J.imul dX7_entry_23 ?_
    rw [show (40 : Int) * ((b : Nat) : Int) = ((40 * b : Nat) : Int) from by push_cast; rfl]
    refine J.ild_n dX7_entry_24 rfl ?_
    refine J.iadd dX7_entry_25 ?_
    rw [show (((40 * b : Nat) : Int) : Int) + ((e : Nat) : Int) = (((40 * b) + e : Nat) : Int) from by push_cast; rfl]
    refine J.ist dX7_entry_26 (by decide) (jnc_of rfl rfl) ?_
    refine J.ild_n dX7_entry_28 rfl ?_
    refine J.iconst dX7_entry_29 ?_
    refine J.ald_n dX7_entry_30 rfl ?_
    refine gf_X7_29 rfl dX7_entry_31 (jset_eq _ _ _) ?_
    refine J.ild dX7_entry_34 rfl ?_
    refine J.iald (40 * b + e) dX7_entry_36 ((jset_ne _ _ (by omega)).trans h43) rfl (by omega) (by omega) ?_
    rw [show Ms (40 * b + e) = ((sz b e : Nat) : Int) from by rw [hs9 e (by omega)]]
    refine J.iconst dX7_entry_37 ?_
    refine J.isub dX7_entry_38 ?_
    refine J.callS (rm' := rX7_isIn) [vI ((w : Nat) : Int), vI (-1), vI (((sz b e : Nat) : Int) - 1)] dX7_entry_39 (c_X7_isIn_t (by unfold inI; omega) (by unfold inI; omega) (by unfold inI; omega) (by omega)) st_X7_isIn ml_X7_50 sm_X7_isIn rfl (Nat.le_of_ble_eq_true rfl) (by decide) (by decide) (Nat.le_of_ble_eq_true rfl) (by decide) (by decide) (Or.inl rfl) (fun E9 σ9 hq9 _ => nomatch hq9.1) (fun r9 σ9 hq9 hle9 => ?_)
    obtain ⟨h9, h8⟩ := hq9
    rw [h8]
    clear hle9 h8 σ9
    cases h9
    refine J.if_ne dX7_entry_42 (by decide) (tgt := 51) (by unfold inI; omega) (fun hb42 => ?_) (fun hb42 => ?_)
    · refine J.ild_n dX7_entry_51 rfl ?_
      refine J.iconst dX7_entry_52 ?_
      refine J.icmp_ne dX7_entry_53 (by decide) (tgt := 66) (by unfold inI; omega) (by unfold inI; omega) (fun hb53 => ?_) (fun hb53 => ?_)
      · refine J.ald_n dX7_entry_66 rfl ?_
        refine gf_X7_32 rfl dX7_entry_67 (jset_eq _ _ _) ?_
        refine J.bipush dX7_entry_70 (by decide) ?_
        refine J.ild dX7_entry_72 rfl ?_
        refine J.imul dX7_entry_74 ?_
        rw [show (6 : Int) * (((40 * b) + e : Nat) : Int) = ((6 * ((40 * b) + e) : Nat) : Int) from by push_cast; rfl]
        refine J.ild_n dX7_entry_75 rfl ?_
        refine J.iadd dX7_entry_76 ?_
        rw [show (((6 * ((40 * b) + e) : Nat) : Int) : Int) + ((w : Nat) : Int) = (((6 * ((40 * b) + e)) + w : Nat) : Int) from by push_cast; rfl]
        refine J.iald (240 * b + (e * 6 + w)) dX7_entry_77 ((jset_ne _ _ (by omega)).trans h44) (by omega) (by omega) (by omega) ?_
        rw [show Mp (240 * b + (e * 6 + w)) = (ph b (e * 6 + w)) from hp9 (e * 6 + w) (by omega)]
        refine J.iret .int dX7_entry_78 rfl rfl (by decide) (by decide) ?_
        exact ⟨⟨_, rfl, fun _ => rfl⟩, ⟨⟨pa, ps, (jset_eq _ _ _)⟩, ⟨ml, ((jset_ne _ _ (by omega)).trans h38), hml, hmi⟩, ((jset_ne _ _ (by omega)).trans h39), ⟨Kw, ((jset_ne _ _ (by omega)).trans h40), hw9, hkw⟩, ((jset_ne _ _ (by omega)).trans h41), ⟨Mc, ((jset_ne _ _ (by omega)).trans h42), hMc⟩, ⟨Ms, ((jset_ne _ _ (by omega)).trans h43), hMs⟩, ⟨Mp, ((jset_ne _ _ (by omega)).trans h44), hMp⟩, ((jset_ne _ _ (by omega)).trans h45), ((jset_ne _ _ (by omega)).trans h46), ⟨_, ((jset_ne _ _ (by omega)).trans h47)⟩, ⟨_, ((jset_ne _ _ (by omega)).trans h48)⟩⟩, rfl, fun j hj => ((jset_ne _ _ (by omega)).trans (rfl : σ.2 j = σ.2 j))⟩
      · first | omega | exact absurd rfl hb53 | exact absurd hb53 (by decide)
    · first | exact absurd hb42 (by decide) | exact absurd rfl hb42 | omega
  · first | exact absurd hb11 (by decide) | exact absurd rfl hb11 | omega
set_option maxRecDepth 20000 in
theorem m_setPrice_1 {X : jX} {σ : jS} {pr : Int} {ln : Nat} {lw : Nat → Int} {bn : Nat → Nat} {cd sz : Nat → Nat → Nat} {ph : Nat → Nat → Int} {mn : Nat} {mg : Nat → Int} {kn : Nat} {kr : Nat → Int} {ks : Nat → Nat} {kt : Nat → Nat → Int} {rd : Nat} {rg : Nat → Int} {th : Int} {a : Int} (hM : MW σ th pr ln lw bn cd sz ph mn mg kn kr ks kt rd rg) (hI : CI pr ln lw bn cd sz ph mn mg kn kr ks kt rd rg) (hi : inI a) (ha : ¬ (1 ≤ a ∧ a ≤ 5)) : JM X mX7_setPrice rX7_setPrice [.ref 37, vI a] σ (MP 1 (0) σ (fun σ1 => MW σ1 1 pr ln lw bn cd sz ph mn mg kn kr ks kt rd rg)) := by
  refine JM.of (lc := [.ref 37, vI a, .null]) rfl ?_
  obtain ⟨hpr, ⟨hln, hlw⟩, hbk, ⟨hmn, hmg⟩, hki, hrd, hrg⟩ := id hI
  obtain ⟨⟨pa, ps, hO⟩, ⟨ml, h38, hml, hmi⟩, h39, ⟨Kw, h40, hw9, hkw⟩, h41, ⟨Mc, h42, hMc⟩, ⟨Ms, h43, hMs⟩, ⟨Mp, h44, hMp⟩, h45, h46, ⟨lf, h47⟩, ⟨pc, h48⟩⟩ := id hM
  have hkn := hki.1
  refine J.ald_n dX7_setPrice_0 rfl ?_
  refine J.iconst dX7_setPrice_1 ?_
  refine pf_X7_47 rfl dX7_setPrice_2 hO ?_
  refine J.ild_n dX7_setPrice_5 rfl ?_
  refine J.iconst dX7_setPrice_6 ?_
  refine J.iconst dX7_setPrice_7 ?_
  refine J.callS (rm' := rX7_isIn) [vI a, vI 1, vI 5] dX7_setPrice_8 (c_X7_isIn_f hi (by unfold inI; omega) (by unfold inI; omega) (by omega)) st_X7_isIn ml_X7_50 sm_X7_isIn rfl (Nat.le_of_ble_eq_true rfl) (by decide) (by decide) (Nat.le_of_ble_eq_true rfl) (by decide) (by decide) (Or.inl rfl) (fun E9 σ9 hq9 _ => nomatch hq9.1) (fun r9 σ9 hq9 hle9 => ?_)
  obtain ⟨h9, h8⟩ := hq9
  rw [h8]
  clear hle9 h8 σ9
  cases h9
  refine J.if_ne dX7_setPrice_11 (by decide) (tgt := 20) (by unfold inI; omega) (fun hb11 => ?_) (fun hb11 => ?_)
  · first | exact absurd hb11 (by decide) | exact absurd rfl hb11 | omega
  · refine J.ald_n dX7_setPrice_14 rfl ?_
    refine J.iconst dX7_setPrice_15 ?_
    refine J.callV (rm' := rX7_no) [vI 1] dX7_setPrice_16 (c_X7_no (jset_eq _ _ _)) (jset_eq _ _ _) rfl st_X7_no ml_X7_59 im_X7_no se_X7_no rfl (Nat.le_of_ble_eq_true rfl) (by decide) (by decide) (Nat.le_of_ble_eq_true rfl) (by decide) (by decide) (Or.inl rfl) (fun E9 σ9 hq9 _ => nomatch hq9.1) (fun r9 σ9 hq9 hle9 => ?_)
    obtain ⟨h9, h8⟩ := hq9
    cases h9
    subst h8
    clear hle9
    refine J.iret .int dX7_setPrice_19 rfl rfl (by decide) (by decide) ?_
    exact ⟨⟨_, rfl, fun q => absurd q (by decide)⟩, ⟨⟨pa, ps, (jset_eq _ _ _)⟩, ⟨ml, ((jset_ne _ _ (by omega)).trans ((jset_ne _ _ (by omega)).trans h38)), hml, hmi⟩, ((jset_ne _ _ (by omega)).trans ((jset_ne _ _ (by omega)).trans h39)), ⟨Kw, ((jset_ne _ _ (by omega)).trans ((jset_ne _ _ (by omega)).trans h40)), hw9, hkw⟩, ((jset_ne _ _ (by omega)).trans ((jset_ne _ _ (by omega)).trans h41)), ⟨Mc, ((jset_ne _ _ (by omega)).trans ((jset_ne _ _ (by omega)).trans h42)), hMc⟩, ⟨Ms, ((jset_ne _ _ (by omega)).trans ((jset_ne _ _ (by omega)).trans h43)), hMs⟩, ⟨Mp, ((jset_ne _ _ (by omega)).trans ((jset_ne _ _ (by omega)).trans h44)), hMp⟩, ((jset_ne _ _ (by omega)).trans ((jset_ne _ _ (by omega)).trans h45)), ((jset_ne _ _ (by omega)).trans ((jset_ne _ _ (by omega)).trans h46)), ⟨_, ((jset_ne _ _ (by omega)).trans ((jset_ne _ _ (by omega)).trans h47))⟩, ⟨_, ((jset_ne _ _ (by omega)).trans ((jset_ne _ _ (by omega)).trans h48))⟩⟩, rfl, fun j hj => ((jset_ne _ _ (by omega)).trans ((jset_ne _ _ (by omega)).trans (rfl : σ.2 j = σ.2 j)))⟩
set_option maxRecDepth 20000 in
theorem m_setPrice_0 {X : jX} {σ : jS} {pr : Int} {ln : Nat} {lw : Nat → Int} {bn : Nat → Nat} {cd sz : Nat → Nat → Nat} {ph : Nat → Nat → Int} {mn : Nat} {mg : Nat → Int} {kn : Nat} {kr : Nat → Int} {ks : Nat → Nat} {kt : Nat → Nat → Int} {rd : Nat} {rg : Nat → Int} {th : Int} {a : Int} (hM : MW σ th pr ln lw bn cd sz ph mn mg kn kr ks kt rd rg) (hI : CI pr ln lw bn cd sz ph mn mg kn kr ks kt rd rg) (ha : 1 ≤ a ∧ a ≤ 5) : JM X mX7_setPrice rX7_setPrice [.ref 37, vI a] σ (MP 0 (pr) σ (fun σ1 => MW σ1 0 a ln lw bn cd sz ph mn mg kn kr ks kt rd rg)) := by
  refine JM.of (lc := [.ref 37, vI a, .null]) rfl ?_
  obtain ⟨hpr, ⟨hln, hlw⟩, hbk, ⟨hmn, hmg⟩, hki, hrd, hrg⟩ := id hI
  obtain ⟨⟨pa, ps, hO⟩, ⟨ml, h38, hml, hmi⟩, h39, ⟨Kw, h40, hw9, hkw⟩, h41, ⟨Mc, h42, hMc⟩, ⟨Ms, h43, hMs⟩, ⟨Mp, h44, hMp⟩, h45, h46, ⟨lf, h47⟩, ⟨pc, h48⟩⟩ := id hM
  have hkn := hki.1
  refine J.ald_n dX7_setPrice_0 rfl ?_
  refine J.iconst dX7_setPrice_1 ?_
  refine pf_X7_47 rfl dX7_setPrice_2 hO ?_
  refine J.ild_n dX7_setPrice_5 rfl ?_
  refine J.iconst dX7_setPrice_6 ?_
  refine J.iconst dX7_setPrice_7 ?_
  refine J.callS (rm' := rX7_isIn) [vI a, vI 1, vI 5] dX7_setPrice_8 (c_X7_isIn_t (by unfold inI; omega) (by unfold inI; omega) (by unfold inI; omega) (by omega)) st_X7_isIn ml_X7_50 sm_X7_isIn rfl (Nat.le_of_ble_eq_true rfl) (by decide) (by decide) (Nat.le_of_ble_eq_true rfl) (by decide) (by decide) (Or.inl rfl) (fun E9 σ9 hq9 _ => nomatch hq9.1) (fun r9 σ9 hq9 hle9 => ?_)
  obtain ⟨h9, h8⟩ := hq9
  rw [h8]
  clear hle9 h8 σ9
  cases h9
  refine J.if_ne dX7_setPrice_11 (by decide) (tgt := 20) (by unfold inI; omega) (fun hb11 => ?_) (fun hb11 => ?_)
  · refine J.ald_n dX7_setPrice_20 rfl ?_
    refine gf_X7_7 rfl dX7_setPrice_21 (jset_eq _ _ _) ?_
    refine J.ist_n dX7_setPrice_24 (by decide) (jnc_of rfl rfl) ?_
    refine J.ald_n dX7_setPrice_25 rfl ?_
    refine J.ild_n dX7_setPrice_26 rfl ?_
    refine pf_X7_7 rfl dX7_setPrice_27 (jset_eq _ _ _) ?_
    refine J.ild_n dX7_setPrice_30 rfl ?_
    refine J.iret .int dX7_setPrice_31 rfl rfl (by decide) (by decide) ?_
    exact ⟨⟨_, rfl, fun _ => rfl⟩, ⟨⟨pa, ps, (jset_eq _ _ _)⟩, ⟨ml, ((jset_ne _ _ (by omega)).trans ((jset_ne _ _ (by omega)).trans h38)), hml, hmi⟩, ((jset_ne _ _ (by omega)).trans ((jset_ne _ _ (by omega)).trans h39)), ⟨Kw, ((jset_ne _ _ (by omega)).trans ((jset_ne _ _ (by omega)).trans h40)), hw9, hkw⟩, ((jset_ne _ _ (by omega)).trans ((jset_ne _ _ (by omega)).trans h41)), ⟨Mc, ((jset_ne _ _ (by omega)).trans ((jset_ne _ _ (by omega)).trans h42)), hMc⟩, ⟨Ms, ((jset_ne _ _ (by omega)).trans ((jset_ne _ _ (by omega)).trans h43)), hMs⟩, ⟨Mp, ((jset_ne _ _ (by omega)).trans ((jset_ne _ _ (by omega)).trans h44)), hMp⟩, ((jset_ne _ _ (by omega)).trans ((jset_ne _ _ (by omega)).trans h45)), ((jset_ne _ _ (by omega)).trans ((jset_ne _ _ (by omega)).trans h46)), ⟨_, ((jset_ne _ _ (by omega)).trans ((jset_ne _ _ (by omega)).trans h47))⟩, ⟨_, ((jset_ne _ _ (by omega)).trans ((jset_ne _ _ (by omega)).trans h48))⟩⟩, rfl, fun j hj => ((jset_ne _ _ (by omega)).trans ((jset_ne _ _ (by omega)).trans (rfl : σ.2 j = σ.2 j)))⟩
  · first | exact absurd hb11 (by decide) | exact absurd rfl hb11 | omega
set_option maxRecDepth 20000 in
theorem m_groups {X : jX} {σ : jS} {pr : Int} {ln : Nat} {lw : Nat → Int} {bn : Nat → Nat} {cd sz : Nat → Nat → Nat} {ph : Nat → Nat → Int} {mn : Nat} {mg : Nat → Int} {kn : Nat} {kr : Nat → Int} {ks : Nat → Nat} {kt : Nat → Nat → Int} {rd : Nat} {rg : Nat → Int} {th : Int}  (hM : MW σ th pr ln lw bn cd sz ph mn mg kn kr ks kt rd rg) (hI : CI pr ln lw bn cd sz ph mn mg kn kr ks kt rd rg)  : JM X mX7_groups rX7_groups [.ref 37] σ (MP 0 (((mn : Nat) : Int)) σ (fun σ1 => MW σ1 0 pr ln lw bn cd sz ph mn mg kn kr ks kt rd rg)) := by
  refine JM.of (lc := [.ref 37]) rfl ?_
  obtain ⟨hpr, ⟨hln, hlw⟩, hbk, ⟨hmn, hmg⟩, hki, hrd, hrg⟩ := id hI
  obtain ⟨⟨pa, ps, hO⟩, ⟨ml, h38, hml, hmi⟩, h39, ⟨Kw, h40, hw9, hkw⟩, h41, ⟨Mc, h42, hMc⟩, ⟨Ms, h43, hMs⟩, ⟨Mp, h44, hMp⟩, h45, h46, ⟨lf, h47⟩, ⟨pc, h48⟩⟩ := id hM
  have hkn := hki.1
  refine J.ald_n dX7_groups_0 rfl ?_
  refine J.iconst dX7_groups_1 ?_
  refine pf_X7_47 rfl dX7_groups_2 hO ?_
  refine J.ald_n dX7_groups_5 rfl ?_
  refine gf_X7_124 rfl dX7_groups_6 (jset_eq _ _ _) ?_
  refine J.iret .int dX7_groups_9 rfl rfl (by decide) (by decide) ?_
  exact ⟨⟨_, rfl, fun _ => rfl⟩, ⟨⟨pa, ps, (jset_eq _ _ _)⟩, ⟨ml, ((jset_ne _ _ (by omega)).trans h38), hml, hmi⟩, ((jset_ne _ _ (by omega)).trans h39), ⟨Kw, ((jset_ne _ _ (by omega)).trans h40), hw9, hkw⟩, ((jset_ne _ _ (by omega)).trans h41), ⟨Mc, ((jset_ne _ _ (by omega)).trans h42), hMc⟩, ⟨Ms, ((jset_ne _ _ (by omega)).trans h43), hMs⟩, ⟨Mp, ((jset_ne _ _ (by omega)).trans h44), hMp⟩, ((jset_ne _ _ (by omega)).trans h45), ((jset_ne _ _ (by omega)).trans h46), ⟨_, ((jset_ne _ _ (by omega)).trans h47)⟩, ⟨_, ((jset_ne _ _ (by omega)).trans h48)⟩⟩, rfl, fun j hj => ((jset_ne _ _ (by omega)).trans (rfl : σ.2 j = σ.2 j))⟩
set_option maxRecDepth 20000 in
theorem m_group_1 {X : jX} {σ : jS} {pr : Int} {ln : Nat} {lw : Nat → Int} {bn : Nat → Nat} {cd sz : Nat → Nat → Nat} {ph : Nat → Nat → Int} {mn : Nat} {mg : Nat → Int} {kn : Nat} {kr : Nat → Int} {ks : Nat → Nat} {kt : Nat → Nat → Int} {rd : Nat} {rg : Nat → Int} {th : Int} {a : Int} (hM : MW σ th pr ln lw bn cd sz ph mn mg kn kr ks kt rd rg) (hI : CI pr ln lw bn cd sz ph mn mg kn kr ks kt rd rg) (hi : inI a) (ha : ¬ (0 ≤ a ∧ a < ((mn : Nat) : Int))) : JM X mX7_group rX7_group [.ref 37, vI a] σ (MP 1 (0) σ (fun σ1 => MW σ1 1 pr ln lw bn cd sz ph mn mg kn kr ks kt rd rg)) := by
  refine JM.of (lc := [.ref 37, vI a]) rfl ?_
  obtain ⟨hpr, ⟨hln, hlw⟩, hbk, ⟨hmn, hmg⟩, hki, hrd, hrg⟩ := id hI
  obtain ⟨⟨pa, ps, hO⟩, ⟨ml, h38, hml, hmi⟩, h39, ⟨Kw, h40, hw9, hkw⟩, h41, ⟨Mc, h42, hMc⟩, ⟨Ms, h43, hMs⟩, ⟨Mp, h44, hMp⟩, h45, h46, ⟨lf, h47⟩, ⟨pc, h48⟩⟩ := id hM
  have hkn := hki.1
  refine J.ald_n dX7_group_0 rfl ?_
  refine J.iconst dX7_group_1 ?_
  refine pf_X7_47 rfl dX7_group_2 hO ?_
  refine J.ald_n dX7_group_5 rfl ?_
  refine J.ild_n dX7_group_6 rfl ?_
  refine J.callV (rm' := rX7_isGroup) [vI a] dX7_group_7 (c_X7_isGroup_f (jset_eq _ _ _) hi (by omega) (by omega)) (jset_eq _ _ _) rfl st_X7_isGroup ml_X7_127 im_X7_isGroup se_X7_isGroup rfl (Nat.le_of_ble_eq_true rfl) (by decide) (by decide) (Nat.le_of_ble_eq_true rfl) (by decide) (by decide) (Or.inl rfl) (fun E9 σ9 hq9 _ => nomatch hq9.1) (fun r9 σ9 hq9 hle9 => ?_)
  obtain ⟨h9, h8⟩ := hq9
  rw [h8]
  clear hle9 h8 σ9
  cases h9
  refine J.if_eq dX7_group_10 (by decide) (tgt := 22) (by unfold inI; omega) (fun hb10 => ?_) (fun hb10 => ?_)
  · refine J.ald_n dX7_group_22 rfl ?_
    refine J.iconst dX7_group_23 ?_
    refine J.callV (rm' := rX7_no) [vI 1] dX7_group_24 (c_X7_no (jset_eq _ _ _)) (jset_eq _ _ _) rfl st_X7_no ml_X7_59 im_X7_no se_X7_no rfl (Nat.le_of_ble_eq_true rfl) (by decide) (by decide) (Nat.le_of_ble_eq_true rfl) (by decide) (by decide) (Or.inl rfl) (fun E9 σ9 hq9 _ => nomatch hq9.1) (fun r9 σ9 hq9 hle9 => ?_)
    obtain ⟨h9, h8⟩ := hq9
    cases h9
    subst h8
    clear hle9
    refine J.iret .int dX7_group_27 rfl rfl (by decide) (by decide) ?_
    exact ⟨⟨_, rfl, fun q => absurd q (by decide)⟩, ⟨⟨pa, ps, (jset_eq _ _ _)⟩, ⟨ml, ((jset_ne _ _ (by omega)).trans ((jset_ne _ _ (by omega)).trans h38)), hml, hmi⟩, ((jset_ne _ _ (by omega)).trans ((jset_ne _ _ (by omega)).trans h39)), ⟨Kw, ((jset_ne _ _ (by omega)).trans ((jset_ne _ _ (by omega)).trans h40)), hw9, hkw⟩, ((jset_ne _ _ (by omega)).trans ((jset_ne _ _ (by omega)).trans h41)), ⟨Mc, ((jset_ne _ _ (by omega)).trans ((jset_ne _ _ (by omega)).trans h42)), hMc⟩, ⟨Ms, ((jset_ne _ _ (by omega)).trans ((jset_ne _ _ (by omega)).trans h43)), hMs⟩, ⟨Mp, ((jset_ne _ _ (by omega)).trans ((jset_ne _ _ (by omega)).trans h44)), hMp⟩, ((jset_ne _ _ (by omega)).trans ((jset_ne _ _ (by omega)).trans h45)), ((jset_ne _ _ (by omega)).trans ((jset_ne _ _ (by omega)).trans h46)), ⟨_, ((jset_ne _ _ (by omega)).trans ((jset_ne _ _ (by omega)).trans h47))⟩, ⟨_, ((jset_ne _ _ (by omega)).trans ((jset_ne _ _ (by omega)).trans h48))⟩⟩, rfl, fun j hj => ((jset_ne _ _ (by omega)).trans ((jset_ne _ _ (by omega)).trans (rfl : σ.2 j = σ.2 j)))⟩
  · first | exact absurd hb10 (by decide) | exact absurd rfl hb10 | omega
set_option maxRecDepth 20000 in
theorem m_group_0 {X : jX} {σ : jS} {pr : Int} {ln : Nat} {lw : Nat → Int} {bn : Nat → Nat} {cd sz : Nat → Nat → Nat} {ph : Nat → Nat → Int} {mn : Nat} {mg : Nat → Int} {kn : Nat} {kr : Nat → Int} {ks : Nat → Nat} {kt : Nat → Nat → Int} {rd : Nat} {rg : Nat → Int} {th : Int} {g : Nat} (hM : MW σ th pr ln lw bn cd sz ph mn mg kn kr ks kt rd rg) (hI : CI pr ln lw bn cd sz ph mn mg kn kr ks kt rd rg) (hg : g < mn) : JM X mX7_group rX7_group [.ref 37, vI ((g : Nat) : Int)] σ (MP 0 (mg g) σ (fun σ1 => MW σ1 0 pr ln lw bn cd sz ph mn mg kn kr ks kt rd rg)) := by
  refine JM.of (lc := [.ref 37, vI ((g : Nat) : Int)]) rfl ?_
  obtain ⟨hpr, ⟨hln, hlw⟩, hbk, ⟨hmn, hmg⟩, hki, hrd, hrg⟩ := id hI
  obtain ⟨⟨pa, ps, hO⟩, ⟨ml, h38, hml, hmi⟩, h39, ⟨Kw, h40, hw9, hkw⟩, h41, ⟨Mc, h42, hMc⟩, ⟨Ms, h43, hMs⟩, ⟨Mp, h44, hMp⟩, h45, h46, ⟨lf, h47⟩, ⟨pc, h48⟩⟩ := id hM
  have hkn := hki.1
  refine J.ald_n dX7_group_0 rfl ?_
  refine J.iconst dX7_group_1 ?_
  refine pf_X7_47 rfl dX7_group_2 hO ?_
  refine J.ald_n dX7_group_5 rfl ?_
  refine J.ild_n dX7_group_6 rfl ?_
  refine J.callV (rm' := rX7_isGroup) [vI ((g : Nat) : Int)] dX7_group_7 (c_X7_isGroup_t (jset_eq _ _ _) (by unfold inI; omega) (by omega) (by omega)) (jset_eq _ _ _) rfl st_X7_isGroup ml_X7_127 im_X7_isGroup se_X7_isGroup rfl (Nat.le_of_ble_eq_true rfl) (by decide) (by decide) (Nat.le_of_ble_eq_true rfl) (by decide) (by decide) (Or.inl rfl) (fun E9 σ9 hq9 _ => nomatch hq9.1) (fun r9 σ9 hq9 hle9 => ?_)
  obtain ⟨h9, h8⟩ := hq9
  rw [h8]
  clear hle9 h8 σ9
  cases h9
  refine J.if_eq dX7_group_10 (by decide) (tgt := 22) (by unfold inI; omega) (fun hb10 => ?_) (fun hb10 => ?_)
  · first | exact absurd hb10 (by decide) | exact absurd rfl hb10 | omega
  · refine J.ald_n dX7_group_13 rfl ?_
    refine gf_X7_35 rfl dX7_group_14 (jset_eq _ _ _) ?_
    refine J.ild_n dX7_group_17 rfl ?_
    refine J.iald g dX7_group_18 ((jset_ne _ _ (by omega)).trans h45) rfl (by omega) (by omega) ?_
    refine J.goto dX7_group_19 (by decide) (tgt := 27) ?_
    refine J.iret .int dX7_group_27 rfl rfl (by decide) (by decide) ?_
    exact ⟨⟨_, rfl, fun _ => rfl⟩, ⟨⟨pa, ps, (jset_eq _ _ _)⟩, ⟨ml, ((jset_ne _ _ (by omega)).trans h38), hml, hmi⟩, ((jset_ne _ _ (by omega)).trans h39), ⟨Kw, ((jset_ne _ _ (by omega)).trans h40), hw9, hkw⟩, ((jset_ne _ _ (by omega)).trans h41), ⟨Mc, ((jset_ne _ _ (by omega)).trans h42), hMc⟩, ⟨Ms, ((jset_ne _ _ (by omega)).trans h43), hMs⟩, ⟨Mp, ((jset_ne _ _ (by omega)).trans h44), hMp⟩, ((jset_ne _ _ (by omega)).trans h45), ((jset_ne _ _ (by omega)).trans h46), ⟨_, ((jset_ne _ _ (by omega)).trans h47)⟩, ⟨_, ((jset_ne _ _ (by omega)).trans h48)⟩⟩, rfl, fun j hj => ((jset_ne _ _ (by omega)).trans (rfl : σ.2 j = σ.2 j))⟩
set_option maxRecDepth 20000 in
theorem m_how_1 {X : jX} {σ : jS} {pr : Int} {ln : Nat} {lw : Nat → Int} {bn : Nat → Nat} {cd sz : Nat → Nat → Nat} {ph : Nat → Nat → Int} {mn : Nat} {mg : Nat → Int} {kn : Nat} {kr : Nat → Int} {ks : Nat → Nat} {kt : Nat → Nat → Int} {rd : Nat} {rg : Nat → Int} {th : Int} {a : Int} (hM : MW σ th pr ln lw bn cd sz ph mn mg kn kr ks kt rd rg) (hI : CI pr ln lw bn cd sz ph mn mg kn kr ks kt rd rg) (hi : inI a) (ha : ¬ (0 ≤ a ∧ a < ((rd : Nat) : Int))) : JM X mX7_how rX7_how [.ref 37, vI a] σ (MP 1 (0) σ (fun σ1 => MW σ1 1 pr ln lw bn cd sz ph mn mg kn kr ks kt rd rg)) := by
  refine JM.of (lc := [.ref 37, vI a]) rfl ?_
  obtain ⟨hpr, ⟨hln, hlw⟩, hbk, ⟨hmn, hmg⟩, hki, hrd, hrg⟩ := id hI
  obtain ⟨⟨pa, ps, hO⟩, ⟨ml, h38, hml, hmi⟩, h39, ⟨Kw, h40, hw9, hkw⟩, h41, ⟨Mc, h42, hMc⟩, ⟨Ms, h43, hMs⟩, ⟨Mp, h44, hMp⟩, h45, h46, ⟨lf, h47⟩, ⟨pc, h48⟩⟩ := id hM
  have hkn := hki.1
  refine J.ald_n dX7_how_0 rfl ?_
  refine J.iconst dX7_how_1 ?_
  refine pf_X7_47 rfl dX7_how_2 hO ?_
  refine J.ild_n dX7_how_5 rfl ?_
  refine J.iconst dX7_how_6 ?_
  refine J.ald_n dX7_how_7 rfl ?_
  refine gf_X7_130 rfl dX7_how_8 (jset_eq _ _ _) ?_
  refine J.iconst dX7_how_11 ?_
  refine J.isub dX7_how_12 ?_
  refine J.callS (rm' := rX7_isIn) [vI a, vI 0, vI (((rd : Nat) : Int) - 1)] dX7_how_13 (c_X7_isIn_f hi (by unfold inI; omega) (by unfold inI; omega) (by omega)) st_X7_isIn ml_X7_50 sm_X7_isIn rfl (Nat.le_of_ble_eq_true rfl) (by decide) (by decide) (Nat.le_of_ble_eq_true rfl) (by decide) (by decide) (Or.inl rfl) (fun E9 σ9 hq9 _ => nomatch hq9.1) (fun r9 σ9 hq9 hle9 => ?_)
  obtain ⟨h9, h8⟩ := hq9
  rw [h8]
  clear hle9 h8 σ9
  cases h9
  refine J.if_eq dX7_how_16 (by decide) (tgt := 28) (by unfold inI; omega) (fun hb16 => ?_) (fun hb16 => ?_)
  · refine J.ald_n dX7_how_28 rfl ?_
    refine J.iconst dX7_how_29 ?_
    refine J.callV (rm' := rX7_no) [vI 1] dX7_how_30 (c_X7_no (jset_eq _ _ _)) (jset_eq _ _ _) rfl st_X7_no ml_X7_59 im_X7_no se_X7_no rfl (Nat.le_of_ble_eq_true rfl) (by decide) (by decide) (Nat.le_of_ble_eq_true rfl) (by decide) (by decide) (Or.inl rfl) (fun E9 σ9 hq9 _ => nomatch hq9.1) (fun r9 σ9 hq9 hle9 => ?_)
    obtain ⟨h9, h8⟩ := hq9
    cases h9
    subst h8
    clear hle9
    refine J.iret .int dX7_how_33 rfl rfl (by decide) (by decide) ?_
    exact ⟨⟨_, rfl, fun q => absurd q (by decide)⟩, ⟨⟨pa, ps, (jset_eq _ _ _)⟩, ⟨ml, ((jset_ne _ _ (by omega)).trans ((jset_ne _ _ (by omega)).trans h38)), hml, hmi⟩, ((jset_ne _ _ (by omega)).trans ((jset_ne _ _ (by omega)).trans h39)), ⟨Kw, ((jset_ne _ _ (by omega)).trans ((jset_ne _ _ (by omega)).trans h40)), hw9, hkw⟩, ((jset_ne _ _ (by omega)).trans ((jset_ne _ _ (by omega)).trans h41)), ⟨Mc, ((jset_ne _ _ (by omega)).trans ((jset_ne _ _ (by omega)).trans h42)), hMc⟩, ⟨Ms, ((jset_ne _ _ (by omega)).trans ((jset_ne _ _ (by omega)).trans h43)), hMs⟩, ⟨Mp, ((jset_ne _ _ (by omega)).trans ((jset_ne _ _ (by omega)).trans h44)), hMp⟩, ((jset_ne _ _ (by omega)).trans ((jset_ne _ _ (by omega)).trans h45)), ((jset_ne _ _ (by omega)).trans ((jset_ne _ _ (by omega)).trans h46)), ⟨_, ((jset_ne _ _ (by omega)).trans ((jset_ne _ _ (by omega)).trans h47))⟩, ⟨_, ((jset_ne _ _ (by omega)).trans ((jset_ne _ _ (by omega)).trans h48))⟩⟩, rfl, fun j hj => ((jset_ne _ _ (by omega)).trans ((jset_ne _ _ (by omega)).trans (rfl : σ.2 j = σ.2 j)))⟩
  · first | exact absurd hb16 (by decide) | exact absurd rfl hb16 | omega
set_option maxRecDepth 20000 in
theorem m_how_0 {X : jX} {σ : jS} {pr : Int} {ln : Nat} {lw : Nat → Int} {bn : Nat → Nat} {cd sz : Nat → Nat → Nat} {ph : Nat → Nat → Int} {mn : Nat} {mg : Nat → Int} {kn : Nat} {kr : Nat → Int} {ks : Nat → Nat} {kt : Nat → Nat → Int} {rd : Nat} {rg : Nat → Int} {th : Int} {g : Nat} (hM : MW σ th pr ln lw bn cd sz ph mn mg kn kr ks kt rd rg) (hI : CI pr ln lw bn cd sz ph mn mg kn kr ks kt rd rg) (hg : g < rd) : JM X mX7_how rX7_how [.ref 37, vI ((g : Nat) : Int)] σ (MP 0 (rg g) σ (fun σ1 => MW σ1 0 pr ln lw bn cd sz ph mn mg kn kr ks kt rd rg)) := by
  refine JM.of (lc := [.ref 37, vI ((g : Nat) : Int)]) rfl ?_
  obtain ⟨hpr, ⟨hln, hlw⟩, hbk, ⟨hmn, hmg⟩, hki, hrd, hrg⟩ := id hI
  obtain ⟨⟨pa, ps, hO⟩, ⟨ml, h38, hml, hmi⟩, h39, ⟨Kw, h40, hw9, hkw⟩, h41, ⟨Mc, h42, hMc⟩, ⟨Ms, h43, hMs⟩, ⟨Mp, h44, hMp⟩, h45, h46, ⟨lf, h47⟩, ⟨pc, h48⟩⟩ := id hM
  have hkn := hki.1
  refine J.ald_n dX7_how_0 rfl ?_
  refine J.iconst dX7_how_1 ?_
  refine pf_X7_47 rfl dX7_how_2 hO ?_
  refine J.ild_n dX7_how_5 rfl ?_
  refine J.iconst dX7_how_6 ?_
  refine J.ald_n dX7_how_7 rfl ?_
  refine gf_X7_130 rfl dX7_how_8 (jset_eq _ _ _) ?_
  refine J.iconst dX7_how_11 ?_
  refine J.isub dX7_how_12 ?_
  refine J.callS (rm' := rX7_isIn) [vI ((g : Nat) : Int), vI 0, vI (((rd : Nat) : Int) - 1)] dX7_how_13 (c_X7_isIn_t (by unfold inI; omega) (by unfold inI; omega) (by unfold inI; omega) (by omega)) st_X7_isIn ml_X7_50 sm_X7_isIn rfl (Nat.le_of_ble_eq_true rfl) (by decide) (by decide) (Nat.le_of_ble_eq_true rfl) (by decide) (by decide) (Or.inl rfl) (fun E9 σ9 hq9 _ => nomatch hq9.1) (fun r9 σ9 hq9 hle9 => ?_)
  obtain ⟨h9, h8⟩ := hq9
  rw [h8]
  clear hle9 h8 σ9
  cases h9
  refine J.if_eq dX7_how_16 (by decide) (tgt := 28) (by unfold inI; omega) (fun hb16 => ?_) (fun hb16 => ?_)
  · first | exact absurd hb16 (by decide) | exact absurd rfl hb16 | omega
  · refine J.ald_n dX7_how_19 rfl ?_
    refine gf_X7_38 rfl dX7_how_20 (jset_eq _ _ _) ?_
    refine J.ild_n dX7_how_23 rfl ?_
    refine J.iald g dX7_how_24 ((jset_ne _ _ (by omega)).trans h46) rfl (by omega) (by omega) ?_
    refine J.goto dX7_how_25 (by decide) (tgt := 33) ?_
    refine J.iret .int dX7_how_33 rfl rfl (by decide) (by decide) ?_
    exact ⟨⟨_, rfl, fun _ => rfl⟩, ⟨⟨pa, ps, (jset_eq _ _ _)⟩, ⟨ml, ((jset_ne _ _ (by omega)).trans h38), hml, hmi⟩, ((jset_ne _ _ (by omega)).trans h39), ⟨Kw, ((jset_ne _ _ (by omega)).trans h40), hw9, hkw⟩, ((jset_ne _ _ (by omega)).trans h41), ⟨Mc, ((jset_ne _ _ (by omega)).trans h42), hMc⟩, ⟨Ms, ((jset_ne _ _ (by omega)).trans h43), hMs⟩, ⟨Mp, ((jset_ne _ _ (by omega)).trans h44), hMp⟩, ((jset_ne _ _ (by omega)).trans h45), ((jset_ne _ _ (by omega)).trans h46), ⟨_, ((jset_ne _ _ (by omega)).trans h47)⟩, ⟨_, ((jset_ne _ _ (by omega)).trans h48)⟩⟩, rfl, fun j hj => ((jset_ne _ _ (by omega)).trans (rfl : σ.2 j = σ.2 j))⟩
set_option maxRecDepth 20000 in
theorem m_garble_1 {X : jX} {σ : jS} {pr : Int} {ln : Nat} {lw : Nat → Int} {bn : Nat → Nat} {cd sz : Nat → Nat → Nat} {ph : Nat → Nat → Int} {mn : Nat} {mg : Nat → Int} {kn : Nat} {kr : Nat → Int} {ks : Nat → Nat} {kt : Nat → Nat → Int} {rd : Nat} {rg : Nat → Int} {th : Int} {a c d : Int} (hM : MW σ th pr ln lw bn cd sz ph mn mg kn kr ks kt rd rg) (hI : CI pr ln lw bn cd sz ph mn mg kn kr ks kt rd rg) (hi : inI a) (ha : ¬ (0 ≤ a ∧ a < ((mn : Nat) : Int))) : JM X mX7_garble rX7_garble [.ref 37, vI a, vI c, vI d] σ (MP 1 (0) σ (fun σ1 => MW σ1 1 pr ln lw bn cd sz ph mn mg kn kr ks kt rd rg)) := by
  refine JM.of (lc := [.ref 37, vI a, vI c, vI d, .null]) rfl ?_
  obtain ⟨hpr, ⟨hln, hlw⟩, hbk, ⟨hmn, hmg⟩, hki, hrd, hrg⟩ := id hI
  obtain ⟨⟨pa, ps, hO⟩, ⟨ml, h38, hml, hmi⟩, h39, ⟨Kw, h40, hw9, hkw⟩, h41, ⟨Mc, h42, hMc⟩, ⟨Ms, h43, hMs⟩, ⟨Mp, h44, hMp⟩, h45, h46, ⟨lf, h47⟩, ⟨pc, h48⟩⟩ := id hM
  have hkn := hki.1
  refine J.ald_n dX7_garble_0 rfl ?_
  refine J.iconst dX7_garble_1 ?_
  refine pf_X7_47 rfl dX7_garble_2 hO ?_
  refine J.ald_n dX7_garble_5 rfl ?_
  refine J.ild_n dX7_garble_6 rfl ?_
  refine J.callV (rm' := rX7_isGroup) [vI a] dX7_garble_7 (c_X7_isGroup_f (jset_eq _ _ _) hi (by omega) (by omega)) (jset_eq _ _ _) rfl st_X7_isGroup ml_X7_127 im_X7_isGroup se_X7_isGroup rfl (Nat.le_of_ble_eq_true rfl) (by decide) (by decide) (Nat.le_of_ble_eq_true rfl) (by decide) (by decide) (Or.inl rfl) (fun E9 σ9 hq9 _ => nomatch hq9.1) (fun r9 σ9 hq9 hle9 => ?_)
  obtain ⟨h9, h8⟩ := hq9
  rw [h8]
  clear hle9 h8 σ9
  cases h9
  refine J.if_eq dX7_garble_10 (by decide) (tgt := 22) (by unfold inI; omega) (fun hb10 => ?_) (fun hb10 => ?_)
  · refine J.ald_n dX7_garble_22 rfl ?_
    refine J.iconst dX7_garble_23 ?_
    refine J.callV (rm' := rX7_no) [vI 1] dX7_garble_24 (c_X7_no (jset_eq _ _ _)) (jset_eq _ _ _) rfl st_X7_no ml_X7_59 im_X7_no se_X7_no rfl (Nat.le_of_ble_eq_true rfl) (by decide) (by decide) (Nat.le_of_ble_eq_true rfl) (by decide) (by decide) (Or.inl rfl) (fun E9 σ9 hq9 _ => nomatch hq9.1) (fun r9 σ9 hq9 hle9 => ?_)
    obtain ⟨h9, h8⟩ := hq9
    cases h9
    subst h8
    clear hle9
    refine J.iret .int dX7_garble_27 rfl rfl (by decide) (by decide) ?_
    exact ⟨⟨_, rfl, fun q => absurd q (by decide)⟩, ⟨⟨pa, ps, (jset_eq _ _ _)⟩, ⟨ml, ((jset_ne _ _ (by omega)).trans ((jset_ne _ _ (by omega)).trans h38)), hml, hmi⟩, ((jset_ne _ _ (by omega)).trans ((jset_ne _ _ (by omega)).trans h39)), ⟨Kw, ((jset_ne _ _ (by omega)).trans ((jset_ne _ _ (by omega)).trans h40)), hw9, hkw⟩, ((jset_ne _ _ (by omega)).trans ((jset_ne _ _ (by omega)).trans h41)), ⟨Mc, ((jset_ne _ _ (by omega)).trans ((jset_ne _ _ (by omega)).trans h42)), hMc⟩, ⟨Ms, ((jset_ne _ _ (by omega)).trans ((jset_ne _ _ (by omega)).trans h43)), hMs⟩, ⟨Mp, ((jset_ne _ _ (by omega)).trans ((jset_ne _ _ (by omega)).trans h44)), hMp⟩, ((jset_ne _ _ (by omega)).trans ((jset_ne _ _ (by omega)).trans h45)), ((jset_ne _ _ (by omega)).trans ((jset_ne _ _ (by omega)).trans h46)), ⟨_, ((jset_ne _ _ (by omega)).trans ((jset_ne _ _ (by omega)).trans h47))⟩, ⟨_, ((jset_ne _ _ (by omega)).trans ((jset_ne _ _ (by omega)).trans h48))⟩⟩, rfl, fun j hj => ((jset_ne _ _ (by omega)).trans ((jset_ne _ _ (by omega)).trans (rfl : σ.2 j = σ.2 j)))⟩
  · first | exact absurd hb10 (by decide) | exact absurd rfl hb10 | omega
set_option maxRecDepth 20000 in
theorem m_garble_2 {X : jX} {σ : jS} {pr : Int} {ln : Nat} {lw : Nat → Int} {bn : Nat → Nat} {cd sz : Nat → Nat → Nat} {ph : Nat → Nat → Int} {mn : Nat} {mg : Nat → Int} {kn : Nat} {kr : Nat → Int} {ks : Nat → Nat} {kt : Nat → Nat → Int} {rd : Nat} {rg : Nat → Int} {th : Int} {g : Nat} {a d : Int} (hM : MW σ th pr ln lw bn cd sz ph mn mg kn kr ks kt rd rg) (hI : CI pr ln lw bn cd sz ph mn mg kn kr ks kt rd rg) (hg : g < mn) (hi : inI a) (ha : ¬ (0 ≤ a ∧ a < ((5 : Nat) : Int))) : JM X mX7_garble rX7_garble [.ref 37, vI ((g : Nat) : Int), vI a, vI d] σ (MP 1 (0) σ (fun σ1 => MW σ1 1 pr ln lw bn cd sz ph mn mg kn kr ks kt rd rg)) := by
  refine JM.of (lc := [.ref 37, vI ((g : Nat) : Int), vI a, vI d, .null]) rfl ?_
  obtain ⟨hpr, ⟨hln, hlw⟩, hbk, ⟨hmn, hmg⟩, hki, hrd, hrg⟩ := id hI
  obtain ⟨⟨pa, ps, hO⟩, ⟨ml, h38, hml, hmi⟩, h39, ⟨Kw, h40, hw9, hkw⟩, h41, ⟨Mc, h42, hMc⟩, ⟨Ms, h43, hMs⟩, ⟨Mp, h44, hMp⟩, h45, h46, ⟨lf, h47⟩, ⟨pc, h48⟩⟩ := id hM
  have hkn := hki.1
  refine J.ald_n dX7_garble_0 rfl ?_
  refine J.iconst dX7_garble_1 ?_
  refine pf_X7_47 rfl dX7_garble_2 hO ?_
  refine J.ald_n dX7_garble_5 rfl ?_
  refine J.ild_n dX7_garble_6 rfl ?_
  refine J.callV (rm' := rX7_isGroup) [vI ((g : Nat) : Int)] dX7_garble_7 (c_X7_isGroup_t (jset_eq _ _ _) (by unfold inI; omega) (by omega) (by omega)) (jset_eq _ _ _) rfl st_X7_isGroup ml_X7_127 im_X7_isGroup se_X7_isGroup rfl (Nat.le_of_ble_eq_true rfl) (by decide) (by decide) (Nat.le_of_ble_eq_true rfl) (by decide) (by decide) (Or.inl rfl) (fun E9 σ9 hq9 _ => nomatch hq9.1) (fun r9 σ9 hq9 hle9 => ?_)
  obtain ⟨h9, h8⟩ := hq9
  rw [h8]
  clear hle9 h8 σ9
  cases h9
  refine J.if_eq dX7_garble_10 (by decide) (tgt := 22) (by unfold inI; omega) (fun hb10 => ?_) (fun hb10 => ?_)
  · first | exact absurd hb10 (by decide) | exact absurd rfl hb10 | omega
  · refine J.ild_n dX7_garble_13 rfl ?_
    refine J.iconst dX7_garble_14 ?_
    refine J.iconst dX7_garble_15 ?_
    refine J.callS (rm' := rX7_isIn) [vI a, vI 0, vI 4] dX7_garble_16 (c_X7_isIn_f hi (by unfold inI; omega) (by unfold inI; omega) (by omega)) st_X7_isIn ml_X7_50 sm_X7_isIn rfl (Nat.le_of_ble_eq_true rfl) (by decide) (by decide) (Nat.le_of_ble_eq_true rfl) (by decide) (by decide) (Or.inl rfl) (fun E9 σ9 hq9 _ => nomatch hq9.1) (fun r9 σ9 hq9 hle9 => ?_)
    obtain ⟨h9, h8⟩ := hq9
    rw [h8]
    clear hle9 h8 σ9
    cases h9
    refine J.if_ne dX7_garble_19 (by decide) (tgt := 28) (by unfold inI; omega) (fun hb19 => ?_) (fun hb19 => ?_)
    · first | exact absurd hb19 (by decide) | exact absurd rfl hb19 | omega
    · refine J.ald_n dX7_garble_22 rfl ?_
      refine J.iconst dX7_garble_23 ?_
      refine J.callV (rm' := rX7_no) [vI 1] dX7_garble_24 (c_X7_no (jset_eq _ _ _)) (jset_eq _ _ _) rfl st_X7_no ml_X7_59 im_X7_no se_X7_no rfl (Nat.le_of_ble_eq_true rfl) (by decide) (by decide) (Nat.le_of_ble_eq_true rfl) (by decide) (by decide) (Or.inl rfl) (fun E9 σ9 hq9 _ => nomatch hq9.1) (fun r9 σ9 hq9 hle9 => ?_)
      obtain ⟨h9, h8⟩ := hq9
      cases h9
      subst h8
      clear hle9
      refine J.iret .int dX7_garble_27 rfl rfl (by decide) (by decide) ?_
      exact ⟨⟨_, rfl, fun q => absurd q (by decide)⟩, ⟨⟨pa, ps, (jset_eq _ _ _)⟩, ⟨ml, ((jset_ne _ _ (by omega)).trans ((jset_ne _ _ (by omega)).trans h38)), hml, hmi⟩, ((jset_ne _ _ (by omega)).trans ((jset_ne _ _ (by omega)).trans h39)), ⟨Kw, ((jset_ne _ _ (by omega)).trans ((jset_ne _ _ (by omega)).trans h40)), hw9, hkw⟩, ((jset_ne _ _ (by omega)).trans ((jset_ne _ _ (by omega)).trans h41)), ⟨Mc, ((jset_ne _ _ (by omega)).trans ((jset_ne _ _ (by omega)).trans h42)), hMc⟩, ⟨Ms, ((jset_ne _ _ (by omega)).trans ((jset_ne _ _ (by omega)).trans h43)), hMs⟩, ⟨Mp, ((jset_ne _ _ (by omega)).trans ((jset_ne _ _ (by omega)).trans h44)), hMp⟩, ((jset_ne _ _ (by omega)).trans ((jset_ne _ _ (by omega)).trans h45)), ((jset_ne _ _ (by omega)).trans ((jset_ne _ _ (by omega)).trans h46)), ⟨_, ((jset_ne _ _ (by omega)).trans ((jset_ne _ _ (by omega)).trans h47))⟩, ⟨_, ((jset_ne _ _ (by omega)).trans ((jset_ne _ _ (by omega)).trans h48))⟩⟩, rfl, fun j hj => ((jset_ne _ _ (by omega)).trans ((jset_ne _ _ (by omega)).trans (rfl : σ.2 j = σ.2 j)))⟩
set_option maxRecDepth 20000 in
theorem m_garble_3 {X : jX} {σ : jS} {pr : Int} {ln : Nat} {lw : Nat → Int} {bn : Nat → Nat} {cd sz : Nat → Nat → Nat} {ph : Nat → Nat → Int} {mn : Nat} {mg : Nat → Int} {kn : Nat} {kr : Nat → Int} {ks : Nat → Nat} {kt : Nat → Nat → Int} {rd : Nat} {rg : Nat → Int} {th : Int} {g p : Nat} {a : Int} (hM : MW σ th pr ln lw bn cd sz ph mn mg kn kr ks kt rd rg) (hI : CI pr ln lw bn cd sz ph mn mg kn kr ks kt rd rg) (hg : g < mn) (hp : p < 5) (hi : inI a) (ha : ¬ (0 ≤ a ∧ a ≤ 25)) : JM X mX7_garble rX7_garble [.ref 37, vI ((g : Nat) : Int), vI ((p : Nat) : Int), vI a] σ (MP 2 (0) σ (fun σ1 => MW σ1 2 pr ln lw bn cd sz ph mn mg kn kr ks kt rd rg)) := by
  refine JM.of (lc := [.ref 37, vI ((g : Nat) : Int), vI ((p : Nat) : Int), vI a, .null]) rfl ?_
  obtain ⟨hpr, ⟨hln, hlw⟩, hbk, ⟨hmn, hmg⟩, hki, hrd, hrg⟩ := id hI
  obtain ⟨⟨pa, ps, hO⟩, ⟨ml, h38, hml, hmi⟩, h39, ⟨Kw, h40, hw9, hkw⟩, h41, ⟨Mc, h42, hMc⟩, ⟨Ms, h43, hMs⟩, ⟨Mp, h44, hMp⟩, h45, h46, ⟨lf, h47⟩, ⟨pc, h48⟩⟩ := id hM
  have hkn := hki.1
  refine J.ald_n dX7_garble_0 rfl ?_
  refine J.iconst dX7_garble_1 ?_
  refine pf_X7_47 rfl dX7_garble_2 hO ?_
  refine J.ald_n dX7_garble_5 rfl ?_
  refine J.ild_n dX7_garble_6 rfl ?_
  refine J.callV (rm' := rX7_isGroup) [vI ((g : Nat) : Int)] dX7_garble_7 (c_X7_isGroup_t (jset_eq _ _ _) (by unfold inI; omega) (by omega) (by omega)) (jset_eq _ _ _) rfl st_X7_isGroup ml_X7_127 im_X7_isGroup se_X7_isGroup rfl (Nat.le_of_ble_eq_true rfl) (by decide) (by decide) (Nat.le_of_ble_eq_true rfl) (by decide) (by decide) (Or.inl rfl) (fun E9 σ9 hq9 _ => nomatch hq9.1) (fun r9 σ9 hq9 hle9 => ?_)
  obtain ⟨h9, h8⟩ := hq9
  rw [h8]
  clear hle9 h8 σ9
  cases h9
  refine J.if_eq dX7_garble_10 (by decide) (tgt := 22) (by unfold inI; omega) (fun hb10 => ?_) (fun hb10 => ?_)
  · first | exact absurd hb10 (by decide) | exact absurd rfl hb10 | omega
  · refine J.ild_n dX7_garble_13 rfl ?_
    refine J.iconst dX7_garble_14 ?_
    refine J.iconst dX7_garble_15 ?_
    refine J.callS (rm' := rX7_isIn) [vI ((p : Nat) : Int), vI 0, vI 4] dX7_garble_16 (c_X7_isIn_t (by unfold inI; omega) (by unfold inI; omega) (by unfold inI; omega) (by omega)) st_X7_isIn ml_X7_50 sm_X7_isIn rfl (Nat.le_of_ble_eq_true rfl) (by decide) (by decide) (Nat.le_of_ble_eq_true rfl) (by decide) (by decide) (Or.inl rfl) (fun E9 σ9 hq9 _ => nomatch hq9.1) (fun r9 σ9 hq9 hle9 => ?_)
    obtain ⟨h9, h8⟩ := hq9
    rw [h8]
    clear hle9 h8 σ9
    cases h9
    refine J.if_ne dX7_garble_19 (by decide) (tgt := 28) (by unfold inI; omega) (fun hb19 => ?_) (fun hb19 => ?_)
    · refine J.ild_n dX7_garble_28 rfl ?_
      refine J.iconst dX7_garble_29 ?_
      refine J.bipush dX7_garble_30 (by decide) ?_
      refine J.callS (rm' := rX7_isIn) [vI a, vI 0, vI 25] dX7_garble_32 (c_X7_isIn_f hi (by unfold inI; omega) (by unfold inI; omega) (by omega)) st_X7_isIn ml_X7_50 sm_X7_isIn rfl (Nat.le_of_ble_eq_true rfl) (by decide) (by decide) (Nat.le_of_ble_eq_true rfl) (by decide) (by decide) (Or.inl rfl) (fun E9 σ9 hq9 _ => nomatch hq9.1) (fun r9 σ9 hq9 hle9 => ?_)
      obtain ⟨h9, h8⟩ := hq9
      rw [h8]
      clear hle9 h8 σ9
      cases h9
      refine J.if_ne dX7_garble_35 (by decide) (tgt := 44) (by unfold inI; omega) (fun hb35 => ?_) (fun hb35 => ?_)
      · first | exact absurd hb35 (by decide) | exact absurd rfl hb35 | omega
      · refine J.ald_n dX7_garble_38 rfl ?_
        refine J.iconst dX7_garble_39 ?_
        refine J.callV (rm' := rX7_no) [vI 2] dX7_garble_40 (c_X7_no (jset_eq _ _ _)) (jset_eq _ _ _) rfl st_X7_no ml_X7_59 im_X7_no se_X7_no rfl (Nat.le_of_ble_eq_true rfl) (by decide) (by decide) (Nat.le_of_ble_eq_true rfl) (by decide) (by decide) (Or.inl rfl) (fun E9 σ9 hq9 _ => nomatch hq9.1) (fun r9 σ9 hq9 hle9 => ?_)
        obtain ⟨h9, h8⟩ := hq9
        cases h9
        subst h8
        clear hle9
        refine J.iret .int dX7_garble_43 rfl rfl (by decide) (by decide) ?_
        exact ⟨⟨_, rfl, fun q => absurd q (by decide)⟩, ⟨⟨pa, ps, (jset_eq _ _ _)⟩, ⟨ml, ((jset_ne _ _ (by omega)).trans ((jset_ne _ _ (by omega)).trans h38)), hml, hmi⟩, ((jset_ne _ _ (by omega)).trans ((jset_ne _ _ (by omega)).trans h39)), ⟨Kw, ((jset_ne _ _ (by omega)).trans ((jset_ne _ _ (by omega)).trans h40)), hw9, hkw⟩, ((jset_ne _ _ (by omega)).trans ((jset_ne _ _ (by omega)).trans h41)), ⟨Mc, ((jset_ne _ _ (by omega)).trans ((jset_ne _ _ (by omega)).trans h42)), hMc⟩, ⟨Ms, ((jset_ne _ _ (by omega)).trans ((jset_ne _ _ (by omega)).trans h43)), hMs⟩, ⟨Mp, ((jset_ne _ _ (by omega)).trans ((jset_ne _ _ (by omega)).trans h44)), hMp⟩, ((jset_ne _ _ (by omega)).trans ((jset_ne _ _ (by omega)).trans h45)), ((jset_ne _ _ (by omega)).trans ((jset_ne _ _ (by omega)).trans h46)), ⟨_, ((jset_ne _ _ (by omega)).trans ((jset_ne _ _ (by omega)).trans h47))⟩, ⟨_, ((jset_ne _ _ (by omega)).trans ((jset_ne _ _ (by omega)).trans h48))⟩⟩, rfl, fun j hj => ((jset_ne _ _ (by omega)).trans ((jset_ne _ _ (by omega)).trans (rfl : σ.2 j = σ.2 j)))⟩
    · first | exact absurd hb19 (by decide) | exact absurd rfl hb19 | omega
set_option maxRecDepth 20000 in
theorem m_garble_4 {X : jX} {σ : jS} {pr : Int} {ln : Nat} {lw : Nat → Int} {bn : Nat → Nat} {cd sz : Nat → Nat → Nat} {ph : Nat → Nat → Int} {mn : Nat} {mg : Nat → Int} {kn : Nat} {kr : Nat → Int} {ks : Nat → Nat} {kt : Nat → Nat → Int} {rd : Nat} {rg : Nat → Int} {th : Int} {g p l : Nat} (hM : MW σ th pr ln lw bn cd sz ph mn mg kn kr ks kt rd rg) (hI : CI pr ln lw bn cd sz ph mn mg kn kr ks kt rd rg) (hg : g < mn) (hp : p < 5) (hl : l < 26) (hx : mg g < 0) : JM X mX7_garble rX7_garble [.ref 37, vI ((g : Nat) : Int), vI ((p : Nat) : Int), vI ((l : Nat) : Int)] σ (MP 3 (0) σ (fun σ1 => MW σ1 3 pr ln lw bn cd sz ph mn mg kn kr ks kt rd rg)) := by
  refine JM.of (lc := [.ref 37, vI ((g : Nat) : Int), vI ((p : Nat) : Int), vI ((l : Nat) : Int), .null]) rfl ?_
  obtain ⟨hpr, ⟨hln, hlw⟩, hbk, ⟨hmn, hmg⟩, hki, hrd, hrg⟩ := id hI
  obtain ⟨⟨pa, ps, hO⟩, ⟨ml, h38, hml, hmi⟩, h39, ⟨Kw, h40, hw9, hkw⟩, h41, ⟨Mc, h42, hMc⟩, ⟨Ms, h43, hMs⟩, ⟨Mp, h44, hMp⟩, h45, h46, ⟨lf, h47⟩, ⟨pc, h48⟩⟩ := id hM
  have hkn := hki.1
  have hmgg := hmg g
  refine J.ald_n dX7_garble_0 rfl ?_
  refine J.iconst dX7_garble_1 ?_
  refine pf_X7_47 rfl dX7_garble_2 hO ?_
  refine J.ald_n dX7_garble_5 rfl ?_
  refine J.ild_n dX7_garble_6 rfl ?_
  refine J.callV (rm' := rX7_isGroup) [vI ((g : Nat) : Int)] dX7_garble_7 (c_X7_isGroup_t (jset_eq _ _ _) (by unfold inI; omega) (by omega) (by omega)) (jset_eq _ _ _) rfl st_X7_isGroup ml_X7_127 im_X7_isGroup se_X7_isGroup rfl (Nat.le_of_ble_eq_true rfl) (by decide) (by decide) (Nat.le_of_ble_eq_true rfl) (by decide) (by decide) (Or.inl rfl) (fun E9 σ9 hq9 _ => nomatch hq9.1) (fun r9 σ9 hq9 hle9 => ?_)
  obtain ⟨h9, h8⟩ := hq9
  rw [h8]
  clear hle9 h8 σ9
  cases h9
  refine J.if_eq dX7_garble_10 (by decide) (tgt := 22) (by unfold inI; omega) (fun hb10 => ?_) (fun hb10 => ?_)
  · first | exact absurd hb10 (by decide) | exact absurd rfl hb10 | omega
  · refine J.ild_n dX7_garble_13 rfl ?_
    refine J.iconst dX7_garble_14 ?_
    refine J.iconst dX7_garble_15 ?_
    refine J.callS (rm' := rX7_isIn) [vI ((p : Nat) : Int), vI 0, vI 4] dX7_garble_16 (c_X7_isIn_t (by unfold inI; omega) (by unfold inI; omega) (by unfold inI; omega) (by omega)) st_X7_isIn ml_X7_50 sm_X7_isIn rfl (Nat.le_of_ble_eq_true rfl) (by decide) (by decide) (Nat.le_of_ble_eq_true rfl) (by decide) (by decide) (Or.inl rfl) (fun E9 σ9 hq9 _ => nomatch hq9.1) (fun r9 σ9 hq9 hle9 => ?_)
    obtain ⟨h9, h8⟩ := hq9
    rw [h8]
    clear hle9 h8 σ9
    cases h9
    refine J.if_ne dX7_garble_19 (by decide) (tgt := 28) (by unfold inI; omega) (fun hb19 => ?_) (fun hb19 => ?_)
    · refine J.ild_n dX7_garble_28 rfl ?_
      refine J.iconst dX7_garble_29 ?_
      refine J.bipush dX7_garble_30 (by decide) ?_
      refine J.callS (rm' := rX7_isIn) [vI ((l : Nat) : Int), vI 0, vI 25] dX7_garble_32 (c_X7_isIn_t (by unfold inI; omega) (by unfold inI; omega) (by unfold inI; omega) (by omega)) st_X7_isIn ml_X7_50 sm_X7_isIn rfl (Nat.le_of_ble_eq_true rfl) (by decide) (by decide) (Nat.le_of_ble_eq_true rfl) (by decide) (by decide) (Or.inl rfl) (fun E9 σ9 hq9 _ => nomatch hq9.1) (fun r9 σ9 hq9 hle9 => ?_)
      obtain ⟨h9, h8⟩ := hq9
      rw [h8]
      clear hle9 h8 σ9
      cases h9
      refine J.if_ne dX7_garble_35 (by decide) (tgt := 44) (by unfold inI; omega) (fun hb35 => ?_) (fun hb35 => ?_)
      · refine J.ald_n dX7_garble_44 rfl ?_
        refine gf_X7_35 rfl dX7_garble_45 (jset_eq _ _ _) ?_
        refine J.ild_n dX7_garble_48 rfl ?_
        refine J.iald g dX7_garble_49 ((jset_ne _ _ (by omega)).trans h45) rfl (by omega) (by omega) ?_
        refine J.if_ge dX7_garble_50 (by decide) (tgt := 59) (by unfold inI; omega) (fun hb50 => ?_) (fun hb50 => ?_)
        · first | omega | exact absurd rfl hb50 | exact absurd hb50 (by decide)
        · refine J.ald_n dX7_garble_53 rfl ?_
          refine J.iconst dX7_garble_54 ?_
          refine J.callV (rm' := rX7_no) [vI 3] dX7_garble_55 (c_X7_no (jset_eq _ _ _)) (jset_eq _ _ _) rfl st_X7_no ml_X7_59 im_X7_no se_X7_no rfl (Nat.le_of_ble_eq_true rfl) (by decide) (by decide) (Nat.le_of_ble_eq_true rfl) (by decide) (by decide) (Or.inl rfl) (fun E9 σ9 hq9 _ => nomatch hq9.1) (fun r9 σ9 hq9 hle9 => ?_)
          obtain ⟨h9, h8⟩ := hq9
          cases h9
          subst h8
          clear hle9
          refine J.iret .int dX7_garble_58 rfl rfl (by decide) (by decide) ?_
          exact ⟨⟨_, rfl, fun q => absurd q (by decide)⟩, ⟨⟨pa, ps, (jset_eq _ _ _)⟩, ⟨ml, ((jset_ne _ _ (by omega)).trans ((jset_ne _ _ (by omega)).trans h38)), hml, hmi⟩, ((jset_ne _ _ (by omega)).trans ((jset_ne _ _ (by omega)).trans h39)), ⟨Kw, ((jset_ne _ _ (by omega)).trans ((jset_ne _ _ (by omega)).trans h40)), hw9, hkw⟩, ((jset_ne _ _ (by omega)).trans ((jset_ne _ _ (by omega)).trans h41)), ⟨Mc, ((jset_ne _ _ (by omega)).trans ((jset_ne _ _ (by omega)).trans h42)), hMc⟩, ⟨Ms, ((jset_ne _ _ (by omega)).trans ((jset_ne _ _ (by omega)).trans h43)), hMs⟩, ⟨Mp, ((jset_ne _ _ (by omega)).trans ((jset_ne _ _ (by omega)).trans h44)), hMp⟩, ((jset_ne _ _ (by omega)).trans ((jset_ne _ _ (by omega)).trans h45)), ((jset_ne _ _ (by omega)).trans ((jset_ne _ _ (by omega)).trans h46)), ⟨_, ((jset_ne _ _ (by omega)).trans ((jset_ne _ _ (by omega)).trans h47))⟩, ⟨_, ((jset_ne _ _ (by omega)).trans ((jset_ne _ _ (by omega)).trans h48))⟩⟩, rfl, fun j hj => ((jset_ne _ _ (by omega)).trans ((jset_ne _ _ (by omega)).trans (rfl : σ.2 j = σ.2 j)))⟩
      · first | exact absurd hb35 (by decide) | exact absurd rfl hb35 | omega
    · first | exact absurd hb19 (by decide) | exact absurd rfl hb19 | omega
set_option maxRecDepth 20000 in
theorem m_garble_0 {X : jX} {σ : jS} {pr : Int} {ln : Nat} {lw : Nat → Int} {bn : Nat → Nat} {cd sz : Nat → Nat → Nat} {ph : Nat → Nat → Int} {mn : Nat} {mg : Nat → Int} {kn : Nat} {kr : Nat → Int} {ks : Nat → Nat} {kt : Nat → Nat → Int} {rd : Nat} {rg : Nat → Int} {th : Int} {g p l : Nat} (hM : MW σ th pr ln lw bn cd sz ph mn mg kn kr ks kt rd rg) (hI : CI pr ln lw bn cd sz ph mn mg kn kr ks kt rd rg) (hg : g < mn) (hp : p < 5) (hl : l < 26) (hx : ¬ mg g < 0) : JM X mX7_garble rX7_garble [.ref 37, vI ((g : Nat) : Int), vI ((p : Nat) : Int), vI ((l : Nat) : Int)] σ (MP 0 (((ltr (mg g).toNat p : Nat) : Int)) σ (fun σ1 => MW σ1 0 pr ln lw bn cd sz ph mn (jup mg g ((wlt (mg g).toNat p l : Nat) : Int)) kn kr ks kt rd rg)) := by
  refine JM.of (lc := [.ref 37, vI ((g : Nat) : Int), vI ((p : Nat) : Int), vI ((l : Nat) : Int), .null]) rfl ?_
  obtain ⟨hpr, ⟨hln, hlw⟩, hbk, ⟨hmn, hmg⟩, hki, hrd, hrg⟩ := id hI
  obtain ⟨⟨pa, ps, hO⟩, ⟨ml, h38, hml, hmi⟩, h39, ⟨Kw, h40, hw9, hkw⟩, h41, ⟨Mc, h42, hMc⟩, ⟨Ms, h43, hMs⟩, ⟨Mp, h44, hMp⟩, h45, h46, ⟨lf, h47⟩, ⟨pc, h48⟩⟩ := id hM
  have hkn := hki.1
  obtain ⟨c, hcg⟩ : ∃ c : Nat, mg g = ((c : Nat) : Int) := ⟨(mg g).toNat, by omega⟩
  have hcb := (hmg g).2
  have hc : c ≤ 11881375 := by omega
  have htn : (mg g).toNat = c := by omega
  rw [htn]
  refine J.ald_n dX7_garble_0 rfl ?_
  refine J.iconst dX7_garble_1 ?_
  refine pf_X7_47 rfl dX7_garble_2 hO ?_
  refine J.ald_n dX7_garble_5 rfl ?_
  refine J.ild_n dX7_garble_6 rfl ?_
  refine J.callV (rm' := rX7_isGroup) [vI ((g : Nat) : Int)] dX7_garble_7 (c_X7_isGroup_t (jset_eq _ _ _) (by unfold inI; omega) (by omega) (by omega)) (jset_eq _ _ _) rfl st_X7_isGroup ml_X7_127 im_X7_isGroup se_X7_isGroup rfl (Nat.le_of_ble_eq_true rfl) (by decide) (by decide) (Nat.le_of_ble_eq_true rfl) (by decide) (by decide) (Or.inl rfl) (fun E9 σ9 hq9 _ => nomatch hq9.1) (fun r9 σ9 hq9 hle9 => ?_)
  obtain ⟨h9, h8⟩ := hq9
  rw [h8]
  clear hle9 h8 σ9
  cases h9
  refine J.if_eq dX7_garble_10 (by decide) (tgt := 22) (by unfold inI; omega) (fun hb10 => ?_) (fun hb10 => ?_)
  · first | exact absurd hb10 (by decide) | exact absurd rfl hb10 | omega
  · refine J.ild_n dX7_garble_13 rfl ?_
    refine J.iconst dX7_garble_14 ?_
    refine J.iconst dX7_garble_15 ?_
    refine J.callS (rm' := rX7_isIn) [vI ((p : Nat) : Int), vI 0, vI 4] dX7_garble_16 (c_X7_isIn_t (by unfold inI; omega) (by unfold inI; omega) (by unfold inI; omega) (by omega)) st_X7_isIn ml_X7_50 sm_X7_isIn rfl (Nat.le_of_ble_eq_true rfl) (by decide) (by decide) (Nat.le_of_ble_eq_true rfl) (by decide) (by decide) (Or.inl rfl) (fun E9 σ9 hq9 _ => nomatch hq9.1) (fun r9 σ9 hq9 hle9 => ?_)
    obtain ⟨h9, h8⟩ := hq9
    rw [h8]
    clear hle9 h8 σ9
    cases h9
    refine J.if_ne dX7_garble_19 (by decide) (tgt := 28) (by unfold inI; omega) (fun hb19 => ?_) (fun hb19 => ?_)
    · refine J.ild_n dX7_garble_28 rfl ?_
      refine J.iconst dX7_garble_29 ?_
      refine J.bipush dX7_garble_30 (by decide) ?_
      refine J.callS (rm' := rX7_isIn) [vI ((l : Nat) : Int), vI 0, vI 25] dX7_garble_32 (c_X7_isIn_t (by unfold inI; omega) (by unfold inI; omega) (by unfold inI; omega) (by omega)) st_X7_isIn ml_X7_50 sm_X7_isIn rfl (Nat.le_of_ble_eq_true rfl) (by decide) (by decide) (Nat.le_of_ble_eq_true rfl) (by decide) (by decide) (Or.inl rfl) (fun E9 σ9 hq9 _ => nomatch hq9.1) (fun r9 σ9 hq9 hle9 => ?_)
      obtain ⟨h9, h8⟩ := hq9
      rw [h8]
      clear hle9 h8 σ9
      cases h9
      refine J.if_ne dX7_garble_35 (by decide) (tgt := 44) (by unfold inI; omega) (fun hb35 => ?_) (fun hb35 => ?_)
      · refine J.ald_n dX7_garble_44 rfl ?_
        refine gf_X7_35 rfl dX7_garble_45 (jset_eq _ _ _) ?_
        refine J.ild_n dX7_garble_48 rfl ?_
        refine J.iald g dX7_garble_49 ((jset_ne _ _ (by omega)).trans h45) rfl (by omega) (by omega) ?_
        rw [show mg g = ((c : Nat) : Int) from hcg]
        refine J.if_ge dX7_garble_50 (by decide) (tgt := 59) (by unfold inI; omega) (fun hb50 => ?_) (fun hb50 => ?_)
        · refine J.ald_n dX7_garble_59 rfl ?_
          refine gf_X7_35 rfl dX7_garble_60 (jset_eq _ _ _) ?_
          refine J.ild_n dX7_garble_63 rfl ?_
          refine J.iald g dX7_garble_64 ((jset_ne _ _ (by omega)).trans h45) rfl (by omega) (by omega) ?_
          rw [show mg g = ((c : Nat) : Int) from hcg]
          refine J.ild_n dX7_garble_65 rfl ?_
          refine J.callS (rm' := rX7_letterOf) [vI ((c : Nat) : Int), vI ((p : Nat) : Int)] dX7_garble_66 (c_X7_letterOf hc (by omega)) st_X7_letterOf ml_X7_81 sm_X7_letterOf rfl (Nat.le_of_ble_eq_true rfl) (by decide) (by decide) (Nat.le_of_ble_eq_true rfl) (by decide) (by decide) (Or.inl rfl) (fun E9 σ9 hq9 _ => nomatch hq9.1) (fun r9 σ9 hq9 hle9 => ?_)
          obtain ⟨h9, h8⟩ := hq9
          rw [h8]
          clear hle9 h8 σ9
          cases h9
          refine J.ist dX7_garble_69 (by decide) (jnc_of rfl rfl) ?_
          refine J.ald_n dX7_garble_71 rfl ?_
          refine gf_X7_35 rfl dX7_garble_72 (jset_eq _ _ _) ?_
          refine J.ild_n dX7_garble_75 rfl ?_
          refine J.dup2 dX7_garble_76 rfl rfl ?_
          refine J.iald g dX7_garble_77 ((jset_ne _ _ (by omega)).trans h45) rfl (by omega) (by omega) ?_
          rw [show mg g = ((c : Nat) : Int) from hcg]
          refine J.ild_n dX7_garble_78 rfl ?_
          refine J.ild dX7_garble_79 rfl ?_
          refine J.isub dX7_garble_81 ?_
          refine J.ild_n dX7_garble_82 rfl ?_
          refine J.callS (rm' := rX7_power) [vI ((p : Nat) : Int)] dX7_garble_83 (c_X7_power (by omega)) st_X7_power ml_X7_75 sm_X7_power rfl (Nat.le_of_ble_eq_true rfl) (by decide) (by decide) (Nat.le_of_ble_eq_true rfl) (by decide) (by decide) (Or.inl rfl) (fun E9 σ9 hq9 _ => nomatch hq9.1) (fun r9 σ9 hq9 hle9 => ?_)
          obtain ⟨h9, h8⟩ := hq9
          rw [h8]
          clear hle9 h8 σ9
          cases h9
          refine J.imul dX7_garble_86 ?_
          refine J.iadd dX7_garble_87 ?_
          rw [show ((c : Nat) : Int) + ((((l : Nat) : Int) - ((ltr c p : Nat) : Int)) * ((26 ^ (4 - p) : Nat) : Int)) = ((wlt c p l : Nat) : Int) from wlt_eq c l p (by omega)]
          refine J.iast g dX7_garble_88 ((jset_ne _ _ (by omega)).trans h45) (by omega) rfl (by omega) (by omega) ?_
          refine J.ild dX7_garble_89 rfl ?_
          refine J.iret .int dX7_garble_91 rfl rfl (by decide) (by decide) ?_
          exact ⟨⟨_, rfl, fun _ => rfl⟩, ⟨⟨pa, ps, ((jset_ne _ _ (by omega)).trans (jset_eq _ _ _))⟩, ⟨ml, ((jset_ne _ _ (by omega)).trans ((jset_ne _ _ (by omega)).trans h38)), hml, hmi⟩, ((jset_ne _ _ (by omega)).trans ((jset_ne _ _ (by omega)).trans h39)), ⟨Kw, ((jset_ne _ _ (by omega)).trans ((jset_ne _ _ (by omega)).trans h40)), hw9, hkw⟩, ((jset_ne _ _ (by omega)).trans ((jset_ne _ _ (by omega)).trans h41)), ⟨Mc, ((jset_ne _ _ (by omega)).trans ((jset_ne _ _ (by omega)).trans h42)), hMc⟩, ⟨Ms, ((jset_ne _ _ (by omega)).trans ((jset_ne _ _ (by omega)).trans h43)), hMs⟩, ⟨Mp, ((jset_ne _ _ (by omega)).trans ((jset_ne _ _ (by omega)).trans h44)), hMp⟩, (jset_eq _ _ _), ((jset_ne _ _ (by omega)).trans ((jset_ne _ _ (by omega)).trans h46)), ⟨_, ((jset_ne _ _ (by omega)).trans ((jset_ne _ _ (by omega)).trans h47))⟩, ⟨_, ((jset_ne _ _ (by omega)).trans ((jset_ne _ _ (by omega)).trans h48))⟩⟩, rfl, fun j hj => ((jset_ne _ _ (by omega)).trans ((jset_ne _ _ (by omega)).trans (rfl : σ.2 j = σ.2 j)))⟩
        · first | omega | exact absurd rfl hb50 | exact absurd hb50 (by decide)
      · first | exact absurd hb35 (by decide) | exact absurd rfl hb35 | omega
    · first | exact absurd hb19 (by decide) | exact absurd rfl hb19 | omega
set_option maxRecDepth 20000 in
theorem m_swap_1 {X : jX} {σ : jS} {pr : Int} {ln : Nat} {lw : Nat → Int} {bn : Nat → Nat} {cd sz : Nat → Nat → Nat} {ph : Nat → Nat → Int} {mn : Nat} {mg : Nat → Int} {kn : Nat} {kr : Nat → Int} {ks : Nat → Nat} {kt : Nat → Nat → Int} {rd : Nat} {rg : Nat → Int} {th : Int} {a c : Int} (hM : MW σ th pr ln lw bn cd sz ph mn mg kn kr ks kt rd rg) (hI : CI pr ln lw bn cd sz ph mn mg kn kr ks kt rd rg) (hi : inI a) (ha : ¬ (0 ≤ a ∧ a < ((mn : Nat) : Int))) : JM X mX7_swap rX7_swap [.ref 37, vI a, vI c] σ (MP 1 (0) σ (fun σ1 => MW σ1 1 pr ln lw bn cd sz ph mn mg kn kr ks kt rd rg)) := by
  refine JM.of (lc := [.ref 37, vI a, vI c]) rfl ?_
  obtain ⟨hpr, ⟨hln, hlw⟩, hbk, ⟨hmn, hmg⟩, hki, hrd, hrg⟩ := id hI
  obtain ⟨⟨pa, ps, hO⟩, ⟨ml, h38, hml, hmi⟩, h39, ⟨Kw, h40, hw9, hkw⟩, h41, ⟨Mc, h42, hMc⟩, ⟨Ms, h43, hMs⟩, ⟨Mp, h44, hMp⟩, h45, h46, ⟨lf, h47⟩, ⟨pc, h48⟩⟩ := id hM
  have hkn := hki.1
  refine J.ald_n dX7_swap_0 rfl ?_
  refine J.iconst dX7_swap_1 ?_
  refine pf_X7_47 rfl dX7_swap_2 hO ?_
  refine J.ald_n dX7_swap_5 rfl ?_
  refine J.ild_n dX7_swap_6 rfl ?_
  refine J.callV (rm' := rX7_isGroup) [vI a] dX7_swap_7 (c_X7_isGroup_f (jset_eq _ _ _) hi (by omega) (by omega)) (jset_eq _ _ _) rfl st_X7_isGroup ml_X7_127 im_X7_isGroup se_X7_isGroup rfl (Nat.le_of_ble_eq_true rfl) (by decide) (by decide) (Nat.le_of_ble_eq_true rfl) (by decide) (by decide) (Or.inl rfl) (fun E9 σ9 hq9 _ => nomatch hq9.1) (fun r9 σ9 hq9 hle9 => ?_)
  obtain ⟨h9, h8⟩ := hq9
  rw [h8]
  clear hle9 h8 σ9
  cases h9
  refine J.if_eq dX7_swap_10 (by decide) (tgt := 22) (by unfold inI; omega) (fun hb10 => ?_) (fun hb10 => ?_)
  · refine J.ald_n dX7_swap_22 rfl ?_
    refine J.iconst dX7_swap_23 ?_
    refine J.callV (rm' := rX7_no) [vI 1] dX7_swap_24 (c_X7_no (jset_eq _ _ _)) (jset_eq _ _ _) rfl st_X7_no ml_X7_59 im_X7_no se_X7_no rfl (Nat.le_of_ble_eq_true rfl) (by decide) (by decide) (Nat.le_of_ble_eq_true rfl) (by decide) (by decide) (Or.inl rfl) (fun E9 σ9 hq9 _ => nomatch hq9.1) (fun r9 σ9 hq9 hle9 => ?_)
    obtain ⟨h9, h8⟩ := hq9
    cases h9
    subst h8
    clear hle9
    refine J.iret .int dX7_swap_27 rfl rfl (by decide) (by decide) ?_
    exact ⟨⟨_, rfl, fun q => absurd q (by decide)⟩, ⟨⟨pa, ps, (jset_eq _ _ _)⟩, ⟨ml, ((jset_ne _ _ (by omega)).trans ((jset_ne _ _ (by omega)).trans h38)), hml, hmi⟩, ((jset_ne _ _ (by omega)).trans ((jset_ne _ _ (by omega)).trans h39)), ⟨Kw, ((jset_ne _ _ (by omega)).trans ((jset_ne _ _ (by omega)).trans h40)), hw9, hkw⟩, ((jset_ne _ _ (by omega)).trans ((jset_ne _ _ (by omega)).trans h41)), ⟨Mc, ((jset_ne _ _ (by omega)).trans ((jset_ne _ _ (by omega)).trans h42)), hMc⟩, ⟨Ms, ((jset_ne _ _ (by omega)).trans ((jset_ne _ _ (by omega)).trans h43)), hMs⟩, ⟨Mp, ((jset_ne _ _ (by omega)).trans ((jset_ne _ _ (by omega)).trans h44)), hMp⟩, ((jset_ne _ _ (by omega)).trans ((jset_ne _ _ (by omega)).trans h45)), ((jset_ne _ _ (by omega)).trans ((jset_ne _ _ (by omega)).trans h46)), ⟨_, ((jset_ne _ _ (by omega)).trans ((jset_ne _ _ (by omega)).trans h47))⟩, ⟨_, ((jset_ne _ _ (by omega)).trans ((jset_ne _ _ (by omega)).trans h48))⟩⟩, rfl, fun j hj => ((jset_ne _ _ (by omega)).trans ((jset_ne _ _ (by omega)).trans (rfl : σ.2 j = σ.2 j)))⟩
  · first | exact absurd hb10 (by decide) | exact absurd rfl hb10 | omega
set_option maxRecDepth 20000 in
theorem m_swap_2 {X : jX} {σ : jS} {pr : Int} {ln : Nat} {lw : Nat → Int} {bn : Nat → Nat} {cd sz : Nat → Nat → Nat} {ph : Nat → Nat → Int} {mn : Nat} {mg : Nat → Int} {kn : Nat} {kr : Nat → Int} {ks : Nat → Nat} {kt : Nat → Nat → Int} {rd : Nat} {rg : Nat → Int} {th : Int} {g : Nat} {a : Int} (hM : MW σ th pr ln lw bn cd sz ph mn mg kn kr ks kt rd rg) (hI : CI pr ln lw bn cd sz ph mn mg kn kr ks kt rd rg) (hg : g < mn) (hi : inI a) (ha : ¬ (0 ≤ a ∧ a < ((4 : Nat) : Int))) : JM X mX7_swap rX7_swap [.ref 37, vI ((g : Nat) : Int), vI a] σ (MP 1 (0) σ (fun σ1 => MW σ1 1 pr ln lw bn cd sz ph mn mg kn kr ks kt rd rg)) := by
  refine JM.of (lc := [.ref 37, vI ((g : Nat) : Int), vI a]) rfl ?_
  obtain ⟨hpr, ⟨hln, hlw⟩, hbk, ⟨hmn, hmg⟩, hki, hrd, hrg⟩ := id hI
  obtain ⟨⟨pa, ps, hO⟩, ⟨ml, h38, hml, hmi⟩, h39, ⟨Kw, h40, hw9, hkw⟩, h41, ⟨Mc, h42, hMc⟩, ⟨Ms, h43, hMs⟩, ⟨Mp, h44, hMp⟩, h45, h46, ⟨lf, h47⟩, ⟨pc, h48⟩⟩ := id hM
  have hkn := hki.1
  refine J.ald_n dX7_swap_0 rfl ?_
  refine J.iconst dX7_swap_1 ?_
  refine pf_X7_47 rfl dX7_swap_2 hO ?_
  refine J.ald_n dX7_swap_5 rfl ?_
  refine J.ild_n dX7_swap_6 rfl ?_
  refine J.callV (rm' := rX7_isGroup) [vI ((g : Nat) : Int)] dX7_swap_7 (c_X7_isGroup_t (jset_eq _ _ _) (by unfold inI; omega) (by omega) (by omega)) (jset_eq _ _ _) rfl st_X7_isGroup ml_X7_127 im_X7_isGroup se_X7_isGroup rfl (Nat.le_of_ble_eq_true rfl) (by decide) (by decide) (Nat.le_of_ble_eq_true rfl) (by decide) (by decide) (Or.inl rfl) (fun E9 σ9 hq9 _ => nomatch hq9.1) (fun r9 σ9 hq9 hle9 => ?_)
  obtain ⟨h9, h8⟩ := hq9
  rw [h8]
  clear hle9 h8 σ9
  cases h9
  refine J.if_eq dX7_swap_10 (by decide) (tgt := 22) (by unfold inI; omega) (fun hb10 => ?_) (fun hb10 => ?_)
  · first | exact absurd hb10 (by decide) | exact absurd rfl hb10 | omega
  · refine J.ild_n dX7_swap_13 rfl ?_
    refine J.iconst dX7_swap_14 ?_
    refine J.iconst dX7_swap_15 ?_
    refine J.callS (rm' := rX7_isIn) [vI a, vI 0, vI 3] dX7_swap_16 (c_X7_isIn_f hi (by unfold inI; omega) (by unfold inI; omega) (by omega)) st_X7_isIn ml_X7_50 sm_X7_isIn rfl (Nat.le_of_ble_eq_true rfl) (by decide) (by decide) (Nat.le_of_ble_eq_true rfl) (by decide) (by decide) (Or.inl rfl) (fun E9 σ9 hq9 _ => nomatch hq9.1) (fun r9 σ9 hq9 hle9 => ?_)
    obtain ⟨h9, h8⟩ := hq9
    rw [h8]
    clear hle9 h8 σ9
    cases h9
    refine J.if_ne dX7_swap_19 (by decide) (tgt := 28) (by unfold inI; omega) (fun hb19 => ?_) (fun hb19 => ?_)
    · first | exact absurd hb19 (by decide) | exact absurd rfl hb19 | omega
    · refine J.ald_n dX7_swap_22 rfl ?_
      refine J.iconst dX7_swap_23 ?_
      refine J.callV (rm' := rX7_no) [vI 1] dX7_swap_24 (c_X7_no (jset_eq _ _ _)) (jset_eq _ _ _) rfl st_X7_no ml_X7_59 im_X7_no se_X7_no rfl (Nat.le_of_ble_eq_true rfl) (by decide) (by decide) (Nat.le_of_ble_eq_true rfl) (by decide) (by decide) (Or.inl rfl) (fun E9 σ9 hq9 _ => nomatch hq9.1) (fun r9 σ9 hq9 hle9 => ?_)
      obtain ⟨h9, h8⟩ := hq9
      cases h9
      subst h8
      clear hle9
      refine J.iret .int dX7_swap_27 rfl rfl (by decide) (by decide) ?_
      exact ⟨⟨_, rfl, fun q => absurd q (by decide)⟩, ⟨⟨pa, ps, (jset_eq _ _ _)⟩, ⟨ml, ((jset_ne _ _ (by omega)).trans ((jset_ne _ _ (by omega)).trans h38)), hml, hmi⟩, ((jset_ne _ _ (by omega)).trans ((jset_ne _ _ (by omega)).trans h39)), ⟨Kw, ((jset_ne _ _ (by omega)).trans ((jset_ne _ _ (by omega)).trans h40)), hw9, hkw⟩, ((jset_ne _ _ (by omega)).trans ((jset_ne _ _ (by omega)).trans h41)), ⟨Mc, ((jset_ne _ _ (by omega)).trans ((jset_ne _ _ (by omega)).trans h42)), hMc⟩, ⟨Ms, ((jset_ne _ _ (by omega)).trans ((jset_ne _ _ (by omega)).trans h43)), hMs⟩, ⟨Mp, ((jset_ne _ _ (by omega)).trans ((jset_ne _ _ (by omega)).trans h44)), hMp⟩, ((jset_ne _ _ (by omega)).trans ((jset_ne _ _ (by omega)).trans h45)), ((jset_ne _ _ (by omega)).trans ((jset_ne _ _ (by omega)).trans h46)), ⟨_, ((jset_ne _ _ (by omega)).trans ((jset_ne _ _ (by omega)).trans h47))⟩, ⟨_, ((jset_ne _ _ (by omega)).trans ((jset_ne _ _ (by omega)).trans h48))⟩⟩, rfl, fun j hj => ((jset_ne _ _ (by omega)).trans ((jset_ne _ _ (by omega)).trans (rfl : σ.2 j = σ.2 j)))⟩
set_option maxRecDepth 20000 in
theorem m_swap_3 {X : jX} {σ : jS} {pr : Int} {ln : Nat} {lw : Nat → Int} {bn : Nat → Nat} {cd sz : Nat → Nat → Nat} {ph : Nat → Nat → Int} {mn : Nat} {mg : Nat → Int} {kn : Nat} {kr : Nat → Int} {ks : Nat → Nat} {kt : Nat → Nat → Int} {rd : Nat} {rg : Nat → Int} {th : Int} {g p : Nat} (hM : MW σ th pr ln lw bn cd sz ph mn mg kn kr ks kt rd rg) (hI : CI pr ln lw bn cd sz ph mn mg kn kr ks kt rd rg) (hg : g < mn) (hp : p < 4) (hx : mg g < 0) : JM X mX7_swap rX7_swap [.ref 37, vI ((g : Nat) : Int), vI ((p : Nat) : Int)] σ (MP 2 (0) σ (fun σ1 => MW σ1 2 pr ln lw bn cd sz ph mn mg kn kr ks kt rd rg)) := by
  refine JM.of (lc := [.ref 37, vI ((g : Nat) : Int), vI ((p : Nat) : Int)]) rfl ?_
  obtain ⟨hpr, ⟨hln, hlw⟩, hbk, ⟨hmn, hmg⟩, hki, hrd, hrg⟩ := id hI
  obtain ⟨⟨pa, ps, hO⟩, ⟨ml, h38, hml, hmi⟩, h39, ⟨Kw, h40, hw9, hkw⟩, h41, ⟨Mc, h42, hMc⟩, ⟨Ms, h43, hMs⟩, ⟨Mp, h44, hMp⟩, h45, h46, ⟨lf, h47⟩, ⟨pc, h48⟩⟩ := id hM
  have hkn := hki.1
  have hmgg := hmg g
  refine J.ald_n dX7_swap_0 rfl ?_
  refine J.iconst dX7_swap_1 ?_
  refine pf_X7_47 rfl dX7_swap_2 hO ?_
  refine J.ald_n dX7_swap_5 rfl ?_
  refine J.ild_n dX7_swap_6 rfl ?_
  refine J.callV (rm' := rX7_isGroup) [vI ((g : Nat) : Int)] dX7_swap_7 (c_X7_isGroup_t (jset_eq _ _ _) (by unfold inI; omega) (by omega) (by omega)) (jset_eq _ _ _) rfl st_X7_isGroup ml_X7_127 im_X7_isGroup se_X7_isGroup rfl (Nat.le_of_ble_eq_true rfl) (by decide) (by decide) (Nat.le_of_ble_eq_true rfl) (by decide) (by decide) (Or.inl rfl) (fun E9 σ9 hq9 _ => nomatch hq9.1) (fun r9 σ9 hq9 hle9 => ?_)
  obtain ⟨h9, h8⟩ := hq9
  rw [h8]
  clear hle9 h8 σ9
  cases h9
  refine J.if_eq dX7_swap_10 (by decide) (tgt := 22) (by unfold inI; omega) (fun hb10 => ?_) (fun hb10 => ?_)
  · first | exact absurd hb10 (by decide) | exact absurd rfl hb10 | omega
  · refine J.ild_n dX7_swap_13 rfl ?_
    refine J.iconst dX7_swap_14 ?_
    refine J.iconst dX7_swap_15 ?_
    refine J.callS (rm' := rX7_isIn) [vI ((p : Nat) : Int), vI 0, vI 3] dX7_swap_16 (c_X7_isIn_t (by unfold inI; omega) (by unfold inI; omega) (by unfold inI; omega) (by omega)) st_X7_isIn ml_X7_50 sm_X7_isIn rfl (Nat.le_of_ble_eq_true rfl) (by decide) (by decide) (Nat.le_of_ble_eq_true rfl) (by decide) (by decide) (Or.inl rfl) (fun E9 σ9 hq9 _ => nomatch hq9.1) (fun r9 σ9 hq9 hle9 => ?_)
    obtain ⟨h9, h8⟩ := hq9
    rw [h8]
    clear hle9 h8 σ9
    cases h9
    refine J.if_ne dX7_swap_19 (by decide) (tgt := 28) (by unfold inI; omega) (fun hb19 => ?_) (fun hb19 => ?_)
    · refine J.ald_n dX7_swap_28 rfl ?_
      refine gf_X7_35 rfl dX7_swap_29 (jset_eq _ _ _) ?_
      refine J.ild_n dX7_swap_32 rfl ?_
      refine J.iald g dX7_swap_33 ((jset_ne _ _ (by omega)).trans h45) rfl (by omega) (by omega) ?_
      refine J.if_ge dX7_swap_34 (by decide) (tgt := 43) (by unfold inI; omega) (fun hb34 => ?_) (fun hb34 => ?_)
      · first | omega | exact absurd rfl hb34 | exact absurd hb34 (by decide)
      · refine J.ald_n dX7_swap_37 rfl ?_
        refine J.iconst dX7_swap_38 ?_
        refine J.callV (rm' := rX7_no) [vI 2] dX7_swap_39 (c_X7_no (jset_eq _ _ _)) (jset_eq _ _ _) rfl st_X7_no ml_X7_59 im_X7_no se_X7_no rfl (Nat.le_of_ble_eq_true rfl) (by decide) (by decide) (Nat.le_of_ble_eq_true rfl) (by decide) (by decide) (Or.inl rfl) (fun E9 σ9 hq9 _ => nomatch hq9.1) (fun r9 σ9 hq9 hle9 => ?_)
        obtain ⟨h9, h8⟩ := hq9
        cases h9
        subst h8
        clear hle9
        refine J.iret .int dX7_swap_42 rfl rfl (by decide) (by decide) ?_
        exact ⟨⟨_, rfl, fun q => absurd q (by decide)⟩, ⟨⟨pa, ps, (jset_eq _ _ _)⟩, ⟨ml, ((jset_ne _ _ (by omega)).trans ((jset_ne _ _ (by omega)).trans h38)), hml, hmi⟩, ((jset_ne _ _ (by omega)).trans ((jset_ne _ _ (by omega)).trans h39)), ⟨Kw, ((jset_ne _ _ (by omega)).trans ((jset_ne _ _ (by omega)).trans h40)), hw9, hkw⟩, ((jset_ne _ _ (by omega)).trans ((jset_ne _ _ (by omega)).trans h41)), ⟨Mc, ((jset_ne _ _ (by omega)).trans ((jset_ne _ _ (by omega)).trans h42)), hMc⟩, ⟨Ms, ((jset_ne _ _ (by omega)).trans ((jset_ne _ _ (by omega)).trans h43)), hMs⟩, ⟨Mp, ((jset_ne _ _ (by omega)).trans ((jset_ne _ _ (by omega)).trans h44)), hMp⟩, ((jset_ne _ _ (by omega)).trans ((jset_ne _ _ (by omega)).trans h45)), ((jset_ne _ _ (by omega)).trans ((jset_ne _ _ (by omega)).trans h46)), ⟨_, ((jset_ne _ _ (by omega)).trans ((jset_ne _ _ (by omega)).trans h47))⟩, ⟨_, ((jset_ne _ _ (by omega)).trans ((jset_ne _ _ (by omega)).trans h48))⟩⟩, rfl, fun j hj => ((jset_ne _ _ (by omega)).trans ((jset_ne _ _ (by omega)).trans (rfl : σ.2 j = σ.2 j)))⟩
    · first | exact absurd hb19 (by decide) | exact absurd rfl hb19 | omega
set_option maxRecDepth 20000 in
theorem m_swap_0 {X : jX} {σ : jS} {pr : Int} {ln : Nat} {lw : Nat → Int} {bn : Nat → Nat} {cd sz : Nat → Nat → Nat} {ph : Nat → Nat → Int} {mn : Nat} {mg : Nat → Int} {kn : Nat} {kr : Nat → Int} {ks : Nat → Nat} {kt : Nat → Nat → Int} {rd : Nat} {rg : Nat → Int} {th : Int} {g p : Nat} (hM : MW σ th pr ln lw bn cd sz ph mn mg kn kr ks kt rd rg) (hI : CI pr ln lw bn cd sz ph mn mg kn kr ks kt rd rg) (hg : g < mn) (hp : p < 4) (hx : ¬ mg g < 0) : JM X mX7_swap rX7_swap [.ref 37, vI ((g : Nat) : Int), vI ((p : Nat) : Int)] σ (MP 0 (((swp (mg g).toNat p : Nat) : Int)) σ (fun σ1 => MW σ1 0 pr ln lw bn cd sz ph mn (jup mg g ((swp (mg g).toNat p : Nat) : Int)) kn kr ks kt rd rg)) := by
  refine JM.of (lc := [.ref 37, vI ((g : Nat) : Int), vI ((p : Nat) : Int)]) rfl ?_
  obtain ⟨hpr, ⟨hln, hlw⟩, hbk, ⟨hmn, hmg⟩, hki, hrd, hrg⟩ := id hI
  obtain ⟨⟨pa, ps, hO⟩, ⟨ml, h38, hml, hmi⟩, h39, ⟨Kw, h40, hw9, hkw⟩, h41, ⟨Mc, h42, hMc⟩, ⟨Ms, h43, hMs⟩, ⟨Mp, h44, hMp⟩, h45, h46, ⟨lf, h47⟩, ⟨pc, h48⟩⟩ := id hM
  have hkn := hki.1
  obtain ⟨c, hcg⟩ : ∃ c : Nat, mg g = ((c : Nat) : Int) := ⟨(mg g).toNat, by omega⟩
  have hcb := (hmg g).2
  have hc : c ≤ 11881375 := by omega
  have htn : (mg g).toNat = c := by omega
  rw [htn]
  refine J.ald_n dX7_swap_0 rfl ?_
  refine J.iconst dX7_swap_1 ?_
  refine pf_X7_47 rfl dX7_swap_2 hO ?_
  refine J.ald_n dX7_swap_5 rfl ?_
  refine J.ild_n dX7_swap_6 rfl ?_
  refine J.callV (rm' := rX7_isGroup) [vI ((g : Nat) : Int)] dX7_swap_7 (c_X7_isGroup_t (jset_eq _ _ _) (by unfold inI; omega) (by omega) (by omega)) (jset_eq _ _ _) rfl st_X7_isGroup ml_X7_127 im_X7_isGroup se_X7_isGroup rfl (Nat.le_of_ble_eq_true rfl) (by decide) (by decide) (Nat.le_of_ble_eq_true rfl) (by decide) (by decide) (Or.inl rfl) (fun E9 σ9 hq9 _ => nomatch hq9.1) (fun r9 σ9 hq9 hle9 => ?_)
  obtain ⟨h9, h8⟩ := hq9
  rw [h8]
  clear hle9 h8 σ9
  cases h9
  refine J.if_eq dX7_swap_10 (by decide) (tgt := 22) (by unfold inI; omega) (fun hb10 => ?_) (fun hb10 => ?_)
  · first | exact absurd hb10 (by decide) | exact absurd rfl hb10 | omega
  · refine J.ild_n dX7_swap_13 rfl ?_
    refine J.iconst dX7_swap_14 ?_
    refine J.iconst dX7_swap_15 ?_
    refine J.callS (rm' := rX7_isIn) [vI ((p : Nat) : Int), vI 0, vI 3] dX7_swap_16 (c_X7_isIn_t (by unfold inI; omega) (by unfold inI; omega) (by unfold inI; omega) (by omega)) st_X7_isIn ml_X7_50 sm_X7_isIn rfl (Nat.le_of_ble_eq_true rfl) (by decide) (by decide) (Nat.le_of_ble_eq_true rfl) (by decide) (by decide) (Or.inl rfl) (fun E9 σ9 hq9 _ => nomatch hq9.1) (fun r9 σ9 hq9 hle9 => ?_)
    obtain ⟨h9, h8⟩ := hq9
    rw [h8]
    clear hle9 h8 σ9
    cases h9
    refine J.if_ne dX7_swap_19 (by decide) (tgt := 28) (by unfold inI; omega) (fun hb19 => ?_) (fun hb19 => ?_)
    · refine J.ald_n dX7_swap_28 rfl ?_
      refine gf_X7_35 rfl dX7_swap_29 (jset_eq _ _ _) ?_
      refine J.ild_n dX7_swap_32 rfl ?_
      refine J.iald g dX7_swap_33 ((jset_ne _ _ (by omega)).trans h45) rfl (by omega) (by omega) ?_
      rw [show mg g = ((c : Nat) : Int) from hcg]
      refine J.if_ge dX7_swap_34 (by decide) (tgt := 43) (by unfold inI; omega) (fun hb34 => ?_) (fun hb34 => ?_)
      · refine J.ald_n dX7_swap_43 rfl ?_
        refine gf_X7_35 rfl dX7_swap_44 (jset_eq _ _ _) ?_
        refine J.ild_n dX7_swap_47 rfl ?_
        refine J.ald_n dX7_swap_48 rfl ?_
        refine gf_X7_35 rfl dX7_swap_49 (jset_eq _ _ _) ?_
        refine J.ild_n dX7_swap_52 rfl ?_
        refine J.iald g dX7_swap_53 ((jset_ne _ _ (by omega)).trans h45) rfl (by omega) (by omega) ?_
        rw [show mg g = ((c : Nat) : Int) from hcg]
        refine J.ild_n dX7_swap_54 rfl ?_
        refine J.callS (rm' := rX7_swapped) [vI ((c : Nat) : Int), vI ((p : Nat) : Int)] dX7_swap_55 (c_X7_swapped hc (by omega)) st_X7_swapped ml_X7_85 sm_X7_swapped rfl (Nat.le_of_ble_eq_true rfl) (by decide) (by decide) (Nat.le_of_ble_eq_true rfl) (by decide) (by decide) (Or.inl rfl) (fun E9 σ9 hq9 _ => nomatch hq9.1) (fun r9 σ9 hq9 hle9 => ?_)
        obtain ⟨h9, h8⟩ := hq9
        rw [h8]
        clear hle9 h8 σ9
        cases h9
        refine J.iast g dX7_swap_58 ((jset_ne _ _ (by omega)).trans h45) (by omega) rfl (by omega) (by omega) ?_
        refine J.ald_n dX7_swap_59 rfl ?_
        refine gf_X7_35 rfl dX7_swap_60 ((jset_ne _ _ (by omega)).trans (jset_eq _ _ _)) ?_
        refine J.ild_n dX7_swap_63 rfl ?_
        refine J.iald g dX7_swap_64 (jset_eq _ _ _) rfl (by omega) (by omega) ?_
        rw [show (jup mg g ((swp c p : Nat) : Int)) g = ((swp c p : Nat) : Int) from jup_eq _ _ _]
        refine J.iret .int dX7_swap_65 rfl rfl (by decide) (by decide) ?_
        exact ⟨⟨_, rfl, fun _ => rfl⟩, ⟨⟨pa, ps, ((jset_ne _ _ (by omega)).trans (jset_eq _ _ _))⟩, ⟨ml, ((jset_ne _ _ (by omega)).trans ((jset_ne _ _ (by omega)).trans h38)), hml, hmi⟩, ((jset_ne _ _ (by omega)).trans ((jset_ne _ _ (by omega)).trans h39)), ⟨Kw, ((jset_ne _ _ (by omega)).trans ((jset_ne _ _ (by omega)).trans h40)), hw9, hkw⟩, ((jset_ne _ _ (by omega)).trans ((jset_ne _ _ (by omega)).trans h41)), ⟨Mc, ((jset_ne _ _ (by omega)).trans ((jset_ne _ _ (by omega)).trans h42)), hMc⟩, ⟨Ms, ((jset_ne _ _ (by omega)).trans ((jset_ne _ _ (by omega)).trans h43)), hMs⟩, ⟨Mp, ((jset_ne _ _ (by omega)).trans ((jset_ne _ _ (by omega)).trans h44)), hMp⟩, (jset_eq _ _ _), ((jset_ne _ _ (by omega)).trans ((jset_ne _ _ (by omega)).trans h46)), ⟨_, ((jset_ne _ _ (by omega)).trans ((jset_ne _ _ (by omega)).trans h47))⟩, ⟨_, ((jset_ne _ _ (by omega)).trans ((jset_ne _ _ (by omega)).trans h48))⟩⟩, rfl, fun j hj => ((jset_ne _ _ (by omega)).trans ((jset_ne _ _ (by omega)).trans (rfl : σ.2 j = σ.2 j)))⟩
      · first | omega | exact absurd rfl hb34 | exact absurd hb34 (by decide)
    · first | exact absurd hb19 (by decide) | exact absurd rfl hb19 | omega
