def shC (n : Nat) (sz : Nat → Nat) (ph kr : Nat → Int) (ks : Nat → Nat) (pr : Int) : Nat → Nat → Int
  | 0, _ => 0
  | t + 1, e => cvC n sz ph kr (e * 41) (ks e) pr 0 + shC n sz ph kr ks pr t (e + 1)
def shA (ks : Nat → Nat) : Nat → Nat → Nat
  | 0, _ => 0
  | t + 1, e => ks e + shA ks t (e + 1)
def shV (c p : Int) : UInt64 := if p = 0 then FP.dconst1 else FP.ddiv (FP.i2d (iI c)) (FP.i2d (iI p))
theorem shA_bd {ks : Nat → Nat} : ∀ (t e : Nat), (∀ k, e ≤ k → k < e + t → ks k ≤ 40) → shA ks t e ≤ 40 * t
  | 0, _, _ => Nat.le_refl _
  | t + 1, e, h => by
    have h1 := h e (by omega) (by omega)
    have h2 := shA_bd t (e + 1) (fun k a b => h k (by omega) (by omega))
    show ks e + shA ks t (e + 1) ≤ _
    omega
theorem shC_bd {n : Nat} {sz : Nat → Nat} {ph kr : Nat → Int} {ks : Nat → Nat} {pr : Int} (hp : 1 ≤ pr ∧ pr ≤ 5) : ∀ (t e : Nat), (∀ k, e ≤ k → k < e + t → ks k ≤ 40) → 0 ≤ shC n sz ph kr ks pr t e ∧ shC n sz ph kr ks pr t e ≤ 200 * (t : Int)
  | 0, _, _ => ⟨Int.le_refl _, Int.le_refl _⟩
  | t + 1, e, h => by
    have h1 := cvC_bd (n := n) (sz := sz) (ph := ph) (g := kr) (s := e * 41) hp (h e (by omega) (by omega)) 0
    have h2 := shC_bd (n := n) (sz := sz) (ph := ph) (kr := kr) (ks := ks) hp t (e + 1) (fun k a b => h k (by omega) (by omega))
    show 0 ≤ cvC n sz ph kr (e * 41) (ks e) pr 0 + shC n sz ph kr ks pr t (e + 1) ∧ cvC n sz ph kr (e * 41) (ks e) pr 0 + shC n sz ph kr ks pr t (e + 1) ≤ _
    omega
/-! ===== a quotient of two whole numbers is a number ===== -/
theorem enc_le (c : Nat) (q : Int) : FP.Core.encode FP.Core.b64 (FP.Core.settle FP.Core.b64 false c q) ≤ 9218868437227405312 := by
  have e1 : FP.Core.b64.tails = 4503599627370496 := by decide +kernel
  have e2 : FP.Core.b64.exps = 2048 := by decide +kernel
  have e3 : FP.Core.b64.qmax = 971 := by decide +kernel
  have e4 : FP.Core.b64.qmin = -1074 := by decide +kernel
  have e5 : 2 ^ FP.Core.b64.p = 9007199254740992 := by decide +kernel
  have hb : ∀ (c : Nat) (q : Int), c < 9007199254740992 → FP.Core.encode FP.Core.b64 (FP.Core.bound FP.Core.b64 false c q) ≤ 9218868437227405312 := fun c q hc => by
    unfold FP.Core.bound
    by_cases h : q ≤ FP.Core.b64.qmax
    · rw [if_pos h]
      rw [e3] at h
      unfold FP.Core.encode FP.Core.assemble
      simp only [e1, e2, e4]
      split
      · simp only [Bool.toNat_false]; omega
      · simp only [Bool.toNat_false]; omega
    · rw [if_neg h]
      unfold FP.Core.encode FP.Core.assemble
      simp only [e1, e2, Bool.toNat_false]
      omega
  unfold FP.Core.settle
  by_cases h : c < 2 ^ FP.Core.b64.p
  · rw [if_pos h]; rw [e5] at h; exact hb c q h
  · rw [if_neg h]; exact hb _ _ (by rw [e1]; omega)
def chkI (a : Nat) : Bool := match FP.Core.decode FP.Core.b64 (UInt64.ofNat (FP.Core.fromInt FP.Core.b64 (a : Int))).toNat with
  | .fin s c _ => !s && (decide (a = 0) || decide (c ≠ 0))
  | _ => false
theorem chkI_ok : (List.range 2401).all chkI = true := by decide +kernel
theorem nan_ok {a b : Int} (ha : 0 ≤ a ∧ a ≤ 2400) (hb : 1 ≤ b ∧ b ≤ 2400) : vf_n64 (FP.ddiv (FP.i2d (iI a)) (FP.i2d (iI b))) := by
  have hd : ∀ x : Int, 0 ≤ x → x ≤ 2400 → ∃ c q, FP.Core.decode FP.Core.b64 (FP.i2d (iI x)).toNat = .fin false c q ∧ (x = 0 ∨ c ≠ 0) := fun x h0 h1 => by
    obtain ⟨n, rfl⟩ : ∃ n : Nat, x = ((n : Nat) : Int) := ⟨x.toNat, by omega⟩
    have h2 := List.all_eq_true.mp chkI_ok n (List.mem_range.mpr (by omega))
    show ∃ c q, FP.Core.decode FP.Core.b64 (UInt64.ofNat (FP.Core.fromInt FP.Core.b64 (iI ((n : Nat) : Int)).toInt)).toNat = .fin false c q ∧ (((n : Nat) : Int) = 0 ∨ c ≠ 0)
    rw [iI_toInt (by unfold inI; omega)]
    unfold chkI at h2
    cases h3 : FP.Core.decode FP.Core.b64 (UInt64.ofNat (FP.Core.fromInt FP.Core.b64 ((n : Nat) : Int))).toNat with
    | nan => rw [h3] at h2; cases h2
    | inf s => rw [h3] at h2; cases h2
    | fin s c q =>
      rw [h3] at h2
      simp only [Bool.and_eq_true, Bool.not_eq_true', Bool.or_eq_true, decide_eq_true_eq] at h2
      obtain ⟨rfl, h4⟩ := h2
      exact ⟨c, q, rfl, h4.imp (fun h => by omega) id⟩
  obtain ⟨c, q, h1, -⟩ := hd a (by omega) (by omega)
  obtain ⟨d, r, h2, h3⟩ := hd b (by omega) (by omega)
  have hle : FP.Core.div FP.Core.b64 (FP.i2d (iI a)).toNat (FP.i2d (iI b)).toNat ≤ 9218868437227405312 := by
    unfold FP.Core.div
    rw [h1, h2]
    show FP.Core.encode FP.Core.b64 (if d = 0 then (if c = 0 then .nan else .inf (false != false)) else FP.Core.roundRatio FP.Core.b64 false c d (q - r)) ≤ _
    rw [if_neg (h3.resolve_left (by omega))]
    unfold FP.Core.roundRatio
    by_cases h0 : c = 0
    · rw [if_pos h0]; decide +kernel
    · rw [if_neg h0]
      exact enc_le _ _
  unfold vf_n64
  rw [UInt64.le_iff_toNat_le, UInt64.toNat_and]
  refine Nat.le_trans Nat.and_le_left ?_
  show (UInt64.ofNat (FP.Core.div FP.Core.b64 (FP.i2d (iI a)).toNat (FP.i2d (iI b)).toNat)).toNat ≤ 9218868437227405312
  rw [UInt64.toNat_ofNat']
  exact Nat.le_trans (Nat.mod_le _ _) hle
set_option maxRecDepth 20000 in
theorem c_share_0 {X : jX} {σ : jS} {pr : Int} {ln : Nat} {lw : Nat → Int} {bn : Nat → Nat} {cd sz : Nat → Nat → Nat} {ph : Nat → Nat → Int} {mn : Nat} {mg : Nat → Int} {kn : Nat} {kr : Nat → Int} {ks : Nat → Nat} {kt : Nat → Nat → Int} {rd : Nat} {rg : Nat → Int} {b : Nat} (hW : CW σ pr ln lw bn cd sz ph mn mg kn kr ks kt rd rg) (hI : CI pr ln lw bn cd sz ph mn mg kn kr ks kt rd rg) (hb : b < 3) : JM X mX6_share rX6_share [.ref 5, vI ((b : Nat) : Int)] σ (XP (.inl (some (.double (shV (shC (bn b) (sz b) (ph b) kr ks pr kn 0) (pr * ((shA ks kn 0 : Nat) : Int)))))) σ (fun σ1 => CW σ1 pr ln lw bn cd sz ph mn mg kn kr ks kt rd rg)) := by
  refine JM.of (lc := [.ref 5, vI ((b : Nat) : Int), .null, .null, .null, .null]) rfl ?_
  obtain ⟨hpr, ⟨hln, hlw⟩, hbk, ⟨hmn, hmg⟩, hki, hrd, hrg⟩ := id hI
  obtain ⟨gB, eB, hgB⟩ := hW.1.2.1
  obtain ⟨gT, eT, hgT⟩ := hW.2.2.2.1.2.2.2.1
  have hkn := hki.1
  have hB := hW.2.1 b hb
  have hbn := (hbk b hb).1
  have hcd := (hbk b hb).2.1
  have hsz := (hbk b hb).2.2.1
  have hph := (hbk b hb).2.2.2
  refine J.ald_n dX6_share_0 rfl ?_
  refine J.ild_n dX6_share_1 rfl ?_
  refine J.callV (rm' := rX6_requireBook) [vI ((b : Nat) : Int)] dX6_share_2 (c_X6_requireBook hW.1.1 eB hgB hb) hW.1.1 rfl st_X6_requireBook ml_X6_118 im_X6_requireBook se_X6_requireBook rfl (Nat.le_of_ble_eq_true rfl) (by decide) (by decide) (Nat.le_of_ble_eq_true rfl) (by decide) (by decide) (Or.inl rfl) (fun E9 σ9 hq9 _ => nomatch hq9.1) (fun r9 σ9 hq9 hle9 => ?_)
  obtain ⟨h9, h8⟩ := hq9
  rw [h8]
  clear hle9 h8 σ9
  cases h9
  refine J.ast_n dX6_share_5 (by decide) (jnc_of rfl rfl) ?_
  refine J.iconst dX6_share_6 ?_
  refine J.ist_n dX6_share_7 (by decide) (jnc_of rfl rfl) ?_
  refine J.iconst dX6_share_8 ?_
  refine J.ist dX6_share_9 (by decide) (jnc_of rfl rfl) ?_
  refine J.iconst dX6_share_11 ?_
  refine J.ist dX6_share_12 (by decide) (jnc_of rfl rfl) ?_
  have L : ∀ (t e : Nat) (σ' : jS) (c : Int) (a : Nat), e + t = kn → a + shA ks t e = shA ks kn 0 → c + shC (bn b) (sz b) (ph b) kr ks pr t e = (shC (bn b) (sz b) (ph b) kr ks pr kn 0) → CW σ' pr ln lw bn cd sz ph mn mg kn kr ks kt rd rg → FrC σ σ' → J X mX6_share rX6_share 14 [.ref 5, vI ((b : Nat) : Int), .ref (7 + 4 * b), vI c, vI ((a : Nat) : Int), vI ((e : Nat) : Int)] [] 1 6 σ' (XP (.inl (some (.double (shV (shC (bn b) (sz b) (ph b) kr ks pr kn 0) (pr * ((shA ks kn 0 : Nat) : Int)))))) σ (fun σ9 => CW σ9 pr ln lw bn cd sz ph mn mg kn kr ks kt rd rg)) := by
    intro t
    induction t with
    | zero =>
      intro e σ' c a he ha hc hW' hF
      have ha2 : a = shA ks kn 0 := ha
      have hc2 : c = (shC (bn b) (sz b) (ph b) kr ks pr kn 0) := by rw [← hc]; exact (Int.add_zero c).symm
      have hab := shA_bd (ks := ks) kn 0 (fun k _ hk => (hki.2.1 k (by omega)).2)
      have hcb := shC_bd (n := bn b) (sz := sz b) (ph := ph b) (kr := kr) (ks := ks) hpr kn 0 (fun k _ hk => (hki.2.1 k (by omega)).2)
      have hpa : 0 ≤ pr * ((a : Nat) : Int) ∧ pr * ((a : Nat) : Int) ≤ 5 * 480 := ⟨Int.mul_nonneg (by omega) (by omega), Int.mul_le_mul hpr.2 (by omega) (by omega) (by omega)⟩
      refine J.ild dX6_share_14 rfl ?_
      refine J.ald_n dX6_share_16 rfl ?_
      refine gf_X6_26 rfl dX6_share_17 hW'.1.1 ?_
      refine gf_X6_84 rfl dX6_share_20 hW'.2.2.2.1.1 ?_
      refine J.icmp_ge dX6_share_23 (by decide) (tgt := 88) (by unfold inI; omega) (by unfold inI; omega) (fun h => ?_) (fun h => ?_)
      · refine J.ald_n dX6_share_88 rfl ?_
        refine gf_X6_48 rfl dX6_share_89 hW'.1.1 ?_
        refine J.ild dX6_share_92 rfl ?_
        refine J.imul dX6_share_94 ?_
        refine J.ist dX6_share_95 (by decide) (jnc_of rfl rfl) ?_
        refine J.ild dX6_share_97 rfl ?_
        refine J.if_ne dX6_share_99 (by decide) (tgt := 106) (by unfold inI; omega) (fun hz => ?_) (fun hz => ?_)
        · refine J.ild_n dX6_share_106 rfl ?_
          refine J.i2d dX6_share_107 ?_
          refine J.ild dX6_share_108 rfl ?_
          refine J.i2d dX6_share_110 ?_
          refine J.ddiv dX6_share_111 (nan_ok (by omega) (by omega)) ?_
          refine J.dret dX6_share_112 rfl (by decide) (by decide) ?_
          rw [hc2.symm, show pr * ((shA ks kn 0 : Nat) : Int) = pr * ((a : Nat) : Int) from by rw [ha2]]
          refine ⟨?_, hW', hF⟩
          unfold shV
          rw [if_neg (by omega)]
        · refine J.dconst1 dX6_share_102 ?_
          refine J.goto dX6_share_103 (by decide) (tgt := 112) ?_
          refine J.dret dX6_share_112 rfl (by decide) (by decide) ?_
          rw [hc2.symm, show pr * ((shA ks kn 0 : Nat) : Int) = pr * ((a : Nat) : Int) from by rw [ha2]]
          refine ⟨?_, hW', hF⟩
          unfold shV
          rw [if_pos (by omega)]
      · omega
    | succ t ih =>
      intro e σ' c a he ha hc hW' hF
      have hke := hki.2.1 e (by omega)
      refine J.ild dX6_share_14 rfl ?_
      refine J.ald_n dX6_share_16 rfl ?_
      refine gf_X6_26 rfl dX6_share_17 hW'.1.1 ?_
      refine gf_X6_84 rfl dX6_share_20 hW'.2.2.2.1.1 ?_
      refine J.icmp_ge dX6_share_23 (by decide) (tgt := 88) (by unfold inI; omega) (by unfold inI; omega) (fun h => ?_) (fun h => ?_)
      · omega
      · refine J.ild_n dX6_share_26 rfl ?_
        refine J.ald_n dX6_share_27 rfl ?_
        refine gf_X6_40 rfl dX6_share_28 hW'.1.1 ?_
        refine J.ald_n dX6_share_31 rfl ?_
        refine J.ald_n dX6_share_32 rfl ?_
        refine gf_X6_48 rfl dX6_share_33 hW'.1.1 ?_
        refine J.ald_n dX6_share_36 rfl ?_
        refine gf_X6_26 rfl dX6_share_37 hW'.1.1 ?_
        refine gf_X6_93 rfl dX6_share_40 hW'.2.2.2.1.1 ?_
        refine J.ald_n dX6_share_43 rfl ?_
        refine gf_X6_26 rfl dX6_share_44 hW'.1.1 ?_
        refine J.ild dX6_share_47 rfl ?_
        refine J.callV (rm' := rX3_startOf) [vI ((e : Nat) : Int)] dX6_share_49 (c_X3_startOf) hW'.2.2.2.1.1 rfl st_X3_startOf ml_X6_94 im_X3_startOf se_X3_startOf rfl (Nat.le_of_ble_eq_true rfl) (by decide) (by decide) (Nat.le_of_ble_eq_true rfl) (by decide) (by decide) (Or.inl rfl) (fun E9 σ9 hq9 _ => nomatch hq9.1) (fun r9 σ9 hq9 hle9 => ?_)
        obtain ⟨h9, h8⟩ := hq9
        rw [h8]
        clear hle9 h8 σ9
        cases h9
        refine J.ald_n dX6_share_52 rfl ?_
        refine gf_X6_26 rfl dX6_share_53 hW'.1.1 ?_
        refine gf_X6_98 rfl dX6_share_56 hW'.2.2.2.1.1 ?_
        refine J.ild dX6_share_59 rfl ?_
        refine J.iald e dX6_share_61 hW'.2.2.2.1.2.2.1 rfl (by omega) (by omega) ?_
        refine J.callV (rm' := rX2_divide) [.ref (7 + 4 * b), vI pr, .ref 22, vI ((e * 41 : Nat) : Int), vI ((ks e : Nat) : Int)] dX6_share_62 (c_X2_divide (hW'.2.1 b hb) (by omega) hbn (fun e _ => hcd e) hsz hW'.2.2.2.2.2.1 hW'.2.2.2.2.2.2.1.choose_spec hW'.2.2.2.2.2.2.2.choose_spec hW'.2.2.2.1.2.1 (by omega) hke.2 (by omega) (fun t ht => inI_k (hki.2.2.1 t ht)) (fun t _ => inI_w (hph t)) hpr (by omega) (by omega) (by omega) (by omega)) hW'.2.2.2.2.2.1 rfl st_X2_divide ml_X6_158 im_X2_divide se_X2_divide rfl (Nat.le_of_ble_eq_true rfl) (by decide) (by decide) (Nat.le_of_ble_eq_true rfl) (by decide) (by decide) (Or.inl rfl) (fun E9 σ9 hq9 _ => nomatch hq9.1) (fun r9 σ1 hq9 hle9 => ?_)
        obtain ⟨h9, ⟨f1, p1, hf1, hp1, -⟩, hn1, hj1⟩ := hq9
        cases h9
        clear hle9
        refine J.iadd dX6_share_65 ?_
        refine J.ist_n dX6_share_66 (by decide) (jnc_of rfl rfl) ?_
        refine J.ild dX6_share_67 rfl ?_
        refine J.ald_n dX6_share_69 rfl ?_
        refine gf_X6_26 rfl dX6_share_70 ((hj1 _ (by omega) (by omega)).trans hW'.1.1) ?_
        refine gf_X6_98 rfl dX6_share_73 ((hj1 _ (by omega) (by omega)).trans hW'.2.2.2.1.1) ?_
        refine J.ild dX6_share_76 rfl ?_
        refine J.iald e dX6_share_78 ((hj1 _ (by omega) (by omega)).trans hW'.2.2.2.1.2.2.1) rfl (by omega) (by omega) ?_
        refine J.iadd dX6_share_79 ?_
        rw [show (((a : Nat) : Int) : Int) + ((ks e : Nat) : Int) = ((a + (ks e) : Nat) : Int) from by push_cast; rfl]
        refine J.ist dX6_share_80 (by decide) (jnc_of rfl rfl) ?_
        refine J.iinc (v := ((e + 1 : Nat) : Int)) dX6_share_82 rfl (by first | rfl | omega) (by decide) (jnc_of rfl rfl) ?_
        refine J.goto dX6_share_85 (by decide) (tgt := 14) ?_
        exact ih (e + 1) σ1 _ _ (by omega) (by rw [← ha]; show a + ks e + _ = a + (ks e + _); omega) (by rw [← hc]; exact Int.add_assoc _ _ _) (hW'.setD hj1 ⟨f1, hf1⟩ ⟨p1, hp1⟩) (hF.trans ⟨hn1, fun j hj => hj1 j (by omega) (by omega)⟩)
  exact L kn 0 σ 0 0 (by omega) (Nat.zero_add _) (Int.zero_add _) hW FrC.refl
