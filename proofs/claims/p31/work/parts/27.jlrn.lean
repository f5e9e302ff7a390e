/-- what a proposal is worth, and where it stands -/
theorem prS_ind {tt : Nat → Int} {no : Nat → Bool} {k : Nat} {pr : Int} {P : (Int × Nat × Nat) → Prop} : ∀ (t a : Nat) (b : Int × Nat × Nat), P b → (∀ a' (b' : Int × Nat × Nat), P b' → 2 ≤ tt a' → b'.1 < tt a' * (((k : Nat) : Int) * pr - 1) → no a' = false → P (tt a' * (((k : Nat) : Int) * pr - 1), a', k)) → P (prS tt no k pr t a b)
  | 0, _, _, h, _ => h
  | t + 1, a, b, h, hs => by
    refine prS_ind t (a + 1) _ ?_ hs
    by_cases h1 : 2 ≤ tt a ∧ b.1 < tt a * (((k : Nat) : Int) * pr - 1) ∧ no a = false
    · rw [if_pos h1]; exact hs a b h h1.1 h1.2.1 h1.2.2
    · rw [if_neg h1]; exact h
theorem prO_ind {kt : Nat → Nat → Int} {no : Nat → Nat → Bool} {pr : Int} {N : Nat} {P : (Int × Nat × Nat) → Prop} : ∀ (t k : Nat) (b : Int × Nat × Nat), P b → 2 ≤ k → (∀ k' a' (b' : Int × Nat × Nat), k ≤ k' → k' < k + t → P b' → 2 ≤ kt (k' - 2) a' → b'.1 < kt (k' - 2) a' * (((k' : Nat) : Int) * pr - 1) → no k' a' = false → P (kt (k' - 2) a' * (((k' : Nat) : Int) * pr - 1), a', k')) → P (prO kt no pr N t k b)
  | 0, _, _, h, _, _ => h
  | t + 1, k, b, h, hk, hs => prO_ind t (k + 1) _ (prS_ind N 0 b h (fun a' b' h1 h2 h3 h4 => hs k a' b' (by omega) (by omega) h1 h2 h3 h4)) (by omega) (fun k' a' b' h1 h2 => hs k' a' b' (by omega) (by omega))
theorem KI.pro {kn : Nat} {kr : Nat → Int} {ks : Nat → Nat} {kt : Nat → Nat → Int} (h : KI kn kr ks kt) {no : Nat → Nat → Bool} {pr : Int} {N : Nat} {B : Int × Nat × Nat} (hB : B = prO kt no pr N 5 2 (0, 0, 0)) : 0 ≤ B.1 ∧ (0 < B.1 → (2 ≤ B.2.2 ∧ B.2.2 ≤ 6) ∧ fits kn ks B.2.2 B.2.1) := by
  subst hB
  refine prO_ind (P := fun B => 0 ≤ B.1 ∧ (0 < B.1 → (2 ≤ B.2.2 ∧ B.2.2 ≤ 6) ∧ fits kn ks B.2.2 B.2.1)) 5 2 (0, 0, 0) ⟨Int.le_refl _, fun q => absurd q (by decide)⟩ (by omega) (fun k a b h1 h2 h3 h4 h5 h6 => ⟨by show 0 ≤ kt (k - 2) a * _; have := h3.1; omega, fun _ => ⟨by show 2 ≤ k ∧ k ≤ 6; omega, ?_⟩⟩)
  show fits kn ks k a
  have h7 := h.2.2.2.2.2 (k - 2) a (by omega)
  rw [show k - 2 + 2 = k by omega] at h7
  exact (h.rep (z := k) (by omega) (by omega)).1
theorem KI.pos {kn : Nat} {kr : Nat → Int} {ks : Nat → Nat} {kt : Nat → Nat → Int} (h : KI kn kr ks kt) {z a t : Nat} (ha : fits kn ks z a) (ht : t < z) : 0 ≤ kr (a + t) ∧ kr (a + t) ≤ 9999 := by
  obtain ⟨k, p, hk, hp, rfl⟩ := ha
  have h1 := h.2.2.2.1 k (p + t) hk (by omega)
  have h2 := h.2.1 k hk
  have h3 := h.1
  have h4 := h.2.2.1 (k * 41 + p + t) (by omega)
  rw [show k * 41 + (p + t) = k * 41 + p + t by omega] at h1
  omega
theorem jcp_alF {kr P w : Nat → Int} {s d k : Nat} (hk : k ≤ 40) : jcp (alF kr k s 0 w) P 0 d k = jcp kr P s d k := funext fun t => by
  unfold jcp
  by_cases h : d ≤ t ∧ t < d + k
  · rw [if_pos h, if_pos h, alF_eq _ _ _ _ _ (by omega), if_pos (by omega), Nat.zero_add, Nat.sub_zero]
  · rw [if_neg h, if_neg h]
def lnC (n : Nat) (C : Nat → Nat) : Int := ftt n C (if n = 0 then 0 else C (n - 1))
def lnB (kn : Nat) (kr : Nat → Int) (kt : Nat → Nat → Int) (pr : Int) (n : Nat) (S : Nat → Nat) (P : Nat → Int) : Int × Nat × Nat := prO kt (fun k a => hpU S P kr a k n 0) pr (kn * 41) 5 2 (0, 0, 0)
def lnU (kn : Nat) (kr : Nat → Int) (kt : Nat → Nat → Int) (pr : Int) : Nat → Nat → Nat → (Nat → Nat) → (Nat → Nat) → (Nat → Int) → (Nat → Int) → Nat × Nat × (Nat → Nat) × (Nat → Nat) × (Nat → Int) × (Nat → Int)
  | 0, d, n, C, S, P, w => (d, n, C, S, P, w)
  | t + 1, d, n, C, S, P, w =>
    if 0 < (lnB kn kr kt pr n S P).1 then
      (if lnC n C = -1 then (d, n, C, S, P, alF kr (lnB kn kr kt pr n S P).2.2 (lnB kn kr kt pr n S P).2.1 0 w)
       else lnU kn kr kt pr t (d + 1) (n + 1) (jup C n (lnC n C).toNat) (jup S n (lnB kn kr kt pr n S P).2.2) (jcp kr P (lnB kn kr kt pr n S P).2.1 (n * 6) (lnB kn kr kt pr n S P).2.2) (alF kr (lnB kn kr kt pr n S P).2.2 (lnB kn kr kt pr n S P).2.1 0 w))
    else (d, n, C, S, P, w)
theorem ftU_rng {n : Nat} {C : Nat → Nat} : ∀ (t c : Nat), ftU n C t c = -1 ∨ ∃ k : Nat, ftU n C t c = ((k : Nat) : Int) ∧ k ≤ 11881375 ∧ rsn n C k = 0
  | 0, _ => Or.inl rfl
  | t + 1, c => by
    show (if c ≤ 11881375 then (if rsn n C c = 0 then ((c : Nat) : Int) else ftU n C t (c + 1)) else -1) = -1 ∨ ∃ k : Nat, (if c ≤ 11881375 then (if rsn n C c = 0 then ((c : Nat) : Int) else ftU n C t (c + 1)) else -1) = ((k : Nat) : Int) ∧ _
    by_cases h1 : c ≤ 11881375
    · rw [if_pos h1]
      by_cases h2 : rsn n C c = 0
      · rw [if_pos h2]; exact Or.inr ⟨c, rfl, h1, h2⟩
      · rw [if_neg h2]; exact ftU_rng t (c + 1)
    · rw [if_neg h1]; exact Or.inl rfl
theorem lnC_rng {n : Nat} {C : Nat → Nat} : lnC n C = -1 ∨ (n < 40 ∧ ∃ k : Nat, lnC n C = ((k : Nat) : Int) ∧ k ≤ 11881375 ∧ rsn n C k = 0) := by
  unfold lnC ftt
  by_cases h : 40 ≤ n
  · rw [if_pos h]; exact Or.inl rfl
  · rw [if_neg h]; exact (ftU_rng _ _).imp id (fun q => ⟨by omega, q⟩)
theorem CW.setBL {σ σ1 : jS} {pr : Int} {ln : Nat} {lw : Nat → Int} {bn : Nat → Nat} {cd sz : Nat → Nat → Nat} {ph : Nat → Nat → Int} {mn : Nat} {mg : Nat → Int} {kn : Nat} {kr : Nat → Int} {ks : Nat → Nat} {kt : Nat → Nat → Int} {rd : Nat} {rg : Nat → Int} {b n' ln' : Nat} {cd' sz' : Nat → Nat} {ph' lw' : Nat → Int} (h : CW σ pr ln lw bn cd sz ph mn mg kn kr ks kt rd rg) (hb : b < 3) (hj : ∀ j, (j < 7 + 4 * b ∨ 7 + 4 * b + 3 < j) → j ≠ 19 → j ≠ 20 → σ1.2 j = σ.2 j) (h1 : BK σ1 (7 + 4 * b) n' cd' sz' ph') (h2 : σ1.2 19 = jO 3 [.ref 20, vI ((ln' : Nat) : Int)]) (h3 : σ1.2 20 = jI 40 lw') : CW σ1 pr ln' lw' (jup bn b n') (jup cd b cd') (jup sz b sz') (jup ph b ph') mn mg kn kr ks kt rd rg := by
  obtain ⟨⟨a1, ⟨gB, a2, a3⟩, a4⟩, bb, -, k, ⟨m1, m2⟩, d1, ⟨f, d2⟩, p, d3⟩ := h
  refine ⟨⟨(hj _ (by omega) (by omega) (by omega)).trans a1, ⟨gB, (hj _ (by omega) (by omega) (by omega)).trans a2, a3⟩, (hj _ (by omega) (by omega) (by omega)).trans a4⟩, fun c hc => ?_, ⟨h2, h3⟩, k.keep (fun j _ _ => hj j (by omega) (by omega) (by omega)), ⟨(hj _ (by omega) (by omega) (by omega)).trans m1, (hj _ (by omega) (by omega) (by omega)).trans m2⟩, (hj _ (by omega) (by omega) (by omega)).trans d1, ⟨f, (hj _ (by omega) (by omega) (by omega)).trans d2⟩, p, (hj _ (by omega) (by omega) (by omega)).trans d3⟩
  by_cases hcb : c = b
  · subst hcb
    rw [jup_eq, jup_eq, jup_eq, jup_eq]
    exact h1
  · rw [jup_ne _ _ hcb, jup_ne _ _ hcb, jup_ne _ _ hcb, jup_ne _ _ hcb]
    exact (bb c hc).keep (fun j _ _ => hj j (by omega) (by omega) (by omega))
theorem rsn_lt {n : Nat} {C : Nat → Nat} {c : Nat} (h : rsn n C c = 0) : n < 40 := by
  unfold rsn at h
  by_cases q : 40 ≤ n
  · rw [if_pos q] at h; omega
  · omega
theorem proB_bd {kn : Nat} {kr : Nat → Int} {ks : Nat → Nat} {kt : Nat → Nat → Int} (h : KI kn kr ks kt) {no : Nat → Nat → Bool} {pr : Int} {N : Nat} {B : Int × Nat × Nat} (hpr : 1 ≤ pr ∧ pr ≤ 5) (hB : B = prO kt no pr N 5 2 (0, 0, 0)) : inI B.1 := by
  subst hB
  have : 0 ≤ (prO kt no pr N 5 2 (0, 0, 0)).1 ∧ (prO kt no pr N 5 2 (0, 0, 0)).1 ≤ 29000 := prO_ind (P := fun B => 0 ≤ B.1 ∧ B.1 ≤ 29000) 5 2 (0, 0, 0) ⟨by decide, by decide⟩ (by omega) (fun k a b h1 h2 h3 h4 h5 h6 => (sv_bd (h.bd (k - 2) a (by omega)) hpr (show 2 ≤ k ∧ k ≤ 6 by omega)).2)
  unfold inI
  omega
set_option maxRecDepth 20000 in
theorem c_learnOne_a {X : jX} {σ : jS} {kn : Nat} {kr : Nat → Int} {ks : Nat → Nat} {kt : Nat → Nat → Int} {x0 x3 x4 x5 x6 : Value} {b n l : Nat} {C S : Nat → Nat} {P w : Nat → Int} {pr : Int} (h5o : σ.2 5 = jO 5 [x0, .ref 19, .ref 21, x3, x4, x5, x6, vI pr]) (e19 : σ.2 19 = jO 3 [.ref 20, vI ((l : Nat) : Int)]) (e20 : σ.2 20 = jI 40 w) (hK : KP σ kn kr ks kt) (hki : KI kn kr ks kt) (hB : BK σ (7 + 4 * b) n C S P) (hb : b < 3) (hn : n ≤ 40) (hcd : ∀ e, C e ≤ 11881375) (hsz : ∀ e, e < n → 1 ≤ S e ∧ S e ≤ 6) (hph : ∀ t, 0 ≤ P t ∧ P t ≤ 9999) (hpr : 1 ≤ pr ∧ pr ≤ 5) (h0 : ¬ 0 < (lnB kn kr kt pr n S P).1) : JM X mX6_learnOne rX6_learnOne [.ref 5, .ref (7 + 4 * b)] σ (jEnd (oI 0) σ) := by
  refine JM.of (lc := [.ref 5, .ref (7 + 4 * b), .null]) rfl ?_
  have hkn := hki.1
  refine J.ald_n dX6_learnOne_0 rfl ?_
  refine gf_X6_26 rfl dX6_learnOne_1 h5o ?_
  refine J.ald_n dX6_learnOne_4 rfl ?_
  refine gf_X6_19 rfl dX6_learnOne_5 h5o ?_
  refine J.ald_n dX6_learnOne_8 rfl ?_
  refine J.ald_n dX6_learnOne_9 rfl ?_
  refine gf_X6_48 rfl dX6_learnOne_10 h5o ?_
  refine J.callV (rm' := rX3_proposeOn) [.ref 19, .ref (7 + 4 * b), vI pr] dX6_learnOne_13 (c_X3_proposeOn (B := (lnB kn kr kt pr n S P)) rfl hK hkn hB (by omega) hn hsz (fun t _ => inI_w (hph t)) e19 e20 (by omega) (by omega) (by omega) (by omega) hpr (fun s a hs _ => hki.bd s a hs) (fun s a hs _ => hki.bd2 s a hs) (fun t ht => inI_k (hki.2.2.1 t ht))) hK.1 rfl st_X3_proposeOn ml_X6_203 im_X3_proposeOn se_X3_proposeOn rfl (Nat.le_of_ble_eq_true rfl) (by decide) (by decide) (Nat.le_of_ble_eq_true rfl) (by decide) (by decide) (Or.inl rfl) (fun E9 σ9 hq9 _ => nomatch hq9.1) (fun r9 σ1 hq9 hle9 => ?_)
  obtain ⟨h9, hy1, hy2, hn1, hj1⟩ := hq9
  cases h9
  clear hle9
  have hpi := hki.pro (B := (lnB kn kr kt pr n S P)) rfl
  have hbd := proB_bd (B := (lnB kn kr kt pr n S P)) hki hpr rfl
  refine J.if_ne dX6_learnOne_16 (by decide) (tgt := 21) hbd (fun h1 => ?_) (fun h1 => ?_)
  · omega
  · refine J.iconst dX6_learnOne_19 ?_
    refine J.iret .boolean dX6_learnOne_20 rfl rfl (by decide) (by decide) ?_
    exact ⟨rfl, hy2 h0⟩
set_option maxRecDepth 20000 in
theorem c_learnOne_b {X : jX} {σ : jS} {kn : Nat} {kr : Nat → Int} {ks : Nat → Nat} {kt : Nat → Nat → Int} {x0 x3 x4 x5 x6 : Value} {b n l : Nat} {C S : Nat → Nat} {P w : Nat → Int} {pr : Int} (h5o : σ.2 5 = jO 5 [x0, .ref 19, .ref 21, x3, x4, x5, x6, vI pr]) (e19 : σ.2 19 = jO 3 [.ref 20, vI ((l : Nat) : Int)]) (e20 : σ.2 20 = jI 40 w) (hK : KP σ kn kr ks kt) (hki : KI kn kr ks kt) (hB : BK σ (7 + 4 * b) n C S P) (hb : b < 3) (hn : n ≤ 40) (hcd : ∀ e, C e ≤ 11881375) (hsz : ∀ e, e < n → 1 ≤ S e ∧ S e ≤ 6) (hph : ∀ t, 0 ≤ P t ∧ P t ≤ 9999) (hpr : 1 ≤ pr ∧ pr ≤ 5) (h0 : 0 < (lnB kn kr kt pr n S P).1) (hc : lnC n C = -1) : JM X mX6_learnOne rX6_learnOne [.ref 5, .ref (7 + 4 * b)] σ (fun o σ1 => o = oI 0 ∧ σ1.2 19 = jO 3 [.ref 20, vI (((lnB kn kr kt pr n S P).2.2 : Nat) : Int)] ∧ σ1.2 20 = jI 40 (alF kr (lnB kn kr kt pr n S P).2.2 (lnB kn kr kt pr n S P).2.1 0 w) ∧ σ1.1 = σ.1 ∧ ∀ j, j ≠ 19 → j ≠ 20 → σ1.2 j = σ.2 j) := by
  refine JM.of (lc := [.ref 5, .ref (7 + 4 * b), .null]) rfl ?_
  have hkn := hki.1
  refine J.ald_n dX6_learnOne_0 rfl ?_
  refine gf_X6_26 rfl dX6_learnOne_1 h5o ?_
  refine J.ald_n dX6_learnOne_4 rfl ?_
  refine gf_X6_19 rfl dX6_learnOne_5 h5o ?_
  refine J.ald_n dX6_learnOne_8 rfl ?_
  refine J.ald_n dX6_learnOne_9 rfl ?_
  refine gf_X6_48 rfl dX6_learnOne_10 h5o ?_
  refine J.callV (rm' := rX3_proposeOn) [.ref 19, .ref (7 + 4 * b), vI pr] dX6_learnOne_13 (c_X3_proposeOn (B := (lnB kn kr kt pr n S P)) rfl hK hkn hB (by omega) hn hsz (fun t _ => inI_w (hph t)) e19 e20 (by omega) (by omega) (by omega) (by omega) hpr (fun s a hs _ => hki.bd s a hs) (fun s a hs _ => hki.bd2 s a hs) (fun t ht => inI_k (hki.2.2.1 t ht))) hK.1 rfl st_X3_proposeOn ml_X6_203 im_X3_proposeOn se_X3_proposeOn rfl (Nat.le_of_ble_eq_true rfl) (by decide) (by decide) (Nat.le_of_ble_eq_true rfl) (by decide) (by decide) (Or.inl rfl) (fun E9 σ9 hq9 _ => nomatch hq9.1) (fun r9 σ1 hq9 hle9 => ?_)
  obtain ⟨h9, hy1, hy2, hn1, hj1⟩ := hq9
  cases h9
  clear hle9
  have hpi := hki.pro (B := (lnB kn kr kt pr n S P)) rfl
  have hbd := proB_bd (B := (lnB kn kr kt pr n S P)) hki hpr rfl
  obtain ⟨g19, g20⟩ := hy1 h0
  obtain ⟨hz1, hz2⟩ := hpi.2 h0
  have hB1 : BK σ1 (7 + 4 * b) n C S P := hB.keep (fun j _ _ => hj1 j (by omega) (by omega))
  refine J.if_ne dX6_learnOne_16 (by decide) (tgt := 21) hbd (fun h1 => ?_) (fun h1 => ?_)
  · refine J.ald_n dX6_learnOne_21 rfl ?_
    refine J.ald_n dX6_learnOne_22 rfl ?_
    refine J.callV (rm' := rX0_latestCode) [] dX6_learnOne_23 (c_X0_latestCode hB1 (by omega) hn) hB1.1 rfl st_X0_latestCode ml_X6_251 im_X0_latestCode se_X0_latestCode rfl (Nat.le_of_ble_eq_true rfl) (by decide) (by decide) (Nat.le_of_ble_eq_true rfl) (by decide) (by decide) (Or.inl rfl) (fun E9 σ9 hq9 _ => nomatch hq9.1) (fun r9 σ9 hq9 hle9 => ?_)
    obtain ⟨h9, h8⟩ := hq9
    rw [h8]
    clear hle9 h8 σ9
    cases h9
    have hlc : (if n = 0 then 0 else C (n - 1)) ≤ 11881375 := by split; omega; exact hcd _
    refine J.callV (rm' := rX0_fitFrom) [vI (((if n = 0 then 0 else C (n - 1)) : Nat) : Int)] dX6_learnOne_26 (c_X0_fitFrom hB1 (by omega) hn (fun e _ => hcd e) hlc) hB1.1 rfl st_X0_fitFrom ml_X6_125 im_X0_fitFrom se_X0_fitFrom rfl (Nat.le_of_ble_eq_true rfl) (by decide) (by decide) (Nat.le_of_ble_eq_true rfl) (by decide) (by decide) (Or.inl rfl) (fun E9 σ9 hq9 _ => nomatch hq9.1) (fun r9 σ9 hq9 hle9 => ?_)
    obtain ⟨h9, h8⟩ := hq9
    rw [h8]
    clear hle9 h8 σ9
    cases h9
    show J _ _ _ _ _ [vI (lnC n C)] _ _ _ _
    rw [hc]
    refine J.ist_n dX6_learnOne_29 (by decide) (jnc_of rfl rfl) ?_
    refine J.ild_n dX6_learnOne_30 rfl ?_
    refine J.iconst dX6_learnOne_31 ?_
    refine J.icmp_ne dX6_learnOne_32 (by decide) (tgt := 37) (by unfold inI; omega) (by unfold inI; omega) (fun h2 => ?_) (fun h2 => ?_)
    · exact absurd rfl h2
    · refine J.iconst dX6_learnOne_35 ?_
      refine J.iret .boolean dX6_learnOne_36 rfl rfl (by decide) (by decide) ?_
      exact ⟨rfl, g19, g20, hn1, hj1⟩
  · omega
set_option maxRecDepth 20000 in
theorem c_learnOne_c {X : jX} {σ : jS} {kn : Nat} {kr : Nat → Int} {ks : Nat → Nat} {kt : Nat → Nat → Int} {x0 x3 x4 x5 x6 : Value} {b n l : Nat} {C S : Nat → Nat} {P w : Nat → Int} {pr : Int} {c : Nat} (h5o : σ.2 5 = jO 5 [x0, .ref 19, .ref 21, x3, x4, x5, x6, vI pr]) (e19 : σ.2 19 = jO 3 [.ref 20, vI ((l : Nat) : Int)]) (e20 : σ.2 20 = jI 40 w) (hK : KP σ kn kr ks kt) (hki : KI kn kr ks kt) (hB : BK σ (7 + 4 * b) n C S P) (hb : b < 3) (hn : n ≤ 40) (hcd : ∀ e, C e ≤ 11881375) (hsz : ∀ e, e < n → 1 ≤ S e ∧ S e ≤ 6) (hph : ∀ t, 0 ≤ P t ∧ P t ≤ 9999) (hpr : 1 ≤ pr ∧ pr ≤ 5) (h0 : 0 < (lnB kn kr kt pr n S P).1) (hc : lnC n C = ((c : Nat) : Int)) (hc2 : c ≤ 11881375) (hn2 : n < 40) : JM X mX6_learnOne rX6_learnOne [.ref 5, .ref (7 + 4 * b)] σ (fun o σ1 => o = oI 1 ∧ BK σ1 (7 + 4 * b) (n + 1) (jup C n c) (jup S n (lnB kn kr kt pr n S P).2.2) (jcp kr P (lnB kn kr kt pr n S P).2.1 (n * 6) (lnB kn kr kt pr n S P).2.2) ∧ σ1.2 19 = jO 3 [.ref 20, vI (((lnB kn kr kt pr n S P).2.2 : Nat) : Int)] ∧ σ1.2 20 = jI 40 (alF kr (lnB kn kr kt pr n S P).2.2 (lnB kn kr kt pr n S P).2.1 0 w) ∧ σ1.1 = σ.1 ∧ ∀ j, (j < 7 + 4 * b ∨ 7 + 4 * b + 3 < j) → j ≠ 19 → j ≠ 20 → σ1.2 j = σ.2 j) := by
  refine JM.of (lc := [.ref 5, .ref (7 + 4 * b), .null]) rfl ?_
  have hkn := hki.1
  refine J.ald_n dX6_learnOne_0 rfl ?_
  refine gf_X6_26 rfl dX6_learnOne_1 h5o ?_
  refine J.ald_n dX6_learnOne_4 rfl ?_
  refine gf_X6_19 rfl dX6_learnOne_5 h5o ?_
  refine J.ald_n dX6_learnOne_8 rfl ?_
  refine J.ald_n dX6_learnOne_9 rfl ?_
  refine gf_X6_48 rfl dX6_learnOne_10 h5o ?_
  refine J.callV (rm' := rX3_proposeOn) [.ref 19, .ref (7 + 4 * b), vI pr] dX6_learnOne_13 (c_X3_proposeOn (B := (lnB kn kr kt pr n S P)) rfl hK hkn hB (by omega) hn hsz (fun t _ => inI_w (hph t)) e19 e20 (by omega) (by omega) (by omega) (by omega) hpr (fun s a hs _ => hki.bd s a hs) (fun s a hs _ => hki.bd2 s a hs) (fun t ht => inI_k (hki.2.2.1 t ht))) hK.1 rfl st_X3_proposeOn ml_X6_203 im_X3_proposeOn se_X3_proposeOn rfl (Nat.le_of_ble_eq_true rfl) (by decide) (by decide) (Nat.le_of_ble_eq_true rfl) (by decide) (by decide) (Or.inl rfl) (fun E9 σ9 hq9 _ => nomatch hq9.1) (fun r9 σ1 hq9 hle9 => ?_)
  obtain ⟨h9, hy1, hy2, hn1, hj1⟩ := hq9
  cases h9
  clear hle9
  have hpi := hki.pro (B := (lnB kn kr kt pr n S P)) rfl
  have hbd := proB_bd (B := (lnB kn kr kt pr n S P)) hki hpr rfl
  obtain ⟨g19, g20⟩ := hy1 h0
  obtain ⟨hz1, hz2⟩ := hpi.2 h0
  have hB1 : BK σ1 (7 + 4 * b) n C S P := hB.keep (fun j _ _ => hj1 j (by omega) (by omega))
  refine J.if_ne dX6_learnOne_16 (by decide) (tgt := 21) hbd (fun h1 => ?_) (fun h1 => ?_)
  · refine J.ald_n dX6_learnOne_21 rfl ?_
    refine J.ald_n dX6_learnOne_22 rfl ?_
    refine J.callV (rm' := rX0_latestCode) [] dX6_learnOne_23 (c_X0_latestCode hB1 (by omega) hn) hB1.1 rfl st_X0_latestCode ml_X6_251 im_X0_latestCode se_X0_latestCode rfl (Nat.le_of_ble_eq_true rfl) (by decide) (by decide) (Nat.le_of_ble_eq_true rfl) (by decide) (by decide) (Or.inl rfl) (fun E9 σ9 hq9 _ => nomatch hq9.1) (fun r9 σ9 hq9 hle9 => ?_)
    obtain ⟨h9, h8⟩ := hq9
    rw [h8]
    clear hle9 h8 σ9
    cases h9
    have hlc : (if n = 0 then 0 else C (n - 1)) ≤ 11881375 := by split; omega; exact hcd _
    refine J.callV (rm' := rX0_fitFrom) [vI (((if n = 0 then 0 else C (n - 1)) : Nat) : Int)] dX6_learnOne_26 (c_X0_fitFrom hB1 (by omega) hn (fun e _ => hcd e) hlc) hB1.1 rfl st_X0_fitFrom ml_X6_125 im_X0_fitFrom se_X0_fitFrom rfl (Nat.le_of_ble_eq_true rfl) (by decide) (by decide) (Nat.le_of_ble_eq_true rfl) (by decide) (by decide) (Or.inl rfl) (fun E9 σ9 hq9 _ => nomatch hq9.1) (fun r9 σ9 hq9 hle9 => ?_)
    obtain ⟨h9, h8⟩ := hq9
    rw [h8]
    clear hle9 h8 σ9
    cases h9
    show J _ _ _ _ _ [vI (lnC n C)] _ _ _ _
    rw [hc]
    refine J.ist_n dX6_learnOne_29 (by decide) (jnc_of rfl rfl) ?_
    refine J.ild_n dX6_learnOne_30 rfl ?_
    refine J.iconst dX6_learnOne_31 ?_
    refine J.icmp_ne dX6_learnOne_32 (by decide) (tgt := 37) (by unfold inI; omega) (by unfold inI; omega) (fun h2 => ?_) (fun h2 => ?_)
    · refine J.ald_n dX6_learnOne_37 rfl ?_
      refine J.ild_n dX6_learnOne_38 rfl ?_
      refine J.ald_n dX6_learnOne_39 rfl ?_
      refine gf_X6_19 rfl dX6_learnOne_40 ((hj1 _ (by omega) (by omega)).trans h5o) ?_
      refine J.callV (rm' := rX0_add) [vI ((c : Nat) : Int), .ref 19] dX6_learnOne_43 (c_X0_add hB1 (by omega) hn hn2 g19 g20 (by omega) (by omega) (by omega) (by omega)) hB1.1 rfl st_X0_add ml_X6_132 im_X0_add se_X0_add rfl (Nat.le_of_ble_eq_true rfl) (by decide) (by decide) (Nat.le_of_ble_eq_true rfl) (by decide) (by decide) (Or.inl rfl) (fun E9 σ9 hq9 _ => nomatch hq9.1) (fun r9 σ2 hq9 hle9 => ?_)
      obtain ⟨h9, hB2, hn3, hj2⟩ := hq9
      cases h9
      clear hle9
      refine J.iconst dX6_learnOne_46 ?_
      refine J.iret .boolean dX6_learnOne_47 rfl rfl (by decide) (by decide) ?_
      rw [jcp_alF (by omega)] at hB2
      exact ⟨rfl, hB2, (hj2 _ (by omega)).trans g19, (hj2 _ (by omega)).trans g20, hn3.trans hn1, fun j q1 q2 q3 => (hj2 j q1).trans (hj1 j q2 q3)⟩
    · omega
  · omega
set_option maxRecDepth 20000 in
theorem c_learn_0 {X : jX} {σ : jS} {pr : Int} {ln : Nat} {lw : Nat → Int} {bn : Nat → Nat} {cd sz : Nat → Nat → Nat} {ph : Nat → Nat → Int} {mn : Nat} {mg : Nat → Int} {kn : Nat} {kr : Nat → Int} {ks : Nat → Nat} {kt : Nat → Nat → Int} {rd : Nat} {rg : Nat → Int} {b m : Nat} (hW : CW σ pr ln lw bn cd sz ph mn mg kn kr ks kt rd rg) (hI : CI pr ln lw bn cd sz ph mn mg kn kr ks kt rd rg) (hb : b < 3) (hm : 1 ≤ m ∧ m ≤ 40) : JM X mX6_learn rX6_learn [.ref 5, vI ((b : Nat) : Int), vI ((m : Nat) : Int)] σ (XP (oI (((lnU kn kr kt pr m 0 (bn b) (cd b) (sz b) (ph b) lw).1 : Nat) : Int)) σ (fun σ1 => CW σ1 pr 0 ((lnU kn kr kt pr m 0 (bn b) (cd b) (sz b) (ph b) lw).2.2.2.2.2) (jup bn b (lnU kn kr kt pr m 0 (bn b) (cd b) (sz b) (ph b) lw).2.1) (jup cd b (lnU kn kr kt pr m 0 (bn b) (cd b) (sz b) (ph b) lw).2.2.1) (jup sz b (lnU kn kr kt pr m 0 (bn b) (cd b) (sz b) (ph b) lw).2.2.2.1) (jup ph b (lnU kn kr kt pr m 0 (bn b) (cd b) (sz b) (ph b) lw).2.2.2.2.1) mn mg kn kr ks kt rd rg)) := by
  refine JM.of (lc := [.ref 5, vI ((b : Nat) : Int), vI ((m : Nat) : Int), .null, .null]) rfl ?_
  obtain ⟨hpr, ⟨hln, hlw⟩, hbk, ⟨hmn, hmg⟩, hki, hrd, hrg⟩ := id hI
  obtain ⟨gB, eB, hgB⟩ := hW.1.2.1
  obtain ⟨gT, eT, hgT⟩ := hW.2.2.2.1.2.2.2.1
  have hkn := hki.1
  have hB := hW.2.1 b hb
  have hbn := (hbk b hb).1
  have hcd := (hbk b hb).2.1
  have hsz := (hbk b hb).2.2.1
  have hph := (hbk b hb).2.2.2
  refine J.ald_n dX6_learn_0 rfl ?_
  refine J.ild_n dX6_learn_1 rfl ?_
  refine J.callV (rm' := rX6_requireBook) [vI ((b : Nat) : Int)] dX6_learn_2 (c_X6_requireBook hW.1.1 eB hgB hb) hW.1.1 rfl st_X6_requireBook ml_X6_118 im_X6_requireBook se_X6_requireBook rfl (Nat.le_of_ble_eq_true rfl) (by decide) (by decide) (Nat.le_of_ble_eq_true rfl) (by decide) (by decide) (Or.inl rfl) (fun E9 σ9 hq9 _ => nomatch hq9.1) (fun r9 σ9 hq9 hle9 => ?_)
  obtain ⟨h9, h8⟩ := hq9
  rw [h8]
  clear hle9 h8 σ9
  cases h9
  refine J.ast_n dX6_learn_5 (by decide) (jnc_of rfl rfl) ?_
  refine J.ild_n dX6_learn_6 rfl ?_
  refine J.iconst dX6_learn_7 ?_
  refine J.icmp_lt dX6_learn_8 (by decide) (tgt := 17) (by unfold inI; omega) (by unfold inI; omega) (fun g1 => ?_) (fun g1 => ?_)
  · omega
  · refine J.ild_n dX6_learn_11 rfl ?_
    refine J.bipush dX6_learn_12 (by decide) ?_
    refine J.icmp_le dX6_learn_14 (by decide) (tgt := 27) (by unfold inI; omega) (by unfold inI; omega) (fun g2 => ?_) (fun g2 => ?_)
    · refine J.iconst dX6_learn_27 ?_
      refine J.ist dX6_learn_28 (by decide) (jnc_of rfl rfl) ?_
      have L : ∀ (t d n l : Nat) (C S : Nat → Nat) (P w : Nat → Int) (σ' : jS), d + t = m → σ'.1 = σ.1 → (∀ j, (j < 7 + 4 * b ∨ 7 + 4 * b + 3 < j) → j ≠ 19 → j ≠ 20 → σ'.2 j = σ.2 j) → BK σ' (7 + 4 * b) n C S P → σ'.2 19 = jO 3 [.ref 20, vI ((l : Nat) : Int)] → σ'.2 20 = jI 40 w → n ≤ 40 → (∀ e, C e ≤ 11881375) → (∀ e, e < n → 1 ≤ S e ∧ S e ≤ 6) → (∀ t, 0 ≤ P t ∧ P t ≤ 9999) → J X mX6_learn rX6_learn 30 [.ref 5, vI ((b : Nat) : Int), vI ((m : Nat) : Int), .ref (7 + 4 * b), vI ((d : Nat) : Int)] [] 1 6 σ' (XP (oI (((lnU kn kr kt pr t d n C S P w).1 : Nat) : Int)) σ (fun σ9 => CW σ9 pr 0 ((lnU kn kr kt pr t d n C S P w).2.2.2.2.2) (jup bn b (lnU kn kr kt pr t d n C S P w).2.1) (jup cd b (lnU kn kr kt pr t d n C S P w).2.2.1) (jup sz b (lnU kn kr kt pr t d n C S P w).2.2.2.1) (jup ph b (lnU kn kr kt pr t d n C S P w).2.2.2.2.1) mn mg kn kr ks kt rd rg)) := by
        intro t
        induction t with
        | zero =>
          intro d n l C S P w σ' hd h1 h2 hB' h19 h20 hn' hcd' hsz' hph'
          refine J.ild dX6_learn_30 rfl ?_
          refine J.ild_n dX6_learn_32 rfl ?_
          refine J.icmp_ge dX6_learn_33 (by decide) (tgt := 50) (by unfold inI; omega) (by unfold inI; omega) (fun h => ?_) (fun h => ?_)
          · refine J.ald_n dX6_learn_50 rfl ?_
            refine gf_X6_19 rfl dX6_learn_51 ((h2 _ (by omega) (by omega) (by omega)).trans hW.1.1) ?_
            refine J.callV (rm' := rX4_clear) [] dX6_learn_54 (c_X4_clear h19) h19 rfl st_X4_clear ml_X6_71 im_X4_clear se_X4_clear rfl (Nat.le_of_ble_eq_true rfl) (by decide) (by decide) (Nat.le_of_ble_eq_true rfl) (by decide) (by decide) (Or.inl rfl) (fun E9 σ9 hq9 _ => nomatch hq9.1) (fun r9 σ9 hq9 hle9 => ?_)
            obtain ⟨h9, h8⟩ := hq9
            cases h9
            subst h8
            clear hle9
            refine J.ild dX6_learn_57 rfl ?_
            refine J.iret .int dX6_learn_59 rfl rfl (by decide) (by decide) ?_
            exact ⟨rfl, hW.setBL hb (fun j q1 q2 q3 => by rw [jset_ne _ _ q2]; exact h2 j q1 q2 q3) (hB'.keep (fun j _ _ => jset_ne _ _ (by omega))) (jset_eq _ _ _) ((jset_ne _ _ (by omega)).trans h20), h1, fun j hj => (jset_ne _ _ (by omega)).trans (h2 j (by omega) (by omega) (by omega))⟩
          · omega
        | succ t ih =>
          intro d n l C S P w σ' hd h1 h2 hB' h19 h20 hn' hcd' hsz' hph'
          refine J.ild dX6_learn_30 rfl ?_
          refine J.ild_n dX6_learn_32 rfl ?_
          refine J.icmp_ge dX6_learn_33 (by decide) (tgt := 50) (by unfold inI; omega) (by unfold inI; omega) (fun h => ?_) (fun h => ?_)
          · omega
          · refine J.ald_n dX6_learn_36 rfl ?_
            refine J.ald_n dX6_learn_37 rfl ?_
            by_cases h0 : 0 < (lnB kn kr kt pr n S P).1
            · rcases lnC_rng (n := n) (C := C) with hc | ⟨hn2, c, hc, hc2, -⟩
              · refine J.callV (rm' := rX6_learnOne) [.ref (7 + 4 * b)] dX6_learn_38 (c_learnOne_b ((h2 _ (by omega) (by omega) (by omega)).trans hW.1.1) h19 h20 (hW.2.2.2.1.keep (fun j _ _ => h2 j (by omega) (by omega) (by omega))) hki hB' hb hn' hcd' hsz' hph' hpr h0 hc) ((h2 _ (by omega) (by omega) (by omega)).trans hW.1.1) rfl st_X6_learnOne ml_X6_209 im_X6_learnOne se_X6_learnOne rfl (Nat.le_of_ble_eq_true rfl) (by decide) (by decide) (Nat.le_of_ble_eq_true rfl) (by decide) (by decide) (Or.inl rfl) (fun E9 σ9 hq9 _ => nomatch hq9.1) (fun r9 σ1 hq9 hle9 => ?_)
                obtain ⟨h9, k19, k20, hn1, hj1⟩ := hq9
                cases h9
                clear hle9
                refine J.if_eq dX6_learn_41 (by decide) (tgt := 50) (by unfold inI; omega) (fun h7 => ?_) (fun h7 => ?_)
                · refine J.ald_n dX6_learn_50 rfl ?_
                  refine gf_X6_19 rfl dX6_learn_51 ((hj1 _ (by omega) (by omega)).trans ((h2 _ (by omega) (by omega) (by omega)).trans hW.1.1)) ?_
                  refine J.callV (rm' := rX4_clear) [] dX6_learn_54 (c_X4_clear k19) k19 rfl st_X4_clear ml_X6_71 im_X4_clear se_X4_clear rfl (Nat.le_of_ble_eq_true rfl) (by decide) (by decide) (Nat.le_of_ble_eq_true rfl) (by decide) (by decide) (Or.inl rfl) (fun E9 σ9 hq9 _ => nomatch hq9.1) (fun r9 σ9 hq9 hle9 => ?_)
                  obtain ⟨h9, h8⟩ := hq9
                  cases h9
                  subst h8
                  clear hle9
                  refine J.ild dX6_learn_57 rfl ?_
                  refine J.iret .int dX6_learn_59 rfl rfl (by decide) (by decide) ?_
                  rw [show (lnU kn kr kt pr (t + 1) d n C S P w) = (d, n, C, S, P, alF kr (lnB kn kr kt pr n S P).2.2 (lnB kn kr kt pr n S P).2.1 0 w) from (if_pos h0).trans (if_pos hc)]
                  exact ⟨rfl, hW.setBL hb (fun j q1 q2 q3 => by rw [jset_ne _ _ q2]; exact (fun j q1 q2 q3 => (hj1 j q2 q3).trans (h2 j q1 q2 q3)) j q1 q2 q3) ((hB'.keep (σ' := σ1) (fun j _ _ => hj1 j (by omega) (by omega))).keep (fun j _ _ => jset_ne _ _ (by omega))) (jset_eq _ _ _) ((jset_ne _ _ (by omega)).trans k20), (hn1.trans h1), fun j hj => (jset_ne _ _ (by omega)).trans ((fun j q1 q2 q3 => (hj1 j q2 q3).trans (h2 j q1 q2 q3)) j (by omega) (by omega) (by omega))⟩
                · exact absurd rfl h7
              · refine J.callV (rm' := rX6_learnOne) [.ref (7 + 4 * b)] dX6_learn_38 (c_learnOne_c ((h2 _ (by omega) (by omega) (by omega)).trans hW.1.1) h19 h20 (hW.2.2.2.1.keep (fun j _ _ => h2 j (by omega) (by omega) (by omega))) hki hB' hb hn' hcd' hsz' hph' hpr h0 hc hc2 hn2) ((h2 _ (by omega) (by omega) (by omega)).trans hW.1.1) rfl st_X6_learnOne ml_X6_209 im_X6_learnOne se_X6_learnOne rfl (Nat.le_of_ble_eq_true rfl) (by decide) (by decide) (Nat.le_of_ble_eq_true rfl) (by decide) (by decide) (Or.inl rfl) (fun E9 σ9 hq9 _ => nomatch hq9.1) (fun r9 σ1 hq9 hle9 => ?_)
                obtain ⟨h9, hB2, k19, k20, hn1, hj1⟩ := hq9
                cases h9
                clear hle9
                refine J.if_eq dX6_learn_41 (by decide) (tgt := 50) (by unfold inI; omega) (fun h7 => ?_) (fun h7 => ?_)
                · exact absurd h7 (by decide)
                · refine J.iinc (v := ((d + 1 : Nat) : Int)) dX6_learn_44 rfl (by first | rfl | omega) (by decide) (jnc_of rfl rfl) ?_
                  refine J.goto dX6_learn_47 (by decide) (tgt := 30) ?_
                  obtain ⟨hz1, hz2⟩ := (hki.pro (B := (lnB kn kr kt pr n S P)) rfl).2 h0
                  rw [show (lnU kn kr kt pr (t + 1) d n C S P w) = (lnU kn kr kt pr t (d + 1) (n + 1) (jup C n c) (jup S n (lnB kn kr kt pr n S P).2.2) (jcp kr P (lnB kn kr kt pr n S P).2.1 (n * 6) (lnB kn kr kt pr n S P).2.2) (alF kr (lnB kn kr kt pr n S P).2.2 (lnB kn kr kt pr n S P).2.1 0 w)) from (if_pos h0).trans ((if_neg (by omega)).trans (by rw [hc, Int.toNat_natCast]))]
                  refine ih (d + 1) (n + 1) _ _ _ _ _ σ1 (by omega) (hn1.trans h1) (fun j q1 q2 q3 => (hj1 j q1 q2 q3).trans (h2 j q1 q2 q3)) hB2 k19 k20 (by omega) (fun e => ?_) (fun e he => ?_) (fun t2 => ?_)
                  · unfold jup; split
                    · exact hc2
                    · exact hcd' e
                  · by_cases hen : e = n
                    · subst hen; rw [jup_eq]; omega
                    · rw [jup_ne _ _ hen]; exact hsz' e (by omega)
                  · unfold jcp; split
                    · exact hki.pos hz2 (by omega)
                    · exact hph' t2
            · refine J.callV (rm' := rX6_learnOne) [.ref (7 + 4 * b)] dX6_learn_38 (c_learnOne_a ((h2 _ (by omega) (by omega) (by omega)).trans hW.1.1) h19 h20 (hW.2.2.2.1.keep (fun j _ _ => h2 j (by omega) (by omega) (by omega))) hki hB' hb hn' hcd' hsz' hph' hpr h0) ((h2 _ (by omega) (by omega) (by omega)).trans hW.1.1) rfl st_X6_learnOne ml_X6_209 im_X6_learnOne se_X6_learnOne rfl (Nat.le_of_ble_eq_true rfl) (by decide) (by decide) (Nat.le_of_ble_eq_true rfl) (by decide) (by decide) (Or.inl rfl) (fun E9 σ9 hq9 _ => nomatch hq9.1) (fun r9 σ9 hq9 hle9 => ?_)
              obtain ⟨h9, h8⟩ := hq9
              cases h9
              subst h8
              clear hle9
              refine J.if_eq dX6_learn_41 (by decide) (tgt := 50) (by unfold inI; omega) (fun h7 => ?_) (fun h7 => ?_)
              · refine J.ald_n dX6_learn_50 rfl ?_
                refine gf_X6_19 rfl dX6_learn_51 ((h2 _ (by omega) (by omega) (by omega)).trans hW.1.1) ?_
                refine J.callV (rm' := rX4_clear) [] dX6_learn_54 (c_X4_clear h19) h19 rfl st_X4_clear ml_X6_71 im_X4_clear se_X4_clear rfl (Nat.le_of_ble_eq_true rfl) (by decide) (by decide) (Nat.le_of_ble_eq_true rfl) (by decide) (by decide) (Or.inl rfl) (fun E9 σ9 hq9 _ => nomatch hq9.1) (fun r9 σ9 hq9 hle9 => ?_)
                obtain ⟨h9, h8⟩ := hq9
                cases h9
                subst h8
                clear hle9
                refine J.ild dX6_learn_57 rfl ?_
                refine J.iret .int dX6_learn_59 rfl rfl (by decide) (by decide) ?_
                rw [show (lnU kn kr kt pr (t + 1) d n C S P w) = (d, n, C, S, P, w) from if_neg h0]
                exact ⟨rfl, hW.setBL hb (fun j q1 q2 q3 => by rw [jset_ne _ _ q2]; exact h2 j q1 q2 q3) (hB'.keep (fun j _ _ => jset_ne _ _ (by omega))) (jset_eq _ _ _) ((jset_ne _ _ (by omega)).trans h20), h1, fun j hj => (jset_ne _ _ (by omega)).trans (h2 j (by omega) (by omega) (by omega))⟩
              · exact absurd rfl h7
      exact L m 0 (bn b) ln (cd b) (sz b) (ph b) lw σ (by omega) rfl (fun _ _ _ _ => rfl) hB hW.2.2.1.1 hW.2.2.1.2 hbn hcd hsz hph
    · omega
def dgB (n : Nat) (cd sz : Nat → Nat) (ph : Nat → Int) (d : Int) : Int := bmU cd sz ph n 0 (d * 31 + ((n : Nat) : Int))