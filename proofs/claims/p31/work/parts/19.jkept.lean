/-! ===== kept lines: places 21 to 30 ===== -/
theorem alN_eq : ∀ (k n : Nat), n + k ≤ 40 → alN k n = n + k
  | 0, _, _ => rfl
  | k + 1, n, h => by
    show alN k (apN n) = _
    rw [show apN n = n + 1 from if_pos (by omega), alN_eq k (n + 1) (by omega)]
    omega
theorem alF_eq {g : Nat → Int} : ∀ (k s n : Nat) (f : Nat → Int) (t : Nat), n + k ≤ 40 → alF g k s n f t = if n ≤ t ∧ t < n + k then g (s + (t - n)) else f t
  | 0, s, n, f, t, _ => by
    rw [if_neg (by omega)]
    rfl
  | k + 1, s, n, f, t, h => by
    show alF g k (s + 1) (apN n) (apF n f (g s)) t = _
    rw [show apN n = n + 1 from if_pos (by omega), show apF n f (g s) = jup f n (g s) from if_pos (by omega), alF_eq k (s + 1) (n + 1) _ t (by omega)]
    by_cases h1 : n + 1 ≤ t ∧ t < n + 1 + k
    · rw [if_pos h1, if_pos (by omega), show s + 1 + (t - (n + 1)) = s + (t - n) by omega]
    · rw [if_neg h1]
      by_cases h2 : t = n
      · subst h2; rw [jup_eq, if_pos (by omega), show s + (t - t) = s by omega]
      · rw [jup_ne _ _ h2, if_neg (by omega)]
def ffU (kr : Nat → Int) (k a : Nat) : Nat → Nat → Nat
  | 0, _ => a
  | t + 1, f => if smU kr kr k f a = true then f else ffU kr k a t (f + 1)
def ffn (kr : Nat → Int) (k a : Nat) : Nat := ffU kr k a a 0
theorem ffU_le {kr : Nat → Int} {k a : Nat} : ∀ (t f : Nat), f + t ≤ a → ffU kr k a t f ≤ a
  | 0, _, _ => Nat.le_refl _
  | t + 1, f, h => by
    show (if _ then f else ffU kr k a t (f + 1)) ≤ a
    by_cases h1 : smU kr kr k f a = true
    · rw [if_pos h1]; omega
    · rw [if_neg h1]; exact ffU_le t (f + 1) (by omega)
theorem ffn_le {kr : Nat → Int} {k a : Nat} : ffn kr k a ≤ a := ffU_le a 0 (by omega)
def cpU (kr : Nat → Int) (k e : Nat) : Nat → Nat → (Nat → Int) → (Nat → Nat) → (Nat → Int)
  | 0, _, tt, _ => tt
  | t + 1, a, tt, fr => if a + k ≤ e then (if fr (ffn kr k a) ≤ a then cpU kr k e t (a + 1) (jup tt (ffn kr k a) (tt (ffn kr k a) + 1)) (jup fr (ffn kr k a) (a + k)) else cpU kr k e t (a + 1) tt fr) else tt
def prS (tt : Nat → Int) (no : Nat → Bool) (k : Nat) (pr : Int) : Nat → Nat → (Int × Nat × Nat) → Int × Nat × Nat
  | 0, _, b => b
  | t + 1, a, b => prS tt no k pr t (a + 1) (if 2 ≤ tt a ∧ b.1 < tt a * (((k : Nat) : Int) * pr - 1) ∧ no a = false then (tt a * (((k : Nat) : Int) * pr - 1), a, k) else b)
def prO (kt : Nat → Nat → Int) (no : Nat → Nat → Bool) (pr : Int) (N : Nat) : Nat → Nat → (Int × Nat × Nat) → Int × Nat × Nat
  | 0, _, b => b
  | t + 1, k, b => prO kt no pr N t (k + 1) (prS (kt (k - 2)) (no k) k pr N 0 b)
def kmU (kr : Nat → Int) (ks : Nat → Nat) : Nat → Nat → Int → Int
  | 0, _, d => d
  | t + 1, a, d => kmU kr ks t (a + 1) (mxF kr (ks a) (a * 41) (d * 31 + ((ks a : Nat) : Int)))
def KP (σ : jS) (kn : Nat) (kr : Nat → Int) (ks : Nat → Nat) (kt : Nat → Nat → Int) : Prop :=
  σ.2 21 = jO 2 [.ref 22, .ref 23, .ref 24, .ref 30, vI ((kn : Nat) : Int)] ∧ σ.2 22 = jI 492 kr ∧ σ.2 23 = jI 12 (fun e => ((ks e : Nat) : Int)) ∧ (∃ gT : Nat → Option Nat, σ.2 24 = jQ 1 5 gT ∧ ∀ s, s < 5 → gT s = some (25 + s)) ∧ (∀ s, s < 5 → σ.2 (25 + s) = jI 492 (kt s)) ∧ ∃ fr : Nat → Nat, σ.2 30 = jI 492 (fun e => ((fr e : Nat) : Int)) ∧ ∀ j, 492 ≤ j → fr j = 0
theorem KP.keep {σ σ' : jS} {kn : Nat} {kr : Nat → Int} {ks : Nat → Nat} {kt : Nat → Nat → Int} (h : KP σ kn kr ks kt) (h' : ∀ j, 21 ≤ j → j ≤ 30 → σ'.2 j = σ.2 j) : KP σ' kn kr ks kt := by
  obtain ⟨a, b, c, ⟨gT, d, hgT⟩, e, fr, f, g⟩ := h
  exact ⟨(h' _ (by omega) (by omega)).trans a, (h' _ (by omega) (by omega)).trans b, (h' _ (by omega) (by omega)).trans c, ⟨gT, (h' _ (by omega) (by omega)).trans d, hgT⟩, fun s hs => (h' _ (by omega) (by omega)).trans (e s hs), fr, (h' _ (by omega) (by omega)).trans f, g⟩
theorem sv_bd {x pr : Int} {k : Nat} (hx : 0 ≤ x ∧ x ≤ 1000) (hpr : 1 ≤ pr ∧ pr ≤ 5) (hk : 2 ≤ k ∧ k ≤ 6) : (2 ≤ ((k : Nat) : Int) * pr ∧ ((k : Nat) : Int) * pr ≤ 30) ∧ 0 ≤ x * (((k : Nat) : Int) * pr - 1) ∧ x * (((k : Nat) : Int) * pr - 1) ≤ 29000 := by
  have h1 : (2 : Int) * 1 ≤ ((k : Nat) : Int) * pr := Int.mul_le_mul (by omega) hpr.1 (by omega) (by omega)
  have h2 : ((k : Nat) : Int) * pr ≤ 6 * 5 := Int.mul_le_mul (by omega) hpr.2 (by omega) (by omega)
  have h3 : 0 ≤ x * (((k : Nat) : Int) * pr - 1) := Int.mul_nonneg hx.1 (by omega)
  have h4 : x * (((k : Nat) : Int) * pr - 1) ≤ 1000 * 29 := Int.mul_le_mul hx.2 (by omega) (by omega) (by omega)
  omega
set_option maxRecDepth 20000 in
theorem c_X3_startOf {X : jX} {σ : jS} {o e : Nat}  : JM X mX3_startOf rX3_startOf [.ref o, vI ((e : Nat) : Int)] σ (jEnd (oI ((e * 41 : Nat) : Int)) σ) := by
  refine JM.of (lc := [.ref o, vI ((e : Nat) : Int)]) rfl ?_
  refine J.ild_n dX3_startOf_0 rfl ?_
  refine J.bipush dX3_startOf_1 (by decide) ?_
  refine J.imul dX3_startOf_3 ?_
  rw [show (((e : Nat) : Int) : Int) * 41 = ((e * 41 : Nat) : Int) from by push_cast; rfl]
  refine J.iret .int dX3_startOf_4 rfl rfl (by decide) (by decide) ?_
  exact ⟨rfl, rfl⟩
set_option maxRecDepth 20000 in
theorem c_X3_firstFinding {X : jX} {σ : jS} {kn : Nat} {kr : Nat → Int} {a k : Nat} (kO : σ.2 21 = jO 2 [.ref 22, .ref 23, .ref 24, .ref 30, vI ((kn : Nat) : Int)]) (kR : σ.2 22 = jI 492 kr) (hkr : ∀ t, t < 492 → inI (kr t)) (hak : a + k ≤ 492) : JM X mX3_firstFinding rX3_firstFinding [.ref 21, vI ((a : Nat) : Int), vI ((k : Nat) : Int)] σ (jEnd (oI ((ffn kr k a : Nat) : Int)) σ) := by
  refine JM.of (lc := [.ref 21, vI ((a : Nat) : Int), vI ((k : Nat) : Int), .null]) rfl ?_
  refine J.iconst dX3_firstFinding_0 ?_
  refine J.ist_n dX3_firstFinding_1 (by decide) (jnc_of rfl rfl) ?_
  have L : ∀ (t : Nat), ∀ (f : Nat), f + t = a → J X mX3_firstFinding rX3_firstFinding 2 [.ref 21, vI ((a : Nat) : Int), vI ((k : Nat) : Int), vI ((f : Nat) : Int)] [] 0 0 σ (jEnd (oI ((ffU kr k a t f : Nat) : Int)) σ) := by
    intro t
    induction t with
    | zero =>
      intro f hf
      refine J.ild_n dX3_firstFinding_2 rfl ?_
      refine J.ild_n dX3_firstFinding_3 rfl ?_
      refine J.icmp_ge dX3_firstFinding_4 (by decide) (tgt := 32) (by unfold inI; omega) (by unfold inI; omega) (fun h => ?_) (fun h => ?_)
      · refine J.ild_n dX3_firstFinding_32 rfl ?_
        refine J.iret .int dX3_firstFinding_33 rfl rfl (by decide) (by decide) ?_
        exact ⟨rfl, rfl⟩
      · omega
    | succ t ih =>
      intro f hf
      refine J.ild_n dX3_firstFinding_2 rfl ?_
      refine J.ild_n dX3_firstFinding_3 rfl ?_
      refine J.icmp_ge dX3_firstFinding_4 (by decide) (tgt := 32) (by unfold inI; omega) (by unfold inI; omega) (fun h => ?_) (fun h => ?_)
      · omega
      · refine J.ald_n dX3_firstFinding_7 rfl ?_
        refine gf_X3_11 rfl dX3_firstFinding_8 kO ?_
        refine J.ild_n dX3_firstFinding_11 rfl ?_
        refine J.ald_n dX3_firstFinding_12 rfl ?_
        refine gf_X3_11 rfl dX3_firstFinding_13 kO ?_
        refine J.ild_n dX3_firstFinding_16 rfl ?_
        refine J.ild_n dX3_firstFinding_17 rfl ?_
        refine J.callSN (rm' := rX6_sameWords) [.ref 22, vI ((f : Nat) : Int), .ref 22, vI ((a : Nat) : Int), vI ((k : Nat) : Int)] dX3_firstFinding_18 (c_X6_sameWords kR kR (by omega) (by omega) (by omega) hak hkr hkr) st_X6_sameWords ml_X3_58 sm_X6_sameWords rfl (Nat.le_of_ble_eq_true rfl) (by decide) (by decide) (Nat.le_of_ble_eq_true rfl) (by decide) (by decide) (fun E9 σ9 hq9 => nomatch hq9.1) (fun r9 σ9 hq9 hle9 => ?_)
        obtain ⟨h9, h8⟩ := hq9
        rw [h8]
        clear hle9 h8 σ9
        cases h9
        by_cases hs : smU kr kr k f a = true
        · rw [show bN (smU kr kr k f a) = 1 from if_pos hs]
          refine J.if_eq dX3_firstFinding_21 (by decide) (tgt := 26) (by unfold inI; omega) (fun h2 => ?_) (fun h2 => ?_)
          · exact absurd h2 (by decide)
          · refine J.ild_n dX3_firstFinding_24 rfl ?_
            refine J.iret .int dX3_firstFinding_25 rfl rfl (by decide) (by decide) ?_
            exact ⟨by rw [show ffU kr k a (t + 1) f = f from if_pos hs], rfl⟩
        · rw [show bN (smU kr kr k f a) = 0 from if_neg hs]
          refine J.if_eq dX3_firstFinding_21 (by decide) (tgt := 26) (by unfold inI; omega) (fun h2 => ?_) (fun h2 => ?_)
          · refine J.iinc (v := ((f + 1 : Nat) : Int)) dX3_firstFinding_26 rfl (by first | rfl | omega) (by decide) (jnc_of rfl rfl) ?_
            refine J.goto dX3_firstFinding_29 (by decide) (tgt := 2) ?_
            rw [show ffU kr k a (t + 1) f = ffU kr k a t (f + 1) from if_neg hs]
            exact ih (f + 1) (by omega)
          · exact absurd rfl h2
  exact L a 0 (by omega)
set_option maxRecDepth 20000 in
theorem c_X3_countPhrases {X : jX} {σ : jS} {kn : Nat} {kr : Nat → Int} {gT : Nat → Option Nat} {k a0 e : Nat} {tt : Nat → Int} {fr0 : Nat → Nat} (kO : σ.2 21 = jO 2 [.ref 22, .ref 23, .ref 24, .ref 30, vI ((kn : Nat) : Int)]) (kR : σ.2 22 = jI 492 kr) (kT : σ.2 24 = jQ 1 5 gT) (hgT : ∀ s, s < 5 → gT s = some (25 + s)) (kX : σ.2 (25 + (k - 2)) = jI 492 tt) (kF : σ.2 30 = jI 492 (fun e => ((fr0 e : Nat) : Int))) (hfr0 : ∀ j, 492 ≤ j → fr0 j = 0) (hkr : ∀ t, t < 492 → inI (kr t)) (hk : 2 ≤ k ∧ k ≤ 6) (hae : a0 ≤ e) (he : e ≤ 492) : JM X mX3_countPhrases rX3_countPhrases [.ref 21, vI ((k : Nat) : Int), vI ((a0 : Nat) : Int), vI ((e : Nat) : Int)] σ (fun o σ1 => o = oV ∧ (∃ fr : Nat → Nat, σ1.2 30 = jI 492 (fun e => ((fr e : Nat) : Int)) ∧ ∀ j, 492 ≤ j → fr j = 0) ∧ σ1.2 (25 + (k - 2)) = jI 492 (cpU kr k e (e - a0) a0 tt (fun _ => 0)) ∧ σ1.1 = σ.1 ∧ ∀ j, j ≠ 30 → j ≠ 25 + (k - 2) → σ1.2 j = σ.2 j) := by
  refine JM.of (lc := [.ref 21, vI ((k : Nat) : Int), vI ((a0 : Nat) : Int), vI ((e : Nat) : Int), .null, .null, .null]) rfl ?_
  refine J.ald_n dX3_countPhrases_0 rfl ?_
  refine gf_X3_20 rfl dX3_countPhrases_1 kO ?_
  refine J.ild_n dX3_countPhrases_4 rfl ?_
  refine J.iconst dX3_countPhrases_5 ?_
  refine J.isub dX3_countPhrases_6 ?_
  rw [show ((k : Nat) : Int) - 2 = ((k - 2 : Nat) : Int) from by omega]
  refine J.aaldI (q := 25 + (k - 2)) (k - 2) dX3_countPhrases_7 kT rfl (by omega) (by omega) (hgT (k - 2) (by omega)) ?_
  refine J.ast dX3_countPhrases_8 (by decide) (jnc_of rfl rfl) ?_
  refine J.ald_n dX3_countPhrases_10 rfl ?_
  refine gf_X3_23 rfl dX3_countPhrases_11 kO ?_
  refine J.iconst dX3_countPhrases_14 ?_
  refine J.callS (rm' := rJ7_fill_53178) [.ref 30, vI 0] dX3_countPhrases_15 (c_J7_fill kF (by omega) (by omega)) st_J7_fill_53178 ml_X3_26 sm_J7_fill_53178 rfl (Nat.le_of_ble_eq_true rfl) (by decide) (by decide) (Nat.le_of_ble_eq_true rfl) (by decide) (by decide) (Or.inl rfl) (fun E9 σ9 hq9 _ => nomatch hq9.1) (fun r9 σ9 hq9 hle9 => ?_)
  obtain ⟨h9, rfl⟩ := hq9
  cases h9
  clear hle9
  refine J.ild_n dX3_countPhrases_18 rfl ?_
  refine J.ist dX3_countPhrases_19 (by decide) (jnc_of rfl rfl) ?_
  have L : ∀ (t a : Nat) (σ' : jS) (tt : Nat → Int) (fr : Nat → Nat) (u : Value), a + t = e → u.category = 1 → σ'.1 = σ.1 → (∀ j, j ≠ 30 → j ≠ 25 + (k - 2) → σ'.2 j = σ.2 j) → σ'.2 (25 + (k - 2)) = jI 492 tt → σ'.2 30 = jI 492 (fun e => ((fr e : Nat) : Int)) → (∀ j, fr j ≤ 1000) → (∀ j, 492 ≤ j → fr j = 0) → J X mX3_countPhrases rX3_countPhrases 21 [.ref 21, vI ((k : Nat) : Int), vI ((a0 : Nat) : Int), vI ((e : Nat) : Int), .ref (25 + (k - 2)), vI ((a : Nat) : Int), u] [] 0 0 σ' (fun o σ1 => o = oV ∧ (∃ fr : Nat → Nat, σ1.2 30 = jI 492 (fun e => ((fr e : Nat) : Int)) ∧ ∀ j, 492 ≤ j → fr j = 0) ∧ σ1.2 (25 + (k - 2)) = jI 492 (cpU kr k e t a tt fr) ∧ σ1.1 = σ.1 ∧ ∀ j, j ≠ 30 → j ≠ 25 + (k - 2) → σ1.2 j = σ.2 j) := by
    intro t
    induction t with
    | zero =>
      intro a σ' tt fr u ha hu h1 h2 h3 h4 h5 h6
      refine J.ild dX3_countPhrases_21 rfl ?_
      refine J.ild_n dX3_countPhrases_23 rfl ?_
      refine J.iadd dX3_countPhrases_24 ?_
      rw [show (((a : Nat) : Int) : Int) + ((k : Nat) : Int) = ((a + k : Nat) : Int) from by push_cast; rfl]
      refine J.ild_n dX3_countPhrases_25 rfl ?_
      refine J.icmp_gt dX3_countPhrases_26 (by decide) (tgt := 76) (by unfold inI; omega) (by unfold inI; omega) (fun h => ?_) (fun h => ?_)
      · refine J.vret dX3_countPhrases_76 rfl (by decide) (by decide) ?_
        refine ⟨rfl, ⟨fr, h4, h6⟩, ?_, h1, h2⟩
        exact h3
      · omega
    | succ t ih =>
      intro a σ' tt fr u ha hu h1 h2 h3 h4 h5 h6
      refine J.ild dX3_countPhrases_21 rfl ?_
      refine J.ild_n dX3_countPhrases_23 rfl ?_
      refine J.iadd dX3_countPhrases_24 ?_
      rw [show (((a : Nat) : Int) : Int) + ((k : Nat) : Int) = ((a + k : Nat) : Int) from by push_cast; rfl]
      refine J.ild_n dX3_countPhrases_25 rfl ?_
      refine J.icmp_gt dX3_countPhrases_26 (by decide) (tgt := 76) (by unfold inI; omega) (by unfold inI; omega) (fun h => ?_) (fun h => ?_)
      · refine J.vret dX3_countPhrases_76 rfl (by decide) (by decide) ?_
        refine ⟨rfl, ⟨fr, h4, h6⟩, ?_, h1, h2⟩
        rw [show cpU kr k e (t + 1) a tt fr = tt from if_neg (by omega)]; exact h3
      · have hff : ffn kr k a ≤ a := ffn_le
        have hfr := h5 (ffn kr k a)
        refine J.ald_n dX3_countPhrases_29 rfl ?_
        refine J.ild dX3_countPhrases_30 rfl ?_
        refine J.ild_n dX3_countPhrases_32 rfl ?_
        refine J.callV (rm' := rX3_firstFinding) [vI ((a : Nat) : Int), vI ((k : Nat) : Int)] dX3_countPhrases_33 (c_X3_firstFinding ((h2 _ (by omega) (by omega)).trans kO) ((h2 _ (by omega) (by omega)).trans kR) hkr (by omega)) ((h2 _ (by omega) (by omega)).trans kO) rfl st_X3_firstFinding ml_X3_54 im_X3_firstFinding se_X3_firstFinding rfl (Nat.le_of_ble_eq_true rfl) (by decide) (by decide) (Nat.le_of_ble_eq_true rfl) (by decide) (by decide) (Or.inl rfl) (fun E9 σ9 hq9 _ => nomatch hq9.1) (fun r9 σ9 hq9 hle9 => ?_)
        obtain ⟨h9, h8⟩ := hq9
        rw [h8]
        clear hle9 h8 σ9
        cases h9
        refine J.ist dX3_countPhrases_36 (by decide) (jnc_of rfl rfl) ?_
        refine J.ild dX3_countPhrases_38 rfl ?_
        refine J.ald_n dX3_countPhrases_40 rfl ?_
        refine gf_X3_23 rfl dX3_countPhrases_41 ((h2 _ (by omega) (by omega)).trans kO) ?_
        refine J.ild dX3_countPhrases_44 rfl ?_
        refine J.iald (ffn kr k a) dX3_countPhrases_46 h4 rfl (by omega) (by omega) ?_
        refine J.icmp_lt dX3_countPhrases_47 (by decide) (tgt := 70) (by unfold inI; omega) (by unfold inI; omega) (fun h7 => ?_) (fun h7 => ?_)
        · refine J.iinc (v := ((a + 1 : Nat) : Int)) dX3_countPhrases_70 rfl (by first | rfl | omega) (by decide) (jnc_of rfl rfl) ?_
          refine J.goto dX3_countPhrases_73 (by decide) (tgt := 21) ?_
          rw [show cpU kr k e (t + 1) a tt fr = cpU kr k e t (a + 1) tt fr from (if_pos (by omega)).trans (if_neg (by omega))]
          exact ih (a + 1) σ' tt fr _ (by omega) rfl h1 h2 h3 h4 h5 h6
        · refine J.ald dX3_countPhrases_50 rfl ?_
          refine J.ild dX3_countPhrases_52 rfl ?_
          refine J.dup2 dX3_countPhrases_54 rfl rfl ?_
          refine J.iald (ffn kr k a) dX3_countPhrases_55 h3 rfl (by omega) (by omega) ?_
          refine J.iconst dX3_countPhrases_56 ?_
          refine J.iadd dX3_countPhrases_57 ?_
          refine J.iast (ffn kr k a) dX3_countPhrases_58 h3 (by omega) rfl (by omega) (by omega) ?_
          refine J.ald_n dX3_countPhrases_59 rfl ?_
          refine gf_X3_23 rfl dX3_countPhrases_60 ((jset_ne _ _ (by omega)).trans ((h2 _ (by omega) (by omega)).trans kO)) ?_
          refine J.ild dX3_countPhrases_63 rfl ?_
          refine J.ild dX3_countPhrases_65 rfl ?_
          refine J.ild_n dX3_countPhrases_67 rfl ?_
          refine J.iadd dX3_countPhrases_68 ?_
          rw [show (((a : Nat) : Int) : Int) + ((k : Nat) : Int) = ((a + k : Nat) : Int) from by push_cast; rfl]
          refine J.iast (ffn kr k a) dX3_countPhrases_69 ((jset_ne _ _ (by omega)).trans h4) (by omega) rfl (by omega) (by omega) ?_
          refine J.iinc (v := ((a + 1 : Nat) : Int)) dX3_countPhrases_70 rfl (by first | rfl | omega) (by decide) (jnc_of rfl rfl) ?_
          refine J.goto dX3_countPhrases_73 (by decide) (tgt := 21) ?_
          rw [show cpU kr k e (t + 1) a tt fr = cpU kr k e t (a + 1) (jup tt (ffn kr k a) (tt (ffn kr k a) + 1)) (jup fr (ffn kr k a) (a + k)) from (if_pos (by omega)).trans (if_pos (by omega))]
          refine ih (a + 1) _ _ _ _ (by omega) rfl h1 (fun j q1 q2 => by rw [jset_ne _ _ q1, jset_ne _ _ q2]; exact h2 j q1 q2) ((jset_ne _ _ (by omega)).trans (jset_eq _ _ _)) (by rw [← jup_cast]; exact (jset_eq _ _ _)) (fun j => ?_) (fun j hj => ?_)
          · unfold jup; split
            · omega
            · exact h5 j
          · rw [jup_ne _ _ (by omega)]; exact h6 j hj
  have hz : flF (fun e => ((fr0 e : Nat) : Int)) 492 0 = fun e => (((fun _ => 0 : Nat → Nat) e : Nat) : Int) := funext fun j => by
    unfold flF
    by_cases hj : j < 492
    · rw [if_pos hj]; rfl
    · rw [if_neg hj]; show ((fr0 j : Nat) : Int) = 0; rw [hfr0 j (by omega)]; rfl
  rw [hz]
  exact L (e - a0) a0 _ _ _ _ (by omega) rfl rfl (fun j q1 q2 => jset_ne _ _ q1) ((jset_ne _ _ (by omega)).trans kX) (jset_eq _ _ _) (fun _ => Nat.zero_le _) (fun _ _ => rfl)
set_option maxRecDepth 20000 in
theorem c_X3_add {X : jX} {σ : jS} {kn : Nat} {kr : Nat → Int} {ks : Nat → Nat} {kt : Nat → Nat → Int} {l r m : Nat} {w : Nat → Int} (hK : KP σ kn kr ks kt) (hkn : kn < 12) (eL : σ.2 l = jO 3 [.ref r, vI ((m : Nat) : Int)]) (eR : σ.2 r = jI 40 w) (hm : m ≤ 40) (hl : l < 21 ∨ 30 < l) (hr : r < 21 ∨ 30 < r) (h5r : 5 ≤ r) (hw : ∀ t, t < 40 → inI (w t)) (hkr : ∀ t, t < 492 → inI (kr t)) : JM X mX3_add rX3_add [.ref 21, .ref l] σ (fun o σ1 => o = oV ∧ KP σ1 (kn + 1) (jcp w kr 0 (kn * 41) m) (jup ks kn m) (fun s => cpU (jcp w kr 0 (kn * 41) m) (s + 2) (kn * 41 + m) m (kn * 41) (kt s) (fun _ => 0)) ∧ σ1.1 = σ.1 ∧ ∀ j, (j < 21 ∨ 30 < j) → σ1.2 j = σ.2 j) := by
  refine JM.of (lc := [.ref 21, .ref l, .null, .null]) rfl ?_
  obtain ⟨fr0, kF, hfr0⟩ := hK.2.2.2.2.2
  obtain ⟨gT, kT, hgT⟩ := hK.2.2.2.1
  refine J.ald_n dX3_add_0 rfl ?_
  refine gf_X3_32 rfl dX3_add_1 hK.1 ?_
  refine J.bipush dX3_add_4 (by decide) ?_
  refine J.icmp_lt dX3_add_6 (by decide) (tgt := 10) (by unfold inI; omega) (by unfold inI; omega) (fun h => ?_) (fun h => ?_)
  · refine J.ald_n dX3_add_10 rfl ?_
    refine J.ald_n dX3_add_11 rfl ?_
    refine gf_X3_32 rfl dX3_add_12 hK.1 ?_
    refine J.callV (rm' := rX3_startOf) [vI ((kn : Nat) : Int)] dX3_add_15 (c_X3_startOf) hK.1 rfl st_X3_startOf ml_X3_36 im_X3_startOf se_X3_startOf rfl (Nat.le_of_ble_eq_true rfl) (by decide) (by decide) (Nat.le_of_ble_eq_true rfl) (by decide) (by decide) (Or.inl rfl) (fun E9 σ9 hq9 _ => nomatch hq9.1) (fun r9 σ9 hq9 hle9 => ?_)
    obtain ⟨h9, h8⟩ := hq9
    rw [h8]
    clear hle9 h8 σ9
    cases h9
    refine J.ist_n dX3_add_18 (by decide) (jnc_of rfl rfl) ?_
    refine J.ald_n dX3_add_19 rfl ?_
    refine gf_X3_40 rfl dX3_add_20 eL ?_
    refine J.iconst dX3_add_23 ?_
    refine J.ald_n dX3_add_24 rfl ?_
    refine gf_X3_11 rfl dX3_add_25 hK.1 ?_
    refine J.ild_n dX3_add_28 rfl ?_
    refine J.ald_n dX3_add_29 rfl ?_
    refine gf_X3_43 rfl dX3_add_30 eL ?_
    refine J.acopy 0 (kn * 41) m dX3_add_33 ml_X3_44 na_acopy sm_acopy ini_java_lang_System eR hK.2.1 (by omega) (by omega) rfl rfl rfl (by omega) (by omega) (by omega) (by omega) (by decide) (Nat.le_of_ble_eq_true rfl) ?_
    refine J.ald_n dX3_add_36 rfl ?_
    refine gf_X3_15 rfl dX3_add_37 ((jset_ne _ _ (by omega)).trans hK.1) ?_
    refine J.ald_n dX3_add_40 rfl ?_
    refine gf_X3_32 rfl dX3_add_41 ((jset_ne _ _ (by omega)).trans hK.1) ?_
    refine J.ald_n dX3_add_44 rfl ?_
    refine gf_X3_43 rfl dX3_add_45 ((jset_ne _ _ (by omega)).trans eL) ?_
    refine J.iast kn dX3_add_48 ((jset_ne _ _ (by omega)).trans hK.2.2.1) (by omega) rfl (by omega) (by omega) ?_
    refine J.ald_n dX3_add_49 rfl ?_
    refine J.dup dX3_add_50 rfl ?_
    refine gf_X3_32 rfl dX3_add_51 ((jset_ne _ _ (by omega)).trans ((jset_ne _ _ (by omega)).trans hK.1)) ?_
    refine J.iconst dX3_add_54 ?_
    refine J.iadd dX3_add_55 ?_
    rw [show (((kn : Nat) : Int) : Int) + 1 = ((kn + 1 : Nat) : Int) from by push_cast; rfl]
    refine pf_X3_32 rfl dX3_add_56 ((jset_ne _ _ (by omega)).trans ((jset_ne _ _ (by omega)).trans hK.1)) ?_
    refine J.iconst dX3_add_59 ?_
    refine J.ist_n dX3_add_60 (by decide) (jnc_of rfl rfl) ?_
    have hkr2 : ∀ t, t < 492 → inI ((jcp w kr 0 (kn * 41) m) t) := fun t ht => by
      unfold jcp
      by_cases h1 : kn * 41 ≤ t ∧ t < kn * 41 + m
      · rw [if_pos h1]; exact hw _ (by omega)
      · rw [if_neg h1]; exact hkr t ht
    refine J.ild_n dX3_add_61 rfl ?_
    refine J.bipush dX3_add_62 (by decide) ?_
    refine J.icmp_gt dX3_add_64 (by decide) (tgt := 85) (by unfold inI; omega) (by unfold inI; omega) (fun hg0 => ?_) (fun hg0 => ?_)
    · omega
    · refine J.ald_n dX3_add_67 rfl ?_
      refine J.ild_n dX3_add_68 rfl ?_
      refine J.ild_n dX3_add_69 rfl ?_
      refine J.ild_n dX3_add_70 rfl ?_
      refine J.ald_n dX3_add_71 rfl ?_
      refine gf_X3_43 rfl dX3_add_72 ((jset_ne _ _ (by omega)).trans ((jset_ne _ _ (by omega)).trans ((jset_ne _ _ (by omega)).trans eL))) ?_
      refine J.iadd dX3_add_75 ?_
      rw [show (((kn * 41 : Nat) : Int) : Int) + ((m : Nat) : Int) = (((kn * 41) + m : Nat) : Int) from by push_cast; rfl]
      refine J.callV (rm' := rX3_countPhrases) [vI 2, vI ((kn * 41 : Nat) : Int), vI (((kn * 41) + m : Nat) : Int)] dX3_add_76 (c_X3_countPhrases (k := 2) (a0 := kn * 41) (e := kn * 41 + m) (jset_eq _ _ _) ((jset_ne _ _ (by omega)).trans ((jset_ne _ _ (by omega)).trans (jset_eq _ _ _))) ((jset_ne _ _ (by omega)).trans ((jset_ne _ _ (by omega)).trans ((jset_ne _ _ (by omega)).trans kT))) hgT ((jset_ne _ _ (by omega)).trans ((jset_ne _ _ (by omega)).trans ((jset_ne _ _ (by omega)).trans (hK.2.2.2.2.1 0 (by omega))))) ((jset_ne _ _ (by omega)).trans ((jset_ne _ _ (by omega)).trans ((jset_ne _ _ (by omega)).trans kF))) hfr0 hkr2 (by omega) (by omega) (by omega)) (jset_eq _ _ _) rfl st_X3_countPhrases ml_X3_50 im_X3_countPhrases se_X3_countPhrases rfl (Nat.le_of_ble_eq_true rfl) (by decide) (by decide) (Nat.le_of_ble_eq_true rfl) (by decide) (by decide) (Or.inl rfl) (fun E9 σ9 hq9 _ => nomatch hq9.1) (fun r9 σ0 hq9 hle9 => ?_)
      obtain ⟨h9, ⟨fr1, kF1, hfz1⟩, hT0, hn0, hj0⟩ := hq9
      cases h9
      clear hle9
      rw [show kn * 41 + m - kn * 41 = m by omega] at hT0
      refine J.iinc (v := 3) dX3_add_79 rfl (by first | rfl | omega) (by decide) (jnc_of rfl rfl) ?_
      refine J.goto dX3_add_82 (by decide) (tgt := 61) ?_
      refine J.ild_n dX3_add_61 rfl ?_
      refine J.bipush dX3_add_62 (by decide) ?_
      refine J.icmp_gt dX3_add_64 (by decide) (tgt := 85) (by unfold inI; omega) (by unfold inI; omega) (fun hg1 => ?_) (fun hg1 => ?_)
      · omega
      · refine J.ald_n dX3_add_67 rfl ?_
        refine J.ild_n dX3_add_68 rfl ?_
        refine J.ild_n dX3_add_69 rfl ?_
        refine J.ild_n dX3_add_70 rfl ?_
        refine J.ald_n dX3_add_71 rfl ?_
        refine gf_X3_43 rfl dX3_add_72 ((hj0 _ (by omega) (by omega)).trans ((jset_ne _ _ (by omega)).trans ((jset_ne _ _ (by omega)).trans ((jset_ne _ _ (by omega)).trans eL)))) ?_
        refine J.iadd dX3_add_75 ?_
        rw [show (((kn * 41 : Nat) : Int) : Int) + ((m : Nat) : Int) = (((kn * 41) + m : Nat) : Int) from by push_cast; rfl]
        refine J.callV (rm' := rX3_countPhrases) [vI 3, vI ((kn * 41 : Nat) : Int), vI (((kn * 41) + m : Nat) : Int)] dX3_add_76 (c_X3_countPhrases (k := 3) (a0 := kn * 41) (e := kn * 41 + m) ((hj0 _ (by omega) (by omega)).trans (jset_eq _ _ _)) ((hj0 _ (by omega) (by omega)).trans ((jset_ne _ _ (by omega)).trans ((jset_ne _ _ (by omega)).trans (jset_eq _ _ _)))) ((hj0 _ (by omega) (by omega)).trans ((jset_ne _ _ (by omega)).trans ((jset_ne _ _ (by omega)).trans ((jset_ne _ _ (by omega)).trans kT)))) hgT ((hj0 _ (by omega) (by omega)).trans ((jset_ne _ _ (by omega)).trans ((jset_ne _ _ (by omega)).trans ((jset_ne _ _ (by omega)).trans (hK.2.2.2.2.1 1 (by omega)))))) kF1 hfz1 hkr2 (by omega) (by omega) (by omega)) ((hj0 _ (by omega) (by omega)).trans (jset_eq _ _ _)) rfl st_X3_countPhrases ml_X3_50 im_X3_countPhrases se_X3_countPhrases rfl (Nat.le_of_ble_eq_true rfl) (by decide) (by decide) (Nat.le_of_ble_eq_true rfl) (by decide) (by decide) (Or.inl rfl) (fun E9 σ9 hq9 _ => nomatch hq9.1) (fun r9 σ1 hq9 hle9 => ?_)
        obtain ⟨h9, ⟨fr2, kF2, hfz2⟩, hT1, hn1, hj1⟩ := hq9
        cases h9
        clear hle9
        rw [show kn * 41 + m - kn * 41 = m by omega] at hT1
        refine J.iinc (v := 4) dX3_add_79 rfl (by first | rfl | omega) (by decide) (jnc_of rfl rfl) ?_
        refine J.goto dX3_add_82 (by decide) (tgt := 61) ?_
        refine J.ild_n dX3_add_61 rfl ?_
        refine J.bipush dX3_add_62 (by decide) ?_
        refine J.icmp_gt dX3_add_64 (by decide) (tgt := 85) (by unfold inI; omega) (by unfold inI; omega) (fun hg2 => ?_) (fun hg2 => ?_)
        · omega
        · refine J.ald_n dX3_add_67 rfl ?_
          refine J.ild_n dX3_add_68 rfl ?_
          refine J.ild_n dX3_add_69 rfl ?_
          refine J.ild_n dX3_add_70 rfl ?_
          refine J.ald_n dX3_add_71 rfl ?_
          refine gf_X3_43 rfl dX3_add_72 ((hj1 _ (by omega) (by omega)).trans ((hj0 _ (by omega) (by omega)).trans ((jset_ne _ _ (by omega)).trans ((jset_ne _ _ (by omega)).trans ((jset_ne _ _ (by omega)).trans eL))))) ?_
          refine J.iadd dX3_add_75 ?_
          rw [show (((kn * 41 : Nat) : Int) : Int) + ((m : Nat) : Int) = (((kn * 41) + m : Nat) : Int) from by push_cast; rfl]
          refine J.callV (rm' := rX3_countPhrases) [vI 4, vI ((kn * 41 : Nat) : Int), vI (((kn * 41) + m : Nat) : Int)] dX3_add_76 (c_X3_countPhrases (k := 4) (a0 := kn * 41) (e := kn * 41 + m) ((hj1 _ (by omega) (by omega)).trans ((hj0 _ (by omega) (by omega)).trans (jset_eq _ _ _))) ((hj1 _ (by omega) (by omega)).trans ((hj0 _ (by omega) (by omega)).trans ((jset_ne _ _ (by omega)).trans ((jset_ne _ _ (by omega)).trans (jset_eq _ _ _))))) ((hj1 _ (by omega) (by omega)).trans ((hj0 _ (by omega) (by omega)).trans ((jset_ne _ _ (by omega)).trans ((jset_ne _ _ (by omega)).trans ((jset_ne _ _ (by omega)).trans kT))))) hgT ((hj1 _ (by omega) (by omega)).trans ((hj0 _ (by omega) (by omega)).trans ((jset_ne _ _ (by omega)).trans ((jset_ne _ _ (by omega)).trans ((jset_ne _ _ (by omega)).trans (hK.2.2.2.2.1 2 (by omega))))))) kF2 hfz2 hkr2 (by omega) (by omega) (by omega)) ((hj1 _ (by omega) (by omega)).trans ((hj0 _ (by omega) (by omega)).trans (jset_eq _ _ _))) rfl st_X3_countPhrases ml_X3_50 im_X3_countPhrases se_X3_countPhrases rfl (Nat.le_of_ble_eq_true rfl) (by decide) (by decide) (Nat.le_of_ble_eq_true rfl) (by decide) (by decide) (Or.inl rfl) (fun E9 σ9 hq9 _ => nomatch hq9.1) (fun r9 σ2 hq9 hle9 => ?_)
          obtain ⟨h9, ⟨fr3, kF3, hfz3⟩, hT2, hn2, hj2⟩ := hq9
          cases h9
          clear hle9
          rw [show kn * 41 + m - kn * 41 = m by omega] at hT2
          refine J.iinc (v := 5) dX3_add_79 rfl (by first | rfl | omega) (by decide) (jnc_of rfl rfl) ?_
          refine J.goto dX3_add_82 (by decide) (tgt := 61) ?_
          refine J.ild_n dX3_add_61 rfl ?_
          refine J.bipush dX3_add_62 (by decide) ?_
          refine J.icmp_gt dX3_add_64 (by decide) (tgt := 85) (by unfold inI; omega) (by unfold inI; omega) (fun hg3 => ?_) (fun hg3 => ?_)
          · omega
          · refine J.ald_n dX3_add_67 rfl ?_
            refine J.ild_n dX3_add_68 rfl ?_
            refine J.ild_n dX3_add_69 rfl ?_
            refine J.ild_n dX3_add_70 rfl ?_
            refine J.ald_n dX3_add_71 rfl ?_
            refine gf_X3_43 rfl dX3_add_72 ((hj2 _ (by omega) (by omega)).trans ((hj1 _ (by omega) (by omega)).trans ((hj0 _ (by omega) (by omega)).trans ((jset_ne _ _ (by omega)).trans ((jset_ne _ _ (by omega)).trans ((jset_ne _ _ (by omega)).trans eL)))))) ?_
            refine J.iadd dX3_add_75 ?_
            rw [show (((kn * 41 : Nat) : Int) : Int) + ((m : Nat) : Int) = (((kn * 41) + m : Nat) : Int) from by push_cast; rfl]
            refine J.callV (rm' := rX3_countPhrases) [vI 5, vI ((kn * 41 : Nat) : Int), vI (((kn * 41) + m : Nat) : Int)] dX3_add_76 (c_X3_countPhrases (k := 5) (a0 := kn * 41) (e := kn * 41 + m) ((hj2 _ (by omega) (by omega)).trans ((hj1 _ (by omega) (by omega)).trans ((hj0 _ (by omega) (by omega)).trans (jset_eq _ _ _)))) ((hj2 _ (by omega) (by omega)).trans ((hj1 _ (by omega) (by omega)).trans ((hj0 _ (by omega) (by omega)).trans ((jset_ne _ _ (by omega)).trans ((jset_ne _ _ (by omega)).trans (jset_eq _ _ _)))))) ((hj2 _ (by omega) (by omega)).trans ((hj1 _ (by omega) (by omega)).trans ((hj0 _ (by omega) (by omega)).trans ((jset_ne _ _ (by omega)).trans ((jset_ne _ _ (by omega)).trans ((jset_ne _ _ (by omega)).trans kT)))))) hgT ((hj2 _ (by omega) (by omega)).trans ((hj1 _ (by omega) (by omega)).trans ((hj0 _ (by omega) (by omega)).trans ((jset_ne _ _ (by omega)).trans ((jset_ne _ _ (by omega)).trans ((jset_ne _ _ (by omega)).trans (hK.2.2.2.2.1 3 (by omega)))))))) kF3 hfz3 hkr2 (by omega) (by omega) (by omega)) ((hj2 _ (by omega) (by omega)).trans ((hj1 _ (by omega) (by omega)).trans ((hj0 _ (by omega) (by omega)).trans (jset_eq _ _ _)))) rfl st_X3_countPhrases ml_X3_50 im_X3_countPhrases se_X3_countPhrases rfl (Nat.le_of_ble_eq_true rfl) (by decide) (by decide) (Nat.le_of_ble_eq_true rfl) (by decide) (by decide) (Or.inl rfl) (fun E9 σ9 hq9 _ => nomatch hq9.1) (fun r9 σ3 hq9 hle9 => ?_)
            obtain ⟨h9, ⟨fr4, kF4, hfz4⟩, hT3, hn3, hj3⟩ := hq9
            cases h9
            clear hle9
            rw [show kn * 41 + m - kn * 41 = m by omega] at hT3
            refine J.iinc (v := 6) dX3_add_79 rfl (by first | rfl | omega) (by decide) (jnc_of rfl rfl) ?_
            refine J.goto dX3_add_82 (by decide) (tgt := 61) ?_
            refine J.ild_n dX3_add_61 rfl ?_
            refine J.bipush dX3_add_62 (by decide) ?_
            refine J.icmp_gt dX3_add_64 (by decide) (tgt := 85) (by unfold inI; omega) (by unfold inI; omega) (fun hg4 => ?_) (fun hg4 => ?_)
            · omega
            · refine J.ald_n dX3_add_67 rfl ?_
              refine J.ild_n dX3_add_68 rfl ?_
              refine J.ild_n dX3_add_69 rfl ?_
              refine J.ild_n dX3_add_70 rfl ?_
              refine J.ald_n dX3_add_71 rfl ?_
              refine gf_X3_43 rfl dX3_add_72 ((hj3 _ (by omega) (by omega)).trans ((hj2 _ (by omega) (by omega)).trans ((hj1 _ (by omega) (by omega)).trans ((hj0 _ (by omega) (by omega)).trans ((jset_ne _ _ (by omega)).trans ((jset_ne _ _ (by omega)).trans ((jset_ne _ _ (by omega)).trans eL))))))) ?_
              refine J.iadd dX3_add_75 ?_
              rw [show (((kn * 41 : Nat) : Int) : Int) + ((m : Nat) : Int) = (((kn * 41) + m : Nat) : Int) from by push_cast; rfl]
              refine J.callV (rm' := rX3_countPhrases) [vI 6, vI ((kn * 41 : Nat) : Int), vI (((kn * 41) + m : Nat) : Int)] dX3_add_76 (c_X3_countPhrases (k := 6) (a0 := kn * 41) (e := kn * 41 + m) ((hj3 _ (by omega) (by omega)).trans ((hj2 _ (by omega) (by omega)).trans ((hj1 _ (by omega) (by omega)).trans ((hj0 _ (by omega) (by omega)).trans (jset_eq _ _ _))))) ((hj3 _ (by omega) (by omega)).trans ((hj2 _ (by omega) (by omega)).trans ((hj1 _ (by omega) (by omega)).trans ((hj0 _ (by omega) (by omega)).trans ((jset_ne _ _ (by omega)).trans ((jset_ne _ _ (by omega)).trans (jset_eq _ _ _))))))) ((hj3 _ (by omega) (by omega)).trans ((hj2 _ (by omega) (by omega)).trans ((hj1 _ (by omega) (by omega)).trans ((hj0 _ (by omega) (by omega)).trans ((jset_ne _ _ (by omega)).trans ((jset_ne _ _ (by omega)).trans ((jset_ne _ _ (by omega)).trans kT))))))) hgT ((hj3 _ (by omega) (by omega)).trans ((hj2 _ (by omega) (by omega)).trans ((hj1 _ (by omega) (by omega)).trans ((hj0 _ (by omega) (by omega)).trans ((jset_ne _ _ (by omega)).trans ((jset_ne _ _ (by omega)).trans ((jset_ne _ _ (by omega)).trans (hK.2.2.2.2.1 4 (by omega))))))))) kF4 hfz4 hkr2 (by omega) (by omega) (by omega)) ((hj3 _ (by omega) (by omega)).trans ((hj2 _ (by omega) (by omega)).trans ((hj1 _ (by omega) (by omega)).trans ((hj0 _ (by omega) (by omega)).trans (jset_eq _ _ _))))) rfl st_X3_countPhrases ml_X3_50 im_X3_countPhrases se_X3_countPhrases rfl (Nat.le_of_ble_eq_true rfl) (by decide) (by decide) (Nat.le_of_ble_eq_true rfl) (by decide) (by decide) (Or.inl rfl) (fun E9 σ9 hq9 _ => nomatch hq9.1) (fun r9 σ4 hq9 hle9 => ?_)
              obtain ⟨h9, ⟨fr5, kF5, hfz5⟩, hT4, hn4, hj4⟩ := hq9
              cases h9
              clear hle9
              rw [show kn * 41 + m - kn * 41 = m by omega] at hT4
              refine J.iinc (v := 7) dX3_add_79 rfl (by first | rfl | omega) (by decide) (jnc_of rfl rfl) ?_
              refine J.goto dX3_add_82 (by decide) (tgt := 61) ?_
              refine J.ild_n dX3_add_61 rfl ?_
              refine J.bipush dX3_add_62 (by decide) ?_
              refine J.icmp_gt dX3_add_64 (by decide) (tgt := 85) (by unfold inI; omega) (by unfold inI; omega) (fun hg5 => ?_) (fun hg5 => ?_)
              · refine J.vret dX3_add_85 rfl (by decide) (by decide) ?_
                refine ⟨rfl, ⟨?_, ?_, ?_, ?_, fun s hs => ?_, fr5, kF5, hfz5⟩, ?_, fun j hj => ?_⟩
                · exact ((hj4 _ (by omega) (by omega)).trans ((hj3 _ (by omega) (by omega)).trans ((hj2 _ (by omega) (by omega)).trans ((hj1 _ (by omega) (by omega)).trans ((hj0 _ (by omega) (by omega)).trans (jset_eq _ _ _))))))
                · exact ((hj4 _ (by omega) (by omega)).trans ((hj3 _ (by omega) (by omega)).trans ((hj2 _ (by omega) (by omega)).trans ((hj1 _ (by omega) (by omega)).trans ((hj0 _ (by omega) (by omega)).trans ((jset_ne _ _ (by omega)).trans ((jset_ne _ _ (by omega)).trans (jset_eq _ _ _))))))))
                · rw [← jup_cast]; exact ((hj4 _ (by omega) (by omega)).trans ((hj3 _ (by omega) (by omega)).trans ((hj2 _ (by omega) (by omega)).trans ((hj1 _ (by omega) (by omega)).trans ((hj0 _ (by omega) (by omega)).trans ((jset_ne _ _ (by omega)).trans (jset_eq _ _ _)))))))
                · exact ⟨gT, ((hj4 _ (by omega) (by omega)).trans ((hj3 _ (by omega) (by omega)).trans ((hj2 _ (by omega) (by omega)).trans ((hj1 _ (by omega) (by omega)).trans ((hj0 _ (by omega) (by omega)).trans ((jset_ne _ _ (by omega)).trans ((jset_ne _ _ (by omega)).trans ((jset_ne _ _ (by omega)).trans kT)))))))), hgT⟩
                · match s, hs with
                  | 0, _ => exact ((hj4 _ (by omega) (by omega)).trans ((hj3 _ (by omega) (by omega)).trans ((hj2 _ (by omega) (by omega)).trans ((hj1 _ (by omega) (by omega)).trans hT0))))
                  | 1, _ => exact ((hj4 _ (by omega) (by omega)).trans ((hj3 _ (by omega) (by omega)).trans ((hj2 _ (by omega) (by omega)).trans hT1)))
                  | 2, _ => exact ((hj4 _ (by omega) (by omega)).trans ((hj3 _ (by omega) (by omega)).trans hT2))
                  | 3, _ => exact ((hj4 _ (by omega) (by omega)).trans hT3)
                  | 4, _ => exact hT4
                · exact hn4.trans (hn3.trans (hn2.trans (hn1.trans hn0)))
                · rw [hj4 j (by omega) (by omega), hj3 j (by omega) (by omega), hj2 j (by omega) (by omega), hj1 j (by omega) (by omega), hj0 j (by omega) (by omega), jset_ne _ _ (by omega), jset_ne _ _ (by omega), jset_ne _ _ (by omega)]
              · omega
  · omega
set_option maxRecDepth 20000 in
theorem c_X3_proposeOn {X : jX} {σ : jS} {kn : Nat} {kr : Nat → Int} {ks : Nat → Nat} {kt : Nat → Nat → Int} {i n : Nat} {cd sz : Nat → Nat} {ph : Nat → Int} {l r : Nat} {ln pr : Int} {w : Nat → Int} {B : Int × Nat × Nat} (hB0 : B = prO kt (fun k a => hpU sz ph kr a k n 0) pr (kn * 41) 5 2 (0, 0, 0)) (hK : KP σ kn kr ks kt) (hkn : kn ≤ 12) (hB : BK σ i n cd sz ph) (h5i : 5 ≤ i) (hn : n ≤ 40) (hsz : ∀ e, e < n → 1 ≤ sz e ∧ sz e ≤ 6) (hph : ∀ t, t < 240 → inI (ph t)) (eL : σ.2 l = jO 3 [.ref r, vI ln]) (eR : σ.2 r = jI 40 w) (hl : l < 21 ∨ 30 < l) (hr : r < 21 ∨ 30 < r) (hlr : l ≠ r) (h5r : 5 ≤ r) (hpr : 1 ≤ pr ∧ pr ≤ 5) (hkt : ∀ s a, s < 5 → a < 492 → 0 ≤ kt s a ∧ kt s a ≤ 1000) (hfit : ∀ s a, s < 5 → a < 492 → 2 ≤ kt s a → a + (s + 2) ≤ 492) (hkr : ∀ t, t < 492 → inI (kr t)) : JM X mX3_proposeOn rX3_proposeOn [.ref 21, .ref l, .ref i, vI pr] σ (fun o σ1 => o = oI B.1 ∧ (0 < B.1 → σ1.2 l = jO 3 [.ref r, vI ((B.2.2 : Nat) : Int)] ∧ σ1.2 r = jI 40 (alF kr B.2.2 B.2.1 0 w)) ∧ (¬ 0 < B.1 → σ1 = σ) ∧ σ1.1 = σ.1 ∧ ∀ j, j ≠ l → j ≠ r → σ1.2 j = σ.2 j) := by
  refine JM.of (lc := [.ref 21, .ref l, .ref i, vI pr, .null, .null, .null, .null, .null, .null, .null]) rfl ?_
  obtain ⟨gT, kT, hgT⟩ := hK.2.2.2.1
  refine J.iconst dX3_proposeOn_0 ?_
  refine J.ist dX3_proposeOn_1 (by decide) (jnc_of rfl rfl) ?_
  refine J.iconst dX3_proposeOn_3 ?_
  refine J.ist dX3_proposeOn_4 (by decide) (jnc_of rfl rfl) ?_
  refine J.iconst dX3_proposeOn_6 ?_
  refine J.ist dX3_proposeOn_7 (by decide) (jnc_of rfl rfl) ?_
  refine J.iconst dX3_proposeOn_9 ?_
  refine J.ist dX3_proposeOn_10 (by decide) (jnc_of rfl rfl) ?_
  have L : ∀ (t : Nat), ∀ (k : Nat) (b : Int × Nat × Nat) (u8 u9 u10 : Value), k + t = 7 ∧ 2 ≤ k → u8.category = 1 → u9.category = 1 → u10.category = 1 → ((0 ≤ b.1 ∧ b.1 ≤ 100000) ∧ b.2.1 + b.2.2 ≤ 492 ∧ b.2.2 ≤ 6) → B = prO kt (fun k a => hpU sz ph kr a k n 0) pr (kn * 41) t k b → J X mX3_proposeOn rX3_proposeOn 12 [.ref 21, .ref l, .ref i, vI pr, vI b.1, vI ((b.2.1 : Nat) : Int), vI ((b.2.2 : Nat) : Int), vI ((k : Nat) : Int), u8, u9, u10] [] 0 0 σ (fun o σ1 => o = oI B.1 ∧ (0 < B.1 → σ1.2 l = jO 3 [.ref r, vI ((B.2.2 : Nat) : Int)] ∧ σ1.2 r = jI 40 (alF kr B.2.2 B.2.1 0 w)) ∧ (¬ 0 < B.1 → σ1 = σ) ∧ σ1.1 = σ.1 ∧ ∀ j, j ≠ l → j ≠ r → σ1.2 j = σ.2 j) := by
    intro t
    induction t with
    | zero =>
      intro k b u8 u9 u10 hk hu8 hu9 hu10 hb hB9
      refine J.ild dX3_proposeOn_12 rfl ?_
      refine J.bipush dX3_proposeOn_14 (by decide) ?_
      refine J.icmp_gt dX3_proposeOn_16 (by decide) (tgt := 115) (by unfold inI; omega) (by unfold inI; omega) (fun h => ?_) (fun h => ?_)
      · refine J.ild dX3_proposeOn_115 rfl ?_
        refine J.if_le dX3_proposeOn_117 (by decide) (tgt := 136) (by unfold inI; omega) (fun hz0 => ?_) (fun hz0 => ?_)
        · refine J.ild dX3_proposeOn_136 rfl ?_
          refine J.iret .int dX3_proposeOn_138 rfl rfl (by decide) (by decide) ?_
          rw [show B = b from hB9]
          exact ⟨rfl, fun q => absurd q (by omega), fun _ => rfl, rfl, fun _ _ _ => rfl⟩
        · refine J.ald_n dX3_proposeOn_120 rfl ?_
          refine J.callV (rm' := rX4_clear) [] dX3_proposeOn_121 (c_X4_clear eL) eL rfl st_X4_clear ml_X3_68 im_X4_clear se_X4_clear rfl (Nat.le_of_ble_eq_true rfl) (by decide) (by decide) (Nat.le_of_ble_eq_true rfl) (by decide) (by decide) (Or.inl rfl) (fun E9 σ9 hq9 _ => nomatch hq9.1) (fun r9 σ9 hq9 hle9 => ?_)
          obtain ⟨h9, rfl⟩ := hq9
          cases h9
          clear hle9
          refine J.ald_n dX3_proposeOn_124 rfl ?_
          refine J.ald_n dX3_proposeOn_125 rfl ?_
          refine gf_X3_11 rfl dX3_proposeOn_126 ((jset_ne _ _ (by omega)).trans hK.1) ?_
          refine J.ild dX3_proposeOn_129 rfl ?_
          refine J.ild dX3_proposeOn_131 rfl ?_
          refine J.callV (rm' := rX4_appendAll) [.ref 22, vI ((b.2.1 : Nat) : Int), vI ((b.2.2 : Nat) : Int)] dX3_proposeOn_133 (c_X4_appendAll (n := 0) (jset_eq _ _ _) ((jset_ne _ _ (by omega)).trans eR) h5r (by omega) (by omega) ((jset_ne _ _ (by omega)).trans hK.2.1) (by omega) (by omega) hb.2.1 (by omega)) (jset_eq _ _ _) rfl st_X4_appendAll ml_X3_71 im_X4_appendAll se_X4_appendAll rfl (Nat.le_of_ble_eq_true rfl) (by decide) (by decide) (Nat.le_of_ble_eq_true rfl) (by decide) (by decide) (Or.inl rfl) (fun E9 σ9 hq9 _ => nomatch hq9.1) (fun r9 σ9 hq9 hle9 => ?_)
          obtain ⟨h9, rfl⟩ := hq9
          cases h9
          clear hle9
          refine J.ild dX3_proposeOn_136 rfl ?_
          refine J.iret .int dX3_proposeOn_138 rfl rfl (by decide) (by decide) ?_
          rw [show B = b from hB9]
          refine ⟨rfl, fun _ => ⟨?_, alS_r (by omega) _ _ _ _ _ ((jset_ne _ _ (by omega)).trans eR)⟩, fun q => absurd (by omega) q, alS_n .., fun j h1 h2 => ?_⟩
          · refine (alS_i _ _ _ 0 _ (jset_eq _ _ _)).trans ?_
            rw [alN_eq _ _ (by omega), Nat.zero_add]
          · rw [alS_o h1 h2, jset_ne _ _ h1]
      · omega
    | succ t ih =>
      intro k b u8 u9 u10 hk hu8 hu9 hu10 hb hB9
      have hkX := hK.2.2.2.2.1 (k - 2) (by omega)
      refine J.ild dX3_proposeOn_12 rfl ?_
      refine J.bipush dX3_proposeOn_14 (by decide) ?_
      refine J.icmp_gt dX3_proposeOn_16 (by decide) (tgt := 115) (by unfold inI; omega) (by unfold inI; omega) (fun h => ?_) (fun h => ?_)
      · omega
      · refine J.ald_n dX3_proposeOn_19 rfl ?_
        refine gf_X3_20 rfl dX3_proposeOn_20 hK.1 ?_
        refine J.ild dX3_proposeOn_23 rfl ?_
        refine J.iconst dX3_proposeOn_25 ?_
        refine J.isub dX3_proposeOn_26 ?_
        rw [show ((k : Nat) : Int) - 2 = ((k - 2 : Nat) : Int) from by omega]
        refine J.aaldI (q := 25 + (k - 2)) (k - 2) dX3_proposeOn_27 kT rfl (by omega) (by omega) (hgT (k - 2) (by omega)) ?_
        refine J.ast dX3_proposeOn_28 (by decide) (jnc_of rfl rfl) ?_
        refine J.iconst dX3_proposeOn_30 ?_
        refine J.ist dX3_proposeOn_31 (by decide) (jnc_of rfl rfl) ?_
        have L2 : ∀ (t2 a : Nat) (b : Int × Nat × Nat) (u10 : Value), a + t2 = kn * 41 → u10.category = 1 → ((0 ≤ b.1 ∧ b.1 ≤ 100000) ∧ b.2.1 + b.2.2 ≤ 492 ∧ b.2.2 ≤ 6) → B = prO kt (fun k a => hpU sz ph kr a k n 0) pr (kn * 41) t (k + 1) (prS (kt (k - 2)) (fun a => hpU sz ph kr a k n 0) k pr t2 a b) → J X mX3_proposeOn rX3_proposeOn 33 [.ref 21, .ref l, .ref i, vI pr, vI b.1, vI ((b.2.1 : Nat) : Int), vI ((b.2.2 : Nat) : Int), vI ((k : Nat) : Int), .ref (25 + (k - 2)), vI ((a : Nat) : Int), u10] [] 0 0 σ (fun o σ1 => o = oI B.1 ∧ (0 < B.1 → σ1.2 l = jO 3 [.ref r, vI ((B.2.2 : Nat) : Int)] ∧ σ1.2 r = jI 40 (alF kr B.2.2 B.2.1 0 w)) ∧ (¬ 0 < B.1 → σ1 = σ) ∧ σ1.1 = σ.1 ∧ ∀ j, j ≠ l → j ≠ r → σ1.2 j = σ.2 j) := by
          intro t2
          induction t2 with
          | zero =>
            intro a b u10 ha hu10 hb hB9
            refine J.ild dX3_proposeOn_33 rfl ?_
            refine J.ald_n dX3_proposeOn_35 rfl ?_
            refine J.ald_n dX3_proposeOn_36 rfl ?_
            refine gf_X3_32 rfl dX3_proposeOn_37 hK.1 ?_
            refine J.callV (rm' := rX3_startOf) [vI ((kn : Nat) : Int)] dX3_proposeOn_40 (c_X3_startOf) hK.1 rfl st_X3_startOf ml_X3_36 im_X3_startOf se_X3_startOf rfl (Nat.le_of_ble_eq_true rfl) (by decide) (by decide) (Nat.le_of_ble_eq_true rfl) (by decide) (by decide) (Or.inl rfl) (fun E9 σ9 hq9 _ => nomatch hq9.1) (fun r9 σ9 hq9 hle9 => ?_)
            obtain ⟨h9, h8⟩ := hq9
            rw [h8]
            clear hle9 h8 σ9
            cases h9
            refine J.icmp_ge dX3_proposeOn_43 (by decide) (tgt := 109) (by unfold inI; omega) (by unfold inI; omega) (fun h3 => ?_) (fun h3 => ?_)
            · refine J.iinc (v := ((k + 1 : Nat) : Int)) dX3_proposeOn_109 rfl (by first | rfl | omega) (by decide) (jnc_of rfl rfl) ?_
              refine J.goto dX3_proposeOn_112 (by decide) (tgt := 12) ?_
              exact ih (k + 1) b _ _ _ (by omega) rfl (by first | rfl | assumption) (by first | rfl | assumption) hb hB9
            · omega
          | succ t2 ih2 =>
            intro a b u10 ha hu10 hb hB9
            refine J.ild dX3_proposeOn_33 rfl ?_
            refine J.ald_n dX3_proposeOn_35 rfl ?_
            refine J.ald_n dX3_proposeOn_36 rfl ?_
            refine gf_X3_32 rfl dX3_proposeOn_37 hK.1 ?_
            refine J.callV (rm' := rX3_startOf) [vI ((kn : Nat) : Int)] dX3_proposeOn_40 (c_X3_startOf) hK.1 rfl st_X3_startOf ml_X3_36 im_X3_startOf se_X3_startOf rfl (Nat.le_of_ble_eq_true rfl) (by decide) (by decide) (Nat.le_of_ble_eq_true rfl) (by decide) (by decide) (Or.inl rfl) (fun E9 σ9 hq9 _ => nomatch hq9.1) (fun r9 σ9 hq9 hle9 => ?_)
            obtain ⟨h9, h8⟩ := hq9
            rw [h8]
            clear hle9 h8 σ9
            cases h9
            refine J.icmp_ge dX3_proposeOn_43 (by decide) (tgt := 109) (by unfold inI; omega) (by unfold inI; omega) (fun h3 => ?_) (fun h3 => ?_)
            · omega
            · have hta := hkt (k - 2) a (by omega) (by omega)
              have hsv := sv_bd hta hpr (show 2 ≤ k ∧ k ≤ 6 by omega)
              refine J.ald dX3_proposeOn_46 rfl ?_
              refine J.ild dX3_proposeOn_48 rfl ?_
              refine J.iald a dX3_proposeOn_50 hkX rfl (by omega) (by omega) ?_
              refine J.ild dX3_proposeOn_51 rfl ?_
              refine J.ild_n dX3_proposeOn_53 rfl ?_
              refine J.imul dX3_proposeOn_54 ?_
              refine J.iconst dX3_proposeOn_55 ?_
              refine J.isub dX3_proposeOn_56 ?_
              refine J.imul dX3_proposeOn_57 ?_
              refine J.ist dX3_proposeOn_58 (by decide) (jnc_of rfl rfl) ?_
              refine J.ald dX3_proposeOn_60 rfl ?_
              refine J.ild dX3_proposeOn_62 rfl ?_
              refine J.iald a dX3_proposeOn_64 hkX rfl (by omega) (by omega) ?_
              refine J.iconst dX3_proposeOn_65 ?_
              refine J.icmp_lt dX3_proposeOn_66 (by decide) (tgt := 103) (by unfold inI; omega) (by unfold inI; omega) (fun h4 => ?_) (fun h4 => ?_)
              · refine J.iinc (v := ((a + 1 : Nat) : Int)) dX3_proposeOn_103 rfl (by first | rfl | omega) (by decide) (jnc_of rfl rfl) ?_
                refine J.goto dX3_proposeOn_106 (by decide) (tgt := 33) ?_
                rw [show prS (kt (k - 2)) (fun a => hpU sz ph kr a k n 0) k pr (t2 + 1) a b = prS (kt (k - 2)) (fun a => hpU sz ph kr a k n 0) k pr t2 (a + 1) b from by rw [show prS (kt (k - 2)) (fun a => hpU sz ph kr a k n 0) k pr (t2 + 1) a b = prS (kt (k - 2)) (fun a => hpU sz ph kr a k n 0) k pr t2 (a + 1) (if 2 ≤ kt (k - 2) a ∧ b.1 < kt (k - 2) a * (((k : Nat) : Int) * pr - 1) ∧ hpU sz ph kr a k n 0 = false then (kt (k - 2) a * (((k : Nat) : Int) * pr - 1), a, k) else b) from rfl, if_neg (by omega)]] at hB9
                exact ih2 (a + 1) b _ (by omega) rfl hb hB9
              · refine J.ild dX3_proposeOn_69 rfl ?_
                refine J.ild dX3_proposeOn_71 rfl ?_
                refine J.icmp_le dX3_proposeOn_73 (by decide) (tgt := 103) (by unfold inI; omega) (by unfold inI; omega) (fun h5 => ?_) (fun h5 => ?_)
                · refine J.iinc (v := ((a + 1 : Nat) : Int)) dX3_proposeOn_103 rfl (by first | rfl | omega) (by decide) (jnc_of rfl rfl) ?_
                  refine J.goto dX3_proposeOn_106 (by decide) (tgt := 33) ?_
                  rw [show prS (kt (k - 2)) (fun a => hpU sz ph kr a k n 0) k pr (t2 + 1) a b = prS (kt (k - 2)) (fun a => hpU sz ph kr a k n 0) k pr t2 (a + 1) b from by rw [show prS (kt (k - 2)) (fun a => hpU sz ph kr a k n 0) k pr (t2 + 1) a b = prS (kt (k - 2)) (fun a => hpU sz ph kr a k n 0) k pr t2 (a + 1) (if 2 ≤ kt (k - 2) a ∧ b.1 < kt (k - 2) a * (((k : Nat) : Int) * pr - 1) ∧ hpU sz ph kr a k n 0 = false then (kt (k - 2) a * (((k : Nat) : Int) * pr - 1), a, k) else b) from rfl, if_neg (by omega)]] at hB9
                  exact ih2 (a + 1) b _ (by omega) rfl hb hB9
                · have hft := hfit (k - 2) a (by omega) (by omega) (by omega)
                  refine J.ald_n dX3_proposeOn_76 rfl ?_
                  refine J.ald_n dX3_proposeOn_77 rfl ?_
                  refine gf_X3_11 rfl dX3_proposeOn_78 hK.1 ?_
                  refine J.ild dX3_proposeOn_81 rfl ?_
                  refine J.ild dX3_proposeOn_83 rfl ?_
                  refine J.callV (rm' := rX0_hasPhrase) [.ref 22, vI ((a : Nat) : Int), vI ((k : Nat) : Int)] dX3_proposeOn_85 (c_X0_hasPhrase hB h5i hn hsz hph hK.2.1 (by omega) (by omega) hkr (by omega)) hB.1 rfl st_X0_hasPhrase ml_X3_62 im_X0_hasPhrase se_X0_hasPhrase rfl (Nat.le_of_ble_eq_true rfl) (by decide) (by decide) (Nat.le_of_ble_eq_true rfl) (by decide) (by decide) (Or.inl rfl) (fun E9 σ9 hq9 _ => nomatch hq9.1) (fun r9 σ9 hq9 hle9 => ?_)
                  obtain ⟨h9, h8⟩ := hq9
                  rw [h8]
                  clear hle9 h8 σ9
                  cases h9
                  by_cases hno : hpU sz ph kr a k n 0 = true
                  · rw [show bN (hpU sz ph kr a k n 0) = 1 from if_pos hno]
                    refine J.if_ne dX3_proposeOn_88 (by decide) (tgt := 103) (by unfold inI; omega) (fun h6 => ?_) (fun h6 => ?_)
                    · refine J.iinc (v := ((a + 1 : Nat) : Int)) dX3_proposeOn_103 rfl (by first | rfl | omega) (by decide) (jnc_of rfl rfl) ?_
                      refine J.goto dX3_proposeOn_106 (by decide) (tgt := 33) ?_
                      rw [show prS (kt (k - 2)) (fun a => hpU sz ph kr a k n 0) k pr (t2 + 1) a b = prS (kt (k - 2)) (fun a => hpU sz ph kr a k n 0) k pr t2 (a + 1) b from by rw [show prS (kt (k - 2)) (fun a => hpU sz ph kr a k n 0) k pr (t2 + 1) a b = prS (kt (k - 2)) (fun a => hpU sz ph kr a k n 0) k pr t2 (a + 1) (if 2 ≤ kt (k - 2) a ∧ b.1 < kt (k - 2) a * (((k : Nat) : Int) * pr - 1) ∧ hpU sz ph kr a k n 0 = false then (kt (k - 2) a * (((k : Nat) : Int) * pr - 1), a, k) else b) from rfl, if_neg (fun q => by have := q.2.2; rw [hno] at this; cases this)]] at hB9
                      exact ih2 (a + 1) b _ (by omega) rfl hb hB9
                    · exact absurd h6 (by decide)
                  · rw [show bN (hpU sz ph kr a k n 0) = 0 from if_neg hno]
                    refine J.if_ne dX3_proposeOn_88 (by decide) (tgt := 103) (by unfold inI; omega) (fun h6 => ?_) (fun h6 => ?_)
                    · exact absurd rfl h6
                    · refine J.ild dX3_proposeOn_91 rfl ?_
                      refine J.ist dX3_proposeOn_93 (by decide) (jnc_of rfl rfl) ?_
                      refine J.ild dX3_proposeOn_95 rfl ?_
                      refine J.ist dX3_proposeOn_97 (by decide) (jnc_of rfl rfl) ?_
                      refine J.ild dX3_proposeOn_99 rfl ?_
                      refine J.ist dX3_proposeOn_101 (by decide) (jnc_of rfl rfl) ?_
                      refine J.iinc (v := ((a + 1 : Nat) : Int)) dX3_proposeOn_103 rfl (by first | rfl | omega) (by decide) (jnc_of rfl rfl) ?_
                      refine J.goto dX3_proposeOn_106 (by decide) (tgt := 33) ?_
                      rw [show prS (kt (k - 2)) (fun a => hpU sz ph kr a k n 0) k pr (t2 + 1) a b = prS (kt (k - 2)) (fun a => hpU sz ph kr a k n 0) k pr t2 (a + 1) (kt (k - 2) a * (((k : Nat) : Int) * pr - 1), a, k) from by rw [show prS (kt (k - 2)) (fun a => hpU sz ph kr a k n 0) k pr (t2 + 1) a b = prS (kt (k - 2)) (fun a => hpU sz ph kr a k n 0) k pr t2 (a + 1) (if 2 ≤ kt (k - 2) a ∧ b.1 < kt (k - 2) a * (((k : Nat) : Int) * pr - 1) ∧ hpU sz ph kr a k n 0 = false then (kt (k - 2) a * (((k : Nat) : Int) * pr - 1), a, k) else b) from rfl, if_pos ⟨by omega, by omega, by simpa using hno⟩]] at hB9
                      exact ih2 (a + 1) (kt (k - 2) a * (((k : Nat) : Int) * pr - 1), a, k) _ (by omega) rfl ⟨⟨by show 0 ≤ kt (k - 2) a * _; omega, by show kt (k - 2) a * _ ≤ 100000; omega⟩, by show a + k ≤ 492; omega, by show k ≤ 6; omega⟩ hB9
        exact L2 (kn * 41) 0 b _ (by omega) (by first | rfl | assumption) hb hB9
  exact L 5 2 (0, 0, 0) _ _ _ (by omega) rfl rfl rfl ⟨⟨by show (0 : Int) ≤ 0; omega, by show (0 : Int) ≤ 100000; omega⟩, by show 0 + 0 ≤ 492; omega, by show 0 ≤ 6; omega⟩ hB0
