/-! ===== the class ===== -/
def WO (σ : jS) (pr : Int) (rd : Nat) (rg : Nat → Int) : Prop :=
  σ.2 5 = jO 5 [.ref 6, .ref 19, .ref 21, .ref 31, .ref 33, .ref 36, vI ((rd : Nat) : Int), vI pr] ∧ (∃ gB : Nat → Option Nat, σ.2 6 = jQ 0 3 gB ∧ ∀ b, b < 3 → gB b = some (7 + 4 * b)) ∧ σ.2 36 = jI 40 rg
def CW (σ : jS) (pr : Int) (ln : Nat) (lw : Nat → Int) (bn : Nat → Nat) (cd sz : Nat → Nat → Nat) (ph : Nat → Nat → Int) (mn : Nat) (mg : Nat → Int) (kn : Nat) (kr : Nat → Int) (ks : Nat → Nat) (kt : Nat → Nat → Int) (rd : Nat) (rg : Nat → Int) : Prop :=
  WO σ pr rd rg ∧ (∀ b, b < 3 → BK σ (7 + 4 * b) (bn b) (cd b) (sz b) (ph b)) ∧ (σ.2 19 = jO 3 [.ref 20, vI ((ln : Nat) : Int)] ∧ σ.2 20 = jI 40 lw) ∧ KP σ kn kr ks kt ∧ (σ.2 31 = jO 4 [.ref 32, vI ((mn : Nat) : Int)] ∧ σ.2 32 = jI 40 mg) ∧ (σ.2 33 = jO 1 [.ref 34, .ref 35] ∧ (∃ f, σ.2 34 = jI 41 f) ∧ ∃ p, σ.2 35 = jI 40 p)
def CI (pr : Int) (ln : Nat) (lw : Nat → Int) (bn : Nat → Nat) (cd sz : Nat → Nat → Nat) (ph : Nat → Nat → Int) (mn : Nat) (mg : Nat → Int) (kn : Nat) (kr : Nat → Int) (ks : Nat → Nat) (kt : Nat → Nat → Int) (rd : Nat) (rg : Nat → Int) : Prop :=
  (1 ≤ pr ∧ pr ≤ 5) ∧ (ln ≤ 40 ∧ ∀ t, 0 ≤ lw t ∧ lw t ≤ 9999) ∧ (∀ b, b < 3 → bn b ≤ 40 ∧ (∀ e, cd b e ≤ 11881375) ∧ (∀ e, e < bn b → 1 ≤ sz b e ∧ sz b e ≤ 6) ∧ ∀ t, 0 ≤ ph b t ∧ ph b t ≤ 9999) ∧ (mn ≤ 40 ∧ ∀ t, -10000 ≤ mg t ∧ mg t ≤ 11881375) ∧ KI kn kr ks kt ∧ rd ≤ 40 ∧ ∀ t, 0 ≤ rg t ∧ rg t ≤ 3
/-- nothing but the class's own cells has changed -/
def FrC (σ σ1 : jS) : Prop := σ1.1 = σ.1 ∧ ∀ j, (j < 5 ∨ 36 < j) → σ1.2 j = σ.2 j
theorem FrC.refl {σ : jS} : FrC σ σ := ⟨rfl, fun _ _ => rfl⟩
theorem FrC.trans {σ σ1 σ2 : jS} (h : FrC σ σ1) (h' : FrC σ1 σ2) : FrC σ σ2 := ⟨h'.1.trans h.1, fun j hj => (h'.2 j hj).trans (h.2 j hj)⟩
def XP (o1 : jOut) (σ : jS) (C : jS → Prop) : jOut → jS → Prop := fun o σ1 => o = o1 ∧ C σ1 ∧ FrC σ σ1
theorem inI_w {a : Int} (h : 0 ≤ a ∧ a ≤ 9999) : inI a := by unfold inI; omega
theorem inI_k {a : Int} (h : -1 ≤ a ∧ a ≤ 9999) : inI a := by unfold inI; omega
theorem inI_m {a : Int} (h : -10000 ≤ a ∧ a ≤ 11881375) : inI a := by unfold inI; omega
theorem CW.setL {σ σ1 : jS} {pr : Int} {ln : Nat} {lw : Nat → Int} {bn : Nat → Nat} {cd sz : Nat → Nat → Nat} {ph : Nat → Nat → Int} {mn : Nat} {mg : Nat → Int} {kn : Nat} {kr : Nat → Int} {ks : Nat → Nat} {kt : Nat → Nat → Int} {rd : Nat} {rg : Nat → Int} {ln' : Nat} {lw' : Nat → Int} (h : CW σ pr ln lw bn cd sz ph mn mg kn kr ks kt rd rg) (hj : ∀ j, j ≠ 19 → j ≠ 20 → σ1.2 j = σ.2 j) (h1 : σ1.2 19 = jO 3 [.ref 20, vI ((ln' : Nat) : Int)]) (h2 : σ1.2 20 = jI 40 lw') : CW σ1 pr ln' lw' bn cd sz ph mn mg kn kr ks kt rd rg := by
  obtain ⟨⟨a1, ⟨gB, a2, a3⟩, a4⟩, b, -, k, ⟨m1, m2⟩, d1, ⟨f, d2⟩, p, d3⟩ := h
  exact ⟨⟨(hj _ (by omega) (by omega)).trans a1, ⟨gB, (hj _ (by omega) (by omega)).trans a2, a3⟩, (hj _ (by omega) (by omega)).trans a4⟩, fun c hc => (b c hc).keep (fun j _ _ => hj j (by omega) (by omega)), ⟨h1, h2⟩, k.keep (fun j _ _ => hj j (by omega) (by omega)), ⟨(hj _ (by omega) (by omega)).trans m1, (hj _ (by omega) (by omega)).trans m2⟩, (hj _ (by omega) (by omega)).trans d1, ⟨f, (hj _ (by omega) (by omega)).trans d2⟩, p, (hj _ (by omega) (by omega)).trans d3⟩
theorem CW.setB {σ σ1 : jS} {pr : Int} {ln : Nat} {lw : Nat → Int} {bn : Nat → Nat} {cd sz : Nat → Nat → Nat} {ph : Nat → Nat → Int} {mn : Nat} {mg : Nat → Int} {kn : Nat} {kr : Nat → Int} {ks : Nat → Nat} {kt : Nat → Nat → Int} {rd : Nat} {rg : Nat → Int} {b n' : Nat} {cd' sz' : Nat → Nat} {ph' : Nat → Int} (h : CW σ pr ln lw bn cd sz ph mn mg kn kr ks kt rd rg) (hb : b < 3) (hj : ∀ j, (j < 7 + 4 * b ∨ 7 + 4 * b + 3 < j) → σ1.2 j = σ.2 j) (h1 : BK σ1 (7 + 4 * b) n' cd' sz' ph') : CW σ1 pr ln lw (jup bn b n') (jup cd b cd') (jup sz b sz') (jup ph b ph') mn mg kn kr ks kt rd rg := by
  obtain ⟨⟨a1, ⟨gB, a2, a3⟩, a4⟩, bb, ⟨l1, l2⟩, k, ⟨m1, m2⟩, d1, ⟨f, d2⟩, p, d3⟩ := h
  refine ⟨⟨(hj _ (by omega)).trans a1, ⟨gB, (hj _ (by omega)).trans a2, a3⟩, (hj _ (by omega)).trans a4⟩, fun c hc => ?_, ⟨(hj _ (by omega)).trans l1, (hj _ (by omega)).trans l2⟩, k.keep (fun j _ _ => hj j (by omega)), ⟨(hj _ (by omega)).trans m1, (hj _ (by omega)).trans m2⟩, (hj _ (by omega)).trans d1, ⟨f, (hj _ (by omega)).trans d2⟩, p, (hj _ (by omega)).trans d3⟩
  by_cases hcb : c = b
  · subst hcb
    rw [jup_eq, jup_eq, jup_eq, jup_eq]
    exact h1
  · rw [jup_ne _ _ hcb, jup_ne _ _ hcb, jup_ne _ _ hcb, jup_ne _ _ hcb]
    exact (bb c hc).keep (fun j _ _ => hj j (by omega))
theorem CW.setK {σ σ1 : jS} {pr : Int} {ln : Nat} {lw : Nat → Int} {bn : Nat → Nat} {cd sz : Nat → Nat → Nat} {ph : Nat → Nat → Int} {mn : Nat} {mg : Nat → Int} {kn : Nat} {kr : Nat → Int} {ks : Nat → Nat} {kt : Nat → Nat → Int} {rd : Nat} {rg : Nat → Int} {kn' : Nat} {kr' : Nat → Int} {ks' : Nat → Nat} {kt' : Nat → Nat → Int} (h : CW σ pr ln lw bn cd sz ph mn mg kn kr ks kt rd rg) (hj : ∀ j, (j < 21 ∨ 30 < j) → σ1.2 j = σ.2 j) (h1 : KP σ1 kn' kr' ks' kt') : CW σ1 pr ln lw bn cd sz ph mn mg kn' kr' ks' kt' rd rg := by
  obtain ⟨⟨a1, ⟨gB, a2, a3⟩, a4⟩, b, ⟨l1, l2⟩, -, ⟨m1, m2⟩, d1, ⟨f, d2⟩, p, d3⟩ := h
  exact ⟨⟨(hj _ (by omega)).trans a1, ⟨gB, (hj _ (by omega)).trans a2, a3⟩, (hj _ (by omega)).trans a4⟩, fun c hc => (b c hc).keep (fun j _ _ => hj j (by omega)), ⟨(hj _ (by omega)).trans l1, (hj _ (by omega)).trans l2⟩, h1, ⟨(hj _ (by omega)).trans m1, (hj _ (by omega)).trans m2⟩, (hj _ (by omega)).trans d1, ⟨f, (hj _ (by omega)).trans d2⟩, p, (hj _ (by omega)).trans d3⟩
theorem CW.setM {σ σ1 : jS} {pr : Int} {ln : Nat} {lw : Nat → Int} {bn : Nat → Nat} {cd sz : Nat → Nat → Nat} {ph : Nat → Nat → Int} {mn : Nat} {mg : Nat → Int} {kn : Nat} {kr : Nat → Int} {ks : Nat → Nat} {kt : Nat → Nat → Int} {rd : Nat} {rg : Nat → Int} {mn' : Nat} {mg' : Nat → Int} (h : CW σ pr ln lw bn cd sz ph mn mg kn kr ks kt rd rg) (hj : ∀ j, j ≠ 31 → j ≠ 32 → σ1.2 j = σ.2 j) (h1 : σ1.2 31 = jO 4 [.ref 32, vI ((mn' : Nat) : Int)]) (h2 : σ1.2 32 = jI 40 mg') : CW σ1 pr ln lw bn cd sz ph mn' mg' kn kr ks kt rd rg := by
  obtain ⟨⟨a1, ⟨gB, a2, a3⟩, a4⟩, b, ⟨l1, l2⟩, k, -, d1, ⟨f, d2⟩, p, d3⟩ := h
  exact ⟨⟨(hj _ (by omega) (by omega)).trans a1, ⟨gB, (hj _ (by omega) (by omega)).trans a2, a3⟩, (hj _ (by omega) (by omega)).trans a4⟩, fun c hc => (b c hc).keep (fun j _ _ => hj j (by omega) (by omega)), ⟨(hj _ (by omega) (by omega)).trans l1, (hj _ (by omega) (by omega)).trans l2⟩, k.keep (fun j _ _ => hj j (by omega) (by omega)), ⟨h1, h2⟩, (hj _ (by omega) (by omega)).trans d1, ⟨f, (hj _ (by omega) (by omega)).trans d2⟩, p, (hj _ (by omega) (by omega)).trans d3⟩
theorem CW.setD {σ σ1 : jS} {pr : Int} {ln : Nat} {lw : Nat → Int} {bn : Nat → Nat} {cd sz : Nat → Nat → Nat} {ph : Nat → Nat → Int} {mn : Nat} {mg : Nat → Int} {kn : Nat} {kr : Nat → Int} {ks : Nat → Nat} {kt : Nat → Nat → Int} {rd : Nat} {rg : Nat → Int} (h : CW σ pr ln lw bn cd sz ph mn mg kn kr ks kt rd rg) (hj : ∀ j, j ≠ 34 → j ≠ 35 → σ1.2 j = σ.2 j) (h1 : ∃ f, σ1.2 34 = jI 41 f) (h2 : ∃ p, σ1.2 35 = jI 40 p) : CW σ1 pr ln lw bn cd sz ph mn mg kn kr ks kt rd rg := by
  obtain ⟨⟨a1, ⟨gB, a2, a3⟩, a4⟩, b, ⟨l1, l2⟩, k, ⟨m1, m2⟩, d1, -⟩ := h
  exact ⟨⟨(hj _ (by omega) (by omega)).trans a1, ⟨gB, (hj _ (by omega) (by omega)).trans a2, a3⟩, (hj _ (by omega) (by omega)).trans a4⟩, fun c hc => (b c hc).keep (fun j _ _ => hj j (by omega) (by omega)), ⟨(hj _ (by omega) (by omega)).trans l1, (hj _ (by omega) (by omega)).trans l2⟩, k.keep (fun j _ _ => hj j (by omega) (by omega)), ⟨(hj _ (by omega) (by omega)).trans m1, (hj _ (by omega) (by omega)).trans m2⟩, (hj _ (by omega) (by omega)).trans d1, h1, h2⟩
theorem CW.setW {σ σ1 : jS} {pr : Int} {ln : Nat} {lw : Nat → Int} {bn : Nat → Nat} {cd sz : Nat → Nat → Nat} {ph : Nat → Nat → Int} {mn : Nat} {mg : Nat → Int} {kn : Nat} {kr : Nat → Int} {ks : Nat → Nat} {kt : Nat → Nat → Int} {rd : Nat} {rg : Nat → Int} {pr' : Int} {rd' : Nat} {rg' : Nat → Int} (h : CW σ pr ln lw bn cd sz ph mn mg kn kr ks kt rd rg) (hj : ∀ j, j ≠ 5 → j ≠ 36 → σ1.2 j = σ.2 j) (h1 : σ1.2 5 = jO 5 [.ref 6, .ref 19, .ref 21, .ref 31, .ref 33, .ref 36, vI ((rd' : Nat) : Int), vI pr']) (h2 : σ1.2 36 = jI 40 rg') : CW σ1 pr' ln lw bn cd sz ph mn mg kn kr ks kt rd' rg' := by
  obtain ⟨⟨-, ⟨gB, a2, a3⟩, -⟩, b, ⟨l1, l2⟩, k, ⟨m1, m2⟩, d1, ⟨f, d2⟩, p, d3⟩ := h
  exact ⟨⟨h1, ⟨gB, (hj _ (by omega) (by omega)).trans a2, a3⟩, h2⟩, fun c hc => (b c hc).keep (fun j _ _ => hj j (by omega) (by omega)), ⟨(hj _ (by omega) (by omega)).trans l1, (hj _ (by omega) (by omega)).trans l2⟩, k.keep (fun j _ _ => hj j (by omega) (by omega)), ⟨(hj _ (by omega) (by omega)).trans m1, (hj _ (by omega) (by omega)).trans m2⟩, (hj _ (by omega) (by omega)).trans d1, ⟨f, (hj _ (by omega) (by omega)).trans d2⟩, p, (hj _ (by omega) (by omega)).trans d3⟩
set_option maxRecDepth 20000 in
theorem c_X6_requireBook {X : jX} {σ : jS} {x0 x1 x2 x3 x4 x5 x6 : Value} {b : Nat} {gB : Nat → Option Nat} (e5 : σ.2 5 = jO 5 [.ref 6, x0, x1, x2, x3, x4, x5, x6]) (eB : σ.2 6 = jQ 0 3 gB) (hgB : ∀ b, b < 3 → gB b = some (7 + 4 * b)) (hb : b < 3) : JM X mX6_requireBook rX6_requireBook [.ref 5, vI ((b : Nat) : Int)] σ (jEnd (oR (7 + 4 * b)) σ) := by
  refine JM.of (lc := [.ref 5, vI ((b : Nat) : Int)]) rfl ?_
  refine J.ild_n dX6_requireBook_0 rfl ?_
  refine J.if_lt dX6_requireBook_1 (by decide) (tgt := 9) (by unfold inI; omega) (fun hb1 => ?_) (fun hb1 => ?_)
  · first | omega | exact absurd rfl hb1 | exact absurd hb1 (by decide)
  · refine J.ild_n dX6_requireBook_4 rfl ?_
    refine J.iconst dX6_requireBook_5 ?_
    refine J.icmp_lt dX6_requireBook_6 (by decide) (tgt := 19) (by unfold inI; omega) (by unfold inI; omega) (fun hb6 => ?_) (fun hb6 => ?_)
    · refine J.ald_n dX6_requireBook_19 rfl ?_
      refine gf_X6_11 rfl dX6_requireBook_20 e5 ?_
      refine J.ild_n dX6_requireBook_23 rfl ?_
      refine J.aaldB (q := 7 + 4 * b) b dX6_requireBook_24 eB rfl (by omega) (by omega) (hgB b hb) ?_
      refine J.aret dX6_requireBook_25 rfl (by decide) (by decide) ?_
      exact ⟨rfl, rfl⟩
    · first | omega | exact absurd rfl hb6 | exact absurd hb6 (by decide)
set_option maxRecDepth 20000 in
theorem c_X6_requireCode {X : jX} {σ : jS} {c : Nat} (hc : c ≤ 11881375) : JM X mX6_requireCode rX6_requireCode [vI ((c : Nat) : Int)] σ (jEnd oV σ) := by
  refine JM.of (lc := [vI ((c : Nat) : Int)]) rfl ?_
  refine J.ild_n dX6_requireCode_0 rfl ?_
  refine J.if_lt dX6_requireCode_1 (by decide) (tgt := 10) (by unfold inI; omega) (fun hb1 => ?_) (fun hb1 => ?_)
  · first | omega | exact absurd rfl hb1 | exact absurd hb1 (by decide)
  · refine J.ild_n dX6_requireCode_4 rfl ?_
    refine J.ldc (b := 11881375) dX6_requireCode_5 kc_X6_230 (by decide) ?_
    refine J.icmp_le dX6_requireCode_7 (by decide) (tgt := 20) (by unfold inI; omega) (by unfold inI; omega) (fun hb7 => ?_) (fun hb7 => ?_)
    · refine J.vret dX6_requireCode_20 rfl (by decide) (by decide) ?_
      exact ⟨rfl, rfl⟩
    · first | omega | exact absurd rfl hb7 | exact absurd hb7 (by decide)
set_option maxRecDepth 20000 in
theorem c_X6_requirePlace {X : jX} {σ : jS} {p n : Nat} (hp : p < n) (hn : n ≤ 100) : JM X mX6_requirePlace rX6_requirePlace [vI ((p : Nat) : Int), vI ((n : Nat) : Int)] σ (jEnd oV σ) := by
  refine JM.of (lc := [vI ((p : Nat) : Int), vI ((n : Nat) : Int)]) rfl ?_
  refine J.ild_n dX6_requirePlace_0 rfl ?_
  refine J.if_lt dX6_requirePlace_1 (by decide) (tgt := 9) (by unfold inI; omega) (fun hb1 => ?_) (fun hb1 => ?_)
  · first | omega | exact absurd rfl hb1 | exact absurd hb1 (by decide)
  · refine J.ild_n dX6_requirePlace_4 rfl ?_
    refine J.ild_n dX6_requirePlace_5 rfl ?_
    refine J.icmp_lt dX6_requirePlace_6 (by decide) (tgt := 19) (by unfold inI; omega) (by unfold inI; omega) (fun hb6 => ?_) (fun hb6 => ?_)
    · refine J.vret dX6_requirePlace_19 rfl (by decide) (by decide) ?_
      exact ⟨rfl, rfl⟩
    · first | omega | exact absurd rfl hb6 | exact absurd hb6 (by decide)
set_option maxRecDepth 20000 in
theorem c_X6_requireEntry {X : jX} {σ : jS} {i n : Nat} {cd sz : Nat → Nat} {ph : Nat → Int} {e : Nat} (hB : BK σ i n cd sz ph) (hn : n ≤ 40) (he : e < n) : JM X mX6_requireEntry rX6_requireEntry [.ref i, vI ((e : Nat) : Int)] σ (jEnd oV σ) := by
  refine JM.of (lc := [.ref i, vI ((e : Nat) : Int)]) rfl ?_
  refine J.ild_n dX6_requireEntry_0 rfl ?_
  refine J.if_lt dX6_requireEntry_1 (by decide) (tgt := 12) (by unfold inI; omega) (fun hb1 => ?_) (fun hb1 => ?_)
  · first | omega | exact absurd rfl hb1 | exact absurd hb1 (by decide)
  · refine J.ild_n dX6_requireEntry_4 rfl ?_
    refine J.ald_n dX6_requireEntry_5 rfl ?_
    refine gf_X6_135 rfl dX6_requireEntry_6 hB.1 ?_
    refine J.icmp_lt dX6_requireEntry_9 (by decide) (tgt := 22) (by unfold inI; omega) (by unfold inI; omega) (fun hb9 => ?_) (fun hb9 => ?_)
    · refine J.vret dX6_requireEntry_22 rfl (by decide) (by decide) ?_
      exact ⟨rfl, rfl⟩
    · first | omega | exact absurd rfl hb9 | exact absurd hb9 (by decide)
set_option maxRecDepth 20000 in
theorem c_X6_requireGroup {X : jX} {σ : jS} {x0 x1 x2 x4 x5 x6 x7 : Value} {mn : Nat} {g : Nat} (e5 : σ.2 5 = jO 5 [x0, x1, x2, .ref 31, x4, x5, x6, x7]) (e31 : σ.2 31 = jO 4 [.ref 32, vI ((mn : Nat) : Int)]) (hn : mn ≤ 40) (hg : g < mn) : JM X mX6_requireGroup rX6_requireGroup [.ref 5, vI ((g : Nat) : Int)] σ (jEnd oV σ) := by
  refine JM.of (lc := [.ref 5, vI ((g : Nat) : Int)]) rfl ?_
  refine J.ild_n dX6_requireGroup_0 rfl ?_
  refine J.if_lt dX6_requireGroup_1 (by decide) (tgt := 15) (by unfold inI; omega) (fun hb1 => ?_) (fun hb1 => ?_)
  · first | omega | exact absurd rfl hb1 | exact absurd hb1 (by decide)
  · refine J.ild_n dX6_requireGroup_4 rfl ?_
    refine J.ald_n dX6_requireGroup_5 rfl ?_
    refine gf_X6_33 rfl dX6_requireGroup_6 e5 ?_
    refine gf_X6_170 rfl dX6_requireGroup_9 e31 ?_
    refine J.icmp_lt dX6_requireGroup_12 (by decide) (tgt := 25) (by unfold inI; omega) (by unfold inI; omega) (fun hb12 => ?_) (fun hb12 => ?_)
    · refine J.vret dX6_requireGroup_25 rfl (by decide) (by decide) ?_
      exact ⟨rfl, rfl⟩
    · first | omega | exact absurd rfl hb12 | exact absurd hb12 (by decide)
set_option maxRecDepth 20000 in
theorem c_X6_requireCodeWord {X : jX} {σ : jS} {x0 x1 x2 x4 x5 x6 x7 : Value} {mn : Nat} {g : Nat} {mg : Nat → Int} (e5 : σ.2 5 = jO 5 [x0, x1, x2, .ref 31, x4, x5, x6, x7]) (e31 : σ.2 31 = jO 4 [.ref 32, vI ((mn : Nat) : Int)]) (e32 : σ.2 32 = jI 40 mg) (hg : g < 40) (hi : inI (mg g)) (hx : ¬ mg g < 0) : JM X mX6_requireCodeWord rX6_requireCodeWord [.ref 5, vI ((g : Nat) : Int)] σ (jEnd oV σ) := by
  refine JM.of (lc := [.ref 5, vI ((g : Nat) : Int)]) rfl ?_
  refine J.ald_n dX6_requireCodeWord_0 rfl ?_
  refine gf_X6_33 rfl dX6_requireCodeWord_1 e5 ?_
  refine gf_X6_174 rfl dX6_requireCodeWord_4 e31 ?_
  refine J.ild_n dX6_requireCodeWord_7 rfl ?_
  refine J.iald g dX6_requireCodeWord_8 e32 rfl (by omega) (by omega) ?_
  refine J.callS (rm' := rX5_isPlain) [vI (mg g)] dX6_requireCodeWord_9 (c_X5_isPlain_f hi hx) st_X5_isPlain ml_X6_239 sm_X5_isPlain rfl (Nat.le_of_ble_eq_true rfl) (by decide) (by decide) (Nat.le_of_ble_eq_true rfl) (by decide) (by decide) (Or.inl rfl) (fun E9 σ9 hq9 _ => nomatch hq9.1) (fun r9 σ9 hq9 hle9 => ?_)
  obtain ⟨h9, h8⟩ := hq9
  rw [h8]
  clear hle9 h8 σ9
  cases h9
  refine J.if_eq dX6_requireCodeWord_12 (by decide) (tgt := 25) (by unfold inI; omega) (fun hb12 => ?_) (fun hb12 => ?_)
  · refine J.vret dX6_requireCodeWord_25 rfl (by decide) (by decide) ?_
    exact ⟨rfl, rfl⟩
  · first | omega | exact absurd rfl hb12 | exact absurd hb12 (by decide)
