theorem apF_in {n : Nat} {f : Nat → Int} {w : Int} {P : Int → Prop} (hw : P w) (h : ∀ t, P (f t)) (t : Nat) : P (apF n f w t) := by
  unfold apF
  by_cases q : n < 40
  · rw [if_pos q]; unfold jup; split
    · exact hw
    · exact h t
  · rw [if_neg q]; exact h t
theorem alF_in {g : Nat → Int} {P : Int → Prop} : ∀ (k s n : Nat) (f : Nat → Int), (∀ i, i < k → P (g (s + i))) → (∀ t, P (f t)) → ∀ t, P (alF g k s n f t)
  | 0, _, _, _, _, h => h
  | k + 1, s, n, f, hg, h => alF_in k (s + 1) (apN n) _ (fun i hi => by rw [show s + 1 + i = s + (i + 1) by omega]; exact hg _ (by omega)) (fun t => apF_in (hg 0 (by omega)) h t)
theorem CW.keep {σ σ1 : jS} {pr : Int} {ln : Nat} {lw : Nat → Int} {bn : Nat → Nat} {cd sz : Nat → Nat → Nat} {ph : Nat → Nat → Int} {mn : Nat} {mg : Nat → Int} {kn : Nat} {kr : Nat → Int} {ks : Nat → Nat} {kt : Nat → Nat → Int} {rd : Nat} {rg : Nat → Int} (h : CW σ pr ln lw bn cd sz ph mn mg kn kr ks kt rd rg) (hj : ∀ j, j < 37 → σ1.2 j = σ.2 j) : CW σ1 pr ln lw bn cd sz ph mn mg kn kr ks kt rd rg := by
  obtain ⟨⟨a1, ⟨gB, a2, a3⟩, a4⟩, b, ⟨l1, l2⟩, k, ⟨m1, m2⟩, d1, ⟨f, d2⟩, p, d3⟩ := h
  exact ⟨⟨(hj _ (by omega)).trans a1, ⟨gB, (hj _ (by omega)).trans a2, a3⟩, (hj _ (by omega)).trans a4⟩, fun c hc => (b c hc).keep (fun j _ _ => hj j (by omega)), ⟨(hj _ (by omega)).trans l1, (hj _ (by omega)).trans l2⟩, k.keep (fun j _ _ => hj j (by omega)), ⟨(hj _ (by omega)).trans m1, (hj _ (by omega)).trans m2⟩, (hj _ (by omega)).trans d1, ⟨f, (hj _ (by omega)).trans d2⟩, p, (hj _ (by omega)).trans d3⟩
theorem KI_0 : KI 0 (flF (fun _ => 0) 492 (-1)) (fun _ => 0) (fun _ _ => 0) := by
  refine ⟨by omega, fun k hk => absurd hk (by omega), fun t ht => ?_, fun k i hk => absurd hk (by omega), fun k i hi hk ht => ?_, fun s a hs => rfl⟩
  · unfold flF; rw [if_pos ht]; omega
  · unfold flF; rw [if_pos ht]
theorem CI_0 : CI 2 0 (fun _ => 0) (fun _ => 0) (fun _ _ => 0) (fun _ _ => 0) (fun _ _ => 0) 0 (fun _ => 0) 0 (flF (fun _ => 0) 492 (-1)) (fun _ => 0) (fun _ _ => 0) 0 (fun _ => 0) :=
  ⟨by decide, ⟨by decide, fun _ => (show (0 : Int) ≤ 0 ∧ (0 : Int) ≤ 9999 by decide)⟩, fun _ _ => ⟨(show (0 : Nat) ≤ 40 by decide), fun _ => (show (0 : Nat) ≤ 11881375 by decide), fun e he => absurd (show e < 0 from he) (by omega), fun _ => (show (0 : Int) ≤ 0 ∧ (0 : Int) ≤ 9999 by decide)⟩, ⟨by decide, fun _ => (show (-10000 : Int) ≤ 0 ∧ (0 : Int) ≤ 11881375 by decide)⟩, KI_0, by decide, fun _ => (show (0 : Int) ≤ 0 ∧ (0 : Int) ≤ 3 by decide)⟩
/-! ===== what stays in bounds ===== -/
theorem bkUp {bn : Nat → Nat} {cd sz : Nat → Nat → Nat} {ph : Nat → Nat → Int} (h : (∀ b, b < 3 → bn b ≤ 40 ∧ (∀ e, cd b e ≤ 11881375) ∧ (∀ e, e < bn b → 1 ≤ sz b e ∧ sz b e ≤ 6) ∧ ∀ t, 0 ≤ ph b t ∧ ph b t ≤ 9999)) (b : Nat) {n : Nat} {C S : Nat → Nat} {P : Nat → Int} (h1 : n ≤ 40) (h2 : ∀ e, C e ≤ 11881375) (h3 : ∀ e, e < n → 1 ≤ S e ∧ S e ≤ 6) (h4 : ∀ t, 0 ≤ P t ∧ P t ≤ 9999) : ∀ b', b' < 3 → jup bn b n b' ≤ 40 ∧ (∀ e, jup cd b C b' e ≤ 11881375) ∧ (∀ e, e < jup bn b n b' → 1 ≤ jup sz b S b' e ∧ jup sz b S b' e ≤ 6) ∧ ∀ t, 0 ≤ jup ph b P b' t ∧ jup ph b P b' t ≤ 9999 := fun b' hb' => by
  by_cases q : b' = b
  · subst q
    rw [jup_eq, jup_eq, jup_eq, jup_eq]
    exact ⟨h1, h2, h3, h4⟩
  · rw [jup_ne _ _ q, jup_ne _ _ q, jup_ne _ _ q, jup_ne _ _ q]
    exact h b' hb'
theorem jupB {f : Nat → Int} {i : Nat} {x lo hi : Int} (h : ∀ t, lo ≤ f t ∧ f t ≤ hi) (hx : lo ≤ x ∧ x ≤ hi) (t : Nat) : lo ≤ jup f i x t ∧ jup f i x t ≤ hi := by
  unfold jup
  split
  · exact hx
  · exact h t
theorem enU_bd {pk : Nat → Int} {cd sz : Nat → Nat} {lw : Nat → Int} {ln : Nat} (hcd : ∀ e, cd e ≤ 11881375) (hlw : ∀ t, 0 ≤ lw t ∧ lw t ≤ 9999) : ∀ (t a n : Nat) (g : Nat → Int), n + t = 40 → (∀ i, -10000 ≤ g i ∧ g i ≤ 11881375) → (enU pk cd sz lw ln t a n g).1 ≤ 40 ∧ ∀ i, -10000 ≤ (enU pk cd sz lw ln t a n g).2 i ∧ (enU pk cd sz lw ln t a n g).2 i ≤ 11881375
  | 0, a, n, g, hn, hg => ⟨by show n ≤ 40; omega, hg⟩
  | t + 1, a, n, g, hn, hg => by
    show (if a < ln then (if pk a = -1 then enU pk cd sz lw ln t (a + 1) (n + 1) (jup g n (-1 - lw a)) else enU pk cd sz lw ln t (a + sz (pk a).toNat) (n + 1) (jup g n ((cd (pk a).toNat : Nat) : Int))) else (n, g)).1 ≤ 40 ∧ ∀ i, -10000 ≤ (if a < ln then (if pk a = -1 then enU pk cd sz lw ln t (a + 1) (n + 1) (jup g n (-1 - lw a)) else enU pk cd sz lw ln t (a + sz (pk a).toNat) (n + 1) (jup g n ((cd (pk a).toNat : Nat) : Int))) else (n, g)).2 i ∧ (if a < ln then (if pk a = -1 then enU pk cd sz lw ln t (a + 1) (n + 1) (jup g n (-1 - lw a)) else enU pk cd sz lw ln t (a + sz (pk a).toNat) (n + 1) (jup g n ((cd (pk a).toNat : Nat) : Int))) else (n, g)).2 i ≤ 11881375
    by_cases h1 : a < ln
    · rw [if_pos h1]
      by_cases h2 : pk a = -1
      · rw [if_pos h2]
        exact enU_bd hcd hlw t _ _ _ (by omega) (jupB hg (by have := hlw a; omega))
      · rw [if_neg h2]
        exact enU_bd hcd hlw t _ _ _ (by omega) (jupB hg (by have := hcd (pk a).toNat; omega))
    · rw [if_neg h1]
      exact ⟨by show n ≤ 40; omega, hg⟩
theorem rdF_bd {n : Nat} {cd sz : Nat → Nat} {ph w : Nat → Int} {x : Int} {l : Nat} (hph : ∀ t, 0 ≤ ph t ∧ ph t ≤ 9999) (hw : ∀ t, 0 ≤ w t ∧ w t ≤ 9999) (hx : -10000 ≤ x) (t : Nat) : 0 ≤ rdF n cd sz ph x l w t ∧ rdF n cd sz ph x l w t ≤ 9999 := by
  unfold rdF
  by_cases h1 : x < 0
  · rw [if_pos h1]; exact apF_in (P := fun y => 0 ≤ y ∧ y ≤ 9999) (by omega) hw t
  · rw [if_neg h1]
    by_cases h2 : rdR n cd x = 3
    · rw [if_pos h2]; exact hw t
    · rw [if_neg h2]; exact alF_in (P := fun y => 0 ≤ y ∧ y ≤ 9999) _ _ _ _ (fun i _ => hph _) hw t
theorem dcU_bd {n : Nat} {cd sz : Nat → Nat} {ph mg : Nat → Int} (hph : ∀ t, 0 ≤ ph t ∧ ph t ≤ 9999) (hmg : ∀ t, -10000 ≤ mg t ∧ mg t ≤ 11881375) : ∀ (t g l : Nat) (w r : Nat → Int) (x : Int), l ≤ 40 → (∀ t, 0 ≤ w t ∧ w t ≤ 9999) → (∀ t, 0 ≤ r t ∧ r t ≤ 3) → 0 ≤ x → (dcU n cd sz ph mg t g l w r x).1 ≤ 40 ∧ (∀ i, 0 ≤ (dcU n cd sz ph mg t g l w r x).2.1 i ∧ (dcU n cd sz ph mg t g l w r x).2.1 i ≤ 9999) ∧ (∀ i, 0 ≤ (dcU n cd sz ph mg t g l w r x).2.2.1 i ∧ (dcU n cd sz ph mg t g l w r x).2.2.1 i ≤ 3) ∧ 0 ≤ (dcU n cd sz ph mg t g l w r x).2.2.2 ∧ (dcU n cd sz ph mg t g l w r x).2.2.2 ≤ x + (t : Int)
  | 0, g, l, w, r, x, h1, h2, h3, h4 => ⟨h1, h2, h3, h4, by show x ≤ x + ((0 : Nat) : Int); omega⟩
  | t + 1, g, l, w, r, x, h1, h2, h3, h4 => by
    have ih := dcU_bd (n := n) (cd := cd) (sz := sz) hph hmg t (g + 1) (rdN n cd sz (mg g) l) (rdF n cd sz ph (mg g) l w) (jup r g (rdR n cd (mg g))) (if rdR n cd (mg g) = 3 then x + 1 else x) (rdN_le h1) (fun t => rdF_bd hph h2 (hmg g).1 t) (jupB h3 (rdR_bd _ _ _)) (by split <;> omega)
    refine ⟨ih.1, ih.2.1, ih.2.2.1, ih.2.2.2.1, Int.le_trans ih.2.2.2.2 ?_⟩
    split <;> omega
theorem lnU_bd {kn : Nat} {kr : Nat → Int} {ks : Nat → Nat} {kt : Nat → Nat → Int} {pr : Int} (hki : KI kn kr ks kt) : ∀ (t d n : Nat) (C S : Nat → Nat) (P w : Nat → Int), n ≤ 40 → (∀ e, C e ≤ 11881375) → (∀ e, e < n → 1 ≤ S e ∧ S e ≤ 6) → (∀ t, 0 ≤ P t ∧ P t ≤ 9999) → (∀ t, 0 ≤ w t ∧ w t ≤ 9999) → (lnU kn kr kt pr t d n C S P w).1 ≤ d + t ∧ (lnU kn kr kt pr t d n C S P w).2.1 ≤ 40 ∧ (∀ e, (lnU kn kr kt pr t d n C S P w).2.2.1 e ≤ 11881375) ∧ (∀ e, e < (lnU kn kr kt pr t d n C S P w).2.1 → 1 ≤ (lnU kn kr kt pr t d n C S P w).2.2.2.1 e ∧ (lnU kn kr kt pr t d n C S P w).2.2.2.1 e ≤ 6) ∧ (∀ i, 0 ≤ (lnU kn kr kt pr t d n C S P w).2.2.2.2.1 i ∧ (lnU kn kr kt pr t d n C S P w).2.2.2.2.1 i ≤ 9999) ∧ ∀ i, 0 ≤ (lnU kn kr kt pr t d n C S P w).2.2.2.2.2 i ∧ (lnU kn kr kt pr t d n C S P w).2.2.2.2.2 i ≤ 9999
  | 0, d, n, C, S, P, w, h1, h2, h3, h4, h5 => ⟨Nat.le_refl _, h1, h2, h3, h4, h5⟩
  | t + 1, d, n, C, S, P, w, h1, h2, h3, h4, h5 => by
    have hp := hki.pro (B := lnB kn kr kt pr n S P) rfl
    by_cases h6 : 0 < (lnB kn kr kt pr n S P).1
    · obtain ⟨hz, hf⟩ := hp.2 h6
      have hw : ∀ t, 0 ≤ alF kr (lnB kn kr kt pr n S P).2.2 (lnB kn kr kt pr n S P).2.1 0 w t ∧ alF kr (lnB kn kr kt pr n S P).2.2 (lnB kn kr kt pr n S P).2.1 0 w t ≤ 9999 := alF_in (P := fun y => 0 ≤ y ∧ y ≤ 9999) _ _ _ _ (fun i hi => hki.pos hf hi) h5
      rcases lnC_rng (n := n) (C := C) with hc | ⟨hn2, c, hc, hc2, -⟩
      · rw [show lnU kn kr kt pr (t + 1) d n C S P w = (d, n, C, S, P, alF kr (lnB kn kr kt pr n S P).2.2 (lnB kn kr kt pr n S P).2.1 0 w) from (if_pos h6).trans (if_pos hc)]
        exact ⟨by show d ≤ d + (t + 1); omega, h1, h2, h3, h4, hw⟩
      · rw [show lnU kn kr kt pr (t + 1) d n C S P w = lnU kn kr kt pr t (d + 1) (n + 1) (jup C n c) (jup S n (lnB kn kr kt pr n S P).2.2) (jcp kr P (lnB kn kr kt pr n S P).2.1 (n * 6) (lnB kn kr kt pr n S P).2.2) (alF kr (lnB kn kr kt pr n S P).2.2 (lnB kn kr kt pr n S P).2.1 0 w) from (if_pos h6).trans ((if_neg (by omega)).trans (by rw [hc, Int.toNat_natCast])), show d + (t + 1) = d + 1 + t by omega]
        refine lnU_bd hki t (d + 1) (n + 1) _ _ _ _ (by omega) (fun e => ?_) (fun e he => ?_) (fun i => ?_) hw
        · unfold jup; split
          · exact hc2
          · exact h2 e
        · by_cases hen : e = n
          · subst hen; rw [jup_eq]; exact ⟨by omega, hz.2⟩
          · rw [jup_ne _ _ hen]; exact h3 e (by omega)
        · unfold jcp; split
          · exact hki.pos hf (by omega)
          · exact h4 i
    · rw [show lnU kn kr kt pr (t + 1) d n C S P w = (d, n, C, S, P, w) from if_neg h6]
      exact ⟨by show d ≤ d + (t + 1); omega, h1, h2, h3, h4, h5⟩
theorem csL_bd {m : Nat → Int} {pr : Int} (hp : 1 ≤ pr ∧ pr ≤ 5) : ∀ (t a : Nat), 0 ≤ csL m pr t a ∧ csL m pr t a ≤ 5 * (t : Int)
  | 0, _ => ⟨Int.le_refl _, Int.le_refl _⟩
  | t + 1, a => by
    have ih := csL_bd (m := m) hp t (a + 1)
    show 0 ≤ (if m a < 0 then pr else 1) + csL m pr t (a + 1) ∧ (if m a < 0 then pr else 1) + csL m pr t (a + 1) ≤ _
    split <;> omega
theorem usL_bd {lu : Nat → Int} {m : Nat} (hm : 0 < m) (h : ∀ i, i < m → 0 ≤ lu i ∧ lu i ≤ 100) : ∀ (t x : Nat), 0 ≤ usL lu m t x ∧ usL lu m t x ≤ 100 * (t : Int)
  | 0, _ => ⟨Int.le_refl _, Int.le_refl _⟩
  | t + 1, x => by
    have ih := usL_bd (lu := lu) hm h t (x / m)
    have := h (x % m) (Nat.mod_lt _ hm)
    show 0 ≤ lu (x % m) + usL lu m t (x / m) ∧ lu (x % m) + usL lu m t (x / m) ≤ _
    omega
theorem tmL_bd {lu du m : Nat → Int} (h1 : ∀ i, i < 26 → 0 ≤ lu i ∧ lu i ≤ 100) (h2 : ∀ i, i < 10 → 0 ≤ du i ∧ du i ≤ 100) : ∀ (t a : Nat), 0 ≤ tmL lu du m t a ∧ tmL lu du m t a ≤ 1000 * (t : Int)
  | 0, _ => ⟨Int.le_refl _, Int.le_refl _⟩
  | t + 1, a => by
    have ih := tmL_bd (m := m) h1 h2 t (a + 1)
    have u1 := usL_bd (m := 10) (by omega) h2 4 (-1 - m a).toNat
    have u2 := usL_bd (m := 26) (by omega) h1 5 (m a).toNat
    have hg : 0 ≤ tmG lu du (m a) ∧ tmG lu du (m a) ≤ 600 := by unfold tmG; split <;> omega
    show 0 ≤ (if a = 0 then 0 else 7) + tmG lu du (m a) + tmL lu du m t (a + 1) ∧ (if a = 0 then 0 else 7) + tmG lu du (m a) + tmL lu du m t (a + 1) ≤ _
    split <;> omega
theorem ftt_in {n : Nat} {C : Nat → Nat} {c : Nat} : inI (ftt n C c) := by
  have : ftt n C c = -1 ∨ ∃ k : Nat, ftt n C c = ((k : Nat) : Int) ∧ k ≤ 11881375 ∧ rsn n C k = 0 := by
    unfold ftt
    by_cases h : 40 ≤ n
    · rw [if_pos h]; exact Or.inl rfl
    · rw [if_neg h]; exact ftU_rng _ _
  unfold inI
  rcases this with h | ⟨k, h, h2, -⟩ <;> omega
theorem fnU_in {cd : Nat → Nat} {c n : Nat} (hn : n ≤ 40) : inI (fnU cd c n 0) := by
  unfold inI
  rcases fnU_rng (cd := cd) (c := c) (n := n) n 0 (by omega) with h | ⟨k, h, h2⟩ <;> omega
