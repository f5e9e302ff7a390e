/-! ===== what the kept lines' counts say ===== -/
theorem smU_refl {f : Nat → Int} {k a : Nat} : smU f f k a a = true := (smU_iff k a a).mpr fun _ _ => rfl
theorem smU_symm {f g : Nat → Int} {k a b : Nat} (h : smU f g k a b = true) : smU g f k b a = true := (smU_iff k b a).mpr fun t ht => ((smU_iff k a b).mp h t ht).symm
theorem smU_trans {f g h : Nat → Int} {k a b c : Nat} (h1 : smU f g k a b = true) (h2 : smU g h k b c = true) : smU f h k a c = true := (smU_iff k a c).mpr fun t ht => ((smU_iff k a b).mp h1 t ht).trans ((smU_iff k b c).mp h2 t ht)
theorem smU_congr {f f' g g' : Nat → Int} {k a b : Nat} (h1 : ∀ t, t < k → f (a + t) = f' (a + t)) (h2 : ∀ t, t < k → g (b + t) = g' (b + t)) : smU f g k a b = smU f' g' k a b := by
  rw [Bool.eq_iff_iff, smU_iff, smU_iff]
  exact ⟨fun h t ht => by rw [← h1 t ht, ← h2 t ht]; exact h t ht, fun h t ht => by rw [h1 t ht, h2 t ht]; exact h t ht⟩
theorem ffU_spec {kr : Nat → Int} {k a : Nat} : ∀ (t f : Nat), f + t = a → smU kr kr k (ffU kr k a t f) a = true ∧ ∀ g, f ≤ g → g < ffU kr k a t f → smU kr kr k g a = false
  | 0, f, h => ⟨smU_refl, fun g h1 h2 => absurd h2 (by show ¬ g < a; omega)⟩
  | t + 1, f, h => by
    show smU kr kr k (if smU kr kr k f a = true then f else ffU kr k a t (f + 1)) a = true ∧ ∀ g, f ≤ g → g < (if smU kr kr k f a = true then f else ffU kr k a t (f + 1)) → smU kr kr k g a = false
    by_cases h1 : smU kr kr k f a = true
    · rw [if_pos h1]
      exact ⟨h1, fun g h2 h3 => absurd h3 (by omega)⟩
    · rw [if_neg h1]
      obtain ⟨i1, i2⟩ := ffU_spec (kr := kr) (k := k) (a := a) t (f + 1) (by omega)
      refine ⟨i1, fun g h2 h3 => ?_⟩
      by_cases hg : g = f
      · subst hg; simpa using h1
      · exact i2 g (by omega) h3
theorem ffn_sm {kr : Nat → Int} {k a : Nat} : smU kr kr k (ffn kr k a) a = true := (ffU_spec a 0 (by omega)).1
theorem ffn_min {kr : Nat → Int} {k a g : Nat} (h : g < ffn kr k a) : smU kr kr k g a = false := (ffU_spec a 0 (by omega)).2 g (Nat.zero_le _) h
theorem ffn_le_of {kr : Nat → Int} {k a g : Nat} (h : smU kr kr k g a = true) : ffn kr k a ≤ g := by
  by_cases h1 : g < ffn kr k a
  · rw [ffn_min h1] at h; cases h
  · omega
theorem ffn_eq {kr : Nat → Int} {k a b : Nat} (h : smU kr kr k a b = true) : ffn kr k a = ffn kr k b := by
  have h1 : ffn kr k b ≤ ffn kr k a := ffn_le_of (smU_trans ffn_sm h)
  have h2 : ffn kr k a ≤ ffn kr k b := ffn_le_of (smU_trans ffn_sm (smU_symm h))
  omega
theorem ffn_ffn {kr : Nat → Int} {k a : Nat} : ffn kr k (ffn kr k a) = ffn kr k a := ffn_eq ffn_sm
theorem ffU_congr {kr kr' : Nat → Int} {k a : Nat} (h : ∀ t, t < a + k → kr t = kr' t) : ∀ (t f : Nat), f + t = a → ffU kr k a t f = ffU kr' k a t f
  | 0, _, _ => rfl
  | t + 1, f, hf => by
    show (if smU kr kr k f a = true then f else ffU kr k a t (f + 1)) = (if smU kr' kr' k f a = true then f else ffU kr' k a t (f + 1))
    rw [smU_congr (f := kr) (f' := kr') (g := kr) (g' := kr') (fun t ht => h _ (by omega)) (fun t ht => h _ (by omega)), ffU_congr h t (f + 1) (by omega)]
theorem ffn_congr {kr kr' : Nat → Int} {k a : Nat} (h : ∀ t, t < a + k → kr t = kr' t) : ffn kr k a = ffn kr' k a := ffU_congr h a 0 (by omega)
/-- findings one behind the other, none reaching into the next -/
def gU (P : Nat → Bool) (z m : Nat) : Nat → Nat → Nat
  | 0, _ => 0
  | t + 1, p => if p + z ≤ m then (if P p = true then 1 + gU P z m t (p + z) else gU P z m t (p + 1)) else 0
theorem gU_out {P : Nat → Bool} {z m p : Nat} (h : ¬ p + z ≤ m) : ∀ t, gU P z m t p = 0
  | 0 => rfl
  | _ + 1 => if_neg h
theorem gU_fuel {P : Nat → Bool} {z m : Nat} (hz : 1 ≤ z) : ∀ (t t' p : Nat), m ≤ p + t → m ≤ p + t' → gU P z m t p = gU P z m t' p
  | 0, t', p, h, _ => (gU_out (by omega) t').symm
  | t + 1, 0, p, _, h => gU_out (by omega) (t + 1)
  | t + 1, t' + 1, p, h, h' => by
    show (if p + z ≤ m then (if P p = true then 1 + gU P z m t (p + z) else gU P z m t (p + 1)) else 0) = (if p + z ≤ m then (if P p = true then 1 + gU P z m t' (p + z) else gU P z m t' (p + 1)) else 0)
    rw [gU_fuel hz t t' (p + z) (by omega) (by omega), gU_fuel hz t t' (p + 1) (by omega) (by omega)]
theorem gU_step {P : Nat → Bool} {z m p : Nat} (hz : 1 ≤ z) (h : p + z ≤ m) : gU P z m m p = if P p = true then 1 + gU P z m m (p + z) else gU P z m m (p + 1) := by
  rw [gU_fuel hz m (m + 1) p (by omega) (by omega)]
  exact if_pos h
theorem gU_congr {P P' : Nat → Bool} {z m : Nat} (h : ∀ p, p + z ≤ m → P p = P' p) : ∀ (t p : Nat), gU P z m t p = gU P' z m t p
  | 0, _ => rfl
  | t + 1, p => by
    show (if p + z ≤ m then (if P p = true then 1 + gU P z m t (p + z) else gU P z m t (p + 1)) else 0) = (if p + z ≤ m then (if P' p = true then 1 + gU P' z m t (p + z) else gU P' z m t (p + 1)) else 0)
    by_cases hp : p + z ≤ m
    · rw [if_pos hp, if_pos hp, h p hp, gU_congr h t, gU_congr h t]
    · rw [if_neg hp, if_neg hp]
theorem gU_le {P : Nat → Bool} {z m : Nat} : ∀ (t p : Nat), gU P z m t p ≤ t
  | 0, _ => Nat.le_refl _
  | t + 1, p => by
    have h1 := gU_le (P := P) (z := z) (m := m) t (p + z)
    have h2 := gU_le (P := P) (z := z) (m := m) t (p + 1)
    show (if p + z ≤ m then (if P p = true then 1 + gU P z m t (p + z) else gU P z m t (p + 1)) else 0) ≤ t + 1
    split
    · split <;> omega
    · omega
theorem gU_pos {P : Nat → Bool} {z m : Nat} : ∀ (t p : Nat), 0 < gU P z m t p → ∃ q, q + z ≤ m ∧ P q = true
  | 0, _, h => absurd h (by show ¬ 0 < 0; omega)
  | t + 1, p, h => by
    by_cases hp : p + z ≤ m
    · by_cases hq : P p = true
      · exact ⟨p, hp, hq⟩
      · have h' : 0 < gU P z m t (p + 1) := by
          have : gU P z m (t + 1) p = gU P z m t (p + 1) := (if_pos hp).trans (if_neg hq)
          rw [this] at h; exact h
        exact gU_pos t (p + 1) h'
    · rw [gU_out hp] at h
      exact absurd h (by omega)
/-- what counting a line adds -/
theorem cpU_eq {kr : Nat → Int} {z st m f0 : Nat} (hz : 1 ≤ z) : ∀ (t p : Nat) (tt : Nat → Int) (fr : Nat → Nat), p + t = m → cpU kr z (st + m) t (st + p) tt fr f0 = tt f0 + ((gU (fun p => decide (ffn kr z (st + p) = f0)) z m m (max p (fr f0 - st)) : Nat) : Int)
  | 0, p, tt, fr, h => by
    show tt f0 = _
    rw [gU_out (by omega)]
    simp
  | t + 1, p, tt, fr, h => by
    show (if st + p + z ≤ st + m then (if fr (ffn kr z (st + p)) ≤ st + p then cpU kr z (st + m) t (st + (p + 1)) (jup tt (ffn kr z (st + p)) (tt (ffn kr z (st + p)) + 1)) (jup fr (ffn kr z (st + p)) (st + p + z)) else cpU kr z (st + m) t (st + (p + 1)) tt fr) else tt) f0 = _
    by_cases hp : st + p + z ≤ st + m
    · rw [if_pos hp]
      by_cases hf : fr (ffn kr z (st + p)) ≤ st + p
      · rw [if_pos hf, cpU_eq hz t (p + 1) _ _ (by omega)]
        by_cases h0 : ffn kr z (st + p) = f0
        · rw [h0] at hf ⊢
          rw [jup_eq, jup_eq, show max (p + 1) (st + p + z - st) = p + z by omega, show max p (fr f0 - st) = p by omega, gU_step hz (show p + z ≤ m by omega), if_pos (decide_eq_true h0)]
          omega
        · rw [jup_ne _ _ (Ne.symm h0), jup_ne _ _ (Ne.symm h0)]
          by_cases h1 : fr f0 - st ≤ p
          · rw [show max p (fr f0 - st) = p by omega, show max (p + 1) (fr f0 - st) = p + 1 by omega, gU_step (p := p) hz (by omega), if_neg (by simpa using h0)]
          · rw [show max p (fr f0 - st) = max (p + 1) (fr f0 - st) by omega]
      · rw [if_neg hf, cpU_eq hz t (p + 1) _ _ (by omega)]
        by_cases h0 : ffn kr z (st + p) = f0
        · rw [h0] at hf
          rw [show max p (fr f0 - st) = max (p + 1) (fr f0 - st) by omega]
        · by_cases h1 : fr f0 - st ≤ p
          · rw [show max p (fr f0 - st) = p by omega, show max (p + 1) (fr f0 - st) = p + 1 by omega, gU_step (p := p) hz (by omega), if_neg (by simpa using h0)]
          · rw [show max p (fr f0 - st) = max (p + 1) (fr f0 - st) by omega]
    · rw [if_neg hp, gU_out (by omega)]
      simp
/-- findings in all kept lines of the phrase that is first found at a -/
def gT (kr : Nat → Int) (ks : Nat → Nat) (z a : Nat) : Nat → Nat
  | 0 => 0
  | k + 1 => gT kr ks z a k + gU (fun p => decide (ffn kr z (k * 41 + p) = a)) z (ks k) (ks k) 0
def KI (kn : Nat) (kr : Nat → Int) (ks : Nat → Nat) (kt : Nat → Nat → Int) : Prop :=
  kn ≤ 12 ∧ (∀ k, k < kn → 1 ≤ ks k ∧ ks k ≤ 40) ∧ (∀ t, t < 492 → -1 ≤ kr t ∧ kr t ≤ 9999) ∧ (∀ k i, k < kn → i < ks k → 0 ≤ kr (k * 41 + i)) ∧ (∀ k i, i < 41 → (kn ≤ k ∨ ks k ≤ i) → k * 41 + i < 492 → kr (k * 41 + i) = -1) ∧ ∀ s a, s < 5 → kt s a = ((gT kr ks (s + 2) a kn : Nat) : Int)
theorem gT_congr {kr kr' : Nat → Int} {ks ks' : Nat → Nat} {z a : Nat} : ∀ k, (∀ j, j < k → ks j = ks' j ∧ ks j ≤ 40) → (∀ t, t < k * 41 → kr t = kr' t) → gT kr ks z a k = gT kr' ks' z a k
  | 0, _, _ => rfl
  | k + 1, h1, h2 => by
    show gT kr ks z a k + _ = gT kr' ks' z a k + _
    have hk := h1 k (by omega)
    rw [gT_congr k (fun j hj => h1 j (by omega)) (fun t ht => h2 t (by omega)), ← hk.1]
    congr 1
    refine gU_congr (fun p hp => ?_) _ _
    rw [ffn_congr (fun t ht => h2 t (by omega))]
theorem gT_le {kr : Nat → Int} {ks : Nat → Nat} {z a : Nat} : ∀ k, (∀ j, j < k → ks j ≤ 40) → gT kr ks z a k ≤ k * 40
  | 0, _ => Nat.zero_le _
  | k + 1, h => by
    have h1 := gT_le (kr := kr) (z := z) (a := a) k (fun j hj => h j (by omega))
    have h2 := gU_le (P := fun p => decide (ffn kr z (k * 41 + p) = a)) (z := z) (m := ks k) (ks k) 0
    have h3 := h k (by omega)
    show gT kr ks z a k + _ ≤ _
    omega
theorem gT_pos {kr : Nat → Int} {ks : Nat → Nat} {z a : Nat} : ∀ k, 0 < gT kr ks z a k → ∃ j p, j < k ∧ p + z ≤ ks j ∧ ffn kr z (j * 41 + p) = a
  | 0, h => absurd h (by show ¬ 0 < 0; omega)
  | k + 1, h => by
    by_cases h1 : 0 < gT kr ks z a k
    · obtain ⟨j, p, h2, h3, h4⟩ := gT_pos k h1
      exact ⟨j, p, by omega, h3, h4⟩
    · have h2 : 0 < gU (fun p => decide (ffn kr z (k * 41 + p) = a)) z (ks k) (ks k) 0 := by
        have : gT kr ks z a (k + 1) = gT kr ks z a k + gU (fun p => decide (ffn kr z (k * 41 + p) = a)) z (ks k) (ks k) 0 := rfl
        omega
      obtain ⟨p, h3, h4⟩ := gU_pos _ _ h2
      exact ⟨k, p, by omega, h3, of_decide_eq_true h4⟩
/-- a place where a phrase of this size fits on its line -/
def fits (kn : Nat) (ks : Nat → Nat) (z a : Nat) : Prop := ∃ k p, k < kn ∧ p + z ≤ ks k ∧ a = k * 41 + p
theorem KI.fit {kn : Nat} {kr : Nat → Int} {ks : Nat → Nat} {kt : Nat → Nat → Int} (h : KI kn kr ks kt) {z a b : Nat} (hz : 1 ≤ z) (ha : fits kn ks z a) (hb : b + z ≤ 492) (hs : smU kr kr z b a = true) : fits kn ks z b := by
  obtain ⟨h1, h2, h3, h4, h5, -⟩ := h
  obtain ⟨k, p, hk, hp, rfl⟩ := ha
  rw [smU_iff] at hs
  have hpos : ∀ t, t < z → 0 ≤ kr (b + t) := fun t ht => by
    rw [hs t ht, Nat.add_assoc]
    exact h4 k (p + t) hk (by omega)
  have hbk : b = b / 41 * 41 + b % 41 := by omega
  have hm : b % 41 < 41 := Nat.mod_lt _ (by omega)
  have h0 := hpos 0 (by omega)
  have hin : b / 41 < kn ∧ b % 41 < ks (b / 41) := by
    by_cases hq : b / 41 < kn ∧ b % 41 < ks (b / 41)
    · exact hq
    · have := h5 (b / 41) (b % 41) hm (by omega) (by omega)
      rw [← hbk] at this
      rw [Nat.add_zero] at h0
      omega
  refine ⟨b / 41, b % 41, hin.1, ?_, hbk⟩
  have hk2 := h2 (b / 41) hin.1
  by_cases hq : b % 41 + z ≤ ks (b / 41)
  · exact hq
  · have h6 := h5 (b / 41) (ks (b / 41)) (by omega) (Or.inr (Nat.le_refl _)) (by omega)
    have h7 := hpos (ks (b / 41) - b % 41) (by omega)
    rw [show b + (ks (b / 41) - b % 41) = b / 41 * 41 + ks (b / 41) by omega] at h7
    omega
theorem fits_lt {kn : Nat} {kr : Nat → Int} {ks : Nat → Nat} {kt : Nat → Nat → Int} (h : KI kn kr ks kt) {z a : Nat} (ha : fits kn ks z a) : a + z ≤ kn * 41 ∧ a + z ≤ 492 := by
  obtain ⟨k, p, hk, hp, rfl⟩ := ha
  have := h.2.1 k hk
  have := h.1
  omega
theorem KI.ffit {kn : Nat} {kr : Nat → Int} {ks : Nat → Nat} {kt : Nat → Nat → Int} (h : KI kn kr ks kt) {z a : Nat} (hz : 1 ≤ z) (ha : fits kn ks z a) : fits kn ks z (ffn kr z a) :=
  h.fit hz ha (by have := fits_lt h ha; have := ffn_le (kr := kr) (k := z) (a := a); omega) ffn_sm
theorem KI.rep {kn : Nat} {kr : Nat → Int} {ks : Nat → Nat} {kt : Nat → Nat → Int} (h : KI kn kr ks kt) {z a : Nat} (hz : 1 ≤ z) (hp : 0 < gT kr ks z a kn) : fits kn ks z a ∧ ffn kr z a = a := by
  obtain ⟨k, p, hk, hp2, rfl⟩ := gT_pos kn hp
  exact ⟨h.ffit hz ⟨k, p, hk, hp2, rfl⟩, ffn_ffn⟩
theorem KI.bd {kn : Nat} {kr : Nat → Int} {ks : Nat → Nat} {kt : Nat → Nat → Int} (h : KI kn kr ks kt) (s a : Nat) (hs : s < 5) : 0 ≤ kt s a ∧ kt s a ≤ 1000 := by
  rw [h.2.2.2.2.2 s a hs]
  have := gT_le (kr := kr) (z := s + 2) (a := a) kn (fun j hj => (h.2.1 j hj).2)
  have := h.1
  omega
theorem KI.bd2 {kn : Nat} {kr : Nat → Int} {ks : Nat → Nat} {kt : Nat → Nat → Int} (h : KI kn kr ks kt) (s a : Nat) (hs : s < 5) (h2 : 2 ≤ kt s a) : a + (s + 2) ≤ 492 := by
  rw [h.2.2.2.2.2 s a hs] at h2
  exact (fits_lt h (h.rep (z := s + 2) (by omega) (by omega)).1).2
theorem KI.add {kn : Nat} {kr : Nat → Int} {ks : Nat → Nat} {kt : Nat → Nat → Int} (h : KI kn kr ks kt) {m : Nat} {w : Nat → Int} (hk : kn < 12) (hm : 1 ≤ m ∧ m ≤ 40) (hw : ∀ t, 0 ≤ w t ∧ w t ≤ 9999) : KI (kn + 1) (jcp w kr 0 (kn * 41) m) (jup ks kn m) (fun s => cpU (jcp w kr 0 (kn * 41) m) (s + 2) (kn * 41 + m) m (kn * 41) (kt s) (fun _ => 0)) := by
  obtain ⟨h1, h2, h3, h4, h5, h6⟩ := h
  refine ⟨by omega, fun k hk' => ?_, fun t ht => ?_, fun k i hk' hi => ?_, fun k i hi hk' hki => ?_, fun s a hs => ?_⟩
  · by_cases hq : k = kn
    · subst hq; rw [jup_eq]; exact hm
    · rw [jup_ne _ _ hq]; exact h2 k (by omega)
  · unfold jcp
    by_cases hq : kn * 41 ≤ t ∧ t < kn * 41 + m
    · rw [if_pos hq]; have := hw (0 + (t - kn * 41)); omega
    · rw [if_neg hq]; exact h3 t ht
  · unfold jcp
    by_cases hq : k = kn
    · subst hq; rw [jup_eq] at hi; rw [if_pos (by omega)]; exact (hw _).1
    · rw [jup_ne _ _ hq] at hi
      have := h2 k (by omega)
      rw [if_neg (by omega)]; exact h4 k i (by omega) hi
  · have hn : ¬ (kn * 41 ≤ k * 41 + i ∧ k * 41 + i < kn * 41 + m) := by
      by_cases hq : k = kn
      · subst hq; rw [jup_eq] at hk'; omega
      · rw [jup_ne _ _ hq] at hk'; omega
    unfold jcp
    rw [if_neg hn]
    by_cases hq : k = kn
    · exact h5 k i hi (Or.inl (by omega)) hki
    · rw [jup_ne _ _ hq] at hk'; exact h5 k i hi (by omega) hki
  · show cpU _ _ _ _ _ _ _ a = _
    refine (cpU_eq (kr := jcp w kr 0 (kn * 41) m) (z := s + 2) (st := kn * 41) (m := m) (f0 := a) (by omega) m 0 (kt s) (fun _ => 0) (by omega)).trans ?_
    rw [h6 s a hs, show max 0 (0 - kn * 41) = 0 by omega, show gT (jcp w kr 0 (kn * 41) m) (jup ks kn m) (s + 2) a (kn + 1) = gT (jcp w kr 0 (kn * 41) m) (jup ks kn m) (s + 2) a kn + gU (fun p => decide (ffn (jcp w kr 0 (kn * 41) m) (s + 2) (kn * 41 + p) = a)) (s + 2) (jup ks kn m kn) (jup ks kn m kn) 0 from rfl, jup_eq, gT_congr (kr := jcp w kr 0 (kn * 41) m) (kr' := kr) (ks := jup ks kn m) (ks' := ks) kn (fun j hj => by rw [jup_ne _ _ (by omega)]; exact ⟨rfl, (h2 j hj).2⟩) (fun t ht => by unfold jcp; rw [if_neg (by omega)])]
    push_cast
    rfl
