/-! ===== the book's code words are unlike; a book that grows; what costs do then ===== -/
def LkI (n : Nat) (C : Nat → Nat) : Prop := ∀ a b, a < b → b < n → lk (C a) (C b) = 0
theorem rsU_0 {cd : Nat → Nat} {c : Nat} : ∀ (t e r : Nat), rsU cd c t e r = 0 → r = 0 ∧ ∀ k, e ≤ k → k < e + t → lk (cd k) c = 0
  | 0, _, _, h => ⟨h, fun k a b => absurd b (by omega)⟩
  | t + 1, e, r, h => by
    have h1 := rsU_0 t (e + 1) _ h
    have h2 : r = 0 ∧ lk (cd e) c = 0 := by
      have h3 := h1.1
      by_cases q : lk (cd e) c ≠ 0 ∧ (r = 0 ∨ lk (cd e) c < r)
      · rw [if_pos q] at h3
        exact absurd h3 q.1
      · rw [if_neg q] at h3
        refine ⟨h3, ?_⟩
        by_cases z : lk (cd e) c = 0
        · exact z
        · exact absurd ⟨z, Or.inl h3⟩ q
    exact ⟨h2.1, fun k a b => by
      rcases Nat.eq_or_lt_of_le a with q | q
      · subst q
        exact h2.2
      · exact h1.2 k q (by omega)⟩
theorem rsn_0 {n : Nat} {cd : Nat → Nat} {c : Nat} (h : rsn n cd c = 0) : ∀ k, k < n → lk (cd k) c = 0 := by
  have h1 := rsn_lt h
  unfold rsn at h
  rw [if_neg (by omega)] at h
  exact fun k hk => (rsU_0 n 0 0 h).2 k (Nat.zero_le _) (by omega)
theorem LkI.add {n : Nat} {C : Nat → Nat} (h : LkI n C) {c : Nat} (hc : rsn n C c = 0) : LkI (n + 1) (jup C n c) := fun a b hab hb => by
  rcases Nat.lt_or_ge b n with q | q
  · rw [jup_ne _ _ (by omega), jup_ne _ _ (by omega)]
    exact h a b hab q
  · have hbn : b = n := by omega
    rw [hbn, jup_eq, jup_ne _ _ (by omega)]
    exact rsn_0 hc a (by omega)
/-- a book grown: the old entries stand -/
def Grw (n : Nat) (S : Nat → Nat) (P : Nat → Int) (n' : Nat) (S' : Nat → Nat) (P' : Nat → Int) : Prop := n ≤ n' ∧ (∀ e, e < n → S' e = S e) ∧ ∀ i, i < n * 6 → P' i = P i
theorem Grw.refl {n : Nat} {S : Nat → Nat} {P : Nat → Int} : Grw n S P n S P := ⟨Nat.le_refl _, fun _ _ => rfl, fun _ _ => rfl⟩
theorem Grw.trans {n n' n'' : Nat} {S S' S'' : Nat → Nat} {P P' P'' : Nat → Int} (h : Grw n S P n' S' P') (h' : Grw n' S' P' n'' S'' P'') : Grw n S P n'' S'' P'' :=
  ⟨Nat.le_trans h.1 h'.1, fun e he => (h'.2.1 e (Nat.lt_of_lt_of_le he h.1)).trans (h.2.1 e he), fun i hi => (h'.2.2 i (Nat.lt_of_lt_of_le hi (Nat.mul_le_mul_right 6 h.1))).trans (h.2.2 i hi)⟩
theorem Grw.add {n : Nat} {S : Nat → Nat} {P : Nat → Int} (z s : Nat) (kr : Nat → Int) : Grw n S P (n + 1) (jup S n z) (jcp kr P s (n * 6) z) :=
  ⟨Nat.le_succ _, fun e he => jup_ne _ _ (by omega), fun i hi => if_neg (by omega)⟩
theorem lnU_grw {kn : Nat} {kr : Nat → Int} {kt : Nat → Nat → Int} {pr : Int} : ∀ (t d n : Nat) (C S : Nat → Nat) (P w : Nat → Int), LkI n C → LkI (lnU kn kr kt pr t d n C S P w).2.1 (lnU kn kr kt pr t d n C S P w).2.2.1 ∧ Grw n S P (lnU kn kr kt pr t d n C S P w).2.1 (lnU kn kr kt pr t d n C S P w).2.2.2.1 (lnU kn kr kt pr t d n C S P w).2.2.2.2.1 ∧ (lnU kn kr kt pr t d n C S P w).2.1 ≤ n + t
  | 0, d, n, C, S, P, w, h => ⟨h, Grw.refl, Nat.le_refl _⟩
  | t + 1, d, n, C, S, P, w, h => by
    by_cases h6 : 0 < (lnB kn kr kt pr n S P).1
    · rcases lnC_rng (n := n) (C := C) with hc | ⟨hn2, c, hc, hc2, hr⟩
      · rw [show lnU kn kr kt pr (t + 1) d n C S P w = (d, n, C, S, P, alF kr (lnB kn kr kt pr n S P).2.2 (lnB kn kr kt pr n S P).2.1 0 w) from (if_pos h6).trans (if_pos hc)]
        exact ⟨h, Grw.refl, Nat.le_add_right _ _⟩
      · rw [show lnU kn kr kt pr (t + 1) d n C S P w = lnU kn kr kt pr t (d + 1) (n + 1) (jup C n c) (jup S n (lnB kn kr kt pr n S P).2.2) (jcp kr P (lnB kn kr kt pr n S P).2.1 (n * 6) (lnB kn kr kt pr n S P).2.2) (alF kr (lnB kn kr kt pr n S P).2.2 (lnB kn kr kt pr n S P).2.1 0 w) from (if_pos h6).trans ((if_neg (by omega)).trans (by rw [hc, Int.toNat_natCast]))]
        obtain ⟨q1, q2, q3⟩ := lnU_grw t (d + 1) (n + 1) (jup C n c) (jup S n (lnB kn kr kt pr n S P).2.2) (jcp kr P (lnB kn kr kt pr n S P).2.1 (n * 6) (lnB kn kr kt pr n S P).2.2) (alF kr (lnB kn kr kt pr n S P).2.2 (lnB kn kr kt pr n S P).2.1 0 w) (h.add hr)
        exact ⟨q1, (Grw.add _ _ _).trans q2, by omega⟩
    · rw [show lnU kn kr kt pr (t + 1) d n C S P w = (d, n, C, S, P, w) from if_neg h6]
      exact ⟨h, Grw.refl, Nat.le_add_right _ _⟩
theorem mnU_lw {ok : Nat → Bool} {w : Nat → Int} : ∀ (t e : Nat) (c : Int) (k : Nat), e ≤ k → k < e + t → ok k = true → mnU ok w t e c ≤ w k
  | 0, e, c, k, h1, h2, _ => absurd h2 (by omega)
  | t + 1, e, c, k, h1, h2, h3 => by
    show mnU ok w t (e + 1) (if ok e = true ∧ w e < c then w e else c) ≤ w k
    rcases Nat.eq_or_lt_of_le h1 with q | q
    · subst q
      refine Int.le_trans (mnU_le _ _ _ _ _) ?_
      by_cases z : w e < c
      · rw [if_pos ⟨h3, z⟩]; exact Int.le_refl _
      · rw [if_neg (fun y => z y.2)]; omega
    · exact mnU_lw t (e + 1) _ k q (by omega) h3
theorem mtB_grw {n n' : Nat} {S S' : Nat → Nat} {P P' g : Nat → Int} {s m a k : Nat} (hG : Grw n S P n' S' P') (hS : S k ≤ 6) (hk : k < n) (h : mtB S P g s m a k = true) : mtB S' P' g s m a k = true := by
  unfold mtB at h ⊢
  rw [hG.2.1 k hk, smU_congr (f := P') (f' := P) (g := g) (g' := g) (k := S k) (a := k * 6) (b := s + a) (fun t ht => hG.2.2 _ (by omega)) (fun _ _ => rfl)]
  exact h
theorem cv_mono {n n' : Nat} {S S' : Nat → Nat} {P P' g : Nat → Int} {s m : Nat} {pr : Int} (hG : Grw n S P n' S' P') (hS : ∀ e, e < n → 1 ≤ S e ∧ S e ≤ 6) (hS' : ∀ e, e < n' → 1 ≤ S' e ∧ S' e ≤ 6) : ∀ d a, a ≤ m → m - a ≤ d → cvC n' S' P' g s m pr a ≤ cvC n S P g s m pr a
  | 0, a, ha, hd => by
    have : a = m := by omega
    subst this
    rw [cvC_m, cvC_m]
    exact Int.le_refl _
  | d + 1, a, ha, hd => by
    rcases Nat.eq_or_lt_of_le ha with q | q
    · subst q
      rw [cvC_m, cvC_m]
      exact Int.le_refl _
    · rw [cvC_step (fun e he => (hS' e he).1) q, cvC_step (fun e he => (hS e he).1) q]
      refine mnU_ge n 0 _ (fun k _ hk hok => ?_) ?_
      · have hk' : k < n := by omega
        have hm := mtB_le hok
        have hs1 := hS k hk'
        refine Int.le_trans (mnU_lw n' 0 _ k (Nat.zero_le _) (by have := hG.1; omega) (mtB_grw hG hs1.2 hk' hok)) ?_
        show 1 + cvC n' S' P' g s m pr (a + S' k) ≤ 1 + cvC n S P g s m pr (a + S k)
        rw [hG.2.1 k hk']
        have := cv_mono (g := g) (s := s) (m := m) (pr := pr) hG hS hS' d (a + S k) hm (by omega)
        omega
      · refine Int.le_trans (mnU_le _ _ _ _ _) ?_
        have := cv_mono (g := g) (s := s) (m := m) (pr := pr) hG hS hS' d (a + 1) (by omega) (by omega)
        omega
theorem cv_plain {n : Nat} {S : Nat → Nat} {P g : Nat → Int} {s m : Nat} {pr : Int} (hS : ∀ e, e < n → 1 ≤ S e ∧ S e ≤ 6) : ∀ (d a : Nat), a + d = m → cvC n S P g s m pr a ≤ pr * ((d : Nat) : Int)
  | 0, a, h => by
    have : a = m := by omega
    subst this
    rw [cvC_m]
    simp
  | d + 1, a, h => by
    rw [cvC_step (fun e he => (hS e he).1) (by omega)]
    refine Int.le_trans (mnU_le _ _ _ _ _) ?_
    have := cv_plain (n := n) (S := S) (P := P) (g := g) (s := s) (m := m) (pr := pr) hS d (a + 1) (by omega)
    rw [show ((d + 1 : Nat) : Int) = ((d : Nat) : Int) + 1 from rfl, Int.mul_add, Int.mul_one]
    omega
theorem cv_emp {S : Nat → Nat} {P g : Nat → Int} {s m : Nat} {pr : Int} : ∀ (d a : Nat), a + d = m → cvC 0 S P g s m pr a = pr * ((d : Nat) : Int)
  | 0, a, h => by
    have : a = m := by omega
    subst this
    rw [cvC_m]
    simp
  | d + 1, a, h => by
    rw [cvC_step (fun e he => absurd he (by omega)) (by omega)]
    have := cv_emp (S := S) (P := P) (g := g) (s := s) (m := m) (pr := pr) d (a + 1) (by omega)
    show pr + cvC 0 S P g s m pr (a + 1) = _
    rw [show ((d + 1 : Nat) : Int) = ((d : Nat) : Int) + 1 from rfl, Int.mul_add, Int.mul_one]
    omega
theorem sh_mono {n n' : Nat} {S S' ks : Nat → Nat} {P P' kr : Nat → Int} {pr : Int} (hG : Grw n S P n' S' P') (hS : ∀ e, e < n → 1 ≤ S e ∧ S e ≤ 6) (hS' : ∀ e, e < n' → 1 ≤ S' e ∧ S' e ≤ 6) : ∀ (t e : Nat), shC n' S' P' kr ks pr t e ≤ shC n S P kr ks pr t e
  | 0, _ => Int.le_refl _
  | t + 1, e => by
    have h1 := cv_mono (g := kr) (s := e * 41) (m := ks e) (pr := pr) hG hS hS' (ks e) 0 (Nat.zero_le _) (by omega)
    have h2 := sh_mono (kr := kr) (ks := ks) (pr := pr) hG hS hS' t (e + 1)
    show cvC n' S' P' kr (e * 41) (ks e) pr 0 + shC n' S' P' kr ks pr t (e + 1) ≤ cvC n S P kr (e * 41) (ks e) pr 0 + shC n S P kr ks pr t (e + 1)
    omega
theorem sh_plain {n : Nat} {S ks : Nat → Nat} {P kr : Nat → Int} {pr : Int} (hS : ∀ e, e < n → 1 ≤ S e ∧ S e ≤ 6) : ∀ (t e : Nat), shC n S P kr ks pr t e ≤ pr * ((shA ks t e : Nat) : Int)
  | 0, _ => by show (0 : Int) ≤ pr * ((0 : Nat) : Int); simp
  | t + 1, e => by
    have h1 := cv_plain (P := P) (g := kr) (s := e * 41) (m := ks e) (pr := pr) hS (ks e) 0 (by omega)
    have h2 := sh_plain (P := P) (kr := kr) (ks := ks) (pr := pr) hS t (e + 1)
    show cvC n S P kr (e * 41) (ks e) pr 0 + shC n S P kr ks pr t (e + 1) ≤ pr * ((ks e + shA ks t (e + 1) : Nat) : Int)
    rw [show ((ks e + shA ks t (e + 1) : Nat) : Int) = ((ks e : Nat) : Int) + ((shA ks t (e + 1) : Nat) : Int) from rfl, Int.mul_add]
    omega
theorem sh_emp {S ks : Nat → Nat} {P kr : Nat → Int} {pr : Int} : ∀ (t e : Nat), shC 0 S P kr ks pr t e = pr * ((shA ks t e : Nat) : Int)
  | 0, _ => by show (0 : Int) = pr * ((0 : Nat) : Int); simp
  | t + 1, e => by
    have h1 := cv_emp (S := S) (P := P) (g := kr) (s := e * 41) (m := ks e) (pr := pr) (ks e) 0 (by omega)
    have h2 := sh_emp (S := S) (P := P) (kr := kr) (ks := ks) (pr := pr) t (e + 1)
    show cvC 0 S P kr (e * 41) (ks e) pr 0 + shC 0 S P kr ks pr t (e + 1) = pr * ((ks e + shA ks t (e + 1) : Nat) : Int)
    rw [show ((ks e + shA ks t (e + 1) : Nat) : Int) = ((ks e : Nat) : Int) + ((shA ks t (e + 1) : Nat) : Int) from rfl, Int.mul_add]
    omega
theorem shA_rng {ks : Nat → Nat} : ∀ (t e : Nat), (∀ k, e ≤ k → k < e + t → 1 ≤ ks k ∧ ks k ≤ 14) → t ≤ shA ks t e ∧ shA ks t e ≤ 14 * t
  | 0, _, _ => ⟨Nat.le_refl _, Nat.le_refl _⟩
  | t + 1, e, h => by
    have h1 := h e (by omega) (by omega)
    have h2 := shA_rng t (e + 1) (fun k a b => h k (by omega) (by omega))
    show t + 1 ≤ ks e + shA ks t (e + 1) ∧ ks e + shA ks t (e + 1) ≤ _
    omega
