/-! ===== dividing a row of words ===== -/
def mnU (ok : Nat → Bool) (w : Nat → Int) : Nat → Nat → Int → Int
  | 0, _, c => c
  | t + 1, e, c => mnU ok w t (e + 1) (if ok e = true ∧ w e < c then w e else c)
def pkU (ok : Nat → Bool) (w : Nat → Int) (ga : Nat → Nat → Bool) (c : Int) : Nat → Nat → Int → Int
  | 0, _, b => b
  | t + 1, e, b => pkU ok w ga c t (e + 1) (if ok e = true ∧ w e = c ∧ (b = -1 ∨ ga e b.toNat = true) then ((e : Nat) : Int) else b)
def bpU (ok : Nat → Bool) (w : Nat → Int) (ga : Nat → Nat → Bool) : Nat → Nat → Int → Int → Int
  | 0, _, b, _ => b
  | t + 1, e, b, c => if ok e = true ∧ (w e < c ∨ (w e = c ∧ (b = -1 ∨ ga e b.toNat = true))) then bpU ok w ga t (e + 1) ((e : Nat) : Int) (w e) else bpU ok w ga t (e + 1) b c
theorem mnU_le (ok : Nat → Bool) (w : Nat → Int) : ∀ (t e : Nat) (c : Int), mnU ok w t e c ≤ c
  | 0, _, _ => Int.le_refl _
  | t + 1, e, c => by
    have ih := mnU_le ok w t (e + 1) (if ok e = true ∧ w e < c then w e else c)
    unfold mnU
    refine Int.le_trans ih ?_
    split
    · omega
    · omega
theorem bpU_eq (ok : Nat → Bool) (w : Nat → Int) (ga : Nat → Nat → Bool) : ∀ (t e : Nat) (b c : Int), bpU ok w ga t e b c = pkU ok w ga (mnU ok w t e c) t e (if mnU ok w t e c = c then b else -1)
  | 0, e, b, c => by
    show b = if c = c then b else -1
    rw [if_pos rfl]
  | t + 1, e, b, c => by
    have ih1 := bpU_eq ok w ga t (e + 1) ((e : Nat) : Int) (w e)
    have ih2 := bpU_eq ok w ga t (e + 1) b c
    have ih3 := bpU_eq ok w ga t (e + 1) ((e : Nat) : Int) c
    have l1 := mnU_le ok w t (e + 1) (w e)
    have l2 := mnU_le ok w t (e + 1) c
    show (if ok e = true ∧ (w e < c ∨ (w e = c ∧ (b = -1 ∨ ga e b.toNat = true))) then bpU ok w ga t (e + 1) ((e : Nat) : Int) (w e) else bpU ok w ga t (e + 1) b c) = _
    rw [show mnU ok w (t + 1) e c = mnU ok w t (e + 1) (if ok e = true ∧ w e < c then w e else c) from rfl]
    by_cases h0 : ok e = true
    · by_cases h1 : w e < c
      · rw [if_pos ⟨h0, Or.inl h1⟩, if_pos ⟨h0, h1⟩, ih1, if_neg (show ¬ mnU ok w t (e + 1) (w e) = c by omega)]
        show _ = pkU ok w ga _ t (e + 1) (if ok e = true ∧ w e = mnU ok w t (e + 1) (w e) ∧ ((-1 : Int) = -1 ∨ _) then ((e : Nat) : Int) else -1)
        by_cases h2 : mnU ok w t (e + 1) (w e) = w e
        · rw [if_pos h2, if_pos ⟨h0, h2.symm, Or.inl rfl⟩]
        · rw [if_neg h2, if_neg (fun q => h2 q.2.1.symm)]
      · rw [if_neg (show ¬ (ok e = true ∧ w e < c) from fun q => h1 q.2)]
        show _ = pkU ok w ga _ t (e + 1) (if ok e = true ∧ w e = mnU ok w t (e + 1) c ∧ ((if mnU ok w t (e + 1) c = c then b else -1) = -1 ∨ ga e (if mnU ok w t (e + 1) c = c then b else -1).toNat = true) then ((e : Nat) : Int) else (if mnU ok w t (e + 1) c = c then b else -1))
        by_cases h2 : mnU ok w t (e + 1) c = c
        · rw [if_pos h2]
          by_cases h3 : w e = c ∧ (b = -1 ∨ ga e b.toNat = true)
          · have hw : w e = c := h3.1
            rw [if_pos ⟨h0, Or.inr h3⟩, if_pos ⟨h0, hw.trans h2.symm, h3.2⟩, hw, ih3, if_pos h2]
          · rw [if_neg (fun q => q.2.elim h1 h3), if_neg (fun q => h3 ⟨q.2.1.trans h2, q.2.2⟩), ih2, if_pos h2]
        · rw [if_neg h2, if_neg (show ¬ (ok e = true ∧ w e = mnU ok w t (e + 1) c ∧ _) from fun q => h1 (by have := q.2.1; omega))]
          by_cases h3 : w e = c ∧ (b = -1 ∨ ga e b.toNat = true)
          · have hw : w e = c := h3.1
            rw [if_pos ⟨h0, Or.inr h3⟩, hw, ih3, if_neg h2]
          · rw [if_neg (fun q => q.2.elim h1 h3), ih2, if_neg h2]
    · rw [if_neg (fun q => h0 q.1), if_neg (show ¬ (ok e = true ∧ w e < c) from fun q => h0 q.1), ih2]
      exact congrArg (pkU ok w ga _ t (e + 1)) (if_neg (show ¬ (ok e = true ∧ w e = mnU ok w t (e + 1) c ∧ ((if mnU ok w t (e + 1) c = c then b else -1) = -1 ∨ ga e (if mnU ok w t (e + 1) c = c then b else -1).toNat = true)) from fun q => h0 q.1)).symm
/-- what is picked costs the least -/
theorem bpU_ok (ok : Nat → Bool) (w : Nat → Int) (ga : Nat → Nat → Bool) (p : Int) : ∀ (t e : Nat) (b c : Int), ((b = -1 ∧ c = p) ∨ ∃ k : Nat, b = ((k : Nat) : Int) ∧ k < e ∧ w k = c ∧ ok k = true) → ((bpU ok w ga t e b c = -1 ∧ mnU ok w t e c = p) ∨ ∃ k : Nat, bpU ok w ga t e b c = ((k : Nat) : Int) ∧ k < e + t ∧ w k = mnU ok w t e c ∧ ok k = true)
  | 0, e, b, c, h => h
  | t + 1, e, b, c, h => by
    show ((if ok e = true ∧ (w e < c ∨ (w e = c ∧ (b = -1 ∨ ga e b.toNat = true))) then bpU ok w ga t (e + 1) ((e : Nat) : Int) (w e) else bpU ok w ga t (e + 1) b c) = -1 ∧ _) ∨ ∃ k : Nat, (if ok e = true ∧ (w e < c ∨ (w e = c ∧ (b = -1 ∨ ga e b.toNat = true))) then bpU ok w ga t (e + 1) ((e : Nat) : Int) (w e) else bpU ok w ga t (e + 1) b c) = ((k : Nat) : Int) ∧ _
    rw [show mnU ok w (t + 1) e c = mnU ok w t (e + 1) (if ok e = true ∧ w e < c then w e else c) from rfl, show e + (t + 1) = (e + 1) + t by omega]
    by_cases h1 : ok e = true ∧ (w e < c ∨ (w e = c ∧ (b = -1 ∨ ga e b.toNat = true)))
    · rw [if_pos h1]
      have hc : (if ok e = true ∧ w e < c then w e else c) = w e := by
        by_cases h9 : ok e = true ∧ w e < c
        · exact if_pos h9
        · rw [if_neg h9]
          rcases h1.2 with q | q
          · exact absurd ⟨h1.1, q⟩ h9
          · exact q.1.symm
      rw [hc]
      exact bpU_ok ok w ga p t (e + 1) _ _ (Or.inr ⟨e, rfl, by omega, rfl, h1.1⟩)
    · rw [if_neg h1]
      have hc : (if ok e = true ∧ w e < c then w e else c) = c := if_neg (fun q => h1 ⟨q.1, Or.inl q.2⟩)
      rw [hc]
      refine bpU_ok ok w ga p t (e + 1) b c ?_
      rcases h with h | ⟨k, h2, h3, h4, h5⟩
      · exact Or.inl h
      · exact Or.inr ⟨k, h2, by omega, h4, h5⟩
theorem mnU_congr {ok : Nat → Bool} {w w' : Nat → Int} : ∀ (t e : Nat) (c : Int), (∀ k, e ≤ k → k < e + t → ok k = true → w k = w' k) → mnU ok w t e c = mnU ok w' t e c
  | 0, _, _, _ => rfl
  | t + 1, e, c, h => by
    have ih := mnU_congr (ok := ok) (w := w) (w' := w') t (e + 1)
    show mnU ok w t (e + 1) (if ok e = true ∧ w e < c then w e else c) = mnU ok w' t (e + 1) (if ok e = true ∧ w' e < c then w' e else c)
    by_cases h0 : ok e = true
    · rw [h e (by omega) (by omega) h0]
      exact ih _ (fun k a b d => h k (by omega) (by omega) d)
    · rw [if_neg (fun q => h0 q.1), if_neg (fun q => h0 q.1)]
      exact ih _ (fun k a b d => h k (by omega) (by omega) d)
theorem pkU_congr {ok : Nat → Bool} {w w' : Nat → Int} {ga : Nat → Nat → Bool} {c : Int} : ∀ (t e : Nat) (b : Int), (∀ k, e ≤ k → k < e + t → ok k = true → w k = w' k) → pkU ok w ga c t e b = pkU ok w' ga c t e b
  | 0, _, _, _ => rfl
  | t + 1, e, b, h => by
    have ih := pkU_congr (ok := ok) (w := w) (w' := w') (ga := ga) (c := c) t (e + 1)
    show pkU ok w ga c t (e + 1) (if ok e = true ∧ w e = c ∧ _ then _ else _) = pkU ok w' ga c t (e + 1) (if ok e = true ∧ w' e = c ∧ _ then _ else _)
    by_cases h0 : ok e = true
    · rw [h e (by omega) (by omega) h0]
      exact ih _ (fun k a b d => h k (by omega) (by omega) d)
    · rw [if_neg (fun q => h0 q.1), if_neg (fun q => h0 q.1)]
      exact ih _ (fun k a b d => h k (by omega) (by omega) d)
def mtB (sz : Nat → Nat) (ph g : Nat → Int) (s m a e : Nat) : Bool := decide (a + sz e ≤ m) && smU ph g (sz e) (e * 6) (s + a)
def whF (sz : Nat → Nat) (f : Nat → Int) (a e : Nat) : Int := 1 + f (a + sz e)
/-- the least costs of what is left of the row, from its end on: t places done -/
def cvF (n : Nat) (sz : Nat → Nat) (ph g : Nat → Int) (s m : Nat) (pr : Int) : Nat → Nat → Int
  | 0 => fun _ => 0
  | t + 1 => jup (cvF n sz ph g s m pr t) (m - (t + 1)) (mnU (mtB sz ph g s m (m - (t + 1))) (whF sz (cvF n sz ph g s m pr t) (m - (t + 1))) n 0 (pr + cvF n sz ph g s m pr t (m - t)))
def cvC (n : Nat) (sz : Nat → Nat) (ph g : Nat → Int) (s m : Nat) (pr : Int) : Nat → Int := cvF n sz ph g s m pr m
def pkC (n : Nat) (cd sz : Nat → Nat) (ph g : Nat → Int) (s m : Nat) (pr : Int) (a : Nat) : Int := pkU (mtB sz ph g s m a) (whF sz (cvC n sz ph g s m pr) a) (gaB cd sz) (cvC n sz ph g s m pr a) n 0 (-1)
theorem cvF_st {n : Nat} {sz : Nat → Nat} {ph g : Nat → Int} {s m : Nat} {pr : Int} : ∀ (d t j : Nat), t + d ≤ m → m - t ≤ j → cvF n sz ph g s m pr (t + d) j = cvF n sz ph g s m pr t j
  | 0, _, _, _, _ => rfl
  | d + 1, t, j, h, hj => by
    show jup (cvF n sz ph g s m pr (t + d)) (m - (t + d + 1)) _ j = _
    rw [jup_ne _ _ (by omega)]
    exact cvF_st d t j (by omega) hj
theorem cvC_at {n : Nat} {sz : Nat → Nat} {ph g : Nat → Int} {s m : Nat} {pr : Int} {t j : Nat} (h : t ≤ m) (hj : m - t ≤ j) : cvC n sz ph g s m pr j = cvF n sz ph g s m pr t j := by
  unfold cvC
  have := cvF_st (n := n) (sz := sz) (ph := ph) (g := g) (s := s) (m := m) (pr := pr) (m - t) t j (by omega) hj
  rw [show t + (m - t) = m by omega] at this
  exact this
theorem mnU_ge {ok : Nat → Bool} {w : Nat → Int} {b : Int} : ∀ (t e : Nat) (c : Int), (∀ k, e ≤ k → k < e + t → ok k = true → b ≤ w k) → b ≤ c → b ≤ mnU ok w t e c
  | 0, _, _, _, h => h
  | t + 1, e, c, h, hc => by
    refine mnU_ge t (e + 1) _ (fun k a b d => h k (by omega) (by omega) d) ?_
    by_cases h0 : ok e = true ∧ w e < c
    · rw [if_pos h0]; exact h e (by omega) (by omega) h0.1
    · rw [if_neg h0]; exact hc
theorem cvF_bd {n : Nat} {sz : Nat → Nat} {ph g : Nat → Int} {s m : Nat} {pr : Int} (hp : 1 ≤ pr ∧ pr ≤ 5) : ∀ (t j : Nat), t ≤ m → 0 ≤ cvF n sz ph g s m pr t j ∧ cvF n sz ph g s m pr t j ≤ 5 * (t : Int)
  | 0, j, _ => ⟨Int.le_refl _, Int.le_refl _⟩
  | t + 1, j, ht => by
    have ih := fun j => cvF_bd (n := n) (sz := sz) (ph := ph) (g := g) (s := s) (m := m) hp t j (by omega)
    show 0 ≤ jup _ _ _ j ∧ jup _ _ _ j ≤ _
    by_cases h : j = m - (t + 1)
    · subst h
      rw [jup_eq]
      have h1 := mnU_le (mtB sz ph g s m (m - (t + 1))) (whF sz (cvF n sz ph g s m pr t) (m - (t + 1))) n 0 (pr + cvF n sz ph g s m pr t (m - t))
      have h2 := mnU_ge (ok := mtB sz ph g s m (m - (t + 1))) (w := whF sz (cvF n sz ph g s m pr t) (m - (t + 1))) (b := 0) n 0 (pr + cvF n sz ph g s m pr t (m - t)) (fun k _ _ _ => by unfold whF; have := ih (m - (t + 1) + sz k); omega) (by have := ih (m - t); omega)
      have := ih (m - t)
      omega
    · rw [jup_ne _ _ h]
      have := ih j
      omega
theorem cvC_bd {n : Nat} {sz : Nat → Nat} {ph g : Nat → Int} {s m : Nat} {pr : Int} (hp : 1 ≤ pr ∧ pr ≤ 5) (hm : m ≤ 40) (j : Nat) : 0 ≤ cvC n sz ph g s m pr j ∧ cvC n sz ph g s m pr j ≤ 200 := by
  have := cvF_bd (n := n) (sz := sz) (ph := ph) (g := g) (s := s) (m := m) hp m j (Nat.le_refl _)
  unfold cvC
  omega
theorem cvC_m {n : Nat} {sz : Nat → Nat} {ph g : Nat → Int} {s m : Nat} {pr : Int} : cvC n sz ph g s m pr m = 0 := by
  rw [cvC_at (t := 0) (Nat.zero_le _) (by omega)]
  rfl
/-- the least cost at a place, out of those behind it -/
theorem cvC_step {n : Nat} {sz : Nat → Nat} {ph g : Nat → Int} {s m : Nat} {pr : Int} (hsz : ∀ e, e < n → 1 ≤ sz e) {a : Nat} (ha : a < m) : cvC n sz ph g s m pr a = mnU (mtB sz ph g s m a) (whF sz (cvC n sz ph g s m pr) a) n 0 (pr + cvC n sz ph g s m pr (a + 1)) := by
  have h1 := cvC_at (n := n) (sz := sz) (ph := ph) (g := g) (s := s) (m := m) (pr := pr) (t := m - a) (j := a) (by omega) (by omega)
  rw [h1, show m - a = (m - a - 1) + 1 by omega]
  show jup _ _ _ a = _
  rw [show m - (m - a - 1 + 1) = a by omega, jup_eq, show m - (m - a - 1) = a + 1 by omega, ← cvC_at (t := m - a - 1) (by omega) (by omega)]
  refine mnU_congr n 0 _ (fun k _ hk hok => ?_)
  unfold whF
  have := hsz k (by omega)
  rw [cvC_at (t := m - a - 1) (by omega) (by omega)]
set_option maxRecDepth 20000 in
theorem c_X2_bestPiece {X : jX} {σ : jS} {i n : Nat} {cd sz : Nat → Nat} {ph : Nat → Int} {v il ip q N s m a : Nat} {f g : Nat → Int} {pc : Int} (hB : BK σ i n cd sz ph) (h5 : 5 ≤ i) (hn : n ≤ 40) (hcd : ∀ e, e < n → cd e ≤ 11881375) (hsz : ∀ e, e < n → 1 ≤ sz e ∧ sz e ≤ 6) (hV : σ.2 v = jO 1 [.ref il, .ref ip]) (hL : σ.2 il = jI 41 f) (e2 : σ.2 q = jI N g) (hN : N ≤ 100000) (hm : m ≤ 40) (hsm : s + m ≤ N) (hg : ∀ t, t < N → inI (g t)) (hph : ∀ t, t < 240 → inI (ph t)) (hf : ∀ j, a < j → j ≤ m → 0 ≤ f j ∧ f j ≤ 1000) (ha : a < m) (hpc : 0 ≤ pc ∧ pc ≤ 1000) : JM X mX2_bestPiece rX2_bestPiece [.ref v, .ref i, vI pc, .ref q, vI ((s + a : Nat) : Int), vI ((a : Nat) : Int), vI ((m : Nat) : Int)] σ (jEnd (oI (bpU (mtB sz ph g s m a) (whF sz f a) (gaB cd sz) n 0 (-1) pc)) σ) := by
  refine JM.of (lc := [.ref v, .ref i, vI pc, .ref q, vI ((s + a : Nat) : Int), vI ((a : Nat) : Int), vI ((m : Nat) : Int), .null, .null, .null, .null, .null]) rfl ?_
  refine J.iconst dX2_bestPiece_0 ?_
  refine J.ist dX2_bestPiece_1 (by decide) (jnc_of rfl rfl) ?_
  refine J.ild_n dX2_bestPiece_3 rfl ?_
  refine J.ist dX2_bestPiece_4 (by decide) (jnc_of rfl rfl) ?_
  refine J.iconst dX2_bestPiece_6 ?_
  refine J.ist dX2_bestPiece_7 (by decide) (jnc_of rfl rfl) ?_
  have L : ∀ (t : Nat), ∀ (e : Nat) (b c : Int) (u u2 : Value), e + t = n → (b = -1 ∨ ∃ k : Nat, k < e ∧ b = ((k : Nat) : Int)) → (0 ≤ c ∧ c ≤ 2000) → u.category = 1 → u2.category = 1 → J X mX2_bestPiece rX2_bestPiece 9 [.ref v, .ref i, vI pc, .ref q, vI ((s + a : Nat) : Int), vI ((a : Nat) : Int), vI ((m : Nat) : Int), vI b, vI c, vI ((e : Nat) : Int), u, u2] [] 0 0 σ (jEnd (oI (bpU (mtB sz ph g s m a) (whF sz f a) (gaB cd sz) t e b c)) σ) := by
    intro t
    induction t with
    | zero =>
      intro e b c u u2 he hb hc hu hu2
      refine J.ild dX2_bestPiece_9 rfl ?_
      refine J.ald_n dX2_bestPiece_11 rfl ?_
      refine gf_X2_27 rfl dX2_bestPiece_12 hB.1 ?_
      refine J.icmp_ge dX2_bestPiece_15 (by decide) (tgt := 113) (by unfold inI; omega) (by unfold inI; omega) (fun h => ?_) (fun h => ?_)
      · refine J.ild dX2_bestPiece_113 rfl ?_
        refine J.iret .int dX2_bestPiece_115 rfl rfl (by decide) (by decide) ?_
        exact ⟨rfl, rfl⟩
      · omega
    | succ t ih =>
      intro e b c u u2 he hb hc hu hu2
      refine J.ild dX2_bestPiece_9 rfl ?_
      refine J.ald_n dX2_bestPiece_11 rfl ?_
      refine gf_X2_27 rfl dX2_bestPiece_12 hB.1 ?_
      refine J.icmp_ge dX2_bestPiece_15 (by decide) (tgt := 113) (by unfold inI; omega) (by unfold inI; omega) (fun h => ?_) (fun h => ?_)
      · omega
      · have hse := hsz e (by omega)
        refine J.ild dX2_bestPiece_18 rfl ?_
        refine J.ald_n dX2_bestPiece_20 rfl ?_
        refine gf_X2_22 rfl dX2_bestPiece_21 hB.1 ?_
        refine J.ild dX2_bestPiece_24 rfl ?_
        refine J.iald e dX2_bestPiece_26 hB.2.2.1 rfl (by omega) (by omega) ?_
        refine J.iadd dX2_bestPiece_27 ?_
        rw [show (((a : Nat) : Int) : Int) + ((sz e : Nat) : Int) = ((a + (sz e) : Nat) : Int) from by push_cast; rfl]
        refine J.ist dX2_bestPiece_28 (by decide) (jnc_of rfl rfl) ?_
        refine J.ild dX2_bestPiece_30 rfl ?_
        refine J.ild dX2_bestPiece_32 rfl ?_
        refine J.icmp_gt dX2_bestPiece_34 (by decide) (tgt := 107) (by unfold inI; omega) (by unfold inI; omega) (fun h2 => ?_) (fun h2 => ?_)
        · refine J.iinc (v := ((e + 1 : Nat) : Int)) dX2_bestPiece_107 rfl (by first | rfl | omega) (by decide) (jnc_of rfl rfl) ?_
          refine J.goto dX2_bestPiece_110 (by decide) (tgt := 9) ?_
          rw [show bpU (mtB sz ph g s m a) (whF sz f a) (gaB cd sz) (t + 1) e b c = bpU (mtB sz ph g s m a) (whF sz f a) (gaB cd sz) t (e + 1) b c from if_neg (fun h9 => by have := h9.1; unfold mtB at this; rw [decide_eq_false (by omega), Bool.false_and] at this; cases this)]
          exact ih (e + 1) _ _ _ _ (by omega) (hb.imp id (fun ⟨k, hk, hk2⟩ => ⟨k, by omega, hk2⟩)) hc (by first | rfl | assumption) (by first | rfl | assumption)
        · have hfe := hf (a + sz e) (by omega) (by omega)
          refine J.ald_n dX2_bestPiece_37 rfl ?_
          refine gf_X2_31 rfl dX2_bestPiece_38 hB.1 ?_
          refine J.ild dX2_bestPiece_41 rfl ?_
          refine J.callS (rm' := rX0_startOf) [vI ((e : Nat) : Int)] dX2_bestPiece_43 (c_X0_startOf) st_X0_startOf ml_X2_34 sm_X0_startOf rfl (Nat.le_of_ble_eq_true rfl) (by decide) (by decide) (Nat.le_of_ble_eq_true rfl) (by decide) (by decide) (Or.inl rfl) (fun E9 σ9 hq9 _ => nomatch hq9.1) (fun r9 σ9 hq9 hle9 => ?_)
          obtain ⟨h9, h8⟩ := hq9
          rw [h8]
          clear hle9 h8 σ9
          cases h9
          refine J.ald_n dX2_bestPiece_46 rfl ?_
          refine J.ild dX2_bestPiece_47 rfl ?_
          refine J.ild dX2_bestPiece_49 rfl ?_
          refine J.ild dX2_bestPiece_51 rfl ?_
          refine J.isub dX2_bestPiece_53 ?_
          rw [show ((a + (sz e) : Nat) : Int) - ((a : Nat) : Int) = ((sz e : Nat) : Int) from by omega]
          refine J.callSN (rm' := rX6_sameWords) [.ref (i + 3), vI ((e * 6 : Nat) : Int), .ref q, vI ((s + a : Nat) : Int), vI ((sz e : Nat) : Int)] dX2_bestPiece_54 (c_X6_sameWords hB.2.2.2 e2 (by omega) hN (by omega) (by omega) hph hg) st_X6_sameWords ml_X2_38 sm_X6_sameWords rfl (Nat.le_of_ble_eq_true rfl) (by decide) (by decide) (Nat.le_of_ble_eq_true rfl) (by decide) (by decide) (fun E9 σ9 hq9 => nomatch hq9.1) (fun r9 σ9 hq9 hle9 => ?_)
          obtain ⟨h9, h8⟩ := hq9
          rw [h8]
          clear hle9 h8 σ9
          cases h9
          by_cases hsm9 : smU ph g (sz e) (e * 6) (s + a) = true
          · have hok : mtB sz ph g s m a e = true := by unfold mtB; rw [decide_eq_true (by omega), hsm9]; rfl
            rw [show bN (smU ph g (sz e) (e * 6) (s + a)) = 1 from if_pos hsm9]
            refine J.if_ne dX2_bestPiece_57 (by decide) (tgt := 63) (by unfold inI; omega) (fun hb5 => ?_) (fun hb5 => ?_)
            · refine J.iconst dX2_bestPiece_63 ?_
              refine J.ald_n dX2_bestPiece_64 rfl ?_
              refine gf_X2_9 rfl dX2_bestPiece_65 hV ?_
              refine J.ild dX2_bestPiece_68 rfl ?_
              refine J.iald (a + (sz e)) dX2_bestPiece_70 hL rfl (by omega) (by omega) ?_
              refine J.iadd dX2_bestPiece_71 ?_
              rw [show 1 + (f (a + (sz e))) = (whF sz f a e) from rfl]
              refine J.ist dX2_bestPiece_72 (by decide) (jnc_of rfl rfl) ?_
              refine J.ild dX2_bestPiece_74 rfl ?_
              refine J.ild dX2_bestPiece_76 rfl ?_
              have hwe : whF sz f a e = 1 + f (a + sz e) := rfl
              refine J.icmp_lt dX2_bestPiece_78 (by decide) (tgt := 99) (by unfold inI; omega) (by unfold inI; omega) (fun h6 => ?_) (fun h6 => ?_)
              · refine J.ild dX2_bestPiece_99 rfl ?_
                refine J.ist dX2_bestPiece_101 (by decide) (jnc_of rfl rfl) ?_
                refine J.ild dX2_bestPiece_103 rfl ?_
                refine J.ist dX2_bestPiece_105 (by decide) (jnc_of rfl rfl) ?_
                refine J.iinc (v := ((e + 1 : Nat) : Int)) dX2_bestPiece_107 rfl (by first | rfl | omega) (by decide) (jnc_of rfl rfl) ?_
                refine J.goto dX2_bestPiece_110 (by decide) (tgt := 9) ?_
                rw [show bpU (mtB sz ph g s m a) (whF sz f a) (gaB cd sz) (t + 1) e b c = bpU (mtB sz ph g s m a) (whF sz f a) (gaB cd sz) t (e + 1) ((e : Nat) : Int) (whF sz f a e) from if_pos (⟨hok, Or.inl (by omega)⟩)]
                exact ih (e + 1) _ _ _ _ (by omega) (Or.inr ⟨e, by omega, rfl⟩) (by unfold whF; omega) (by first | rfl | assumption) (by first | rfl | assumption)
              · refine J.ild dX2_bestPiece_81 rfl ?_
                refine J.ild dX2_bestPiece_83 rfl ?_
                refine J.icmp_ne dX2_bestPiece_85 (by decide) (tgt := 107) (by unfold inI; omega) (by unfold inI; omega) (fun h7 => ?_) (fun h7 => ?_)
                · refine J.iinc (v := ((e + 1 : Nat) : Int)) dX2_bestPiece_107 rfl (by first | rfl | omega) (by decide) (jnc_of rfl rfl) ?_
                  refine J.goto dX2_bestPiece_110 (by decide) (tgt := 9) ?_
                  rw [show bpU (mtB sz ph g s m a) (whF sz f a) (gaB cd sz) (t + 1) e b c = bpU (mtB sz ph g s m a) (whF sz f a) (gaB cd sz) t (e + 1) b c from if_neg (fun h9 => by rcases h9.2 with h8 | h8 <;> omega)]
                  exact ih (e + 1) _ _ _ _ (by omega) (hb.imp id (fun ⟨k, hk, hk2⟩ => ⟨k, by omega, hk2⟩)) hc (by first | rfl | assumption) (by first | rfl | assumption)
                · refine J.ald_n dX2_bestPiece_88 rfl ?_
                  refine J.ild dX2_bestPiece_89 rfl ?_
                  refine J.ild dX2_bestPiece_91 rfl ?_
                  rcases hb with hb0 | ⟨k, hk, hbk⟩
                  · subst hb0
                    refine J.callV (rm' := rX0_goesAhead) [vI ((e : Nat) : Int), vI (-1)] dX2_bestPiece_93 (c_X0_goesAhead_n hB h5 hn (by omega)) hB.1 rfl st_X0_goesAhead ml_X2_42 im_X0_goesAhead se_X0_goesAhead rfl (Nat.le_of_ble_eq_true rfl) (by decide) (by decide) (Nat.le_of_ble_eq_true rfl) (by decide) (by decide) (Or.inl rfl) (fun E9 σ9 hq9 _ => nomatch hq9.1) (fun r9 σ9 hq9 hle9 => ?_)
                    obtain ⟨h9, h8⟩ := hq9
                    rw [h8]
                    clear hle9 h8 σ9
                    cases h9
                    refine J.if_eq dX2_bestPiece_96 (by decide) (tgt := 107) (by unfold inI; omega) (fun h8 => ?_) (fun h8 => ?_)
                    · exact absurd h8 (by decide)
                    · refine J.ild dX2_bestPiece_99 rfl ?_
                      refine J.ist dX2_bestPiece_101 (by decide) (jnc_of rfl rfl) ?_
                      refine J.ild dX2_bestPiece_103 rfl ?_
                      refine J.ist dX2_bestPiece_105 (by decide) (jnc_of rfl rfl) ?_
                      refine J.iinc (v := ((e + 1 : Nat) : Int)) dX2_bestPiece_107 rfl (by first | rfl | omega) (by decide) (jnc_of rfl rfl) ?_
                      refine J.goto dX2_bestPiece_110 (by decide) (tgt := 9) ?_
                      rw [show bpU (mtB sz ph g s m a) (whF sz f a) (gaB cd sz) (t + 1) e (-1) c = bpU (mtB sz ph g s m a) (whF sz f a) (gaB cd sz) t (e + 1) ((e : Nat) : Int) (whF sz f a e) from if_pos (⟨hok, Or.inr ⟨by omega, Or.inl rfl⟩⟩)]
                      exact ih (e + 1) _ _ _ _ (by omega) (Or.inr ⟨e, by omega, rfl⟩) (by unfold whF; omega) (by first | rfl | assumption) (by first | rfl | assumption)
                  · subst hbk
                    refine J.callV (rm' := rX0_goesAhead) [vI ((e : Nat) : Int), vI ((k : Nat) : Int)] dX2_bestPiece_93 (c_X0_goesAhead_s hB h5 hn hcd hsz (by omega) (by omega)) hB.1 rfl st_X0_goesAhead ml_X2_42 im_X0_goesAhead se_X0_goesAhead rfl (Nat.le_of_ble_eq_true rfl) (by decide) (by decide) (Nat.le_of_ble_eq_true rfl) (by decide) (by decide) (Or.inl rfl) (fun E9 σ9 hq9 _ => nomatch hq9.1) (fun r9 σ9 hq9 hle9 => ?_)
                    obtain ⟨h9, h8⟩ := hq9
                    rw [h8]
                    clear hle9 h8 σ9
                    cases h9
                    by_cases hga : gaB cd sz e k = true
                    · rw [show bN (gaB cd sz e k) = 1 from if_pos hga]
                      refine J.if_eq dX2_bestPiece_96 (by decide) (tgt := 107) (by unfold inI; omega) (fun h8 => ?_) (fun h8 => ?_)
                      · exact absurd h8 (by decide)
                      · refine J.ild dX2_bestPiece_99 rfl ?_
                        refine J.ist dX2_bestPiece_101 (by decide) (jnc_of rfl rfl) ?_
                        refine J.ild dX2_bestPiece_103 rfl ?_
                        refine J.ist dX2_bestPiece_105 (by decide) (jnc_of rfl rfl) ?_
                        refine J.iinc (v := ((e + 1 : Nat) : Int)) dX2_bestPiece_107 rfl (by first | rfl | omega) (by decide) (jnc_of rfl rfl) ?_
                        refine J.goto dX2_bestPiece_110 (by decide) (tgt := 9) ?_
                        rw [show bpU (mtB sz ph g s m a) (whF sz f a) (gaB cd sz) (t + 1) e ((k : Nat) : Int) c = bpU (mtB sz ph g s m a) (whF sz f a) (gaB cd sz) t (e + 1) ((e : Nat) : Int) (whF sz f a e) from if_pos (⟨hok, Or.inr ⟨by omega, Or.inr hga⟩⟩)]
                        exact ih (e + 1) _ _ _ _ (by omega) (Or.inr ⟨e, by omega, rfl⟩) (by unfold whF; omega) (by first | rfl | assumption) (by first | rfl | assumption)
                    · rw [show bN (gaB cd sz e k) = 0 from if_neg hga]
                      refine J.if_eq dX2_bestPiece_96 (by decide) (tgt := 107) (by unfold inI; omega) (fun h8 => ?_) (fun h8 => ?_)
                      · refine J.iinc (v := ((e + 1 : Nat) : Int)) dX2_bestPiece_107 rfl (by first | rfl | omega) (by decide) (jnc_of rfl rfl) ?_
                        refine J.goto dX2_bestPiece_110 (by decide) (tgt := 9) ?_
                        rw [show bpU (mtB sz ph g s m a) (whF sz f a) (gaB cd sz) (t + 1) e ((k : Nat) : Int) c = bpU (mtB sz ph g s m a) (whF sz f a) (gaB cd sz) t (e + 1) ((k : Nat) : Int) c from if_neg (fun h9 => by rcases h9.2 with h8 | ⟨-, h8 | h8⟩; omega; omega; exact hga h8)]
                        exact ih (e + 1) _ _ _ _ (by omega) (Or.inr ⟨k, by omega, rfl⟩) hc (by first | rfl | assumption) (by first | rfl | assumption)
                      · exact absurd rfl h8
            · exact absurd hb5 (by decide)
          · rw [show bN (smU ph g (sz e) (e * 6) (s + a)) = 0 from if_neg hsm9]
            refine J.if_ne dX2_bestPiece_57 (by decide) (tgt := 63) (by unfold inI; omega) (fun hb5 => ?_) (fun hb5 => ?_)
            · exact absurd rfl hb5
            · refine J.goto dX2_bestPiece_60 (by decide) (tgt := 107) ?_
              refine J.iinc (v := ((e + 1 : Nat) : Int)) dX2_bestPiece_107 rfl (by first | rfl | omega) (by decide) (jnc_of rfl rfl) ?_
              refine J.goto dX2_bestPiece_110 (by decide) (tgt := 9) ?_
              rw [show bpU (mtB sz ph g s m a) (whF sz f a) (gaB cd sz) (t + 1) e b c = bpU (mtB sz ph g s m a) (whF sz f a) (gaB cd sz) t (e + 1) b c from if_neg (fun h9 => by have := h9.1; unfold mtB at this; rw [Bool.and_eq_true] at this; exact hsm9 this.2)]
              exact ih (e + 1) _ _ _ _ (by omega) (hb.imp id (fun ⟨k, hk, hk2⟩ => ⟨k, by omega, hk2⟩)) hc (by first | rfl | assumption) (by first | rfl | assumption)
  exact L n 0 (-1) pc _ _ (by omega) (Or.inl rfl) (by omega) rfl rfl
set_option maxRecDepth 20000 in
theorem c_X2_divide {X : jX} {σ : jS} {i n : Nat} {cd sz : Nat → Nat} {ph : Nat → Int} {v il ip q N s m : Nat} {f0 p0 g : Nat → Int} {pr : Int} (hB : BK σ i n cd sz ph) (h5i : 5 ≤ i) (hn : n ≤ 40) (hcd : ∀ e, e < n → cd e ≤ 11881375) (hsz : ∀ e, e < n → 1 ≤ sz e ∧ sz e ≤ 6) (hV : σ.2 v = jO 1 [.ref il, .ref ip]) (hL : σ.2 il = jI 41 f0) (hP : σ.2 ip = jI 40 p0) (e2 : σ.2 q = jI N g) (hN : N ≤ 100000) (hm : m ≤ 40) (hsm : s + m ≤ N) (hg : ∀ t, t < N → inI (g t)) (hph : ∀ t, t < 240 → inI (ph t)) (hpr : 1 ≤ pr ∧ pr ≤ 5) (d1 : il < i ∨ i + 3 < il) (d2 : ip < i ∨ i + 3 < ip) (d3 : v ≠ il ∧ v ≠ ip ∧ q ≠ il ∧ q ≠ ip ∧ il ≠ ip) (h5v : 5 ≤ il ∧ 5 ≤ ip) : JM X mX2_divide rX2_divide [.ref v, .ref i, vI pr, .ref q, vI ((s : Nat) : Int), vI ((m : Nat) : Int)] σ (fun o σ1 => o = oI (cvC n sz ph g s m pr 0) ∧ (∃ f p, σ1.2 il = jI 41 f ∧ σ1.2 ip = jI 40 p ∧ ∀ j, j < m → p j = pkC n cd sz ph g s m pr j) ∧ σ1.1 = σ.1 ∧ ∀ j, j ≠ il → j ≠ ip → σ1.2 j = σ.2 j) := by
  refine JM.of (lc := [.ref v, .ref i, vI pr, .ref q, vI ((s : Nat) : Int), vI ((m : Nat) : Int), .null]) rfl ?_
  refine J.ild dX2_divide_0 rfl ?_
  refine J.if_lt dX2_divide_2 (by decide) (tgt := 12) (by unfold inI; omega) (fun h0 => ?_) (fun h0 => ?_)
  · omega
  · refine J.ild dX2_divide_5 rfl ?_
    refine J.bipush dX2_divide_7 (by decide) ?_
    refine J.icmp_le dX2_divide_9 (by decide) (tgt := 14) (by unfold inI; omega) (by unfold inI; omega) (fun h1 => ?_) (fun h1 => ?_)
    · refine J.ald_n dX2_divide_14 rfl ?_
      refine gf_X2_9 rfl dX2_divide_15 hV ?_
      refine J.ild dX2_divide_18 rfl ?_
      refine J.iconst dX2_divide_20 ?_
      refine J.iast m dX2_divide_21 hL (by omega) rfl (by omega) (by omega) ?_
      refine J.ild dX2_divide_22 rfl ?_
      refine J.iconst dX2_divide_24 ?_
      refine J.isub dX2_divide_25 ?_
      refine J.ist dX2_divide_26 (by decide) (jnc_of rfl rfl) ?_
      have L : ∀ (t : Nat), ∀ (σ' : jS) (f p : Nat → Int), t ≤ m → σ'.1 = σ.1 → (∀ j, j ≠ il → j ≠ ip → σ'.2 j = σ.2 j) → σ'.2 il = jI 41 f → σ'.2 ip = jI 40 p → (∀ j, t ≤ j → j ≤ m → f j = (cvC n sz ph g s m pr) j) → (∀ j, t ≤ j → j < m → p j = (pkC n cd sz ph g s m pr) j) → J X mX2_divide rX2_divide 28 [.ref v, .ref i, vI pr, .ref q, vI ((s : Nat) : Int), vI ((m : Nat) : Int), vI (((t : Nat) : Int) - 1)] [] 0 0 σ' (fun o σ1 => o = oI (cvC n sz ph g s m pr 0) ∧ (∃ f p, σ1.2 il = jI 41 f ∧ σ1.2 ip = jI 40 p ∧ ∀ j, j < m → p j = pkC n cd sz ph g s m pr j) ∧ σ1.1 = σ.1 ∧ ∀ j, j ≠ il → j ≠ ip → σ1.2 j = σ.2 j) := by
        intro t
        induction t with
        | zero =>
          intro σ' f p h0 h1 h2 h3 h4 h5 h6
          have hB' : BK σ' i n cd sz ph := hB.keep (fun j _ _ => h2 j (by omega) (by omega))
          refine J.ild dX2_divide_28 rfl ?_
          refine J.if_lt dX2_divide_30 (by decide) (tgt := 126) (by unfold inI; omega) (fun hb => ?_) (fun hb => ?_)
          · refine J.ald_n dX2_divide_126 rfl ?_
            refine gf_X2_9 rfl dX2_divide_127 ((h2 _ (by omega) (by omega)).trans hV) ?_
            refine J.iconst dX2_divide_130 ?_
            refine J.iald 0 dX2_divide_131 h3 rfl (by omega) (by omega) ?_
            refine J.iret .int dX2_divide_132 rfl rfl (by decide) (by decide) ?_
            refine ⟨by rw [h5 0 (by omega) (by omega)], ⟨f, p, h3, h4, fun j hj => h6 j (by omega) hj⟩, h1, h2⟩
          · omega
        | succ t ih =>
          intro σ' f p h0 h1 h2 h3 h4 h5 h6
          have hB' : BK σ' i n cd sz ph := hB.keep (fun j _ _ => h2 j (by omega) (by omega))
          rw [show (((t + 1 : Nat) : Nat) : Int) - 1 = ((t : Nat) : Int) from by omega]
          have hbd := fun j => cvC_bd (n := n) (sz := sz) (ph := ph) (g := g) (s := s) hpr hm j
          have hw : ∀ k, 0 ≤ k → k < 0 + n → (mtB sz ph g s m t) k = true → (whF sz f t) k = whF sz (cvC n sz ph g s m pr) t k := fun k _ hk hok => by
            unfold mtB at hok; rw [Bool.and_eq_true, decide_eq_true_eq] at hok
            have := hsz k (by omega)
            unfold whF; rw [h5 _ (by omega) hok.1]
          have hf1 : f (t + 1) = (cvC n sz ph g s m pr) (t + 1) := h5 _ (by omega) (by omega)
          have hC : (cvC n sz ph g s m pr) t = mnU (mtB sz ph g s m t) (whF sz f t) n 0 (pr + f (t + 1)) := by rw [cvC_step (fun e he => (hsz e he).1) (show t < m by omega), hf1, mnU_congr n 0 _ hw]
          have hR3 : bpU (mtB sz ph g s m t) (whF sz f t) (gaB cd sz) n 0 (-1) (pr + f (t + 1)) = (pkC n cd sz ph g s m pr) t := by rw [bpU_eq, ite_self, ← hC, pkU_congr n 0 _ hw]; rfl
          have hR := bpU_ok (mtB sz ph g s m t) (whF sz f t) (gaB cd sz) (pr + f (t + 1)) n 0 (-1) (pr + f (t + 1)) (Or.inl ⟨rfl, rfl⟩)
          have hft : 0 ≤ f (t + 1) ∧ f (t + 1) ≤ 200 := by have := hbd (t + 1); omega
          generalize hRe : bpU (mtB sz ph g s m t) (whF sz f t) (gaB cd sz) n 0 (-1) (pr + f (t + 1)) = R9 at hR hR3
          refine J.ild dX2_divide_28 rfl ?_
          refine J.if_lt dX2_divide_30 (by decide) (tgt := 126) (by unfold inI; omega) (fun hb => ?_) (fun hb => ?_)
          · omega
          · refine J.ald_n dX2_divide_33 rfl ?_
            refine gf_X2_15 rfl dX2_divide_34 ((h2 _ (by omega) (by omega)).trans hV) ?_
            refine J.ild dX2_divide_37 rfl ?_
            refine J.ald_n dX2_divide_39 rfl ?_
            refine J.ald_n dX2_divide_40 rfl ?_
            refine J.ild_n dX2_divide_41 rfl ?_
            refine J.ald_n dX2_divide_42 rfl ?_
            refine gf_X2_9 rfl dX2_divide_43 ((h2 _ (by omega) (by omega)).trans hV) ?_
            refine J.ild dX2_divide_46 rfl ?_
            refine J.iconst dX2_divide_48 ?_
            refine J.iadd dX2_divide_49 ?_
            rw [show (((t : Nat) : Int) : Int) + 1 = ((t + 1 : Nat) : Int) from by push_cast; rfl]
            refine J.iald (t + 1) dX2_divide_50 h3 rfl (by omega) (by omega) ?_
            refine J.iadd dX2_divide_51 ?_
            refine J.ald_n dX2_divide_52 rfl ?_
            refine J.ild dX2_divide_53 rfl ?_
            refine J.ild dX2_divide_55 rfl ?_
            refine J.iadd dX2_divide_57 ?_
            rw [show (((s : Nat) : Int) : Int) + ((t : Nat) : Int) = ((s + t : Nat) : Int) from by push_cast; rfl]
            refine J.ild dX2_divide_58 rfl ?_
            refine J.ild dX2_divide_60 rfl ?_
            refine J.callV (rm' := rX2_bestPiece) [.ref i, vI (pr + (f (t + 1))), .ref q, vI ((s + t : Nat) : Int), vI ((t : Nat) : Int), vI ((m : Nat) : Int)] dX2_divide_62 (c_X2_bestPiece hB' h5i hn hcd hsz ((h2 _ (by omega) (by omega)).trans hV) h3 ((h2 _ (by omega) (by omega)).trans e2) hN hm hsm hg hph (fun j ha hj => by have := hbd j; rw [h5 j (by omega) hj]; omega) (by omega) (by omega)) ((h2 _ (by omega) (by omega)).trans hV) rfl st_X2_bestPiece ml_X2_18 im_X2_bestPiece se_X2_bestPiece rfl (Nat.le_of_ble_eq_true rfl) (by decide) (by decide) (Nat.le_of_ble_eq_true rfl) (by decide) (by decide) (Or.inl rfl) (fun E9 σ9 hq9 _ => nomatch hq9.1) (fun r9 σ9 hq9 hle9 => ?_)
            obtain ⟨h9, h8⟩ := hq9
            rw [h8]
            clear hle9 h8 σ9
            cases h9
            rw [hRe]
            refine J.iast t dX2_divide_65 h4 (by omega) rfl (by omega) (by omega) ?_
            refine J.ald_n dX2_divide_66 rfl ?_
            refine gf_X2_9 rfl dX2_divide_67 ((jset_ne _ _ (by omega)).trans ((h2 _ (by omega) (by omega)).trans hV)) ?_
            refine J.ild dX2_divide_70 rfl ?_
            refine J.ald_n dX2_divide_72 rfl ?_
            refine gf_X2_15 rfl dX2_divide_73 ((jset_ne _ _ (by omega)).trans ((h2 _ (by omega) (by omega)).trans hV)) ?_
            refine J.ild dX2_divide_76 rfl ?_
            refine J.iald t dX2_divide_78 (jset_eq _ _ _) rfl (by omega) (by omega) ?_
            rw [show (jup p t R9) t = R9 from jup_eq _ _ _]
            refine J.iconst dX2_divide_79 ?_
            have hRb : -1 ≤ R9 ∧ R9 ≤ 40 := by rcases hR with ⟨q, -⟩ | ⟨k, q, q2, -, -⟩ <;> omega
            refine J.icmp_ne dX2_divide_80 (by decide) (tgt := 97) (by unfold inI; omega) (by unfold inI; omega) (fun hb2 => ?_) (fun hb2 => ?_)
            · rcases hR with hRn | ⟨k, hk1, hk2, hk3, hk4⟩
              · exact absurd hRn.1 hb2
              · have hszk := hsz k (by omega)
                have hkm : t + sz k ≤ m := by have hok := hk4; unfold mtB at hok; rw [Bool.and_eq_true, decide_eq_true_eq] at hok; exact hok.1
                have hfk : 0 ≤ f (t + sz k) ∧ f (t + sz k) ≤ 1000 := by have := hbd (t + sz k); rw [h5 _ (by omega) hkm]; omega
                refine J.iconst dX2_divide_97 ?_
                refine J.ald_n dX2_divide_98 rfl ?_
                refine gf_X2_9 rfl dX2_divide_99 ((jset_ne _ _ (by omega)).trans ((h2 _ (by omega) (by omega)).trans hV)) ?_
                refine J.ild dX2_divide_102 rfl ?_
                refine J.ald_n dX2_divide_104 rfl ?_
                refine gf_X2_22 rfl dX2_divide_105 ((jset_ne _ _ (by omega)).trans hB'.1) ?_
                refine J.ald_n dX2_divide_108 rfl ?_
                refine gf_X2_15 rfl dX2_divide_109 ((jset_ne _ _ (by omega)).trans ((h2 _ (by omega) (by omega)).trans hV)) ?_
                refine J.ild dX2_divide_112 rfl ?_
                refine J.iald t dX2_divide_114 (jset_eq _ _ _) rfl (by omega) (by omega) ?_
                rw [show (jup p t R9) t = ((k : Nat) : Int) from (jup_eq _ _ _).trans hk1]
                refine J.iald k dX2_divide_115 ((jset_ne _ _ (by omega)).trans hB'.2.2.1) rfl (by omega) (by omega) ?_
                refine J.iadd dX2_divide_116 ?_
                rw [show (((t : Nat) : Int) : Int) + ((sz k : Nat) : Int) = ((t + (sz k) : Nat) : Int) from by push_cast; rfl]
                refine J.iald (t + (sz k)) dX2_divide_117 ((jset_ne _ _ (by omega)).trans h3) rfl (by omega) (by omega) ?_
                refine J.iadd dX2_divide_118 ?_
                refine J.iast t dX2_divide_119 ((jset_ne _ _ (by omega)).trans h3) (by omega) rfl (by omega) (by omega) ?_
                refine J.iinc (v := (((t : Nat) : Int) - 1)) dX2_divide_120 rfl (by first | rfl | omega) (by decide) (jnc_of rfl rfl) ?_
                refine J.goto dX2_divide_123 (by decide) (tgt := 28) ?_
                refine ih _ _ _ (by omega) h1 (fun j ha hb => by rw [jset_ne _ _ ha, jset_ne _ _ hb]; exact h2 j ha hb) (jset_eq _ _ _) ((jset_ne _ _ (by omega)).trans (jset_eq _ _ _)) (fun j ha hb => ?_) (fun j ha hb => ?_)
                · by_cases hj : j = t
                  · subst hj; rw [jup_eq, hC]; exact hk3
                  · rw [jup_ne _ _ hj]; exact h5 j (by omega) hb
                · by_cases hj : j = t
                  · subst hj; rw [jup_eq]; exact hR3
                  · rw [jup_ne _ _ hj]; exact h6 j (by omega) hb
            · refine J.ild_n dX2_divide_83 rfl ?_
              refine J.ald_n dX2_divide_84 rfl ?_
              refine gf_X2_9 rfl dX2_divide_85 ((jset_ne _ _ (by omega)).trans ((h2 _ (by omega) (by omega)).trans hV)) ?_
              refine J.ild dX2_divide_88 rfl ?_
              refine J.iconst dX2_divide_90 ?_
              refine J.iadd dX2_divide_91 ?_
              rw [show (((t : Nat) : Int) : Int) + 1 = ((t + 1 : Nat) : Int) from by push_cast; rfl]
              refine J.iald (t + 1) dX2_divide_92 ((jset_ne _ _ (by omega)).trans h3) rfl (by omega) (by omega) ?_
              refine J.iadd dX2_divide_93 ?_
              refine J.goto dX2_divide_94 (by decide) (tgt := 119) ?_
              rcases hR with ⟨hn1, hn2⟩ | ⟨k, hk1, hk2, hk3, hk4⟩
              · refine J.iast t dX2_divide_119 ((jset_ne _ _ (by omega)).trans h3) (by omega) rfl (by omega) (by omega) ?_
                refine J.iinc (v := (((t : Nat) : Int) - 1)) dX2_divide_120 rfl (by first | rfl | omega) (by decide) (jnc_of rfl rfl) ?_
                refine J.goto dX2_divide_123 (by decide) (tgt := 28) ?_
                refine ih _ _ _ (by omega) h1 (fun j ha hb => by rw [jset_ne _ _ ha, jset_ne _ _ hb]; exact h2 j ha hb) (jset_eq _ _ _) ((jset_ne _ _ (by omega)).trans (jset_eq _ _ _)) (fun j ha hb => ?_) (fun j ha hb => ?_)
                · by_cases hj : j = t
                  · subst hj; rw [jup_eq, hC]; exact hn2.symm
                  · rw [jup_ne _ _ hj]; exact h5 j (by omega) hb
                · by_cases hj : j = t
                  · subst hj; rw [jup_eq]; exact hR3
                  · rw [jup_ne _ _ hj]; exact h6 j (by omega) hb
              · omega
      exact L m _ _ _ (Nat.le_refl _) rfl (fun j ha _ => jset_ne _ _ ha) (jset_eq _ _ _) ((jset_ne _ _ (by omega)).trans hP) (fun j ha hb => by rw [show j = m by omega, jup_eq, cvC_m]) (fun j ha hb => by omega)
    · omega
