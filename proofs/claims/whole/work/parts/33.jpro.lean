/-! ===== two ways to the phrase that saves most ===== -/
/-- findings of the phrase at A, line by line from k on -/
def tmU (kr : Nat → Int) (ks : Nat → Nat) (z A : Nat) : Nat → Nat → Nat
  | 0, _ => 0
  | t + 1, k => gU (fun p => smU kr kr z A (k * 41 + p)) z (ks k) (ks k) 0 + tmU kr ks z A t (k + 1)
theorem sm_ffn {kr : Nat → Int} {z A b : Nat} : smU kr kr z A b = decide (ffn kr z b = ffn kr z A) := by
  rw [Bool.eq_iff_iff, decide_eq_true_eq]
  refine ⟨fun h => (ffn_eq h).symm, fun h => ?_⟩
  have h1 : smU kr kr z (ffn kr z A) A = true := ffn_sm
  have h2 : smU kr kr z (ffn kr z b) b = true := ffn_sm
  rw [h] at h2
  exact smU_trans (smU_symm h1) h2
theorem tmU_gT {kr : Nat → Int} {ks : Nat → Nat} {z A : Nat} : ∀ (t k : Nat), gT kr ks z (ffn kr z A) k + tmU kr ks z A t k = gT kr ks z (ffn kr z A) (k + t)
  | 0, _ => rfl
  | t + 1, k => by
    have ih := tmU_gT (kr := kr) (ks := ks) (z := z) (A := A) t (k + 1)
    rw [show k + (t + 1) = (k + 1) + t by omega, ← ih]
    show gT kr ks z (ffn kr z A) k + (gU (fun p => smU kr kr z A (k * 41 + p)) z (ks k) (ks k) 0 + tmU kr ks z A t (k + 1)) = gT kr ks z (ffn kr z A) k + gU (fun p => decide (ffn kr z (k * 41 + p) = ffn kr z A)) z (ks k) (ks k) 0 + tmU kr ks z A t (k + 1)
    rw [gU_congr (P := fun p => smU kr kr z A (k * 41 + p)) (P' := fun p => decide (ffn kr z (k * 41 + p) = ffn kr z A)) (fun p _ => sm_ffn)]
    omega
def tms (kr : Nat → Int) (ks : Nat → Nat) (z A kn : Nat) : Nat := tmU kr ks z A kn 0
theorem tms_gT {kr : Nat → Int} {ks : Nat → Nat} {z A kn : Nat} : tms kr ks z A kn = gT kr ks z (ffn kr z A) kn := by
  have := tmU_gT (kr := kr) (ks := ks) (z := z) (A := A) kn 0
  rw [Nat.zero_add] at this
  rw [← this]
  show _ = 0 + _
  rw [Nat.zero_add]
  rfl
/-- one place looked at -/
def stM (kr : Nat → Int) (ks : Nat → Nat) (kn : Nat) (no : Nat → Bool) (z : Nat) (pr : Int) (b : Int × Nat × Nat) (a : Nat) : Int × Nat × Nat :=
  if 2 ≤ ((tms kr ks z a kn : Nat) : Int) ∧ b.1 < ((tms kr ks z a kn : Nat) : Int) * (((z : Nat) : Int) * pr - 1) ∧ no a = false then (((tms kr ks z a kn : Nat) : Int) * (((z : Nat) : Int) * pr - 1), a, z) else b
def pmL (kr : Nat → Int) (ks : Nat → Nat) (kn : Nat) (no : Nat → Bool) (z : Nat) (pr : Int) (k : Nat) : Nat → Nat → (Int × Nat × Nat) → Int × Nat × Nat
  | 0, _, b => b
  | t + 1, p, b => if p + z ≤ ks k then pmL kr ks kn no z pr k t (p + 1) (stM kr ks kn no z pr b (k * 41 + p)) else b
def pmK (kr : Nat → Int) (ks : Nat → Nat) (kn : Nat) (no : Nat → Bool) (z : Nat) (pr : Int) : Nat → Nat → (Int × Nat × Nat) → Int × Nat × Nat
  | 0, _, b => b
  | t + 1, k, b => pmK kr ks kn no z pr t (k + 1) (pmL kr ks kn no z pr k 41 0 b)
def pmO (kr : Nat → Int) (ks : Nat → Nat) (kn : Nat) (no : Nat → Nat → Bool) (pr : Int) : Nat → Nat → (Int × Nat × Nat) → Int × Nat × Nat
  | 0, _, b => b
  | t + 1, z, b => pmO kr ks kn no pr t (z + 1) (pmK kr ks kn (no z) z pr kn 0 b)
/-- what has been looked at is worth no more -/
def pInv (kr : Nat → Int) (ks : Nat → Nat) (kn : Nat) (no : Nat → Bool) (z : Nat) (pr : Int) (b : Int × Nat × Nat) (a : Nat) : Prop :=
  ∀ f, f < a → fits kn ks z f → 2 ≤ tms kr ks z f kn → no f = false → ((tms kr ks z f kn : Nat) : Int) * (((z : Nat) : Int) * pr - 1) ≤ b.1
def stC (tt : Nat → Int) (no : Nat → Bool) (z : Nat) (pr : Int) (b : Int × Nat × Nat) (a : Nat) : Int × Nat × Nat :=
  if 2 ≤ tt a ∧ b.1 < tt a * (((z : Nat) : Int) * pr - 1) ∧ no a = false then (tt a * (((z : Nat) : Int) * pr - 1), a, z) else b
theorem stM_mono {kr : Nat → Int} {ks : Nat → Nat} {kn : Nat} {no : Nat → Bool} {z : Nat} {pr : Int} {b : Int × Nat × Nat} {a : Nat} : b.1 ≤ (stM kr ks kn no z pr b a).1 := by
  unfold stM
  by_cases h : 2 ≤ ((tms kr ks z a kn : Nat) : Int) ∧ b.1 < ((tms kr ks z a kn : Nat) : Int) * (((z : Nat) : Int) * pr - 1) ∧ no a = false
  · rw [if_pos h]
    have := h.2.1
    show b.1 ≤ ((tms kr ks z a kn : Nat) : Int) * (((z : Nat) : Int) * pr - 1)
    omega
  · rw [if_neg h]
    exact Int.le_refl _
theorem pInv_step {kr : Nat → Int} {ks : Nat → Nat} {kn : Nat} {no : Nat → Bool} {z : Nat} {pr : Int} {b : Int × Nat × Nat} {a : Nat} (h : pInv kr ks kn no z pr b a) : pInv kr ks kn no z pr (stM kr ks kn no z pr b a) (a + 1) := fun f hf h1 h2 h3 => by
  by_cases hfa : f = a
  · subst hfa
    by_cases h4 : b.1 < ((tms kr ks z f kn : Nat) : Int) * (((z : Nat) : Int) * pr - 1)
    · unfold stM
      rw [if_pos ⟨by omega, h4, h3⟩]
      exact Int.le_refl _
    · have := stM_mono (kr := kr) (ks := ks) (kn := kn) (no := no) (z := z) (pr := pr) (b := b) (a := f)
      omega
  · have h5 := h f (by omega) h1 h2 h3
    have := stM_mono (kr := kr) (ks := ks) (kn := kn) (no := no) (z := z) (pr := pr) (b := b) (a := a)
    omega
theorem pInv_skip {kr : Nat → Int} {ks : Nat → Nat} {kn : Nat} {no : Nat → Bool} {z : Nat} {pr : Int} {b : Int × Nat × Nat} {a : Nat} (h : pInv kr ks kn no z pr b a) (hn : ¬ fits kn ks z a) : pInv kr ks kn no z pr b (a + 1) := fun f hf h1 h2 h3 => by
  by_cases hfa : f = a
  · subst hfa; exact absurd h1 hn
  · exact h f (by omega) h1 h2 h3
theorem st_eq {kn : Nat} {kr : Nat → Int} {ks : Nat → Nat} {kt : Nat → Nat → Int} (hk : KI kn kr ks kt) {no : Nat → Bool} {z : Nat} {pr : Int} {b : Int × Nat × Nat} {a : Nat} (hz : 2 ≤ z ∧ z ≤ 6) (ha : fits kn ks z a) (hno : ∀ f, smU kr kr z f a = true → no f = no a) (h : pInv kr ks kn no z pr b a) : stC (kt (z - 2)) no z pr b a = stM kr ks kn no z pr b a := by
  have hkt := hk.2.2.2.2.2 (z - 2) a (by omega)
  rw [show z - 2 + 2 = z by omega] at hkt
  unfold stC stM
  rw [hkt]
  by_cases hr : ffn kr z a = a
  · rw [tms_gT, hr]
  · have h0 : gT kr ks z a kn = 0 := by
      by_cases hp : 0 < gT kr ks z a kn
      · exact absurd (hk.rep (by omega) hp).2 hr
      · omega
    rw [h0, if_neg (by omega)]
    have hlt : ffn kr z a < a := by have := ffn_le (kr := kr) (k := z) (a := a); omega
    have ht : tms kr ks z (ffn kr z a) kn = tms kr ks z a kn := by rw [tms_gT, tms_gT, ffn_ffn]
    have h1 := h (ffn kr z a) hlt (hk.ffit (by omega) ha)
    rw [ht, hno _ ffn_sm] at h1
    refine (if_neg (fun q => ?_)).symm
    have := h1 (by have := q.1; omega) q.2.2
    have := q.2.1
    omega
theorem not_fits {kn : Nat} {ks : Nat → Nat} {z k p : Nat} (hz : 1 ≤ z) (h40 : ∀ j, j < kn → ks j ≤ 40) (hp : p < 41) (h : ¬ p + z ≤ ks k) : ¬ fits kn ks z (k * 41 + p) := fun ⟨j, q, hj, hq, he⟩ => by
  have := h40 j hj
  have hjk : j = k := by omega
  subst hjk
  omega
theorem prS_seg {kn : Nat} {kr : Nat → Int} {ks : Nat → Nat} {kt : Nat → Nat → Int} (hk : KI kn kr ks kt) {no : Nat → Bool} {z : Nat} {pr : Int} (hz : 2 ≤ z ∧ z ≤ 6) (hno : ∀ f a, smU kr kr z f a = true → no f = no a) {k : Nat} (hkn : k < kn) : ∀ (t p : Nat) (b : Int × Nat × Nat), p + t = 41 → pInv kr ks kn no z pr b (k * 41 + p) → prS (kt (z - 2)) no z pr t (k * 41 + p) b = pmL kr ks kn no z pr k t p b ∧ pInv kr ks kn no z pr (pmL kr ks kn no z pr k t p b) (k * 41 + 41)
  | 0, p, b, hp, h => ⟨rfl, by rw [show k * 41 + 41 = k * 41 + p by omega]; exact h⟩
  | t + 1, p, b, hp, h => by
    show prS (kt (z - 2)) no z pr t (k * 41 + (p + 1)) (stC (kt (z - 2)) no z pr b (k * 41 + p)) = (if p + z ≤ ks k then pmL kr ks kn no z pr k t (p + 1) (stM kr ks kn no z pr b (k * 41 + p)) else b) ∧ pInv kr ks kn no z pr (if p + z ≤ ks k then pmL kr ks kn no z pr k t (p + 1) (stM kr ks kn no z pr b (k * 41 + p)) else b) (k * 41 + 41)
    by_cases hq : p + z ≤ ks k
    · rw [if_pos hq, st_eq hk hz ⟨k, p, hkn, hq, rfl⟩ (fun f => hno f _) h]
      exact prS_seg hk hz hno hkn t (p + 1) _ (by omega) (pInv_step h)
    · have h40 : ∀ j, j < kn → ks j ≤ 40 := fun j hj => (hk.2.1 j hj).2
      have hf := not_fits (z := z) (k := k) (p := p) (by omega) h40 (by omega) hq
      have hC : stC (kt (z - 2)) no z pr b (k * 41 + p) = b := by
        have hkt := hk.2.2.2.2.2 (z - 2) (k * 41 + p) (by omega)
        rw [show z - 2 + 2 = z by omega] at hkt
        have h0 : gT kr ks z (k * 41 + p) kn = 0 := by
          by_cases hp : 0 < gT kr ks z (k * 41 + p) kn
          · exact absurd (hk.rep (by omega) hp).1 hf
          · omega
        unfold stC
        rw [hkt, h0, if_neg (by omega)]
      rw [if_neg hq, hC]
      have ih := prS_seg hk hz hno hkn t (p + 1) b (by omega) (pInv_skip h hf)
      have hL : pmL kr ks kn no z pr k t (p + 1) b = b := by
        cases t with
        | zero => rfl
        | succ t => exact if_neg (by omega)
      rw [hL] at ih
      exact ih
theorem prS_add {tt : Nat → Int} {no : Nat → Bool} {k : Nat} {pr : Int} : ∀ (t1 t2 a : Nat) (b : Int × Nat × Nat), prS tt no k pr (t1 + t2) a b = prS tt no k pr t2 (a + t1) (prS tt no k pr t1 a b)
  | 0, t2, a, b => by rw [Nat.zero_add]; rfl
  | t1 + 1, t2, a, b => by
    rw [show t1 + 1 + t2 = (t1 + t2) + 1 by omega, show a + (t1 + 1) = (a + 1) + t1 by omega]
    exact prS_add t1 t2 (a + 1) _
theorem prS_pmK {kn : Nat} {kr : Nat → Int} {ks : Nat → Nat} {kt : Nat → Nat → Int} (hk : KI kn kr ks kt) {no : Nat → Bool} {z : Nat} {pr : Int} (hz : 2 ≤ z ∧ z ≤ 6) (hno : ∀ f a, smU kr kr z f a = true → no f = no a) : ∀ (t k : Nat) (b : Int × Nat × Nat), k + t = kn → pInv kr ks kn no z pr b (k * 41) → prS (kt (z - 2)) no z pr (t * 41) (k * 41) b = pmK kr ks kn no z pr t k b
  | 0, _, _, _, _ => by rw [Nat.zero_mul]; rfl
  | t + 1, k, b, hkt, h => by
    rw [show (t + 1) * 41 = 41 + t * 41 by omega, prS_add]
    have hs := prS_seg hk hz hno (show k < kn by omega) 41 0 b (by omega) (by rw [Nat.add_zero]; exact h)
    rw [Nat.add_zero] at hs
    rw [hs.1, show k * 41 + 41 = (k + 1) * 41 by omega]
    have hs2 := hs.2
    rw [show k * 41 + 41 = (k + 1) * 41 by omega] at hs2
    exact prS_pmK hk hz hno t (k + 1) _ (by omega) hs2
theorem prO_pmO {kn : Nat} {kr : Nat → Int} {ks : Nat → Nat} {kt : Nat → Nat → Int} (hk : KI kn kr ks kt) {no : Nat → Nat → Bool} {pr : Int} (hno : ∀ z f a, smU kr kr z f a = true → no z f = no z a) : ∀ (t z : Nat) (b : Int × Nat × Nat), 2 ≤ z → z + t ≤ 7 → prO kt no pr (kn * 41) t z b = pmO kr ks kn no pr t z b
  | 0, _, _, _, _ => rfl
  | t + 1, z, b, h1, h2 => by
    show prO kt no pr (kn * 41) t (z + 1) (prS (kt (z - 2)) (no z) z pr (kn * 41) 0 b) = pmO kr ks kn no pr t (z + 1) (pmK kr ks kn (no z) z pr kn 0 b)
    have := prS_pmK hk (no := no z) (z := z) (pr := pr) ⟨h1, by omega⟩ (hno z) kn 0 b (by omega) (fun f hf => absurd hf (by omega))
    rw [Nat.zero_mul] at this
    rw [this]
    exact prO_pmO hk hno t (z + 1) _ (by omega) (by omega)
theorem hpU_sm {sz : Nat → Nat} {ph kr : Nat → Int} {z f a : Nat} (h : smU kr kr z f a = true) : ∀ (t e : Nat), hpU sz ph kr f z t e = hpU sz ph kr a z t e
  | 0, _ => rfl
  | t + 1, e => by
    show ((decide (sz e = z) && smU ph kr z (e * 6) f) || hpU sz ph kr f z t (e + 1)) = ((decide (sz e = z) && smU ph kr z (e * 6) a) || hpU sz ph kr a z t (e + 1))
    have : smU ph kr z (e * 6) f = smU ph kr z (e * 6) a := by
      rw [Bool.eq_iff_iff]
      exact ⟨fun q => smU_trans q h, fun q => smU_trans q (smU_symm h)⟩
    rw [this, hpU_sm h t (e + 1)]
theorem lnB_pm {kn : Nat} {kr : Nat → Int} {ks : Nat → Nat} {kt : Nat → Nat → Int} (hk : KI kn kr ks kt) {pr : Int} {n : Nat} {S : Nat → Nat} {P : Nat → Int} : lnB kn kr kt pr n S P = pmO kr ks kn (fun k a => hpU S P kr a k n 0) pr 5 2 (0, 0, 0) :=
  prO_pmO hk (fun _ _ _ h => hpU_sm h n 0) 5 2 (0, 0, 0) (by omega) (by omega)
/-! rows that agree divide alike -/
theorem mtB_congr {sz : Nat → Nat} {ph g g' : Nat → Int} {s s' m a : Nat} (h : ∀ t, t < m → g (s + t) = g' (s' + t)) : mtB sz ph g s m a = mtB sz ph g' s' m a := funext fun e => by
  unfold mtB
  by_cases h1 : a + sz e ≤ m
  · rw [decide_eq_true h1, Bool.true_and, Bool.true_and]
    refine Bool.eq_iff_iff.mpr ?_
    rw [smU_iff, smU_iff]
    refine ⟨fun q t ht => ?_, fun q t ht => ?_⟩
    · rw [q t ht, Nat.add_assoc, Nat.add_assoc]; exact h (a + t) (by omega)
    · rw [q t ht, Nat.add_assoc, Nat.add_assoc]; exact (h (a + t) (by omega)).symm
  · rw [decide_eq_false h1, Bool.false_and, Bool.false_and]
theorem cvF_congr {n : Nat} {sz : Nat → Nat} {ph g g' : Nat → Int} {s s' m : Nat} {pr : Int} (h : ∀ t, t < m → g (s + t) = g' (s' + t)) : ∀ t, cvF n sz ph g s m pr t = cvF n sz ph g' s' m pr t
  | 0 => rfl
  | t + 1 => by
    show jup (cvF n sz ph g s m pr t) (m - (t + 1)) (mnU (mtB sz ph g s m (m - (t + 1))) (whF sz (cvF n sz ph g s m pr t) (m - (t + 1))) n 0 (pr + cvF n sz ph g s m pr t (m - t))) = jup (cvF n sz ph g' s' m pr t) (m - (t + 1)) (mnU (mtB sz ph g' s' m (m - (t + 1))) (whF sz (cvF n sz ph g' s' m pr t) (m - (t + 1))) n 0 (pr + cvF n sz ph g' s' m pr t (m - t)))
    rw [cvF_congr h t, mtB_congr h]
theorem cvC_congr {n : Nat} {sz : Nat → Nat} {ph g g' : Nat → Int} {s s' m : Nat} {pr : Int} (h : ∀ t, t < m → g (s + t) = g' (s' + t)) : cvC n sz ph g s m pr = cvC n sz ph g' s' m pr := cvF_congr h m
theorem pkC_congr {n : Nat} {cd sz : Nat → Nat} {ph g g' : Nat → Int} {s s' m : Nat} {pr : Int} (h : ∀ t, t < m → g (s + t) = g' (s' + t)) : pkC n cd sz ph g s m pr = pkC n cd sz ph g' s' m pr := funext fun a => by
  unfold pkC
  rw [cvC_congr h, mtB_congr h]
