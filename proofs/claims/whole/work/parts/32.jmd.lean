set_option maxRecDepth 20000 in
theorem c_X7_stands {X : jX} {σ : jS} {th pr ln kn mn rd pa ps : Int} {b k q N s m a : Nat} {Ms sz : Nat → Nat} {Mp ph g : Nat → Int} (hO : MO σ th pr ln kn mn rd pa ps) (hb : b < 3) (hk : k < 40) (hszk : 1 ≤ sz k ∧ sz k ≤ 6) (h43 : σ.2 43 = jI 120 (fun e => ((Ms e : Nat) : Int))) (hs9 : ∀ e, e < 40 → Ms (40 * b + e) = sz e) (h44 : σ.2 44 = jI 720 Mp) (hp9 : ∀ t, t < 240 → Mp (240 * b + t) = ph t) (hph : ∀ t, 0 ≤ ph t ∧ ph t ≤ 9999) (e2 : σ.2 q = jI N g) (hN : N ≤ 100000) (hsm : s + m ≤ N) (hg : ∀ t, t < N → inI (g t)) (ha : a ≤ m) : JM X mX7_stands rX7_stands [.ref 37, vI ((40 * b + k : Nat) : Int), .ref q, vI ((s + a : Nat) : Int), vI ((s + m : Nat) : Int)] σ (jEnd (oI (bN (mtB sz ph g s m a k))) σ) := by
  refine JM.of (lc := [.ref 37, vI ((40 * b + k : Nat) : Int), .ref q, vI ((s + a : Nat) : Int), vI ((s + m : Nat) : Int), .null, .null]) rfl ?_
  refine J.ild_n dX7_stands_0 rfl ?_
  refine J.ald_n dX7_stands_1 rfl ?_
  refine gf_X7_29 rfl dX7_stands_2 hO ?_
  refine J.ild_n dX7_stands_5 rfl ?_
  refine J.iald (40 * b + k) dX7_stands_6 h43 rfl (by omega) (by omega) ?_
  rw [show Ms (40 * b + k) = ((sz k : Nat) : Int) from by rw [hs9 k (by omega)]]
  refine J.iadd dX7_stands_7 ?_
  rw [show (((s + a : Nat) : Int) : Int) + ((sz k : Nat) : Int) = (((s + a) + (sz k) : Nat) : Int) from by push_cast; rfl]
  refine J.ild dX7_stands_8 rfl ?_
  refine J.icmp_gt dX7_stands_10 (by decide) (tgt := 17) (by unfold inI; omega) (by unfold inI; omega) (fun h0 => ?_) (fun h0 => ?_)
  · refine J.iconst dX7_stands_17 ?_
    refine J.ist dX7_stands_18 (by decide) (jnc_of rfl rfl) ?_
    refine J.iconst dX7_stands_20 ?_
    refine J.ist dX7_stands_21 (by decide) (jnc_of rfl rfl) ?_
    refine J.ild dX7_stands_23 rfl ?_
    refine J.ald_n dX7_stands_25 rfl ?_
    refine gf_X7_29 rfl dX7_stands_26 hO ?_
    refine J.ild_n dX7_stands_29 rfl ?_
    refine J.iald (40 * b + k) dX7_stands_30 h43 rfl (by omega) (by omega) ?_
    rw [show Ms (40 * b + k) = ((sz k : Nat) : Int) from by rw [hs9 k (by omega)]]
    refine J.icmp_ge dX7_stands_31 (by decide) (tgt := 73) (by unfold inI; omega) (by unfold inI; omega) (fun h1 => ?_) (fun h1 => ?_)
    · omega
    · refine J.ild dX7_stands_34 rfl ?_
      refine J.if_eq dX7_stands_36 (by decide) (tgt := 73) (by unfold inI; omega) (fun h2 => ?_) (fun h2 => ?_)
      · refine J.ild dX7_stands_73 rfl ?_
        refine J.iret .boolean dX7_stands_75 rfl rfl (by decide) (by decide) ?_
        exact ⟨by rw [show mtB sz ph g s m a k = false from by unfold mtB; rw [decide_eq_false (by omega), Bool.false_and]] <;> rfl, rfl⟩
      · exact absurd rfl h2
  · refine J.iconst dX7_stands_13 ?_
    refine J.goto dX7_stands_14 (by decide) (tgt := 18) ?_
    refine J.ist dX7_stands_18 (by decide) (jnc_of rfl rfl) ?_
    refine J.iconst dX7_stands_20 ?_
    refine J.ist dX7_stands_21 (by decide) (jnc_of rfl rfl) ?_
    have L : ∀ (t : Nat), ∀ (w : Nat), w + t = sz k → J X mX7_stands rX7_stands 23 [.ref 37, vI ((40 * b + k : Nat) : Int), .ref q, vI ((s + a : Nat) : Int), vI ((s + m : Nat) : Int), vI 1, vI ((w : Nat) : Int)] [] 0 0 σ (jEnd (oI (bN (smU ph g t (k * 6 + w) (s + a + w)))) σ) := by
      intro t
      induction t with
      | zero =>
        intro w hw
        refine J.ild dX7_stands_23 rfl ?_
        refine J.ald_n dX7_stands_25 rfl ?_
        refine gf_X7_29 rfl dX7_stands_26 hO ?_
        refine J.ild_n dX7_stands_29 rfl ?_
        refine J.iald (40 * b + k) dX7_stands_30 h43 rfl (by omega) (by omega) ?_
        rw [show Ms (40 * b + k) = ((sz k : Nat) : Int) from by rw [hs9 k (by omega)]]
        refine J.icmp_ge dX7_stands_31 (by decide) (tgt := 73) (by unfold inI; omega) (by unfold inI; omega) (fun h1 => ?_) (fun h1 => ?_)
        · refine J.ild dX7_stands_73 rfl ?_
          refine J.iret .boolean dX7_stands_75 rfl rfl (by decide) (by decide) ?_
          exact ⟨rfl, rfl⟩
        · omega
      | succ t ih =>
        intro w hw
        refine J.ild dX7_stands_23 rfl ?_
        refine J.ald_n dX7_stands_25 rfl ?_
        refine gf_X7_29 rfl dX7_stands_26 hO ?_
        refine J.ild_n dX7_stands_29 rfl ?_
        refine J.iald (40 * b + k) dX7_stands_30 h43 rfl (by omega) (by omega) ?_
        rw [show Ms (40 * b + k) = ((sz k : Nat) : Int) from by rw [hs9 k (by omega)]]
        refine J.icmp_ge dX7_stands_31 (by decide) (tgt := 73) (by unfold inI; omega) (by unfold inI; omega) (fun h1 => ?_) (fun h1 => ?_)
        · omega
        · refine J.ild dX7_stands_34 rfl ?_
          refine J.if_eq dX7_stands_36 (by decide) (tgt := 73) (by unfold inI; omega) (fun h2 => ?_) (fun h2 => ?_)
          · exact absurd h2 (by decide)
          · have hpi := inI_w (hph (k * 6 + w))
            have hgi := hg (s + a + w) (by omega)
            refine J.ald_n dX7_stands_39 rfl ?_
            refine J.ild_n dX7_stands_40 rfl ?_
            refine J.ild dX7_stands_41 rfl ?_
            refine J.iadd dX7_stands_43 ?_
            rw [show (((s + a : Nat) : Int) : Int) + ((w : Nat) : Int) = (((s + a) + w : Nat) : Int) from by push_cast; rfl]
            refine J.iald ((s + a) + w) dX7_stands_44 e2 rfl (by omega) (by omega) ?_
            refine J.ald_n dX7_stands_45 rfl ?_
            refine gf_X7_32 rfl dX7_stands_46 hO ?_
            refine J.bipush dX7_stands_49 (by decide) ?_
            refine J.ild_n dX7_stands_51 rfl ?_
            refine J.imul dX7_stands_52 ?_
            rw [show (6 : Int) * ((40 * b + k : Nat) : Int) = ((6 * (40 * b + k) : Nat) : Int) from by push_cast; rfl]
            refine J.ild dX7_stands_53 rfl ?_
            refine J.iadd dX7_stands_55 ?_
            rw [show (((6 * (40 * b + k) : Nat) : Int) : Int) + ((w : Nat) : Int) = (((6 * (40 * b + k)) + w : Nat) : Int) from by push_cast; rfl]
            refine J.iald (240 * b + (k * 6 + w)) dX7_stands_56 h44 (by omega) (by omega) (by omega) ?_
            rw [show Mp (240 * b + (k * 6 + w)) = (ph (k * 6 + w)) from hp9 (k * 6 + w) (by omega)]
            refine J.icmp_ne dX7_stands_57 (by decide) (tgt := 64) hgi hpi (fun h3 => ?_) (fun h3 => ?_)
            · rw [show smU ph g (t + 1) (k * 6 + w) (s + a + w) = (decide (ph (k * 6 + w) = g (s + a + w)) && smU ph g t (k * 6 + (w + 1)) (s + a + (w + 1))) from rfl, decide_eq_false (Ne.symm h3), Bool.false_and]
              refine J.iconst dX7_stands_64 ?_
              refine J.ist dX7_stands_65 (by decide) (jnc_of rfl rfl) ?_
              refine J.iinc (v := ((w + 1 : Nat) : Int)) dX7_stands_67 rfl (by first | rfl | omega) (by decide) (jnc_of rfl rfl) ?_
              refine J.goto dX7_stands_70 (by decide) (tgt := 23) ?_
              refine J.ild dX7_stands_23 rfl ?_
              refine J.ald_n dX7_stands_25 rfl ?_
              refine gf_X7_29 rfl dX7_stands_26 hO ?_
              refine J.ild_n dX7_stands_29 rfl ?_
              refine J.iald (40 * b + k) dX7_stands_30 h43 rfl (by omega) (by omega) ?_
              rw [show Ms (40 * b + k) = ((sz k : Nat) : Int) from by rw [hs9 k (by omega)]]
              refine J.icmp_ge dX7_stands_31 (by decide) (tgt := 73) (by unfold inI; omega) (by unfold inI; omega) (fun h4 => ?_) (fun h4 => ?_)
              · refine J.ild dX7_stands_73 rfl ?_
                refine J.iret .boolean dX7_stands_75 rfl rfl (by decide) (by decide) ?_
                exact ⟨rfl, rfl⟩
              · refine J.ild dX7_stands_34 rfl ?_
                refine J.if_eq dX7_stands_36 (by decide) (tgt := 73) (by unfold inI; omega) (fun h5 => ?_) (fun h5 => ?_)
                · refine J.ild dX7_stands_73 rfl ?_
                  refine J.iret .boolean dX7_stands_75 rfl rfl (by decide) (by decide) ?_
                  exact ⟨rfl, rfl⟩
                · exact absurd rfl h5
            · rw [show smU ph g (t + 1) (k * 6 + w) (s + a + w) = (decide (ph (k * 6 + w) = g (s + a + w)) && smU ph g t (k * 6 + (w + 1)) (s + a + (w + 1))) from rfl, decide_eq_true (by omega), Bool.true_and]
              refine J.iconst dX7_stands_60 ?_
              refine J.goto dX7_stands_61 (by decide) (tgt := 65) ?_
              refine J.ist dX7_stands_65 (by decide) (jnc_of rfl rfl) ?_
              refine J.iinc (v := ((w + 1 : Nat) : Int)) dX7_stands_67 rfl (by first | rfl | omega) (by decide) (jnc_of rfl rfl) ?_
              refine J.goto dX7_stands_70 (by decide) (tgt := 23) ?_
              exact ih (w + 1) (by omega)
    rw [show mtB sz ph g s m a k = smU ph g (sz k) (k * 6) (s + a) from by unfold mtB; rw [decide_eq_true (by omega), Bool.true_and]]
    exact L (sz k) 0 (by omega)
/-- the model's name of a piece -/
def ab (b : Nat) (x : Int) : Int := if x = -1 then -1 else 40 * ((b : Nat) : Int) + x
theorem ab_n {b : Nat} : ab b (-1) = -1 := if_pos rfl
theorem ab_s {b k : Nat} : ab b ((k : Nat) : Int) = ((40 * b + k : Nat) : Int) := by
  unfold ab
  rw [if_neg (by omega)]
  push_cast
  rfl
set_option maxRecDepth 20000 in
theorem c_X7_divide {X : jX} {σ : jS} {th pr ln kn mn rd pa ps : Int} {bn Mc Ms cd sz : Nat → Nat} {b q N s m : Nat} {Mp ph g f0 p0 : Nat → Int} (hO : MO σ th pr ln kn mn rd pa ps) (h41 : σ.2 41 = jI 3 (fun e => ((bn e : Nat) : Int))) (hb : b < 3) (hn : bn b ≤ 40) (h42 : σ.2 42 = jI 120 (fun e => ((Mc e : Nat) : Int))) (hc9 : ∀ e, e < 40 → Mc (40 * b + e) = cd e) (hcd : ∀ e, cd e ≤ 11881375) (h43 : σ.2 43 = jI 120 (fun e => ((Ms e : Nat) : Int))) (hs9 : ∀ e, e < 40 → Ms (40 * b + e) = sz e) (h44 : σ.2 44 = jI 720 Mp) (hp9 : ∀ t, t < 240 → Mp (240 * b + t) = ph t) (hph : ∀ t, 0 ≤ ph t ∧ ph t ≤ 9999) (hsz : ∀ e, e < bn b → 1 ≤ sz e ∧ sz e ≤ 6) (h47 : σ.2 47 = jI 41 f0) (h48 : σ.2 48 = jI 40 p0) (e2 : σ.2 q = jI N g) (hN : N ≤ 100000) (hsm : s + m ≤ N) (hg : ∀ t, t < N → inI (g t)) (hq : q ≠ 47 ∧ q ≠ 48) (hm : m ≤ 40) (hpr : 1 ≤ pr ∧ pr ≤ 5) : JM X mX7_divide rX7_divide [.ref 37, vI ((b : Nat) : Int), .ref q, vI ((s : Nat) : Int), vI ((m : Nat) : Int)] σ (fun o σ1 => o = oI ((cvC (bn b) sz ph g s m pr) 0) ∧ (∃ f p, σ1.2 47 = jI 41 f ∧ σ1.2 48 = jI 40 p ∧ ∀ j, j < m → p j = ab b ((pkC (bn b) cd sz ph g s m pr) j)) ∧ σ1.1 = σ.1 ∧ ∀ j, j ≠ 47 → j ≠ 48 → σ1.2 j = σ.2 j) := by
  refine JM.of (lc := [.ref 37, vI ((b : Nat) : Int), .ref q, vI ((s : Nat) : Int), vI ((m : Nat) : Int), .null, .null, .null]) rfl ?_
  refine J.ald_n dX7_divide_0 rfl ?_
  refine gf_X7_41 rfl dX7_divide_1 hO ?_
  refine J.ild dX7_divide_4 rfl ?_
  refine J.iconst dX7_divide_6 ?_
  refine J.iast m dX7_divide_7 h47 (by omega) rfl (by omega) (by omega) ?_
  refine J.ild dX7_divide_8 rfl ?_
  refine J.iconst dX7_divide_10 ?_
  refine J.isub dX7_divide_11 ?_
  refine J.ist dX7_divide_12 (by decide) (jnc_of rfl rfl) ?_
  have L : ∀ (t : Nat), ∀ (σ' : jS) (f p : Nat → Int) (u u2 : Value), t ≤ m → u.category = 1 → u2.category = 1 → σ'.1 = σ.1 → (∀ j, j ≠ 47 → j ≠ 48 → σ'.2 j = σ.2 j) → σ'.2 47 = jI 41 f → σ'.2 48 = jI 40 p → (∀ j, t ≤ j → j ≤ m → f j = (cvC (bn b) sz ph g s m pr) j) → (∀ j, t ≤ j → j < m → p j = ab b ((pkC (bn b) cd sz ph g s m pr) j)) → J X mX7_divide rX7_divide 14 [.ref 37, vI ((b : Nat) : Int), .ref q, vI ((s : Nat) : Int), vI ((m : Nat) : Int), vI (((t : Nat) : Int) - 1), u, u2] [] 0 0 σ' (fun o σ1 => o = oI ((cvC (bn b) sz ph g s m pr) 0) ∧ (∃ f p, σ1.2 47 = jI 41 f ∧ σ1.2 48 = jI 40 p ∧ ∀ j, j < m → p j = ab b ((pkC (bn b) cd sz ph g s m pr) j)) ∧ σ1.1 = σ.1 ∧ ∀ j, j ≠ 47 → j ≠ 48 → σ1.2 j = σ.2 j) := by
    intro t
    induction t with
    | zero =>
      intro σ' f p u u2 h0 hu hu2 h1 h2 h3 h4 h5 h6
      refine J.ild dX7_divide_14 rfl ?_
      refine J.if_lt dX7_divide_16 (by decide) (tgt := 285) (by unfold inI; omega) (fun hb0 => ?_) (fun hb0 => ?_)
      · refine J.ald_n dX7_divide_285 rfl ?_
        refine gf_X7_41 rfl dX7_divide_286 ((h2 _ (by omega) (by omega)).trans hO) ?_
        refine J.iconst dX7_divide_289 ?_
        refine J.iald 0 dX7_divide_290 h3 rfl (by omega) (by omega) ?_
        refine J.iret .int dX7_divide_291 rfl rfl (by decide) (by decide) ?_
        refine ⟨by rw [h5 0 (by omega) (by omega)], ⟨f, p, h3, h4, fun j hj => h6 j (by omega) hj⟩, h1, h2⟩
      · omega
    | succ t ih =>
      intro σ' f p u u2 h0 hu hu2 h1 h2 h3 h4 h5 h6
      rw [show (((t + 1 : Nat) : Nat) : Int) - 1 = ((t : Nat) : Int) from by omega]
      have hbd := fun j => cvC_bd (n := bn b) (sz := sz) (ph := ph) (g := g) (s := s) hpr hm j
      have hw : ∀ k, 0 ≤ k → k < 0 + bn b → (mtB sz ph g s m t) k = true → (whF sz f t) k = whF sz (cvC (bn b) sz ph g s m pr) t k := fun k _ hk hok => by
        have := mtB_le hok
        have := hsz k (by omega)
        unfold whF; rw [h5 _ (by omega) (by omega)]
      have hf1 : f (t + 1) = (cvC (bn b) sz ph g s m pr) (t + 1) := h5 _ (by omega) (by omega)
      have hft : 0 ≤ f (t + 1) ∧ f (t + 1) ≤ 200 := by have := hbd (t + 1); omega
      have hC : (cvC (bn b) sz ph g s m pr) t = mnU (mtB sz ph g s m t) (whF sz f t) (bn b) 0 (pr + f (t + 1)) := by rw [cvC_step (fun e he => (hsz e he).1) (show t < m by omega), hf1, mnU_congr (bn b) 0 _ hw]
      have hR3 : pkU (mtB sz ph g s m t) (whF sz f t) (gaB cd sz) ((cvC (bn b) sz ph g s m pr) t) (bn b) 0 (-1) = (pkC (bn b) cd sz ph g s m pr) t := by rw [pkU_congr (bn b) 0 _ hw]; rfl
      have hfb : ∀ e, e < bn b → (mtB sz ph g s m t) e = true → t + sz e ≤ m ∧ t + 1 ≤ t + sz e ∧ 0 ≤ f (t + sz e) ∧ f (t + sz e) ≤ 200 := fun e he hok => by
        have h7 := mtB_le hok
        have h8 := hsz e he
        have := hbd (t + sz e)
        rw [h5 _ (by omega) h7]
        omega
      have hcb := hbd t
      refine J.ild dX7_divide_14 rfl ?_
      refine J.if_lt dX7_divide_16 (by decide) (tgt := 285) (by unfold inI; omega) (fun hb0 => ?_) (fun hb0 => ?_)
      · omega
      · refine J.ald_n dX7_divide_19 rfl ?_
        refine gf_X7_41 rfl dX7_divide_20 ((h2 _ (by omega) (by omega)).trans hO) ?_
        refine J.ild dX7_divide_23 rfl ?_
        refine J.ald_n dX7_divide_25 rfl ?_
        refine gf_X7_7 rfl dX7_divide_26 ((h2 _ (by omega) (by omega)).trans hO) ?_
        refine J.ald_n dX7_divide_29 rfl ?_
        refine gf_X7_41 rfl dX7_divide_30 ((h2 _ (by omega) (by omega)).trans hO) ?_
        refine J.ild dX7_divide_33 rfl ?_
        refine J.iconst dX7_divide_35 ?_
        refine J.iadd dX7_divide_36 ?_
        rw [show (((t : Nat) : Int) : Int) + 1 = ((t + 1 : Nat) : Int) from by push_cast; rfl]
        refine J.iald (t + 1) dX7_divide_37 h3 rfl (by omega) (by omega) ?_
        refine J.iadd dX7_divide_38 ?_
        refine J.iast t dX7_divide_39 h3 (by omega) rfl (by omega) (by omega) ?_
        refine J.ald_n dX7_divide_40 rfl ?_
        refine gf_X7_44 rfl dX7_divide_41 ((jset_ne _ _ (by omega)).trans ((h2 _ (by omega) (by omega)).trans hO)) ?_
        refine J.ild dX7_divide_44 rfl ?_
        refine J.iconst dX7_divide_46 ?_
        refine J.iast t dX7_divide_47 ((jset_ne _ _ (by omega)).trans h4) (by omega) rfl (by omega) (by omega) ?_
        refine J.bipush dX7_divide_48 (by decide) ?_
        refine J.ild_n dX7_divide_50 rfl ?_
        refine J.imul dX7_divide_51 ?_
        rw [show (40 : Int) * ((b : Nat) : Int) = ((40 * b : Nat) : Int) from by push_cast; rfl]
        refine J.ist dX7_divide_52 (by decide) (jnc_of rfl rfl) ?_
        have L1 : ∀ (t1 e : Nat) (σ2 : jS) (F p : Nat → Int) (c : Int), e + t1 = bn b → σ2.1 = σ.1 → (∀ j, j ≠ 47 → j ≠ 48 → σ2.2 j = σ.2 j) → σ2.2 47 = jI 41 F → σ2.2 48 = jI 40 p → F t = c → (∀ j, j ≠ t → F j = f j) → p t = -1 → (∀ j, t + 1 ≤ j → j < m → p j = ab b ((pkC (bn b) cd sz ph g s m pr) j)) → (-300 ≤ c ∧ c ≤ 300) → mnU (mtB sz ph g s m t) (whF sz f t) t1 e c = (cvC (bn b) sz ph g s m pr) t → J X mX7_divide rX7_divide 54 [.ref 37, vI ((b : Nat) : Int), .ref q, vI ((s : Nat) : Int), vI ((m : Nat) : Int), vI ((t : Nat) : Int), vI ((40 * b + e : Nat) : Int), u2] [] 0 0 σ2 (fun o σ1 => o = oI ((cvC (bn b) sz ph g s m pr) 0) ∧ (∃ f p, σ1.2 47 = jI 41 f ∧ σ1.2 48 = jI 40 p ∧ ∀ j, j < m → p j = ab b ((pkC (bn b) cd sz ph g s m pr) j)) ∧ σ1.1 = σ.1 ∧ ∀ j, j ≠ 47 → j ≠ 48 → σ1.2 j = σ.2 j) := by
          intro t1
          induction t1 with
          | zero =>
            intro e σ2 F p c he k1 k2 k3 k4 k5 k6 k7 k8 k9 k10
            refine J.ild dX7_divide_54 rfl ?_
            refine J.bipush dX7_divide_56 (by decide) ?_
            refine J.ild_n dX7_divide_58 rfl ?_
            refine J.imul dX7_divide_59 ?_
            rw [show (40 : Int) * ((b : Nat) : Int) = ((40 * b : Nat) : Int) from by push_cast; rfl]
            refine J.ald_n dX7_divide_60 rfl ?_
            refine gf_X7_23 rfl dX7_divide_61 ((k2 _ (by omega) (by omega)).trans hO) ?_
            refine J.ild_n dX7_divide_64 rfl ?_
            refine J.iald b dX7_divide_65 ((k2 _ (by omega) (by omega)).trans h41) rfl (by omega) (by omega) ?_
            refine J.iadd dX7_divide_66 ?_
            rw [show (((40 * b : Nat) : Int) : Int) + ((bn b : Nat) : Int) = (((40 * b) + (bn b) : Nat) : Int) from by push_cast; rfl]
            refine J.icmp_ge dX7_divide_67 (by decide) (tgt := 128) (by unfold inI; omega) (by unfold inI; omega) (fun hb1 => ?_) (fun hb1 => ?_)
            · have k11 : c = (cvC (bn b) sz ph g s m pr) t := k10
              refine J.bipush dX7_divide_128 (by decide) ?_
              refine J.ild_n dX7_divide_130 rfl ?_
              refine J.imul dX7_divide_131 ?_
              rw [show (40 : Int) * ((b : Nat) : Int) = ((40 * b : Nat) : Int) from by push_cast; rfl]
              refine J.ist dX7_divide_132 (by decide) (jnc_of rfl rfl) ?_
              have L2 : ∀ (t2 e : Nat) (σ3 : jS) (p : Nat → Int) (x : Int) (u3 : Value), e + t2 = bn b → u3.category = 1 → σ3.1 = σ.1 → (∀ j, j ≠ 47 → j ≠ 48 → σ3.2 j = σ.2 j) → σ3.2 47 = jI 41 F → σ3.2 48 = jI 40 p → p t = ab b x → (x = -1 ∨ ∃ k : Nat, x = ((k : Nat) : Int) ∧ k < bn b) → (∀ j, t + 1 ≤ j → j < m → p j = ab b ((pkC (bn b) cd sz ph g s m pr) j)) → pkU (mtB sz ph g s m t) (whF sz f t) (gaB cd sz) ((cvC (bn b) sz ph g s m pr) t) t2 e x = (pkC (bn b) cd sz ph g s m pr) t → J X mX7_divide rX7_divide 134 [.ref 37, vI ((b : Nat) : Int), .ref q, vI ((s : Nat) : Int), vI ((m : Nat) : Int), vI ((t : Nat) : Int), vI ((40 * b + e : Nat) : Int), u3] [] 0 0 σ3 (fun o σ1 => o = oI ((cvC (bn b) sz ph g s m pr) 0) ∧ (∃ f p, σ1.2 47 = jI 41 f ∧ σ1.2 48 = jI 40 p ∧ ∀ j, j < m → p j = ab b ((pkC (bn b) cd sz ph g s m pr) j)) ∧ σ1.1 = σ.1 ∧ ∀ j, j ≠ 47 → j ≠ 48 → σ1.2 j = σ.2 j) := by
                intro t2
                induction t2 with
                | zero =>
                  intro e σ3 p x u3 he hu3 j1 j2 j3 j4 j5 j6 j7 j8
                  refine J.ild dX7_divide_134 rfl ?_
                  refine J.bipush dX7_divide_136 (by decide) ?_
                  refine J.ild_n dX7_divide_138 rfl ?_
                  refine J.imul dX7_divide_139 ?_
                  rw [show (40 : Int) * ((b : Nat) : Int) = ((40 * b : Nat) : Int) from by push_cast; rfl]
                  refine J.ald_n dX7_divide_140 rfl ?_
                  refine gf_X7_23 rfl dX7_divide_141 ((j2 _ (by omega) (by omega)).trans hO) ?_
                  refine J.ild_n dX7_divide_144 rfl ?_
                  refine J.iald b dX7_divide_145 ((j2 _ (by omega) (by omega)).trans h41) rfl (by omega) (by omega) ?_
                  refine J.iadd dX7_divide_146 ?_
                  rw [show (((40 * b : Nat) : Int) : Int) + ((bn b : Nat) : Int) = (((40 * b) + (bn b) : Nat) : Int) from by push_cast; rfl]
                  refine J.icmp_ge dX7_divide_147 (by decide) (tgt := 279) (by unfold inI; omega) (by unfold inI; omega) (fun hb2 => ?_) (fun hb2 => ?_)
                  · refine J.iinc (v := (((t : Nat) : Int) - 1)) dX7_divide_279 rfl (by first | rfl | omega) (by decide) (jnc_of rfl rfl) ?_
                    refine J.goto dX7_divide_282 (by decide) (tgt := 14) ?_
                    refine ih σ3 F p _ _ (by omega) (by first | rfl | assumption) (by first | rfl | assumption) j1 j2 j3 j4 (fun j ha hb => ?_) (fun j ha hb => ?_)
                    · by_cases hj : j = t
                      · subst hj; rw [k5]; exact k11
                      · rw [k6 j hj]; exact h5 j (by omega) hb
                    · by_cases hj : j = t
                      · subst hj; rw [j5, show x = (pkC (bn b) cd sz ph g s m pr) j from j8]
                      · exact j7 j (by omega) hb
                  · omega
                | succ t2 ih2 =>
                  intro e σ3 p x u3 he hu3 j1 j2 j3 j4 j5 j6 j7 j8
                  refine J.ild dX7_divide_134 rfl ?_
                  refine J.bipush dX7_divide_136 (by decide) ?_
                  refine J.ild_n dX7_divide_138 rfl ?_
                  refine J.imul dX7_divide_139 ?_
                  rw [show (40 : Int) * ((b : Nat) : Int) = ((40 * b : Nat) : Int) from by push_cast; rfl]
                  refine J.ald_n dX7_divide_140 rfl ?_
                  refine gf_X7_23 rfl dX7_divide_141 ((j2 _ (by omega) (by omega)).trans hO) ?_
                  refine J.ild_n dX7_divide_144 rfl ?_
                  refine J.iald b dX7_divide_145 ((j2 _ (by omega) (by omega)).trans h41) rfl (by omega) (by omega) ?_
                  refine J.iadd dX7_divide_146 ?_
                  rw [show (((40 * b : Nat) : Int) : Int) + ((bn b : Nat) : Int) = (((40 * b) + (bn b) : Nat) : Int) from by push_cast; rfl]
                  refine J.icmp_ge dX7_divide_147 (by decide) (tgt := 279) (by unfold inI; omega) (by unfold inI; omega) (fun hb2 => ?_) (fun hb2 => ?_)
                  · omega
                  · have hse := hsz e (by omega)
                    refine J.ald_n dX7_divide_150 rfl ?_
                    refine J.ild dX7_divide_151 rfl ?_
                    refine J.ald_n dX7_divide_153 rfl ?_
                    refine J.ild_n dX7_divide_154 rfl ?_
                    refine J.ild dX7_divide_155 rfl ?_
                    refine J.iadd dX7_divide_157 ?_
                    rw [show (((s : Nat) : Int) : Int) + ((t : Nat) : Int) = ((s + t : Nat) : Int) from by push_cast; rfl]
                    refine J.ild_n dX7_divide_158 rfl ?_
                    refine J.ild dX7_divide_159 rfl ?_
                    refine J.iadd dX7_divide_161 ?_
                    rw [show (((s : Nat) : Int) : Int) + ((m : Nat) : Int) = ((s + m : Nat) : Int) from by push_cast; rfl]
                    refine J.callV (rm' := rX7_stands) [vI ((40 * b + e : Nat) : Int), .ref q, vI ((s + t : Nat) : Int), vI ((s + m : Nat) : Int)] dX7_divide_162 (c_X7_stands ((j2 _ (by omega) (by omega)).trans hO) hb (by omega) hse ((j2 _ (by omega) (by omega)).trans h43) hs9 ((j2 _ (by omega) (by omega)).trans h44) hp9 hph ((j2 _ (by omega) (by omega)).trans e2) hN hsm hg (by omega)) ((j2 _ (by omega) (by omega)).trans hO) rfl st_X7_stands ml_X7_111 im_X7_stands se_X7_stands rfl (Nat.le_of_ble_eq_true rfl) (by decide) (by decide) (Nat.le_of_ble_eq_true rfl) (by decide) (by decide) (Or.inl rfl) (fun E9 σ9 hq9 _ => nomatch hq9.1) (fun r9 σ9 hq9 hle9 => ?_)
                    obtain ⟨h9, h8⟩ := hq9
                    rw [h8]
                    clear hle9 h8 σ9
                    cases h9
                    by_cases hok : (mtB sz ph g s m t) e = true
                    · rw [show bN ((mtB sz ph g s m t) e) = 1 from if_pos hok]
                      refine J.if_eq dX7_divide_165 (by decide) (tgt := 273) (by unfold inI; omega) (fun hb3 => ?_) (fun hb3 => ?_)
                      · exact absurd hb3 (by decide)
                      · obtain ⟨b1, b2, b3, b4⟩ := hfb e (by omega) hok
                        have hFe : F (t + sz e) = f (t + sz e) := k6 _ (by omega)
                        have hwe : (whF sz f t) e = 1 + f (t + sz e) := rfl
                        refine J.iconst dX7_divide_168 ?_
                        refine J.ald_n dX7_divide_169 rfl ?_
                        refine gf_X7_41 rfl dX7_divide_170 ((j2 _ (by omega) (by omega)).trans hO) ?_
                        refine J.ild dX7_divide_173 rfl ?_
                        refine J.ald_n dX7_divide_175 rfl ?_
                        refine gf_X7_29 rfl dX7_divide_176 ((j2 _ (by omega) (by omega)).trans hO) ?_
                        refine J.ild dX7_divide_179 rfl ?_
                        refine J.iald (40 * b + e) dX7_divide_181 ((j2 _ (by omega) (by omega)).trans h43) rfl (by omega) (by omega) ?_
                        rw [show Ms (40 * b + e) = ((sz e : Nat) : Int) from by rw [hs9 e (by omega)]]
                        refine J.iadd dX7_divide_182 ?_
                        rw [show (((t : Nat) : Int) : Int) + ((sz e : Nat) : Int) = ((t + (sz e) : Nat) : Int) from by push_cast; rfl]
                        refine J.iald (t + (sz e)) dX7_divide_183 j3 rfl (by omega) (by omega) ?_
                        rw [show F (t + (sz e)) = (f (t + sz e)) from hFe]
                        refine J.iadd dX7_divide_184 ?_
                        refine J.ald_n dX7_divide_185 rfl ?_
                        refine gf_X7_41 rfl dX7_divide_186 ((j2 _ (by omega) (by omega)).trans hO) ?_
                        refine J.ild dX7_divide_189 rfl ?_
                        refine J.iald t dX7_divide_191 j3 rfl (by omega) (by omega) ?_
                        rw [show F t = c from k5]
                        refine J.icmp_eq dX7_divide_192 (by decide) (tgt := 198) (by unfold inI; omega) (by unfold inI; omega) (fun hb4 => ?_) (fun hb4 => ?_)
                        · rcases j6 with j6 | ⟨k, j6, hk⟩
                          · subst j6
                            rw [ab_n] at j5
                            refine J.ald_n dX7_divide_198 rfl ?_
                            refine gf_X7_44 rfl dX7_divide_199 ((j2 _ (by omega) (by omega)).trans hO) ?_
                            refine J.ild dX7_divide_202 rfl ?_
                            refine J.iald t dX7_divide_204 j4 rfl (by omega) (by omega) ?_
                            rw [show p t = (-1) from j5]
                            refine J.ist dX7_divide_205 (by decide) (jnc_of rfl rfl) ?_
                            refine J.ild dX7_divide_207 rfl ?_
                            refine J.iconst dX7_divide_209 ?_
                            refine J.icmp_eq dX7_divide_210 (by decide) (tgt := 264) (by unfold inI; omega) (by unfold inI; omega) (fun hb5 => ?_) (fun hb5 => ?_)
                            · refine J.ald_n dX7_divide_264 rfl ?_
                              refine gf_X7_44 rfl dX7_divide_265 ((j2 _ (by omega) (by omega)).trans hO) ?_
                              refine J.ild dX7_divide_268 rfl ?_
                              refine J.ild dX7_divide_270 rfl ?_
                              refine J.iast t dX7_divide_272 j4 (by omega) rfl (by omega) (by omega) ?_
                              refine J.iinc (v := ((40 * b + e + 1 : Nat) : Int)) dX7_divide_273 rfl (by first | rfl | omega) (by decide) (jnc_of rfl rfl) ?_
                              refine J.goto dX7_divide_276 (by decide) (tgt := 134) ?_
                              rw [show pkU (mtB sz ph g s m t) (whF sz f t) (gaB cd sz) ((cvC (bn b) sz ph g s m pr) t) (t2 + 1) e (-1) = pkU (mtB sz ph g s m t) (whF sz f t) (gaB cd sz) ((cvC (bn b) sz ph g s m pr) t) t2 (e + 1) ((e : Nat) : Int) from congrArg (pkU (mtB sz ph g s m t) (whF sz f t) (gaB cd sz) ((cvC (bn b) sz ph g s m pr) t) t2 (e + 1)) (if_pos (⟨hok, by omega, Or.inl rfl⟩))] at j8
                              exact ih2 (e + 1) _ _ ((e : Nat) : Int) _ (by omega) (by first | rfl | assumption) j1 (fun j q1 q2 => by rw [jset_ne _ _ q2]; exact j2 j q1 q2) ((jset_ne _ _ (by omega)).trans j3) (jset_eq _ _ _) (by rw [jup_eq, ab_s]) (Or.inr ⟨e, rfl, by omega⟩) (fun j ha hb => by rw [jup_ne _ _ (by omega)]; exact j7 j ha hb) j8
                            · exact absurd rfl hb5
                          · subst j6
                            rw [ab_s] at j5
                            have hsk := hsz k hk
                            have hce := hcd e
                            have hck := hcd k
                            refine J.ald_n dX7_divide_198 rfl ?_
                            refine gf_X7_44 rfl dX7_divide_199 ((j2 _ (by omega) (by omega)).trans hO) ?_
                            refine J.ild dX7_divide_202 rfl ?_
                            refine J.iald t dX7_divide_204 j4 rfl (by omega) (by omega) ?_
                            rw [show p t = ((40 * b + k : Nat) : Int) from j5]
                            refine J.ist dX7_divide_205 (by decide) (jnc_of rfl rfl) ?_
                            refine J.ild dX7_divide_207 rfl ?_
                            refine J.iconst dX7_divide_209 ?_
                            refine J.icmp_eq dX7_divide_210 (by decide) (tgt := 264) (by unfold inI; omega) (by unfold inI; omega) (fun hb5 => ?_) (fun hb5 => ?_)
                            · omega
                            · refine J.ald_n dX7_divide_213 rfl ?_
                              refine gf_X7_29 rfl dX7_divide_214 ((j2 _ (by omega) (by omega)).trans hO) ?_
                              refine J.ild dX7_divide_217 rfl ?_
                              refine J.iald (40 * b + e) dX7_divide_219 ((j2 _ (by omega) (by omega)).trans h43) rfl (by omega) (by omega) ?_
                              rw [show Ms (40 * b + e) = ((sz e : Nat) : Int) from by rw [hs9 e (by omega)]]
                              refine J.ald_n dX7_divide_220 rfl ?_
                              refine gf_X7_29 rfl dX7_divide_221 ((j2 _ (by omega) (by omega)).trans hO) ?_
                              refine J.ild dX7_divide_224 rfl ?_
                              refine J.iald (40 * b + k) dX7_divide_226 ((j2 _ (by omega) (by omega)).trans h43) rfl (by omega) (by omega) ?_
                              rw [show Ms (40 * b + k) = ((sz k : Nat) : Int) from by rw [hs9 k (by omega)]]
                              refine J.icmp_gt dX7_divide_227 (by decide) (tgt := 264) (by unfold inI; omega) (by unfold inI; omega) (fun hb6 => ?_) (fun hb6 => ?_)
                              · refine J.ald_n dX7_divide_264 rfl ?_
                                refine gf_X7_44 rfl dX7_divide_265 ((j2 _ (by omega) (by omega)).trans hO) ?_
                                refine J.ild dX7_divide_268 rfl ?_
                                refine J.ild dX7_divide_270 rfl ?_
                                refine J.iast t dX7_divide_272 j4 (by omega) rfl (by omega) (by omega) ?_
                                refine J.iinc (v := ((40 * b + e + 1 : Nat) : Int)) dX7_divide_273 rfl (by first | rfl | omega) (by decide) (jnc_of rfl rfl) ?_
                                refine J.goto dX7_divide_276 (by decide) (tgt := 134) ?_
                                rw [show pkU (mtB sz ph g s m t) (whF sz f t) (gaB cd sz) ((cvC (bn b) sz ph g s m pr) t) (t2 + 1) e ((k : Nat) : Int) = pkU (mtB sz ph g s m t) (whF sz f t) (gaB cd sz) ((cvC (bn b) sz ph g s m pr) t) t2 (e + 1) ((e : Nat) : Int) from congrArg (pkU (mtB sz ph g s m t) (whF sz f t) (gaB cd sz) ((cvC (bn b) sz ph g s m pr) t) t2 (e + 1)) (if_pos (⟨hok, by omega, Or.inr (by show gaB cd sz e k = true; unfold gaB; rw [decide_eq_true (by omega), Bool.true_or])⟩))] at j8
                                exact ih2 (e + 1) _ _ ((e : Nat) : Int) _ (by omega) (by first | rfl | assumption) j1 (fun j q1 q2 => by rw [jset_ne _ _ q2]; exact j2 j q1 q2) ((jset_ne _ _ (by omega)).trans j3) (jset_eq _ _ _) (by rw [jup_eq, ab_s]) (Or.inr ⟨e, rfl, by omega⟩) (fun j ha hb => by rw [jup_ne _ _ (by omega)]; exact j7 j ha hb) j8
                              · refine J.ald_n dX7_divide_230 rfl ?_
                                refine gf_X7_29 rfl dX7_divide_231 ((j2 _ (by omega) (by omega)).trans hO) ?_
                                refine J.ild dX7_divide_234 rfl ?_
                                refine J.iald (40 * b + e) dX7_divide_236 ((j2 _ (by omega) (by omega)).trans h43) rfl (by omega) (by omega) ?_
                                rw [show Ms (40 * b + e) = ((sz e : Nat) : Int) from by rw [hs9 e (by omega)]]
                                refine J.ald_n dX7_divide_237 rfl ?_
                                refine gf_X7_29 rfl dX7_divide_238 ((j2 _ (by omega) (by omega)).trans hO) ?_
                                refine J.ild dX7_divide_241 rfl ?_
                                refine J.iald (40 * b + k) dX7_divide_243 ((j2 _ (by omega) (by omega)).trans h43) rfl (by omega) (by omega) ?_
                                rw [show Ms (40 * b + k) = ((sz k : Nat) : Int) from by rw [hs9 k (by omega)]]
                                refine J.icmp_ne dX7_divide_244 (by decide) (tgt := 273) (by unfold inI; omega) (by unfold inI; omega) (fun hb7 => ?_) (fun hb7 => ?_)
                                · refine J.iinc (v := ((40 * b + e + 1 : Nat) : Int)) dX7_divide_273 rfl (by first | rfl | omega) (by decide) (jnc_of rfl rfl) ?_
                                  refine J.goto dX7_divide_276 (by decide) (tgt := 134) ?_
                                  rw [show pkU (mtB sz ph g s m t) (whF sz f t) (gaB cd sz) ((cvC (bn b) sz ph g s m pr) t) (t2 + 1) e ((k : Nat) : Int) = pkU (mtB sz ph g s m t) (whF sz f t) (gaB cd sz) ((cvC (bn b) sz ph g s m pr) t) t2 (e + 1) ((k : Nat) : Int) from congrArg (pkU (mtB sz ph g s m t) (whF sz f t) (gaB cd sz) ((cvC (bn b) sz ph g s m pr) t) t2 (e + 1)) (if_neg (fun q => by have h9 := q.2.2.resolve_left (by omega); change gaB cd sz e k = true at h9; unfold gaB at h9; rw [decide_eq_false (by omega), decide_eq_false (by omega)] at h9; cases h9))] at j8
                                  exact ih2 (e + 1) σ3 p ((k : Nat) : Int) _ (by omega) (by first | rfl | assumption) j1 j2 j3 j4 (by rw [ab_s]; exact j5) (Or.inr ⟨k, rfl, hk⟩) j7 j8
                                · refine J.ald_n dX7_divide_247 rfl ?_
                                  refine gf_X7_26 rfl dX7_divide_248 ((j2 _ (by omega) (by omega)).trans hO) ?_
                                  refine J.ild dX7_divide_251 rfl ?_
                                  refine J.iald (40 * b + e) dX7_divide_253 ((j2 _ (by omega) (by omega)).trans h42) rfl (by omega) (by omega) ?_
                                  rw [show Mc (40 * b + e) = ((cd e : Nat) : Int) from by rw [hc9 e (by omega)]]
                                  refine J.ald_n dX7_divide_254 rfl ?_
                                  refine gf_X7_26 rfl dX7_divide_255 ((j2 _ (by omega) (by omega)).trans hO) ?_
                                  refine J.ild dX7_divide_258 rfl ?_
                                  refine J.iald (40 * b + k) dX7_divide_260 ((j2 _ (by omega) (by omega)).trans h42) rfl (by omega) (by omega) ?_
                                  rw [show Mc (40 * b + k) = ((cd k : Nat) : Int) from by rw [hc9 k (by omega)]]
                                  refine J.icmp_ge dX7_divide_261 (by decide) (tgt := 273) (by unfold inI; omega) (by unfold inI; omega) (fun hb8 => ?_) (fun hb8 => ?_)
                                  · refine J.iinc (v := ((40 * b + e + 1 : Nat) : Int)) dX7_divide_273 rfl (by first | rfl | omega) (by decide) (jnc_of rfl rfl) ?_
                                    refine J.goto dX7_divide_276 (by decide) (tgt := 134) ?_
                                    rw [show pkU (mtB sz ph g s m t) (whF sz f t) (gaB cd sz) ((cvC (bn b) sz ph g s m pr) t) (t2 + 1) e ((k : Nat) : Int) = pkU (mtB sz ph g s m t) (whF sz f t) (gaB cd sz) ((cvC (bn b) sz ph g s m pr) t) t2 (e + 1) ((k : Nat) : Int) from congrArg (pkU (mtB sz ph g s m t) (whF sz f t) (gaB cd sz) ((cvC (bn b) sz ph g s m pr) t) t2 (e + 1)) (if_neg (fun q => by have h9 := q.2.2.resolve_left (by omega); change gaB cd sz e k = true at h9; unfold gaB at h9; rw [decide_eq_false (by omega), decide_eq_false (show ¬ cd e < cd k by omega), Bool.and_false] at h9; cases h9))] at j8
                                    exact ih2 (e + 1) σ3 p ((k : Nat) : Int) _ (by omega) (by first | rfl | assumption) j1 j2 j3 j4 (by rw [ab_s]; exact j5) (Or.inr ⟨k, rfl, hk⟩) j7 j8
                                  · refine J.ald_n dX7_divide_264 rfl ?_
                                    refine gf_X7_44 rfl dX7_divide_265 ((j2 _ (by omega) (by omega)).trans hO) ?_
                                    refine J.ild dX7_divide_268 rfl ?_
                                    refine J.ild dX7_divide_270 rfl ?_
                                    refine J.iast t dX7_divide_272 j4 (by omega) rfl (by omega) (by omega) ?_
                                    refine J.iinc (v := ((40 * b + e + 1 : Nat) : Int)) dX7_divide_273 rfl (by first | rfl | omega) (by decide) (jnc_of rfl rfl) ?_
                                    refine J.goto dX7_divide_276 (by decide) (tgt := 134) ?_
                                    rw [show pkU (mtB sz ph g s m t) (whF sz f t) (gaB cd sz) ((cvC (bn b) sz ph g s m pr) t) (t2 + 1) e ((k : Nat) : Int) = pkU (mtB sz ph g s m t) (whF sz f t) (gaB cd sz) ((cvC (bn b) sz ph g s m pr) t) t2 (e + 1) ((e : Nat) : Int) from congrArg (pkU (mtB sz ph g s m t) (whF sz f t) (gaB cd sz) ((cvC (bn b) sz ph g s m pr) t) t2 (e + 1)) (if_pos (⟨hok, by omega, Or.inr (by show gaB cd sz e k = true; unfold gaB; rw [decide_eq_true (show sz e = sz k by omega), decide_eq_true (show cd e < cd k by omega)]; simp)⟩))] at j8
                                    exact ih2 (e + 1) _ _ ((e : Nat) : Int) _ (by omega) (by first | rfl | assumption) j1 (fun j q1 q2 => by rw [jset_ne _ _ q2]; exact j2 j q1 q2) ((jset_ne _ _ (by omega)).trans j3) (jset_eq _ _ _) (by rw [jup_eq, ab_s]) (Or.inr ⟨e, rfl, by omega⟩) (fun j ha hb => by rw [jup_ne _ _ (by omega)]; exact j7 j ha hb) j8
                        · refine J.goto dX7_divide_195 (by decide) (tgt := 273) ?_
                          refine J.iinc (v := ((40 * b + e + 1 : Nat) : Int)) dX7_divide_273 rfl (by first | rfl | omega) (by decide) (jnc_of rfl rfl) ?_
                          refine J.goto dX7_divide_276 (by decide) (tgt := 134) ?_
                          rw [show pkU (mtB sz ph g s m t) (whF sz f t) (gaB cd sz) ((cvC (bn b) sz ph g s m pr) t) (t2 + 1) e x = pkU (mtB sz ph g s m t) (whF sz f t) (gaB cd sz) ((cvC (bn b) sz ph g s m pr) t) t2 (e + 1) x from congrArg (pkU (mtB sz ph g s m t) (whF sz f t) (gaB cd sz) ((cvC (bn b) sz ph g s m pr) t) t2 (e + 1)) (if_neg (fun q => by have := q.2.1; omega))] at j8
                          exact ih2 (e + 1) σ3 p x _ (by omega) (by first | rfl | assumption) j1 j2 j3 j4 j5 j6 j7 j8
                    · rw [show bN ((mtB sz ph g s m t) e) = 0 from if_neg hok]
                      refine J.if_eq dX7_divide_165 (by decide) (tgt := 273) (by unfold inI; omega) (fun hb3 => ?_) (fun hb3 => ?_)
                      · refine J.iinc (v := ((40 * b + e + 1 : Nat) : Int)) dX7_divide_273 rfl (by first | rfl | omega) (by decide) (jnc_of rfl rfl) ?_
                        refine J.goto dX7_divide_276 (by decide) (tgt := 134) ?_
                        rw [show pkU (mtB sz ph g s m t) (whF sz f t) (gaB cd sz) ((cvC (bn b) sz ph g s m pr) t) (t2 + 1) e x = pkU (mtB sz ph g s m t) (whF sz f t) (gaB cd sz) ((cvC (bn b) sz ph g s m pr) t) t2 (e + 1) x from congrArg (pkU (mtB sz ph g s m t) (whF sz f t) (gaB cd sz) ((cvC (bn b) sz ph g s m pr) t) t2 (e + 1)) (if_neg (fun q => hok q.1))] at j8
                        exact ih2 (e + 1) σ3 p x _ (by omega) (by first | rfl | assumption) j1 j2 j3 j4 j5 j6 j7 j8
                      · exact absurd rfl hb3
              exact L2 (bn b) 0 σ2 p (-1) _ (by omega) (by first | rfl | assumption) k1 k2 k3 k4 (by rw [k7, ab_n]) (Or.inl rfl) k8 hR3
            · omega
          | succ t1 ih1 =>
            intro e σ2 F p c he k1 k2 k3 k4 k5 k6 k7 k8 k9 k10
            refine J.ild dX7_divide_54 rfl ?_
            refine J.bipush dX7_divide_56 (by decide) ?_
            refine J.ild_n dX7_divide_58 rfl ?_
            refine J.imul dX7_divide_59 ?_
            rw [show (40 : Int) * ((b : Nat) : Int) = ((40 * b : Nat) : Int) from by push_cast; rfl]
            refine J.ald_n dX7_divide_60 rfl ?_
            refine gf_X7_23 rfl dX7_divide_61 ((k2 _ (by omega) (by omega)).trans hO) ?_
            refine J.ild_n dX7_divide_64 rfl ?_
            refine J.iald b dX7_divide_65 ((k2 _ (by omega) (by omega)).trans h41) rfl (by omega) (by omega) ?_
            refine J.iadd dX7_divide_66 ?_
            rw [show (((40 * b : Nat) : Int) : Int) + ((bn b : Nat) : Int) = (((40 * b) + (bn b) : Nat) : Int) from by push_cast; rfl]
            refine J.icmp_ge dX7_divide_67 (by decide) (tgt := 128) (by unfold inI; omega) (by unfold inI; omega) (fun hb1 => ?_) (fun hb1 => ?_)
            · omega
            · have hse := hsz e (by omega)
              refine J.ald_n dX7_divide_70 rfl ?_
              refine J.ild dX7_divide_71 rfl ?_
              refine J.ald_n dX7_divide_73 rfl ?_
              refine J.ild_n dX7_divide_74 rfl ?_
              refine J.ild dX7_divide_75 rfl ?_
              refine J.iadd dX7_divide_77 ?_
              rw [show (((s : Nat) : Int) : Int) + ((t : Nat) : Int) = ((s + t : Nat) : Int) from by push_cast; rfl]
              refine J.ild_n dX7_divide_78 rfl ?_
              refine J.ild dX7_divide_79 rfl ?_
              refine J.iadd dX7_divide_81 ?_
              rw [show (((s : Nat) : Int) : Int) + ((m : Nat) : Int) = ((s + m : Nat) : Int) from by push_cast; rfl]
              refine J.callV (rm' := rX7_stands) [vI ((40 * b + e : Nat) : Int), .ref q, vI ((s + t : Nat) : Int), vI ((s + m : Nat) : Int)] dX7_divide_82 (c_X7_stands ((k2 _ (by omega) (by omega)).trans hO) hb (by omega) hse ((k2 _ (by omega) (by omega)).trans h43) hs9 ((k2 _ (by omega) (by omega)).trans h44) hp9 hph ((k2 _ (by omega) (by omega)).trans e2) hN hsm hg (by omega)) ((k2 _ (by omega) (by omega)).trans hO) rfl st_X7_stands ml_X7_111 im_X7_stands se_X7_stands rfl (Nat.le_of_ble_eq_true rfl) (by decide) (by decide) (Nat.le_of_ble_eq_true rfl) (by decide) (by decide) (Or.inl rfl) (fun E9 σ9 hq9 _ => nomatch hq9.1) (fun r9 σ9 hq9 hle9 => ?_)
              obtain ⟨h9, h8⟩ := hq9
              rw [h8]
              clear hle9 h8 σ9
              cases h9
              by_cases hok : (mtB sz ph g s m t) e = true
              · rw [show bN ((mtB sz ph g s m t) e) = 1 from if_pos hok]
                refine J.if_eq dX7_divide_85 (by decide) (tgt := 122) (by unfold inI; omega) (fun hb3 => ?_) (fun hb3 => ?_)
                · exact absurd hb3 (by decide)
                · obtain ⟨b1, b2, b3, b4⟩ := hfb e (by omega) hok
                  have hFe : F (t + sz e) = f (t + sz e) := k6 _ (by omega)
                  have hwe : (whF sz f t) e = 1 + f (t + sz e) := rfl
                  refine J.ald_n dX7_divide_88 rfl ?_
                  refine gf_X7_41 rfl dX7_divide_89 ((k2 _ (by omega) (by omega)).trans hO) ?_
                  refine J.ild dX7_divide_92 rfl ?_
                  refine J.ald_n dX7_divide_94 rfl ?_
                  refine gf_X7_41 rfl dX7_divide_95 ((k2 _ (by omega) (by omega)).trans hO) ?_
                  refine J.ild dX7_divide_98 rfl ?_
                  refine J.iald t dX7_divide_100 k3 rfl (by omega) (by omega) ?_
                  rw [show F t = c from k5]
                  refine J.iconst dX7_divide_101 ?_
                  refine J.ald_n dX7_divide_102 rfl ?_
                  refine gf_X7_41 rfl dX7_divide_103 ((k2 _ (by omega) (by omega)).trans hO) ?_
                  refine J.ild dX7_divide_106 rfl ?_
                  refine J.ald_n dX7_divide_108 rfl ?_
                  refine gf_X7_29 rfl dX7_divide_109 ((k2 _ (by omega) (by omega)).trans hO) ?_
                  refine J.ild dX7_divide_112 rfl ?_
                  refine J.iald (40 * b + e) dX7_divide_114 ((k2 _ (by omega) (by omega)).trans h43) rfl (by omega) (by omega) ?_
                  rw [show Ms (40 * b + e) = ((sz e : Nat) : Int) from by rw [hs9 e (by omega)]]
                  refine J.iadd dX7_divide_115 ?_
                  rw [show (((t : Nat) : Int) : Int) + ((sz e : Nat) : Int) = ((t + (sz e) : Nat) : Int) from by push_cast; rfl]
                  refine J.iald (t + (sz e)) dX7_divide_116 k3 rfl (by omega) (by omega) ?_
                  rw [show F (t + (sz e)) = (f (t + sz e)) from hFe]
                  refine J.iadd dX7_divide_117 ?_
                  refine J.mmin dX7_divide_118 ml_X7_115 sm_min ini_java_lang_Math co_min (by decide) (Nat.le_of_ble_eq_true rfl) (by decide) (by decide) (by unfold inI; omega) (by unfold inI; omega) ?_
                  refine J.iast t dX7_divide_121 k3 (by omega) rfl (by omega) (by omega) ?_
                  refine J.iinc (v := ((40 * b + e + 1 : Nat) : Int)) dX7_divide_122 rfl (by first | rfl | omega) (by decide) (jnc_of rfl rfl) ?_
                  refine J.goto dX7_divide_125 (by decide) (tgt := 54) ?_
                  rw [show mnU (mtB sz ph g s m t) (whF sz f t) (t1 + 1) e c = mnU (mtB sz ph g s m t) (whF sz f t) t1 (e + 1) (if 1 + f (t + sz e) < c then 1 + f (t + sz e) else c) from congrArg (mnU (mtB sz ph g s m t) (whF sz f t) t1 (e + 1)) (by by_cases q : 1 + f (t + sz e) < c; rw [if_pos ⟨hok, q⟩, if_pos q]; rfl; rw [if_neg (fun r => q r.2), if_neg q])] at k10
                  exact ih1 (e + 1) _ _ p (if 1 + f (t + sz e) < c then 1 + f (t + sz e) else c) (by omega) k1 (fun j q1 q2 => by rw [jset_ne _ _ q1]; exact k2 j q1 q2) (jset_eq _ _ _) ((jset_ne _ _ (by omega)).trans k4) (jup_eq _ _ _) (fun j hj => by rw [jup_ne _ _ hj]; exact k6 j hj) k7 k8 (by by_cases q : 1 + f (t + sz e) < c; rw [if_pos q]; omega; rw [if_neg q]; omega) k10
              · rw [show bN ((mtB sz ph g s m t) e) = 0 from if_neg hok]
                refine J.if_eq dX7_divide_85 (by decide) (tgt := 122) (by unfold inI; omega) (fun hb3 => ?_) (fun hb3 => ?_)
                · refine J.iinc (v := ((40 * b + e + 1 : Nat) : Int)) dX7_divide_122 rfl (by first | rfl | omega) (by decide) (jnc_of rfl rfl) ?_
                  refine J.goto dX7_divide_125 (by decide) (tgt := 54) ?_
                  rw [show mnU (mtB sz ph g s m t) (whF sz f t) (t1 + 1) e c = mnU (mtB sz ph g s m t) (whF sz f t) t1 (e + 1) c from congrArg (mnU (mtB sz ph g s m t) (whF sz f t) t1 (e + 1)) (if_neg (fun q => hok q.1))] at k10
                  exact ih1 (e + 1) σ2 F p c (by omega) k1 k2 k3 k4 k5 k6 k7 k8 k9 k10
                · exact absurd rfl hb3
        exact L1 (bn b) 0 _ _ _ (pr + f (t + 1)) (by omega) h1 (fun j q1 q2 => by rw [jset_ne _ _ q2, jset_ne _ _ q1]; exact h2 j q1 q2) ((jset_ne _ _ (by omega)).trans (jset_eq _ _ _)) (jset_eq _ _ _) (jup_eq _ _ _) (fun j hj => jup_ne _ _ hj) (jup_eq _ _ _) (fun j ha hb => by rw [jup_ne _ _ (by omega)]; exact h6 j ha hb) (by omega) hC.symm
  exact L m _ _ _ _ _ (Nat.le_refl _) rfl rfl rfl (fun j ha _ => jset_ne _ _ ha) (jset_eq _ _ _) ((jset_ne _ _ (by omega)).trans h48) (fun j ha hb => by rw [show j = m by omega, jup_eq, cvC_m]) (fun j ha hb => by omega)
