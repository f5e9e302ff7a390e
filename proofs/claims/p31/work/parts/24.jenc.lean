abbrev proB (bn : Nat → Nat) (sz : Nat → Nat → Nat) (ph : Nat → Nat → Int) (kn : Nat) (kr : Nat → Int) (kt : Nat → Nat → Int) (pr : Int) (b : Nat) : Int × Nat × Nat := prO kt (fun k a => hpU (sz b) (ph b) kr a k (bn b) 0) pr (kn * 41) 5 2 (0, 0, 0)
/-- the line behind a proposal -/
def proN (B : Int × Nat × Nat) (ln : Nat) : Nat := if 0 < B.1 then B.2.2 else ln
def proF (kr : Nat → Int) (B : Int × Nat × Nat) (lw : Nat → Int) : Nat → Int := if 0 < B.1 then alF kr B.2.2 B.2.1 0 lw else lw
def enU (pk : Nat → Int) (cd sz : Nat → Nat) (lw : Nat → Int) (ln : Nat) : Nat → Nat → Nat → (Nat → Int) → Nat × (Nat → Int)
  | 0, _, n, g => (n, g)
  | t + 1, a, n, g => if a < ln then (if pk a = -1 then enU pk cd sz lw ln t (a + 1) (n + 1) (jup g n (-1 - lw a)) else enU pk cd sz lw ln t (a + sz (pk a).toNat) (n + 1) (jup g n ((cd (pk a).toNat : Nat) : Int))) else (n, g)
theorem pkU_rng {ok : Nat → Bool} {w : Nat → Int} {ga : Nat → Nat → Bool} {c : Int} {n : Nat} : ∀ (t e : Nat) (b : Int), e + t = n → (b = -1 ∨ ∃ k : Nat, b = ((k : Nat) : Int) ∧ k < n ∧ ok k = true) → (pkU ok w ga c t e b = -1 ∨ ∃ k : Nat, pkU ok w ga c t e b = ((k : Nat) : Int) ∧ k < n ∧ ok k = true)
  | 0, _, _, _, h => h
  | t + 1, e, b, he, h => by
    refine pkU_rng t (e + 1) _ (by omega) ?_
    by_cases h1 : ok e = true ∧ w e = c ∧ (b = -1 ∨ ga e b.toNat = true)
    · rw [if_pos h1]; exact Or.inr ⟨e, rfl, by omega, h1.1⟩
    · rw [if_neg h1]; exact h
theorem pkC_rng {n : Nat} {cd sz : Nat → Nat} {ph g : Nat → Int} {s m : Nat} {pr : Int} {a : Nat} : pkC n cd sz ph g s m pr a = -1 ∨ ∃ k : Nat, pkC n cd sz ph g s m pr a = ((k : Nat) : Int) ∧ k < n ∧ mtB sz ph g s m a k = true := pkU_rng n 0 (-1) (by omega) (Or.inl rfl)
theorem mtB_le {sz : Nat → Nat} {ph g : Nat → Int} {s m a e : Nat} (h : mtB sz ph g s m a e = true) : a + sz e ≤ m := by
  unfold mtB at h
  rw [Bool.and_eq_true, decide_eq_true_eq] at h
  exact h.1
set_option maxRecDepth 20000 in
theorem c_encode_0 {X : jX} {σ : jS} {pr : Int} {ln : Nat} {lw : Nat → Int} {bn : Nat → Nat} {cd sz : Nat → Nat → Nat} {ph : Nat → Nat → Int} {mn : Nat} {mg : Nat → Int} {kn : Nat} {kr : Nat → Int} {ks : Nat → Nat} {kt : Nat → Nat → Int} {rd : Nat} {rg : Nat → Int} {b : Nat} (hW : CW σ pr ln lw bn cd sz ph mn mg kn kr ks kt rd rg) (hI : CI pr ln lw bn cd sz ph mn mg kn kr ks kt rd rg) (hb : b < 3) : JM X mX6_encode rX6_encode [.ref 5, vI ((b : Nat) : Int)] σ (XP (oI (cvC (bn b) (sz b) (ph b) lw 0 ln pr 0)) σ (fun σ1 => CW σ1 pr ln lw bn cd sz ph ((enU (pkC (bn b) (cd b) (sz b) (ph b) lw 0 ln pr) (cd b) (sz b) lw ln 40 0 0 mg).1) ((enU (pkC (bn b) (cd b) (sz b) (ph b) lw 0 ln pr) (cd b) (sz b) lw ln 40 0 0 mg).2) kn kr ks kt rd rg)) := by
  refine JM.of (lc := [.ref 5, vI ((b : Nat) : Int), .null, .null, .null, .null, .null]) rfl ?_
  obtain ⟨hpr, ⟨hln, hlw⟩, hbk, ⟨hmn, hmg⟩, hki, hrd, hrg⟩ := id hI
  obtain ⟨gB, eB, hgB⟩ := hW.1.2.1
  obtain ⟨gT, eT, hgT⟩ := hW.2.2.2.1.2.2.2.1
  have hkn := hki.1
  have hB := hW.2.1 b hb
  have hbn := (hbk b hb).1
  have hcd := (hbk b hb).2.1
  have hsz := (hbk b hb).2.2.1
  have hph := (hbk b hb).2.2.2
  refine J.ald_n dX6_encode_0 rfl ?_
  refine J.ild_n dX6_encode_1 rfl ?_
  refine J.callV (rm' := rX6_requireBook) [vI ((b : Nat) : Int)] dX6_encode_2 (c_X6_requireBook hW.1.1 eB hgB hb) hW.1.1 rfl st_X6_requireBook ml_X6_118 im_X6_requireBook se_X6_requireBook rfl (Nat.le_of_ble_eq_true rfl) (by decide) (by decide) (Nat.le_of_ble_eq_true rfl) (by decide) (by decide) (Or.inl rfl) (fun E9 σ9 hq9 _ => nomatch hq9.1) (fun r9 σ9 hq9 hle9 => ?_)
  obtain ⟨h9, h8⟩ := hq9
  rw [h8]
  clear hle9 h8 σ9
  cases h9
  refine J.ast_n dX6_encode_5 (by decide) (jnc_of rfl rfl) ?_
  refine J.ald_n dX6_encode_6 rfl ?_
  refine gf_X6_40 rfl dX6_encode_7 hW.1.1 ?_
  refine J.ald_n dX6_encode_10 rfl ?_
  refine J.ald_n dX6_encode_11 rfl ?_
  refine gf_X6_48 rfl dX6_encode_12 hW.1.1 ?_
  refine J.ald_n dX6_encode_15 rfl ?_
  refine gf_X6_19 rfl dX6_encode_16 hW.1.1 ?_
  refine gf_X6_79 rfl dX6_encode_19 hW.2.2.1.1 ?_
  refine J.iconst dX6_encode_22 ?_
  refine J.ald_n dX6_encode_23 rfl ?_
  refine gf_X6_19 rfl dX6_encode_24 hW.1.1 ?_
  refine gf_X6_59 rfl dX6_encode_27 hW.2.2.1.1 ?_
  refine J.callV (rm' := rX2_divide) [.ref (7 + 4 * b), vI pr, .ref 20, vI 0, vI ((ln : Nat) : Int)] dX6_encode_30 (c_X2_divide (s := 0) hB (by omega) hbn (fun e _ => hcd e) hsz hW.2.2.2.2.2.1 hW.2.2.2.2.2.2.1.choose_spec hW.2.2.2.2.2.2.2.choose_spec hW.2.2.1.2 (by omega) hln (by omega) (fun t _ => inI_w (hlw t)) (fun t _ => inI_w (hph t)) hpr (by omega) (by omega) (by omega) (by omega)) hW.2.2.2.2.2.1 rfl st_X2_divide ml_X6_158 im_X2_divide se_X2_divide rfl (Nat.le_of_ble_eq_true rfl) (by decide) (by decide) (Nat.le_of_ble_eq_true rfl) (by decide) (by decide) (Or.inl rfl) (fun E9 σ9 hq9 _ => nomatch hq9.1) (fun r9 σ1 hq9 hle9 => ?_)
  obtain ⟨h9, ⟨f1, p1, hf1, hp1, hpk⟩, hn1, hj1⟩ := hq9
  cases h9
  clear hle9
  refine J.ist_n dX6_encode_33 (by decide) (jnc_of rfl rfl) ?_
  refine J.ald_n dX6_encode_34 rfl ?_
  refine gf_X6_33 rfl dX6_encode_35 ((hj1 _ (by omega) (by omega)).trans hW.1.1) ?_
  refine J.callV (rm' := rX5_clear) [] dX6_encode_38 (c_X5_clear ((hj1 _ (by omega) (by omega)).trans hW.2.2.2.2.1.1)) ((hj1 _ (by omega) (by omega)).trans hW.2.2.2.2.1.1) rfl st_X5_clear ml_X6_162 im_X5_clear se_X5_clear rfl (Nat.le_of_ble_eq_true rfl) (by decide) (by decide) (Nat.le_of_ble_eq_true rfl) (by decide) (by decide) (Or.inl rfl) (fun E9 σ9 hq9 _ => nomatch hq9.1) (fun r9 σ9 hq9 hle9 => ?_)
  obtain ⟨h9, h8⟩ := hq9
  cases h9
  subst h8
  clear hle9
  refine J.iconst dX6_encode_41 ?_
  refine J.ist dX6_encode_42 (by decide) (jnc_of rfl rfl) ?_
  refine J.iconst dX6_encode_44 ?_
  refine J.ist dX6_encode_45 (by decide) (jnc_of rfl rfl) ?_
  have L : ∀ (t g a : Nat) (σ' : jS) (f : Nat → Int) (u : Value), g + t = 40 → a ≤ ln → u.category = 1 → σ'.1 = σ1.1 → (∀ j, j ≠ 31 → j ≠ 32 → σ'.2 j = σ1.2 j) → σ'.2 31 = jO 4 [.ref 32, vI ((g : Nat) : Int)] → σ'.2 32 = jI 40 f → J X mX6_encode rX6_encode 47 [.ref 5, vI ((b : Nat) : Int), .ref (7 + 4 * b), vI (cvC (bn b) (sz b) (ph b) lw 0 ln pr 0), vI ((a : Nat) : Int), vI ((g : Nat) : Int), u] [] 1 6 σ' (XP (oI (cvC (bn b) (sz b) (ph b) lw 0 ln pr 0)) σ (fun σ9 => CW σ9 pr ln lw bn cd sz ph ((enU (pkC (bn b) (cd b) (sz b) (ph b) lw 0 ln pr) (cd b) (sz b) lw ln t a g f).1) ((enU (pkC (bn b) (cd b) (sz b) (ph b) lw 0 ln pr) (cd b) (sz b) lw ln t a g f).2) kn kr ks kt rd rg)) := by
    intro t
    induction t with
    | zero =>
      intro g a σ' f u hg ha hu h1 h2 h3 h4
      refine J.ild dX6_encode_47 rfl ?_
      refine J.bipush dX6_encode_49 (by decide) ?_
      refine J.icmp_ge dX6_encode_51 (by decide) (tgt := 142) (by unfold inI; omega) (by unfold inI; omega) (fun h => ?_) (fun h => ?_)
      · refine J.ild_n dX6_encode_142 rfl ?_
        refine J.iret .int dX6_encode_143 rfl rfl (by decide) (by decide) ?_
        exact ⟨rfl, (hW.setD hj1 ⟨f1, hf1⟩ ⟨p1, hp1⟩).setM h2 h3 h4, h1.trans hn1, fun j hj => (h2 j (by omega) (by omega)).trans (hj1 j (by omega) (by omega))⟩
      · omega
    | succ t ih =>
      intro g a σ' f u hg ha hu h1 h2 h3 h4
      refine J.ild dX6_encode_47 rfl ?_
      refine J.bipush dX6_encode_49 (by decide) ?_
      refine J.icmp_ge dX6_encode_51 (by decide) (tgt := 142) (by unfold inI; omega) (by unfold inI; omega) (fun h => ?_) (fun h => ?_)
      · omega
      · refine J.ild dX6_encode_54 rfl ?_
        refine J.ald_n dX6_encode_56 rfl ?_
        refine gf_X6_19 rfl dX6_encode_57 ((h2 _ (by omega) (by omega)).trans ((hj1 _ (by omega) (by omega)).trans hW.1.1)) ?_
        refine gf_X6_59 rfl dX6_encode_60 ((h2 _ (by omega) (by omega)).trans ((hj1 _ (by omega) (by omega)).trans hW.2.2.1.1)) ?_
        refine J.icmp_ge dX6_encode_63 (by decide) (tgt := 142) (by unfold inI; omega) (by unfold inI; omega) (fun h5 => ?_) (fun h5 => ?_)
        · refine J.ild_n dX6_encode_142 rfl ?_
          refine J.iret .int dX6_encode_143 rfl rfl (by decide) (by decide) ?_
          rw [show enU (pkC (bn b) (cd b) (sz b) (ph b) lw 0 ln pr) (cd b) (sz b) lw ln (t + 1) a g f = (g, f) from if_neg (by omega)]
          exact ⟨rfl, (hW.setD hj1 ⟨f1, hf1⟩ ⟨p1, hp1⟩).setM h2 h3 h4, h1.trans hn1, fun j hj => (h2 j (by omega) (by omega)).trans (hj1 j (by omega) (by omega))⟩
        · have hpa : p1 a = (pkC (bn b) (cd b) (sz b) (ph b) lw 0 ln pr) a := hpk a (by omega)
          have hEN : enU (pkC (bn b) (cd b) (sz b) (ph b) lw 0 ln pr) (cd b) (sz b) lw ln (t + 1) a g f = (if (pkC (bn b) (cd b) (sz b) (ph b) lw 0 ln pr) a = -1 then enU (pkC (bn b) (cd b) (sz b) (ph b) lw 0 ln pr) (cd b) (sz b) lw ln t (a + 1) (g + 1) (jup f g (-1 - lw a)) else enU (pkC (bn b) (cd b) (sz b) (ph b) lw 0 ln pr) (cd b) (sz b) lw ln t (a + sz b ((pkC (bn b) (cd b) (sz b) (ph b) lw 0 ln pr) a).toNat) (g + 1) (jup f g ((cd b ((pkC (bn b) (cd b) (sz b) (ph b) lw 0 ln pr) a).toNat : Nat) : Int))) := if_pos (by omega)
          rw [hEN]
          clear hEN
          rcases (pkC_rng (n := bn b) (cd := cd b) (sz := sz b) (ph := ph b) (g := lw) (s := 0) (m := ln) (pr := pr) (a := a)) with hk | ⟨k, hk, hkn2, hkm⟩
          · rw [hk] at hpa ⊢
            rw [if_pos rfl]
            refine J.ald_n dX6_encode_66 rfl ?_
            refine gf_X6_40 rfl dX6_encode_67 ((h2 _ (by omega) (by omega)).trans ((hj1 _ (by omega) (by omega)).trans hW.1.1)) ?_
            refine gf_X6_163 rfl dX6_encode_70 ((h2 _ (by omega) (by omega)).trans ((hj1 _ (by omega) (by omega)).trans hW.2.2.2.2.2.1)) ?_
            refine J.ild dX6_encode_73 rfl ?_
            refine J.iald a dX6_encode_75 ((h2 _ (by omega) (by omega)).trans hp1) rfl (by omega) (by omega) ?_
            rw [show p1 a = (-1) from hpa]
            refine J.ist dX6_encode_76 (by decide) (jnc_of rfl rfl) ?_
            refine J.ald_n dX6_encode_78 rfl ?_
            refine gf_X6_33 rfl dX6_encode_79 ((h2 _ (by omega) (by omega)).trans ((hj1 _ (by omega) (by omega)).trans hW.1.1)) ?_
            refine J.ild dX6_encode_82 rfl ?_
            refine J.iconst dX6_encode_84 ?_
            refine J.icmp_ne dX6_encode_85 (by decide) (tgt := 104) (by unfold inI; omega) (by unfold inI; omega) (fun h6 => ?_) (fun h6 => ?_)
            · first | omega | exact absurd rfl h6
            · refine J.ald_n dX6_encode_88 rfl ?_
              refine gf_X6_19 rfl dX6_encode_89 ((h2 _ (by omega) (by omega)).trans ((hj1 _ (by omega) (by omega)).trans hW.1.1)) ?_
              refine gf_X6_79 rfl dX6_encode_92 ((h2 _ (by omega) (by omega)).trans ((hj1 _ (by omega) (by omega)).trans hW.2.2.1.1)) ?_
              refine J.ild dX6_encode_95 rfl ?_
              refine J.iald a dX6_encode_97 ((h2 _ (by omega) (by omega)).trans ((hj1 _ (by omega) (by omega)).trans hW.2.2.1.2)) rfl (by omega) (by omega) ?_
              refine J.callS (rm' := rX5_plain) [vI (lw a)] dX6_encode_98 (c_X5_plain) st_X5_plain ml_X6_166 sm_X5_plain rfl (Nat.le_of_ble_eq_true rfl) (by decide) (by decide) (Nat.le_of_ble_eq_true rfl) (by decide) (by decide) (Or.inl rfl) (fun E9 σ9 hq9 _ => nomatch hq9.1) (fun r9 σ9 hq9 hle9 => ?_)
              obtain ⟨h9, h8⟩ := hq9
              rw [h8]
              clear hle9 h8 σ9
              cases h9
              refine J.goto dX6_encode_101 (by decide) (tgt := 111) ?_
              refine J.callV (rm' := rX5_append) [vI (-1 - lw a)] dX6_encode_111 (c_X5_append h3 h4 (by omega) (by omega) (by omega)) h3 rfl st_X5_append ml_X6_169 im_X5_append se_X5_append rfl (Nat.le_of_ble_eq_true rfl) (by decide) (by decide) (Nat.le_of_ble_eq_true rfl) (by decide) (by decide) (Or.inl rfl) (fun E9 σ9 hq9 _ => nomatch hq9.1) (fun r9 σ9 hq9 hle9 => ?_)
              obtain ⟨h9, h8⟩ := hq9
              cases h9
              rw [show japp 4 σ' 31 32 g f (-1 - lw a) = jset (jset σ' 32 (jI 40 (jup f g (-1 - lw a)))) 31 (jO 4 [.ref 32, vI ((g + 1 : Nat) : Int)]) from if_pos (by omega)] at h8
              subst h8
              clear hle9
              refine J.ild dX6_encode_114 rfl ?_
              refine J.ild dX6_encode_116 rfl ?_
              refine J.iconst dX6_encode_118 ?_
              refine J.icmp_ne dX6_encode_119 (by decide) (tgt := 126) (by unfold inI; omega) (by unfold inI; omega) (fun h7 => ?_) (fun h7 => ?_)
              · first | omega | exact absurd rfl h7
              · refine J.iconst dX6_encode_122 ?_
                refine J.goto dX6_encode_123 (by decide) (tgt := 133) ?_
                refine J.iadd dX6_encode_133 ?_
                rw [show (((a : Nat) : Int) : Int) + 1 = ((a + 1 : Nat) : Int) from by push_cast; rfl]
                refine J.ist dX6_encode_134 (by decide) (jnc_of rfl rfl) ?_
                refine J.iinc (v := ((g + 1 : Nat) : Int)) dX6_encode_136 rfl (by first | rfl | omega) (by decide) (jnc_of rfl rfl) ?_
                refine J.goto dX6_encode_139 (by decide) (tgt := 47) ?_
                exact ih (g + 1) _ _ _ _ (by omega) (by omega) rfl h1 (fun j q1 q2 => by rw [jset_ne _ _ q1, jset_ne _ _ q2]; exact h2 j q1 q2) (jset_eq _ _ _) ((jset_ne _ _ (by omega)).trans (jset_eq _ _ _))
          · rw [hk] at hpa ⊢
            rw [if_neg (by omega), show (((k : Nat) : Int)).toNat = k from rfl]
            have hkm2 := mtB_le hkm
            have hszk := hsz k hkn2
            refine J.ald_n dX6_encode_66 rfl ?_
            refine gf_X6_40 rfl dX6_encode_67 ((h2 _ (by omega) (by omega)).trans ((hj1 _ (by omega) (by omega)).trans hW.1.1)) ?_
            refine gf_X6_163 rfl dX6_encode_70 ((h2 _ (by omega) (by omega)).trans ((hj1 _ (by omega) (by omega)).trans hW.2.2.2.2.2.1)) ?_
            refine J.ild dX6_encode_73 rfl ?_
            refine J.iald a dX6_encode_75 ((h2 _ (by omega) (by omega)).trans hp1) rfl (by omega) (by omega) ?_
            rw [show p1 a = ((k : Nat) : Int) from hpa]
            refine J.ist dX6_encode_76 (by decide) (jnc_of rfl rfl) ?_
            refine J.ald_n dX6_encode_78 rfl ?_
            refine gf_X6_33 rfl dX6_encode_79 ((h2 _ (by omega) (by omega)).trans ((hj1 _ (by omega) (by omega)).trans hW.1.1)) ?_
            refine J.ild dX6_encode_82 rfl ?_
            refine J.iconst dX6_encode_84 ?_
            refine J.icmp_ne dX6_encode_85 (by decide) (tgt := 104) (by unfold inI; omega) (by unfold inI; omega) (fun h6 => ?_) (fun h6 => ?_)
            · refine J.ald_n dX6_encode_104 rfl ?_
              refine gf_X6_143 rfl dX6_encode_105 ((h2 _ (by omega) (by omega)).trans ((hj1 _ (by omega) (by omega)).trans hB.1)) ?_
              refine J.ild dX6_encode_108 rfl ?_
              refine J.iald k dX6_encode_110 ((h2 _ (by omega) (by omega)).trans ((hj1 _ (by omega) (by omega)).trans hB.2.1)) rfl (by omega) (by omega) ?_
              refine J.callV (rm' := rX5_append) [vI ((cd b k : Nat) : Int)] dX6_encode_111 (c_X5_append h3 h4 (by omega) (by omega) (by omega)) h3 rfl st_X5_append ml_X6_169 im_X5_append se_X5_append rfl (Nat.le_of_ble_eq_true rfl) (by decide) (by decide) (Nat.le_of_ble_eq_true rfl) (by decide) (by decide) (Or.inl rfl) (fun E9 σ9 hq9 _ => nomatch hq9.1) (fun r9 σ9 hq9 hle9 => ?_)
              obtain ⟨h9, h8⟩ := hq9
              cases h9
              rw [show japp 4 σ' 31 32 g f ((cd b k : Nat) : Int) = jset (jset σ' 32 (jI 40 (jup f g ((cd b k : Nat) : Int)))) 31 (jO 4 [.ref 32, vI ((g + 1 : Nat) : Int)]) from if_pos (by omega)] at h8
              subst h8
              clear hle9
              refine J.ild dX6_encode_114 rfl ?_
              refine J.ild dX6_encode_116 rfl ?_
              refine J.iconst dX6_encode_118 ?_
              refine J.icmp_ne dX6_encode_119 (by decide) (tgt := 126) (by unfold inI; omega) (by unfold inI; omega) (fun h7 => ?_) (fun h7 => ?_)
              · refine J.ald_n dX6_encode_126 rfl ?_
                refine gf_X6_146 rfl dX6_encode_127 ((jset_ne _ _ (by omega)).trans ((jset_ne _ _ (by omega)).trans ((h2 _ (by omega) (by omega)).trans ((hj1 _ (by omega) (by omega)).trans hB.1)))) ?_
                refine J.ild dX6_encode_130 rfl ?_
                refine J.iald k dX6_encode_132 ((jset_ne _ _ (by omega)).trans ((jset_ne _ _ (by omega)).trans ((h2 _ (by omega) (by omega)).trans ((hj1 _ (by omega) (by omega)).trans hB.2.2.1)))) rfl (by omega) (by omega) ?_
                refine J.iadd dX6_encode_133 ?_
                rw [show (((a : Nat) : Int) : Int) + ((sz b k : Nat) : Int) = ((a + (sz b k) : Nat) : Int) from by push_cast; rfl]
                refine J.ist dX6_encode_134 (by decide) (jnc_of rfl rfl) ?_
                refine J.iinc (v := ((g + 1 : Nat) : Int)) dX6_encode_136 rfl (by first | rfl | omega) (by decide) (jnc_of rfl rfl) ?_
                refine J.goto dX6_encode_139 (by decide) (tgt := 47) ?_
                exact ih (g + 1) _ _ _ _ (by omega) (by omega) rfl h1 (fun j q1 q2 => by rw [jset_ne _ _ q1, jset_ne _ _ q2]; exact h2 j q1 q2) (jset_eq _ _ _) ((jset_ne _ _ (by omega)).trans (jset_eq _ _ _))
              · first | omega | exact absurd rfl h7
            · first | omega | exact absurd rfl h6
  exact L 40 0 0 (jset σ1 31 (jO 4 [.ref 32, vI 0])) mg .null (by omega) (by omega) rfl rfl (fun j q1 q2 => jset_ne _ _ q1) (jset_eq _ _ _) ((jset_ne _ _ (by omega)).trans ((hj1 _ (by omega) (by omega)).trans hW.2.2.2.2.1.2))
