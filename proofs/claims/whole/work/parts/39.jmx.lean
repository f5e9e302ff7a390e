theorem jup_jup {α : Type} (f : Nat → α) (i : Nat) (x y : α) : jup (jup f i x) i y = jup f i y := funext fun t => by
  unfold jup
  by_cases h : t = i
  · rw [if_pos h, if_pos h]
  · rw [if_neg h, if_neg h, if_neg h]
theorem jup_id {α : Type} (f : Nat → α) (i : Nat) : jup f i (f i) = f := funext fun t => by
  unfold jup
  by_cases h : t = i
  · rw [if_pos h, h]
  · rw [if_neg h]
theorem fnU_none {cd : Nat → Nat} {c : Nat} : ∀ (t e : Nat), fnU cd c t e = -1 → ∀ k, e ≤ k → k < e + t → cd k ≠ c
  | 0, e, _, k, h1, h2 => absurd h2 (by omega)
  | t + 1, e, h, k, h1, h2 => by
    have h' : (if cd e = c then ((e : Nat) : Int) else fnU cd c t (e + 1)) = -1 := h
    by_cases q : cd e = c
    · rw [if_pos q] at h'; omega
    · rw [if_neg q] at h'
      by_cases r : k = e
      · subst r; exact q
      · exact fnU_none t (e + 1) h' k (by omega) (by omega)
theorem apF_congr {n : Nat} {f f' : Nat → Int} {w : Int} (h : ∀ t, t < n → f t = f' t) (t : Nat) (ht : t < apN n) : apF n f w t = apF n f' w t := by
  unfold apN at ht
  unfold apF
  by_cases q : n < 40
  · rw [if_pos q] at ht ⊢
    rw [if_pos q]
    by_cases r : t = n
    · subst r; rw [jup_eq, jup_eq]
    · rw [jup_ne _ _ r, jup_ne _ _ r]; exact h t (by omega)
  · rw [if_neg q] at ht ⊢
    rw [if_neg q]; exact h t ht
theorem alF_congr {g : Nat → Int} : ∀ (k s n : Nat) (f f' : Nat → Int), (∀ t, t < n → f t = f' t) → ∀ t, t < alN k n → alF g k s n f t = alF g k s n f' t
  | 0, _, _, _, _, h => h
  | k + 1, s, n, f, f', h => alF_congr k (s + 1) (apN n) _ _ (fun t ht => apF_congr h t ht)
theorem apF_in {n : Nat} {f : Nat → Int} {w : Int} {P : Int → Prop} (hw : P w) (h : ∀ t, P (f t)) (t : Nat) : P (apF n f w t) := by
  unfold apF
  by_cases q : n < 40
  · rw [if_pos q]; unfold jup; split
    · exact hw
    · exact h t
  · rw [if_neg q]; exact h t
theorem apF_in40 {n : Nat} {f : Nat → Int} {w : Int} (hw : inI w) (h : ∀ t, t < 40 → inI (f t)) (t : Nat) (ht : t < 40) : inI (apF n f w t) := by
  unfold apF
  by_cases q : n < 40
  · rw [if_pos q]; unfold jup; split
    · exact hw
    · exact h t ht
  · rw [if_neg q]; exact h t ht
theorem alF_in {g : Nat → Int} {P : Int → Prop} : ∀ (k s n : Nat) (f : Nat → Int), (∀ i, i < k → P (g (s + i))) → (∀ t, P (f t)) → ∀ t, P (alF g k s n f t)
  | 0, _, _, _, _, h => h
  | k + 1, s, n, f, hg, h => alF_in k (s + 1) (apN n) _ (fun i hi => by rw [show s + 1 + i = s + (i + 1) by omega]; exact hg _ (by omega)) (fun t => apF_in (hg 0 (by omega)) h t)
theorem alF_in40 {g : Nat → Int} : ∀ (k s n : Nat) (f : Nat → Int), (∀ i, i < k → inI (g (s + i))) → (∀ t, t < 40 → inI (f t)) → ∀ t, t < 40 → inI (alF g k s n f t)
  | 0, _, _, _, _, h => h
  | k + 1, s, n, f, hg, h => alF_in40 k (s + 1) (apN n) _ (fun i hi => by rw [show s + 1 + i = s + (i + 1) by omega]; exact hg _ (by omega)) (fun t ht => apF_in40 (hg 0 (by omega)) h t ht)
def dgU (bn : Nat → Nat) (cd sz : Nat → Nat → Nat) (ph : Nat → Nat → Int) : Nat → Nat → Int → Int
  | 0, _, d => d
  | t + 1, b, d => dgU bn cd sz ph t (b + 1) (dgB (bn b) (cd b) (sz b) (ph b) d)
set_option maxRecDepth 20000 in
theorem m_decode_1 {X : jX} {σ : jS} {pr : Int} {ln : Nat} {lw : Nat → Int} {bn : Nat → Nat} {cd sz : Nat → Nat → Nat} {ph : Nat → Nat → Int} {mn : Nat} {mg : Nat → Int} {kn : Nat} {kr : Nat → Int} {ks : Nat → Nat} {kt : Nat → Nat → Int} {rd : Nat} {rg : Nat → Int} {th : Int} {a : Int} (hM : MW σ th pr ln lw bn cd sz ph mn mg kn kr ks kt rd rg) (hI : CI pr ln lw bn cd sz ph mn mg kn kr ks kt rd rg) (hi : inI a) (ha : ¬ (0 ≤ a ∧ a < 3)) : JM X mX7_decode rX7_decode [.ref 37, vI a] σ (MP 1 (0) σ (fun σ1 => MW σ1 1 pr ln lw bn cd sz ph mn mg kn kr ks kt rd rg)) := by
  refine JM.of (lc := [.ref 37, vI a, .null, .null, .null, .null, .null, .null]) rfl ?_
  obtain ⟨hpr, ⟨hln, hlw⟩, hbk, ⟨hmn, hmg⟩, hki, hrd, hrg⟩ := id hI
  obtain ⟨⟨pa, ps, hO⟩, ⟨ml, h38, hml, hmi⟩, h39, ⟨Kw, h40, hw9, hkw⟩, h41, ⟨Mc, h42, hMc⟩, ⟨Ms, h43, hMs⟩, ⟨Mp, h44, hMp⟩, h45, h46, ⟨lf, h47⟩, ⟨pc, h48⟩⟩ := id hM
  have hkn := hki.1
  refine J.ald_n dX7_decode_0 rfl ?_
  refine J.iconst dX7_decode_1 ?_
  refine pf_X7_47 rfl dX7_decode_2 hO ?_
  refine J.ild_n dX7_decode_5 rfl ?_
  refine J.callS (rm' := rX7_isBook) [vI a] dX7_decode_6 (c_X7_isBook_f hi (by omega)) st_X7_isBook ml_X7_55 sm_X7_isBook rfl (Nat.le_of_ble_eq_true rfl) (by decide) (by decide) (Nat.le_of_ble_eq_true rfl) (by decide) (by decide) (Or.inl rfl) (fun E9 σ9 hq9 _ => nomatch hq9.1) (fun r9 σ9 hq9 hle9 => ?_)
  obtain ⟨h9, h8⟩ := hq9
  rw [h8]
  clear hle9 h8 σ9
  cases h9
  refine J.if_ne dX7_decode_9 (by decide) (tgt := 18) (by unfold inI; omega) (fun hb9 => ?_) (fun hb9 => ?_)
  · first | exact absurd hb9 (by decide) | exact absurd rfl hb9 | omega
  · refine J.ald_n dX7_decode_12 rfl ?_
    refine J.iconst dX7_decode_13 ?_
    refine J.callV (rm' := rX7_no) [vI 1] dX7_decode_14 (c_X7_no (jset_eq _ _ _)) (jset_eq _ _ _) rfl st_X7_no ml_X7_59 im_X7_no se_X7_no rfl (Nat.le_of_ble_eq_true rfl) (by decide) (by decide) (Nat.le_of_ble_eq_true rfl) (by decide) (by decide) (Or.inl rfl) (fun E9 σ9 hq9 _ => nomatch hq9.1) (fun r9 σ9 hq9 hle9 => ?_)
    obtain ⟨h9, h8⟩ := hq9
    cases h9
    subst h8
    clear hle9
    refine J.iret .int dX7_decode_17 rfl rfl (by decide) (by decide) ?_
    exact ⟨⟨_, rfl, fun q => absurd q (by decide)⟩, ⟨⟨pa, ps, (jset_eq _ _ _)⟩, ⟨ml, ((jset_ne _ _ (by omega)).trans ((jset_ne _ _ (by omega)).trans h38)), hml, hmi⟩, ((jset_ne _ _ (by omega)).trans ((jset_ne _ _ (by omega)).trans h39)), ⟨Kw, ((jset_ne _ _ (by omega)).trans ((jset_ne _ _ (by omega)).trans h40)), hw9, hkw⟩, ((jset_ne _ _ (by omega)).trans ((jset_ne _ _ (by omega)).trans h41)), ⟨Mc, ((jset_ne _ _ (by omega)).trans ((jset_ne _ _ (by omega)).trans h42)), hMc⟩, ⟨Ms, ((jset_ne _ _ (by omega)).trans ((jset_ne _ _ (by omega)).trans h43)), hMs⟩, ⟨Mp, ((jset_ne _ _ (by omega)).trans ((jset_ne _ _ (by omega)).trans h44)), hMp⟩, ((jset_ne _ _ (by omega)).trans ((jset_ne _ _ (by omega)).trans h45)), ((jset_ne _ _ (by omega)).trans ((jset_ne _ _ (by omega)).trans h46)), ⟨_, ((jset_ne _ _ (by omega)).trans ((jset_ne _ _ (by omega)).trans h47))⟩, ⟨_, ((jset_ne _ _ (by omega)).trans ((jset_ne _ _ (by omega)).trans h48))⟩⟩, rfl, fun j hj => ((jset_ne _ _ (by omega)).trans ((jset_ne _ _ (by omega)).trans (rfl : σ.2 j = σ.2 j)))⟩
set_option maxRecDepth 20000 in
theorem m_decode_0 {X : jX} {σ : jS} {pr : Int} {ln : Nat} {lw : Nat → Int} {bn : Nat → Nat} {cd sz : Nat → Nat → Nat} {ph : Nat → Nat → Int} {mn : Nat} {mg : Nat → Int} {kn : Nat} {kr : Nat → Int} {ks : Nat → Nat} {kt : Nat → Nat → Int} {rd : Nat} {rg : Nat → Int} {th : Int} {b : Nat} (hM : MW σ th pr ln lw bn cd sz ph mn mg kn kr ks kt rd rg) (hI : CI pr ln lw bn cd sz ph mn mg kn kr ks kt rd rg) (hb : b < 3) : JM X mX7_decode rX7_decode [.ref 37, vI ((b : Nat) : Int)] σ (MP 0 ((dcU (bn b) (cd b) (sz b) (ph b) mg mn 0 0 lw rg 0).2.2.2) σ (fun σ1 => MW σ1 0 pr ((dcU (bn b) (cd b) (sz b) (ph b) mg mn 0 0 lw rg 0).1) ((dcU (bn b) (cd b) (sz b) (ph b) mg mn 0 0 lw rg 0).2.1) bn cd sz ph mn mg kn kr ks kt mn ((dcU (bn b) (cd b) (sz b) (ph b) mg mn 0 0 lw rg 0).2.2.1))) := by
  refine JM.of (lc := [.ref 37, vI ((b : Nat) : Int), .null, .null, .null, .null, .null, .null]) rfl ?_
  obtain ⟨hpr, ⟨hln, hlw⟩, hbk, ⟨hmn, hmg⟩, hki, hrd, hrg⟩ := id hI
  obtain ⟨⟨pa, ps, hO⟩, ⟨ml, h38, hml, hmi⟩, h39, ⟨Kw, h40, hw9, hkw⟩, h41, ⟨Mc, h42, hMc⟩, ⟨Ms, h43, hMs⟩, ⟨Mp, h44, hMp⟩, h45, h46, ⟨lf, h47⟩, ⟨pc, h48⟩⟩ := id hM
  have hkn := hki.1
  have hbn := (hbk b hb).1
  have hcd := (hbk b hb).2.1
  have hsz := (hbk b hb).2.2.1
  have hph := (hbk b hb).2.2.2
  have hc9 := fun e he => hMc b e hb he
  have hs9 := fun e he => hMs b e hb he
  have hp9 := fun t ht => hMp b t hb ht
  refine J.ald_n dX7_decode_0 rfl ?_
  refine J.iconst dX7_decode_1 ?_
  refine pf_X7_47 rfl dX7_decode_2 hO ?_
  refine J.ild_n dX7_decode_5 rfl ?_
  refine J.callS (rm' := rX7_isBook) [vI ((b : Nat) : Int)] dX7_decode_6 (c_X7_isBook_t (by unfold inI; omega) (by omega)) st_X7_isBook ml_X7_55 sm_X7_isBook rfl (Nat.le_of_ble_eq_true rfl) (by decide) (by decide) (Nat.le_of_ble_eq_true rfl) (by decide) (by decide) (Or.inl rfl) (fun E9 σ9 hq9 _ => nomatch hq9.1) (fun r9 σ9 hq9 hle9 => ?_)
  obtain ⟨h9, h8⟩ := hq9
  rw [h8]
  clear hle9 h8 σ9
  cases h9
  refine J.if_ne dX7_decode_9 (by decide) (tgt := 18) (by unfold inI; omega) (fun hb9 => ?_) (fun hb9 => ?_)
  · refine J.ald_n dX7_decode_18 rfl ?_
    refine J.iconst dX7_decode_19 ?_
    refine pf_X7_63 rfl dX7_decode_20 (jset_eq _ _ _) ?_
    refine J.ald_n dX7_decode_23 rfl ?_
    refine J.ald_n dX7_decode_24 rfl ?_
    refine gf_X7_124 rfl dX7_decode_25 (jset_eq _ _ _) ?_
    refine pf_X7_130 rfl dX7_decode_28 (jset_eq _ _ _) ?_
    refine J.iconst dX7_decode_31 ?_
    refine J.ist_n dX7_decode_32 (by decide) (jnc_of rfl rfl) ?_
    refine J.iconst dX7_decode_33 ?_
    refine J.ist_n dX7_decode_34 (by decide) (jnc_of rfl rfl) ?_
    have L : ∀ (t g l : Nat) (σ' : jS) (f w r : Nat → Int) (x : Int) (u4 u5 u6 u7 : Value), g + t = mn → l ≤ 40 → (∀ t, t < l → f t = w t) → (∀ t, t < 40 → inI (f t)) → u4.category = 1 → u5.category = 1 → u6.category = 1 → u7.category = 1 → σ'.1 = σ.1 → (∀ j, j ≠ 37 → j ≠ 38 → j ≠ 46 → σ'.2 j = σ.2 j) → MO σ' 0 pr ((l : Nat) : Int) ((kn : Nat) : Int) ((mn : Nat) : Int) ((mn : Nat) : Int) pa ps → σ'.2 38 = jI 40 f → σ'.2 46 = jI 40 r → J X mX7_decode rX7_decode 35 [.ref 37, vI ((b : Nat) : Int), vI x, vI ((g : Nat) : Int), u4, u5, u6, u7] [] 0 0 σ' (MP 0 (dcU (bn b) (cd b) (sz b) (ph b) mg t g l w r x).2.2.2 σ (fun σ9 => MW σ9 0 pr ((dcU (bn b) (cd b) (sz b) (ph b) mg t g l w r x).1) ((dcU (bn b) (cd b) (sz b) (ph b) mg t g l w r x).2.1) bn cd sz ph mn mg kn kr ks kt mn ((dcU (bn b) (cd b) (sz b) (ph b) mg t g l w r x).2.2.1))) := by
      intro t
      induction t with
      | zero =>
        intro g l σ' f w r x u4 u5 u6 u7 hg hl hfw hfi hu4 hu5 hu6 hu7 h1 h2 h3 k38 k46
        refine J.ild_n dX7_decode_35 rfl ?_
        refine J.ald_n dX7_decode_36 rfl ?_
        refine gf_X7_124 rfl dX7_decode_37 h3 ?_
        refine J.icmp_ge dX7_decode_40 (by decide) (tgt := 217) (by unfold inI; omega) (by unfold inI; omega) (fun h => ?_) (fun h => ?_)
        · refine J.ild_n dX7_decode_217 rfl ?_
          refine J.iret .int dX7_decode_218 rfl rfl (by decide) (by decide) ?_
          exact ⟨⟨_, rfl, fun _ => rfl⟩, ⟨⟨pa, ps, h3⟩, ⟨f, k38, hfw, hfi⟩, ((h2 _ (by omega) (by omega) (by omega)).trans h39), ⟨Kw, ((h2 _ (by omega) (by omega) (by omega)).trans h40), hw9, hkw⟩, ((h2 _ (by omega) (by omega) (by omega)).trans h41), ⟨Mc, ((h2 _ (by omega) (by omega) (by omega)).trans h42), hMc⟩, ⟨Ms, ((h2 _ (by omega) (by omega) (by omega)).trans h43), hMs⟩, ⟨Mp, ((h2 _ (by omega) (by omega) (by omega)).trans h44), hMp⟩, ((h2 _ (by omega) (by omega) (by omega)).trans h45), k46, ⟨_, ((h2 _ (by omega) (by omega) (by omega)).trans h47)⟩, ⟨_, ((h2 _ (by omega) (by omega) (by omega)).trans h48)⟩⟩, h1, fun j hj => ((h2 _ (by omega) (by omega) (by omega)).trans (rfl : σ.2 j = σ.2 j))⟩
        · omega
      | succ t ih =>
        intro g l σ' f w r x u4 u5 u6 u7 hg hl hfw hfi hu4 hu5 hu6 hu7 h1 h2 h3 k38 k46
        refine J.ild_n dX7_decode_35 rfl ?_
        refine J.ald_n dX7_decode_36 rfl ?_
        refine gf_X7_124 rfl dX7_decode_37 h3 ?_
        refine J.icmp_ge dX7_decode_40 (by decide) (tgt := 217) (by unfold inI; omega) (by unfold inI; omega) (fun h => ?_) (fun h => ?_)
        · omega
        · have hmgg := hmg g
          refine J.ald_n dX7_decode_43 rfl ?_
          refine gf_X7_35 rfl dX7_decode_44 h3 ?_
          refine J.ild_n dX7_decode_47 rfl ?_
          refine J.iald g dX7_decode_48 ((h2 _ (by omega) (by omega) (by omega)).trans h45) rfl (by omega) (by omega) ?_
          refine J.ist dX7_decode_49 (by decide) (jnc_of rfl rfl) ?_
          refine J.ild dX7_decode_51 rfl ?_
          by_cases hx0 : mg g < 0
          · have hRR : rdR (bn b) (cd b) (mg g) = 0 := if_pos hx0
            have hNN : rdN (bn b) (cd b) (sz b) (mg g) l = apN l := if_pos hx0
            have hFF : rdF (bn b) (cd b) (sz b) (ph b) (mg g) l w = apF l w (-1 - mg g) := if_pos hx0
            refine J.if_ge dX7_decode_53 (by decide) (tgt := 60) (by unfold inI; omega) (fun g1 => ?_) (fun g1 => ?_)
            · omega
            · refine J.iconst dX7_decode_56 ?_
              refine J.goto dX7_decode_57 (by decide) (tgt := 67) ?_
              refine J.ist dX7_decode_67 (by decide) (jnc_of rfl rfl) ?_
              refine J.ald_n dX7_decode_69 rfl ?_
              refine gf_X7_38 rfl dX7_decode_70 h3 ?_
              refine J.ild_n dX7_decode_73 rfl ?_
              refine J.ild dX7_decode_74 rfl ?_
              refine J.if_ge dX7_decode_76 (by decide) (tgt := 83) (by unfold inI; omega) (fun g2 => ?_) (fun g2 => ?_)
              · omega
              · refine J.iconst dX7_decode_79 ?_
                refine J.goto dX7_decode_80 (by decide) (tgt := 94) ?_
                refine J.iast g dX7_decode_94 k46 (by omega) rfl (by omega) (by omega) ?_
                refine J.ild dX7_decode_95 rfl ?_
                refine J.if_ge dX7_decode_97 (by decide) (tgt := 108) (by unfold inI; omega) (fun g3 => ?_) (fun g3 => ?_)
                · omega
                · refine J.ald_n dX7_decode_100 rfl ?_
                  refine J.iconst dX7_decode_101 ?_
                  refine J.ild dX7_decode_102 rfl ?_
                  refine J.isub dX7_decode_104 ?_
                  refine J.callV (rm' := rX7_write) [vI ((-1) - (mg g))] dX7_decode_105 (c_X7_write ((jset_ne _ _ (by omega)).trans h3) ((jset_ne _ _ (by omega)).trans k38) hl) ((jset_ne _ _ (by omega)).trans h3) rfl st_X7_write ml_X7_133 im_X7_write se_X7_write rfl (Nat.le_of_ble_eq_true rfl) (by decide) (by decide) (Nat.le_of_ble_eq_true rfl) (by decide) (by decide) (Or.inl rfl) (fun E9 σ9 hq9 _ => nomatch hq9.1) (fun r9 σ1 hq9 hle9 => ?_)
                  obtain ⟨h9, w37, w38, hn1, hj1⟩ := hq9
                  cases h9
                  clear hle9
                  refine J.ald_n dX7_decode_108 rfl ?_
                  refine gf_X7_38 rfl dX7_decode_109 w37 ?_
                  refine J.ild_n dX7_decode_112 rfl ?_
                  refine J.iald g dX7_decode_113 ((hj1 _ (by omega) (by omega)).trans (jset_eq _ _ _)) rfl (by omega) (by omega) ?_
                  rw [show (jup r g 0) g = 0 from jup_eq _ _ _]
                  refine J.iconst dX7_decode_114 ?_
                  refine J.icmp_ne dX7_decode_115 (by decide) (tgt := 158) (by unfold inI; omega) (by unfold inI; omega) (fun g4 => ?_) (fun g4 => ?_)
                  · refine J.bipush dX7_decode_158 (by decide) ?_
                    refine J.ild_n dX7_decode_160 rfl ?_
                    refine J.imul dX7_decode_161 ?_
                    rw [show (40 : Int) * ((b : Nat) : Int) = ((40 * b : Nat) : Int) from by push_cast; rfl]
                    refine J.ild dX7_decode_162 rfl ?_
                    refine J.iadd dX7_decode_164 ?_
                    refine J.ist dX7_decode_165 (by decide) (jnc_of rfl rfl) ?_
                    refine J.ild dX7_decode_167 rfl ?_
                    refine J.iconst dX7_decode_169 ?_
                    refine J.icmp_eq dX7_decode_170 (by decide) (tgt := 211) (by unfold inI; omega) (by unfold inI; omega) (fun g5 => ?_) (fun g5 => ?_)
                    · refine J.iinc (v := ((g + 1 : Nat) : Int)) dX7_decode_211 rfl (by first | rfl | omega) (by decide) (jnc_of rfl rfl) ?_
                      refine J.goto dX7_decode_214 (by decide) (tgt := 35) ?_
                      rw [show dcU (bn b) (cd b) (sz b) (ph b) mg (t + 1) g l w r x = dcU (bn b) (cd b) (sz b) (ph b) mg t (g + 1) (apN l) (apF l w (-1 - mg g)) (jup r g 0) x from by show dcU (bn b) (cd b) (sz b) (ph b) mg t (g + 1) (rdN (bn b) (cd b) (sz b) (mg g) l) (rdF (bn b) (cd b) (sz b) (ph b) (mg g) l w) (jup r g (rdR (bn b) (cd b) (mg g))) (if rdR (bn b) (cd b) (mg g) = 3 then x + 1 else x) = _; rw [hRR, hNN, hFF]; rfl]
                      exact ih (g + 1) (apN l) σ1 (apF l f (-1 - mg g)) _ _ x _ _ _ _ (by omega) (apN_le hl) (fun t ht => apF_congr hfw t ht) (fun t ht => apF_in40 (by unfold inI; omega) hfi t ht) rfl rfl rfl (by first | rfl | assumption) (hn1.trans h1) (fun j q1 q2 q3 => by rw [hj1 j q1 q2, jset_ne _ _ q3]; exact h2 j q1 q2 q3) w37 w38 ((hj1 _ (by omega) (by omega)).trans (jset_eq _ _ _))
                    · exact absurd rfl g5
                  · omega
          · obtain ⟨c, hcg⟩ : ∃ c : Nat, mg g = ((c : Nat) : Int) := ⟨(mg g).toNat, by omega⟩
            have hc : c ≤ 11881375 := by omega
            rw [hcg] at hx0 hmgg
            rw [hcg]
            refine J.if_ge dX7_decode_53 (by decide) (tgt := 60) (by unfold inI; omega) (fun g1 => ?_) (fun g1 => ?_)
            · refine J.ald_n dX7_decode_60 rfl ?_
              refine J.ild_n dX7_decode_61 rfl ?_
              refine J.ild dX7_decode_62 rfl ?_
              refine J.callV (rm' := rX7_entryOf) [vI ((b : Nat) : Int), vI ((c : Nat) : Int)] dX7_decode_64 (c_X7_entryOf h3 ((h2 _ (by omega) (by omega) (by omega)).trans h41) hb hbn ((h2 _ (by omega) (by omega) (by omega)).trans h42) hc9 hcd hc) h3 rfl st_X7_entryOf ml_X7_108 im_X7_entryOf se_X7_entryOf rfl (Nat.le_of_ble_eq_true rfl) (by decide) (by decide) (Nat.le_of_ble_eq_true rfl) (by decide) (by decide) (Or.inl rfl) (fun E9 σ9 hq9 _ => nomatch hq9.1) (fun r9 σ9 hq9 hle9 => ?_)
              obtain ⟨h9, h8⟩ := hq9
              rw [h8]
              clear hle9 h8 σ9
              cases h9
              rcases fnU_rng (cd := cd b) (c := c) (n := bn b) (bn b) 0 (by omega) with hf | ⟨k, hf, hk⟩
              · rw [hf]
                have hno := fun e (he : e < bn b) => fnU_none (cd := cd b) (c := c) (bn b) 0 hf e (by omega) (by omega)
                refine J.ist dX7_decode_67 (by decide) (jnc_of rfl rfl) ?_
                refine J.ald_n dX7_decode_69 rfl ?_
                refine gf_X7_38 rfl dX7_decode_70 h3 ?_
                refine J.ild_n dX7_decode_73 rfl ?_
                refine J.ild dX7_decode_74 rfl ?_
                refine J.if_ge dX7_decode_76 (by decide) (tgt := 83) (by unfold inI; omega) (fun g2 => ?_) (fun g2 => ?_)
                · refine J.ild dX7_decode_83 rfl ?_
                  refine J.iconst dX7_decode_85 ?_
                  refine J.icmp_eq dX7_decode_86 (by decide) (tgt := 93) (by unfold inI; omega) (by unfold inI; omega) (fun g3 => ?_) (fun g3 => ?_)
                  · refine J.iconst dX7_decode_93 ?_
                    refine J.iast g dX7_decode_94 k46 (by omega) rfl (by omega) (by omega) ?_
                    refine J.ild dX7_decode_95 rfl ?_
                    refine J.if_ge dX7_decode_97 (by decide) (tgt := 108) (by unfold inI; omega) (fun g4 => ?_) (fun g4 => ?_)
                    · refine J.ald_n dX7_decode_108 rfl ?_
                      refine gf_X7_38 rfl dX7_decode_109 ((jset_ne _ _ (by omega)).trans h3) ?_
                      refine J.ild_n dX7_decode_112 rfl ?_
                      refine J.iald g dX7_decode_113 (jset_eq _ _ _) rfl (by omega) (by omega) ?_
                      rw [show (jup r g 3) g = 3 from jup_eq _ _ _]
                      refine J.iconst dX7_decode_114 ?_
                      refine J.icmp_ne dX7_decode_115 (by decide) (tgt := 158) (by unfold inI; omega) (by unfold inI; omega) (fun g5 => ?_) (fun g5 => ?_)
                      · exact absurd rfl g5
                      · refine J.ald_n dX7_decode_118 rfl ?_
                        refine J.ild_n dX7_decode_119 rfl ?_
                        refine J.ild dX7_decode_120 rfl ?_
                        refine J.callV (rm' := rX7_meant) [vI ((b : Nat) : Int), vI ((c : Nat) : Int)] dX7_decode_122 (c_X7_meant ((jset_ne _ _ (by omega)).trans h3) ((jset_ne _ _ (by omega)).trans ((h2 _ (by omega) (by omega) (by omega)).trans h41)) hb hbn ((jset_ne _ _ (by omega)).trans ((h2 _ (by omega) (by omega) (by omega)).trans h42)) hc9 hcd hc hno) ((jset_ne _ _ (by omega)).trans h3) rfl st_X7_meant ml_X7_137 im_X7_meant se_X7_meant rfl (Nat.le_of_ble_eq_true rfl) (by decide) (by decide) (Nat.le_of_ble_eq_true rfl) (by decide) (by decide) (Or.inl rfl) (fun E9 σ9 hq9 _ => nomatch hq9.1) (fun r9 σ9 hq9 hle9 => ?_)
                        obtain ⟨h9, h8⟩ := hq9
                        rw [h8]
                        clear hle9 h8 σ9
                        cases h9
                        rcases olU_rng (cd := cd b) (c := c) (n := bn b) (bn b) 0 (-1) (by omega) (Or.inl rfl) with ho | ⟨k, ho, hk⟩
                        · rw [ho]
                          refine J.ist dX7_decode_125 (by decide) (jnc_of rfl rfl) ?_
                          refine J.ald_n dX7_decode_127 rfl ?_
                          refine gf_X7_38 rfl dX7_decode_128 ((jset_ne _ _ (by omega)).trans h3) ?_
                          refine J.ild_n dX7_decode_131 rfl ?_
                          refine J.ild dX7_decode_132 rfl ?_
                          refine J.iconst dX7_decode_134 ?_
                          refine J.icmp_ne dX7_decode_135 (by decide) (tgt := 142) (by unfold inI; omega) (by unfold inI; omega) (fun g6 => ?_) (fun g6 => ?_)
                          · exact absurd rfl g6
                          · refine J.iconst dX7_decode_138 ?_
                            refine J.goto dX7_decode_139 (by decide) (tgt := 143) ?_
                            refine J.iast g dX7_decode_143 (jset_eq _ _ _) (by omega) rfl (by omega) (by omega) ?_
                            refine J.ild_n dX7_decode_144 rfl ?_
                            refine J.ild dX7_decode_145 rfl ?_
                            refine J.iconst dX7_decode_147 ?_
                            refine J.icmp_ne dX7_decode_148 (by decide) (tgt := 155) (by unfold inI; omega) (by unfold inI; omega) (fun g7 => ?_) (fun g7 => ?_)
                            · exact absurd rfl g7
                            · refine J.iconst dX7_decode_151 ?_
                              refine J.goto dX7_decode_152 (by decide) (tgt := 156) ?_
                              refine J.iadd dX7_decode_156 ?_
                              refine J.ist_n dX7_decode_157 (by decide) (jnc_of rfl rfl) ?_
                              refine J.bipush dX7_decode_158 (by decide) ?_
                              refine J.ild_n dX7_decode_160 rfl ?_
                              refine J.imul dX7_decode_161 ?_
                              rw [show (40 : Int) * ((b : Nat) : Int) = ((40 * b : Nat) : Int) from by push_cast; rfl]
                              refine J.ild dX7_decode_162 rfl ?_
                              refine J.iadd dX7_decode_164 ?_
                              refine J.ist dX7_decode_165 (by decide) (jnc_of rfl rfl) ?_
                              refine J.ild dX7_decode_167 rfl ?_
                              refine J.iconst dX7_decode_169 ?_
                              refine J.icmp_eq dX7_decode_170 (by decide) (tgt := 211) (by unfold inI; omega) (by unfold inI; omega) (fun g8 => ?_) (fun g8 => ?_)
                              · refine J.iinc (v := ((g + 1 : Nat) : Int)) dX7_decode_211 rfl (by first | rfl | omega) (by decide) (jnc_of rfl rfl) ?_
                                refine J.goto dX7_decode_214 (by decide) (tgt := 35) ?_
                                have hRR : rdR (bn b) (cd b) (mg g) = 3 := by rw [hcg]; unfold rdR; rw [if_neg (by omega), Int.toNat_natCast, if_pos hf, if_pos ho]
                                have hNN : rdN (bn b) (cd b) (sz b) (mg g) l = l := by unfold rdN; rw [if_neg (by omega), hRR, if_pos rfl]
                                have hFF : rdF (bn b) (cd b) (sz b) (ph b) (mg g) l w = w := by unfold rdF; rw [if_neg (by omega), hRR, if_pos rfl]
                                rw [show dcU (bn b) (cd b) (sz b) (ph b) mg (t + 1) g l w r x = dcU (bn b) (cd b) (sz b) (ph b) mg t (g + 1) l w (jup r g 3) (x + 1) from by show dcU (bn b) (cd b) (sz b) (ph b) mg t (g + 1) (rdN (bn b) (cd b) (sz b) (mg g) l) (rdF (bn b) (cd b) (sz b) (ph b) (mg g) l w) (jup r g (rdR (bn b) (cd b) (mg g))) (if rdR (bn b) (cd b) (mg g) = 3 then x + 1 else x) = _; rw [hRR, hNN, hFF]; rfl]
                                exact ih (g + 1) l _ f w _ (x + 1) _ _ _ _ (by omega) hl hfw hfi rfl rfl rfl (by first | rfl | assumption) h1 (fun j q1 q2 q3 => by rw [jset_ne _ _ q3, jset_ne _ _ q3]; exact h2 j q1 q2 q3) ((jset_ne _ _ (by omega)).trans ((jset_ne _ _ (by omega)).trans h3)) ((jset_ne _ _ (by omega)).trans ((jset_ne _ _ (by omega)).trans k38)) ((jset_eq _ _ _).trans (by rw [jup_jup]))
                              · exact absurd rfl g8
                        · rw [ho]
                          refine J.ist dX7_decode_125 (by decide) (jnc_of rfl rfl) ?_
                          refine J.ald_n dX7_decode_127 rfl ?_
                          refine gf_X7_38 rfl dX7_decode_128 ((jset_ne _ _ (by omega)).trans h3) ?_
                          refine J.ild_n dX7_decode_131 rfl ?_
                          refine J.ild dX7_decode_132 rfl ?_
                          refine J.iconst dX7_decode_134 ?_
                          refine J.icmp_ne dX7_decode_135 (by decide) (tgt := 142) (by unfold inI; omega) (by unfold inI; omega) (fun g6 => ?_) (fun g6 => ?_)
                          · refine J.iconst dX7_decode_142 ?_
                            refine J.iast g dX7_decode_143 (jset_eq _ _ _) (by omega) rfl (by omega) (by omega) ?_
                            refine J.ild_n dX7_decode_144 rfl ?_
                            refine J.ild dX7_decode_145 rfl ?_
                            refine J.iconst dX7_decode_147 ?_
                            refine J.icmp_ne dX7_decode_148 (by decide) (tgt := 155) (by unfold inI; omega) (by unfold inI; omega) (fun g7 => ?_) (fun g7 => ?_)
                            · refine J.iconst dX7_decode_155 ?_
                              refine J.iadd dX7_decode_156 ?_
                              rw [show x + 0 = x from Int.add_zero x]
                              refine J.ist_n dX7_decode_157 (by decide) (jnc_of rfl rfl) ?_
                              refine J.bipush dX7_decode_158 (by decide) ?_
                              refine J.ild_n dX7_decode_160 rfl ?_
                              refine J.imul dX7_decode_161 ?_
                              rw [show (40 : Int) * ((b : Nat) : Int) = ((40 * b : Nat) : Int) from by push_cast; rfl]
                              refine J.ild dX7_decode_162 rfl ?_
                              refine J.iadd dX7_decode_164 ?_
                              rw [show (((40 * b : Nat) : Int) : Int) + ((k : Nat) : Int) = (((40 * b) + k : Nat) : Int) from by push_cast; rfl]
                              refine J.ist dX7_decode_165 (by decide) (jnc_of rfl rfl) ?_
                              refine J.ild dX7_decode_167 rfl ?_
                              refine J.iconst dX7_decode_169 ?_
                              refine J.icmp_eq dX7_decode_170 (by decide) (tgt := 211) (by unfold inI; omega) (by unfold inI; omega) (fun g8 => ?_) (fun g8 => ?_)
                              · omega
                              · have hRR : rdR (bn b) (cd b) (mg g) = 2 := by rw [hcg]; unfold rdR; rw [if_neg (by omega), Int.toNat_natCast, if_pos hf, if_neg (by omega)]
                                have hEE : rdE (bn b) (cd b) (mg g) = k := by rw [hcg]; unfold rdE; rw [Int.toNat_natCast, if_pos hf, ho]; rfl
                                refine J.iconst dX7_decode_173 ?_
                                refine J.ist dX7_decode_174 (by decide) (jnc_of rfl rfl) ?_
                                have hszk := hsz k hk
                                have hNN : rdN (bn b) (cd b) (sz b) (mg g) l = alN (sz b k) l := by unfold rdN; rw [if_neg (by omega), hRR, if_neg (by omega), hEE]
                                have hFF : rdF (bn b) (cd b) (sz b) (ph b) (mg g) l w = alF (ph b) (sz b k) (k * 6) l w := by unfold rdF; rw [if_neg (by omega), hRR, if_neg (by omega), hEE]
                                have L2 : ∀ (t2 i l2 : Nat) (σ2 : jS) (f2 : Nat → Int), i + t2 = sz b k → l2 ≤ 40 → alN t2 l2 = alN (sz b k) l → alF (ph b) t2 (k * 6 + i) l2 f2 = alF (ph b) (sz b k) (k * 6) l f → σ2.1 = σ.1 → (∀ j, j ≠ 37 → j ≠ 38 → j ≠ 46 → σ2.2 j = σ.2 j) → MO σ2 0 pr ((l2 : Nat) : Int) ((kn : Nat) : Int) ((mn : Nat) : Int) ((mn : Nat) : Int) pa ps → σ2.2 38 = jI 40 f2 → σ2.2 46 = jI 40 (jup r g 2) → J X mX7_decode rX7_decode 176 [.ref 37, vI ((b : Nat) : Int), vI x, vI ((g : Nat) : Int), vI ((c : Nat) : Int), vI ((k : Nat) : Int), vI ((40 * b + k : Nat) : Int), vI ((i : Nat) : Int)] [] 0 0 σ2 (MP 0 (dcU (bn b) (cd b) (sz b) (ph b) mg t (g + 1) (alN (sz b k) l) (alF (ph b) (sz b k) (k * 6) l w) (jup r g 2) x).2.2.2 σ (fun σ9 => MW σ9 0 pr ((dcU (bn b) (cd b) (sz b) (ph b) mg t (g + 1) (alN (sz b k) l) (alF (ph b) (sz b k) (k * 6) l w) (jup r g 2) x).1) ((dcU (bn b) (cd b) (sz b) (ph b) mg t (g + 1) (alN (sz b k) l) (alF (ph b) (sz b k) (k * 6) l w) (jup r g 2) x).2.1) bn cd sz ph mn mg kn kr ks kt mn ((dcU (bn b) (cd b) (sz b) (ph b) mg t (g + 1) (alN (sz b k) l) (alF (ph b) (sz b k) (k * 6) l w) (jup r g 2) x).2.2.1))) := by
                                  intro t2
                                  induction t2 with
                                  | zero =>
                                    intro i l2 σ2 f2 hi hl2 a1 a2 m1 m2 m3 m38 m46
                                    refine J.ild dX7_decode_176 rfl ?_
                                    refine J.ald_n dX7_decode_178 rfl ?_
                                    refine gf_X7_29 rfl dX7_decode_179 m3 ?_
                                    refine J.ild dX7_decode_182 rfl ?_
                                    refine J.iald (40 * b + k) dX7_decode_184 ((m2 _ (by omega) (by omega) (by omega)).trans h43) rfl (by omega) (by omega) ?_
                                    rw [show Ms (40 * b + k) = ((sz b k : Nat) : Int) from by rw [hs9 k (by omega)]]
                                    refine J.icmp_ge dX7_decode_185 (by decide) (tgt := 211) (by unfold inI; omega) (by unfold inI; omega) (fun g8 => ?_) (fun g8 => ?_)
                                    · refine J.iinc (v := ((g + 1 : Nat) : Int)) dX7_decode_211 rfl (by first | rfl | omega) (by decide) (jnc_of rfl rfl) ?_
                                      refine J.goto dX7_decode_214 (by decide) (tgt := 35) ?_
                                      have b1 : l2 = alN (sz b k) l := a1
                                      have b2 : f2 = alF (ph b) (sz b k) (k * 6) l f := a2
                                      subst b1
                                      subst b2
                                      exact ih (g + 1) _ σ2 _ (alF (ph b) (sz b k) (k * 6) l w) _ _ _ _ _ _ (by omega) hl2 (fun t ht => alF_congr _ _ _ _ _ hfw t ht) (fun t ht => alF_in40 _ _ _ _ (fun i _ => inI_w (hph _)) hfi t ht) rfl rfl rfl rfl m1 m2 m3 m38 m46
                                    · omega
                                  | succ t2 ih2 =>
                                    intro i l2 σ2 f2 hi hl2 a1 a2 m1 m2 m3 m38 m46
                                    refine J.ild dX7_decode_176 rfl ?_
                                    refine J.ald_n dX7_decode_178 rfl ?_
                                    refine gf_X7_29 rfl dX7_decode_179 m3 ?_
                                    refine J.ild dX7_decode_182 rfl ?_
                                    refine J.iald (40 * b + k) dX7_decode_184 ((m2 _ (by omega) (by omega) (by omega)).trans h43) rfl (by omega) (by omega) ?_
                                    rw [show Ms (40 * b + k) = ((sz b k : Nat) : Int) from by rw [hs9 k (by omega)]]
                                    refine J.icmp_ge dX7_decode_185 (by decide) (tgt := 211) (by unfold inI; omega) (by unfold inI; omega) (fun g8 => ?_) (fun g8 => ?_)
                                    · omega
                                    · refine J.ald_n dX7_decode_188 rfl ?_
                                      refine J.ald_n dX7_decode_189 rfl ?_
                                      refine gf_X7_32 rfl dX7_decode_190 m3 ?_
                                      refine J.bipush dX7_decode_193 (by decide) ?_
                                      refine J.ild dX7_decode_195 rfl ?_
                                      refine J.imul dX7_decode_197 ?_
                                      rw [show (6 : Int) * ((40 * b + k : Nat) : Int) = ((6 * (40 * b + k) : Nat) : Int) from by push_cast; rfl]
                                      refine J.ild dX7_decode_198 rfl ?_
                                      refine J.iadd dX7_decode_200 ?_
                                      rw [show (((6 * (40 * b + k) : Nat) : Int) : Int) + ((i : Nat) : Int) = (((6 * (40 * b + k)) + i : Nat) : Int) from by push_cast; rfl]
                                      refine J.iald (240 * b + (k * 6 + i)) dX7_decode_201 ((m2 _ (by omega) (by omega) (by omega)).trans h44) (by omega) (by omega) (by omega) ?_
                                      rw [show Mp (240 * b + (k * 6 + i)) = (ph b (k * 6 + i)) from hp9 (k * 6 + i) (by omega)]
                                      refine J.callV (rm' := rX7_write) [vI (ph b (k * 6 + i))] dX7_decode_202 (c_X7_write m3 m38 hl2) m3 rfl st_X7_write ml_X7_133 im_X7_write se_X7_write rfl (Nat.le_of_ble_eq_true rfl) (by decide) (by decide) (Nat.le_of_ble_eq_true rfl) (by decide) (by decide) (Or.inl rfl) (fun E9 σ9 hq9 _ => nomatch hq9.1) (fun r9 σ3 hq9 hle9 => ?_)
                                      obtain ⟨h9, w37, w38, hn3, hj3⟩ := hq9
                                      cases h9
                                      clear hle9
                                      refine J.iinc (v := ((i + 1 : Nat) : Int)) dX7_decode_205 rfl (by first | rfl | omega) (by decide) (jnc_of rfl rfl) ?_
                                      refine J.goto dX7_decode_208 (by decide) (tgt := 176) ?_
                                      exact ih2 (i + 1) _ σ3 _ (by omega) (apN_le hl2) a1 a2 (hn3.trans m1) (fun j q1 q2 q3 => (hj3 j q1 q2).trans (m2 j q1 q2 q3)) w37 w38 ((hj3 _ (by omega) (by omega)).trans m46)
                                rw [show dcU (bn b) (cd b) (sz b) (ph b) mg (t + 1) g l w r x = dcU (bn b) (cd b) (sz b) (ph b) mg t (g + 1) (alN (sz b k) l) (alF (ph b) (sz b k) (k * 6) l w) (jup r g 2) x from by show dcU (bn b) (cd b) (sz b) (ph b) mg t (g + 1) (rdN (bn b) (cd b) (sz b) (mg g) l) (rdF (bn b) (cd b) (sz b) (ph b) (mg g) l w) (jup r g (rdR (bn b) (cd b) (mg g))) (if rdR (bn b) (cd b) (mg g) = 3 then x + 1 else x) = _; rw [hRR, hNN, hFF]; rfl]
                                exact L2 (sz b k) 0 l _ f (by omega) hl rfl rfl h1 (fun j q1 q2 q3 => by rw [jset_ne _ _ q3, jset_ne _ _ q3]; exact h2 j q1 q2 q3) ((jset_ne _ _ (by omega)).trans ((jset_ne _ _ (by omega)).trans h3)) ((jset_ne _ _ (by omega)).trans ((jset_ne _ _ (by omega)).trans k38)) (by rw [← jup_jup r g 3 2]; exact (jset_eq _ _ _))
                            · omega
                          · omega
                    · omega
                  · exact absurd rfl g3
                · omega
              · rw [hf]
                refine J.ist dX7_decode_67 (by decide) (jnc_of rfl rfl) ?_
                refine J.ald_n dX7_decode_69 rfl ?_
                refine gf_X7_38 rfl dX7_decode_70 h3 ?_
                refine J.ild_n dX7_decode_73 rfl ?_
                refine J.ild dX7_decode_74 rfl ?_
                refine J.if_ge dX7_decode_76 (by decide) (tgt := 83) (by unfold inI; omega) (fun g2 => ?_) (fun g2 => ?_)
                · refine J.ild dX7_decode_83 rfl ?_
                  refine J.iconst dX7_decode_85 ?_
                  refine J.icmp_eq dX7_decode_86 (by decide) (tgt := 93) (by unfold inI; omega) (by unfold inI; omega) (fun g3 => ?_) (fun g3 => ?_)
                  · omega
                  · refine J.iconst dX7_decode_89 ?_
                    refine J.goto dX7_decode_90 (by decide) (tgt := 94) ?_
                    refine J.iast g dX7_decode_94 k46 (by omega) rfl (by omega) (by omega) ?_
                    refine J.ild dX7_decode_95 rfl ?_
                    refine J.if_ge dX7_decode_97 (by decide) (tgt := 108) (by unfold inI; omega) (fun g4 => ?_) (fun g4 => ?_)
                    · refine J.ald_n dX7_decode_108 rfl ?_
                      refine gf_X7_38 rfl dX7_decode_109 ((jset_ne _ _ (by omega)).trans h3) ?_
                      refine J.ild_n dX7_decode_112 rfl ?_
                      refine J.iald g dX7_decode_113 (jset_eq _ _ _) rfl (by omega) (by omega) ?_
                      rw [show (jup r g 1) g = 1 from jup_eq _ _ _]
                      refine J.iconst dX7_decode_114 ?_
                      refine J.icmp_ne dX7_decode_115 (by decide) (tgt := 158) (by unfold inI; omega) (by unfold inI; omega) (fun g5 => ?_) (fun g5 => ?_)
                      · refine J.bipush dX7_decode_158 (by decide) ?_
                        refine J.ild_n dX7_decode_160 rfl ?_
                        refine J.imul dX7_decode_161 ?_
                        rw [show (40 : Int) * ((b : Nat) : Int) = ((40 * b : Nat) : Int) from by push_cast; rfl]
                        refine J.ild dX7_decode_162 rfl ?_
                        refine J.iadd dX7_decode_164 ?_
                        rw [show (((40 * b : Nat) : Int) : Int) + ((k : Nat) : Int) = (((40 * b) + k : Nat) : Int) from by push_cast; rfl]
                        refine J.ist dX7_decode_165 (by decide) (jnc_of rfl rfl) ?_
                        refine J.ild dX7_decode_167 rfl ?_
                        refine J.iconst dX7_decode_169 ?_
                        refine J.icmp_eq dX7_decode_170 (by decide) (tgt := 211) (by unfold inI; omega) (by unfold inI; omega) (fun g8 => ?_) (fun g8 => ?_)
                        · omega
                        · have hRR : rdR (bn b) (cd b) (mg g) = 1 := by rw [hcg]; unfold rdR; rw [if_neg (by omega), Int.toNat_natCast, if_neg (by omega)]
                          have hEE : rdE (bn b) (cd b) (mg g) = k := by rw [hcg]; unfold rdE; rw [Int.toNat_natCast, if_neg (by omega), hf]; rfl
                          refine J.iconst dX7_decode_173 ?_
                          refine J.ist dX7_decode_174 (by decide) (jnc_of rfl rfl) ?_
                          have hszk := hsz k hk
                          have hNN : rdN (bn b) (cd b) (sz b) (mg g) l = alN (sz b k) l := by unfold rdN; rw [if_neg (by omega), hRR, if_neg (by omega), hEE]
                          have hFF : rdF (bn b) (cd b) (sz b) (ph b) (mg g) l w = alF (ph b) (sz b k) (k * 6) l w := by unfold rdF; rw [if_neg (by omega), hRR, if_neg (by omega), hEE]
                          have L2 : ∀ (t2 i l2 : Nat) (σ2 : jS) (f2 : Nat → Int), i + t2 = sz b k → l2 ≤ 40 → alN t2 l2 = alN (sz b k) l → alF (ph b) t2 (k * 6 + i) l2 f2 = alF (ph b) (sz b k) (k * 6) l f → σ2.1 = σ.1 → (∀ j, j ≠ 37 → j ≠ 38 → j ≠ 46 → σ2.2 j = σ.2 j) → MO σ2 0 pr ((l2 : Nat) : Int) ((kn : Nat) : Int) ((mn : Nat) : Int) ((mn : Nat) : Int) pa ps → σ2.2 38 = jI 40 f2 → σ2.2 46 = jI 40 (jup r g 1) → J X mX7_decode rX7_decode 176 [.ref 37, vI ((b : Nat) : Int), vI x, vI ((g : Nat) : Int), vI ((c : Nat) : Int), vI ((k : Nat) : Int), vI ((40 * b + k : Nat) : Int), vI ((i : Nat) : Int)] [] 0 0 σ2 (MP 0 (dcU (bn b) (cd b) (sz b) (ph b) mg t (g + 1) (alN (sz b k) l) (alF (ph b) (sz b k) (k * 6) l w) (jup r g 1) x).2.2.2 σ (fun σ9 => MW σ9 0 pr ((dcU (bn b) (cd b) (sz b) (ph b) mg t (g + 1) (alN (sz b k) l) (alF (ph b) (sz b k) (k * 6) l w) (jup r g 1) x).1) ((dcU (bn b) (cd b) (sz b) (ph b) mg t (g + 1) (alN (sz b k) l) (alF (ph b) (sz b k) (k * 6) l w) (jup r g 1) x).2.1) bn cd sz ph mn mg kn kr ks kt mn ((dcU (bn b) (cd b) (sz b) (ph b) mg t (g + 1) (alN (sz b k) l) (alF (ph b) (sz b k) (k * 6) l w) (jup r g 1) x).2.2.1))) := by
                            intro t2
                            induction t2 with
                            | zero =>
                              intro i l2 σ2 f2 hi hl2 a1 a2 m1 m2 m3 m38 m46
                              refine J.ild dX7_decode_176 rfl ?_
                              refine J.ald_n dX7_decode_178 rfl ?_
                              refine gf_X7_29 rfl dX7_decode_179 m3 ?_
                              refine J.ild dX7_decode_182 rfl ?_
                              refine J.iald (40 * b + k) dX7_decode_184 ((m2 _ (by omega) (by omega) (by omega)).trans h43) rfl (by omega) (by omega) ?_
                              rw [show Ms (40 * b + k) = ((sz b k : Nat) : Int) from by rw [hs9 k (by omega)]]
                              refine J.icmp_ge dX7_decode_185 (by decide) (tgt := 211) (by unfold inI; omega) (by unfold inI; omega) (fun g8 => ?_) (fun g8 => ?_)
                              · refine J.iinc (v := ((g + 1 : Nat) : Int)) dX7_decode_211 rfl (by first | rfl | omega) (by decide) (jnc_of rfl rfl) ?_
                                refine J.goto dX7_decode_214 (by decide) (tgt := 35) ?_
                                have b1 : l2 = alN (sz b k) l := a1
                                have b2 : f2 = alF (ph b) (sz b k) (k * 6) l f := a2
                                subst b1
                                subst b2
                                exact ih (g + 1) _ σ2 _ (alF (ph b) (sz b k) (k * 6) l w) _ _ _ _ _ _ (by omega) hl2 (fun t ht => alF_congr _ _ _ _ _ hfw t ht) (fun t ht => alF_in40 _ _ _ _ (fun i _ => inI_w (hph _)) hfi t ht) rfl rfl rfl rfl m1 m2 m3 m38 m46
                              · omega
                            | succ t2 ih2 =>
                              intro i l2 σ2 f2 hi hl2 a1 a2 m1 m2 m3 m38 m46
                              refine J.ild dX7_decode_176 rfl ?_
                              refine J.ald_n dX7_decode_178 rfl ?_
                              refine gf_X7_29 rfl dX7_decode_179 m3 ?_
                              refine J.ild dX7_decode_182 rfl ?_
                              refine J.iald (40 * b + k) dX7_decode_184 ((m2 _ (by omega) (by omega) (by omega)).trans h43) rfl (by omega) (by omega) ?_
                              rw [show Ms (40 * b + k) = ((sz b k : Nat) : Int) from by rw [hs9 k (by omega)]]
                              refine J.icmp_ge dX7_decode_185 (by decide) (tgt := 211) (by unfold inI; omega) (by unfold inI; omega) (fun g8 => ?_) (fun g8 => ?_)
                              · omega
                              · refine J.ald_n dX7_decode_188 rfl ?_
                                refine J.ald_n dX7_decode_189 rfl ?_
                                refine gf_X7_32 rfl dX7_decode_190 m3 ?_
                                refine J.bipush dX7_decode_193 (by decide) ?_
                                refine J.ild dX7_decode_195 rfl ?_
                                refine J.imul dX7_decode_197 ?_
                                rw [show (6 : Int) * ((40 * b + k : Nat) : Int) = ((6 * (40 * b + k) : Nat) : Int) from by push_cast; rfl]
                                refine J.ild dX7_decode_198 rfl ?_
                                refine J.iadd dX7_decode_200 ?_
                                rw [show (((6 * (40 * b + k) : Nat) : Int) : Int) + ((i : Nat) : Int) = (((6 * (40 * b + k)) + i : Nat) : Int) from by push_cast; rfl]
                                refine J.iald (240 * b + (k * 6 + i)) dX7_decode_201 ((m2 _ (by omega) (by omega) (by omega)).trans h44) (by omega) (by omega) (by omega) ?_
                                rw [show Mp (240 * b + (k * 6 + i)) = (ph b (k * 6 + i)) from hp9 (k * 6 + i) (by omega)]
                                refine J.callV (rm' := rX7_write) [vI (ph b (k * 6 + i))] dX7_decode_202 (c_X7_write m3 m38 hl2) m3 rfl st_X7_write ml_X7_133 im_X7_write se_X7_write rfl (Nat.le_of_ble_eq_true rfl) (by decide) (by decide) (Nat.le_of_ble_eq_true rfl) (by decide) (by decide) (Or.inl rfl) (fun E9 σ9 hq9 _ => nomatch hq9.1) (fun r9 σ3 hq9 hle9 => ?_)
                                obtain ⟨h9, w37, w38, hn3, hj3⟩ := hq9
                                cases h9
                                clear hle9
                                refine J.iinc (v := ((i + 1 : Nat) : Int)) dX7_decode_205 rfl (by first | rfl | omega) (by decide) (jnc_of rfl rfl) ?_
                                refine J.goto dX7_decode_208 (by decide) (tgt := 176) ?_
                                exact ih2 (i + 1) _ σ3 _ (by omega) (apN_le hl2) a1 a2 (hn3.trans m1) (fun j q1 q2 q3 => (hj3 j q1 q2).trans (m2 j q1 q2 q3)) w37 w38 ((hj3 _ (by omega) (by omega)).trans m46)
                          rw [show dcU (bn b) (cd b) (sz b) (ph b) mg (t + 1) g l w r x = dcU (bn b) (cd b) (sz b) (ph b) mg t (g + 1) (alN (sz b k) l) (alF (ph b) (sz b k) (k * 6) l w) (jup r g 1) x from by show dcU (bn b) (cd b) (sz b) (ph b) mg t (g + 1) (rdN (bn b) (cd b) (sz b) (mg g) l) (rdF (bn b) (cd b) (sz b) (ph b) (mg g) l w) (jup r g (rdR (bn b) (cd b) (mg g))) (if rdR (bn b) (cd b) (mg g) = 3 then x + 1 else x) = _; rw [hRR, hNN, hFF]; rfl]
                          exact L2 (sz b k) 0 l _ f (by omega) hl rfl rfl h1 (fun j q1 q2 q3 => by rw [jset_ne _ _ q3]; exact h2 j q1 q2 q3) ((jset_ne _ _ (by omega)).trans h3) ((jset_ne _ _ (by omega)).trans k38) (jset_eq _ _ _)
                      · omega
                    · omega
                · omega
            · omega
    exact L mn 0 0 (jset (jset (jset σ 37 (jO 6 [vI 0, vI pr, .ref 38, vI ((ln : Nat) : Int), vI ((kn : Nat) : Int), .ref 39, .ref 40, .ref 41, .ref 42, .ref 43, .ref 44, vI ((mn : Nat) : Int), .ref 45, vI ((rd : Nat) : Int), .ref 46, .ref 47, .ref 48, vI pa, vI ps])) 37 (jO 6 [vI 0, vI pr, .ref 38, vI 0, vI ((kn : Nat) : Int), .ref 39, .ref 40, .ref 41, .ref 42, .ref 43, .ref 44, vI ((mn : Nat) : Int), .ref 45, vI ((rd : Nat) : Int), .ref 46, .ref 47, .ref 48, vI pa, vI ps])) 37 (jO 6 [vI 0, vI pr, .ref 38, vI 0, vI ((kn : Nat) : Int), .ref 39, .ref 40, .ref 41, .ref 42, .ref 43, .ref 44, vI ((mn : Nat) : Int), .ref 45, vI ((mn : Nat) : Int), .ref 46, .ref 47, .ref 48, vI pa, vI ps])) ml lw rg 0 .null .null .null .null (by omega) (by omega) (fun t ht => absurd ht (by omega)) hmi rfl rfl rfl rfl rfl (fun j q1 q2 q3 => by rw [jset_ne _ _ q1, jset_ne _ _ q1, jset_ne _ _ q1]) (jset_eq _ _ _) ((jset_ne _ _ (by omega)).trans ((jset_ne _ _ (by omega)).trans ((jset_ne _ _ (by omega)).trans h38))) ((jset_ne _ _ (by omega)).trans ((jset_ne _ _ (by omega)).trans ((jset_ne _ _ (by omega)).trans h46)))
  · first | exact absurd hb9 (by decide) | exact absurd rfl hb9
