theorem addC {b n c : Nat} {M : Nat → Nat} {cd : Nat → Nat → Nat} (h : ∀ b e, b < 3 → e < 40 → M (40 * b + e) = cd b e) (hn : n < 40) (b' e : Nat) (hb' : b' < 3) (he : e < 40) : jup M (40 * b + n) c (40 * b' + e) = jup cd b (jup (cd b) n c) b' e := by
  by_cases q : b' = b
  · subst q
    rw [jup_eq]
    by_cases r : e = n
    · subst r; rw [jup_eq, jup_eq]
    · rw [jup_ne _ _ r, jup_ne _ _ (by omega)]; exact h _ _ hb' he
  · rw [jup_ne _ _ q, jup_ne _ _ (by omega)]; exact h _ _ hb' he
theorem addP {b n m at_ s : Nat} {M g w : Nat → Int} {ph : Nat → Nat → Int} (h : ∀ b t, b < 3 → t < 240 → M (240 * b + t) = ph b t) (hn : n < 40) (hm : m ≤ 6) (hw : ∀ i, i < m → g (at_ + i) = w (s + i)) (b' t : Nat) (hb' : b' < 3) (ht : t < 240) : jcp g M at_ (6 * (40 * b + n)) m (240 * b' + t) = jup ph b (jcp w (ph b) s (n * 6) m) b' t := by
  by_cases q : b' = b
  · subst q
    rw [jup_eq]
    unfold jcp
    by_cases r : n * 6 ≤ t ∧ t < n * 6 + m
    · rw [if_pos (by omega), if_pos r, show at_ + (240 * b' + t - 6 * (40 * b' + n)) = at_ + (t - n * 6) by omega]; exact hw _ (by omega)
    · rw [if_neg (by omega), if_neg r]; exact h _ _ hb' ht
  · rw [jup_ne _ _ q]
    unfold jcp
    rw [if_neg (by omega)]; exact h _ _ hb' ht
set_option maxRecDepth 20000 in
theorem c_X7_add {X : jX} {σ : jS} {th pr ln kn mn rd pa ps : Int} {bn Mc Ms : Nat → Nat} {Mp g : Nat → Int} {b c q N s m : Nat} (hO : MO σ th pr ln kn mn rd pa ps) (h41 : σ.2 41 = jI 3 (fun e => ((bn e : Nat) : Int))) (h42 : σ.2 42 = jI 120 (fun e => ((Mc e : Nat) : Int))) (h43 : σ.2 43 = jI 120 (fun e => ((Ms e : Nat) : Int))) (h44 : σ.2 44 = jI 720 Mp) (hb : b < 3) (hn : bn b < 40) (e2 : σ.2 q = jI N g) (hq : 5 ≤ q ∧ q < 41) (hN : N ≤ 100000) (hsm : s + m ≤ N) (hm : m ≤ 6) : JM X mX7_add rX7_add [.ref 37, vI ((b : Nat) : Int), vI ((c : Nat) : Int), .ref q, vI ((s : Nat) : Int), vI ((m : Nat) : Int)] σ (fun o σ1 => o = oV ∧ σ1.2 41 = jI 3 (fun e => ((jup bn b (bn b + 1) e : Nat) : Int)) ∧ σ1.2 42 = jI 120 (fun e => ((jup Mc (40 * b + bn b) c e : Nat) : Int)) ∧ σ1.2 43 = jI 120 (fun e => ((jup Ms (40 * b + bn b) m e : Nat) : Int)) ∧ σ1.2 44 = jI 720 (jcp g Mp s (6 * (40 * b + bn b)) m) ∧ σ1.1 = σ.1 ∧ ∀ j, (j < 41 ∨ 44 < j) → σ1.2 j = σ.2 j) := by
  refine JM.of (lc := [.ref 37, vI ((b : Nat) : Int), vI ((c : Nat) : Int), .ref q, vI ((s : Nat) : Int), vI ((m : Nat) : Int), .null]) rfl ?_
  refine J.bipush dX7_add_0 (by decide) ?_
  refine J.ild_n dX7_add_2 rfl ?_
  refine J.imul dX7_add_3 ?_
  rw [show (40 : Int) * ((b : Nat) : Int) = ((40 * b : Nat) : Int) from by push_cast; rfl]
  refine J.ald_n dX7_add_4 rfl ?_
  refine gf_X7_23 rfl dX7_add_5 hO ?_
  refine J.ild_n dX7_add_8 rfl ?_
  refine J.iald b dX7_add_9 h41 rfl (by omega) (by omega) ?_
  refine J.iadd dX7_add_10 ?_
  rw [show (((40 * b : Nat) : Int) : Int) + ((bn b : Nat) : Int) = (((40 * b) + (bn b) : Nat) : Int) from by push_cast; rfl]
  refine J.ist dX7_add_11 (by decide) (jnc_of rfl rfl) ?_
  refine J.ald_n dX7_add_13 rfl ?_
  refine gf_X7_26 rfl dX7_add_14 hO ?_
  refine J.ild dX7_add_17 rfl ?_
  refine J.ild_n dX7_add_19 rfl ?_
  refine J.iast ((40 * b) + (bn b)) dX7_add_20 h42 (by omega) rfl (by omega) (by omega) ?_
  refine J.ald_n dX7_add_21 rfl ?_
  refine gf_X7_29 rfl dX7_add_22 ((jset_ne _ _ (by omega)).trans hO) ?_
  refine J.ild dX7_add_25 rfl ?_
  refine J.ild dX7_add_27 rfl ?_
  refine J.iast ((40 * b) + (bn b)) dX7_add_29 ((jset_ne _ _ (by omega)).trans h43) (by omega) rfl (by omega) (by omega) ?_
  refine J.ald_n dX7_add_30 rfl ?_
  refine J.ild dX7_add_31 rfl ?_
  refine J.ald_n dX7_add_33 rfl ?_
  refine gf_X7_32 rfl dX7_add_34 ((jset_ne _ _ (by omega)).trans ((jset_ne _ _ (by omega)).trans hO)) ?_
  refine J.bipush dX7_add_37 (by decide) ?_
  refine J.ild dX7_add_39 rfl ?_
  refine J.imul dX7_add_41 ?_
  rw [show (6 : Int) * (((40 * b) + (bn b) : Nat) : Int) = ((6 * ((40 * b) + (bn b)) : Nat) : Int) from by push_cast; rfl]
  refine J.ild dX7_add_42 rfl ?_
  refine J.acopy s (6 * ((40 * b) + (bn b))) m dX7_add_44 ml_X7_69 na_acopy sm_acopy ini_java_lang_System ((jset_ne _ _ (by omega)).trans ((jset_ne _ _ (by omega)).trans e2)) ((jset_ne _ _ (by omega)).trans ((jset_ne _ _ (by omega)).trans h44)) (by omega) (by omega) rfl rfl rfl (by omega) (by omega) (by omega) (by omega) (by decide) (Nat.le_of_ble_eq_true rfl) ?_
  refine J.ald_n dX7_add_47 rfl ?_
  refine gf_X7_23 rfl dX7_add_48 ((jset_ne _ _ (by omega)).trans ((jset_ne _ _ (by omega)).trans ((jset_ne _ _ (by omega)).trans hO))) ?_
  refine J.ild_n dX7_add_51 rfl ?_
  refine J.dup2 dX7_add_52 rfl rfl ?_
  refine J.iald b dX7_add_53 ((jset_ne _ _ (by omega)).trans ((jset_ne _ _ (by omega)).trans ((jset_ne _ _ (by omega)).trans h41))) rfl (by omega) (by omega) ?_
  refine J.iconst dX7_add_54 ?_
  refine J.iadd dX7_add_55 ?_
  rw [show (((bn b : Nat) : Int) : Int) + 1 = (((bn b) + 1 : Nat) : Int) from by push_cast; rfl]
  refine J.iast b dX7_add_56 ((jset_ne _ _ (by omega)).trans ((jset_ne _ _ (by omega)).trans ((jset_ne _ _ (by omega)).trans h41))) (by omega) rfl (by omega) (by omega) ?_
  refine J.vret dX7_add_57 rfl (by decide) (by decide) ?_
  exact ⟨rfl, (by rw [← jup_cast]; exact (jset_eq _ _ _)), (by rw [← jup_cast]; exact ((jset_ne _ _ (by omega)).trans ((jset_ne _ _ (by omega)).trans ((jset_ne _ _ (by omega)).trans (jset_eq _ _ _))))), (by rw [← jup_cast]; exact ((jset_ne _ _ (by omega)).trans ((jset_ne _ _ (by omega)).trans (jset_eq _ _ _)))), ((jset_ne _ _ (by omega)).trans (jset_eq _ _ _)), rfl, fun j hj => by rw [jset_ne _ _ (by omega), jset_ne _ _ (by omega), jset_ne _ _ (by omega), jset_ne _ _ (by omega)]⟩
set_option maxRecDepth 20000 in
theorem m_define_1 {X : jX} {σ : jS} {pr : Int} {ln : Nat} {lw : Nat → Int} {bn : Nat → Nat} {cd sz : Nat → Nat → Nat} {ph : Nat → Nat → Int} {mn : Nat} {mg : Nat → Int} {kn : Nat} {kr : Nat → Int} {ks : Nat → Nat} {kt : Nat → Nat → Int} {rd : Nat} {rg : Nat → Int} {th : Int} {a c : Int} (hM : MW σ th pr ln lw bn cd sz ph mn mg kn kr ks kt rd rg) (hI : CI pr ln lw bn cd sz ph mn mg kn kr ks kt rd rg) (hi : inI a) (ha : ¬ (0 ≤ a ∧ a < 3)) : JM X mX7_define rX7_define [.ref 37, vI a, vI c] σ (MP 1 (0) σ (fun σ1 => MW σ1 1 pr ln lw bn cd sz ph mn mg kn kr ks kt rd rg)) := by
  refine JM.of (lc := [.ref 37, vI a, vI c]) rfl ?_
  obtain ⟨hpr, ⟨hln, hlw⟩, hbk, ⟨hmn, hmg⟩, hki, hrd, hrg⟩ := id hI
  obtain ⟨⟨pa, ps, hO⟩, ⟨ml, h38, hml, hmi⟩, h39, ⟨Kw, h40, hw9, hkw⟩, h41, ⟨Mc, h42, hMc⟩, ⟨Ms, h43, hMs⟩, ⟨Mp, h44, hMp⟩, h45, h46, ⟨lf, h47⟩, ⟨pc, h48⟩⟩ := id hM
  have hkn := hki.1
  refine J.ald_n dX7_define_0 rfl ?_
  refine J.iconst dX7_define_1 ?_
  refine pf_X7_47 rfl dX7_define_2 hO ?_
  refine J.ild_n dX7_define_5 rfl ?_
  refine J.callS (rm' := rX7_isBook) [vI a] dX7_define_6 (c_X7_isBook_f hi (by omega)) st_X7_isBook ml_X7_55 sm_X7_isBook rfl (Nat.le_of_ble_eq_true rfl) (by decide) (by decide) (Nat.le_of_ble_eq_true rfl) (by decide) (by decide) (Or.inl rfl) (fun E9 σ9 hq9 _ => nomatch hq9.1) (fun r9 σ9 hq9 hle9 => ?_)
  obtain ⟨h9, h8⟩ := hq9
  rw [h8]
  clear hle9 h8 σ9
  cases h9
  refine J.if_ne dX7_define_9 (by decide) (tgt := 18) (by unfold inI; omega) (fun hb9 => ?_) (fun hb9 => ?_)
  · first | exact absurd hb9 (by decide) | exact absurd rfl hb9 | omega
  · refine J.ald_n dX7_define_12 rfl ?_
    refine J.iconst dX7_define_13 ?_
    refine J.callV (rm' := rX7_no) [vI 1] dX7_define_14 (c_X7_no (jset_eq _ _ _)) (jset_eq _ _ _) rfl st_X7_no ml_X7_59 im_X7_no se_X7_no rfl (Nat.le_of_ble_eq_true rfl) (by decide) (by decide) (Nat.le_of_ble_eq_true rfl) (by decide) (by decide) (Or.inl rfl) (fun E9 σ9 hq9 _ => nomatch hq9.1) (fun r9 σ9 hq9 hle9 => ?_)
    obtain ⟨h9, h8⟩ := hq9
    cases h9
    subst h8
    clear hle9
    refine J.iret .int dX7_define_17 rfl rfl (by decide) (by decide) ?_
    exact ⟨⟨_, rfl, fun q => absurd q (by decide)⟩, ⟨⟨pa, ps, (jset_eq _ _ _)⟩, ⟨ml, ((jset_ne _ _ (by omega)).trans ((jset_ne _ _ (by omega)).trans h38)), hml, hmi⟩, ((jset_ne _ _ (by omega)).trans ((jset_ne _ _ (by omega)).trans h39)), ⟨Kw, ((jset_ne _ _ (by omega)).trans ((jset_ne _ _ (by omega)).trans h40)), hw9, hkw⟩, ((jset_ne _ _ (by omega)).trans ((jset_ne _ _ (by omega)).trans h41)), ⟨Mc, ((jset_ne _ _ (by omega)).trans ((jset_ne _ _ (by omega)).trans h42)), hMc⟩, ⟨Ms, ((jset_ne _ _ (by omega)).trans ((jset_ne _ _ (by omega)).trans h43)), hMs⟩, ⟨Mp, ((jset_ne _ _ (by omega)).trans ((jset_ne _ _ (by omega)).trans h44)), hMp⟩, ((jset_ne _ _ (by omega)).trans ((jset_ne _ _ (by omega)).trans h45)), ((jset_ne _ _ (by omega)).trans ((jset_ne _ _ (by omega)).trans h46)), ⟨_, ((jset_ne _ _ (by omega)).trans ((jset_ne _ _ (by omega)).trans h47))⟩, ⟨_, ((jset_ne _ _ (by omega)).trans ((jset_ne _ _ (by omega)).trans h48))⟩⟩, rfl, fun j hj => ((jset_ne _ _ (by omega)).trans ((jset_ne _ _ (by omega)).trans (rfl : σ.2 j = σ.2 j)))⟩
set_option maxRecDepth 20000 in
theorem m_define_2 {X : jX} {σ : jS} {pr : Int} {ln : Nat} {lw : Nat → Int} {bn : Nat → Nat} {cd sz : Nat → Nat → Nat} {ph : Nat → Nat → Int} {mn : Nat} {mg : Nat → Int} {kn : Nat} {kr : Nat → Int} {ks : Nat → Nat} {kt : Nat → Nat → Int} {rd : Nat} {rg : Nat → Int} {th : Int} {b : Nat} {a : Int} (hM : MW σ th pr ln lw bn cd sz ph mn mg kn kr ks kt rd rg) (hI : CI pr ln lw bn cd sz ph mn mg kn kr ks kt rd rg) (hb : b < 3) (hi : inI a) (ha : ¬ (0 ≤ a ∧ a ≤ 11881375)) : JM X mX7_define rX7_define [.ref 37, vI ((b : Nat) : Int), vI a] σ (MP 2 (0) σ (fun σ1 => MW σ1 2 pr ln lw bn cd sz ph mn mg kn kr ks kt rd rg)) := by
  refine JM.of (lc := [.ref 37, vI ((b : Nat) : Int), vI a]) rfl ?_
  obtain ⟨hpr, ⟨hln, hlw⟩, hbk, ⟨hmn, hmg⟩, hki, hrd, hrg⟩ := id hI
  obtain ⟨⟨pa, ps, hO⟩, ⟨ml, h38, hml, hmi⟩, h39, ⟨Kw, h40, hw9, hkw⟩, h41, ⟨Mc, h42, hMc⟩, ⟨Ms, h43, hMs⟩, ⟨Mp, h44, hMp⟩, h45, h46, ⟨lf, h47⟩, ⟨pc, h48⟩⟩ := id hM
  have hkn := hki.1
  refine J.ald_n dX7_define_0 rfl ?_
  refine J.iconst dX7_define_1 ?_
  refine pf_X7_47 rfl dX7_define_2 hO ?_
  refine J.ild_n dX7_define_5 rfl ?_
  refine J.callS (rm' := rX7_isBook) [vI ((b : Nat) : Int)] dX7_define_6 (c_X7_isBook_t (by unfold inI; omega) (by omega)) st_X7_isBook ml_X7_55 sm_X7_isBook rfl (Nat.le_of_ble_eq_true rfl) (by decide) (by decide) (Nat.le_of_ble_eq_true rfl) (by decide) (by decide) (Or.inl rfl) (fun E9 σ9 hq9 _ => nomatch hq9.1) (fun r9 σ9 hq9 hle9 => ?_)
  obtain ⟨h9, h8⟩ := hq9
  rw [h8]
  clear hle9 h8 σ9
  cases h9
  refine J.if_ne dX7_define_9 (by decide) (tgt := 18) (by unfold inI; omega) (fun hb9 => ?_) (fun hb9 => ?_)
  · refine J.ild_n dX7_define_18 rfl ?_
    refine J.callS (rm' := rX7_isCode) [vI a] dX7_define_19 (c_X7_isCode_f hi (by omega)) st_X7_isCode ml_X7_78 sm_X7_isCode rfl (Nat.le_of_ble_eq_true rfl) (by decide) (by decide) (Nat.le_of_ble_eq_true rfl) (by decide) (by decide) (Or.inl rfl) (fun E9 σ9 hq9 _ => nomatch hq9.1) (fun r9 σ9 hq9 hle9 => ?_)
    obtain ⟨h9, h8⟩ := hq9
    rw [h8]
    clear hle9 h8 σ9
    cases h9
    refine J.if_ne dX7_define_22 (by decide) (tgt := 31) (by unfold inI; omega) (fun hb22 => ?_) (fun hb22 => ?_)
    · first | exact absurd hb22 (by decide) | exact absurd rfl hb22 | omega
    · refine J.ald_n dX7_define_25 rfl ?_
      refine J.iconst dX7_define_26 ?_
      refine J.callV (rm' := rX7_no) [vI 2] dX7_define_27 (c_X7_no (jset_eq _ _ _)) (jset_eq _ _ _) rfl st_X7_no ml_X7_59 im_X7_no se_X7_no rfl (Nat.le_of_ble_eq_true rfl) (by decide) (by decide) (Nat.le_of_ble_eq_true rfl) (by decide) (by decide) (Or.inl rfl) (fun E9 σ9 hq9 _ => nomatch hq9.1) (fun r9 σ9 hq9 hle9 => ?_)
      obtain ⟨h9, h8⟩ := hq9
      cases h9
      subst h8
      clear hle9
      refine J.iret .int dX7_define_30 rfl rfl (by decide) (by decide) ?_
      exact ⟨⟨_, rfl, fun q => absurd q (by decide)⟩, ⟨⟨pa, ps, (jset_eq _ _ _)⟩, ⟨ml, ((jset_ne _ _ (by omega)).trans ((jset_ne _ _ (by omega)).trans h38)), hml, hmi⟩, ((jset_ne _ _ (by omega)).trans ((jset_ne _ _ (by omega)).trans h39)), ⟨Kw, ((jset_ne _ _ (by omega)).trans ((jset_ne _ _ (by omega)).trans h40)), hw9, hkw⟩, ((jset_ne _ _ (by omega)).trans ((jset_ne _ _ (by omega)).trans h41)), ⟨Mc, ((jset_ne _ _ (by omega)).trans ((jset_ne _ _ (by omega)).trans h42)), hMc⟩, ⟨Ms, ((jset_ne _ _ (by omega)).trans ((jset_ne _ _ (by omega)).trans h43)), hMs⟩, ⟨Mp, ((jset_ne _ _ (by omega)).trans ((jset_ne _ _ (by omega)).trans h44)), hMp⟩, ((jset_ne _ _ (by omega)).trans ((jset_ne _ _ (by omega)).trans h45)), ((jset_ne _ _ (by omega)).trans ((jset_ne _ _ (by omega)).trans h46)), ⟨_, ((jset_ne _ _ (by omega)).trans ((jset_ne _ _ (by omega)).trans h47))⟩, ⟨_, ((jset_ne _ _ (by omega)).trans ((jset_ne _ _ (by omega)).trans h48))⟩⟩, rfl, fun j hj => ((jset_ne _ _ (by omega)).trans ((jset_ne _ _ (by omega)).trans (rfl : σ.2 j = σ.2 j)))⟩
  · first | exact absurd hb9 (by decide) | exact absurd rfl hb9 | omega
set_option maxRecDepth 20000 in
theorem m_define_3 {X : jX} {σ : jS} {pr : Int} {ln : Nat} {lw : Nat → Int} {bn : Nat → Nat} {cd sz : Nat → Nat → Nat} {ph : Nat → Nat → Int} {mn : Nat} {mg : Nat → Int} {kn : Nat} {kr : Nat → Int} {ks : Nat → Nat} {kt : Nat → Nat → Int} {rd : Nat} {rg : Nat → Int} {th : Int} {b c : Nat} (hM : MW σ th pr ln lw bn cd sz ph mn mg kn kr ks kt rd rg) (hI : CI pr ln lw bn cd sz ph mn mg kn kr ks kt rd rg) (hb : b < 3) (hc : c ≤ 11881375) (h : ¬ rsn (bn b) (cd b) c = 0) : JM X mX7_define rX7_define [.ref 37, vI ((b : Nat) : Int), vI ((c : Nat) : Int)] σ (MP 3 (0) σ (fun σ1 => MW σ1 3 pr ln lw bn cd sz ph mn mg kn kr ks kt rd rg)) := by
  refine JM.of (lc := [.ref 37, vI ((b : Nat) : Int), vI ((c : Nat) : Int)]) rfl ?_
  obtain ⟨hpr, ⟨hln, hlw⟩, hbk, ⟨hmn, hmg⟩, hki, hrd, hrg⟩ := id hI
  obtain ⟨⟨pa, ps, hO⟩, ⟨ml, h38, hml, hmi⟩, h39, ⟨Kw, h40, hw9, hkw⟩, h41, ⟨Mc, h42, hMc⟩, ⟨Ms, h43, hMs⟩, ⟨Mp, h44, hMp⟩, h45, h46, ⟨lf, h47⟩, ⟨pc, h48⟩⟩ := id hM
  have hkn := hki.1
  have hbn := (hbk b hb).1
  have hcd := (hbk b hb).2.1
  have hsz := (hbk b hb).2.2.1
  have hph := (hbk b hb).2.2.2
  have hc9 := fun e he => hMc b e hb he
  have hs9 := fun e he => hMs b e hb he
  have hp9 := fun t ht => hMp b t hb ht
  have hrl := rsn_le (bn b) (cd b) c
  refine J.ald_n dX7_define_0 rfl ?_
  refine J.iconst dX7_define_1 ?_
  refine pf_X7_47 rfl dX7_define_2 hO ?_
  refine J.ild_n dX7_define_5 rfl ?_
  refine J.callS (rm' := rX7_isBook) [vI ((b : Nat) : Int)] dX7_define_6 (c_X7_isBook_t (by unfold inI; omega) (by omega)) st_X7_isBook ml_X7_55 sm_X7_isBook rfl (Nat.le_of_ble_eq_true rfl) (by decide) (by decide) (Nat.le_of_ble_eq_true rfl) (by decide) (by decide) (Or.inl rfl) (fun E9 σ9 hq9 _ => nomatch hq9.1) (fun r9 σ9 hq9 hle9 => ?_)
  obtain ⟨h9, h8⟩ := hq9
  rw [h8]
  clear hle9 h8 σ9
  cases h9
  refine J.if_ne dX7_define_9 (by decide) (tgt := 18) (by unfold inI; omega) (fun hb9 => ?_) (fun hb9 => ?_)
  · refine J.ild_n dX7_define_18 rfl ?_
    refine J.callS (rm' := rX7_isCode) [vI ((c : Nat) : Int)] dX7_define_19 (c_X7_isCode_t (by unfold inI; omega) (by omega)) st_X7_isCode ml_X7_78 sm_X7_isCode rfl (Nat.le_of_ble_eq_true rfl) (by decide) (by decide) (Nat.le_of_ble_eq_true rfl) (by decide) (by decide) (Or.inl rfl) (fun E9 σ9 hq9 _ => nomatch hq9.1) (fun r9 σ9 hq9 hle9 => ?_)
    obtain ⟨h9, h8⟩ := hq9
    rw [h8]
    clear hle9 h8 σ9
    cases h9
    refine J.if_ne dX7_define_22 (by decide) (tgt := 31) (by unfold inI; omega) (fun hb22 => ?_) (fun hb22 => ?_)
    · refine J.ald_n dX7_define_31 rfl ?_
      refine J.ild_n dX7_define_32 rfl ?_
      refine J.ild_n dX7_define_33 rfl ?_
      refine J.callV (rm' := rX7_reasonFor) [vI ((b : Nat) : Int), vI ((c : Nat) : Int)] dX7_define_34 (c_X7_reasonFor (jset_eq _ _ _) ((jset_ne _ _ (by omega)).trans h41) hb hbn ((jset_ne _ _ (by omega)).trans h42) hc9 hcd hc) (jset_eq _ _ _) rfl st_X7_reasonFor ml_X7_95 im_X7_reasonFor se_X7_reasonFor rfl (Nat.le_of_ble_eq_true rfl) (by decide) (by decide) (Nat.le_of_ble_eq_true rfl) (by decide) (by decide) (Or.inl rfl) (fun E9 σ9 hq9 _ => nomatch hq9.1) (fun r9 σ9 hq9 hle9 => ?_)
      obtain ⟨h9, h8⟩ := hq9
      rw [h8]
      clear hle9 h8 σ9
      cases h9
      refine J.if_ne dX7_define_37 (by decide) (tgt := 53) (by unfold inI; omega) (fun hb37 => ?_) (fun hb37 => ?_)
      · refine J.ald_n dX7_define_53 rfl ?_
        refine J.iconst dX7_define_54 ?_
        refine J.callV (rm' := rX7_no) [vI 3] dX7_define_55 (c_X7_no (jset_eq _ _ _)) (jset_eq _ _ _) rfl st_X7_no ml_X7_59 im_X7_no se_X7_no rfl (Nat.le_of_ble_eq_true rfl) (by decide) (by decide) (Nat.le_of_ble_eq_true rfl) (by decide) (by decide) (Or.inl rfl) (fun E9 σ9 hq9 _ => nomatch hq9.1) (fun r9 σ9 hq9 hle9 => ?_)
        obtain ⟨h9, h8⟩ := hq9
        cases h9
        subst h8
        clear hle9
        refine J.iret .int dX7_define_58 rfl rfl (by decide) (by decide) ?_
        exact ⟨⟨_, rfl, fun q => absurd q (by decide)⟩, ⟨⟨pa, ps, (jset_eq _ _ _)⟩, ⟨ml, ((jset_ne _ _ (by omega)).trans ((jset_ne _ _ (by omega)).trans h38)), hml, hmi⟩, ((jset_ne _ _ (by omega)).trans ((jset_ne _ _ (by omega)).trans h39)), ⟨Kw, ((jset_ne _ _ (by omega)).trans ((jset_ne _ _ (by omega)).trans h40)), hw9, hkw⟩, ((jset_ne _ _ (by omega)).trans ((jset_ne _ _ (by omega)).trans h41)), ⟨Mc, ((jset_ne _ _ (by omega)).trans ((jset_ne _ _ (by omega)).trans h42)), hMc⟩, ⟨Ms, ((jset_ne _ _ (by omega)).trans ((jset_ne _ _ (by omega)).trans h43)), hMs⟩, ⟨Mp, ((jset_ne _ _ (by omega)).trans ((jset_ne _ _ (by omega)).trans h44)), hMp⟩, ((jset_ne _ _ (by omega)).trans ((jset_ne _ _ (by omega)).trans h45)), ((jset_ne _ _ (by omega)).trans ((jset_ne _ _ (by omega)).trans h46)), ⟨_, ((jset_ne _ _ (by omega)).trans ((jset_ne _ _ (by omega)).trans h47))⟩, ⟨_, ((jset_ne _ _ (by omega)).trans ((jset_ne _ _ (by omega)).trans h48))⟩⟩, rfl, fun j hj => ((jset_ne _ _ (by omega)).trans ((jset_ne _ _ (by omega)).trans (rfl : σ.2 j = σ.2 j)))⟩
      · first | omega | exact absurd rfl hb37 | exact absurd hb37 (by decide)
    · first | exact absurd hb22 (by decide) | exact absurd rfl hb22 | omega
  · first | exact absurd hb9 (by decide) | exact absurd rfl hb9 | omega
set_option maxRecDepth 20000 in
theorem m_define_4 {X : jX} {σ : jS} {pr : Int} {ln : Nat} {lw : Nat → Int} {bn : Nat → Nat} {cd sz : Nat → Nat → Nat} {ph : Nat → Nat → Int} {mn : Nat} {mg : Nat → Int} {kn : Nat} {kr : Nat → Int} {ks : Nat → Nat} {kt : Nat → Nat → Int} {rd : Nat} {rg : Nat → Int} {th : Int} {b c : Nat} (hM : MW σ th pr ln lw bn cd sz ph mn mg kn kr ks kt rd rg) (hI : CI pr ln lw bn cd sz ph mn mg kn kr ks kt rd rg) (hb : b < 3) (hc : c ≤ 11881375) (h : rsn (bn b) (cd b) c = 0) (h2 : ¬ (1 ≤ ln ∧ ln ≤ 6)) : JM X mX7_define rX7_define [.ref 37, vI ((b : Nat) : Int), vI ((c : Nat) : Int)] σ (MP 3 (0) σ (fun σ1 => MW σ1 3 pr ln lw bn cd sz ph mn mg kn kr ks kt rd rg)) := by
  refine JM.of (lc := [.ref 37, vI ((b : Nat) : Int), vI ((c : Nat) : Int)]) rfl ?_
  obtain ⟨hpr, ⟨hln, hlw⟩, hbk, ⟨hmn, hmg⟩, hki, hrd, hrg⟩ := id hI
  obtain ⟨⟨pa, ps, hO⟩, ⟨ml, h38, hml, hmi⟩, h39, ⟨Kw, h40, hw9, hkw⟩, h41, ⟨Mc, h42, hMc⟩, ⟨Ms, h43, hMs⟩, ⟨Mp, h44, hMp⟩, h45, h46, ⟨lf, h47⟩, ⟨pc, h48⟩⟩ := id hM
  have hkn := hki.1
  have hbn := (hbk b hb).1
  have hcd := (hbk b hb).2.1
  have hsz := (hbk b hb).2.2.1
  have hph := (hbk b hb).2.2.2
  have hc9 := fun e he => hMc b e hb he
  have hs9 := fun e he => hMs b e hb he
  have hp9 := fun t ht => hMp b t hb ht
  have hrl := rsn_le (bn b) (cd b) c
  refine J.ald_n dX7_define_0 rfl ?_
  refine J.iconst dX7_define_1 ?_
  refine pf_X7_47 rfl dX7_define_2 hO ?_
  refine J.ild_n dX7_define_5 rfl ?_
  refine J.callS (rm' := rX7_isBook) [vI ((b : Nat) : Int)] dX7_define_6 (c_X7_isBook_t (by unfold inI; omega) (by omega)) st_X7_isBook ml_X7_55 sm_X7_isBook rfl (Nat.le_of_ble_eq_true rfl) (by decide) (by decide) (Nat.le_of_ble_eq_true rfl) (by decide) (by decide) (Or.inl rfl) (fun E9 σ9 hq9 _ => nomatch hq9.1) (fun r9 σ9 hq9 hle9 => ?_)
  obtain ⟨h9, h8⟩ := hq9
  rw [h8]
  clear hle9 h8 σ9
  cases h9
  refine J.if_ne dX7_define_9 (by decide) (tgt := 18) (by unfold inI; omega) (fun hb9 => ?_) (fun hb9 => ?_)
  · refine J.ild_n dX7_define_18 rfl ?_
    refine J.callS (rm' := rX7_isCode) [vI ((c : Nat) : Int)] dX7_define_19 (c_X7_isCode_t (by unfold inI; omega) (by omega)) st_X7_isCode ml_X7_78 sm_X7_isCode rfl (Nat.le_of_ble_eq_true rfl) (by decide) (by decide) (Nat.le_of_ble_eq_true rfl) (by decide) (by decide) (Or.inl rfl) (fun E9 σ9 hq9 _ => nomatch hq9.1) (fun r9 σ9 hq9 hle9 => ?_)
    obtain ⟨h9, h8⟩ := hq9
    rw [h8]
    clear hle9 h8 σ9
    cases h9
    refine J.if_ne dX7_define_22 (by decide) (tgt := 31) (by unfold inI; omega) (fun hb22 => ?_) (fun hb22 => ?_)
    · refine J.ald_n dX7_define_31 rfl ?_
      refine J.ild_n dX7_define_32 rfl ?_
      refine J.ild_n dX7_define_33 rfl ?_
      refine J.callV (rm' := rX7_reasonFor) [vI ((b : Nat) : Int), vI ((c : Nat) : Int)] dX7_define_34 (c_X7_reasonFor (jset_eq _ _ _) ((jset_ne _ _ (by omega)).trans h41) hb hbn ((jset_ne _ _ (by omega)).trans h42) hc9 hcd hc) (jset_eq _ _ _) rfl st_X7_reasonFor ml_X7_95 im_X7_reasonFor se_X7_reasonFor rfl (Nat.le_of_ble_eq_true rfl) (by decide) (by decide) (Nat.le_of_ble_eq_true rfl) (by decide) (by decide) (Or.inl rfl) (fun E9 σ9 hq9 _ => nomatch hq9.1) (fun r9 σ9 hq9 hle9 => ?_)
      obtain ⟨h9, h8⟩ := hq9
      rw [h8]
      clear hle9 h8 σ9
      cases h9
      refine J.if_ne dX7_define_37 (by decide) (tgt := 53) (by unfold inI; omega) (fun hb37 => ?_) (fun hb37 => ?_)
      · first | omega | exact absurd rfl hb37 | exact absurd hb37 (by decide)
      · refine J.ald_n dX7_define_40 rfl ?_
        refine gf_X7_63 rfl dX7_define_41 (jset_eq _ _ _) ?_
        refine J.iconst dX7_define_44 ?_
        refine J.bipush dX7_define_45 (by decide) ?_
        refine J.callS (rm' := rX7_isIn) [vI ((ln : Nat) : Int), vI 1, vI 6] dX7_define_47 (c_X7_isIn_f (by unfold inI; omega) (by unfold inI; omega) (by unfold inI; omega) (by omega)) st_X7_isIn ml_X7_50 sm_X7_isIn rfl (Nat.le_of_ble_eq_true rfl) (by decide) (by decide) (Nat.le_of_ble_eq_true rfl) (by decide) (by decide) (Or.inl rfl) (fun E9 σ9 hq9 _ => nomatch hq9.1) (fun r9 σ9 hq9 hle9 => ?_)
        obtain ⟨h9, h8⟩ := hq9
        rw [h8]
        clear hle9 h8 σ9
        cases h9
        refine J.if_ne dX7_define_50 (by decide) (tgt := 59) (by unfold inI; omega) (fun hb50 => ?_) (fun hb50 => ?_)
        · first | exact absurd hb50 (by decide) | exact absurd rfl hb50 | omega
        · refine J.ald_n dX7_define_53 rfl ?_
          refine J.iconst dX7_define_54 ?_
          refine J.callV (rm' := rX7_no) [vI 3] dX7_define_55 (c_X7_no (jset_eq _ _ _)) (jset_eq _ _ _) rfl st_X7_no ml_X7_59 im_X7_no se_X7_no rfl (Nat.le_of_ble_eq_true rfl) (by decide) (by decide) (Nat.le_of_ble_eq_true rfl) (by decide) (by decide) (Or.inl rfl) (fun E9 σ9 hq9 _ => nomatch hq9.1) (fun r9 σ9 hq9 hle9 => ?_)
          obtain ⟨h9, h8⟩ := hq9
          cases h9
          subst h8
          clear hle9
          refine J.iret .int dX7_define_58 rfl rfl (by decide) (by decide) ?_
          exact ⟨⟨_, rfl, fun q => absurd q (by decide)⟩, ⟨⟨pa, ps, (jset_eq _ _ _)⟩, ⟨ml, ((jset_ne _ _ (by omega)).trans ((jset_ne _ _ (by omega)).trans h38)), hml, hmi⟩, ((jset_ne _ _ (by omega)).trans ((jset_ne _ _ (by omega)).trans h39)), ⟨Kw, ((jset_ne _ _ (by omega)).trans ((jset_ne _ _ (by omega)).trans h40)), hw9, hkw⟩, ((jset_ne _ _ (by omega)).trans ((jset_ne _ _ (by omega)).trans h41)), ⟨Mc, ((jset_ne _ _ (by omega)).trans ((jset_ne _ _ (by omega)).trans h42)), hMc⟩, ⟨Ms, ((jset_ne _ _ (by omega)).trans ((jset_ne _ _ (by omega)).trans h43)), hMs⟩, ⟨Mp, ((jset_ne _ _ (by omega)).trans ((jset_ne _ _ (by omega)).trans h44)), hMp⟩, ((jset_ne _ _ (by omega)).trans ((jset_ne _ _ (by omega)).trans h45)), ((jset_ne _ _ (by omega)).trans ((jset_ne _ _ (by omega)).trans h46)), ⟨_, ((jset_ne _ _ (by omega)).trans ((jset_ne _ _ (by omega)).trans h47))⟩, ⟨_, ((jset_ne _ _ (by omega)).trans ((jset_ne _ _ (by omega)).trans h48))⟩⟩, rfl, fun j hj => ((jset_ne _ _ (by omega)).trans ((jset_ne _ _ (by omega)).trans (rfl : σ.2 j = σ.2 j)))⟩
    · first | exact absurd hb22 (by decide) | exact absurd rfl hb22 | omega
  · first | exact absurd hb9 (by decide) | exact absurd rfl hb9 | omega
set_option maxRecDepth 20000 in
theorem m_define_0 {X : jX} {σ : jS} {pr : Int} {ln : Nat} {lw : Nat → Int} {bn : Nat → Nat} {cd sz : Nat → Nat → Nat} {ph : Nat → Nat → Int} {mn : Nat} {mg : Nat → Int} {kn : Nat} {kr : Nat → Int} {ks : Nat → Nat} {kt : Nat → Nat → Int} {rd : Nat} {rg : Nat → Int} {th : Int} {b c : Nat} (hM : MW σ th pr ln lw bn cd sz ph mn mg kn kr ks kt rd rg) (hI : CI pr ln lw bn cd sz ph mn mg kn kr ks kt rd rg) (hb : b < 3) (hc : c ≤ 11881375) (h : rsn (bn b) (cd b) c = 0) (h2 : 1 ≤ ln ∧ ln ≤ 6) : JM X mX7_define rX7_define [.ref 37, vI ((b : Nat) : Int), vI ((c : Nat) : Int)] σ (MP 0 (((bn b : Nat) : Int)) σ (fun σ1 => MW σ1 0 pr 0 lw (jup bn b (bn b + 1)) (jup cd b (jup (cd b) (bn b) c)) (jup sz b (jup (sz b) (bn b) ln)) (jup ph b (jcp lw (ph b) 0 (bn b * 6) ln)) mn mg kn kr ks kt rd rg)) := by
  refine JM.of (lc := [.ref 37, vI ((b : Nat) : Int), vI ((c : Nat) : Int)]) rfl ?_
  obtain ⟨hpr, ⟨hln, hlw⟩, hbk, ⟨hmn, hmg⟩, hki, hrd, hrg⟩ := id hI
  obtain ⟨⟨pa, ps, hO⟩, ⟨ml, h38, hml, hmi⟩, h39, ⟨Kw, h40, hw9, hkw⟩, h41, ⟨Mc, h42, hMc⟩, ⟨Ms, h43, hMs⟩, ⟨Mp, h44, hMp⟩, h45, h46, ⟨lf, h47⟩, ⟨pc, h48⟩⟩ := id hM
  have hkn := hki.1
  have hbn := (hbk b hb).1
  have hcd := (hbk b hb).2.1
  have hsz := (hbk b hb).2.2.1
  have hph := (hbk b hb).2.2.2
  have hc9 := fun e he => hMc b e hb he
  have hs9 := fun e he => hMs b e hb he
  have hp9 := fun t ht => hMp b t hb ht
  have hrl := rsn_le (bn b) (cd b) c
  refine J.ald_n dX7_define_0 rfl ?_
  refine J.iconst dX7_define_1 ?_
  refine pf_X7_47 rfl dX7_define_2 hO ?_
  refine J.ild_n dX7_define_5 rfl ?_
  refine J.callS (rm' := rX7_isBook) [vI ((b : Nat) : Int)] dX7_define_6 (c_X7_isBook_t (by unfold inI; omega) (by omega)) st_X7_isBook ml_X7_55 sm_X7_isBook rfl (Nat.le_of_ble_eq_true rfl) (by decide) (by decide) (Nat.le_of_ble_eq_true rfl) (by decide) (by decide) (Or.inl rfl) (fun E9 σ9 hq9 _ => nomatch hq9.1) (fun r9 σ9 hq9 hle9 => ?_)
  obtain ⟨h9, h8⟩ := hq9
  rw [h8]
  clear hle9 h8 σ9
  cases h9
  refine J.if_ne dX7_define_9 (by decide) (tgt := 18) (by unfold inI; omega) (fun hb9 => ?_) (fun hb9 => ?_)
  · refine J.ild_n dX7_define_18 rfl ?_
    refine J.callS (rm' := rX7_isCode) [vI ((c : Nat) : Int)] dX7_define_19 (c_X7_isCode_t (by unfold inI; omega) (by omega)) st_X7_isCode ml_X7_78 sm_X7_isCode rfl (Nat.le_of_ble_eq_true rfl) (by decide) (by decide) (Nat.le_of_ble_eq_true rfl) (by decide) (by decide) (Or.inl rfl) (fun E9 σ9 hq9 _ => nomatch hq9.1) (fun r9 σ9 hq9 hle9 => ?_)
    obtain ⟨h9, h8⟩ := hq9
    rw [h8]
    clear hle9 h8 σ9
    cases h9
    refine J.if_ne dX7_define_22 (by decide) (tgt := 31) (by unfold inI; omega) (fun hb22 => ?_) (fun hb22 => ?_)
    · refine J.ald_n dX7_define_31 rfl ?_
      refine J.ild_n dX7_define_32 rfl ?_
      refine J.ild_n dX7_define_33 rfl ?_
      refine J.callV (rm' := rX7_reasonFor) [vI ((b : Nat) : Int), vI ((c : Nat) : Int)] dX7_define_34 (c_X7_reasonFor (jset_eq _ _ _) ((jset_ne _ _ (by omega)).trans h41) hb hbn ((jset_ne _ _ (by omega)).trans h42) hc9 hcd hc) (jset_eq _ _ _) rfl st_X7_reasonFor ml_X7_95 im_X7_reasonFor se_X7_reasonFor rfl (Nat.le_of_ble_eq_true rfl) (by decide) (by decide) (Nat.le_of_ble_eq_true rfl) (by decide) (by decide) (Or.inl rfl) (fun E9 σ9 hq9 _ => nomatch hq9.1) (fun r9 σ9 hq9 hle9 => ?_)
      obtain ⟨h9, h8⟩ := hq9
      rw [h8]
      clear hle9 h8 σ9
      cases h9
      refine J.if_ne dX7_define_37 (by decide) (tgt := 53) (by unfold inI; omega) (fun hb37 => ?_) (fun hb37 => ?_)
      · first | omega | exact absurd rfl hb37 | exact absurd hb37 (by decide)
      · refine J.ald_n dX7_define_40 rfl ?_
        refine gf_X7_63 rfl dX7_define_41 (jset_eq _ _ _) ?_
        refine J.iconst dX7_define_44 ?_
        refine J.bipush dX7_define_45 (by decide) ?_
        refine J.callS (rm' := rX7_isIn) [vI ((ln : Nat) : Int), vI 1, vI 6] dX7_define_47 (c_X7_isIn_t (by unfold inI; omega) (by unfold inI; omega) (by unfold inI; omega) (by omega)) st_X7_isIn ml_X7_50 sm_X7_isIn rfl (Nat.le_of_ble_eq_true rfl) (by decide) (by decide) (Nat.le_of_ble_eq_true rfl) (by decide) (by decide) (Or.inl rfl) (fun E9 σ9 hq9 _ => nomatch hq9.1) (fun r9 σ9 hq9 hle9 => ?_)
        obtain ⟨h9, h8⟩ := hq9
        rw [h8]
        clear hle9 h8 σ9
        cases h9
        refine J.if_ne dX7_define_50 (by decide) (tgt := 59) (by unfold inI; omega) (fun hb50 => ?_) (fun hb50 => ?_)
        · refine J.ald_n dX7_define_59 rfl ?_
          refine J.ild_n dX7_define_60 rfl ?_
          refine J.ild_n dX7_define_61 rfl ?_
          refine J.ald_n dX7_define_62 rfl ?_
          refine gf_X7_13 rfl dX7_define_63 (jset_eq _ _ _) ?_
          refine J.iconst dX7_define_66 ?_
          refine J.ald_n dX7_define_67 rfl ?_
          refine gf_X7_63 rfl dX7_define_68 (jset_eq _ _ _) ?_
          refine J.callV (rm' := rX7_add) [vI ((b : Nat) : Int), vI ((c : Nat) : Int), .ref 38, vI 0, vI ((ln : Nat) : Int)] dX7_define_71 (c_X7_add (s := 0) (m := ln) (jset_eq _ _ _) ((jset_ne _ _ (by omega)).trans h41) ((jset_ne _ _ (by omega)).trans h42) ((jset_ne _ _ (by omega)).trans h43) ((jset_ne _ _ (by omega)).trans h44) hb (rsn_lt h) ((jset_ne _ _ (by omega)).trans h38) (by omega) (by omega) (by omega) (by omega)) (jset_eq _ _ _) rfl st_X7_add ml_X7_101 im_X7_add se_X7_add rfl (Nat.le_of_ble_eq_true rfl) (by decide) (by decide) (Nat.le_of_ble_eq_true rfl) (by decide) (by decide) (Or.inl rfl) (fun E9 σ9 hq9 _ => nomatch hq9.1) (fun r9 σ1 hq9 hle9 => ?_)
          obtain ⟨h9, g41, g42, g43, g44, hn1, hj1⟩ := hq9
          cases h9
          clear hle9
          refine J.ald_n dX7_define_74 rfl ?_
          refine J.iconst dX7_define_75 ?_
          refine pf_X7_63 rfl dX7_define_76 ((hj1 _ (by omega)).trans (jset_eq _ _ _)) ?_
          refine J.ald_n dX7_define_79 rfl ?_
          refine gf_X7_23 rfl dX7_define_80 (jset_eq _ _ _) ?_
          refine J.ild_n dX7_define_83 rfl ?_
          refine J.iald b dX7_define_84 ((jset_ne _ _ (by omega)).trans g41) rfl (by omega) (by omega) ?_
          rw [show (jup bn b (bn b + 1)) b = ((bn b + 1 : Nat) : Int) from by rw [jup_eq]]
          refine J.iconst dX7_define_85 ?_
          refine J.isub dX7_define_86 ?_
          rw [show ((bn b + 1 : Nat) : Int) - 1 = ((bn b : Nat) : Int) from by omega]
          refine J.iret .int dX7_define_87 rfl rfl (by decide) (by decide) ?_
          exact ⟨⟨_, rfl, fun _ => rfl⟩, ⟨⟨pa, ps, (jset_eq _ _ _)⟩, ⟨ml, ((jset_ne _ _ (by omega)).trans ((hj1 _ (by omega)).trans ((jset_ne _ _ (by omega)).trans h38))), fun t ht => absurd ht (by omega), hmi⟩, ((jset_ne _ _ (by omega)).trans ((hj1 _ (by omega)).trans ((jset_ne _ _ (by omega)).trans h39))), ⟨Kw, ((jset_ne _ _ (by omega)).trans ((hj1 _ (by omega)).trans ((jset_ne _ _ (by omega)).trans h40))), hw9, hkw⟩, ((jset_ne _ _ (by omega)).trans g41), ⟨_, ((jset_ne _ _ (by omega)).trans g42), addC hMc (rsn_lt h)⟩, ⟨_, ((jset_ne _ _ (by omega)).trans g43), addC hMs (rsn_lt h)⟩, ⟨_, ((jset_ne _ _ (by omega)).trans g44), addP hMp (rsn_lt h) (by omega) (fun i hi => by rw [Nat.zero_add]; exact hml i hi)⟩, ((jset_ne _ _ (by omega)).trans ((hj1 _ (by omega)).trans ((jset_ne _ _ (by omega)).trans h45))), ((jset_ne _ _ (by omega)).trans ((hj1 _ (by omega)).trans ((jset_ne _ _ (by omega)).trans h46))), ⟨_, ((jset_ne _ _ (by omega)).trans ((hj1 _ (by omega)).trans ((jset_ne _ _ (by omega)).trans h47)))⟩, ⟨_, ((jset_ne _ _ (by omega)).trans ((hj1 _ (by omega)).trans ((jset_ne _ _ (by omega)).trans h48)))⟩⟩, hn1, fun j hj => ((jset_ne _ _ (by omega)).trans ((hj1 _ (by omega)).trans ((jset_ne _ _ (by omega)).trans (rfl : σ.2 j = σ.2 j))))⟩
        · first | exact absurd hb50 (by decide) | exact absurd rfl hb50 | omega
    · first | exact absurd hb22 (by decide) | exact absurd rfl hb22 | omega
  · first | exact absurd hb9 (by decide) | exact absurd rfl hb9 | omega
set_option maxRecDepth 20000 in
theorem m_drop_1 {X : jX} {σ : jS} {pr : Int} {ln : Nat} {lw : Nat → Int} {bn : Nat → Nat} {cd sz : Nat → Nat → Nat} {ph : Nat → Nat → Int} {mn : Nat} {mg : Nat → Int} {kn : Nat} {kr : Nat → Int} {ks : Nat → Nat} {kt : Nat → Nat → Int} {rd : Nat} {rg : Nat → Int} {th : Int} {a c : Int} (hM : MW σ th pr ln lw bn cd sz ph mn mg kn kr ks kt rd rg) (hI : CI pr ln lw bn cd sz ph mn mg kn kr ks kt rd rg) (hi : inI a) (ha : ¬ (0 ≤ a ∧ a < 3)) : JM X mX7_drop rX7_drop [.ref 37, vI a, vI c] σ (MP 1 (0) σ (fun σ1 => MW σ1 1 pr ln lw bn cd sz ph mn mg kn kr ks kt rd rg)) := by
  refine JM.of (lc := [.ref 37, vI a, vI c, .null, .null]) rfl ?_
  obtain ⟨hpr, ⟨hln, hlw⟩, hbk, ⟨hmn, hmg⟩, hki, hrd, hrg⟩ := id hI
  obtain ⟨⟨pa, ps, hO⟩, ⟨ml, h38, hml, hmi⟩, h39, ⟨Kw, h40, hw9, hkw⟩, h41, ⟨Mc, h42, hMc⟩, ⟨Ms, h43, hMs⟩, ⟨Mp, h44, hMp⟩, h45, h46, ⟨lf, h47⟩, ⟨pc, h48⟩⟩ := id hM
  have hkn := hki.1
  refine J.ald_n dX7_drop_0 rfl ?_
  refine J.iconst dX7_drop_1 ?_
  refine pf_X7_47 rfl dX7_drop_2 hO ?_
  refine J.ald_n dX7_drop_5 rfl ?_
  refine J.ild_n dX7_drop_6 rfl ?_
  refine J.ild_n dX7_drop_7 rfl ?_
  refine J.callV (rm' := rX7_isEntry) [vI a, vI c] dX7_drop_8 (c_X7_isEntry_b (jset_eq _ _ _) hi (by omega)) (jset_eq _ _ _) rfl st_X7_isEntry ml_X7_105 im_X7_isEntry se_X7_isEntry rfl (Nat.le_of_ble_eq_true rfl) (by decide) (by decide) (Nat.le_of_ble_eq_true rfl) (by decide) (by decide) (Or.inl rfl) (fun E9 σ9 hq9 _ => nomatch hq9.1) (fun r9 σ9 hq9 hle9 => ?_)
  obtain ⟨h9, h8⟩ := hq9
  rw [h8]
  clear hle9 h8 σ9
  cases h9
  refine J.if_ne dX7_drop_11 (by decide) (tgt := 20) (by unfold inI; omega) (fun hb11 => ?_) (fun hb11 => ?_)
  · first | exact absurd hb11 (by decide) | exact absurd rfl hb11 | omega
  · refine J.ald_n dX7_drop_14 rfl ?_
    refine J.iconst dX7_drop_15 ?_
    refine J.callV (rm' := rX7_no) [vI 1] dX7_drop_16 (c_X7_no (jset_eq _ _ _)) (jset_eq _ _ _) rfl st_X7_no ml_X7_59 im_X7_no se_X7_no rfl (Nat.le_of_ble_eq_true rfl) (by decide) (by decide) (Nat.le_of_ble_eq_true rfl) (by decide) (by decide) (Or.inl rfl) (fun E9 σ9 hq9 _ => nomatch hq9.1) (fun r9 σ9 hq9 hle9 => ?_)
    obtain ⟨h9, h8⟩ := hq9
    cases h9
    subst h8
    clear hle9
    refine J.iret .int dX7_drop_19 rfl rfl (by decide) (by decide) ?_
    exact ⟨⟨_, rfl, fun q => absurd q (by decide)⟩, ⟨⟨pa, ps, (jset_eq _ _ _)⟩, ⟨ml, ((jset_ne _ _ (by omega)).trans ((jset_ne _ _ (by omega)).trans h38)), hml, hmi⟩, ((jset_ne _ _ (by omega)).trans ((jset_ne _ _ (by omega)).trans h39)), ⟨Kw, ((jset_ne _ _ (by omega)).trans ((jset_ne _ _ (by omega)).trans h40)), hw9, hkw⟩, ((jset_ne _ _ (by omega)).trans ((jset_ne _ _ (by omega)).trans h41)), ⟨Mc, ((jset_ne _ _ (by omega)).trans ((jset_ne _ _ (by omega)).trans h42)), hMc⟩, ⟨Ms, ((jset_ne _ _ (by omega)).trans ((jset_ne _ _ (by omega)).trans h43)), hMs⟩, ⟨Mp, ((jset_ne _ _ (by omega)).trans ((jset_ne _ _ (by omega)).trans h44)), hMp⟩, ((jset_ne _ _ (by omega)).trans ((jset_ne _ _ (by omega)).trans h45)), ((jset_ne _ _ (by omega)).trans ((jset_ne _ _ (by omega)).trans h46)), ⟨_, ((jset_ne _ _ (by omega)).trans ((jset_ne _ _ (by omega)).trans h47))⟩, ⟨_, ((jset_ne _ _ (by omega)).trans ((jset_ne _ _ (by omega)).trans h48))⟩⟩, rfl, fun j hj => ((jset_ne _ _ (by omega)).trans ((jset_ne _ _ (by omega)).trans (rfl : σ.2 j = σ.2 j)))⟩
set_option maxRecDepth 20000 in
theorem m_drop_2 {X : jX} {σ : jS} {pr : Int} {ln : Nat} {lw : Nat → Int} {bn : Nat → Nat} {cd sz : Nat → Nat → Nat} {ph : Nat → Nat → Int} {mn : Nat} {mg : Nat → Int} {kn : Nat} {kr : Nat → Int} {ks : Nat → Nat} {kt : Nat → Nat → Int} {rd : Nat} {rg : Nat → Int} {th : Int} {b : Nat} {a : Int} (hM : MW σ th pr ln lw bn cd sz ph mn mg kn kr ks kt rd rg) (hI : CI pr ln lw bn cd sz ph mn mg kn kr ks kt rd rg) (hb : b < 3) (hi : inI a) (ha : ¬ (0 ≤ a ∧ a < ((bn b : Nat) : Int))) : JM X mX7_drop rX7_drop [.ref 37, vI ((b : Nat) : Int), vI a] σ (MP 1 (0) σ (fun σ1 => MW σ1 1 pr ln lw bn cd sz ph mn mg kn kr ks kt rd rg)) := by
  refine JM.of (lc := [.ref 37, vI ((b : Nat) : Int), vI a, .null, .null]) rfl ?_
  obtain ⟨hpr, ⟨hln, hlw⟩, hbk, ⟨hmn, hmg⟩, hki, hrd, hrg⟩ := id hI
  obtain ⟨⟨pa, ps, hO⟩, ⟨ml, h38, hml, hmi⟩, h39, ⟨Kw, h40, hw9, hkw⟩, h41, ⟨Mc, h42, hMc⟩, ⟨Ms, h43, hMs⟩, ⟨Mp, h44, hMp⟩, h45, h46, ⟨lf, h47⟩, ⟨pc, h48⟩⟩ := id hM
  have hkn := hki.1
  have hbn := (hbk b hb).1
  have hcd := (hbk b hb).2.1
  have hsz := (hbk b hb).2.2.1
  have hph := (hbk b hb).2.2.2
  have hc9 := fun e he => hMc b e hb he
  have hs9 := fun e he => hMs b e hb he
  have hp9 := fun t ht => hMp b t hb ht
  refine J.ald_n dX7_drop_0 rfl ?_
  refine J.iconst dX7_drop_1 ?_
  refine pf_X7_47 rfl dX7_drop_2 hO ?_
  refine J.ald_n dX7_drop_5 rfl ?_
  refine J.ild_n dX7_drop_6 rfl ?_
  refine J.ild_n dX7_drop_7 rfl ?_
  refine J.callV (rm' := rX7_isEntry) [vI ((b : Nat) : Int), vI a] dX7_drop_8 (c_X7_isEntry_f (jset_eq _ _ _) ((jset_ne _ _ (by omega)).trans h41) hb hbn hi ha) (jset_eq _ _ _) rfl st_X7_isEntry ml_X7_105 im_X7_isEntry se_X7_isEntry rfl (Nat.le_of_ble_eq_true rfl) (by decide) (by decide) (Nat.le_of_ble_eq_true rfl) (by decide) (by decide) (Or.inl rfl) (fun E9 σ9 hq9 _ => nomatch hq9.1) (fun r9 σ9 hq9 hle9 => ?_)
  obtain ⟨h9, h8⟩ := hq9
  rw [h8]
  clear hle9 h8 σ9
  cases h9
  refine J.if_ne dX7_drop_11 (by decide) (tgt := 20) (by unfold inI; omega) (fun hb11 => ?_) (fun hb11 => ?_)
  · first | exact absurd hb11 (by decide) | exact absurd rfl hb11 | omega
  · refine J.ald_n dX7_drop_14 rfl ?_
    refine J.iconst dX7_drop_15 ?_
    refine J.callV (rm' := rX7_no) [vI 1] dX7_drop_16 (c_X7_no (jset_eq _ _ _)) (jset_eq _ _ _) rfl st_X7_no ml_X7_59 im_X7_no se_X7_no rfl (Nat.le_of_ble_eq_true rfl) (by decide) (by decide) (Nat.le_of_ble_eq_true rfl) (by decide) (by decide) (Or.inl rfl) (fun E9 σ9 hq9 _ => nomatch hq9.1) (fun r9 σ9 hq9 hle9 => ?_)
    obtain ⟨h9, h8⟩ := hq9
    cases h9
    subst h8
    clear hle9
    refine J.iret .int dX7_drop_19 rfl rfl (by decide) (by decide) ?_
    exact ⟨⟨_, rfl, fun q => absurd q (by decide)⟩, ⟨⟨pa, ps, (jset_eq _ _ _)⟩, ⟨ml, ((jset_ne _ _ (by omega)).trans ((jset_ne _ _ (by omega)).trans h38)), hml, hmi⟩, ((jset_ne _ _ (by omega)).trans ((jset_ne _ _ (by omega)).trans h39)), ⟨Kw, ((jset_ne _ _ (by omega)).trans ((jset_ne _ _ (by omega)).trans h40)), hw9, hkw⟩, ((jset_ne _ _ (by omega)).trans ((jset_ne _ _ (by omega)).trans h41)), ⟨Mc, ((jset_ne _ _ (by omega)).trans ((jset_ne _ _ (by omega)).trans h42)), hMc⟩, ⟨Ms, ((jset_ne _ _ (by omega)).trans ((jset_ne _ _ (by omega)).trans h43)), hMs⟩, ⟨Mp, ((jset_ne _ _ (by omega)).trans ((jset_ne _ _ (by omega)).trans h44)), hMp⟩, ((jset_ne _ _ (by omega)).trans ((jset_ne _ _ (by omega)).trans h45)), ((jset_ne _ _ (by omega)).trans ((jset_ne _ _ (by omega)).trans h46)), ⟨_, ((jset_ne _ _ (by omega)).trans ((jset_ne _ _ (by omega)).trans h47))⟩, ⟨_, ((jset_ne _ _ (by omega)).trans ((jset_ne _ _ (by omega)).trans h48))⟩⟩, rfl, fun j hj => ((jset_ne _ _ (by omega)).trans ((jset_ne _ _ (by omega)).trans (rfl : σ.2 j = σ.2 j)))⟩
def drR (f : Nat → Nat → Nat) (b e k : Nat) (M : Nat → Nat) : Prop := ∀ b' x, b' < 3 → x < 40 → M (40 * b' + x) = if b' = b ∧ e ≤ x ∧ x < k then f b (x + 1) else f b' x
def drP (f : Nat → Nat → Int) (b e t : Nat) (M : Nat → Int) : Prop := ∀ b' x, b' < 3 → x < 240 → M (240 * b' + x) = if b' = b ∧ e * 6 ≤ x ∧ x < t then f b (x + 6) else f b' x
theorem drR_step {f : Nat → Nat → Nat} {b e k : Nat} {M : Nat → Nat} (h : drR f b e k M) (hb : b < 3) (he : e ≤ k) (hk : k + 1 < 40) : drR f b e (k + 1) (jup M (40 * b + k) (M (40 * b + k + 1))) := fun b' x hb' hx => by
  by_cases q : b' = b ∧ x = k
  · obtain ⟨rfl, rfl⟩ := q
    rw [jup_eq, if_pos (by omega), show 40 * b' + x + 1 = 40 * b' + (x + 1) by omega, h _ _ hb (by omega), if_neg (by omega)]
  · rw [jup_ne _ _ (by omega), h _ _ hb' hx]
    by_cases r : b' = b ∧ e ≤ x ∧ x < k
    · rw [if_pos r, if_pos (by omega)]
    · rw [if_neg r, if_neg (by omega)]
theorem drP_step {f : Nat → Nat → Int} {b e t : Nat} {M : Nat → Int} (h : drP f b e t M) (hb : b < 3) (he : e * 6 ≤ t) (ht : t + 6 < 240) : drP f b e (t + 1) (jup M (240 * b + t) (M (240 * b + t + 6))) := fun b' x hb' hx => by
  by_cases q : b' = b ∧ x = t
  · obtain ⟨rfl, rfl⟩ := q
    rw [jup_eq, if_pos (by omega), show 240 * b' + x + 6 = 240 * b' + (x + 6) by omega, h _ _ hb (by omega), if_neg (by omega)]
  · rw [jup_ne _ _ (by omega), h _ _ hb' hx]
    by_cases r : b' = b ∧ e * 6 ≤ x ∧ x < t
    · rw [if_pos r, if_pos (by omega)]
    · rw [if_neg r, if_neg (by omega)]
theorem drR_fin {f : Nat → Nat → Nat} {b e n : Nat} {M : Nat → Nat} (h : drR f b e (n - 1) M) (he : e < n) (b' x : Nat) (hb' : b' < 3) (hx : x < 40) : M (40 * b' + x) = jup f b (shN (f b) e n) b' x := by
  rw [h b' x hb' hx]
  by_cases q : b' = b
  · subst q
    rw [jup_eq]
    unfold shN jcpN
    by_cases r : e ≤ x ∧ x < e + (n - (e + 1))
    · rw [if_pos (by omega), if_pos r, show e + 1 + (x - e) = x + 1 by omega]
    · rw [if_neg (by omega), if_neg r]
  · rw [if_neg (by omega), jup_ne _ _ q]
theorem drP_fin {f : Nat → Nat → Int} {b e n : Nat} {M : Nat → Int} (h : drP f b e ((n - 1) * 6) M) (he : e < n) (b' x : Nat) (hb' : b' < 3) (hx : x < 240) : M (240 * b' + x) = jup f b (jcp (f b) (f b) ((e + 1) * 6) (e * 6) ((n - (e + 1)) * 6)) b' x := by
  rw [h b' x hb' hx]
  by_cases q : b' = b
  · subst q
    rw [jup_eq]
    unfold jcp
    by_cases r : e * 6 ≤ x ∧ x < e * 6 + (n - (e + 1)) * 6
    · rw [if_pos (by omega), if_pos r, show (e + 1) * 6 + (x - e * 6) = x + 6 by omega]
    · rw [if_neg (by omega), if_neg r]
  · rw [if_neg (by omega), jup_ne _ _ q]
set_option maxRecDepth 20000 in
theorem m_drop_0 {X : jX} {σ : jS} {pr : Int} {ln : Nat} {lw : Nat → Int} {bn : Nat → Nat} {cd sz : Nat → Nat → Nat} {ph : Nat → Nat → Int} {mn : Nat} {mg : Nat → Int} {kn : Nat} {kr : Nat → Int} {ks : Nat → Nat} {kt : Nat → Nat → Int} {rd : Nat} {rg : Nat → Int} {th : Int} {b e : Nat} (hM : MW σ th pr ln lw bn cd sz ph mn mg kn kr ks kt rd rg) (hI : CI pr ln lw bn cd sz ph mn mg kn kr ks kt rd rg) (hb : b < 3) (he : e < bn b) : JM X mX7_drop rX7_drop [.ref 37, vI ((b : Nat) : Int), vI ((e : Nat) : Int)] σ (MP 0 (((bn b - 1 : Nat) : Int)) σ (fun σ1 => MW σ1 0 pr ln lw (jup bn b (bn b - 1)) (jup cd b (shN (cd b) e (bn b))) (jup sz b (shN (sz b) e (bn b))) (jup ph b (jcp (ph b) (ph b) ((e + 1) * 6) (e * 6) ((bn b - (e + 1)) * 6))) mn mg kn kr ks kt rd rg)) := by
  refine JM.of (lc := [.ref 37, vI ((b : Nat) : Int), vI ((e : Nat) : Int), .null, .null]) rfl ?_
  obtain ⟨hpr, ⟨hln, hlw⟩, hbk, ⟨hmn, hmg⟩, hki, hrd, hrg⟩ := id hI
  obtain ⟨⟨pa, ps, hO⟩, ⟨ml, h38, hml, hmi⟩, h39, ⟨Kw, h40, hw9, hkw⟩, h41, ⟨Mc, h42, hMc⟩, ⟨Ms, h43, hMs⟩, ⟨Mp, h44, hMp⟩, h45, h46, ⟨lf, h47⟩, ⟨pc, h48⟩⟩ := id hM
  have hkn := hki.1
  have hbn := (hbk b hb).1
  have hcd := (hbk b hb).2.1
  have hsz := (hbk b hb).2.2.1
  have hph := (hbk b hb).2.2.2
  have hc9 := fun e he => hMc b e hb he
  have hs9 := fun e he => hMs b e hb he
  have hp9 := fun t ht => hMp b t hb ht
  refine J.ald_n dX7_drop_0 rfl ?_
  refine J.iconst dX7_drop_1 ?_
  refine pf_X7_47 rfl dX7_drop_2 hO ?_
  refine J.ald_n dX7_drop_5 rfl ?_
  refine J.ild_n dX7_drop_6 rfl ?_
  refine J.ild_n dX7_drop_7 rfl ?_
  refine J.callV (rm' := rX7_isEntry) [vI ((b : Nat) : Int), vI ((e : Nat) : Int)] dX7_drop_8 (c_X7_isEntry_t (jset_eq _ _ _) ((jset_ne _ _ (by omega)).trans h41) hb hbn he) (jset_eq _ _ _) rfl st_X7_isEntry ml_X7_105 im_X7_isEntry se_X7_isEntry rfl (Nat.le_of_ble_eq_true rfl) (by decide) (by decide) (Nat.le_of_ble_eq_true rfl) (by decide) (by decide) (Or.inl rfl) (fun E9 σ9 hq9 _ => nomatch hq9.1) (fun r9 σ9 hq9 hle9 => ?_)
  obtain ⟨h9, h8⟩ := hq9
  rw [h8]
  clear hle9 h8 σ9
  cases h9
  refine J.if_ne dX7_drop_11 (by decide) (tgt := 20) (by unfold inI; omega) (fun hb11 => ?_) (fun hb11 => ?_)
  · refine J.bipush dX7_drop_20 (by decide) ?_
    refine J.ild_n dX7_drop_22 rfl ?_
    refine J.imul dX7_drop_23 ?_
    rw [show (40 : Int) * ((b : Nat) : Int) = ((40 * b : Nat) : Int) from by push_cast; rfl]
    refine J.ild_n dX7_drop_24 rfl ?_
    refine J.iadd dX7_drop_25 ?_
    rw [show (((40 * b : Nat) : Int) : Int) + ((e : Nat) : Int) = (((40 * b) + e : Nat) : Int) from by push_cast; rfl]
    refine J.ist_n dX7_drop_26 (by decide) (jnc_of rfl rfl) ?_
    have L : ∀ (t k : Nat) (σ' : jS) (Mc Ms : Nat → Nat) (Mp : Nat → Int) (u : Value), k + t + 1 = bn b → e ≤ k → u.category = 1 → σ'.1 = σ.1 → (∀ j, j ≠ 37 → (j < 42 ∨ 44 < j) → σ'.2 j = σ.2 j) → MO σ' 0 pr ((ln : Nat) : Int) ((kn : Nat) : Int) ((mn : Nat) : Int) ((rd : Nat) : Int) pa ps → σ'.2 42 = jI 120 (fun e => ((Mc e : Nat) : Int)) → σ'.2 43 = jI 120 (fun e => ((Ms e : Nat) : Int)) → σ'.2 44 = jI 720 Mp → drR cd b e k Mc → drR sz b e k Ms → drP ph b e (k * 6) Mp → J X mX7_drop rX7_drop 27 [.ref 37, vI ((b : Nat) : Int), vI ((e : Nat) : Int), vI ((40 * b + k : Nat) : Int), u] [] 0 0 σ' (MP 0 (((bn b - 1 : Nat) : Int)) σ (fun σ1 => MW σ1 0 pr ln lw (jup bn b (bn b - 1)) (jup cd b (shN (cd b) e (bn b))) (jup sz b (shN (sz b) e (bn b))) (jup ph b (jcp (ph b) (ph b) ((e + 1) * 6) (e * 6) ((bn b - (e + 1)) * 6))) mn mg kn kr ks kt rd rg)) := by
      intro t
      induction t with
      | zero =>
        intro k σ' Mc Ms Mp u hk he2 hu h1 h2 h3 k42 k43 k44 r1 r2 r3
        refine J.ild_n dX7_drop_27 rfl ?_
        refine J.iconst dX7_drop_28 ?_
        refine J.iadd dX7_drop_29 ?_
        rw [show (((40 * b + k : Nat) : Int) : Int) + 1 = (((40 * b + k) + 1 : Nat) : Int) from by push_cast; rfl]
        refine J.bipush dX7_drop_30 (by decide) ?_
        refine J.ild_n dX7_drop_32 rfl ?_
        refine J.imul dX7_drop_33 ?_
        rw [show (40 : Int) * ((b : Nat) : Int) = ((40 * b : Nat) : Int) from by push_cast; rfl]
        refine J.ald_n dX7_drop_34 rfl ?_
        refine gf_X7_23 rfl dX7_drop_35 h3 ?_
        refine J.ild_n dX7_drop_38 rfl ?_
        refine J.iald b dX7_drop_39 ((h2 _ (by omega) (by omega)).trans h41) rfl (by omega) (by omega) ?_
        refine J.iadd dX7_drop_40 ?_
        rw [show (((40 * b : Nat) : Int) : Int) + ((bn b : Nat) : Int) = (((40 * b) + (bn b) : Nat) : Int) from by push_cast; rfl]
        refine J.icmp_ge dX7_drop_41 (by decide) (tgt := 121) (by unfold inI; omega) (by unfold inI; omega) (fun h => ?_) (fun h => ?_)
        · refine J.ald_n dX7_drop_121 rfl ?_
          refine gf_X7_23 rfl dX7_drop_122 h3 ?_
          refine J.ild_n dX7_drop_125 rfl ?_
          refine J.dup2 dX7_drop_126 rfl rfl ?_
          refine J.iald b dX7_drop_127 ((h2 _ (by omega) (by omega)).trans h41) rfl (by omega) (by omega) ?_
          refine J.iconst dX7_drop_128 ?_
          refine J.isub dX7_drop_129 ?_
          rw [show ((bn b : Nat) : Int) - 1 = ((bn b - 1 : Nat) : Int) from by omega]
          refine J.iast b dX7_drop_130 ((h2 _ (by omega) (by omega)).trans h41) (by omega) rfl (by omega) (by omega) ?_
          refine J.ald_n dX7_drop_131 rfl ?_
          refine gf_X7_23 rfl dX7_drop_132 ((jset_ne _ _ (by omega)).trans h3) ?_
          refine J.ild_n dX7_drop_135 rfl ?_
          refine J.iald b dX7_drop_136 (jset_eq _ _ _) rfl (by omega) (by omega) ?_
          rw [show (jup (fun e => ((bn e : Nat) : Int)) b ((bn b - 1 : Nat) : Int)) b = ((bn b - 1 : Nat) : Int) from jup_eq _ _ _]
          have hk1 : k = bn b - 1 := by omega
          subst hk1
          refine J.iret .int dX7_drop_137 rfl rfl (by decide) (by decide) ?_
          exact ⟨⟨_, rfl, fun _ => rfl⟩, ⟨⟨pa, ps, ((jset_ne _ _ (by omega)).trans h3)⟩, ⟨ml, ((jset_ne _ _ (by omega)).trans ((h2 _ (by omega) (by omega)).trans h38)), hml, hmi⟩, ((jset_ne _ _ (by omega)).trans ((h2 _ (by omega) (by omega)).trans h39)), ⟨Kw, ((jset_ne _ _ (by omega)).trans ((h2 _ (by omega) (by omega)).trans h40)), hw9, hkw⟩, (by rw [← jup_cast]; exact (jset_eq _ _ _)), ⟨Mc, ((jset_ne _ _ (by omega)).trans k42), drR_fin r1 he⟩, ⟨Ms, ((jset_ne _ _ (by omega)).trans k43), drR_fin r2 he⟩, ⟨Mp, ((jset_ne _ _ (by omega)).trans k44), drP_fin r3 he⟩, ((jset_ne _ _ (by omega)).trans ((h2 _ (by omega) (by omega)).trans h45)), ((jset_ne _ _ (by omega)).trans ((h2 _ (by omega) (by omega)).trans h46)), ⟨_, ((jset_ne _ _ (by omega)).trans ((h2 _ (by omega) (by omega)).trans h47))⟩, ⟨_, ((jset_ne _ _ (by omega)).trans ((h2 _ (by omega) (by omega)).trans h48))⟩⟩, h1, fun j hj => ((jset_ne _ _ (by omega)).trans ((h2 _ (by omega) (by omega)).trans (rfl : σ.2 j = σ.2 j)))⟩
        · omega
      | succ t ih =>
        intro k σ' Mc Ms Mp u hk he2 hu h1 h2 h3 k42 k43 k44 r1 r2 r3
        refine J.ild_n dX7_drop_27 rfl ?_
        refine J.iconst dX7_drop_28 ?_
        refine J.iadd dX7_drop_29 ?_
        rw [show (((40 * b + k : Nat) : Int) : Int) + 1 = (((40 * b + k) + 1 : Nat) : Int) from by push_cast; rfl]
        refine J.bipush dX7_drop_30 (by decide) ?_
        refine J.ild_n dX7_drop_32 rfl ?_
        refine J.imul dX7_drop_33 ?_
        rw [show (40 : Int) * ((b : Nat) : Int) = ((40 * b : Nat) : Int) from by push_cast; rfl]
        refine J.ald_n dX7_drop_34 rfl ?_
        refine gf_X7_23 rfl dX7_drop_35 h3 ?_
        refine J.ild_n dX7_drop_38 rfl ?_
        refine J.iald b dX7_drop_39 ((h2 _ (by omega) (by omega)).trans h41) rfl (by omega) (by omega) ?_
        refine J.iadd dX7_drop_40 ?_
        rw [show (((40 * b : Nat) : Int) : Int) + ((bn b : Nat) : Int) = (((40 * b) + (bn b) : Nat) : Int) from by push_cast; rfl]
        refine J.icmp_ge dX7_drop_41 (by decide) (tgt := 121) (by unfold inI; omega) (by unfold inI; omega) (fun h => ?_) (fun h => ?_)
        · omega
        · refine J.ald_n dX7_drop_44 rfl ?_
          refine gf_X7_26 rfl dX7_drop_45 h3 ?_
          refine J.ild_n dX7_drop_48 rfl ?_
          refine J.ald_n dX7_drop_49 rfl ?_
          refine gf_X7_26 rfl dX7_drop_50 h3 ?_
          refine J.ild_n dX7_drop_53 rfl ?_
          refine J.iconst dX7_drop_54 ?_
          refine J.iadd dX7_drop_55 ?_
          rw [show (((40 * b + k : Nat) : Int) : Int) + 1 = (((40 * b + k) + 1 : Nat) : Int) from by push_cast; rfl]
          refine J.iald ((40 * b + k) + 1) dX7_drop_56 k42 rfl (by omega) (by omega) ?_
          refine J.iast (40 * b + k) dX7_drop_57 k42 (by omega) rfl (by omega) (by omega) ?_
          refine J.ald_n dX7_drop_58 rfl ?_
          refine gf_X7_29 rfl dX7_drop_59 ((jset_ne _ _ (by omega)).trans h3) ?_
          refine J.ild_n dX7_drop_62 rfl ?_
          refine J.ald_n dX7_drop_63 rfl ?_
          refine gf_X7_29 rfl dX7_drop_64 ((jset_ne _ _ (by omega)).trans h3) ?_
          refine J.ild_n dX7_drop_67 rfl ?_
          refine J.iconst dX7_drop_68 ?_
          refine J.iadd dX7_drop_69 ?_
          rw [show (((40 * b + k : Nat) : Int) : Int) + 1 = (((40 * b + k) + 1 : Nat) : Int) from by push_cast; rfl]
          refine J.iald ((40 * b + k) + 1) dX7_drop_70 ((jset_ne _ _ (by omega)).trans k43) rfl (by omega) (by omega) ?_
          refine J.iast (40 * b + k) dX7_drop_71 ((jset_ne _ _ (by omega)).trans k43) (by omega) rfl (by omega) (by omega) ?_
          refine J.iconst dX7_drop_72 ?_
          refine J.ist dX7_drop_73 (by decide) (jnc_of rfl rfl) ?_
          have L2 : ∀ (t2 w : Nat) (σ2 : jS) (Mp : Nat → Int), w + t2 = 6 → σ2.1 = σ.1 → (∀ j, j ≠ 37 → (j < 42 ∨ 44 < j) → σ2.2 j = σ.2 j) → MO σ2 0 pr ((ln : Nat) : Int) ((kn : Nat) : Int) ((mn : Nat) : Int) ((rd : Nat) : Int) pa ps → σ2.2 42 = jI 120 (fun e => ((jup Mc (40 * b + k) (Mc (40 * b + k + 1)) : Nat → Nat) e : Int)) → σ2.2 43 = jI 120 (fun e => ((jup Ms (40 * b + k) (Ms (40 * b + k + 1)) : Nat → Nat) e : Int)) → σ2.2 44 = jI 720 Mp → drP ph b e (k * 6 + w) Mp → J X mX7_drop rX7_drop 75 [.ref 37, vI ((b : Nat) : Int), vI ((e : Nat) : Int), vI ((40 * b + k : Nat) : Int), vI ((w : Nat) : Int)] [] 0 0 σ2 (MP 0 (((bn b - 1 : Nat) : Int)) σ (fun σ1 => MW σ1 0 pr ln lw (jup bn b (bn b - 1)) (jup cd b (shN (cd b) e (bn b))) (jup sz b (shN (sz b) e (bn b))) (jup ph b (jcp (ph b) (ph b) ((e + 1) * 6) (e * 6) ((bn b - (e + 1)) * 6))) mn mg kn kr ks kt rd rg)) := by
            intro t2
            induction t2 with
            | zero =>
              intro w σ2 Mp hw m1 m2 m3 m42 m43 m44 r4
              refine J.ild dX7_drop_75 rfl ?_
              refine J.bipush dX7_drop_77 (by decide) ?_
              refine J.icmp_ge dX7_drop_79 (by decide) (tgt := 115) (by unfold inI; omega) (by unfold inI; omega) (fun h5 => ?_) (fun h5 => ?_)
              · refine J.iinc (v := ((40 * b + k + 1 : Nat) : Int)) dX7_drop_115 rfl (by first | rfl | omega) (by decide) (jnc_of rfl rfl) ?_
                refine J.goto dX7_drop_118 (by decide) (tgt := 27) ?_
                exact ih (k + 1) σ2 _ _ Mp _ (by omega) (by omega) rfl m1 m2 m3 m42 m43 m44 (drR_step r1 hb he2 (by omega)) (drR_step r2 hb he2 (by omega)) (by rw [show (k + 1) * 6 = k * 6 + w by omega]; exact r4)
              · omega
            | succ t2 ih2 =>
              intro w σ2 Mp hw m1 m2 m3 m42 m43 m44 r4
              refine J.ild dX7_drop_75 rfl ?_
              refine J.bipush dX7_drop_77 (by decide) ?_
              refine J.icmp_ge dX7_drop_79 (by decide) (tgt := 115) (by unfold inI; omega) (by unfold inI; omega) (fun h5 => ?_) (fun h5 => ?_)
              · omega
              · refine J.ald_n dX7_drop_82 rfl ?_
                refine gf_X7_32 rfl dX7_drop_83 m3 ?_
                refine J.bipush dX7_drop_86 (by decide) ?_
                refine J.ild_n dX7_drop_88 rfl ?_
                refine J.imul dX7_drop_89 ?_
                rw [show (6 : Int) * ((40 * b + k : Nat) : Int) = ((6 * (40 * b + k) : Nat) : Int) from by push_cast; rfl]
                refine J.ild dX7_drop_90 rfl ?_
                refine J.iadd dX7_drop_92 ?_
                rw [show (((6 * (40 * b + k) : Nat) : Int) : Int) + ((w : Nat) : Int) = (((6 * (40 * b + k)) + w : Nat) : Int) from by push_cast; rfl]
                refine J.ald_n dX7_drop_93 rfl ?_
                refine gf_X7_32 rfl dX7_drop_94 m3 ?_
                refine J.bipush dX7_drop_97 (by decide) ?_
                refine J.ild_n dX7_drop_99 rfl ?_
                refine J.imul dX7_drop_100 ?_
                rw [show (6 : Int) * ((40 * b + k : Nat) : Int) = ((6 * (40 * b + k) : Nat) : Int) from by push_cast; rfl]
                refine J.bipush dX7_drop_101 (by decide) ?_
                refine J.iadd dX7_drop_103 ?_
                rw [show (((6 * (40 * b + k) : Nat) : Int) : Int) + 6 = (((6 * (40 * b + k)) + 6 : Nat) : Int) from by push_cast; rfl]
                refine J.ild dX7_drop_104 rfl ?_
                refine J.iadd dX7_drop_106 ?_
                rw [show ((((6 * (40 * b + k)) + 6 : Nat) : Int) : Int) + ((w : Nat) : Int) = ((((6 * (40 * b + k)) + 6) + w : Nat) : Int) from by push_cast; rfl]
                refine J.iald (240 * b + (k * 6 + w) + 6) dX7_drop_107 m44 (by omega) (by omega) (by omega) ?_
                refine J.iast (240 * b + (k * 6 + w)) dX7_drop_108 m44 (by omega) (by omega) (by omega) (by omega) ?_
                refine J.iinc (v := ((w + 1 : Nat) : Int)) dX7_drop_109 rfl (by first | rfl | omega) (by decide) (jnc_of rfl rfl) ?_
                refine J.goto dX7_drop_112 (by decide) (tgt := 75) ?_
                exact ih2 (w + 1) _ _ (by omega) m1 (fun j q1 q2 => by rw [jset_ne _ _ (by omega)]; exact m2 j q1 q2) ((jset_ne _ _ (by omega)).trans m3) ((jset_ne _ _ (by omega)).trans m42) ((jset_ne _ _ (by omega)).trans m43) (jset_eq _ _ _) (drP_step (t := k * 6 + w) r4 hb (by omega) (by omega))
          exact L2 6 0 _ Mp (by omega) h1 (fun j q1 q2 => by rw [jset_ne _ _ (by omega), jset_ne _ _ (by omega)]; exact h2 j q1 q2) ((jset_ne _ _ (by omega)).trans ((jset_ne _ _ (by omega)).trans h3)) (by rw [← jup_cast]; exact ((jset_ne _ _ (by omega)).trans (jset_eq _ _ _))) (by rw [← jup_cast]; exact (jset_eq _ _ _)) ((jset_ne _ _ (by omega)).trans ((jset_ne _ _ (by omega)).trans k44)) r3
    exact L (bn b - e - 1) e _ Mc Ms Mp _ (by omega) (Nat.le_refl _) rfl rfl (fun j q1 q2 => jset_ne _ _ q1) (jset_eq _ _ _) ((jset_ne _ _ (by omega)).trans h42) ((jset_ne _ _ (by omega)).trans h43) ((jset_ne _ _ (by omega)).trans h44) (fun b' x hb' hx => by rw [if_neg (by omega)]; exact hMc b' x hb' hx) (fun b' x hb' hx => by rw [if_neg (by omega)]; exact hMs b' x hb' hx) (fun b' x hb' hx => by rw [if_neg (by omega)]; exact hMp b' x hb' hx)
  · first | exact absurd hb11 (by decide) | exact absurd rfl hb11 | omega
set_option maxRecDepth 20000 in
theorem m_cost {X : jX} {σ : jS} {pr : Int} {ln : Nat} {lw : Nat → Int} {bn : Nat → Nat} {cd sz : Nat → Nat → Nat} {ph : Nat → Nat → Int} {mn : Nat} {mg : Nat → Int} {kn : Nat} {kr : Nat → Int} {ks : Nat → Nat} {kt : Nat → Nat → Int} {rd : Nat} {rg : Nat → Int} {th : Int}  (hM : MW σ th pr ln lw bn cd sz ph mn mg kn kr ks kt rd rg) (hI : CI pr ln lw bn cd sz ph mn mg kn kr ks kt rd rg)  : JM X mX7_cost rX7_cost [.ref 37] σ (MP 0 (csL mg pr mn 0) σ (fun σ1 => MW σ1 0 pr ln lw bn cd sz ph mn mg kn kr ks kt rd rg)) := by
  refine JM.of (lc := [.ref 37, .null, .null]) rfl ?_
  obtain ⟨hpr, ⟨hln, hlw⟩, hbk, ⟨hmn, hmg⟩, hki, hrd, hrg⟩ := id hI
  obtain ⟨⟨pa, ps, hO⟩, ⟨ml, h38, hml, hmi⟩, h39, ⟨Kw, h40, hw9, hkw⟩, h41, ⟨Mc, h42, hMc⟩, ⟨Ms, h43, hMs⟩, ⟨Mp, h44, hMp⟩, h45, h46, ⟨lf, h47⟩, ⟨pc, h48⟩⟩ := id hM
  have hkn := hki.1
  refine J.ald_n dX7_cost_0 rfl ?_
  refine J.iconst dX7_cost_1 ?_
  refine pf_X7_47 rfl dX7_cost_2 hO ?_
  refine J.iconst dX7_cost_5 ?_
  refine J.ist_n dX7_cost_6 (by decide) (jnc_of rfl rfl) ?_
  refine J.iconst dX7_cost_7 ?_
  refine J.ist_n dX7_cost_8 (by decide) (jnc_of rfl rfl) ?_
  have L : ∀ (t : Nat), ∀ (a : Nat) (u : Int), a + t = mn → u + csL mg pr t a = csL mg pr mn 0 → J X mX7_cost rX7_cost 9 [.ref 37, vI u, vI ((a : Nat) : Int)] [] 0 0 (jset σ 37 (jO 6 [vI 0, vI pr, .ref 38, vI ((ln : Nat) : Int), vI ((kn : Nat) : Int), .ref 39, .ref 40, .ref 41, .ref 42, .ref 43, .ref 44, vI ((mn : Nat) : Int), .ref 45, vI ((rd : Nat) : Int), .ref 46, .ref 47, .ref 48, vI pa, vI ps])) (MP 0 (csL mg pr mn 0) σ (fun σ1 => MW σ1 0 pr ln lw bn cd sz ph mn mg kn kr ks kt rd rg)) := by
    intro t
    induction t with
    | zero =>
      intro a u ha hu
      refine J.ild_n dX7_cost_9 rfl ?_
      refine J.ald_n dX7_cost_10 rfl ?_
      refine gf_X7_124 rfl dX7_cost_11 (jset_eq _ _ _) ?_
      refine J.icmp_ge dX7_cost_14 (by decide) (tgt := 43) (by unfold inI; omega) (by unfold inI; omega) (fun h => ?_) (fun h => ?_)
      · refine J.ild_n dX7_cost_43 rfl ?_
        have hu9 : u = csL mg pr mn 0 := by rw [← hu]; exact (Int.add_zero u).symm
        refine J.iret .int dX7_cost_44 rfl rfl (by decide) (by decide) ?_
        exact ⟨⟨_, rfl, fun _ => hu9⟩, ⟨⟨pa, ps, (jset_eq _ _ _)⟩, ⟨ml, ((jset_ne _ _ (by omega)).trans h38), hml, hmi⟩, ((jset_ne _ _ (by omega)).trans h39), ⟨Kw, ((jset_ne _ _ (by omega)).trans h40), hw9, hkw⟩, ((jset_ne _ _ (by omega)).trans h41), ⟨Mc, ((jset_ne _ _ (by omega)).trans h42), hMc⟩, ⟨Ms, ((jset_ne _ _ (by omega)).trans h43), hMs⟩, ⟨Mp, ((jset_ne _ _ (by omega)).trans h44), hMp⟩, ((jset_ne _ _ (by omega)).trans h45), ((jset_ne _ _ (by omega)).trans h46), ⟨_, ((jset_ne _ _ (by omega)).trans h47)⟩, ⟨_, ((jset_ne _ _ (by omega)).trans h48)⟩⟩, rfl, fun j hj => ((jset_ne _ _ (by omega)).trans (rfl : σ.2 j = σ.2 j))⟩
      · omega
    | succ t ih =>
      intro a u ha hu
      have hmga := hmg a
      refine J.ild_n dX7_cost_9 rfl ?_
      refine J.ald_n dX7_cost_10 rfl ?_
      refine gf_X7_124 rfl dX7_cost_11 (jset_eq _ _ _) ?_
      refine J.icmp_ge dX7_cost_14 (by decide) (tgt := 43) (by unfold inI; omega) (by unfold inI; omega) (fun h => ?_) (fun h => ?_)
      · omega
      · refine J.ild_n dX7_cost_17 rfl ?_
        refine J.ald_n dX7_cost_18 rfl ?_
        refine gf_X7_35 rfl dX7_cost_19 (jset_eq _ _ _) ?_
        refine J.ild_n dX7_cost_22 rfl ?_
        refine J.iald a dX7_cost_23 ((jset_ne _ _ (by omega)).trans h45) rfl (by omega) (by omega) ?_
        refine J.if_ge dX7_cost_24 (by decide) (tgt := 34) (by unfold inI; omega) (fun h2 => ?_) (fun h2 => ?_)
        · refine J.iconst dX7_cost_34 ?_
          refine J.iadd dX7_cost_35 ?_
          refine J.ist_n dX7_cost_36 (by decide) (jnc_of rfl rfl) ?_
          refine J.iinc (v := ((a + 1 : Nat) : Int)) dX7_cost_37 rfl (by first | rfl | omega) (by decide) (jnc_of rfl rfl) ?_
          refine J.goto dX7_cost_40 (by decide) (tgt := 9) ?_
          refine ih (a + 1) (u + 1) (by omega) ?_
          rw [← hu, show csL mg pr (t + 1) a = (if mg a < 0 then pr else 1) + csL mg pr t (a + 1) from rfl, if_neg (by omega)]
          exact Int.add_assoc _ _ _
        · refine J.ald_n dX7_cost_27 rfl ?_
          refine gf_X7_7 rfl dX7_cost_28 (jset_eq _ _ _) ?_
          refine J.goto dX7_cost_31 (by decide) (tgt := 35) ?_
          refine J.iadd dX7_cost_35 ?_
          refine J.ist_n dX7_cost_36 (by decide) (jnc_of rfl rfl) ?_
          refine J.iinc (v := ((a + 1 : Nat) : Int)) dX7_cost_37 rfl (by first | rfl | omega) (by decide) (jnc_of rfl rfl) ?_
          refine J.goto dX7_cost_40 (by decide) (tgt := 9) ?_
          refine ih (a + 1) (u + pr) (by omega) ?_
          rw [← hu, show csL mg pr (t + 1) a = (if mg a < 0 then pr else 1) + csL mg pr t (a + 1) from rfl, if_pos (by omega)]
          exact Int.add_assoc _ _ _
  exact L mn 0 0 (by omega) (Int.zero_add _)
set_option maxRecDepth 20000 in
theorem m_time {X : jX} {σ : jS} {pr : Int} {ln : Nat} {lw : Nat → Int} {bn : Nat → Nat} {cd sz : Nat → Nat → Nat} {ph : Nat → Nat → Int} {mn : Nat} {mg : Nat → Int} {kn : Nat} {kr : Nat → Int} {ks : Nat → Nat} {kt : Nat → Nat → Int} {rd : Nat} {rg : Nat → Int} {th : Int} {lu du : Nat → Int} (hM : MW σ th pr ln lw bn cd sz ph mn mg kn kr ks kt rd rg) (hI : CI pr ln lw bn cd sz ph mn mg kn kr ks kt rd rg) (eL : σ.2 2 = jI 26 lu) (eD : σ.2 3 = jI 10 du) : JM X mX7_time rX7_time [.ref 37] σ (MP 0 (tmL lu du mg mn 0) σ (fun σ1 => MW σ1 0 pr ln lw bn cd sz ph mn mg kn kr ks kt rd rg)) := by
  refine JM.of (lc := [.ref 37, .null, .null]) rfl ?_
  obtain ⟨hpr, ⟨hln, hlw⟩, hbk, ⟨hmn, hmg⟩, hki, hrd, hrg⟩ := id hI
  obtain ⟨⟨pa, ps, hO⟩, ⟨ml, h38, hml, hmi⟩, h39, ⟨Kw, h40, hw9, hkw⟩, h41, ⟨Mc, h42, hMc⟩, ⟨Ms, h43, hMs⟩, ⟨Mp, h44, hMp⟩, h45, h46, ⟨lf, h47⟩, ⟨pc, h48⟩⟩ := id hM
  have hkn := hki.1
  refine J.ald_n dX7_time_0 rfl ?_
  refine J.iconst dX7_time_1 ?_
  refine pf_X7_47 rfl dX7_time_2 hO ?_
  refine J.iconst dX7_time_5 ?_
  refine J.ist_n dX7_time_6 (by decide) (jnc_of rfl rfl) ?_
  refine J.iconst dX7_time_7 ?_
  refine J.ist_n dX7_time_8 (by decide) (jnc_of rfl rfl) ?_
  have L : ∀ (t : Nat), ∀ (a : Nat) (u : Int), a + t = mn → u + tmL lu du mg t a = tmL lu du mg mn 0 → J X mX7_time rX7_time 9 [.ref 37, vI u, vI ((a : Nat) : Int)] [] 0 0 (jset σ 37 (jO 6 [vI 0, vI pr, .ref 38, vI ((ln : Nat) : Int), vI ((kn : Nat) : Int), .ref 39, .ref 40, .ref 41, .ref 42, .ref 43, .ref 44, vI ((mn : Nat) : Int), .ref 45, vI ((rd : Nat) : Int), .ref 46, .ref 47, .ref 48, vI pa, vI ps])) (MP 0 (tmL lu du mg mn 0) σ (fun σ1 => MW σ1 0 pr ln lw bn cd sz ph mn mg kn kr ks kt rd rg)) := by
    intro t
    induction t with
    | zero =>
      intro a u ha hu
      refine J.ild_n dX7_time_9 rfl ?_
      refine J.ald_n dX7_time_10 rfl ?_
      refine gf_X7_124 rfl dX7_time_11 (jset_eq _ _ _) ?_
      refine J.icmp_ge dX7_time_14 (by decide) (tgt := 46) (by unfold inI; omega) (by unfold inI; omega) (fun h => ?_) (fun h => ?_)
      · refine J.ild_n dX7_time_46 rfl ?_
        have hu9 : u = tmL lu du mg mn 0 := by rw [← hu]; exact (Int.add_zero u).symm
        refine J.iret .int dX7_time_47 rfl rfl (by decide) (by decide) ?_
        exact ⟨⟨_, rfl, fun _ => hu9⟩, ⟨⟨pa, ps, (jset_eq _ _ _)⟩, ⟨ml, ((jset_ne _ _ (by omega)).trans h38), hml, hmi⟩, ((jset_ne _ _ (by omega)).trans h39), ⟨Kw, ((jset_ne _ _ (by omega)).trans h40), hw9, hkw⟩, ((jset_ne _ _ (by omega)).trans h41), ⟨Mc, ((jset_ne _ _ (by omega)).trans h42), hMc⟩, ⟨Ms, ((jset_ne _ _ (by omega)).trans h43), hMs⟩, ⟨Mp, ((jset_ne _ _ (by omega)).trans h44), hMp⟩, ((jset_ne _ _ (by omega)).trans h45), ((jset_ne _ _ (by omega)).trans h46), ⟨_, ((jset_ne _ _ (by omega)).trans h47)⟩, ⟨_, ((jset_ne _ _ (by omega)).trans h48)⟩⟩, rfl, fun j hj => ((jset_ne _ _ (by omega)).trans (rfl : σ.2 j = σ.2 j))⟩
      · omega
    | succ t ih =>
      intro a u ha hu
      have hmga := hmg a
      refine J.ild_n dX7_time_9 rfl ?_
      refine J.ald_n dX7_time_10 rfl ?_
      refine gf_X7_124 rfl dX7_time_11 (jset_eq _ _ _) ?_
      refine J.icmp_ge dX7_time_14 (by decide) (tgt := 46) (by unfold inI; omega) (by unfold inI; omega) (fun h => ?_) (fun h => ?_)
      · omega
      · refine J.ild_n dX7_time_17 rfl ?_
        refine J.ald_n dX7_time_18 rfl ?_
        refine gf_X7_35 rfl dX7_time_19 (jset_eq _ _ _) ?_
        refine J.ild_n dX7_time_22 rfl ?_
        refine J.iald a dX7_time_23 ((jset_ne _ _ (by omega)).trans h45) rfl (by omega) (by omega) ?_
        refine J.callS (rm' := rX7_unitsOf) [vI (mg a)] dX7_time_24 (c_X7_unitsOf hmga ((jset_ne _ _ (by omega)).trans eL) ((jset_ne _ _ (by omega)).trans eD)) st_X7_unitsOf ml_X7_146 sm_X7_unitsOf rfl (Nat.le_of_ble_eq_true rfl) (by decide) (by decide) (Nat.le_of_ble_eq_true rfl) (by decide) (by decide) (Or.inl rfl) (fun E9 σ9 hq9 _ => nomatch hq9.1) (fun r9 σ9 hq9 hle9 => ?_)
        obtain ⟨h9, h8⟩ := hq9
        rw [h8]
        clear hle9 h8 σ9
        cases h9
        refine J.ild_n dX7_time_27 rfl ?_
        refine J.if_le dX7_time_28 (by decide) (tgt := 36) (by unfold inI; omega) (fun h2 => ?_) (fun h2 => ?_)
        · refine J.iconst dX7_time_36 ?_
          refine J.iadd dX7_time_37 ?_
          refine J.iadd dX7_time_38 ?_
          refine J.ist_n dX7_time_39 (by decide) (jnc_of rfl rfl) ?_
          refine J.iinc (v := ((a + 1 : Nat) : Int)) dX7_time_40 rfl (by first | rfl | omega) (by decide) (jnc_of rfl rfl) ?_
          refine J.goto dX7_time_43 (by decide) (tgt := 9) ?_
          refine ih (a + 1) _ (by omega) ?_
          rw [← hu, show tmL lu du mg (t + 1) a = (if a = 0 then 0 else 7) + tmG lu du (mg a) + tmL lu du mg t (a + 1) from rfl, if_pos (show a = 0 by omega)]
          omega
        · refine J.bipush dX7_time_31 (by decide) ?_
          refine J.goto dX7_time_33 (by decide) (tgt := 37) ?_
          refine J.iadd dX7_time_37 ?_
          refine J.iadd dX7_time_38 ?_
          refine J.ist_n dX7_time_39 (by decide) (jnc_of rfl rfl) ?_
          refine J.iinc (v := ((a + 1 : Nat) : Int)) dX7_time_40 rfl (by first | rfl | omega) (by decide) (jnc_of rfl rfl) ?_
          refine J.goto dX7_time_43 (by decide) (tgt := 9) ?_
          refine ih (a + 1) _ (by omega) ?_
          rw [← hu, show tmL lu du mg (t + 1) a = (if a = 0 then 0 else 7) + tmG lu du (mg a) + tmL lu du mg t (a + 1) from rfl, if_neg (show ¬ a = 0 by omega)]
          omega
  exact L mn 0 0 (by omega) (Int.zero_add _)
