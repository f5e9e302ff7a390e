set_option maxRecDepth 20000 in
theorem c_say_0 {X : jX} {σ : jS} {pr : Int} {ln : Nat} {lw : Nat → Int} {bn : Nat → Nat} {cd sz : Nat → Nat → Nat} {ph : Nat → Nat → Int} {mn : Nat} {mg : Nat → Int} {kn : Nat} {kr : Nat → Int} {ks : Nat → Nat} {kt : Nat → Nat → Int} {rd : Nat} {rg : Nat → Int} {a : Int} (hW : CW σ pr ln lw bn cd sz ph mn mg kn kr ks kt rd rg) (hI : CI pr ln lw bn cd sz ph mn mg kn kr ks kt rd rg) (ha : 0 ≤ a ∧ a ≤ 9999) (h : ln < 40) : JM X mX6_say rX6_say [.ref 5, vI a] σ (XP (oI ((ln + 1 : Nat) : Int)) σ (fun σ1 => CW σ1 pr (ln + 1) (jup lw ln a) bn cd sz ph mn mg kn kr ks kt rd rg)) := by
  refine JM.of (lc := [.ref 5, vI a]) rfl ?_
  obtain ⟨hpr, ⟨hln, hlw⟩, hbk, ⟨hmn, hmg⟩, hki, hrd, hrg⟩ := id hI
  obtain ⟨gB, eB, hgB⟩ := hW.1.2.1
  obtain ⟨gT, eT, hgT⟩ := hW.2.2.2.1.2.2.2.1
  have hkn := hki.1
  refine J.ild_n dX6_say_0 rfl ?_
  refine J.if_lt dX6_say_1 (by decide) (tgt := 11) (by unfold inI; omega) (fun hb1 => ?_) (fun hb1 => ?_)
  · first | omega | exact absurd rfl hb1 | exact absurd hb1 (by decide)
  · refine J.ild_n dX6_say_4 rfl ?_
    refine J.sipush dX6_say_5 (by decide) ?_
    refine J.icmp_le dX6_say_8 (by decide) (tgt := 21) (by unfold inI; omega) (by unfold inI; omega) (fun hb8 => ?_) (fun hb8 => ?_)
    · refine J.ald_n dX6_say_21 rfl ?_
      refine gf_X6_19 rfl dX6_say_22 hW.1.1 ?_
      refine gf_X6_59 rfl dX6_say_25 hW.2.2.1.1 ?_
      refine J.bipush dX6_say_28 (by decide) ?_
      refine J.icmp_lt dX6_say_30 (by decide) (tgt := 43) (by unfold inI; omega) (by unfold inI; omega) (fun hb30 => ?_) (fun hb30 => ?_)
      · refine J.ald_n dX6_say_43 rfl ?_
        refine gf_X6_19 rfl dX6_say_44 hW.1.1 ?_
        refine J.ild_n dX6_say_47 rfl ?_
        refine J.callV (rm' := rX4_append) [vI a] dX6_say_48 (c_X4_append hW.2.2.1.1 hW.2.2.1.2 (by omega) (by omega) hln) hW.2.2.1.1 rfl st_X4_append ml_X6_67 im_X4_append se_X4_append rfl (Nat.le_of_ble_eq_true rfl) (by decide) (by decide) (Nat.le_of_ble_eq_true rfl) (by decide) (by decide) (Or.inl rfl) (fun E9 σ9 hq9 _ => nomatch hq9.1) (fun r9 σ9 hq9 hle9 => ?_)
        obtain ⟨h9, h8⟩ := hq9
        cases h9
        rw [show japp 3 σ 19 20 ln lw a = jset (jset σ 20 (jI 40 (jup lw ln a))) 19 (jO 3 [.ref 20, vI ((ln + 1 : Nat) : Int)]) from if_pos h] at h8
        subst h8
        clear hle9
        refine J.ald_n dX6_say_51 rfl ?_
        refine gf_X6_19 rfl dX6_say_52 ((jset_ne _ _ (by omega)).trans ((jset_ne _ _ (by omega)).trans hW.1.1)) ?_
        refine gf_X6_59 rfl dX6_say_55 (jset_eq _ _ _) ?_
        refine J.iret .int dX6_say_58 rfl rfl (by decide) (by decide) ?_
        exact ⟨rfl, hW.setL (fun j q1 q2 => by rw [jset_ne _ _ q1, jset_ne _ _ q2]) (jset_eq _ _ _) ((jset_ne _ _ (by omega)).trans (jset_eq _ _ _)), rfl, fun j hj => by rw [jset_ne _ _ (by omega), jset_ne _ _ (by omega)]⟩
      · first | omega | exact absurd rfl hb30 | exact absurd hb30 (by decide)
    · first | omega | exact absurd rfl hb8 | exact absurd hb8 (by decide)
set_option maxRecDepth 20000 in
theorem c_words {X : jX} {σ : jS} {pr : Int} {ln : Nat} {lw : Nat → Int} {bn : Nat → Nat} {cd sz : Nat → Nat → Nat} {ph : Nat → Nat → Int} {mn : Nat} {mg : Nat → Int} {kn : Nat} {kr : Nat → Int} {ks : Nat → Nat} {kt : Nat → Nat → Int} {rd : Nat} {rg : Nat → Int}  (hW : CW σ pr ln lw bn cd sz ph mn mg kn kr ks kt rd rg) (hI : CI pr ln lw bn cd sz ph mn mg kn kr ks kt rd rg)  : JM X mX6_words rX6_words [.ref 5] σ (XP (oI ((ln : Nat) : Int)) σ (fun σ1 => CW σ1 pr ln lw bn cd sz ph mn mg kn kr ks kt rd rg)) := by
  refine JM.of (lc := [.ref 5]) rfl ?_
  obtain ⟨hpr, ⟨hln, hlw⟩, hbk, ⟨hmn, hmg⟩, hki, hrd, hrg⟩ := id hI
  obtain ⟨gB, eB, hgB⟩ := hW.1.2.1
  obtain ⟨gT, eT, hgT⟩ := hW.2.2.2.1.2.2.2.1
  have hkn := hki.1
  refine J.ald_n dX6_words_0 rfl ?_
  refine gf_X6_19 rfl dX6_words_1 hW.1.1 ?_
  refine gf_X6_59 rfl dX6_words_4 hW.2.2.1.1 ?_
  refine J.iret .int dX6_words_7 rfl rfl (by decide) (by decide) ?_
  exact ⟨rfl, hW, FrC.refl⟩
set_option maxRecDepth 20000 in
theorem c_wordAt_0 {X : jX} {σ : jS} {pr : Int} {ln : Nat} {lw : Nat → Int} {bn : Nat → Nat} {cd sz : Nat → Nat → Nat} {ph : Nat → Nat → Int} {mn : Nat} {mg : Nat → Int} {kn : Nat} {kr : Nat → Int} {ks : Nat → Nat} {kt : Nat → Nat → Int} {rd : Nat} {rg : Nat → Int} {p : Nat} (hW : CW σ pr ln lw bn cd sz ph mn mg kn kr ks kt rd rg) (hI : CI pr ln lw bn cd sz ph mn mg kn kr ks kt rd rg) (hp : p < ln) : JM X mX6_wordAt rX6_wordAt [.ref 5, vI ((p : Nat) : Int)] σ (XP (oI (lw p)) σ (fun σ1 => CW σ1 pr ln lw bn cd sz ph mn mg kn kr ks kt rd rg)) := by
  refine JM.of (lc := [.ref 5, vI ((p : Nat) : Int)]) rfl ?_
  obtain ⟨hpr, ⟨hln, hlw⟩, hbk, ⟨hmn, hmg⟩, hki, hrd, hrg⟩ := id hI
  obtain ⟨gB, eB, hgB⟩ := hW.1.2.1
  obtain ⟨gT, eT, hgT⟩ := hW.2.2.2.1.2.2.2.1
  have hkn := hki.1
  refine J.ild_n dX6_wordAt_0 rfl ?_
  refine J.if_lt dX6_wordAt_1 (by decide) (tgt := 15) (by unfold inI; omega) (fun hb1 => ?_) (fun hb1 => ?_)
  · first | omega | exact absurd rfl hb1 | exact absurd hb1 (by decide)
  · refine J.ild_n dX6_wordAt_4 rfl ?_
    refine J.ald_n dX6_wordAt_5 rfl ?_
    refine gf_X6_19 rfl dX6_wordAt_6 hW.1.1 ?_
    refine gf_X6_59 rfl dX6_wordAt_9 hW.2.2.1.1 ?_
    refine J.icmp_lt dX6_wordAt_12 (by decide) (tgt := 25) (by unfold inI; omega) (by unfold inI; omega) (fun hb12 => ?_) (fun hb12 => ?_)
    · refine J.ald_n dX6_wordAt_25 rfl ?_
      refine gf_X6_19 rfl dX6_wordAt_26 hW.1.1 ?_
      refine gf_X6_79 rfl dX6_wordAt_29 hW.2.2.1.1 ?_
      refine J.ild_n dX6_wordAt_32 rfl ?_
      refine J.iald p dX6_wordAt_33 hW.2.2.1.2 rfl (by omega) (by omega) ?_
      refine J.iret .int dX6_wordAt_34 rfl rfl (by decide) (by decide) ?_
      exact ⟨rfl, hW, FrC.refl⟩
    · first | omega | exact absurd rfl hb12 | exact absurd hb12 (by decide)
set_option maxRecDepth 20000 in
theorem c_keep_0 {X : jX} {σ : jS} {pr : Int} {ln : Nat} {lw : Nat → Int} {bn : Nat → Nat} {cd sz : Nat → Nat → Nat} {ph : Nat → Nat → Int} {mn : Nat} {mg : Nat → Int} {kn : Nat} {kr : Nat → Int} {ks : Nat → Nat} {kt : Nat → Nat → Int} {rd : Nat} {rg : Nat → Int}  (hW : CW σ pr ln lw bn cd sz ph mn mg kn kr ks kt rd rg) (hI : CI pr ln lw bn cd sz ph mn mg kn kr ks kt rd rg) (h : 0 < ln ∧ kn < 12) : JM X mX6_keep rX6_keep [.ref 5] σ (XP (oI ((kn + 1 : Nat) : Int)) σ (fun σ1 => CW σ1 pr 0 lw bn cd sz ph mn mg (kn + 1) (jcp lw kr 0 (kn * 41) ln) (jup ks kn ln) (fun s => cpU (jcp lw kr 0 (kn * 41) ln) (s + 2) (kn * 41 + ln) ln (kn * 41) (kt s) (fun _ => 0)) rd rg)) := by
  refine JM.of (lc := [.ref 5]) rfl ?_
  obtain ⟨hpr, ⟨hln, hlw⟩, hbk, ⟨hmn, hmg⟩, hki, hrd, hrg⟩ := id hI
  obtain ⟨gB, eB, hgB⟩ := hW.1.2.1
  obtain ⟨gT, eT, hgT⟩ := hW.2.2.2.1.2.2.2.1
  have hkn := hki.1
  refine J.ald_n dX6_keep_0 rfl ?_
  refine gf_X6_19 rfl dX6_keep_1 hW.1.1 ?_
  refine gf_X6_59 rfl dX6_keep_4 hW.2.2.1.1 ?_
  refine J.if_ne dX6_keep_7 (by decide) (tgt := 20) (by unfold inI; omega) (fun hb7 => ?_) (fun hb7 => ?_)
  · refine J.ald_n dX6_keep_20 rfl ?_
    refine gf_X6_26 rfl dX6_keep_21 hW.1.1 ?_
    refine gf_X6_84 rfl dX6_keep_24 hW.2.2.2.1.1 ?_
    refine J.bipush dX6_keep_27 (by decide) ?_
    refine J.icmp_lt dX6_keep_29 (by decide) (tgt := 42) (by unfold inI; omega) (by unfold inI; omega) (fun hb29 => ?_) (fun hb29 => ?_)
    · refine J.ald_n dX6_keep_42 rfl ?_
      refine gf_X6_26 rfl dX6_keep_43 hW.1.1 ?_
      refine J.ald_n dX6_keep_46 rfl ?_
      refine gf_X6_19 rfl dX6_keep_47 hW.1.1 ?_
      refine J.callV (rm' := rX3_add) [.ref 19] dX6_keep_50 (c_X3_add hW.2.2.2.1 h.2 hW.2.2.1.1 hW.2.2.1.2 hln (by omega) (by omega) (by omega) (fun t _ => inI_w (hlw t)) (fun t ht => inI_k (hki.2.2.1 t ht))) hW.2.2.2.1.1 rfl st_X3_add ml_X6_87 im_X3_add se_X3_add rfl (Nat.le_of_ble_eq_true rfl) (by decide) (by decide) (Nat.le_of_ble_eq_true rfl) (by decide) (by decide) (Or.inl rfl) (fun E9 σ9 hq9 _ => nomatch hq9.1) (fun r9 σ1 hq9 hle9 => ?_)
      obtain ⟨h9, hK1, hn1, hj1⟩ := hq9
      cases h9
      clear hle9
      refine J.ald_n dX6_keep_53 rfl ?_
      refine gf_X6_19 rfl dX6_keep_54 ((hj1 _ (by omega)).trans hW.1.1) ?_
      refine J.callV (rm' := rX4_clear) [] dX6_keep_57 (c_X4_clear ((hj1 _ (by omega)).trans hW.2.2.1.1)) ((hj1 _ (by omega)).trans hW.2.2.1.1) rfl st_X4_clear ml_X6_71 im_X4_clear se_X4_clear rfl (Nat.le_of_ble_eq_true rfl) (by decide) (by decide) (Nat.le_of_ble_eq_true rfl) (by decide) (by decide) (Or.inl rfl) (fun E9 σ9 hq9 _ => nomatch hq9.1) (fun r9 σ9 hq9 hle9 => ?_)
      obtain ⟨h9, h8⟩ := hq9
      cases h9
      subst h8
      clear hle9
      refine J.ald_n dX6_keep_60 rfl ?_
      refine gf_X6_26 rfl dX6_keep_61 ((jset_ne _ _ (by omega)).trans ((hj1 _ (by omega)).trans hW.1.1)) ?_
      refine gf_X6_84 rfl dX6_keep_64 ((jset_ne _ _ (by omega)).trans hK1.1) ?_
      refine J.iret .int dX6_keep_67 rfl rfl (by decide) (by decide) ?_
      exact ⟨rfl, (hW.setK hj1 hK1).setL (fun j q1 q2 => by rw [jset_ne _ _ q1]) (jset_eq _ _ _) ((jset_ne _ _ (by omega)).trans ((hj1 _ (by omega)).trans hW.2.2.1.2)), hn1, fun j hj => by rw [jset_ne _ _ (by omega), hj1 j (by omega)]⟩
    · first | omega | exact absurd rfl hb29 | exact absurd hb29 (by decide)
  · first | omega | exact absurd rfl hb7 | exact absurd hb7 (by decide)
set_option maxRecDepth 20000 in
theorem c_recall_0 {X : jX} {σ : jS} {pr : Int} {ln : Nat} {lw : Nat → Int} {bn : Nat → Nat} {cd sz : Nat → Nat → Nat} {ph : Nat → Nat → Int} {mn : Nat} {mg : Nat → Int} {kn : Nat} {kr : Nat → Int} {ks : Nat → Nat} {kt : Nat → Nat → Int} {rd : Nat} {rg : Nat → Int} {p : Nat} (hW : CW σ pr ln lw bn cd sz ph mn mg kn kr ks kt rd rg) (hI : CI pr ln lw bn cd sz ph mn mg kn kr ks kt rd rg) (hp : p < kn) : JM X mX6_recall rX6_recall [.ref 5, vI ((p : Nat) : Int)] σ (XP (oI ((ks p : Nat) : Int)) σ (fun σ1 => CW σ1 pr (ks p) (alF kr (ks p) (p * 41) 0 lw) bn cd sz ph mn mg kn kr ks kt rd rg)) := by
  refine JM.of (lc := [.ref 5, vI ((p : Nat) : Int)]) rfl ?_
  obtain ⟨hpr, ⟨hln, hlw⟩, hbk, ⟨hmn, hmg⟩, hki, hrd, hrg⟩ := id hI
  obtain ⟨gB, eB, hgB⟩ := hW.1.2.1
  obtain ⟨gT, eT, hgT⟩ := hW.2.2.2.1.2.2.2.1
  have hkn := hki.1
  have hkp := hki.2.1 p hp
  refine J.ild_n dX6_recall_0 rfl ?_
  refine J.if_lt dX6_recall_1 (by decide) (tgt := 15) (by unfold inI; omega) (fun hb1 => ?_) (fun hb1 => ?_)
  · first | omega | exact absurd rfl hb1 | exact absurd hb1 (by decide)
  · refine J.ild_n dX6_recall_4 rfl ?_
    refine J.ald_n dX6_recall_5 rfl ?_
    refine gf_X6_26 rfl dX6_recall_6 hW.1.1 ?_
    refine gf_X6_84 rfl dX6_recall_9 hW.2.2.2.1.1 ?_
    refine J.icmp_lt dX6_recall_12 (by decide) (tgt := 25) (by unfold inI; omega) (by unfold inI; omega) (fun hb12 => ?_) (fun hb12 => ?_)
    · refine J.ald_n dX6_recall_25 rfl ?_
      refine gf_X6_19 rfl dX6_recall_26 hW.1.1 ?_
      refine J.callV (rm' := rX4_clear) [] dX6_recall_29 (c_X4_clear hW.2.2.1.1) hW.2.2.1.1 rfl st_X4_clear ml_X6_71 im_X4_clear se_X4_clear rfl (Nat.le_of_ble_eq_true rfl) (by decide) (by decide) (Nat.le_of_ble_eq_true rfl) (by decide) (by decide) (Or.inl rfl) (fun E9 σ9 hq9 _ => nomatch hq9.1) (fun r9 σ9 hq9 hle9 => ?_)
      obtain ⟨h9, h8⟩ := hq9
      cases h9
      subst h8
      clear hle9
      refine J.ald_n dX6_recall_32 rfl ?_
      refine gf_X6_19 rfl dX6_recall_33 ((jset_ne _ _ (by omega)).trans hW.1.1) ?_
      refine J.ald_n dX6_recall_36 rfl ?_
      refine gf_X6_26 rfl dX6_recall_37 ((jset_ne _ _ (by omega)).trans hW.1.1) ?_
      refine gf_X6_93 rfl dX6_recall_40 ((jset_ne _ _ (by omega)).trans hW.2.2.2.1.1) ?_
      refine J.ald_n dX6_recall_43 rfl ?_
      refine gf_X6_26 rfl dX6_recall_44 ((jset_ne _ _ (by omega)).trans hW.1.1) ?_
      refine J.ild_n dX6_recall_47 rfl ?_
      refine J.callV (rm' := rX3_startOf) [vI ((p : Nat) : Int)] dX6_recall_48 (c_X3_startOf) ((jset_ne _ _ (by omega)).trans hW.2.2.2.1.1) rfl st_X3_startOf ml_X6_94 im_X3_startOf se_X3_startOf rfl (Nat.le_of_ble_eq_true rfl) (by decide) (by decide) (Nat.le_of_ble_eq_true rfl) (by decide) (by decide) (Or.inl rfl) (fun E9 σ9 hq9 _ => nomatch hq9.1) (fun r9 σ9 hq9 hle9 => ?_)
      obtain ⟨h9, h8⟩ := hq9
      rw [h8]
      clear hle9 h8 σ9
      cases h9
      refine J.ald_n dX6_recall_51 rfl ?_
      refine gf_X6_26 rfl dX6_recall_52 ((jset_ne _ _ (by omega)).trans hW.1.1) ?_
      refine gf_X6_98 rfl dX6_recall_55 ((jset_ne _ _ (by omega)).trans hW.2.2.2.1.1) ?_
      refine J.ild_n dX6_recall_58 rfl ?_
      refine J.iald p dX6_recall_59 ((jset_ne _ _ (by omega)).trans hW.2.2.2.1.2.2.1) rfl (by omega) (by omega) ?_
      refine J.callV (rm' := rX4_appendAll) [.ref 22, vI ((p * 41 : Nat) : Int), vI ((ks p : Nat) : Int)] dX6_recall_60 (c_X4_appendAll (n := 0) (jset_eq _ _ _) ((jset_ne _ _ (by omega)).trans hW.2.2.1.2) (by omega) (by omega) (by omega) ((jset_ne _ _ (by omega)).trans hW.2.2.2.1.2.1) (by omega) (by omega) (by omega) (by omega)) (jset_eq _ _ _) rfl st_X4_appendAll ml_X6_101 im_X4_appendAll se_X4_appendAll rfl (Nat.le_of_ble_eq_true rfl) (by decide) (by decide) (Nat.le_of_ble_eq_true rfl) (by decide) (by decide) (Or.inl rfl) (fun E9 σ9 hq9 _ => nomatch hq9.1) (fun r9 σ9 hq9 hle9 => ?_)
      obtain ⟨h9, h8⟩ := hq9
      cases h9
      subst h8
      clear hle9
      have h19 := alS_i (g := kr) (i := 19) (r := 20) (ks p) (p * 41) (jset σ 19 (jO 3 [.ref 20, vI 0])) 0 lw (jset_eq _ _ _)
      rw [alN_eq _ _ (by omega), Nat.zero_add] at h19
      have h20 := alS_r (g := kr) (i := 19) (r := 20) (by omega) (ks p) (p * 41) (jset σ 19 (jO 3 [.ref 20, vI 0])) 0 lw ((jset_ne _ _ (by omega)).trans hW.2.2.1.2)
      refine J.ald_n dX6_recall_63 rfl ?_
      refine gf_X6_19 rfl dX6_recall_64 ((alS_o (by omega) (by omega) _ _ _ _ _).trans ((jset_ne _ _ (by omega)).trans hW.1.1)) ?_
      refine gf_X6_59 rfl dX6_recall_67 h19 ?_
      refine J.iret .int dX6_recall_70 rfl rfl (by decide) (by decide) ?_
      exact ⟨rfl, hW.setL (fun j q1 q2 => by rw [alS_o q1 q2, jset_ne _ _ q1]) h19 h20, alS_n .., fun j hj => by rw [alS_o (by omega) (by omega), jset_ne _ _ (by omega)]⟩
    · first | omega | exact absurd rfl hb12 | exact absurd hb12 (by decide)
set_option maxRecDepth 20000 in
theorem c_find_0 {X : jX} {σ : jS} {pr : Int} {ln : Nat} {lw : Nat → Int} {bn : Nat → Nat} {cd sz : Nat → Nat → Nat} {ph : Nat → Nat → Int} {mn : Nat} {mg : Nat → Int} {kn : Nat} {kr : Nat → Int} {ks : Nat → Nat} {kt : Nat → Nat → Int} {rd : Nat} {rg : Nat → Int} {b c : Nat} (hW : CW σ pr ln lw bn cd sz ph mn mg kn kr ks kt rd rg) (hI : CI pr ln lw bn cd sz ph mn mg kn kr ks kt rd rg) (hb : b < 3) (hc : c ≤ 11881375) : JM X mX6_find rX6_find [.ref 5, vI ((b : Nat) : Int), vI ((c : Nat) : Int)] σ (XP (oI (fnU (cd b) c (bn b) 0)) σ (fun σ1 => CW σ1 pr ln lw bn cd sz ph mn mg kn kr ks kt rd rg)) := by
  refine JM.of (lc := [.ref 5, vI ((b : Nat) : Int), vI ((c : Nat) : Int), .null]) rfl ?_
  obtain ⟨hpr, ⟨hln, hlw⟩, hbk, ⟨hmn, hmg⟩, hki, hrd, hrg⟩ := id hI
  obtain ⟨gB, eB, hgB⟩ := hW.1.2.1
  obtain ⟨gT, eT, hgT⟩ := hW.2.2.2.1.2.2.2.1
  have hkn := hki.1
  have hB := hW.2.1 b hb
  have hbn := (hbk b hb).1
  have hcd := (hbk b hb).2.1
  have hsz := (hbk b hb).2.2.1
  have hph := (hbk b hb).2.2.2
  refine J.ald_n dX6_find_0 rfl ?_
  refine J.ild_n dX6_find_1 rfl ?_
  refine J.callV (rm' := rX6_requireBook) [vI ((b : Nat) : Int)] dX6_find_2 (c_X6_requireBook hW.1.1 eB hgB hb) hW.1.1 rfl st_X6_requireBook ml_X6_118 im_X6_requireBook se_X6_requireBook rfl (Nat.le_of_ble_eq_true rfl) (by decide) (by decide) (Nat.le_of_ble_eq_true rfl) (by decide) (by decide) (Or.inl rfl) (fun E9 σ9 hq9 _ => nomatch hq9.1) (fun r9 σ9 hq9 hle9 => ?_)
  obtain ⟨h9, h8⟩ := hq9
  rw [h8]
  clear hle9 h8 σ9
  cases h9
  refine J.ast_n dX6_find_5 (by decide) (jnc_of rfl rfl) ?_
  refine J.ild_n dX6_find_6 rfl ?_
  refine J.callS (rm' := rX6_requireCode) [vI ((c : Nat) : Int)] dX6_find_7 (c_X6_requireCode hc) st_X6_requireCode ml_X6_105 sm_X6_requireCode rfl (Nat.le_of_ble_eq_true rfl) (by decide) (by decide) (Nat.le_of_ble_eq_true rfl) (by decide) (by decide) (Or.inl rfl) (fun E9 σ9 hq9 _ => nomatch hq9.1) (fun r9 σ9 hq9 hle9 => ?_)
  obtain ⟨h9, h8⟩ := hq9
  rw [h8]
  clear hle9 h8 σ9
  cases h9
  refine J.ald_n dX6_find_10 rfl ?_
  refine J.ild_n dX6_find_11 rfl ?_
  refine J.callV (rm' := rX0_entryWith) [vI ((c : Nat) : Int)] dX6_find_12 (c_X0_entryWith hB (by omega) hbn (fun e _ => hcd e) hc) hB.1 rfl st_X0_entryWith ml_X6_153 im_X0_entryWith se_X0_entryWith rfl (Nat.le_of_ble_eq_true rfl) (by decide) (by decide) (Nat.le_of_ble_eq_true rfl) (by decide) (by decide) (Or.inl rfl) (fun E9 σ9 hq9 _ => nomatch hq9.1) (fun r9 σ9 hq9 hle9 => ?_)
  obtain ⟨h9, h8⟩ := hq9
  rw [h8]
  clear hle9 h8 σ9
  cases h9
  refine J.iret .int dX6_find_15 rfl rfl (by decide) (by decide) ?_
  exact ⟨rfl, hW, FrC.refl⟩
set_option maxRecDepth 20000 in
theorem c_entries_0 {X : jX} {σ : jS} {pr : Int} {ln : Nat} {lw : Nat → Int} {bn : Nat → Nat} {cd sz : Nat → Nat → Nat} {ph : Nat → Nat → Int} {mn : Nat} {mg : Nat → Int} {kn : Nat} {kr : Nat → Int} {ks : Nat → Nat} {kt : Nat → Nat → Int} {rd : Nat} {rg : Nat → Int} {b : Nat} (hW : CW σ pr ln lw bn cd sz ph mn mg kn kr ks kt rd rg) (hI : CI pr ln lw bn cd sz ph mn mg kn kr ks kt rd rg) (hb : b < 3) : JM X mX6_entries rX6_entries [.ref 5, vI ((b : Nat) : Int)] σ (XP (oI ((bn b : Nat) : Int)) σ (fun σ1 => CW σ1 pr ln lw bn cd sz ph mn mg kn kr ks kt rd rg)) := by
  refine JM.of (lc := [.ref 5, vI ((b : Nat) : Int)]) rfl ?_
  obtain ⟨hpr, ⟨hln, hlw⟩, hbk, ⟨hmn, hmg⟩, hki, hrd, hrg⟩ := id hI
  obtain ⟨gB, eB, hgB⟩ := hW.1.2.1
  obtain ⟨gT, eT, hgT⟩ := hW.2.2.2.1.2.2.2.1
  have hkn := hki.1
  have hB := hW.2.1 b hb
  have hbn := (hbk b hb).1
  have hcd := (hbk b hb).2.1
  have hsz := (hbk b hb).2.2.1
  have hph := (hbk b hb).2.2.2
  refine J.ald_n dX6_entries_0 rfl ?_
  refine J.ild_n dX6_entries_1 rfl ?_
  refine J.callV (rm' := rX6_requireBook) [vI ((b : Nat) : Int)] dX6_entries_2 (c_X6_requireBook hW.1.1 eB hgB hb) hW.1.1 rfl st_X6_requireBook ml_X6_118 im_X6_requireBook se_X6_requireBook rfl (Nat.le_of_ble_eq_true rfl) (by decide) (by decide) (Nat.le_of_ble_eq_true rfl) (by decide) (by decide) (Or.inl rfl) (fun E9 σ9 hq9 _ => nomatch hq9.1) (fun r9 σ9 hq9 hle9 => ?_)
  obtain ⟨h9, h8⟩ := hq9
  rw [h8]
  clear hle9 h8 σ9
  cases h9
  refine gf_X6_135 rfl dX6_entries_5 hB.1 ?_
  refine J.iret .int dX6_entries_8 rfl rfl (by decide) (by decide) ?_
  exact ⟨rfl, hW, FrC.refl⟩
set_option maxRecDepth 20000 in
theorem c_entry_4 {X : jX} {σ : jS} {pr : Int} {ln : Nat} {lw : Nat → Int} {bn : Nat → Nat} {cd sz : Nat → Nat → Nat} {ph : Nat → Nat → Int} {mn : Nat} {mg : Nat → Int} {kn : Nat} {kr : Nat → Int} {ks : Nat → Nat} {kt : Nat → Nat → Int} {rd : Nat} {rg : Nat → Int} {b e : Nat} {a : Int} (hW : CW σ pr ln lw bn cd sz ph mn mg kn kr ks kt rd rg) (hI : CI pr ln lw bn cd sz ph mn mg kn kr ks kt rd rg) (hb : b < 3) (he : e < bn b) (ha : a = -1) : JM X mX6_entry rX6_entry [.ref 5, vI ((b : Nat) : Int), vI ((e : Nat) : Int), vI a] σ (XP (oI ((cd b e : Nat) : Int)) σ (fun σ1 => CW σ1 pr ln lw bn cd sz ph mn mg kn kr ks kt rd rg)) := by
  refine JM.of (lc := [.ref 5, vI ((b : Nat) : Int), vI ((e : Nat) : Int), vI a, .null]) rfl ?_
  obtain ⟨hpr, ⟨hln, hlw⟩, hbk, ⟨hmn, hmg⟩, hki, hrd, hrg⟩ := id hI
  obtain ⟨gB, eB, hgB⟩ := hW.1.2.1
  obtain ⟨gT, eT, hgT⟩ := hW.2.2.2.1.2.2.2.1
  have hkn := hki.1
  have hB := hW.2.1 b hb
  have hbn := (hbk b hb).1
  have hcd := (hbk b hb).2.1
  have hsz := (hbk b hb).2.2.1
  have hph := (hbk b hb).2.2.2
  refine J.ald_n dX6_entry_0 rfl ?_
  refine J.ild_n dX6_entry_1 rfl ?_
  refine J.callV (rm' := rX6_requireBook) [vI ((b : Nat) : Int)] dX6_entry_2 (c_X6_requireBook hW.1.1 eB hgB hb) hW.1.1 rfl st_X6_requireBook ml_X6_118 im_X6_requireBook se_X6_requireBook rfl (Nat.le_of_ble_eq_true rfl) (by decide) (by decide) (Nat.le_of_ble_eq_true rfl) (by decide) (by decide) (Or.inl rfl) (fun E9 σ9 hq9 _ => nomatch hq9.1) (fun r9 σ9 hq9 hle9 => ?_)
  obtain ⟨h9, h8⟩ := hq9
  rw [h8]
  clear hle9 h8 σ9
  cases h9
  refine J.ast dX6_entry_5 (by decide) (jnc_of rfl rfl) ?_
  refine J.ald dX6_entry_7 rfl ?_
  refine J.ild_n dX6_entry_9 rfl ?_
  refine J.callS (rm' := rX6_requireEntry) [.ref (7 + 4 * b), vI ((e : Nat) : Int)] dX6_entry_10 (c_X6_requireEntry hB hbn he) st_X6_requireEntry ml_X6_136 sm_X6_requireEntry rfl (Nat.le_of_ble_eq_true rfl) (by decide) (by decide) (Nat.le_of_ble_eq_true rfl) (by decide) (by decide) (Or.inl rfl) (fun E9 σ9 hq9 _ => nomatch hq9.1) (fun r9 σ9 hq9 hle9 => ?_)
  obtain ⟨h9, h8⟩ := hq9
  rw [h8]
  clear hle9 h8 σ9
  cases h9
  refine J.ild_n dX6_entry_13 rfl ?_
  refine J.iconst dX6_entry_14 ?_
  refine J.icmp_ne dX6_entry_15 (by decide) (tgt := 26) (by unfold inI; omega) (by unfold inI; omega) (fun hb15 => ?_) (fun hb15 => ?_)
  · first | omega | exact absurd rfl hb15 | exact absurd hb15 (by decide)
  · refine J.ald dX6_entry_18 rfl ?_
    refine gf_X6_143 rfl dX6_entry_20 hB.1 ?_
    refine J.ild_n dX6_entry_23 rfl ?_
    refine J.iald e dX6_entry_24 hB.2.1 rfl (by omega) (by omega) ?_
    refine J.iret .int dX6_entry_25 rfl rfl (by decide) (by decide) ?_
    exact ⟨rfl, hW, FrC.refl⟩
set_option maxRecDepth 20000 in
theorem c_entry_0 {X : jX} {σ : jS} {pr : Int} {ln : Nat} {lw : Nat → Int} {bn : Nat → Nat} {cd sz : Nat → Nat → Nat} {ph : Nat → Nat → Int} {mn : Nat} {mg : Nat → Int} {kn : Nat} {kr : Nat → Int} {ks : Nat → Nat} {kt : Nat → Nat → Int} {rd : Nat} {rg : Nat → Int} {b e w : Nat} (hW : CW σ pr ln lw bn cd sz ph mn mg kn kr ks kt rd rg) (hI : CI pr ln lw bn cd sz ph mn mg kn kr ks kt rd rg) (hb : b < 3) (he : e < bn b) (hw : w < sz b e) : JM X mX6_entry rX6_entry [.ref 5, vI ((b : Nat) : Int), vI ((e : Nat) : Int), vI ((w : Nat) : Int)] σ (XP (oI (ph b (e * 6 + w))) σ (fun σ1 => CW σ1 pr ln lw bn cd sz ph mn mg kn kr ks kt rd rg)) := by
  refine JM.of (lc := [.ref 5, vI ((b : Nat) : Int), vI ((e : Nat) : Int), vI ((w : Nat) : Int), .null]) rfl ?_
  obtain ⟨hpr, ⟨hln, hlw⟩, hbk, ⟨hmn, hmg⟩, hki, hrd, hrg⟩ := id hI
  obtain ⟨gB, eB, hgB⟩ := hW.1.2.1
  obtain ⟨gT, eT, hgT⟩ := hW.2.2.2.1.2.2.2.1
  have hkn := hki.1
  have hB := hW.2.1 b hb
  have hbn := (hbk b hb).1
  have hcd := (hbk b hb).2.1
  have hsz := (hbk b hb).2.2.1
  have hph := (hbk b hb).2.2.2
  have hse := hsz e he
  refine J.ald_n dX6_entry_0 rfl ?_
  refine J.ild_n dX6_entry_1 rfl ?_
  refine J.callV (rm' := rX6_requireBook) [vI ((b : Nat) : Int)] dX6_entry_2 (c_X6_requireBook hW.1.1 eB hgB hb) hW.1.1 rfl st_X6_requireBook ml_X6_118 im_X6_requireBook se_X6_requireBook rfl (Nat.le_of_ble_eq_true rfl) (by decide) (by decide) (Nat.le_of_ble_eq_true rfl) (by decide) (by decide) (Or.inl rfl) (fun E9 σ9 hq9 _ => nomatch hq9.1) (fun r9 σ9 hq9 hle9 => ?_)
  obtain ⟨h9, h8⟩ := hq9
  rw [h8]
  clear hle9 h8 σ9
  cases h9
  refine J.ast dX6_entry_5 (by decide) (jnc_of rfl rfl) ?_
  refine J.ald dX6_entry_7 rfl ?_
  refine J.ild_n dX6_entry_9 rfl ?_
  refine J.callS (rm' := rX6_requireEntry) [.ref (7 + 4 * b), vI ((e : Nat) : Int)] dX6_entry_10 (c_X6_requireEntry hB hbn he) st_X6_requireEntry ml_X6_136 sm_X6_requireEntry rfl (Nat.le_of_ble_eq_true rfl) (by decide) (by decide) (Nat.le_of_ble_eq_true rfl) (by decide) (by decide) (Or.inl rfl) (fun E9 σ9 hq9 _ => nomatch hq9.1) (fun r9 σ9 hq9 hle9 => ?_)
  obtain ⟨h9, h8⟩ := hq9
  rw [h8]
  clear hle9 h8 σ9
  cases h9
  refine J.ild_n dX6_entry_13 rfl ?_
  refine J.iconst dX6_entry_14 ?_
  refine J.icmp_ne dX6_entry_15 (by decide) (tgt := 26) (by unfold inI; omega) (by unfold inI; omega) (fun hb15 => ?_) (fun hb15 => ?_)
  · refine J.ild_n dX6_entry_26 rfl ?_
    refine J.if_lt dX6_entry_27 (by decide) (tgt := 41) (by unfold inI; omega) (fun hb27 => ?_) (fun hb27 => ?_)
    · first | omega | exact absurd rfl hb27 | exact absurd hb27 (by decide)
    · refine J.ild_n dX6_entry_30 rfl ?_
      refine J.ald dX6_entry_31 rfl ?_
      refine gf_X6_146 rfl dX6_entry_33 hB.1 ?_
      refine J.ild_n dX6_entry_36 rfl ?_
      refine J.iald e dX6_entry_37 hB.2.2.1 rfl (by omega) (by omega) ?_
      refine J.icmp_lt dX6_entry_38 (by decide) (tgt := 51) (by unfold inI; omega) (by unfold inI; omega) (fun hb38 => ?_) (fun hb38 => ?_)
      · refine J.ald dX6_entry_51 rfl ?_
        refine gf_X6_149 rfl dX6_entry_53 hB.1 ?_
        refine J.ild_n dX6_entry_56 rfl ?_
        refine J.callS (rm' := rX0_startOf) [vI ((e : Nat) : Int)] dX6_entry_57 (c_X0_startOf) st_X0_startOf ml_X6_152 sm_X0_startOf rfl (Nat.le_of_ble_eq_true rfl) (by decide) (by decide) (Nat.le_of_ble_eq_true rfl) (by decide) (by decide) (Or.inl rfl) (fun E9 σ9 hq9 _ => nomatch hq9.1) (fun r9 σ9 hq9 hle9 => ?_)
        obtain ⟨h9, h8⟩ := hq9
        rw [h8]
        clear hle9 h8 σ9
        cases h9
        refine J.ild_n dX6_entry_60 rfl ?_
        refine J.iadd dX6_entry_61 ?_
        rw [show (((e * 6 : Nat) : Int) : Int) + ((w : Nat) : Int) = (((e * 6) + w : Nat) : Int) from by push_cast; rfl]
        refine J.iald ((e * 6) + w) dX6_entry_62 hB.2.2.2 rfl (by omega) (by omega) ?_
        refine J.iret .int dX6_entry_63 rfl rfl (by decide) (by decide) ?_
        exact ⟨rfl, hW, FrC.refl⟩
      · first | omega | exact absurd rfl hb38 | exact absurd hb38 (by decide)
  · first | omega | exact absurd rfl hb15 | exact absurd hb15 (by decide)
set_option maxRecDepth 20000 in
theorem c_setPrice_0 {X : jX} {σ : jS} {pr : Int} {ln : Nat} {lw : Nat → Int} {bn : Nat → Nat} {cd sz : Nat → Nat → Nat} {ph : Nat → Nat → Int} {mn : Nat} {mg : Nat → Int} {kn : Nat} {kr : Nat → Int} {ks : Nat → Nat} {kt : Nat → Nat → Int} {rd : Nat} {rg : Nat → Int} {a : Int} (hW : CW σ pr ln lw bn cd sz ph mn mg kn kr ks kt rd rg) (hI : CI pr ln lw bn cd sz ph mn mg kn kr ks kt rd rg) (ha : 1 ≤ a ∧ a ≤ 5) : JM X mX6_setPrice rX6_setPrice [.ref 5, vI a] σ (XP (oI pr) σ (fun σ1 => CW σ1 a ln lw bn cd sz ph mn mg kn kr ks kt rd rg)) := by
  refine JM.of (lc := [.ref 5, vI a, .null]) rfl ?_
  obtain ⟨hpr, ⟨hln, hlw⟩, hbk, ⟨hmn, hmg⟩, hki, hrd, hrg⟩ := id hI
  obtain ⟨gB, eB, hgB⟩ := hW.1.2.1
  obtain ⟨gT, eT, hgT⟩ := hW.2.2.2.1.2.2.2.1
  have hkn := hki.1
  refine J.ild_n dX6_setPrice_0 rfl ?_
  refine J.iconst dX6_setPrice_1 ?_
  refine J.icmp_lt dX6_setPrice_2 (by decide) (tgt := 10) (by unfold inI; omega) (by unfold inI; omega) (fun hb2 => ?_) (fun hb2 => ?_)
  · first | omega | exact absurd rfl hb2 | exact absurd hb2 (by decide)
  · refine J.ild_n dX6_setPrice_5 rfl ?_
    refine J.iconst dX6_setPrice_6 ?_
    refine J.icmp_le dX6_setPrice_7 (by decide) (tgt := 20) (by unfold inI; omega) (by unfold inI; omega) (fun hb7 => ?_) (fun hb7 => ?_)
    · refine J.ald_n dX6_setPrice_20 rfl ?_
      refine gf_X6_48 rfl dX6_setPrice_21 hW.1.1 ?_
      refine J.ist_n dX6_setPrice_24 (by decide) (jnc_of rfl rfl) ?_
      refine J.ald_n dX6_setPrice_25 rfl ?_
      refine J.ild_n dX6_setPrice_26 rfl ?_
      refine pf_X6_48 rfl dX6_setPrice_27 hW.1.1 ?_
      refine J.ild_n dX6_setPrice_30 rfl ?_
      refine J.iret .int dX6_setPrice_31 rfl rfl (by decide) (by decide) ?_
      exact ⟨rfl, hW.setW (fun j q1 q2 => jset_ne _ _ q1) (jset_eq _ _ _) ((jset_ne _ _ (by omega)).trans hW.1.2.2), rfl, fun j hj => by rw [jset_ne _ _ (by omega)]⟩
    · first | omega | exact absurd rfl hb7 | exact absurd hb7 (by decide)
set_option maxRecDepth 20000 in
theorem c_groups {X : jX} {σ : jS} {pr : Int} {ln : Nat} {lw : Nat → Int} {bn : Nat → Nat} {cd sz : Nat → Nat → Nat} {ph : Nat → Nat → Int} {mn : Nat} {mg : Nat → Int} {kn : Nat} {kr : Nat → Int} {ks : Nat → Nat} {kt : Nat → Nat → Int} {rd : Nat} {rg : Nat → Int}  (hW : CW σ pr ln lw bn cd sz ph mn mg kn kr ks kt rd rg) (hI : CI pr ln lw bn cd sz ph mn mg kn kr ks kt rd rg)  : JM X mX6_groups rX6_groups [.ref 5] σ (XP (oI ((mn : Nat) : Int)) σ (fun σ1 => CW σ1 pr ln lw bn cd sz ph mn mg kn kr ks kt rd rg)) := by
  refine JM.of (lc := [.ref 5]) rfl ?_
  obtain ⟨hpr, ⟨hln, hlw⟩, hbk, ⟨hmn, hmg⟩, hki, hrd, hrg⟩ := id hI
  obtain ⟨gB, eB, hgB⟩ := hW.1.2.1
  obtain ⟨gT, eT, hgT⟩ := hW.2.2.2.1.2.2.2.1
  have hkn := hki.1
  refine J.ald_n dX6_groups_0 rfl ?_
  refine gf_X6_33 rfl dX6_groups_1 hW.1.1 ?_
  refine gf_X6_170 rfl dX6_groups_4 hW.2.2.2.2.1.1 ?_
  refine J.iret .int dX6_groups_7 rfl rfl (by decide) (by decide) ?_
  exact ⟨rfl, hW, FrC.refl⟩
set_option maxRecDepth 20000 in
theorem c_group_0 {X : jX} {σ : jS} {pr : Int} {ln : Nat} {lw : Nat → Int} {bn : Nat → Nat} {cd sz : Nat → Nat → Nat} {ph : Nat → Nat → Int} {mn : Nat} {mg : Nat → Int} {kn : Nat} {kr : Nat → Int} {ks : Nat → Nat} {kt : Nat → Nat → Int} {rd : Nat} {rg : Nat → Int} {g : Nat} (hW : CW σ pr ln lw bn cd sz ph mn mg kn kr ks kt rd rg) (hI : CI pr ln lw bn cd sz ph mn mg kn kr ks kt rd rg) (hg : g < mn) : JM X mX6_group rX6_group [.ref 5, vI ((g : Nat) : Int)] σ (XP (oI (mg g)) σ (fun σ1 => CW σ1 pr ln lw bn cd sz ph mn mg kn kr ks kt rd rg)) := by
  refine JM.of (lc := [.ref 5, vI ((g : Nat) : Int)]) rfl ?_
  obtain ⟨hpr, ⟨hln, hlw⟩, hbk, ⟨hmn, hmg⟩, hki, hrd, hrg⟩ := id hI
  obtain ⟨gB, eB, hgB⟩ := hW.1.2.1
  obtain ⟨gT, eT, hgT⟩ := hW.2.2.2.1.2.2.2.1
  have hkn := hki.1
  refine J.ald_n dX6_group_0 rfl ?_
  refine J.ild_n dX6_group_1 rfl ?_
  refine J.callV (rm' := rX6_requireGroup) [vI ((g : Nat) : Int)] dX6_group_2 (c_X6_requireGroup hW.1.1 hW.2.2.2.2.1.1 hmn hg) hW.1.1 rfl st_X6_requireGroup ml_X6_171 im_X6_requireGroup se_X6_requireGroup rfl (Nat.le_of_ble_eq_true rfl) (by decide) (by decide) (Nat.le_of_ble_eq_true rfl) (by decide) (by decide) (Or.inl rfl) (fun E9 σ9 hq9 _ => nomatch hq9.1) (fun r9 σ9 hq9 hle9 => ?_)
  obtain ⟨h9, h8⟩ := hq9
  rw [h8]
  clear hle9 h8 σ9
  cases h9
  refine J.ald_n dX6_group_5 rfl ?_
  refine gf_X6_33 rfl dX6_group_6 hW.1.1 ?_
  refine gf_X6_174 rfl dX6_group_9 hW.2.2.2.2.1.1 ?_
  refine J.ild_n dX6_group_12 rfl ?_
  refine J.iald g dX6_group_13 hW.2.2.2.2.1.2 rfl (by omega) (by omega) ?_
  refine J.iret .int dX6_group_14 rfl rfl (by decide) (by decide) ?_
  exact ⟨rfl, hW, FrC.refl⟩
set_option maxRecDepth 20000 in
theorem c_how_0 {X : jX} {σ : jS} {pr : Int} {ln : Nat} {lw : Nat → Int} {bn : Nat → Nat} {cd sz : Nat → Nat → Nat} {ph : Nat → Nat → Int} {mn : Nat} {mg : Nat → Int} {kn : Nat} {kr : Nat → Int} {ks : Nat → Nat} {kt : Nat → Nat → Int} {rd : Nat} {rg : Nat → Int} {g : Nat} (hW : CW σ pr ln lw bn cd sz ph mn mg kn kr ks kt rd rg) (hI : CI pr ln lw bn cd sz ph mn mg kn kr ks kt rd rg) (hg : g < rd) : JM X mX6_how rX6_how [.ref 5, vI ((g : Nat) : Int)] σ (XP (oI (rg g)) σ (fun σ1 => CW σ1 pr ln lw bn cd sz ph mn mg kn kr ks kt rd rg)) := by
  refine JM.of (lc := [.ref 5, vI ((g : Nat) : Int)]) rfl ?_
  obtain ⟨hpr, ⟨hln, hlw⟩, hbk, ⟨hmn, hmg⟩, hki, hrd, hrg⟩ := id hI
  obtain ⟨gB, eB, hgB⟩ := hW.1.2.1
  obtain ⟨gT, eT, hgT⟩ := hW.2.2.2.1.2.2.2.1
  have hkn := hki.1
  refine J.ild_n dX6_how_0 rfl ?_
  refine J.if_lt dX6_how_1 (by decide) (tgt := 12) (by unfold inI; omega) (fun hb1 => ?_) (fun hb1 => ?_)
  · first | omega | exact absurd rfl hb1 | exact absurd hb1 (by decide)
  · refine J.ild_n dX6_how_4 rfl ?_
    refine J.ald_n dX6_how_5 rfl ?_
    refine gf_X6_187 rfl dX6_how_6 hW.1.1 ?_
    refine J.icmp_lt dX6_how_9 (by decide) (tgt := 22) (by unfold inI; omega) (by unfold inI; omega) (fun hb9 => ?_) (fun hb9 => ?_)
    · refine J.ald_n dX6_how_22 rfl ?_
      refine gf_X6_44 rfl dX6_how_23 hW.1.1 ?_
      refine J.ild_n dX6_how_26 rfl ?_
      refine J.iald g dX6_how_27 hW.1.2.2 rfl (by omega) (by omega) ?_
      refine J.iret .int dX6_how_28 rfl rfl (by decide) (by decide) ?_
      exact ⟨rfl, hW, FrC.refl⟩
    · first | omega | exact absurd rfl hb9 | exact absurd hb9 (by decide)
set_option maxRecDepth 20000 in
theorem c_cost {X : jX} {σ : jS} {pr : Int} {ln : Nat} {lw : Nat → Int} {bn : Nat → Nat} {cd sz : Nat → Nat → Nat} {ph : Nat → Nat → Int} {mn : Nat} {mg : Nat → Int} {kn : Nat} {kr : Nat → Int} {ks : Nat → Nat} {kt : Nat → Nat → Int} {rd : Nat} {rg : Nat → Int}  (hW : CW σ pr ln lw bn cd sz ph mn mg kn kr ks kt rd rg) (hI : CI pr ln lw bn cd sz ph mn mg kn kr ks kt rd rg)  : JM X mX6_cost rX6_cost [.ref 5] σ (XP (oI (csL mg pr mn 0)) σ (fun σ1 => CW σ1 pr ln lw bn cd sz ph mn mg kn kr ks kt rd rg)) := by
  refine JM.of (lc := [.ref 5]) rfl ?_
  obtain ⟨hpr, ⟨hln, hlw⟩, hbk, ⟨hmn, hmg⟩, hki, hrd, hrg⟩ := id hI
  obtain ⟨gB, eB, hgB⟩ := hW.1.2.1
  obtain ⟨gT, eT, hgT⟩ := hW.2.2.2.1.2.2.2.1
  have hkn := hki.1
  refine J.ald_n dX6_cost_0 rfl ?_
  refine gf_X6_33 rfl dX6_cost_1 hW.1.1 ?_
  refine J.ald_n dX6_cost_4 rfl ?_
  refine gf_X6_48 rfl dX6_cost_5 hW.1.1 ?_
  refine J.callV (rm' := rX5_costAt) [vI pr] dX6_cost_8 (c_X5_costAt hW.2.2.2.2.1.1 hW.2.2.2.2.1.2 hmn (fun a _ => inI_m (hmg a))) hW.2.2.2.2.1.1 rfl st_X5_costAt ml_X6_196 im_X5_costAt se_X5_costAt rfl (Nat.le_of_ble_eq_true rfl) (by decide) (by decide) (Nat.le_of_ble_eq_true rfl) (by decide) (by decide) (Or.inl rfl) (fun E9 σ9 hq9 _ => nomatch hq9.1) (fun r9 σ9 hq9 hle9 => ?_)
  obtain ⟨h9, h8⟩ := hq9
  rw [h8]
  clear hle9 h8 σ9
  cases h9
  refine J.iret .int dX6_cost_11 rfl rfl (by decide) (by decide) ?_
  exact ⟨rfl, hW, FrC.refl⟩
set_option maxRecDepth 20000 in
theorem c_time {X : jX} {σ : jS} {pr : Int} {ln : Nat} {lw : Nat → Int} {bn : Nat → Nat} {cd sz : Nat → Nat → Nat} {ph : Nat → Nat → Int} {mn : Nat} {mg : Nat → Int} {kn : Nat} {kr : Nat → Int} {ks : Nat → Nat} {kt : Nat → Nat → Int} {rd : Nat} {rg : Nat → Int} {lu du : Nat → Int} (hW : CW σ pr ln lw bn cd sz ph mn mg kn kr ks kt rd rg) (hI : CI pr ln lw bn cd sz ph mn mg kn kr ks kt rd rg) (eL : σ.2 0 = jI 26 lu) (eD : σ.2 1 = jI 10 du) : JM X mX6_time rX6_time [.ref 5] σ (XP (oI (tmL lu du mg mn 0)) σ (fun σ1 => CW σ1 pr ln lw bn cd sz ph mn mg kn kr ks kt rd rg)) := by
  refine JM.of (lc := [.ref 5]) rfl ?_
  obtain ⟨hpr, ⟨hln, hlw⟩, hbk, ⟨hmn, hmg⟩, hki, hrd, hrg⟩ := id hI
  obtain ⟨gB, eB, hgB⟩ := hW.1.2.1
  obtain ⟨gT, eT, hgT⟩ := hW.2.2.2.1.2.2.2.1
  have hkn := hki.1
  refine J.ald_n dX6_time_0 rfl ?_
  refine gf_X6_33 rfl dX6_time_1 hW.1.1 ?_
  refine J.callV (rm' := rX5_units) [] dX6_time_4 (c_X5_units hW.2.2.2.2.1.1 hW.2.2.2.2.1.2 hmn (fun a _ => hmg a) eL eD) hW.2.2.2.2.1.1 rfl st_X5_units ml_X6_199 im_X5_units se_X5_units rfl (Nat.le_of_ble_eq_true rfl) (by decide) (by decide) (Nat.le_of_ble_eq_true rfl) (by decide) (by decide) (Or.inl rfl) (fun E9 σ9 hq9 _ => nomatch hq9.1) (fun r9 σ9 hq9 hle9 => ?_)
  obtain ⟨h9, h8⟩ := hq9
  rw [h8]
  clear hle9 h8 σ9
  cases h9
  refine J.iret .int dX6_time_7 rfl rfl (by decide) (by decide) ?_
  exact ⟨rfl, hW, FrC.refl⟩
set_option maxRecDepth 20000 in
theorem c_garble_0 {X : jX} {σ : jS} {pr : Int} {ln : Nat} {lw : Nat → Int} {bn : Nat → Nat} {cd sz : Nat → Nat → Nat} {ph : Nat → Nat → Int} {mn : Nat} {mg : Nat → Int} {kn : Nat} {kr : Nat → Int} {ks : Nat → Nat} {kt : Nat → Nat → Int} {rd : Nat} {rg : Nat → Int} {g p l : Nat} (hW : CW σ pr ln lw bn cd sz ph mn mg kn kr ks kt rd rg) (hI : CI pr ln lw bn cd sz ph mn mg kn kr ks kt rd rg) (hg : g < mn) (hp : p < 5) (hl : l < 26) (hx : ¬ mg g < 0) : JM X mX6_garble rX6_garble [.ref 5, vI ((g : Nat) : Int), vI ((p : Nat) : Int), vI ((l : Nat) : Int)] σ (XP (oI ((ltr (mg g).toNat p : Nat) : Int)) σ (fun σ1 => CW σ1 pr ln lw bn cd sz ph mn (jup mg g ((wlt (mg g).toNat p l : Nat) : Int)) kn kr ks kt rd rg)) := by
  refine JM.of (lc := [.ref 5, vI ((g : Nat) : Int), vI ((p : Nat) : Int), vI ((l : Nat) : Int), .null]) rfl ?_
  obtain ⟨hpr, ⟨hln, hlw⟩, hbk, ⟨hmn, hmg⟩, hki, hrd, hrg⟩ := id hI
  obtain ⟨gB, eB, hgB⟩ := hW.1.2.1
  obtain ⟨gT, eT, hgT⟩ := hW.2.2.2.1.2.2.2.1
  have hkn := hki.1
  obtain ⟨c, hcg⟩ : ∃ c : Nat, mg g = ((c : Nat) : Int) := ⟨(mg g).toNat, by omega⟩
  have hcb := (hmg g).2
  have hc : c ≤ 11881375 := by omega
  have htn : (mg g).toNat = c := by omega
  rw [htn]
  refine J.ald_n dX6_garble_0 rfl ?_
  refine J.ild_n dX6_garble_1 rfl ?_
  refine J.callV (rm' := rX6_requireGroup) [vI ((g : Nat) : Int)] dX6_garble_2 (c_X6_requireGroup hW.1.1 hW.2.2.2.2.1.1 hmn hg) hW.1.1 rfl st_X6_requireGroup ml_X6_171 im_X6_requireGroup se_X6_requireGroup rfl (Nat.le_of_ble_eq_true rfl) (by decide) (by decide) (Nat.le_of_ble_eq_true rfl) (by decide) (by decide) (Or.inl rfl) (fun E9 σ9 hq9 _ => nomatch hq9.1) (fun r9 σ9 hq9 hle9 => ?_)
  obtain ⟨h9, h8⟩ := hq9
  rw [h8]
  clear hle9 h8 σ9
  cases h9
  refine J.ild_n dX6_garble_5 rfl ?_
  refine J.iconst dX6_garble_6 ?_
  refine J.callS (rm' := rX6_requirePlace) [vI ((p : Nat) : Int), vI 5] dX6_garble_7 (c_X6_requirePlace (n := 5) hp (by omega)) st_X6_requirePlace ml_X6_108 sm_X6_requirePlace rfl (Nat.le_of_ble_eq_true rfl) (by decide) (by decide) (Nat.le_of_ble_eq_true rfl) (by decide) (by decide) (Or.inl rfl) (fun E9 σ9 hq9 _ => nomatch hq9.1) (fun r9 σ9 hq9 hle9 => ?_)
  obtain ⟨h9, h8⟩ := hq9
  rw [h8]
  clear hle9 h8 σ9
  cases h9
  refine J.ild_n dX6_garble_10 rfl ?_
  refine J.if_lt dX6_garble_11 (by decide) (tgt := 20) (by unfold inI; omega) (fun hb11 => ?_) (fun hb11 => ?_)
  · first | omega | exact absurd rfl hb11 | exact absurd hb11 (by decide)
  · refine J.ild_n dX6_garble_14 rfl ?_
    refine J.bipush dX6_garble_15 (by decide) ?_
    refine J.icmp_lt dX6_garble_17 (by decide) (tgt := 30) (by unfold inI; omega) (by unfold inI; omega) (fun hb17 => ?_) (fun hb17 => ?_)
    · refine J.ald_n dX6_garble_30 rfl ?_
      refine J.ild_n dX6_garble_31 rfl ?_
      refine J.callV (rm' := rX6_requireCodeWord) [vI ((g : Nat) : Int)] dX6_garble_32 (c_X6_requireCodeWord hW.1.1 hW.2.2.2.2.1.1 hW.2.2.2.2.1.2 (by omega) (inI_m (hmg g)) hx) hW.1.1 rfl st_X6_requireCodeWord ml_X6_177 im_X6_requireCodeWord se_X6_requireCodeWord rfl (Nat.le_of_ble_eq_true rfl) (by decide) (by decide) (Nat.le_of_ble_eq_true rfl) (by decide) (by decide) (Or.inl rfl) (fun E9 σ9 hq9 _ => nomatch hq9.1) (fun r9 σ9 hq9 hle9 => ?_)
      obtain ⟨h9, h8⟩ := hq9
      rw [h8]
      clear hle9 h8 σ9
      cases h9
      refine J.ald_n dX6_garble_35 rfl ?_
      refine gf_X6_33 rfl dX6_garble_36 hW.1.1 ?_
      refine gf_X6_174 rfl dX6_garble_39 hW.2.2.2.2.1.1 ?_
      refine J.ild_n dX6_garble_42 rfl ?_
      refine J.iald g dX6_garble_43 hW.2.2.2.2.1.2 rfl (by omega) (by omega) ?_
      rw [show mg g = ((c : Nat) : Int) from hcg]
      refine J.ist dX6_garble_44 (by decide) (jnc_of rfl rfl) ?_
      refine J.ald_n dX6_garble_46 rfl ?_
      refine gf_X6_33 rfl dX6_garble_47 hW.1.1 ?_
      refine gf_X6_174 rfl dX6_garble_50 hW.2.2.2.2.1.1 ?_
      refine J.ild_n dX6_garble_53 rfl ?_
      refine J.ild dX6_garble_54 rfl ?_
      refine J.ild_n dX6_garble_56 rfl ?_
      refine J.ild_n dX6_garble_57 rfl ?_
      refine J.callS (rm' := rX1_withLetter) [vI ((c : Nat) : Int), vI ((p : Nat) : Int), vI ((l : Nat) : Int)] dX6_garble_58 (c_X1_withLetter hc (by omega)) st_X1_withLetter ml_X6_180 sm_X1_withLetter rfl (Nat.le_of_ble_eq_true rfl) (by decide) (by decide) (Nat.le_of_ble_eq_true rfl) (by decide) (by decide) (Or.inl rfl) (fun E9 σ9 hq9 _ => nomatch hq9.1) (fun r9 σ9 hq9 hle9 => ?_)
      obtain ⟨h9, h8⟩ := hq9
      rw [h8]
      clear hle9 h8 σ9
      cases h9
      refine J.iast g dX6_garble_61 hW.2.2.2.2.1.2 (by omega) rfl (by omega) (by omega) ?_
      refine J.ild dX6_garble_62 rfl ?_
      refine J.ild_n dX6_garble_64 rfl ?_
      refine J.callS (rm' := rX1_letterAt) [vI ((c : Nat) : Int), vI ((p : Nat) : Int)] dX6_garble_65 (c_X1_letterAt hc (by omega)) st_X1_letterAt ml_X6_112 sm_X1_letterAt rfl (Nat.le_of_ble_eq_true rfl) (by decide) (by decide) (Nat.le_of_ble_eq_true rfl) (by decide) (by decide) (Or.inl rfl) (fun E9 σ9 hq9 _ => nomatch hq9.1) (fun r9 σ9 hq9 hle9 => ?_)
      obtain ⟨h9, h8⟩ := hq9
      rw [h8]
      clear hle9 h8 σ9
      cases h9
      refine J.iret .int dX6_garble_68 rfl rfl (by decide) (by decide) ?_
      exact ⟨rfl, hW.setM (fun j q1 q2 => jset_ne _ _ q2) ((jset_ne _ _ (by omega)).trans hW.2.2.2.2.1.1) (jset_eq _ _ _), rfl, fun j hj => by rw [jset_ne _ _ (by omega)]⟩
    · first | omega | exact absurd rfl hb17 | exact absurd hb17 (by decide)