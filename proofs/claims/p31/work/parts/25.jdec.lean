def rdR (n : Nat) (cd : Nat → Nat) (x : Int) : Int := if x < 0 then 0 else if fnU cd x.toNat n 0 = -1 then (if olU cd x.toNat n 0 (-1) = -1 then 3 else 2) else 1
def rdE (n : Nat) (cd : Nat → Nat) (x : Int) : Nat := (if fnU cd x.toNat n 0 = -1 then olU cd x.toNat n 0 (-1) else fnU cd x.toNat n 0).toNat
def rdN (n : Nat) (cd sz : Nat → Nat) (x : Int) (l : Nat) : Nat := if x < 0 then apN l else if rdR n cd x = 3 then l else alN (sz (rdE n cd x)) l
def rdF (n : Nat) (cd sz : Nat → Nat) (ph : Nat → Int) (x : Int) (l : Nat) (w : Nat → Int) : Nat → Int := if x < 0 then apF l w (-1 - x) else if rdR n cd x = 3 then w else alF ph (sz (rdE n cd x)) (rdE n cd x * 6) l w
def dcU (n : Nat) (cd sz : Nat → Nat) (ph mg : Nat → Int) : Nat → Nat → Nat → (Nat → Int) → (Nat → Int) → Int → Nat × (Nat → Int) × (Nat → Int) × Int
  | 0, _, l, w, r, x => (l, w, r, x)
  | t + 1, g, l, w, r, x => dcU n cd sz ph mg t (g + 1) (rdN n cd sz (mg g) l) (rdF n cd sz ph (mg g) l w) (jup r g (rdR n cd (mg g))) (if rdR n cd (mg g) = 3 then x + 1 else x)
theorem fnU_rng {cd : Nat → Nat} {c n : Nat} : ∀ (t e : Nat), e + t = n → (fnU cd c t e = -1 ∨ ∃ k : Nat, fnU cd c t e = ((k : Nat) : Int) ∧ k < n)
  | 0, _, _ => Or.inl rfl
  | t + 1, e, h => by
    show (if cd e = c then ((e : Nat) : Int) else fnU cd c t (e + 1)) = -1 ∨ ∃ k : Nat, (if cd e = c then ((e : Nat) : Int) else fnU cd c t (e + 1)) = ((k : Nat) : Int) ∧ k < n
    by_cases h1 : cd e = c
    · rw [if_pos h1]; exact Or.inr ⟨e, rfl, by omega⟩
    · rw [if_neg h1]; exact fnU_rng t (e + 1) (by omega)
theorem olU_rng {cd : Nat → Nat} {c n : Nat} : ∀ (t e : Nat) (o : Int), e + t = n → (o = -1 ∨ ∃ k : Nat, o = ((k : Nat) : Int) ∧ k < n) → (olU cd c t e o = -1 ∨ ∃ k : Nat, olU cd c t e o = ((k : Nat) : Int) ∧ k < n)
  | 0, _, _, _, h => h
  | t + 1, e, o, he, h => by
    show (if lk (cd e) c = 0 then olU cd c t (e + 1) o else if o = -1 then olU cd c t (e + 1) ((e : Nat) : Int) else -1) = -1 ∨ ∃ k : Nat, (if lk (cd e) c = 0 then olU cd c t (e + 1) o else if o = -1 then olU cd c t (e + 1) ((e : Nat) : Int) else -1) = ((k : Nat) : Int) ∧ k < n
    by_cases h1 : lk (cd e) c = 0
    · rw [if_pos h1]; exact olU_rng t (e + 1) o (by omega) h
    · rw [if_neg h1]
      by_cases h2 : o = -1
      · rw [if_pos h2]; exact olU_rng t (e + 1) _ (by omega) (Or.inr ⟨e, rfl, by omega⟩)
      · rw [if_neg h2]; exact Or.inl rfl
set_option maxRecDepth 20000 in
theorem c_X6_read {X : jX} {σ : jS} {x0 x2 x3 x4 x5 x6 x7 : Value} {l b n : Nat} {cd sz : Nat → Nat} {ph w : Nat → Int} {x : Int} (h5o : σ.2 5 = jO 5 [x0, .ref 19, x2, x3, x4, x5, x6, x7]) (e19 : σ.2 19 = jO 3 [.ref 20, vI ((l : Nat) : Int)]) (e20 : σ.2 20 = jI 40 w) (hl : l ≤ 40) (hB : BK σ (7 + 4 * b) n cd sz ph) (hb : b < 3) (hn : n ≤ 40) (hcd : ∀ e, e < n → cd e ≤ 11881375) (hsz : ∀ e, e < n → 1 ≤ sz e ∧ sz e ≤ 6) (hx : -10000 ≤ x ∧ x ≤ 11881375) : JM X mX6_read rX6_read [.ref 5, .ref (7 + 4 * b), vI x] σ (fun o σ1 => o = oI (rdR n cd x) ∧ σ1.2 19 = jO 3 [.ref 20, vI ((rdN n cd sz x l : Nat) : Int)] ∧ σ1.2 20 = jI 40 (rdF n cd sz ph x l w) ∧ σ1.1 = σ.1 ∧ ∀ j, j ≠ 19 → j ≠ 20 → σ1.2 j = σ.2 j) := by
  refine JM.of (lc := [.ref 5, .ref (7 + 4 * b), vI x, .null, .null]) rfl ?_
  by_cases hx0 : x < 0
  · refine J.ild_n dX6_read_0 rfl ?_
    refine J.callS (rm' := rX5_isPlain) [vI x] dX6_read_1 (c_X5_isPlain_t (inI_m hx) hx0) st_X5_isPlain ml_X6_239 sm_X5_isPlain rfl (Nat.le_of_ble_eq_true rfl) (by decide) (by decide) (Nat.le_of_ble_eq_true rfl) (by decide) (by decide) (Or.inl rfl) (fun E9 σ9 hq9 _ => nomatch hq9.1) (fun r9 σ9 hq9 hle9 => ?_)
    obtain ⟨h9, h8⟩ := hq9
    rw [h8]
    clear hle9 h8 σ9
    cases h9
    refine J.if_eq dX6_read_4 (by decide) (tgt := 20) (by unfold inI; omega) (fun h1 => ?_) (fun h1 => ?_)
    · exact absurd h1 (by decide)
    · refine J.ald_n dX6_read_7 rfl ?_
      refine gf_X6_19 rfl dX6_read_8 h5o ?_
      refine J.ild_n dX6_read_11 rfl ?_
      refine J.callS (rm' := rX5_wordOf) [vI x] dX6_read_12 (c_X5_wordOf) st_X5_wordOf ml_X6_245 sm_X5_wordOf rfl (Nat.le_of_ble_eq_true rfl) (by decide) (by decide) (Nat.le_of_ble_eq_true rfl) (by decide) (by decide) (Or.inl rfl) (fun E9 σ9 hq9 _ => nomatch hq9.1) (fun r9 σ9 hq9 hle9 => ?_)
      obtain ⟨h9, h8⟩ := hq9
      rw [h8]
      clear hle9 h8 σ9
      cases h9
      refine J.callV (rm' := rX4_append) [vI (-1 - x)] dX6_read_15 (c_X4_append e19 e20 (by omega) (by omega) hl) e19 rfl st_X4_append ml_X6_67 im_X4_append se_X4_append rfl (Nat.le_of_ble_eq_true rfl) (by decide) (by decide) (Nat.le_of_ble_eq_true rfl) (by decide) (by decide) (Or.inl rfl) (fun E9 σ9 hq9 _ => nomatch hq9.1) (fun r9 σ9 hq9 hle9 => ?_)
      obtain ⟨h9, h8⟩ := hq9
      cases h9
      subst h8
      clear hle9
      refine J.iconst dX6_read_18 ?_
      refine J.iret .int dX6_read_19 rfl rfl (by decide) (by decide) ?_
      rw [show rdR n cd x = 0 from if_pos hx0, show rdN n cd sz x l = apN l from if_pos hx0, show rdF n cd sz ph x l w = apF l w (-1 - x) from if_pos hx0]
      exact ⟨rfl, japp_i e19, japp_r e20 (by omega), japp_n .., fun j q1 q2 => japp_o q1 q2⟩
  · obtain ⟨c, rfl⟩ : ∃ c : Nat, x = ((c : Nat) : Int) := ⟨x.toNat, by omega⟩
    have hc : c ≤ 11881375 := by omega
    refine J.ild_n dX6_read_0 rfl ?_
    refine J.callS (rm' := rX5_isPlain) [vI ((c : Nat) : Int)] dX6_read_1 (c_X5_isPlain_f (inI_m hx) hx0) st_X5_isPlain ml_X6_239 sm_X5_isPlain rfl (Nat.le_of_ble_eq_true rfl) (by decide) (by decide) (Nat.le_of_ble_eq_true rfl) (by decide) (by decide) (Or.inl rfl) (fun E9 σ9 hq9 _ => nomatch hq9.1) (fun r9 σ9 hq9 hle9 => ?_)
    obtain ⟨h9, h8⟩ := hq9
    rw [h8]
    clear hle9 h8 σ9
    cases h9
    refine J.if_eq dX6_read_4 (by decide) (tgt := 20) (by unfold inI; omega) (fun h1 => ?_) (fun h1 => ?_)
    · refine J.iconst dX6_read_20 ?_
      refine J.ist_n dX6_read_21 (by decide) (jnc_of rfl rfl) ?_
      refine J.ald_n dX6_read_22 rfl ?_
      refine J.ild_n dX6_read_23 rfl ?_
      refine J.callV (rm' := rX0_entryWith) [vI ((c : Nat) : Int)] dX6_read_24 (c_X0_entryWith hB (by omega) hn hcd hc) hB.1 rfl st_X0_entryWith ml_X6_153 im_X0_entryWith se_X0_entryWith rfl (Nat.le_of_ble_eq_true rfl) (by decide) (by decide) (Nat.le_of_ble_eq_true rfl) (by decide) (by decide) (Or.inl rfl) (fun E9 σ9 hq9 _ => nomatch hq9.1) (fun r9 σ9 hq9 hle9 => ?_)
      obtain ⟨h9, h8⟩ := hq9
      rw [h8]
      clear hle9 h8 σ9
      cases h9
      rcases fnU_rng (cd := cd) (c := c) (n := n) n 0 (by omega) with hf | ⟨k, hf, hk⟩
      · rw [hf]
        refine J.ist dX6_read_27 (by decide) (jnc_of rfl rfl) ?_
        refine J.ild dX6_read_29 rfl ?_
        refine J.iconst dX6_read_31 ?_
        refine J.icmp_ne dX6_read_32 (by decide) (tgt := 44) (by unfold inI; omega) (by unfold inI; omega) (fun h2 => ?_) (fun h2 => ?_)
        · exact absurd rfl h2
        · refine J.iconst dX6_read_35 ?_
          refine J.ist_n dX6_read_36 (by decide) (jnc_of rfl rfl) ?_
          refine J.ald_n dX6_read_37 rfl ?_
          refine J.ild_n dX6_read_38 rfl ?_
          refine J.callV (rm' := rX0_onlyEntryLike) [vI ((c : Nat) : Int)] dX6_read_39 (c_X0_onlyEntryLike hB (by omega) hn hcd hc) hB.1 rfl st_X0_onlyEntryLike ml_X6_248 im_X0_onlyEntryLike se_X0_onlyEntryLike rfl (Nat.le_of_ble_eq_true rfl) (by decide) (by decide) (Nat.le_of_ble_eq_true rfl) (by decide) (by decide) (Or.inl rfl) (fun E9 σ9 hq9 _ => nomatch hq9.1) (fun r9 σ9 hq9 hle9 => ?_)
          obtain ⟨h9, h8⟩ := hq9
          rw [h8]
          clear hle9 h8 σ9
          cases h9
          rcases olU_rng (cd := cd) (c := c) (n := n) n 0 (-1) (by omega) (Or.inl rfl) with ho | ⟨k, ho, hk⟩
          · rw [ho]
            refine J.ist dX6_read_42 (by decide) (jnc_of rfl rfl) ?_
            refine J.ild dX6_read_44 rfl ?_
            refine J.iconst dX6_read_46 ?_
            refine J.icmp_ne dX6_read_47 (by decide) (tgt := 52) (by unfold inI; omega) (by unfold inI; omega) (fun h3 => ?_) (fun h3 => ?_)
            · exact absurd rfl h3
            · refine J.iconst dX6_read_50 ?_
              refine J.iret .int dX6_read_51 rfl rfl (by decide) (by decide) ?_
              have hR : rdR n cd ((c : Nat) : Int) = 3 := by unfold rdR; rw [if_neg hx0, Int.toNat_natCast, if_pos hf, if_pos ho]
              rw [hR, show rdN n cd sz ((c : Nat) : Int) l = l from by unfold rdN; rw [if_neg hx0, hR, if_pos rfl], show rdF n cd sz ph ((c : Nat) : Int) l w = w from by unfold rdF; rw [if_neg hx0, hR, if_pos rfl]]
              exact ⟨rfl, e19, e20, rfl, fun _ _ _ => rfl⟩
          · rw [ho]
            refine J.ist dX6_read_42 (by decide) (jnc_of rfl rfl) ?_
            refine J.ild dX6_read_44 rfl ?_
            refine J.iconst dX6_read_46 ?_
            refine J.icmp_ne dX6_read_47 (by decide) (tgt := 52) (by unfold inI; omega) (by unfold inI; omega) (fun h3 => ?_) (fun h3 => ?_)
            · have hse := hsz k hk
              refine J.ald_n dX6_read_52 rfl ?_
              refine gf_X6_19 rfl dX6_read_53 h5o ?_
              refine J.ald_n dX6_read_56 rfl ?_
              refine gf_X6_149 rfl dX6_read_57 hB.1 ?_
              refine J.ild dX6_read_60 rfl ?_
              refine J.callS (rm' := rX0_startOf) [vI ((k : Nat) : Int)] dX6_read_62 (c_X0_startOf) st_X0_startOf ml_X6_152 sm_X0_startOf rfl (Nat.le_of_ble_eq_true rfl) (by decide) (by decide) (Nat.le_of_ble_eq_true rfl) (by decide) (by decide) (Or.inl rfl) (fun E9 σ9 hq9 _ => nomatch hq9.1) (fun r9 σ9 hq9 hle9 => ?_)
              obtain ⟨h9, h8⟩ := hq9
              rw [h8]
              clear hle9 h8 σ9
              cases h9
              refine J.ald_n dX6_read_65 rfl ?_
              refine gf_X6_146 rfl dX6_read_66 hB.1 ?_
              refine J.ild dX6_read_69 rfl ?_
              refine J.iald k dX6_read_71 hB.2.2.1 rfl (by omega) (by omega) ?_
              refine J.callV (rm' := rX4_appendAll) [.ref (7 + 4 * b + 3), vI ((k * 6 : Nat) : Int), vI ((sz k : Nat) : Int)] dX6_read_72 (c_X4_appendAll e19 e20 (by omega) (by omega) hl hB.2.2.2 (by omega) (by omega) (by omega) (by omega)) e19 rfl st_X4_appendAll ml_X6_101 im_X4_appendAll se_X4_appendAll rfl (Nat.le_of_ble_eq_true rfl) (by decide) (by decide) (Nat.le_of_ble_eq_true rfl) (by decide) (by decide) (Or.inl rfl) (fun E9 σ9 hq9 _ => nomatch hq9.1) (fun r9 σ9 hq9 hle9 => ?_)
              obtain ⟨h9, h8⟩ := hq9
              cases h9
              subst h8
              clear hle9
              refine J.ild_n dX6_read_75 rfl ?_
              refine J.iret .int dX6_read_76 rfl rfl (by decide) (by decide) ?_
              have hE : rdE n cd ((c : Nat) : Int) = k := by unfold rdE; rw [Int.toNat_natCast, if_pos hf, ho]; rfl
              have hR : rdR n cd ((c : Nat) : Int) = 2 := by unfold rdR; rw [if_neg hx0, Int.toNat_natCast, if_pos hf, if_neg (by omega)]
              rw [hR, show rdN n cd sz ((c : Nat) : Int) l = alN (sz k) l from by unfold rdN; rw [if_neg hx0, hR, if_neg (by omega), hE], show rdF n cd sz ph ((c : Nat) : Int) l w = alF ph (sz k) (k * 6) l w from by unfold rdF; rw [if_neg hx0, hR, if_neg (by omega), hE]]
              exact ⟨rfl, alS_i _ _ _ _ _ e19, alS_r (by omega) _ _ _ _ _ e20, alS_n .., fun j q1 q2 => alS_o q1 q2 _ _ _ _ _⟩
            · omega
      · rw [hf]
        refine J.ist dX6_read_27 (by decide) (jnc_of rfl rfl) ?_
        refine J.ild dX6_read_29 rfl ?_
        refine J.iconst dX6_read_31 ?_
        refine J.icmp_ne dX6_read_32 (by decide) (tgt := 44) (by unfold inI; omega) (by unfold inI; omega) (fun h2 => ?_) (fun h2 => ?_)
        · refine J.ild dX6_read_44 rfl ?_
          refine J.iconst dX6_read_46 ?_
          refine J.icmp_ne dX6_read_47 (by decide) (tgt := 52) (by unfold inI; omega) (by unfold inI; omega) (fun h3 => ?_) (fun h3 => ?_)
          · have hse := hsz k hk
            refine J.ald_n dX6_read_52 rfl ?_
            refine gf_X6_19 rfl dX6_read_53 h5o ?_
            refine J.ald_n dX6_read_56 rfl ?_
            refine gf_X6_149 rfl dX6_read_57 hB.1 ?_
            refine J.ild dX6_read_60 rfl ?_
            refine J.callS (rm' := rX0_startOf) [vI ((k : Nat) : Int)] dX6_read_62 (c_X0_startOf) st_X0_startOf ml_X6_152 sm_X0_startOf rfl (Nat.le_of_ble_eq_true rfl) (by decide) (by decide) (Nat.le_of_ble_eq_true rfl) (by decide) (by decide) (Or.inl rfl) (fun E9 σ9 hq9 _ => nomatch hq9.1) (fun r9 σ9 hq9 hle9 => ?_)
            obtain ⟨h9, h8⟩ := hq9
            rw [h8]
            clear hle9 h8 σ9
            cases h9
            refine J.ald_n dX6_read_65 rfl ?_
            refine gf_X6_146 rfl dX6_read_66 hB.1 ?_
            refine J.ild dX6_read_69 rfl ?_
            refine J.iald k dX6_read_71 hB.2.2.1 rfl (by omega) (by omega) ?_
            refine J.callV (rm' := rX4_appendAll) [.ref (7 + 4 * b + 3), vI ((k * 6 : Nat) : Int), vI ((sz k : Nat) : Int)] dX6_read_72 (c_X4_appendAll e19 e20 (by omega) (by omega) hl hB.2.2.2 (by omega) (by omega) (by omega) (by omega)) e19 rfl st_X4_appendAll ml_X6_101 im_X4_appendAll se_X4_appendAll rfl (Nat.le_of_ble_eq_true rfl) (by decide) (by decide) (Nat.le_of_ble_eq_true rfl) (by decide) (by decide) (Or.inl rfl) (fun E9 σ9 hq9 _ => nomatch hq9.1) (fun r9 σ9 hq9 hle9 => ?_)
            obtain ⟨h9, h8⟩ := hq9
            cases h9
            subst h8
            clear hle9
            refine J.ild_n dX6_read_75 rfl ?_
            refine J.iret .int dX6_read_76 rfl rfl (by decide) (by decide) ?_
            have hE : rdE n cd ((c : Nat) : Int) = k := by unfold rdE; rw [Int.toNat_natCast, if_neg (by omega), hf]; rfl
            have hR : rdR n cd ((c : Nat) : Int) = 1 := by unfold rdR; rw [if_neg hx0, Int.toNat_natCast, if_neg (by omega)]
            rw [hR, show rdN n cd sz ((c : Nat) : Int) l = alN (sz k) l from by unfold rdN; rw [if_neg hx0, hR, if_neg (by omega), hE], show rdF n cd sz ph ((c : Nat) : Int) l w = alF ph (sz k) (k * 6) l w from by unfold rdF; rw [if_neg hx0, hR, if_neg (by omega), hE]]
            exact ⟨rfl, alS_i _ _ _ _ _ e19, alS_r (by omega) _ _ _ _ _ e20, alS_n .., fun j q1 q2 => alS_o q1 q2 _ _ _ _ _⟩
          · omega
        · omega
    · exact absurd rfl h1
theorem rdR_bd (n : Nat) (cd : Nat → Nat) (x : Int) : 0 ≤ rdR n cd x ∧ rdR n cd x ≤ 3 := by
  unfold rdR
  split
  · omega
  · split
    · split <;> omega
    · omega
theorem rdN_le {n : Nat} {cd sz : Nat → Nat} {x : Int} {l : Nat} (h : l ≤ 40) : rdN n cd sz x l ≤ 40 := by
  unfold rdN
  split
  · exact apN_le h
  · split
    · exact h
    · exact alN_le _ _ h
set_option maxRecDepth 20000 in
theorem c_decode_0 {X : jX} {σ : jS} {pr : Int} {ln : Nat} {lw : Nat → Int} {bn : Nat → Nat} {cd sz : Nat → Nat → Nat} {ph : Nat → Nat → Int} {mn : Nat} {mg : Nat → Int} {kn : Nat} {kr : Nat → Int} {ks : Nat → Nat} {kt : Nat → Nat → Int} {rd : Nat} {rg : Nat → Int} {b : Nat} (hW : CW σ pr ln lw bn cd sz ph mn mg kn kr ks kt rd rg) (hI : CI pr ln lw bn cd sz ph mn mg kn kr ks kt rd rg) (hb : b < 3) : JM X mX6_decode rX6_decode [.ref 5, vI ((b : Nat) : Int)] σ (XP (oI (dcU (bn b) (cd b) (sz b) (ph b) mg mn 0 0 lw rg 0).2.2.2) σ (fun σ1 => CW σ1 pr ((dcU (bn b) (cd b) (sz b) (ph b) mg mn 0 0 lw rg 0).1) ((dcU (bn b) (cd b) (sz b) (ph b) mg mn 0 0 lw rg 0).2.1) bn cd sz ph mn mg kn kr ks kt mn ((dcU (bn b) (cd b) (sz b) (ph b) mg mn 0 0 lw rg 0).2.2.1))) := by
  refine JM.of (lc := [.ref 5, vI ((b : Nat) : Int), .null, .null, .null]) rfl ?_
  obtain ⟨hpr, ⟨hln, hlw⟩, hbk, ⟨hmn, hmg⟩, hki, hrd, hrg⟩ := id hI
  obtain ⟨gB, eB, hgB⟩ := hW.1.2.1
  obtain ⟨gT, eT, hgT⟩ := hW.2.2.2.1.2.2.2.1
  have hkn := hki.1
  have hB := hW.2.1 b hb
  have hbn := (hbk b hb).1
  have hcd := (hbk b hb).2.1
  have hsz := (hbk b hb).2.2.1
  have hph := (hbk b hb).2.2.2
  refine J.ald_n dX6_decode_0 rfl ?_
  refine J.ild_n dX6_decode_1 rfl ?_
  refine J.callV (rm' := rX6_requireBook) [vI ((b : Nat) : Int)] dX6_decode_2 (c_X6_requireBook hW.1.1 eB hgB hb) hW.1.1 rfl st_X6_requireBook ml_X6_118 im_X6_requireBook se_X6_requireBook rfl (Nat.le_of_ble_eq_true rfl) (by decide) (by decide) (Nat.le_of_ble_eq_true rfl) (by decide) (by decide) (Or.inl rfl) (fun E9 σ9 hq9 _ => nomatch hq9.1) (fun r9 σ9 hq9 hle9 => ?_)
  obtain ⟨h9, h8⟩ := hq9
  rw [h8]
  clear hle9 h8 σ9
  cases h9
  refine J.ast_n dX6_decode_5 (by decide) (jnc_of rfl rfl) ?_
  refine J.ald_n dX6_decode_6 rfl ?_
  refine gf_X6_19 rfl dX6_decode_7 hW.1.1 ?_
  refine J.callV (rm' := rX4_clear) [] dX6_decode_10 (c_X4_clear hW.2.2.1.1) hW.2.2.1.1 rfl st_X4_clear ml_X6_71 im_X4_clear se_X4_clear rfl (Nat.le_of_ble_eq_true rfl) (by decide) (by decide) (Nat.le_of_ble_eq_true rfl) (by decide) (by decide) (Or.inl rfl) (fun E9 σ9 hq9 _ => nomatch hq9.1) (fun r9 σ9 hq9 hle9 => ?_)
  obtain ⟨h9, h8⟩ := hq9
  cases h9
  subst h8
  clear hle9
  refine J.ald_n dX6_decode_13 rfl ?_
  refine J.ald_n dX6_decode_14 rfl ?_
  refine gf_X6_33 rfl dX6_decode_15 ((jset_ne _ _ (by omega)).trans hW.1.1) ?_
  refine gf_X6_170 rfl dX6_decode_18 ((jset_ne _ _ (by omega)).trans hW.2.2.2.2.1.1) ?_
  refine pf_X6_187 rfl dX6_decode_21 ((jset_ne _ _ (by omega)).trans hW.1.1) ?_
  refine J.iconst dX6_decode_24 ?_
  refine J.ist_n dX6_decode_25 (by decide) (jnc_of rfl rfl) ?_
  refine J.iconst dX6_decode_26 ?_
  refine J.ist dX6_decode_27 (by decide) (jnc_of rfl rfl) ?_
  have L : ∀ (t g : Nat) (σ' : jS) (l : Nat) (w r : Nat → Int) (x : Int), g + t = mn → l ≤ 40 → CW σ' pr l w bn cd sz ph mn mg kn kr ks kt mn r → FrC σ σ' → J X mX6_decode rX6_decode 29 [.ref 5, vI ((b : Nat) : Int), .ref (7 + 4 * b), vI x, vI ((g : Nat) : Int)] [] 1 6 σ' (XP (oI (dcU (bn b) (cd b) (sz b) (ph b) mg t g l w r x).2.2.2) σ (fun σ9 => CW σ9 pr ((dcU (bn b) (cd b) (sz b) (ph b) mg t g l w r x).1) ((dcU (bn b) (cd b) (sz b) (ph b) mg t g l w r x).2.1) bn cd sz ph mn mg kn kr ks kt mn ((dcU (bn b) (cd b) (sz b) (ph b) mg t g l w r x).2.2.1))) := by
    intro t
    induction t with
    | zero =>
      intro g σ' l w r x hg hl hW' hF
      refine J.ild dX6_decode_29 rfl ?_
      refine J.ald_n dX6_decode_31 rfl ?_
      refine gf_X6_187 rfl dX6_decode_32 hW'.1.1 ?_
      refine J.icmp_ge dX6_decode_35 (by decide) (tgt := 80) (by unfold inI; omega) (by unfold inI; omega) (fun h => ?_) (fun h => ?_)
      · refine J.ild_n dX6_decode_80 rfl ?_
        refine J.iret .int dX6_decode_81 rfl rfl (by decide) (by decide) ?_
        exact ⟨rfl, hW', hF⟩
      · omega
    | succ t ih =>
      intro g σ' l w r x hg hl hW' hF
      refine J.ild dX6_decode_29 rfl ?_
      refine J.ald_n dX6_decode_31 rfl ?_
      refine gf_X6_187 rfl dX6_decode_32 hW'.1.1 ?_
      refine J.icmp_ge dX6_decode_35 (by decide) (tgt := 80) (by unfold inI; omega) (by unfold inI; omega) (fun h => ?_) (fun h => ?_)
      · omega
      · refine J.ald_n dX6_decode_38 rfl ?_
        refine gf_X6_44 rfl dX6_decode_39 hW'.1.1 ?_
        refine J.ild dX6_decode_42 rfl ?_
        refine J.ald_n dX6_decode_44 rfl ?_
        refine J.ald_n dX6_decode_45 rfl ?_
        refine J.ald_n dX6_decode_46 rfl ?_
        refine gf_X6_33 rfl dX6_decode_47 hW'.1.1 ?_
        refine gf_X6_174 rfl dX6_decode_50 hW'.2.2.2.2.1.1 ?_
        refine J.ild dX6_decode_53 rfl ?_
        refine J.iald g dX6_decode_55 hW'.2.2.2.2.1.2 rfl (by omega) (by omega) ?_
        refine J.callV (rm' := rX6_read) [.ref (7 + 4 * b), vI (mg g)] dX6_decode_56 (c_X6_read hW'.1.1 hW'.2.2.1.1 hW'.2.2.1.2 hl (hW'.2.1 b hb) hb hbn (fun e _ => hcd e) hsz (hmg g)) hW'.1.1 rfl st_X6_read ml_X6_190 im_X6_read se_X6_read rfl (Nat.le_of_ble_eq_true rfl) (by decide) (by decide) (Nat.le_of_ble_eq_true rfl) (by decide) (by decide) (Or.inl rfl) (fun E9 σ9 hq9 _ => nomatch hq9.1) (fun r9 σ1 hq9 hle9 => ?_)
        obtain ⟨h9, h19, h20, hn1, hj1⟩ := hq9
        cases h9
        clear hle9
        have hrb := rdR_bd (bn b) (cd b) (mg g)
        refine J.iast g dX6_decode_59 ((hj1 _ (by omega) (by omega)).trans hW'.1.2.2) (by omega) rfl (by omega) (by omega) ?_
        refine J.ald_n dX6_decode_60 rfl ?_
        refine gf_X6_44 rfl dX6_decode_61 ((jset_ne _ _ (by omega)).trans ((hj1 _ (by omega) (by omega)).trans hW'.1.1)) ?_
        refine J.ild dX6_decode_64 rfl ?_
        refine J.iald g dX6_decode_66 (jset_eq _ _ _) rfl (by omega) (by omega) ?_
        rw [show (jup r g (rdR (bn b) (cd b) (mg g))) g = (rdR (bn b) (cd b) (mg g)) from jup_eq _ _ _]
        refine J.iconst dX6_decode_67 ?_
        refine J.icmp_ne dX6_decode_68 (by decide) (tgt := 74) (by unfold inI; omega) (by unfold inI; omega) (fun h2 => ?_) (fun h2 => ?_)
        · refine J.iinc (v := ((g + 1 : Nat) : Int)) dX6_decode_74 rfl (by first | rfl | omega) (by decide) (jnc_of rfl rfl) ?_
          refine J.goto dX6_decode_77 (by decide) (tgt := 29) ?_
          rw [show dcU (bn b) (cd b) (sz b) (ph b) mg (t + 1) g l w r x = dcU (bn b) (cd b) (sz b) (ph b) mg t (g + 1) (rdN (bn b) (cd b) (sz b) (mg g) l) (rdF (bn b) (cd b) (sz b) (ph b) (mg g) l w) (jup r g (rdR (bn b) (cd b) (mg g))) x from by show dcU (bn b) (cd b) (sz b) (ph b) mg t (g + 1) _ _ _ (if rdR (bn b) (cd b) (mg g) = 3 then x + 1 else x) = _; rw [if_neg h2]]
          exact ih (g + 1) _ _ _ _ x (by omega) (rdN_le hl) ((hW'.setL hj1 h19 h20).setW (fun j q1 q2 => jset_ne _ _ q2) ((jset_ne _ _ (by omega)).trans ((hj1 _ (by omega) (by omega)).trans hW'.1.1)) (jset_eq _ _ _)) (hF.trans (FrC.trans (σ1 := σ1) ⟨hn1, fun j hj => hj1 j (by omega) (by omega)⟩ ⟨rfl, fun j hj => jset_ne _ _ (by omega)⟩))
        · refine J.iinc (v := (x + 1)) dX6_decode_71 rfl (by first | rfl | omega) (by decide) (jnc_of rfl rfl) ?_
          refine J.iinc (v := ((g + 1 : Nat) : Int)) dX6_decode_74 rfl (by first | rfl | omega) (by decide) (jnc_of rfl rfl) ?_
          refine J.goto dX6_decode_77 (by decide) (tgt := 29) ?_
          rw [show dcU (bn b) (cd b) (sz b) (ph b) mg (t + 1) g l w r x = dcU (bn b) (cd b) (sz b) (ph b) mg t (g + 1) (rdN (bn b) (cd b) (sz b) (mg g) l) (rdF (bn b) (cd b) (sz b) (ph b) (mg g) l w) (jup r g (rdR (bn b) (cd b) (mg g))) (x + 1) from by show dcU (bn b) (cd b) (sz b) (ph b) mg t (g + 1) _ _ _ (if rdR (bn b) (cd b) (mg g) = 3 then x + 1 else x) = _; rw [if_pos (by omega)]]
          exact ih (g + 1) _ _ _ _ (x + 1) (by omega) (rdN_le hl) ((hW'.setL hj1 h19 h20).setW (fun j q1 q2 => jset_ne _ _ q2) ((jset_ne _ _ (by omega)).trans ((hj1 _ (by omega) (by omega)).trans hW'.1.1)) (jset_eq _ _ _)) (hF.trans (FrC.trans (σ1 := σ1) ⟨hn1, fun j hj => hj1 j (by omega) (by omega)⟩ ⟨rfl, fun j hj => jset_ne _ _ (by omega)⟩))
  exact L mn 0 _ 0 lw rg 0 (by omega) (by omega) ((hW.setL (σ1 := jset σ 19 (jO 3 [.ref 20, vI 0])) (fun j q1 q2 => by rw [jset_ne _ _ q1]) (jset_eq _ _ _) ((jset_ne _ _ (by omega)).trans hW.2.2.1.2)).setW (fun j q1 q2 => jset_ne _ _ q1) (jset_eq _ _ _) ((jset_ne _ _ (by omega)).trans ((jset_ne _ _ (by omega)).trans hW.1.2.2))) (FrC.trans (σ1 := jset σ 19 (jO 3 [.ref 20, vI 0])) ⟨rfl, fun j hj => jset_ne _ _ (by omega)⟩ ⟨rfl, fun j hj => jset_ne _ _ (by omega)⟩)
