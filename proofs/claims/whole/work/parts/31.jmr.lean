set_option maxRecDepth 20000 in
theorem c_X7_reasonFor {X : jX} {σ : jS} {th pr ln kn mn rd pa ps : Int} {bn : Nat → Nat} {Mc : Nat → Nat} {b : Nat} {cd : Nat → Nat} {c : Nat} (hO : MO σ th pr ln kn mn rd pa ps) (h41 : σ.2 41 = jI 3 (fun e => ((bn e : Nat) : Int))) (hb : b < 3) (hn : bn b ≤ 40) (h42 : σ.2 42 = jI 120 (fun e => ((Mc e : Nat) : Int))) (hc9 : ∀ e, e < 40 → Mc (40 * b + e) = cd e) (hcd : ∀ e, cd e ≤ 11881375) (hc : c ≤ 11881375) : JM X mX7_reasonFor rX7_reasonFor [.ref 37, vI ((b : Nat) : Int), vI ((c : Nat) : Int)] σ (jEnd (oI ((rsn (bn b) cd c : Nat) : Int)) σ) := by
  refine JM.of (lc := [.ref 37, vI ((b : Nat) : Int), vI ((c : Nat) : Int), .null, .null, .null, .null]) rfl ?_
  have hn9 := hn
  refine J.ald_n dX7_reasonFor_0 rfl ?_
  refine gf_X7_23 rfl dX7_reasonFor_1 hO ?_
  refine J.ild_n dX7_reasonFor_4 rfl ?_
  refine J.iald b dX7_reasonFor_5 h41 rfl (by omega) (by omega) ?_
  refine J.bipush dX7_reasonFor_6 (by decide) ?_
  refine J.icmp_ne dX7_reasonFor_8 (by decide) (tgt := 13) (by unfold inI; omega) (by unfold inI; omega) (fun h0 => ?_) (fun h0 => ?_)
  · refine J.iconst dX7_reasonFor_13 ?_
    refine J.ist_n dX7_reasonFor_14 (by decide) (jnc_of rfl rfl) ?_
    refine J.iconst dX7_reasonFor_15 ?_
    refine J.ist dX7_reasonFor_16 (by decide) (jnc_of rfl rfl) ?_
    have L : ∀ (t : Nat), ∀ (e r : Nat) (u u2 : Value), e + t = bn b → u.category = 1 → u2.category = 1 → r ≤ 4 → J X mX7_reasonFor rX7_reasonFor 18 [.ref 37, vI ((b : Nat) : Int), vI ((c : Nat) : Int), vI ((r : Nat) : Int), vI ((e : Nat) : Int), u, u2] [] 0 0 σ (jEnd (oI ((rsU cd c t e r : Nat) : Int)) σ) := by
      intro t
      induction t with
      | zero =>
        intro e r u u2 he hu hu2 hr
        refine J.ild dX7_reasonFor_18 rfl ?_
        refine J.ald_n dX7_reasonFor_20 rfl ?_
        refine gf_X7_23 rfl dX7_reasonFor_21 hO ?_
        refine J.ild_n dX7_reasonFor_24 rfl ?_
        refine J.iald b dX7_reasonFor_25 h41 rfl (by omega) (by omega) ?_
        refine J.icmp_ge dX7_reasonFor_26 (by decide) (tgt := 106) (by unfold inI; omega) (by unfold inI; omega) (fun h => ?_) (fun h => ?_)
        · refine J.ild_n dX7_reasonFor_106 rfl ?_
          refine J.iret .int dX7_reasonFor_107 rfl rfl (by decide) (by decide) ?_
          exact ⟨rfl, rfl⟩
        · omega
      | succ t ih =>
        intro e r u u2 he hu hu2 hr
        refine J.ild dX7_reasonFor_18 rfl ?_
        refine J.ald_n dX7_reasonFor_20 rfl ?_
        refine gf_X7_23 rfl dX7_reasonFor_21 hO ?_
        refine J.ild_n dX7_reasonFor_24 rfl ?_
        refine J.iald b dX7_reasonFor_25 h41 rfl (by omega) (by omega) ?_
        refine J.icmp_ge dX7_reasonFor_26 (by decide) (tgt := 106) (by unfold inI; omega) (by unfold inI; omega) (fun h => ?_) (fun h => ?_)
        · omega
        · have hce := hcd e
          refine J.ald_n dX7_reasonFor_29 rfl ?_
          refine gf_X7_26 rfl dX7_reasonFor_30 hO ?_
          refine J.bipush dX7_reasonFor_33 (by decide) ?_
          refine J.ild_n dX7_reasonFor_35 rfl ?_
          refine J.imul dX7_reasonFor_36 ?_
          rw [show (40 : Int) * ((b : Nat) : Int) = ((40 * b : Nat) : Int) from by push_cast; rfl]
          refine J.ild dX7_reasonFor_37 rfl ?_
          refine J.iadd dX7_reasonFor_39 ?_
          rw [show (((40 * b : Nat) : Int) : Int) + ((e : Nat) : Int) = (((40 * b) + e : Nat) : Int) from by push_cast; rfl]
          refine J.iald (40 * b + e) dX7_reasonFor_40 h42 rfl (by omega) (by omega) ?_
          rw [show Mc (40 * b + e) = ((cd e : Nat) : Int) from by rw [hc9 e (by omega)]]
          refine J.ist dX7_reasonFor_41 (by decide) (jnc_of rfl rfl) ?_
          refine J.ild dX7_reasonFor_43 rfl ?_
          refine J.ild_n dX7_reasonFor_45 rfl ?_
          refine J.icmp_ne dX7_reasonFor_46 (by decide) (tgt := 53) (by unfold inI; omega) (by unfold inI; omega) (fun h2 => ?_) (fun h2 => ?_)
          · have hne : cd e ≠ c := by omega
            refine J.ild dX7_reasonFor_53 rfl ?_
            refine J.ild_n dX7_reasonFor_55 rfl ?_
            refine J.callS (rm' := rX7_isOneOff) [vI ((cd e : Nat) : Int), vI ((c : Nat) : Int)] dX7_reasonFor_56 (c_X7_isOneOff hce hc) st_X7_isOneOff ml_X7_88 sm_X7_isOneOff rfl (Nat.le_of_ble_eq_true rfl) (by decide) (by decide) (Nat.le_of_ble_eq_true rfl) (by decide) (by decide) (Or.inl rfl) (fun E9 σ9 hq9 _ => nomatch hq9.1) (fun r9 σ9 hq9 hle9 => ?_)
            obtain ⟨h9, h8⟩ := hq9
            rw [h8]
            clear hle9 h8 σ9
            cases h9
            by_cases ho : offT (cd e) c 5 0 = 1
            · rw [show bN (decide (offT (cd e) c 5 0 = 1)) = 1 from if_pos (decide_eq_true ho)]
              refine J.if_eq dX7_reasonFor_59 (by decide) (tgt := 66) (by unfold inI; omega) (fun h3 => ?_) (fun h3 => ?_)
              · exact absurd h3 (by decide)
              · refine J.iconst dX7_reasonFor_62 ?_
                refine J.goto dX7_reasonFor_63 (by decide) (tgt := 80) ?_
                have hlk : lk (cd e) c = 3 := lk_one hce hc hne ho
                refine J.ist dX7_reasonFor_80 (by decide) (jnc_of rfl rfl) ?_
                refine J.ild dX7_reasonFor_82 rfl ?_
                refine J.if_eq dX7_reasonFor_84 (by decide) (tgt := 100) (by unfold inI; omega) (fun h4 => ?_) (fun h4 => ?_)
                · exact absurd h4 (by decide)
                · refine J.ild_n dX7_reasonFor_87 rfl ?_
                  refine J.if_eq dX7_reasonFor_88 (by decide) (tgt := 97) (by unfold inI; omega) (fun h5 => ?_) (fun h5 => ?_)
                  · refine J.ild dX7_reasonFor_97 rfl ?_
                    refine J.ist_n dX7_reasonFor_99 (by decide) (jnc_of rfl rfl) ?_
                    refine J.iinc (v := ((e + 1 : Nat) : Int)) dX7_reasonFor_100 rfl (by first | rfl | omega) (by decide) (jnc_of rfl rfl) ?_
                    refine J.goto dX7_reasonFor_103 (by decide) (tgt := 18) ?_
                    rw [show rsU cd c (t + 1) e r = rsU cd c t (e + 1) (if lk (cd e) c ≠ 0 ∧ (r = 0 ∨ lk (cd e) c < r) then lk (cd e) c else r) from rfl, if_pos (by omega)]
                    rw [hlk]
                    exact ih (e + 1) 3 _ _ (by omega) rfl rfl (by omega)
                  · refine J.ild dX7_reasonFor_91 rfl ?_
                    refine J.ild_n dX7_reasonFor_93 rfl ?_
                    refine J.icmp_ge dX7_reasonFor_94 (by decide) (tgt := 100) (by unfold inI; omega) (by unfold inI; omega) (fun h6 => ?_) (fun h6 => ?_)
                    · refine J.iinc (v := ((e + 1 : Nat) : Int)) dX7_reasonFor_100 rfl (by first | rfl | omega) (by decide) (jnc_of rfl rfl) ?_
                      refine J.goto dX7_reasonFor_103 (by decide) (tgt := 18) ?_
                      rw [show rsU cd c (t + 1) e r = rsU cd c t (e + 1) (if lk (cd e) c ≠ 0 ∧ (r = 0 ∨ lk (cd e) c < r) then lk (cd e) c else r) from rfl, if_neg (by omega)]
                      exact ih (e + 1) r _ _ (by omega) rfl rfl (by omega)
                    · refine J.ild dX7_reasonFor_97 rfl ?_
                      refine J.ist_n dX7_reasonFor_99 (by decide) (jnc_of rfl rfl) ?_
                      refine J.iinc (v := ((e + 1 : Nat) : Int)) dX7_reasonFor_100 rfl (by first | rfl | omega) (by decide) (jnc_of rfl rfl) ?_
                      refine J.goto dX7_reasonFor_103 (by decide) (tgt := 18) ?_
                      rw [show rsU cd c (t + 1) e r = rsU cd c t (e + 1) (if lk (cd e) c ≠ 0 ∧ (r = 0 ∨ lk (cd e) c < r) then lk (cd e) c else r) from rfl, if_pos (by omega)]
                      rw [hlk]
                      exact ih (e + 1) 3 _ _ (by omega) rfl rfl (by omega)
            · rw [show bN (decide (offT (cd e) c 5 0 = 1)) = 0 from if_neg (by simpa using ho)]
              refine J.if_eq dX7_reasonFor_59 (by decide) (tgt := 66) (by unfold inI; omega) (fun h3 => ?_) (fun h3 => ?_)
              · refine J.ild dX7_reasonFor_66 rfl ?_
                refine J.ild_n dX7_reasonFor_68 rfl ?_
                refine J.callS (rm' := rX7_isSwapped) [vI ((cd e : Nat) : Int), vI ((c : Nat) : Int)] dX7_reasonFor_69 (c_X7_isSwapped hce hc hne) st_X7_isSwapped ml_X7_92 sm_X7_isSwapped rfl (Nat.le_of_ble_eq_true rfl) (by decide) (by decide) (Nat.le_of_ble_eq_true rfl) (by decide) (by decide) (Or.inl rfl) (fun E9 σ9 hq9 _ => nomatch hq9.1) (fun r9 σ9 hq9 hle9 => ?_)
                obtain ⟨h9, h8⟩ := hq9
                rw [h8]
                clear hle9 h8 σ9
                cases h9
                by_cases hs : swT (cd e) c 4 0 = true
                · rw [show bN (swT (cd e) c 4 0) = 1 from if_pos hs]
                  refine J.if_eq dX7_reasonFor_72 (by decide) (tgt := 79) (by unfold inI; omega) (fun h33 => ?_) (fun h33 => ?_)
                  · exact absurd h33 (by decide)
                  · refine J.iconst dX7_reasonFor_75 ?_
                    refine J.goto dX7_reasonFor_76 (by decide) (tgt := 80) ?_
                    have hlk : lk (cd e) c = 4 := lk_sw hce hc hne ho hs
                    refine J.ist dX7_reasonFor_80 (by decide) (jnc_of rfl rfl) ?_
                    refine J.ild dX7_reasonFor_82 rfl ?_
                    refine J.if_eq dX7_reasonFor_84 (by decide) (tgt := 100) (by unfold inI; omega) (fun h4 => ?_) (fun h4 => ?_)
                    · exact absurd h4 (by decide)
                    · refine J.ild_n dX7_reasonFor_87 rfl ?_
                      refine J.if_eq dX7_reasonFor_88 (by decide) (tgt := 97) (by unfold inI; omega) (fun h5 => ?_) (fun h5 => ?_)
                      · refine J.ild dX7_reasonFor_97 rfl ?_
                        refine J.ist_n dX7_reasonFor_99 (by decide) (jnc_of rfl rfl) ?_
                        refine J.iinc (v := ((e + 1 : Nat) : Int)) dX7_reasonFor_100 rfl (by first | rfl | omega) (by decide) (jnc_of rfl rfl) ?_
                        refine J.goto dX7_reasonFor_103 (by decide) (tgt := 18) ?_
                        rw [show rsU cd c (t + 1) e r = rsU cd c t (e + 1) (if lk (cd e) c ≠ 0 ∧ (r = 0 ∨ lk (cd e) c < r) then lk (cd e) c else r) from rfl, if_pos (by omega)]
                        rw [hlk]
                        exact ih (e + 1) 4 _ _ (by omega) rfl rfl (by omega)
                      · refine J.ild dX7_reasonFor_91 rfl ?_
                        refine J.ild_n dX7_reasonFor_93 rfl ?_
                        refine J.icmp_ge dX7_reasonFor_94 (by decide) (tgt := 100) (by unfold inI; omega) (by unfold inI; omega) (fun h6 => ?_) (fun h6 => ?_)
                        · refine J.iinc (v := ((e + 1 : Nat) : Int)) dX7_reasonFor_100 rfl (by first | rfl | omega) (by decide) (jnc_of rfl rfl) ?_
                          refine J.goto dX7_reasonFor_103 (by decide) (tgt := 18) ?_
                          rw [show rsU cd c (t + 1) e r = rsU cd c t (e + 1) (if lk (cd e) c ≠ 0 ∧ (r = 0 ∨ lk (cd e) c < r) then lk (cd e) c else r) from rfl, if_neg (by omega)]
                          exact ih (e + 1) r _ _ (by omega) rfl rfl (by omega)
                        · refine J.ild dX7_reasonFor_97 rfl ?_
                          refine J.ist_n dX7_reasonFor_99 (by decide) (jnc_of rfl rfl) ?_
                          refine J.iinc (v := ((e + 1 : Nat) : Int)) dX7_reasonFor_100 rfl (by first | rfl | omega) (by decide) (jnc_of rfl rfl) ?_
                          refine J.goto dX7_reasonFor_103 (by decide) (tgt := 18) ?_
                          rw [show rsU cd c (t + 1) e r = rsU cd c t (e + 1) (if lk (cd e) c ≠ 0 ∧ (r = 0 ∨ lk (cd e) c < r) then lk (cd e) c else r) from rfl, if_pos (by omega)]
                          rw [hlk]
                          exact ih (e + 1) 4 _ _ (by omega) rfl rfl (by omega)
                · rw [show bN (swT (cd e) c 4 0) = 0 from if_neg hs]
                  refine J.if_eq dX7_reasonFor_72 (by decide) (tgt := 79) (by unfold inI; omega) (fun h33 => ?_) (fun h33 => ?_)
                  · refine J.iconst dX7_reasonFor_79 ?_
                    have hlk : lk (cd e) c = 0 := lk_no hce hc hne ho hs
                    refine J.ist dX7_reasonFor_80 (by decide) (jnc_of rfl rfl) ?_
                    refine J.ild dX7_reasonFor_82 rfl ?_
                    refine J.if_eq dX7_reasonFor_84 (by decide) (tgt := 100) (by unfold inI; omega) (fun h4 => ?_) (fun h4 => ?_)
                    · refine J.iinc (v := ((e + 1 : Nat) : Int)) dX7_reasonFor_100 rfl (by first | rfl | omega) (by decide) (jnc_of rfl rfl) ?_
                      refine J.goto dX7_reasonFor_103 (by decide) (tgt := 18) ?_
                      rw [show rsU cd c (t + 1) e r = rsU cd c t (e + 1) (if lk (cd e) c ≠ 0 ∧ (r = 0 ∨ lk (cd e) c < r) then lk (cd e) c else r) from rfl, if_neg (by omega)]
                      exact ih (e + 1) r _ _ (by omega) rfl rfl (by omega)
                    · exact absurd rfl h4
                  · exact absurd rfl h33
              · exact absurd rfl h3
          · refine J.iconst dX7_reasonFor_49 ?_
            refine J.goto dX7_reasonFor_50 (by decide) (tgt := 80) ?_
            have hlk : lk (cd e) c = 2 := by rw [show cd e = c by omega]; exact lk_same
            refine J.ist dX7_reasonFor_80 (by decide) (jnc_of rfl rfl) ?_
            refine J.ild dX7_reasonFor_82 rfl ?_
            refine J.if_eq dX7_reasonFor_84 (by decide) (tgt := 100) (by unfold inI; omega) (fun h4 => ?_) (fun h4 => ?_)
            · exact absurd h4 (by decide)
            · refine J.ild_n dX7_reasonFor_87 rfl ?_
              refine J.if_eq dX7_reasonFor_88 (by decide) (tgt := 97) (by unfold inI; omega) (fun h5 => ?_) (fun h5 => ?_)
              · refine J.ild dX7_reasonFor_97 rfl ?_
                refine J.ist_n dX7_reasonFor_99 (by decide) (jnc_of rfl rfl) ?_
                refine J.iinc (v := ((e + 1 : Nat) : Int)) dX7_reasonFor_100 rfl (by first | rfl | omega) (by decide) (jnc_of rfl rfl) ?_
                refine J.goto dX7_reasonFor_103 (by decide) (tgt := 18) ?_
                rw [show rsU cd c (t + 1) e r = rsU cd c t (e + 1) (if lk (cd e) c ≠ 0 ∧ (r = 0 ∨ lk (cd e) c < r) then lk (cd e) c else r) from rfl, if_pos (by omega)]
                rw [hlk]
                exact ih (e + 1) 2 _ _ (by omega) rfl rfl (by omega)
              · refine J.ild dX7_reasonFor_91 rfl ?_
                refine J.ild_n dX7_reasonFor_93 rfl ?_
                refine J.icmp_ge dX7_reasonFor_94 (by decide) (tgt := 100) (by unfold inI; omega) (by unfold inI; omega) (fun h6 => ?_) (fun h6 => ?_)
                · refine J.iinc (v := ((e + 1 : Nat) : Int)) dX7_reasonFor_100 rfl (by first | rfl | omega) (by decide) (jnc_of rfl rfl) ?_
                  refine J.goto dX7_reasonFor_103 (by decide) (tgt := 18) ?_
                  rw [show rsU cd c (t + 1) e r = rsU cd c t (e + 1) (if lk (cd e) c ≠ 0 ∧ (r = 0 ∨ lk (cd e) c < r) then lk (cd e) c else r) from rfl, if_neg (by omega)]
                  exact ih (e + 1) r _ _ (by omega) rfl rfl (by omega)
                · refine J.ild dX7_reasonFor_97 rfl ?_
                  refine J.ist_n dX7_reasonFor_99 (by decide) (jnc_of rfl rfl) ?_
                  refine J.iinc (v := ((e + 1 : Nat) : Int)) dX7_reasonFor_100 rfl (by first | rfl | omega) (by decide) (jnc_of rfl rfl) ?_
                  refine J.goto dX7_reasonFor_103 (by decide) (tgt := 18) ?_
                  rw [show rsU cd c (t + 1) e r = rsU cd c t (e + 1) (if lk (cd e) c ≠ 0 ∧ (r = 0 ∨ lk (cd e) c < r) then lk (cd e) c else r) from rfl, if_pos (by omega)]
                  rw [hlk]
                  exact ih (e + 1) 2 _ _ (by omega) rfl rfl (by omega)
    rw [show rsn (bn b) cd c = rsU cd c (bn b) 0 0 from if_neg (by omega)]
    exact L (bn b) 0 0 _ _ (by omega) rfl rfl (by omega)
  · refine J.iconst dX7_reasonFor_11 ?_
    refine J.iret .int dX7_reasonFor_12 rfl rfl (by decide) (by decide) ?_
    exact ⟨by rw [show rsn (bn b) cd c = 1 from if_pos (by omega)] <;> rfl, rfl⟩
theorem ftU_full {n : Nat} {C : Nat → Nat} (h : 40 ≤ n) : ∀ (t c : Nat), ftU n C t c = -1
  | 0, _ => rfl
  | t + 1, c => by
    show (if c ≤ 11881375 then (if rsn n C c = 0 then ((c : Nat) : Int) else ftU n C t (c + 1)) else -1) = -1
    rw [show rsn n C c = 1 from if_pos h, if_neg (show ¬ (1 : Nat) = 0 by omega), ftU_full h t (c + 1), ite_self]
theorem ftt_U {n : Nat} {C : Nat → Nat} {c : Nat} : ftt n C c = ftU n C 2001 c := by
  unfold ftt
  by_cases h : 40 ≤ n
  · rw [if_pos h, ftU_full h]
  · rw [if_neg h]
set_option maxRecDepth 20000 in
theorem c_X7_fitFrom {X : jX} {σ : jS} {th pr ln kn mn rd pa ps : Int} {bn : Nat → Nat} {Mc : Nat → Nat} {b : Nat} {cd : Nat → Nat} {c : Nat} (hO : MO σ th pr ln kn mn rd pa ps) (h41 : σ.2 41 = jI 3 (fun e => ((bn e : Nat) : Int))) (hb : b < 3) (hn : bn b ≤ 40) (h42 : σ.2 42 = jI 120 (fun e => ((Mc e : Nat) : Int))) (hc9 : ∀ e, e < 40 → Mc (40 * b + e) = cd e) (hcd : ∀ e, cd e ≤ 11881375) (hc : c ≤ 11881375) : JM X mX7_fitFrom rX7_fitFrom [.ref 37, vI ((b : Nat) : Int), vI ((c : Nat) : Int)] σ (jEnd (oI (ftt (bn b) cd c)) σ) := by
  refine JM.of (lc := [.ref 37, vI ((b : Nat) : Int), vI ((c : Nat) : Int), .null]) rfl ?_
  refine J.ild_n dX7_fitFrom_0 rfl ?_
  refine J.ist_n dX7_fitFrom_1 (by decide) (jnc_of rfl rfl) ?_
  have L : ∀ (t : Nat), ∀ (x : Nat), x + t = c + 2001 → J X mX7_fitFrom rX7_fitFrom 2 [.ref 37, vI ((b : Nat) : Int), vI ((c : Nat) : Int), vI ((x : Nat) : Int)] [] 0 0 σ (jEnd (oI (ftU (bn b) cd t x)) σ) := by
    intro t
    induction t with
    | zero =>
      intro x hx
      refine J.ild_n dX7_fitFrom_2 rfl ?_
      refine J.ild_n dX7_fitFrom_3 rfl ?_
      refine J.sipush dX7_fitFrom_4 (by decide) ?_
      refine J.iadd dX7_fitFrom_7 ?_
      rw [show (((c : Nat) : Int) : Int) + 2000 = ((c + 2000 : Nat) : Int) from by push_cast; rfl]
      refine J.icmp_gt dX7_fitFrom_8 (by decide) (tgt := 34) (by unfold inI; omega) (by unfold inI; omega) (fun h => ?_) (fun h => ?_)
      · refine J.iconst dX7_fitFrom_34 ?_
        refine J.iret .int dX7_fitFrom_35 rfl rfl (by decide) (by decide) ?_
        exact ⟨rfl, rfl⟩
      · omega
    | succ t ih =>
      intro x hx
      refine J.ild_n dX7_fitFrom_2 rfl ?_
      refine J.ild_n dX7_fitFrom_3 rfl ?_
      refine J.sipush dX7_fitFrom_4 (by decide) ?_
      refine J.iadd dX7_fitFrom_7 ?_
      rw [show (((c : Nat) : Int) : Int) + 2000 = ((c + 2000 : Nat) : Int) from by push_cast; rfl]
      refine J.icmp_gt dX7_fitFrom_8 (by decide) (tgt := 34) (by unfold inI; omega) (by unfold inI; omega) (fun h => ?_) (fun h => ?_)
      · omega
      · refine J.ild_n dX7_fitFrom_11 rfl ?_
        refine J.ldc (b := 11881375) dX7_fitFrom_12 kc_X7_54 (by decide) ?_
        refine J.icmp_gt dX7_fitFrom_14 (by decide) (tgt := 34) (by unfold inI; omega) (by unfold inI; omega) (fun h2 => ?_) (fun h2 => ?_)
        · refine J.iconst dX7_fitFrom_34 ?_
          refine J.iret .int dX7_fitFrom_35 rfl rfl (by decide) (by decide) ?_
          exact ⟨by rw [show ftU (bn b) cd (t + 1) x = -1 from if_neg (by omega)], rfl⟩
        · have hrl := rsn_le (bn b) cd x
          refine J.ald_n dX7_fitFrom_17 rfl ?_
          refine J.ild_n dX7_fitFrom_18 rfl ?_
          refine J.ild_n dX7_fitFrom_19 rfl ?_
          refine J.callV (rm' := rX7_reasonFor) [vI ((b : Nat) : Int), vI ((x : Nat) : Int)] dX7_fitFrom_20 (c_X7_reasonFor hO h41 hb hn h42 hc9 hcd (c := x) (by omega)) hO rfl st_X7_reasonFor ml_X7_95 im_X7_reasonFor se_X7_reasonFor rfl (Nat.le_of_ble_eq_true rfl) (by decide) (by decide) (Nat.le_of_ble_eq_true rfl) (by decide) (by decide) (Or.inl rfl) (fun E9 σ9 hq9 _ => nomatch hq9.1) (fun r9 σ9 hq9 hle9 => ?_)
          obtain ⟨h9, h8⟩ := hq9
          rw [h8]
          clear hle9 h8 σ9
          cases h9
          refine J.if_ne dX7_fitFrom_23 (by decide) (tgt := 28) (by unfold inI; omega) (fun h3 => ?_) (fun h3 => ?_)
          · refine J.iinc (v := ((x + 1 : Nat) : Int)) dX7_fitFrom_28 rfl (by first | rfl | omega) (by decide) (jnc_of rfl rfl) ?_
            refine J.goto dX7_fitFrom_31 (by decide) (tgt := 2) ?_
            rw [show ftU (bn b) cd (t + 1) x = ftU (bn b) cd t (x + 1) from (if_pos (by omega)).trans (if_neg (by omega))]
            exact ih (x + 1) (by omega)
          · refine J.ild_n dX7_fitFrom_26 rfl ?_
            refine J.iret .int dX7_fitFrom_27 rfl rfl (by decide) (by decide) ?_
            exact ⟨by rw [show ftU (bn b) cd (t + 1) x = ((x : Nat) : Int) from (if_pos (by omega)).trans (if_pos (by omega))], rfl⟩
  rw [ftt_U]
  exact L 2001 c rfl
set_option maxRecDepth 20000 in
theorem c_X7_entryOf {X : jX} {σ : jS} {th pr ln kn mn rd pa ps : Int} {bn : Nat → Nat} {Mc : Nat → Nat} {b : Nat} {cd : Nat → Nat} {c : Nat} (hO : MO σ th pr ln kn mn rd pa ps) (h41 : σ.2 41 = jI 3 (fun e => ((bn e : Nat) : Int))) (hb : b < 3) (hn : bn b ≤ 40) (h42 : σ.2 42 = jI 120 (fun e => ((Mc e : Nat) : Int))) (hc9 : ∀ e, e < 40 → Mc (40 * b + e) = cd e) (hcd : ∀ e, cd e ≤ 11881375) (hc : c ≤ 11881375) : JM X mX7_entryOf rX7_entryOf [.ref 37, vI ((b : Nat) : Int), vI ((c : Nat) : Int)] σ (jEnd (oI (fnU cd c (bn b) 0)) σ) := by
  refine JM.of (lc := [.ref 37, vI ((b : Nat) : Int), vI ((c : Nat) : Int), .null, .null]) rfl ?_
  refine J.iconst dX7_entryOf_0 ?_
  refine J.ist_n dX7_entryOf_1 (by decide) (jnc_of rfl rfl) ?_
  refine J.ald_n dX7_entryOf_2 rfl ?_
  refine gf_X7_23 rfl dX7_entryOf_3 hO ?_
  refine J.ild_n dX7_entryOf_6 rfl ?_
  refine J.iald b dX7_entryOf_7 h41 rfl (by omega) (by omega) ?_
  refine J.iconst dX7_entryOf_8 ?_
  refine J.isub dX7_entryOf_9 ?_
  refine J.ist dX7_entryOf_10 (by decide) (jnc_of rfl rfl) ?_
  have L : ∀ (t : Nat), ∀ (f : Int), t ≤ bn b → f = fnU cd c (bn b - t) t → J X mX7_entryOf rX7_entryOf 12 [.ref 37, vI ((b : Nat) : Int), vI ((c : Nat) : Int), vI f, vI (((t : Nat) : Int) - 1)] [] 0 0 σ (jEnd (oI (fnU cd c (bn b) 0)) σ) := by
    intro t
    induction t with
    | zero =>
      intro f ht hf
      refine J.ild dX7_entryOf_12 rfl ?_
      refine J.if_lt dX7_entryOf_14 (by decide) (tgt := 42) (by unfold inI; omega) (fun h => ?_) (fun h => ?_)
      · refine J.ild_n dX7_entryOf_42 rfl ?_
        refine J.iret .int dX7_entryOf_43 rfl rfl (by decide) (by decide) ?_
        exact ⟨by rw [hf, Nat.sub_zero], rfl⟩
      · omega
    | succ t ih =>
      intro f ht hf
      rw [show (((t + 1 : Nat) : Nat) : Int) - 1 = ((t : Nat) : Int) from by omega]
      have hce := hcd t
      refine J.ild dX7_entryOf_12 rfl ?_
      refine J.if_lt dX7_entryOf_14 (by decide) (tgt := 42) (by unfold inI; omega) (fun h => ?_) (fun h => ?_)
      · omega
      · refine J.ald_n dX7_entryOf_17 rfl ?_
        refine gf_X7_26 rfl dX7_entryOf_18 hO ?_
        refine J.bipush dX7_entryOf_21 (by decide) ?_
        refine J.ild_n dX7_entryOf_23 rfl ?_
        refine J.imul dX7_entryOf_24 ?_
        rw [show (40 : Int) * ((b : Nat) : Int) = ((40 * b : Nat) : Int) from by push_cast; rfl]
        refine J.ild dX7_entryOf_25 rfl ?_
        refine J.iadd dX7_entryOf_27 ?_
        rw [show (((40 * b : Nat) : Int) : Int) + ((t : Nat) : Int) = (((40 * b) + t : Nat) : Int) from by push_cast; rfl]
        refine J.iald (40 * b + t) dX7_entryOf_28 h42 rfl (by omega) (by omega) ?_
        rw [show Mc (40 * b + t) = ((cd t : Nat) : Int) from by rw [hc9 t (by omega)]]
        refine J.ild_n dX7_entryOf_29 rfl ?_
        refine J.icmp_ne dX7_entryOf_30 (by decide) (tgt := 36) (by unfold inI; omega) (by unfold inI; omega) (fun h2 => ?_) (fun h2 => ?_)
        · refine J.iinc (v := (((t : Nat) : Int) - 1)) dX7_entryOf_36 rfl (by first | rfl | omega) (by decide) (jnc_of rfl rfl) ?_
          refine J.goto dX7_entryOf_39 (by decide) (tgt := 12) ?_
          refine ih f (by omega) ?_
          rw [hf, show bn b - t = bn b - (t + 1) + 1 by omega]
          exact (if_neg (show ¬ cd t = c by omega)).symm
        · refine J.ild dX7_entryOf_33 rfl ?_
          refine J.ist_n dX7_entryOf_35 (by decide) (jnc_of rfl rfl) ?_
          refine J.iinc (v := (((t : Nat) : Int) - 1)) dX7_entryOf_36 rfl (by first | rfl | omega) (by decide) (jnc_of rfl rfl) ?_
          refine J.goto dX7_entryOf_39 (by decide) (tgt := 12) ?_
          refine ih _ (by omega) ?_
          rw [show bn b - t = bn b - (t + 1) + 1 by omega]
          exact (if_pos (show cd t = c by omega)).symm
  exact L (bn b) (-1) (Nat.le_refl _) (by rw [Nat.sub_self]; rfl)
def mnT (cd : Nat → Nat) (c : Nat) : Nat → Nat → Int → Nat → Int × Nat
  | 0, _, f, k => (f, k)
  | t + 1, e, f, k => if lk (cd e) c = 0 then mnT cd c t (e + 1) f k else mnT cd c t (e + 1) ((e : Nat) : Int) (k + 1)
theorem mnT_ge {cd : Nat → Nat} {c : Nat} : ∀ (t e : Nat) (f : Int) (k : Nat), k ≤ (mnT cd c t e f k).2
  | 0, _, _, _ => Nat.le_refl _
  | t + 1, e, f, k => by
    show k ≤ (if lk (cd e) c = 0 then mnT cd c t (e + 1) f k else mnT cd c t (e + 1) ((e : Nat) : Int) (k + 1)).2
    split
    · exact mnT_ge t (e + 1) f k
    · exact Nat.le_trans (Nat.le_succ k) (mnT_ge t (e + 1) _ (k + 1))
theorem mnT_2 {cd : Nat → Nat} {c : Nat} (t e : Nat) (f : Int) (k : Nat) (h : 2 ≤ k) : ¬ (mnT cd c t e f k).2 = 1 := by
  have := mnT_ge (cd := cd) (c := c) t e f k
  omega
theorem mnT_eq {cd : Nat → Nat} {c : Nat} : ∀ (t e : Nat) (f : Int) (k : Nat), ((k = 0 ∧ f = -1) ∨ (k = 1 ∧ 0 ≤ f)) → (if (mnT cd c t e f k).2 = 1 then (mnT cd c t e f k).1 else -1) = olU cd c t e f
  | 0, _, f, k, h => by
    show (if k = 1 then f else -1) = f
    rcases h with ⟨h1, h2⟩ | ⟨h1, h2⟩
    · rw [if_neg (by omega), h2]
    · rw [if_pos h1]
  | t + 1, e, f, k, h => by
    show (if (if lk (cd e) c = 0 then mnT cd c t (e + 1) f k else mnT cd c t (e + 1) ((e : Nat) : Int) (k + 1)).2 = 1 then (if lk (cd e) c = 0 then mnT cd c t (e + 1) f k else mnT cd c t (e + 1) ((e : Nat) : Int) (k + 1)).1 else -1) = (if lk (cd e) c = 0 then olU cd c t (e + 1) f else if f = -1 then olU cd c t (e + 1) ((e : Nat) : Int) else -1)
    by_cases h1 : lk (cd e) c = 0
    · rw [if_pos h1, if_pos h1]; exact mnT_eq t (e + 1) f k h
    · rw [if_neg h1, if_neg h1]
      rcases h with ⟨h2, h3⟩ | ⟨h2, h3⟩
      · rw [if_pos h3]; exact mnT_eq t (e + 1) _ (k + 1) (Or.inr ⟨by omega, by omega⟩)
      · rw [if_neg (mnT_2 t (e + 1) _ (k + 1) (by omega)), if_neg (by omega)]
set_option maxRecDepth 20000 in
theorem c_X7_meant {X : jX} {σ : jS} {th pr ln kn mn rd pa ps : Int} {bn : Nat → Nat} {Mc : Nat → Nat} {b : Nat} {cd : Nat → Nat} {c : Nat} (hO : MO σ th pr ln kn mn rd pa ps) (h41 : σ.2 41 = jI 3 (fun e => ((bn e : Nat) : Int))) (hb : b < 3) (hn : bn b ≤ 40) (h42 : σ.2 42 = jI 120 (fun e => ((Mc e : Nat) : Int))) (hc9 : ∀ e, e < 40 → Mc (40 * b + e) = cd e) (hcd : ∀ e, cd e ≤ 11881375) (hc : c ≤ 11881375) (hno : ∀ e, e < bn b → cd e ≠ c) : JM X mX7_meant rX7_meant [.ref 37, vI ((b : Nat) : Int), vI ((c : Nat) : Int)] σ (jEnd (oI (olU cd c (bn b) 0 (-1))) σ) := by
  refine JM.of (lc := [.ref 37, vI ((b : Nat) : Int), vI ((c : Nat) : Int), .null, .null, .null, .null]) rfl ?_
  refine J.iconst dX7_meant_0 ?_
  refine J.ist_n dX7_meant_1 (by decide) (jnc_of rfl rfl) ?_
  refine J.iconst dX7_meant_2 ?_
  refine J.ist dX7_meant_3 (by decide) (jnc_of rfl rfl) ?_
  refine J.iconst dX7_meant_5 ?_
  refine J.ist dX7_meant_6 (by decide) (jnc_of rfl rfl) ?_
  have L : ∀ (t : Nat), ∀ (e : Nat) (f : Int) (k : Nat) (u : Value), e + t = bn b → k ≤ e → u.category = 1 → J X mX7_meant rX7_meant 8 [.ref 37, vI ((b : Nat) : Int), vI ((c : Nat) : Int), vI f, vI ((k : Nat) : Int), vI ((e : Nat) : Int), u] [] 0 0 σ (jEnd (oI (if (mnT cd c t e f k).2 = 1 then (mnT cd c t e f k).1 else -1)) σ) := by
    intro t
    induction t with
    | zero =>
      intro e f k u he hk hu
      refine J.ild dX7_meant_8 rfl ?_
      refine J.ald_n dX7_meant_10 rfl ?_
      refine gf_X7_23 rfl dX7_meant_11 hO ?_
      refine J.ild_n dX7_meant_14 rfl ?_
      refine J.iald b dX7_meant_15 h41 rfl (by omega) (by omega) ?_
      refine J.icmp_ge dX7_meant_16 (by decide) (tgt := 66) (by unfold inI; omega) (by unfold inI; omega) (fun h => ?_) (fun h => ?_)
      · refine J.ild dX7_meant_66 rfl ?_
        refine J.iconst dX7_meant_68 ?_
        refine J.icmp_ne dX7_meant_69 (by decide) (tgt := 76) (by unfold inI; omega) (by unfold inI; omega) (fun h2 => ?_) (fun h2 => ?_)
        · refine J.iconst dX7_meant_76 ?_
          refine J.iret .int dX7_meant_77 rfl rfl (by decide) (by decide) ?_
          exact ⟨by rw [show mnT cd c 0 e f k = (f, k) from rfl, if_neg (show ¬ k = 1 by omega)], rfl⟩
        · refine J.ild_n dX7_meant_72 rfl ?_
          refine J.goto dX7_meant_73 (by decide) (tgt := 77) ?_
          refine J.iret .int dX7_meant_77 rfl rfl (by decide) (by decide) ?_
          exact ⟨by rw [show mnT cd c 0 e f k = (f, k) from rfl, if_pos (show k = 1 by omega)], rfl⟩
      · omega
    | succ t ih =>
      intro e f k u he hk hu
      refine J.ild dX7_meant_8 rfl ?_
      refine J.ald_n dX7_meant_10 rfl ?_
      refine gf_X7_23 rfl dX7_meant_11 hO ?_
      refine J.ild_n dX7_meant_14 rfl ?_
      refine J.iald b dX7_meant_15 h41 rfl (by omega) (by omega) ?_
      refine J.icmp_ge dX7_meant_16 (by decide) (tgt := 66) (by unfold inI; omega) (by unfold inI; omega) (fun h => ?_) (fun h => ?_)
      · omega
      · have hce := hcd e
        have hne : cd e ≠ c := hno e (by omega)
        refine J.ald_n dX7_meant_19 rfl ?_
        refine gf_X7_26 rfl dX7_meant_20 hO ?_
        refine J.bipush dX7_meant_23 (by decide) ?_
        refine J.ild_n dX7_meant_25 rfl ?_
        refine J.imul dX7_meant_26 ?_
        rw [show (40 : Int) * ((b : Nat) : Int) = ((40 * b : Nat) : Int) from by push_cast; rfl]
        refine J.ild dX7_meant_27 rfl ?_
        refine J.iadd dX7_meant_29 ?_
        rw [show (((40 * b : Nat) : Int) : Int) + ((e : Nat) : Int) = (((40 * b) + e : Nat) : Int) from by push_cast; rfl]
        refine J.iald (40 * b + e) dX7_meant_30 h42 rfl (by omega) (by omega) ?_
        rw [show Mc (40 * b + e) = ((cd e : Nat) : Int) from by rw [hc9 e (by omega)]]
        refine J.ist dX7_meant_31 (by decide) (jnc_of rfl rfl) ?_
        refine J.ild dX7_meant_33 rfl ?_
        refine J.ild_n dX7_meant_35 rfl ?_
        refine J.callS (rm' := rX7_isOneOff) [vI ((cd e : Nat) : Int), vI ((c : Nat) : Int)] dX7_meant_36 (c_X7_isOneOff hce hc) st_X7_isOneOff ml_X7_88 sm_X7_isOneOff rfl (Nat.le_of_ble_eq_true rfl) (by decide) (by decide) (Nat.le_of_ble_eq_true rfl) (by decide) (by decide) (Or.inl rfl) (fun E9 σ9 hq9 _ => nomatch hq9.1) (fun r9 σ9 hq9 hle9 => ?_)
        obtain ⟨h9, h8⟩ := hq9
        rw [h8]
        clear hle9 h8 σ9
        cases h9
        by_cases ho : offT (cd e) c 5 0 = 1
        · have hlk := lk_one hce hc hne ho
          rw [show bN (decide (offT (cd e) c 5 0 = 1)) = 1 from if_pos (decide_eq_true ho)]
          refine J.if_ne dX7_meant_39 (by decide) (tgt := 54) (by unfold inI; omega) (fun h3 => ?_) (fun h3 => ?_)
          · rw [show mnT cd c (t + 1) e f k = mnT cd c t (e + 1) ((e : Nat) : Int) (k + 1) from if_neg (by omega)]
            refine J.ild dX7_meant_54 rfl ?_
            refine J.ist_n dX7_meant_56 (by decide) (jnc_of rfl rfl) ?_
            refine J.iinc (v := ((k + 1 : Nat) : Int)) dX7_meant_57 rfl (by first | rfl | omega) (by decide) (jnc_of rfl rfl) ?_
            refine J.iinc (v := ((e + 1 : Nat) : Int)) dX7_meant_60 rfl (by first | rfl | omega) (by decide) (jnc_of rfl rfl) ?_
            refine J.goto dX7_meant_63 (by decide) (tgt := 8) ?_
            exact ih (e + 1) _ _ _ (by omega) (by omega) rfl
          · exact absurd h3 (by decide)
        · rw [show bN (decide (offT (cd e) c 5 0 = 1)) = 0 from if_neg (by simpa using ho)]
          refine J.if_ne dX7_meant_39 (by decide) (tgt := 54) (by unfold inI; omega) (fun h3 => ?_) (fun h3 => ?_)
          · exact absurd rfl h3
          · refine J.ild dX7_meant_42 rfl ?_
            refine J.ild_n dX7_meant_44 rfl ?_
            refine J.callS (rm' := rX7_isSwapped) [vI ((cd e : Nat) : Int), vI ((c : Nat) : Int)] dX7_meant_45 (c_X7_isSwapped hce hc hne) st_X7_isSwapped ml_X7_92 sm_X7_isSwapped rfl (Nat.le_of_ble_eq_true rfl) (by decide) (by decide) (Nat.le_of_ble_eq_true rfl) (by decide) (by decide) (Or.inl rfl) (fun E9 σ9 hq9 _ => nomatch hq9.1) (fun r9 σ9 hq9 hle9 => ?_)
            obtain ⟨h9, h8⟩ := hq9
            rw [h8]
            clear hle9 h8 σ9
            cases h9
            by_cases hs : swT (cd e) c 4 0 = true
            · rw [show bN (swT (cd e) c 4 0) = 1 from if_pos hs]
              refine J.if_ne dX7_meant_48 (by decide) (tgt := 54) (by unfold inI; omega) (fun h33 => ?_) (fun h33 => ?_)
              · have hlk := lk_sw hce hc hne ho hs
                rw [show mnT cd c (t + 1) e f k = mnT cd c t (e + 1) ((e : Nat) : Int) (k + 1) from if_neg (by omega)]
                refine J.ild dX7_meant_54 rfl ?_
                refine J.ist_n dX7_meant_56 (by decide) (jnc_of rfl rfl) ?_
                refine J.iinc (v := ((k + 1 : Nat) : Int)) dX7_meant_57 rfl (by first | rfl | omega) (by decide) (jnc_of rfl rfl) ?_
                refine J.iinc (v := ((e + 1 : Nat) : Int)) dX7_meant_60 rfl (by first | rfl | omega) (by decide) (jnc_of rfl rfl) ?_
                refine J.goto dX7_meant_63 (by decide) (tgt := 8) ?_
                exact ih (e + 1) _ _ _ (by omega) (by omega) rfl
              · exact absurd h33 (by decide)
            · rw [show bN (swT (cd e) c 4 0) = 0 from if_neg hs]
              refine J.if_ne dX7_meant_48 (by decide) (tgt := 54) (by unfold inI; omega) (fun h33 => ?_) (fun h33 => ?_)
              · exact absurd rfl h33
              · have hlk := lk_no hce hc hne ho hs
                rw [show mnT cd c (t + 1) e f k = mnT cd c t (e + 1) f k from if_pos hlk]
                refine J.goto dX7_meant_51 (by decide) (tgt := 60) ?_
                refine J.iinc (v := ((e + 1 : Nat) : Int)) dX7_meant_60 rfl (by first | rfl | omega) (by decide) (jnc_of rfl rfl) ?_
                refine J.goto dX7_meant_63 (by decide) (tgt := 8) ?_
                exact ih (e + 1) _ _ _ (by omega) (by omega) rfl
  rw [← mnT_eq (bn b) 0 (-1) 0 (Or.inl ⟨rfl, rfl⟩)]
  exact L (bn b) 0 (-1) 0 _ (by omega) (by omega) rfl
