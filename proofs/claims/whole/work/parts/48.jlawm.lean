theorem KI_0 : KI 0 (flF (fun _ => 0) 492 (-1)) (fun _ => 0) (fun _ _ => 0) := by
  refine ⟨by omega, fun k hk => absurd hk (by omega), fun t ht => ?_, fun k i hk => absurd hk (by omega), fun k i hi hk ht => ?_, fun s a hs => rfl⟩
  · unfold flF; rw [if_pos ht]; omega
  · unfold flF; rw [if_pos ht]
theorem CI_0 : CI 2 0 (fun _ => 0) (fun _ => 0) (fun _ _ => 0) (fun _ _ => 0) (fun _ _ => 0) 0 (fun _ => 0) 0 (flF (fun _ => 0) 492 (-1)) (fun _ => 0) (fun _ _ => 0) 0 (fun _ => 0) :=
  ⟨by decide, ⟨by decide, fun _ => (show (0 : Int) ≤ 0 ∧ (0 : Int) ≤ 9999 by decide)⟩, fun _ _ => ⟨(show (0 : Nat) ≤ 40 by decide), fun _ => (show (0 : Nat) ≤ 11881375 by decide), fun e he => absurd (show e < 0 from he) (by omega), fun _ => (show (0 : Int) ≤ 0 ∧ (0 : Int) ≤ 9999 by decide)⟩, ⟨by decide, fun _ => (show (-10000 : Int) ≤ 0 ∧ (0 : Int) ≤ 11881375 by decide)⟩, KI_0, by decide, fun _ => (show (0 : Int) ≤ 0 ∧ (0 : Int) ≤ 3 by decide)⟩
theorem J.newLx {X : jX} {M : jMt} {rm : Room} {pc : Nat} {lc st : List Value} {k n : Nat} {σ : jS} {Q : jOut → jS → Prop} {a : Int} (N x : Nat) (hx : σ.1 = x) (d : decode M.2.1 pc = .ok (.newarray .long, 2)) (ha : a = (N : Int)) (hN : N ≤ 100000) (hc : k + 1 ≤ rm.cells) (hs : n + N ≤ rm.slots) (hw : Cond.arrayClass .long ∈ lw_tbl) (kk : J X M rm (pc + 2) lc (.ref x :: st) (k + 1) (n + N) (jpush σ (jL N (fun _ => 0))) Q) : J X M rm pc lc (vI a :: st) k n σ Q := by
  subst hx
  exact J.newL N d ha hN hc hs hw kk
theorem J.newDx {X : jX} {M : jMt} {rm : Room} {pc : Nat} {lc st : List Value} {k n : Nat} {σ : jS} {Q : jOut → jS → Prop} {a : Int} (N x : Nat) (hx : σ.1 = x) (d : decode M.2.1 pc = .ok (.newarray .double, 2)) (ha : a = (N : Int)) (hN : N ≤ 100000) (hc : k + 1 ≤ rm.cells) (hs : n + N ≤ rm.slots) (hw : Cond.arrayClass .double ∈ lw_tbl) (kk : J X M rm (pc + 2) lc (.ref x :: st) (k + 1) (n + N) (jpush σ (jD N (fun _ => 0))) Q) : J X M rm pc lc (vI a :: st) k n σ Q := by
  subst hx
  exact J.newD N d ha hN hc hs hw kk
set_option maxRecDepth 20000 in
theorem c_L_law {X : jX} {nm : String} {hh : List (Nat × Nat × Nat × Nat)} {σ : jS} {s : Nat → Int} {N : Nat} {lu du : Nat → Int} (hlu : ∀ i, i < 26 → 0 ≤ lu i ∧ lu i ≤ 100) (hdu : ∀ i, i < 10 → 0 ≤ du i ∧ du i ≤ 100) (hN : σ.1 = 5) (e4 : σ.2 4 = jI N s) (hs : ∀ j, inI (s j)) (hN2 : N ≤ 2048) (h0 : σ.2 0 = jI 26 lu) (h1 : σ.2 1 = jI 10 du) (h2 : σ.2 2 = jI 26 lu) (h3 : σ.2 3 = jI 10 du) : JM X (mLw nm hh) rL_law [.ref 4] σ (fun o _ => o = oI 1) := by
  refine JM.of (lc := [.ref 4, .null, .null, .null, .null, .null, .null, .null, .null]) rfl ?_
  refine no_X6 5 (show σ.1 = 5 from hN) dL_law_0 cl_L_8 (by decide) (by decide) ?_
  refine J.dup dL_law_3 rfl ?_
  refine J.callI (rm' := rX6_init) [] dL_law_4 (c_X6_init (show (jpush σ (jO 5 [.null, .null, .null, .null, .null, .null, vI 0, vI 0])).1 = 6 from by show σ.1 + 1 = 6; omega) (jpush_eq hN)) st_X6_init rfl rfl ml_L_86 im_X6_init rfl (Nat.le_of_ble_eq_true rfl) (by decide) (by decide) (Nat.le_of_ble_eq_true rfl) (by decide) (by decide) (fun E9 σ9 hq9 => nomatch hq9.1) (fun r9 σ1 hq9 hle9 => ?_)
  obtain ⟨h9, hW, hn1, hj1⟩ := hq9
  cases h9
  clear hle9
  refine J.ast_n dL_law_7 (Nat.le_of_ble_eq_true rfl) (jnc_of rfl rfl) ?_
  refine no_X7 37 (show σ1.1 = 37 from hn1) dL_law_8 cl_L_87 (by decide) (by decide) ?_
  refine J.dup dL_law_11 rfl ?_
  refine J.callI (rm' := rX7_init) [] dL_law_12 (c_X7_init (show (jpush σ1 (jO 6 [vI 0, vI 0, .null, vI 0, vI 0, .null, .null, .null, .null, .null, .null, vI 0, .null, vI 0, .null, .null, .null, vI 0, vI 0])).1 = 38 from by show σ1.1 + 1 = 38; omega) (jpush_eq hn1)) st_X7_init rfl rfl ml_L_89 im_X7_init rfl (Nat.le_of_ble_eq_true rfl) (by decide) (by decide) (Nat.le_of_ble_eq_true rfl) (by decide) (by decide) (fun E9 σ9 hq9 => nomatch hq9.1) (fun r9 σ2 hq9 hle9 => ?_)
  obtain ⟨h9, hM, hn2, hj2⟩ := hq9
  cases h9
  clear hle9
  refine J.ast_n dL_law_15 (Nat.le_of_ble_eq_true rfl) (jnc_of rfl rfl) ?_
  refine J.iconst dL_law_16 ?_
  refine J.newLx 1 49 hn2 dL_law_17 rfl (by omega) (by decide) (by decide) ac_long ?_
  refine J.ast_n dL_law_19 (Nat.le_of_ble_eq_true rfl) (jnc_of rfl rfl) ?_
  refine J.iconst dL_law_20 ?_
  refine J.newDx 1 50 (show (jpush σ2 (jL 1 (fun _ => 0))).1 = 50 from by show σ2.1 + 1 = 50; omega) dL_law_21 rfl (by omega) (by decide) (by decide) ac_double ?_
  refine J.ast dL_law_23 (Nat.le_of_ble_eq_true rfl) (jnc_of rfl rfl) ?_
  refine J.iconst dL_law_25 ?_
  refine J.ist dL_law_26 (Nat.le_of_ble_eq_true rfl) (jnc_of rfl rfl) ?_
  have hn3 : (jpush σ2 (jL 1 (fun _ => 0))).1 = 50 := by show σ2.1 + 1 = 50; omega
  have hq : ∀ j, j < 49 → (jpush (jpush σ2 (jL 1 (fun _ => 0))) (jD 1 (fun _ => 0))).2 j = σ2.2 j := fun j hj => (jpush_ne hn3 (by omega)).trans (jpush_ne hn2 (by omega))
  have hq2 : ∀ j, j < 5 → (jpush (jpush σ2 (jL 1 (fun _ => 0))) (jD 1 (fun _ => 0))).2 j = σ.2 j := fun j hj => (hq j (by omega)).trans ((hj2 j (by omega)).trans ((jpush_ne hn1 (by omega)).trans ((hj1 j hj).trans (jpush_ne hN (by omega)))))
  refine law_loop hlu hdu 513 0 _ _ _ _ _ _ ⟨⟨0, _, _, _, _, _, _, _, _, _, _, _, _, _, _, _, hW.keep (fun j hj => (hq j (by omega)).trans ((hj2 j hj).trans (jpush_ne hn1 (by omega)))), hM.keep (fun j _ hj => hq j (by omega)), CI_0⟩, ⟨_, (jpush_ne hn3 (by omega)).trans (jpush_eq hn2)⟩, ⟨_, jpush_eq hn3⟩, (hq2 4 (by omega)).trans e4, ⟨(hq2 0 (by omega)).trans h0, (hq2 1 (by omega)).trans h1, (hq2 2 (by omega)).trans h2, (hq2 3 (by omega)).trans h3⟩, by show σ2.1 + 1 + 1 = 51; omega, hs, hN2⟩ (by omega) (by omega) (Nat.le_of_ble_eq_true rfl) (Nat.le_of_ble_eq_true rfl) rfl
