abbrev rL_law : Room := { frames := 11, cells := 601024, slots := 7293034, locals := 390 }
abbrev mLw (nm : String) (hh : List (Nat × Nat × Nat × Nat)) : jMt := ({ yL_law with name := nm }, cL_law, 9, some .boolean, hh)
def LI (s : Nat → Int) (N : Nat) (lu du : Nat → Int) (σ : jS) : Prop :=
  (∃ (th : Int) (pr : Int) (ln : Nat) (lw : Nat → Int) (bn : Nat → Nat) (cd : Nat → Nat → Nat) (sz : Nat → Nat → Nat) (ph : Nat → Nat → Int) (mn : Nat) (mg : Nat → Int) (kn : Nat) (kr : Nat → Int) (ks : Nat → Nat) (kt : Nat → Nat → Int) (rd : Nat) (rg : Nat → Int), CW σ pr ln lw bn cd sz ph mn mg kn kr ks kt rd rg ∧ MW σ th pr ln lw bn cd sz ph mn mg kn kr ks kt rd rg ∧ CI pr ln lw bn cd sz ph mn mg kn kr ks kt rd rg) ∧ (∃ f, σ.2 49 = jL 1 f) ∧ (∃ g, σ.2 50 = jD 1 g) ∧ σ.2 4 = jI N s ∧ (σ.2 0 = jI 26 lu ∧ σ.2 1 = jI 10 du ∧ σ.2 2 = jI 26 lu ∧ σ.2 3 = jI 10 du) ∧ σ.1 = 51 ∧ (∀ j, inI (s j)) ∧ N ≤ 2048
theorem lg_self (x : Int64) : lg_cmp x x = 0 := by
  unfold lg_cmp
  simp
theorem lg_selfI (x : Int) : Value.int (lg_cmp (lI x) (lI x)) = vI 0 := by
  rw [lg_self]
  rfl
set_option maxRecDepth 20000 in
theorem law_say {X : jX} {σ : jS} {nm : String} {hh : List (Nat × Nat × Nat × Nat)} {s : Nat → Int} {N : Nat} {lu du : Nat → Int} {i k n : Nat} {u6 u7 u8 : Value} {Q : jOut → jS → Prop} (hL : LI s N lu du σ) (hi : i + 4 ≤ N) (hkb : k ≤ 500000) (hnb : n ≤ 5000000) (hu6 : u6.category = 1) (hk : ∀ (σ' : jS) (k' n' : Nat) (v6 v7 v8 : Value), LI s N lu du σ' → k' ≤ k + 10 → n' ≤ n + 100 → v6.category = 1 → J X (mLw nm hh) rL_law 1636 [.ref 4, .ref 5, .ref 37, .ref 49, .ref 50, vI ((i : Nat) : Int), v6, v7, v8] [] k' n' σ' Q) : J X (mLw nm hh) rL_law 172 [.ref 4, .ref 5, .ref 37, .ref 49, .ref 50, vI ((i : Nat) : Int), u6, u7, u8] [] k n σ Q := by
  obtain ⟨⟨th, pr, ln, lw, bn, cd, sz, ph, mn, mg, kn, kr, ks, kt, rd, rg, hW, hM, hI⟩, ⟨f0, e49⟩, ⟨g0, e50⟩, e4, hst, hN1, hsI, hN2⟩ := id hL
  obtain ⟨kk, v, pr', ln', lw', bn', cd', sz', ph', mn', mg', kn', kr', ks', kt', rd', rg', hJ1, hJ2, hI', hk3, hv⟩ := op_say hW hI e49 e50 (s (i + 1))  (hsI _)
  have hki3 : inI kk := by unfold inI; omega
  refine J.ald_n dL_law_172 rfl ?_
  refine J.ald_n dL_law_173 rfl ?_
  refine J.ild dL_law_174 rfl ?_
  refine J.iconst dL_law_176 ?_
  refine J.iadd dL_law_177 ?_
  rw [show (((i : Nat) : Int) : Int) + 1 = ((i + 1 : Nat) : Int) from by push_cast; rfl]
  refine J.iald (i + 1) dL_law_178 e4 rfl (by omega) (by omega) ?_
  refine J.ald_n dL_law_179 rfl ?_
  refine J.callSX (rm' := rL_say) [.ref 5, vI (s (i + 1)), .ref 49] dL_law_180 (hJ1) st_L_say ml_L_90 sm_L_say rfl (Nat.le_of_ble_eq_true rfl) (by decide) (by decide) (Nat.le_of_ble_eq_true rfl) (Nat.le_trans (Nat.add_le_add_right hkb _) (by decide)) (Nat.le_trans (Nat.add_le_add_right hnb _) (by decide)) (fun E9 σ9 hq9 => nomatch hq9.1) (fun r9 σ1 hq9 hle9 => ?_)
  obtain ⟨h9, ⟨f1, e49', hv1⟩, ⟨g1, e50'⟩, hC1, hn1, hj1⟩ := hq9
  cases h9
  clear hle9
  obtain ⟨pa, ps, hO⟩ := hM.1
  refine J.ist dL_law_183 (Nat.le_of_ble_eq_true rfl) (jnc_of rfl rfl) ?_
  refine J.ald_n dL_law_185 rfl ?_
  refine J.ald_n dL_law_186 rfl ?_
  refine J.ild dL_law_187 rfl ?_
  refine J.iconst dL_law_189 ?_
  refine J.iadd dL_law_190 ?_
  rw [show (((i : Nat) : Int) : Int) + 1 = ((i + 1 : Nat) : Int) from by push_cast; rfl]
  refine J.iald (i + 1) dL_law_191 ((hj1 _ (by omega)).trans e4) rfl (by omega) (by omega) ?_
  refine J.callV (rm' := rX7_say) [vI (s (i + 1))] dL_law_192 (hJ2 σ1 th (hM.keep (fun j a b => hj1 j (by omega)))) ((hj1 _ (by omega)).trans hO) rfl st_X7_say ml_L_95 im_X7_say se_X7_say rfl (Nat.le_of_ble_eq_true rfl) (by decide) (by decide) (Nat.le_of_ble_eq_true rfl) (Nat.le_trans (Nat.add_le_add_right (Nat.add_le_add_right hkb _) _) (by decide)) (Nat.le_trans (Nat.add_le_add_right (Nat.add_le_add_right hnb _) _) (by decide)) (Or.inr (fun E9 σ9 hq9 => nomatch hq9.1.choose_spec.1)) (fun E9 σ9 hq9 _ => nomatch hq9.1.choose_spec.1) (fun r9 σ2 hq9 hle9 => ?_)
  obtain ⟨⟨x, h9, hx⟩, hM2, hn2, hj2⟩ := hq9
  cases h9
  clear hle9
  obtain ⟨pa2, ps2, hO2⟩ := hM2.1
  refine J.ist dL_law_195 (Nat.le_of_ble_eq_true rfl) (jnc_of rfl rfl) ?_
  refine J.ald_n dL_law_197 rfl ?_
  refine J.callV (rm' := rX7_thrown) [] dL_law_198 (c_X7_thrown hO2) hO2 rfl st_X7_thrown ml_L_96 im_X7_thrown se_X7_thrown rfl (Nat.le_of_ble_eq_true rfl) (by decide) (by decide) (Nat.le_of_ble_eq_true rfl) (Nat.le_trans (Nat.add_le_add_right (Nat.add_le_add_right (Nat.add_le_add_right hkb _) _) _) (by decide)) (Nat.le_trans (Nat.add_le_add_right (Nat.add_le_add_right (Nat.add_le_add_right hnb _) _) _) (by decide)) (Or.inr (fun E9 σ9 hq9 => nomatch hq9.1)) (fun E9 σ9 hq9 _ => nomatch hq9.1) (fun r9 σ9 hq9 hle9 => ?_)
  obtain ⟨h9, h8⟩ := hq9
  rw [h8]
  clear hle9 h8 σ9
  cases h9
  refine J.ild dL_law_201 rfl ?_
  refine J.icmp_eq dL_law_203 (by decide) (tgt := 208) hki3 hki3 (fun w1 => ?_) (fun w1 => ?_)
  · refine J.ild dL_law_208 rfl ?_
    refine J.if_ne dL_law_210 (by decide) (tgt := 225) hki3 (fun w2 => ?_) (fun w2 => ?_)
    · refine J.goto dL_law_225 (by decide) (tgt := 1636) ?_
      exact hk σ2 _ _ _ _ _ ⟨⟨kk, _, _, _, _, _, _, _, _, _, _, _, _, _, _, _, hC1.keep (fun j hj => hj2 j (Or.inl hj)), hM2, hI'⟩, ⟨f1, (hj2 _ (by omega)).trans e49'⟩, ⟨g1, (hj2 _ (by omega)).trans e50'⟩, (hj2 _ (by omega)).trans ((hj1 _ (by omega)).trans e4), ⟨(hj2 _ (by omega)).trans ((hj1 _ (by omega)).trans hst.1), (hj2 _ (by omega)).trans ((hj1 _ (by omega)).trans hst.2.1), (hj2 _ (by omega)).trans ((hj1 _ (by omega)).trans hst.2.2.1), (hj2 _ (by omega)).trans ((hj1 _ (by omega)).trans hst.2.2.2)⟩, hn2.trans (hn1.trans hN1), hsI, hN2⟩ (show k + 1 ≤ k + 10 by omega) (show n + 6 ≤ n + 100 by omega) rfl
    · have hk0 : kk = 0 := by omega
      have hxv : x = v := hx hk0
      have hvi := hv hk0
      have hf1 : f1 0 = v := hv1 hk0
      refine J.ald_n dL_law_213 rfl ?_
      refine J.iconst dL_law_214 ?_
      refine J.laldD 0 dL_law_215 ((hj2 _ (by omega)).trans e49') rfl (by omega) (by omega) ?_
      rw [hf1]
      refine J.ild dL_law_216 rfl ?_
      refine J.i2l dL_law_218 (by rw [hxv]; exact hvi) ?_
      rw [hxv]
      refine J.lcmp dL_law_219 ?_
      rw [lg_selfI]
      refine J.if_eq dL_law_220 (by decide) (tgt := 225) (by unfold inI; omega) (fun w3 => ?_) (fun w3 => ?_)
      · refine J.goto dL_law_225 (by decide) (tgt := 1636) ?_
        exact hk σ2 _ _ _ _ _ ⟨⟨kk, _, _, _, _, _, _, _, _, _, _, _, _, _, _, _, hC1.keep (fun j hj => hj2 j (Or.inl hj)), hM2, hI'⟩, ⟨f1, (hj2 _ (by omega)).trans e49'⟩, ⟨g1, (hj2 _ (by omega)).trans e50'⟩, (hj2 _ (by omega)).trans ((hj1 _ (by omega)).trans e4), ⟨(hj2 _ (by omega)).trans ((hj1 _ (by omega)).trans hst.1), (hj2 _ (by omega)).trans ((hj1 _ (by omega)).trans hst.2.1), (hj2 _ (by omega)).trans ((hj1 _ (by omega)).trans hst.2.2.1), (hj2 _ (by omega)).trans ((hj1 _ (by omega)).trans hst.2.2.2)⟩, hn2.trans (hn1.trans hN1), hsI, hN2⟩ (show k + 1 ≤ k + 10 by omega) (show n + 6 ≤ n + 100 by omega) rfl
      · exact absurd rfl w3
  · exact absurd rfl w1
set_option maxRecDepth 20000 in
theorem law_wordAt {X : jX} {σ : jS} {nm : String} {hh : List (Nat × Nat × Nat × Nat)} {s : Nat → Int} {N : Nat} {lu du : Nat → Int} {i k n : Nat} {u6 u7 u8 : Value} {Q : jOut → jS → Prop} (hL : LI s N lu du σ) (hi : i + 4 ≤ N) (hkb : k ≤ 500000) (hnb : n ≤ 5000000) (hu6 : u6.category = 1) (hk : ∀ (σ' : jS) (k' n' : Nat) (v6 v7 v8 : Value), LI s N lu du σ' → k' ≤ k + 10 → n' ≤ n + 100 → v6.category = 1 → J X (mLw nm hh) rL_law 1636 [.ref 4, .ref 5, .ref 37, .ref 49, .ref 50, vI ((i : Nat) : Int), v6, v7, v8] [] k' n' σ' Q) : J X (mLw nm hh) rL_law 254 [.ref 4, .ref 5, .ref 37, .ref 49, .ref 50, vI ((i : Nat) : Int), u6, u7, u8] [] k n σ Q := by
  obtain ⟨⟨th, pr, ln, lw, bn, cd, sz, ph, mn, mg, kn, kr, ks, kt, rd, rg, hW, hM, hI⟩, ⟨f0, e49⟩, ⟨g0, e50⟩, e4, hst, hN1, hsI, hN2⟩ := id hL
  obtain ⟨kk, v, pr', ln', lw', bn', cd', sz', ph', mn', mg', kn', kr', ks', kt', rd', rg', hJ1, hJ2, hI', hk3, hv⟩ := op_wordAt hW hI e49 e50 (s (i + 1))  (hsI _)
  have hki3 : inI kk := by unfold inI; omega
  refine J.ald_n dL_law_254 rfl ?_
  refine J.ald_n dL_law_255 rfl ?_
  refine J.ild dL_law_256 rfl ?_
  refine J.iconst dL_law_258 ?_
  refine J.iadd dL_law_259 ?_
  rw [show (((i : Nat) : Int) : Int) + 1 = ((i + 1 : Nat) : Int) from by push_cast; rfl]
  refine J.iald (i + 1) dL_law_260 e4 rfl (by omega) (by omega) ?_
  refine J.ald_n dL_law_261 rfl ?_
  refine J.callSX (rm' := rL_wordAt) [.ref 5, vI (s (i + 1)), .ref 49] dL_law_262 (hJ1) st_L_wordAt ml_L_107 sm_L_wordAt rfl (Nat.le_of_ble_eq_true rfl) (by decide) (by decide) (Nat.le_of_ble_eq_true rfl) (Nat.le_trans (Nat.add_le_add_right hkb _) (by decide)) (Nat.le_trans (Nat.add_le_add_right hnb _) (by decide)) (fun E9 σ9 hq9 => nomatch hq9.1) (fun r9 σ1 hq9 hle9 => ?_)
  obtain ⟨h9, ⟨f1, e49', hv1⟩, ⟨g1, e50'⟩, hC1, hn1, hj1⟩ := hq9
  cases h9
  clear hle9
  obtain ⟨pa, ps, hO⟩ := hM.1
  refine J.ist dL_law_265 (Nat.le_of_ble_eq_true rfl) (jnc_of rfl rfl) ?_
  refine J.ald_n dL_law_267 rfl ?_
  refine J.ald_n dL_law_268 rfl ?_
  refine J.ild dL_law_269 rfl ?_
  refine J.iconst dL_law_271 ?_
  refine J.iadd dL_law_272 ?_
  rw [show (((i : Nat) : Int) : Int) + 1 = ((i + 1 : Nat) : Int) from by push_cast; rfl]
  refine J.iald (i + 1) dL_law_273 ((hj1 _ (by omega)).trans e4) rfl (by omega) (by omega) ?_
  refine J.callV (rm' := rX7_wordAt) [vI (s (i + 1))] dL_law_274 (hJ2 σ1 th (hM.keep (fun j a b => hj1 j (by omega)))) ((hj1 _ (by omega)).trans hO) rfl st_X7_wordAt ml_L_109 im_X7_wordAt se_X7_wordAt rfl (Nat.le_of_ble_eq_true rfl) (by decide) (by decide) (Nat.le_of_ble_eq_true rfl) (Nat.le_trans (Nat.add_le_add_right (Nat.add_le_add_right hkb _) _) (by decide)) (Nat.le_trans (Nat.add_le_add_right (Nat.add_le_add_right hnb _) _) (by decide)) (Or.inr (fun E9 σ9 hq9 => nomatch hq9.1.choose_spec.1)) (fun E9 σ9 hq9 _ => nomatch hq9.1.choose_spec.1) (fun r9 σ2 hq9 hle9 => ?_)
  obtain ⟨⟨x, h9, hx⟩, hM2, hn2, hj2⟩ := hq9
  cases h9
  clear hle9
  obtain ⟨pa2, ps2, hO2⟩ := hM2.1
  refine J.ist dL_law_277 (Nat.le_of_ble_eq_true rfl) (jnc_of rfl rfl) ?_
  refine J.ald_n dL_law_279 rfl ?_
  refine J.callV (rm' := rX7_thrown) [] dL_law_280 (c_X7_thrown hO2) hO2 rfl st_X7_thrown ml_L_96 im_X7_thrown se_X7_thrown rfl (Nat.le_of_ble_eq_true rfl) (by decide) (by decide) (Nat.le_of_ble_eq_true rfl) (Nat.le_trans (Nat.add_le_add_right (Nat.add_le_add_right (Nat.add_le_add_right hkb _) _) _) (by decide)) (Nat.le_trans (Nat.add_le_add_right (Nat.add_le_add_right (Nat.add_le_add_right hnb _) _) _) (by decide)) (Or.inr (fun E9 σ9 hq9 => nomatch hq9.1)) (fun E9 σ9 hq9 _ => nomatch hq9.1) (fun r9 σ9 hq9 hle9 => ?_)
  obtain ⟨h9, h8⟩ := hq9
  rw [h8]
  clear hle9 h8 σ9
  cases h9
  refine J.ild dL_law_283 rfl ?_
  refine J.icmp_eq dL_law_285 (by decide) (tgt := 290) hki3 hki3 (fun w1 => ?_) (fun w1 => ?_)
  · refine J.ild dL_law_290 rfl ?_
    refine J.if_ne dL_law_292 (by decide) (tgt := 307) hki3 (fun w2 => ?_) (fun w2 => ?_)
    · refine J.goto dL_law_307 (by decide) (tgt := 1636) ?_
      exact hk σ2 _ _ _ _ _ ⟨⟨kk, _, _, _, _, _, _, _, _, _, _, _, _, _, _, _, hC1.keep (fun j hj => hj2 j (Or.inl hj)), hM2, hI'⟩, ⟨f1, (hj2 _ (by omega)).trans e49'⟩, ⟨g1, (hj2 _ (by omega)).trans e50'⟩, (hj2 _ (by omega)).trans ((hj1 _ (by omega)).trans e4), ⟨(hj2 _ (by omega)).trans ((hj1 _ (by omega)).trans hst.1), (hj2 _ (by omega)).trans ((hj1 _ (by omega)).trans hst.2.1), (hj2 _ (by omega)).trans ((hj1 _ (by omega)).trans hst.2.2.1), (hj2 _ (by omega)).trans ((hj1 _ (by omega)).trans hst.2.2.2)⟩, hn2.trans (hn1.trans hN1), hsI, hN2⟩ (show k + 1 ≤ k + 10 by omega) (show n + 6 ≤ n + 100 by omega) rfl
    · have hk0 : kk = 0 := by omega
      have hxv : x = v := hx hk0
      have hvi := hv hk0
      have hf1 : f1 0 = v := hv1 hk0
      refine J.ald_n dL_law_295 rfl ?_
      refine J.iconst dL_law_296 ?_
      refine J.laldD 0 dL_law_297 ((hj2 _ (by omega)).trans e49') rfl (by omega) (by omega) ?_
      rw [hf1]
      refine J.ild dL_law_298 rfl ?_
      refine J.i2l dL_law_300 (by rw [hxv]; exact hvi) ?_
      rw [hxv]
      refine J.lcmp dL_law_301 ?_
      rw [lg_selfI]
      refine J.if_eq dL_law_302 (by decide) (tgt := 307) (by unfold inI; omega) (fun w3 => ?_) (fun w3 => ?_)
      · refine J.goto dL_law_307 (by decide) (tgt := 1636) ?_
        exact hk σ2 _ _ _ _ _ ⟨⟨kk, _, _, _, _, _, _, _, _, _, _, _, _, _, _, _, hC1.keep (fun j hj => hj2 j (Or.inl hj)), hM2, hI'⟩, ⟨f1, (hj2 _ (by omega)).trans e49'⟩, ⟨g1, (hj2 _ (by omega)).trans e50'⟩, (hj2 _ (by omega)).trans ((hj1 _ (by omega)).trans e4), ⟨(hj2 _ (by omega)).trans ((hj1 _ (by omega)).trans hst.1), (hj2 _ (by omega)).trans ((hj1 _ (by omega)).trans hst.2.1), (hj2 _ (by omega)).trans ((hj1 _ (by omega)).trans hst.2.2.1), (hj2 _ (by omega)).trans ((hj1 _ (by omega)).trans hst.2.2.2)⟩, hn2.trans (hn1.trans hN1), hsI, hN2⟩ (show k + 1 ≤ k + 10 by omega) (show n + 6 ≤ n + 100 by omega) rfl
      · exact absurd rfl w3
  · exact absurd rfl w1
set_option maxRecDepth 20000 in
theorem law_keep {X : jX} {σ : jS} {nm : String} {hh : List (Nat × Nat × Nat × Nat)} {s : Nat → Int} {N : Nat} {lu du : Nat → Int} {i k n : Nat} {u6 u7 u8 : Value} {Q : jOut → jS → Prop} (hL : LI s N lu du σ) (hi : i + 4 ≤ N) (hkb : k ≤ 500000) (hnb : n ≤ 5000000) (hu6 : u6.category = 1) (hk : ∀ (σ' : jS) (k' n' : Nat) (v6 v7 v8 : Value), LI s N lu du σ' → k' ≤ k + 10 → n' ≤ n + 100 → v6.category = 1 → J X (mLw nm hh) rL_law 1636 [.ref 4, .ref 5, .ref 37, .ref 49, .ref 50, vI ((i : Nat) : Int), v6, v7, v8] [] k' n' σ' Q) : J X (mLw nm hh) rL_law 310 [.ref 4, .ref 5, .ref 37, .ref 49, .ref 50, vI ((i : Nat) : Int), u6, u7, u8] [] k n σ Q := by
  obtain ⟨⟨th, pr, ln, lw, bn, cd, sz, ph, mn, mg, kn, kr, ks, kt, rd, rg, hW, hM, hI⟩, ⟨f0, e49⟩, ⟨g0, e50⟩, e4, hst, hN1, hsI, hN2⟩ := id hL
  obtain ⟨kk, v, pr', ln', lw', bn', cd', sz', ph', mn', mg', kn', kr', ks', kt', rd', rg', hJ1, hJ2, hI', hk3, hv⟩ := op_keep hW hI e49 e50  
  have hki3 : inI kk := by unfold inI; omega
  refine J.ald_n dL_law_310 rfl ?_
  refine J.ald_n dL_law_311 rfl ?_
  refine J.callSX (rm' := rL_keep) [.ref 5, .ref 49] dL_law_312 (hJ1) st_L_keep ml_L_110 sm_L_keep rfl (Nat.le_of_ble_eq_true rfl) (by decide) (by decide) (Nat.le_of_ble_eq_true rfl) (Nat.le_trans (Nat.add_le_add_right hkb _) (by decide)) (Nat.le_trans (Nat.add_le_add_right hnb _) (by decide)) (fun E9 σ9 hq9 => nomatch hq9.1) (fun r9 σ1 hq9 hle9 => ?_)
  obtain ⟨h9, ⟨f1, e49', hv1⟩, ⟨g1, e50'⟩, hC1, hn1, hj1⟩ := hq9
  cases h9
  clear hle9
  obtain ⟨pa, ps, hO⟩ := hM.1
  refine J.ist dL_law_315 (Nat.le_of_ble_eq_true rfl) (jnc_of rfl rfl) ?_
  refine J.ald_n dL_law_317 rfl ?_
  refine J.callV (rm' := rX7_keep) [] dL_law_318 (hJ2 σ1 th (hM.keep (fun j a b => hj1 j (by omega)))) ((hj1 _ (by omega)).trans hO) rfl st_X7_keep ml_L_113 im_X7_keep se_X7_keep rfl (Nat.le_of_ble_eq_true rfl) (by decide) (by decide) (Nat.le_of_ble_eq_true rfl) (Nat.le_trans (Nat.add_le_add_right (Nat.add_le_add_right hkb _) _) (by decide)) (Nat.le_trans (Nat.add_le_add_right (Nat.add_le_add_right hnb _) _) (by decide)) (Or.inr (fun E9 σ9 hq9 => nomatch hq9.1.choose_spec.1)) (fun E9 σ9 hq9 _ => nomatch hq9.1.choose_spec.1) (fun r9 σ2 hq9 hle9 => ?_)
  obtain ⟨⟨x, h9, hx⟩, hM2, hn2, hj2⟩ := hq9
  cases h9
  clear hle9
  obtain ⟨pa2, ps2, hO2⟩ := hM2.1
  refine J.ist dL_law_321 (Nat.le_of_ble_eq_true rfl) (jnc_of rfl rfl) ?_
  refine J.ald_n dL_law_323 rfl ?_
  refine J.callV (rm' := rX7_thrown) [] dL_law_324 (c_X7_thrown hO2) hO2 rfl st_X7_thrown ml_L_96 im_X7_thrown se_X7_thrown rfl (Nat.le_of_ble_eq_true rfl) (by decide) (by decide) (Nat.le_of_ble_eq_true rfl) (Nat.le_trans (Nat.add_le_add_right (Nat.add_le_add_right (Nat.add_le_add_right hkb _) _) _) (by decide)) (Nat.le_trans (Nat.add_le_add_right (Nat.add_le_add_right (Nat.add_le_add_right hnb _) _) _) (by decide)) (Or.inr (fun E9 σ9 hq9 => nomatch hq9.1)) (fun E9 σ9 hq9 _ => nomatch hq9.1) (fun r9 σ9 hq9 hle9 => ?_)
  obtain ⟨h9, h8⟩ := hq9
  rw [h8]
  clear hle9 h8 σ9
  cases h9
  refine J.ild dL_law_327 rfl ?_
  refine J.icmp_eq dL_law_329 (by decide) (tgt := 334) hki3 hki3 (fun w1 => ?_) (fun w1 => ?_)
  · refine J.ild dL_law_334 rfl ?_
    refine J.if_ne dL_law_336 (by decide) (tgt := 351) hki3 (fun w2 => ?_) (fun w2 => ?_)
    · refine J.goto dL_law_351 (by decide) (tgt := 1636) ?_
      exact hk σ2 _ _ _ _ _ ⟨⟨kk, _, _, _, _, _, _, _, _, _, _, _, _, _, _, _, hC1.keep (fun j hj => hj2 j (Or.inl hj)), hM2, hI'⟩, ⟨f1, (hj2 _ (by omega)).trans e49'⟩, ⟨g1, (hj2 _ (by omega)).trans e50'⟩, (hj2 _ (by omega)).trans ((hj1 _ (by omega)).trans e4), ⟨(hj2 _ (by omega)).trans ((hj1 _ (by omega)).trans hst.1), (hj2 _ (by omega)).trans ((hj1 _ (by omega)).trans hst.2.1), (hj2 _ (by omega)).trans ((hj1 _ (by omega)).trans hst.2.2.1), (hj2 _ (by omega)).trans ((hj1 _ (by omega)).trans hst.2.2.2)⟩, hn2.trans (hn1.trans hN1), hsI, hN2⟩ (show k + 1 ≤ k + 10 by omega) (show n + 6 ≤ n + 100 by omega) rfl
    · have hk0 : kk = 0 := by omega
      have hxv : x = v := hx hk0
      have hvi := hv hk0
      have hf1 : f1 0 = v := hv1 hk0
      refine J.ald_n dL_law_339 rfl ?_
      refine J.iconst dL_law_340 ?_
      refine J.laldD 0 dL_law_341 ((hj2 _ (by omega)).trans e49') rfl (by omega) (by omega) ?_
      rw [hf1]
      refine J.ild dL_law_342 rfl ?_
      refine J.i2l dL_law_344 (by rw [hxv]; exact hvi) ?_
      rw [hxv]
      refine J.lcmp dL_law_345 ?_
      rw [lg_selfI]
      refine J.if_eq dL_law_346 (by decide) (tgt := 351) (by unfold inI; omega) (fun w3 => ?_) (fun w3 => ?_)
      · refine J.goto dL_law_351 (by decide) (tgt := 1636) ?_
        exact hk σ2 _ _ _ _ _ ⟨⟨kk, _, _, _, _, _, _, _, _, _, _, _, _, _, _, _, hC1.keep (fun j hj => hj2 j (Or.inl hj)), hM2, hI'⟩, ⟨f1, (hj2 _ (by omega)).trans e49'⟩, ⟨g1, (hj2 _ (by omega)).trans e50'⟩, (hj2 _ (by omega)).trans ((hj1 _ (by omega)).trans e4), ⟨(hj2 _ (by omega)).trans ((hj1 _ (by omega)).trans hst.1), (hj2 _ (by omega)).trans ((hj1 _ (by omega)).trans hst.2.1), (hj2 _ (by omega)).trans ((hj1 _ (by omega)).trans hst.2.2.1), (hj2 _ (by omega)).trans ((hj1 _ (by omega)).trans hst.2.2.2)⟩, hn2.trans (hn1.trans hN1), hsI, hN2⟩ (show k + 1 ≤ k + 10 by omega) (show n + 6 ≤ n + 100 by omega) rfl
      · exact absurd rfl w3
  · exact absurd rfl w1
set_option maxRecDepth 20000 in
theorem law_recall {X : jX} {σ : jS} {nm : String} {hh : List (Nat × Nat × Nat × Nat)} {s : Nat → Int} {N : Nat} {lu du : Nat → Int} {i k n : Nat} {u6 u7 u8 : Value} {Q : jOut → jS → Prop} (hL : LI s N lu du σ) (hi : i + 4 ≤ N) (hkb : k ≤ 500000) (hnb : n ≤ 5000000) (hu6 : u6.category = 1) (hk : ∀ (σ' : jS) (k' n' : Nat) (v6 v7 v8 : Value), LI s N lu du σ' → k' ≤ k + 10 → n' ≤ n + 100 → v6.category = 1 → J X (mLw nm hh) rL_law 1636 [.ref 4, .ref 5, .ref 37, .ref 49, .ref 50, vI ((i : Nat) : Int), v6, v7, v8] [] k' n' σ' Q) : J X (mLw nm hh) rL_law 354 [.ref 4, .ref 5, .ref 37, .ref 49, .ref 50, vI ((i : Nat) : Int), u6, u7, u8] [] k n σ Q := by
  obtain ⟨⟨th, pr, ln, lw, bn, cd, sz, ph, mn, mg, kn, kr, ks, kt, rd, rg, hW, hM, hI⟩, ⟨f0, e49⟩, ⟨g0, e50⟩, e4, hst, hN1, hsI, hN2⟩ := id hL
  obtain ⟨kk, v, pr', ln', lw', bn', cd', sz', ph', mn', mg', kn', kr', ks', kt', rd', rg', hJ1, hJ2, hI', hk3, hv⟩ := op_recall hW hI e49 e50 (s (i + 1))  (hsI _)
  have hki3 : inI kk := by unfold inI; omega
  refine J.ald_n dL_law_354 rfl ?_
  refine J.ald_n dL_law_355 rfl ?_
  refine J.ild dL_law_356 rfl ?_
  refine J.iconst dL_law_358 ?_
  refine J.iadd dL_law_359 ?_
  rw [show (((i : Nat) : Int) : Int) + 1 = ((i + 1 : Nat) : Int) from by push_cast; rfl]
  refine J.iald (i + 1) dL_law_360 e4 rfl (by omega) (by omega) ?_
  refine J.ald_n dL_law_361 rfl ?_
  refine J.callSX (rm' := rL_recall) [.ref 5, vI (s (i + 1)), .ref 49] dL_law_362 (hJ1) st_L_recall ml_L_114 sm_L_recall rfl (Nat.le_of_ble_eq_true rfl) (by decide) (by decide) (Nat.le_of_ble_eq_true rfl) (Nat.le_trans (Nat.add_le_add_right hkb _) (by decide)) (Nat.le_trans (Nat.add_le_add_right hnb _) (by decide)) (fun E9 σ9 hq9 => nomatch hq9.1) (fun r9 σ1 hq9 hle9 => ?_)
  obtain ⟨h9, ⟨f1, e49', hv1⟩, ⟨g1, e50'⟩, hC1, hn1, hj1⟩ := hq9
  cases h9
  clear hle9
  obtain ⟨pa, ps, hO⟩ := hM.1
  refine J.ist dL_law_365 (Nat.le_of_ble_eq_true rfl) (jnc_of rfl rfl) ?_
  refine J.ald_n dL_law_367 rfl ?_
  refine J.ald_n dL_law_368 rfl ?_
  refine J.ild dL_law_369 rfl ?_
  refine J.iconst dL_law_371 ?_
  refine J.iadd dL_law_372 ?_
  rw [show (((i : Nat) : Int) : Int) + 1 = ((i + 1 : Nat) : Int) from by push_cast; rfl]
  refine J.iald (i + 1) dL_law_373 ((hj1 _ (by omega)).trans e4) rfl (by omega) (by omega) ?_
  refine J.callV (rm' := rX7_recall) [vI (s (i + 1))] dL_law_374 (hJ2 σ1 th (hM.keep (fun j a b => hj1 j (by omega)))) ((hj1 _ (by omega)).trans hO) rfl st_X7_recall ml_L_116 im_X7_recall se_X7_recall rfl (Nat.le_of_ble_eq_true rfl) (by decide) (by decide) (Nat.le_of_ble_eq_true rfl) (Nat.le_trans (Nat.add_le_add_right (Nat.add_le_add_right hkb _) _) (by decide)) (Nat.le_trans (Nat.add_le_add_right (Nat.add_le_add_right hnb _) _) (by decide)) (Or.inr (fun E9 σ9 hq9 => nomatch hq9.1.choose_spec.1)) (fun E9 σ9 hq9 _ => nomatch hq9.1.choose_spec.1) (fun r9 σ2 hq9 hle9 => ?_)
  obtain ⟨⟨x, h9, hx⟩, hM2, hn2, hj2⟩ := hq9
  cases h9
  clear hle9
  obtain ⟨pa2, ps2, hO2⟩ := hM2.1
  refine J.ist dL_law_377 (Nat.le_of_ble_eq_true rfl) (jnc_of rfl rfl) ?_
  refine J.ald_n dL_law_379 rfl ?_
  refine J.callV (rm' := rX7_thrown) [] dL_law_380 (c_X7_thrown hO2) hO2 rfl st_X7_thrown ml_L_96 im_X7_thrown se_X7_thrown rfl (Nat.le_of_ble_eq_true rfl) (by decide) (by decide) (Nat.le_of_ble_eq_true rfl) (Nat.le_trans (Nat.add_le_add_right (Nat.add_le_add_right (Nat.add_le_add_right hkb _) _) _) (by decide)) (Nat.le_trans (Nat.add_le_add_right (Nat.add_le_add_right (Nat.add_le_add_right hnb _) _) _) (by decide)) (Or.inr (fun E9 σ9 hq9 => nomatch hq9.1)) (fun E9 σ9 hq9 _ => nomatch hq9.1) (fun r9 σ9 hq9 hle9 => ?_)
  obtain ⟨h9, h8⟩ := hq9
  rw [h8]
  clear hle9 h8 σ9
  cases h9
  refine J.ild dL_law_383 rfl ?_
  refine J.icmp_eq dL_law_385 (by decide) (tgt := 390) hki3 hki3 (fun w1 => ?_) (fun w1 => ?_)
  · refine J.ild dL_law_390 rfl ?_
    refine J.if_ne dL_law_392 (by decide) (tgt := 407) hki3 (fun w2 => ?_) (fun w2 => ?_)
    · refine J.goto dL_law_407 (by decide) (tgt := 1636) ?_
      exact hk σ2 _ _ _ _ _ ⟨⟨kk, _, _, _, _, _, _, _, _, _, _, _, _, _, _, _, hC1.keep (fun j hj => hj2 j (Or.inl hj)), hM2, hI'⟩, ⟨f1, (hj2 _ (by omega)).trans e49'⟩, ⟨g1, (hj2 _ (by omega)).trans e50'⟩, (hj2 _ (by omega)).trans ((hj1 _ (by omega)).trans e4), ⟨(hj2 _ (by omega)).trans ((hj1 _ (by omega)).trans hst.1), (hj2 _ (by omega)).trans ((hj1 _ (by omega)).trans hst.2.1), (hj2 _ (by omega)).trans ((hj1 _ (by omega)).trans hst.2.2.1), (hj2 _ (by omega)).trans ((hj1 _ (by omega)).trans hst.2.2.2)⟩, hn2.trans (hn1.trans hN1), hsI, hN2⟩ (show k + 1 ≤ k + 10 by omega) (show n + 6 ≤ n + 100 by omega) rfl
    · have hk0 : kk = 0 := by omega
      have hxv : x = v := hx hk0
      have hvi := hv hk0
      have hf1 : f1 0 = v := hv1 hk0
      refine J.ald_n dL_law_395 rfl ?_
      refine J.iconst dL_law_396 ?_
      refine J.laldD 0 dL_law_397 ((hj2 _ (by omega)).trans e49') rfl (by omega) (by omega) ?_
      rw [hf1]
      refine J.ild dL_law_398 rfl ?_
      refine J.i2l dL_law_400 (by rw [hxv]; exact hvi) ?_
      rw [hxv]
      refine J.lcmp dL_law_401 ?_
      rw [lg_selfI]
      refine J.if_eq dL_law_402 (by decide) (tgt := 407) (by unfold inI; omega) (fun w3 => ?_) (fun w3 => ?_)
      · refine J.goto dL_law_407 (by decide) (tgt := 1636) ?_
        exact hk σ2 _ _ _ _ _ ⟨⟨kk, _, _, _, _, _, _, _, _, _, _, _, _, _, _, _, hC1.keep (fun j hj => hj2 j (Or.inl hj)), hM2, hI'⟩, ⟨f1, (hj2 _ (by omega)).trans e49'⟩, ⟨g1, (hj2 _ (by omega)).trans e50'⟩, (hj2 _ (by omega)).trans ((hj1 _ (by omega)).trans e4), ⟨(hj2 _ (by omega)).trans ((hj1 _ (by omega)).trans hst.1), (hj2 _ (by omega)).trans ((hj1 _ (by omega)).trans hst.2.1), (hj2 _ (by omega)).trans ((hj1 _ (by omega)).trans hst.2.2.1), (hj2 _ (by omega)).trans ((hj1 _ (by omega)).trans hst.2.2.2)⟩, hn2.trans (hn1.trans hN1), hsI, hN2⟩ (show k + 1 ≤ k + 10 by omega) (show n + 6 ≤ n + 100 by omega) rfl
      · exact absurd rfl w3
  · exact absurd rfl w1
set_option maxRecDepth 20000 in
theorem law_letter {X : jX} {σ : jS} {nm : String} {hh : List (Nat × Nat × Nat × Nat)} {s : Nat → Int} {N : Nat} {lu du : Nat → Int} {i k n : Nat} {u6 u7 u8 : Value} {Q : jOut → jS → Prop} (hL : LI s N lu du σ) (hi : i + 4 ≤ N) (hkb : k ≤ 500000) (hnb : n ≤ 5000000) (hu6 : u6.category = 1) (hk : ∀ (σ' : jS) (k' n' : Nat) (v6 v7 v8 : Value), LI s N lu du σ' → k' ≤ k + 10 → n' ≤ n + 100 → v6.category = 1 → J X (mLw nm hh) rL_law 1636 [.ref 4, .ref 5, .ref 37, .ref 49, .ref 50, vI ((i : Nat) : Int), v6, v7, v8] [] k' n' σ' Q) : J X (mLw nm hh) rL_law 410 [.ref 4, .ref 5, .ref 37, .ref 49, .ref 50, vI ((i : Nat) : Int), u6, u7, u8] [] k n σ Q := by
  obtain ⟨⟨th, pr, ln, lw, bn, cd, sz, ph, mn, mg, kn, kr, ks, kt, rd, rg, hW, hM, hI⟩, ⟨f0, e49⟩, ⟨g0, e50⟩, e4, hst, hN1, hsI, hN2⟩ := id hL
  obtain ⟨kk, v, pr', ln', lw', bn', cd', sz', ph', mn', mg', kn', kr', ks', kt', rd', rg', hJ1, hJ2, hI', hk3, hv⟩ := op_letter hW hI e49 e50 (s (i + 1))  (s (i + 2))  (hsI _) (hsI _)
  have hki3 : inI kk := by unfold inI; omega
  refine J.ald_n dL_law_410 rfl ?_
  refine J.ald_n dL_law_411 rfl ?_
  refine J.ild dL_law_412 rfl ?_
  refine J.iconst dL_law_414 ?_
  refine J.iadd dL_law_415 ?_
  rw [show (((i : Nat) : Int) : Int) + 1 = ((i + 1 : Nat) : Int) from by push_cast; rfl]
  refine J.iald (i + 1) dL_law_416 e4 rfl (by omega) (by omega) ?_
  refine J.ald_n dL_law_417 rfl ?_
  refine J.ild dL_law_418 rfl ?_
  refine J.iconst dL_law_420 ?_
  refine J.iadd dL_law_421 ?_
  rw [show (((i : Nat) : Int) : Int) + 2 = ((i + 2 : Nat) : Int) from by push_cast; rfl]
  refine J.iald (i + 2) dL_law_422 e4 rfl (by omega) (by omega) ?_
  refine J.ald_n dL_law_423 rfl ?_
  refine J.callSX (rm' := rL_letter) [.ref 5, vI (s (i + 1)), vI (s (i + 2)), .ref 49] dL_law_424 (hJ1) st_L_letter ml_L_117 sm_L_letter rfl (Nat.le_of_ble_eq_true rfl) (by decide) (by decide) (Nat.le_of_ble_eq_true rfl) (Nat.le_trans (Nat.add_le_add_right hkb _) (by decide)) (Nat.le_trans (Nat.add_le_add_right hnb _) (by decide)) (fun E9 σ9 hq9 => nomatch hq9.1) (fun r9 σ1 hq9 hle9 => ?_)
  obtain ⟨h9, ⟨f1, e49', hv1⟩, ⟨g1, e50'⟩, hC1, hn1, hj1⟩ := hq9
  cases h9
  clear hle9
  obtain ⟨pa, ps, hO⟩ := hM.1
  refine J.ist dL_law_427 (Nat.le_of_ble_eq_true rfl) (jnc_of rfl rfl) ?_
  refine J.ald_n dL_law_429 rfl ?_
  refine J.ald_n dL_law_430 rfl ?_
  refine J.ild dL_law_431 rfl ?_
  refine J.iconst dL_law_433 ?_
  refine J.iadd dL_law_434 ?_
  rw [show (((i : Nat) : Int) : Int) + 1 = ((i + 1 : Nat) : Int) from by push_cast; rfl]
  refine J.iald (i + 1) dL_law_435 ((hj1 _ (by omega)).trans e4) rfl (by omega) (by omega) ?_
  refine J.ald_n dL_law_436 rfl ?_
  refine J.ild dL_law_437 rfl ?_
  refine J.iconst dL_law_439 ?_
  refine J.iadd dL_law_440 ?_
  rw [show (((i : Nat) : Int) : Int) + 2 = ((i + 2 : Nat) : Int) from by push_cast; rfl]
  refine J.iald (i + 2) dL_law_441 ((hj1 _ (by omega)).trans e4) rfl (by omega) (by omega) ?_
  refine J.callV (rm' := rX7_letter) [vI (s (i + 1)), vI (s (i + 2))] dL_law_442 (hJ2 σ1 th (hM.keep (fun j a b => hj1 j (by omega)))) ((hj1 _ (by omega)).trans hO) rfl st_X7_letter ml_L_120 im_X7_letter se_X7_letter rfl (Nat.le_of_ble_eq_true rfl) (by decide) (by decide) (Nat.le_of_ble_eq_true rfl) (Nat.le_trans (Nat.add_le_add_right (Nat.add_le_add_right hkb _) _) (by decide)) (Nat.le_trans (Nat.add_le_add_right (Nat.add_le_add_right hnb _) _) (by decide)) (Or.inr (fun E9 σ9 hq9 => nomatch hq9.1.choose_spec.1)) (fun E9 σ9 hq9 _ => nomatch hq9.1.choose_spec.1) (fun r9 σ2 hq9 hle9 => ?_)
  obtain ⟨⟨x, h9, hx⟩, hM2, hn2, hj2⟩ := hq9
  cases h9
  clear hle9
  obtain ⟨pa2, ps2, hO2⟩ := hM2.1
  refine J.ist dL_law_445 (Nat.le_of_ble_eq_true rfl) (jnc_of rfl rfl) ?_
  refine J.ald_n dL_law_447 rfl ?_
  refine J.callV (rm' := rX7_thrown) [] dL_law_448 (c_X7_thrown hO2) hO2 rfl st_X7_thrown ml_L_96 im_X7_thrown se_X7_thrown rfl (Nat.le_of_ble_eq_true rfl) (by decide) (by decide) (Nat.le_of_ble_eq_true rfl) (Nat.le_trans (Nat.add_le_add_right (Nat.add_le_add_right (Nat.add_le_add_right hkb _) _) _) (by decide)) (Nat.le_trans (Nat.add_le_add_right (Nat.add_le_add_right (Nat.add_le_add_right hnb _) _) _) (by decide)) (Or.inr (fun E9 σ9 hq9 => nomatch hq9.1)) (fun E9 σ9 hq9 _ => nomatch hq9.1) (fun r9 σ9 hq9 hle9 => ?_)
  obtain ⟨h9, h8⟩ := hq9
  rw [h8]
  clear hle9 h8 σ9
  cases h9
  refine J.ild dL_law_451 rfl ?_
  refine J.icmp_eq dL_law_453 (by decide) (tgt := 458) hki3 hki3 (fun w1 => ?_) (fun w1 => ?_)
  · refine J.ild dL_law_458 rfl ?_
    refine J.if_ne dL_law_460 (by decide) (tgt := 475) hki3 (fun w2 => ?_) (fun w2 => ?_)
    · refine J.goto dL_law_475 (by decide) (tgt := 1636) ?_
      exact hk σ2 _ _ _ _ _ ⟨⟨kk, _, _, _, _, _, _, _, _, _, _, _, _, _, _, _, hC1.keep (fun j hj => hj2 j (Or.inl hj)), hM2, hI'⟩, ⟨f1, (hj2 _ (by omega)).trans e49'⟩, ⟨g1, (hj2 _ (by omega)).trans e50'⟩, (hj2 _ (by omega)).trans ((hj1 _ (by omega)).trans e4), ⟨(hj2 _ (by omega)).trans ((hj1 _ (by omega)).trans hst.1), (hj2 _ (by omega)).trans ((hj1 _ (by omega)).trans hst.2.1), (hj2 _ (by omega)).trans ((hj1 _ (by omega)).trans hst.2.2.1), (hj2 _ (by omega)).trans ((hj1 _ (by omega)).trans hst.2.2.2)⟩, hn2.trans (hn1.trans hN1), hsI, hN2⟩ (show k + 2 ≤ k + 10 by omega) (show n + 12 ≤ n + 100 by omega) rfl
    · have hk0 : kk = 0 := by omega
      have hxv : x = v := hx hk0
      have hvi := hv hk0
      have hf1 : f1 0 = v := hv1 hk0
      refine J.ald_n dL_law_463 rfl ?_
      refine J.iconst dL_law_464 ?_
      refine J.laldD 0 dL_law_465 ((hj2 _ (by omega)).trans e49') rfl (by omega) (by omega) ?_
      rw [hf1]
      refine J.ild dL_law_466 rfl ?_
      refine J.i2l dL_law_468 (by rw [hxv]; exact hvi) ?_
      rw [hxv]
      refine J.lcmp dL_law_469 ?_
      rw [lg_selfI]
      refine J.if_eq dL_law_470 (by decide) (tgt := 475) (by unfold inI; omega) (fun w3 => ?_) (fun w3 => ?_)
      · refine J.goto dL_law_475 (by decide) (tgt := 1636) ?_
        exact hk σ2 _ _ _ _ _ ⟨⟨kk, _, _, _, _, _, _, _, _, _, _, _, _, _, _, _, hC1.keep (fun j hj => hj2 j (Or.inl hj)), hM2, hI'⟩, ⟨f1, (hj2 _ (by omega)).trans e49'⟩, ⟨g1, (hj2 _ (by omega)).trans e50'⟩, (hj2 _ (by omega)).trans ((hj1 _ (by omega)).trans e4), ⟨(hj2 _ (by omega)).trans ((hj1 _ (by omega)).trans hst.1), (hj2 _ (by omega)).trans ((hj1 _ (by omega)).trans hst.2.1), (hj2 _ (by omega)).trans ((hj1 _ (by omega)).trans hst.2.2.1), (hj2 _ (by omega)).trans ((hj1 _ (by omega)).trans hst.2.2.2)⟩, hn2.trans (hn1.trans hN1), hsI, hN2⟩ (show k + 2 ≤ k + 10 by omega) (show n + 12 ≤ n + 100 by omega) rfl
      · exact absurd rfl w3
  · exact absurd rfl w1
set_option maxRecDepth 20000 in
theorem law_reason {X : jX} {σ : jS} {nm : String} {hh : List (Nat × Nat × Nat × Nat)} {s : Nat → Int} {N : Nat} {lu du : Nat → Int} {i k n : Nat} {u6 u7 u8 : Value} {Q : jOut → jS → Prop} (hL : LI s N lu du σ) (hi : i + 4 ≤ N) (hkb : k ≤ 500000) (hnb : n ≤ 5000000) (hu6 : u6.category = 1) (hk : ∀ (σ' : jS) (k' n' : Nat) (v6 v7 v8 : Value), LI s N lu du σ' → k' ≤ k + 10 → n' ≤ n + 100 → v6.category = 1 → J X (mLw nm hh) rL_law 1636 [.ref 4, .ref 5, .ref 37, .ref 49, .ref 50, vI ((i : Nat) : Int), v6, v7, v8] [] k' n' σ' Q) : J X (mLw nm hh) rL_law 478 [.ref 4, .ref 5, .ref 37, .ref 49, .ref 50, vI ((i : Nat) : Int), u6, u7, u8] [] k n σ Q := by
  obtain ⟨⟨th, pr, ln, lw, bn, cd, sz, ph, mn, mg, kn, kr, ks, kt, rd, rg, hW, hM, hI⟩, ⟨f0, e49⟩, ⟨g0, e50⟩, e4, hst, hN1, hsI, hN2⟩ := id hL
  obtain ⟨kk, v, pr', ln', lw', bn', cd', sz', ph', mn', mg', kn', kr', ks', kt', rd', rg', hJ1, hJ2, hI', hk3, hv⟩ := op_reason hW hI e49 e50 (s (i + 1))  (s (i + 2))  (hsI _) (hsI _)
  have hki3 : inI kk := by unfold inI; omega
  refine J.ald_n dL_law_478 rfl ?_
  refine J.ald_n dL_law_479 rfl ?_
  refine J.ild dL_law_480 rfl ?_
  refine J.iconst dL_law_482 ?_
  refine J.iadd dL_law_483 ?_
  rw [show (((i : Nat) : Int) : Int) + 1 = ((i + 1 : Nat) : Int) from by push_cast; rfl]
  refine J.iald (i + 1) dL_law_484 e4 rfl (by omega) (by omega) ?_
  refine J.ald_n dL_law_485 rfl ?_
  refine J.ild dL_law_486 rfl ?_
  refine J.iconst dL_law_488 ?_
  refine J.iadd dL_law_489 ?_
  rw [show (((i : Nat) : Int) : Int) + 2 = ((i + 2 : Nat) : Int) from by push_cast; rfl]
  refine J.iald (i + 2) dL_law_490 e4 rfl (by omega) (by omega) ?_
  refine J.ald_n dL_law_491 rfl ?_
  refine J.callSX (rm' := rL_reason) [.ref 5, vI (s (i + 1)), vI (s (i + 2)), .ref 49] dL_law_492 (hJ1) st_L_reason ml_L_121 sm_L_reason rfl (Nat.le_of_ble_eq_true rfl) (by decide) (by decide) (Nat.le_of_ble_eq_true rfl) (Nat.le_trans (Nat.add_le_add_right hkb _) (by decide)) (Nat.le_trans (Nat.add_le_add_right hnb _) (by decide)) (fun E9 σ9 hq9 => nomatch hq9.1) (fun r9 σ1 hq9 hle9 => ?_)
  obtain ⟨h9, ⟨f1, e49', hv1⟩, ⟨g1, e50'⟩, hC1, hn1, hj1⟩ := hq9
  cases h9
  clear hle9
  obtain ⟨pa, ps, hO⟩ := hM.1
  refine J.ist dL_law_495 (Nat.le_of_ble_eq_true rfl) (jnc_of rfl rfl) ?_
  refine J.ald_n dL_law_497 rfl ?_
  refine J.ald_n dL_law_498 rfl ?_
  refine J.ild dL_law_499 rfl ?_
  refine J.iconst dL_law_501 ?_
  refine J.iadd dL_law_502 ?_
  rw [show (((i : Nat) : Int) : Int) + 1 = ((i + 1 : Nat) : Int) from by push_cast; rfl]
  refine J.iald (i + 1) dL_law_503 ((hj1 _ (by omega)).trans e4) rfl (by omega) (by omega) ?_
  refine J.ald_n dL_law_504 rfl ?_
  refine J.ild dL_law_505 rfl ?_
  refine J.iconst dL_law_507 ?_
  refine J.iadd dL_law_508 ?_
  rw [show (((i : Nat) : Int) : Int) + 2 = ((i + 2 : Nat) : Int) from by push_cast; rfl]
  refine J.iald (i + 2) dL_law_509 ((hj1 _ (by omega)).trans e4) rfl (by omega) (by omega) ?_
  refine J.callV (rm' := rX7_reason) [vI (s (i + 1)), vI (s (i + 2))] dL_law_510 (hJ2 σ1 th (hM.keep (fun j a b => hj1 j (by omega)))) ((hj1 _ (by omega)).trans hO) rfl st_X7_reason ml_L_123 im_X7_reason se_X7_reason rfl (Nat.le_of_ble_eq_true rfl) (by decide) (by decide) (Nat.le_of_ble_eq_true rfl) (Nat.le_trans (Nat.add_le_add_right (Nat.add_le_add_right hkb _) _) (by decide)) (Nat.le_trans (Nat.add_le_add_right (Nat.add_le_add_right hnb _) _) (by decide)) (Or.inr (fun E9 σ9 hq9 => nomatch hq9.1.choose_spec.1)) (fun E9 σ9 hq9 _ => nomatch hq9.1.choose_spec.1) (fun r9 σ2 hq9 hle9 => ?_)
  obtain ⟨⟨x, h9, hx⟩, hM2, hn2, hj2⟩ := hq9
  cases h9
  clear hle9
  obtain ⟨pa2, ps2, hO2⟩ := hM2.1
  refine J.ist dL_law_513 (Nat.le_of_ble_eq_true rfl) (jnc_of rfl rfl) ?_
  refine J.ald_n dL_law_515 rfl ?_
  refine J.callV (rm' := rX7_thrown) [] dL_law_516 (c_X7_thrown hO2) hO2 rfl st_X7_thrown ml_L_96 im_X7_thrown se_X7_thrown rfl (Nat.le_of_ble_eq_true rfl) (by decide) (by decide) (Nat.le_of_ble_eq_true rfl) (Nat.le_trans (Nat.add_le_add_right (Nat.add_le_add_right (Nat.add_le_add_right hkb _) _) _) (by decide)) (Nat.le_trans (Nat.add_le_add_right (Nat.add_le_add_right (Nat.add_le_add_right hnb _) _) _) (by decide)) (Or.inr (fun E9 σ9 hq9 => nomatch hq9.1)) (fun E9 σ9 hq9 _ => nomatch hq9.1) (fun r9 σ9 hq9 hle9 => ?_)
  obtain ⟨h9, h8⟩ := hq9
  rw [h8]
  clear hle9 h8 σ9
  cases h9
  refine J.ild dL_law_519 rfl ?_
  refine J.icmp_eq dL_law_521 (by decide) (tgt := 526) hki3 hki3 (fun w1 => ?_) (fun w1 => ?_)
  · refine J.ild dL_law_526 rfl ?_
    refine J.if_ne dL_law_528 (by decide) (tgt := 543) hki3 (fun w2 => ?_) (fun w2 => ?_)
    · refine J.goto dL_law_543 (by decide) (tgt := 1636) ?_
      exact hk σ2 _ _ _ _ _ ⟨⟨kk, _, _, _, _, _, _, _, _, _, _, _, _, _, _, _, hC1.keep (fun j hj => hj2 j (Or.inl hj)), hM2, hI'⟩, ⟨f1, (hj2 _ (by omega)).trans e49'⟩, ⟨g1, (hj2 _ (by omega)).trans e50'⟩, (hj2 _ (by omega)).trans ((hj1 _ (by omega)).trans e4), ⟨(hj2 _ (by omega)).trans ((hj1 _ (by omega)).trans hst.1), (hj2 _ (by omega)).trans ((hj1 _ (by omega)).trans hst.2.1), (hj2 _ (by omega)).trans ((hj1 _ (by omega)).trans hst.2.2.1), (hj2 _ (by omega)).trans ((hj1 _ (by omega)).trans hst.2.2.2)⟩, hn2.trans (hn1.trans hN1), hsI, hN2⟩ (show k + 2 ≤ k + 10 by omega) (show n + 12 ≤ n + 100 by omega) rfl
    · have hk0 : kk = 0 := by omega
      have hxv : x = v := hx hk0
      have hvi := hv hk0
      have hf1 : f1 0 = v := hv1 hk0
      refine J.ald_n dL_law_531 rfl ?_
      refine J.iconst dL_law_532 ?_
      refine J.laldD 0 dL_law_533 ((hj2 _ (by omega)).trans e49') rfl (by omega) (by omega) ?_
      rw [hf1]
      refine J.ild dL_law_534 rfl ?_
      refine J.i2l dL_law_536 (by rw [hxv]; exact hvi) ?_
      rw [hxv]
      refine J.lcmp dL_law_537 ?_
      rw [lg_selfI]
      refine J.if_eq dL_law_538 (by decide) (tgt := 543) (by unfold inI; omega) (fun w3 => ?_) (fun w3 => ?_)
      · refine J.goto dL_law_543 (by decide) (tgt := 1636) ?_
        exact hk σ2 _ _ _ _ _ ⟨⟨kk, _, _, _, _, _, _, _, _, _, _, _, _, _, _, _, hC1.keep (fun j hj => hj2 j (Or.inl hj)), hM2, hI'⟩, ⟨f1, (hj2 _ (by omega)).trans e49'⟩, ⟨g1, (hj2 _ (by omega)).trans e50'⟩, (hj2 _ (by omega)).trans ((hj1 _ (by omega)).trans e4), ⟨(hj2 _ (by omega)).trans ((hj1 _ (by omega)).trans hst.1), (hj2 _ (by omega)).trans ((hj1 _ (by omega)).trans hst.2.1), (hj2 _ (by omega)).trans ((hj1 _ (by omega)).trans hst.2.2.1), (hj2 _ (by omega)).trans ((hj1 _ (by omega)).trans hst.2.2.2)⟩, hn2.trans (hn1.trans hN1), hsI, hN2⟩ (show k + 2 ≤ k + 10 by omega) (show n + 12 ≤ n + 100 by omega) rfl
      · exact absurd rfl w3
  · exact absurd rfl w1
set_option maxRecDepth 20000 in
theorem law_firstFit {X : jX} {σ : jS} {nm : String} {hh : List (Nat × Nat × Nat × Nat)} {s : Nat → Int} {N : Nat} {lu du : Nat → Int} {i k n : Nat} {u6 u7 u8 : Value} {Q : jOut → jS → Prop} (hL : LI s N lu du σ) (hi : i + 4 ≤ N) (hkb : k ≤ 500000) (hnb : n ≤ 5000000) (hu6 : u6.category = 1) (hk : ∀ (σ' : jS) (k' n' : Nat) (v6 v7 v8 : Value), LI s N lu du σ' → k' ≤ k + 10 → n' ≤ n + 100 → v6.category = 1 → J X (mLw nm hh) rL_law 1636 [.ref 4, .ref 5, .ref 37, .ref 49, .ref 50, vI ((i : Nat) : Int), v6, v7, v8] [] k' n' σ' Q) : J X (mLw nm hh) rL_law 546 [.ref 4, .ref 5, .ref 37, .ref 49, .ref 50, vI ((i : Nat) : Int), u6, u7, u8] [] k n σ Q := by
  obtain ⟨⟨th, pr, ln, lw, bn, cd, sz, ph, mn, mg, kn, kr, ks, kt, rd, rg, hW, hM, hI⟩, ⟨f0, e49⟩, ⟨g0, e50⟩, e4, hst, hN1, hsI, hN2⟩ := id hL
  obtain ⟨kk, v, pr', ln', lw', bn', cd', sz', ph', mn', mg', kn', kr', ks', kt', rd', rg', hJ1, hJ2, hI', hk3, hv⟩ := op_firstFit hW hI e49 e50 (s (i + 1))  (s (i + 2))  (hsI _) (hsI _)
  have hki3 : inI kk := by unfold inI; omega
  refine J.ald_n dL_law_546 rfl ?_
  refine J.ald_n dL_law_547 rfl ?_
  refine J.ild dL_law_548 rfl ?_
  refine J.iconst dL_law_550 ?_
  refine J.iadd dL_law_551 ?_
  rw [show (((i : Nat) : Int) : Int) + 1 = ((i + 1 : Nat) : Int) from by push_cast; rfl]
  refine J.iald (i + 1) dL_law_552 e4 rfl (by omega) (by omega) ?_
  refine J.ald_n dL_law_553 rfl ?_
  refine J.ild dL_law_554 rfl ?_
  refine J.iconst dL_law_556 ?_
  refine J.iadd dL_law_557 ?_
  rw [show (((i : Nat) : Int) : Int) + 2 = ((i + 2 : Nat) : Int) from by push_cast; rfl]
  refine J.iald (i + 2) dL_law_558 e4 rfl (by omega) (by omega) ?_
  refine J.ald_n dL_law_559 rfl ?_
  refine J.callSX (rm' := rL_firstFit) [.ref 5, vI (s (i + 1)), vI (s (i + 2)), .ref 49] dL_law_560 (hJ1) st_L_firstFit ml_L_124 sm_L_firstFit rfl (Nat.le_of_ble_eq_true rfl) (by decide) (by decide) (Nat.le_of_ble_eq_true rfl) (Nat.le_trans (Nat.add_le_add_right hkb _) (by decide)) (Nat.le_trans (Nat.add_le_add_right hnb _) (by decide)) (fun E9 σ9 hq9 => nomatch hq9.1) (fun r9 σ1 hq9 hle9 => ?_)
  obtain ⟨h9, ⟨f1, e49', hv1⟩, ⟨g1, e50'⟩, hC1, hn1, hj1⟩ := hq9
  cases h9
  clear hle9
  obtain ⟨pa, ps, hO⟩ := hM.1
  refine J.ist dL_law_563 (Nat.le_of_ble_eq_true rfl) (jnc_of rfl rfl) ?_
  refine J.ald_n dL_law_565 rfl ?_
  refine J.ald_n dL_law_566 rfl ?_
  refine J.ild dL_law_567 rfl ?_
  refine J.iconst dL_law_569 ?_
  refine J.iadd dL_law_570 ?_
  rw [show (((i : Nat) : Int) : Int) + 1 = ((i + 1 : Nat) : Int) from by push_cast; rfl]
  refine J.iald (i + 1) dL_law_571 ((hj1 _ (by omega)).trans e4) rfl (by omega) (by omega) ?_
  refine J.ald_n dL_law_572 rfl ?_
  refine J.ild dL_law_573 rfl ?_
  refine J.iconst dL_law_575 ?_
  refine J.iadd dL_law_576 ?_
  rw [show (((i : Nat) : Int) : Int) + 2 = ((i + 2 : Nat) : Int) from by push_cast; rfl]
  refine J.iald (i + 2) dL_law_577 ((hj1 _ (by omega)).trans e4) rfl (by omega) (by omega) ?_
  refine J.callV (rm' := rX7_firstFit) [vI (s (i + 1)), vI (s (i + 2))] dL_law_578 (hJ2 σ1 th (hM.keep (fun j a b => hj1 j (by omega)))) ((hj1 _ (by omega)).trans hO) rfl st_X7_firstFit ml_L_126 im_X7_firstFit se_X7_firstFit rfl (Nat.le_of_ble_eq_true rfl) (by decide) (by decide) (Nat.le_of_ble_eq_true rfl) (Nat.le_trans (Nat.add_le_add_right (Nat.add_le_add_right hkb _) _) (by decide)) (Nat.le_trans (Nat.add_le_add_right (Nat.add_le_add_right hnb _) _) (by decide)) (Or.inr (fun E9 σ9 hq9 => nomatch hq9.1.choose_spec.1)) (fun E9 σ9 hq9 _ => nomatch hq9.1.choose_spec.1) (fun r9 σ2 hq9 hle9 => ?_)
  obtain ⟨⟨x, h9, hx⟩, hM2, hn2, hj2⟩ := hq9
  cases h9
  clear hle9
  obtain ⟨pa2, ps2, hO2⟩ := hM2.1
  refine J.ist dL_law_581 (Nat.le_of_ble_eq_true rfl) (jnc_of rfl rfl) ?_
  refine J.ald_n dL_law_583 rfl ?_
  refine J.callV (rm' := rX7_thrown) [] dL_law_584 (c_X7_thrown hO2) hO2 rfl st_X7_thrown ml_L_96 im_X7_thrown se_X7_thrown rfl (Nat.le_of_ble_eq_true rfl) (by decide) (by decide) (Nat.le_of_ble_eq_true rfl) (Nat.le_trans (Nat.add_le_add_right (Nat.add_le_add_right (Nat.add_le_add_right hkb _) _) _) (by decide)) (Nat.le_trans (Nat.add_le_add_right (Nat.add_le_add_right (Nat.add_le_add_right hnb _) _) _) (by decide)) (Or.inr (fun E9 σ9 hq9 => nomatch hq9.1)) (fun E9 σ9 hq9 _ => nomatch hq9.1) (fun r9 σ9 hq9 hle9 => ?_)
  obtain ⟨h9, h8⟩ := hq9
  rw [h8]
  clear hle9 h8 σ9
  cases h9
  refine J.ild dL_law_587 rfl ?_
  refine J.icmp_eq dL_law_589 (by decide) (tgt := 594) hki3 hki3 (fun w1 => ?_) (fun w1 => ?_)
  · refine J.ild dL_law_594 rfl ?_
    refine J.if_ne dL_law_596 (by decide) (tgt := 611) hki3 (fun w2 => ?_) (fun w2 => ?_)
    · refine J.goto dL_law_611 (by decide) (tgt := 1636) ?_
      exact hk σ2 _ _ _ _ _ ⟨⟨kk, _, _, _, _, _, _, _, _, _, _, _, _, _, _, _, hC1.keep (fun j hj => hj2 j (Or.inl hj)), hM2, hI'⟩, ⟨f1, (hj2 _ (by omega)).trans e49'⟩, ⟨g1, (hj2 _ (by omega)).trans e50'⟩, (hj2 _ (by omega)).trans ((hj1 _ (by omega)).trans e4), ⟨(hj2 _ (by omega)).trans ((hj1 _ (by omega)).trans hst.1), (hj2 _ (by omega)).trans ((hj1 _ (by omega)).trans hst.2.1), (hj2 _ (by omega)).trans ((hj1 _ (by omega)).trans hst.2.2.1), (hj2 _ (by omega)).trans ((hj1 _ (by omega)).trans hst.2.2.2)⟩, hn2.trans (hn1.trans hN1), hsI, hN2⟩ (show k + 2 ≤ k + 10 by omega) (show n + 12 ≤ n + 100 by omega) rfl
    · have hk0 : kk = 0 := by omega
      have hxv : x = v := hx hk0
      have hvi := hv hk0
      have hf1 : f1 0 = v := hv1 hk0
      refine J.ald_n dL_law_599 rfl ?_
      refine J.iconst dL_law_600 ?_
      refine J.laldD 0 dL_law_601 ((hj2 _ (by omega)).trans e49') rfl (by omega) (by omega) ?_
      rw [hf1]
      refine J.ild dL_law_602 rfl ?_
      refine J.i2l dL_law_604 (by rw [hxv]; exact hvi) ?_
      rw [hxv]
      refine J.lcmp dL_law_605 ?_
      rw [lg_selfI]
      refine J.if_eq dL_law_606 (by decide) (tgt := 611) (by unfold inI; omega) (fun w3 => ?_) (fun w3 => ?_)
      · refine J.goto dL_law_611 (by decide) (tgt := 1636) ?_
        exact hk σ2 _ _ _ _ _ ⟨⟨kk, _, _, _, _, _, _, _, _, _, _, _, _, _, _, _, hC1.keep (fun j hj => hj2 j (Or.inl hj)), hM2, hI'⟩, ⟨f1, (hj2 _ (by omega)).trans e49'⟩, ⟨g1, (hj2 _ (by omega)).trans e50'⟩, (hj2 _ (by omega)).trans ((hj1 _ (by omega)).trans e4), ⟨(hj2 _ (by omega)).trans ((hj1 _ (by omega)).trans hst.1), (hj2 _ (by omega)).trans ((hj1 _ (by omega)).trans hst.2.1), (hj2 _ (by omega)).trans ((hj1 _ (by omega)).trans hst.2.2.1), (hj2 _ (by omega)).trans ((hj1 _ (by omega)).trans hst.2.2.2)⟩, hn2.trans (hn1.trans hN1), hsI, hN2⟩ (show k + 2 ≤ k + 10 by omega) (show n + 12 ≤ n + 100 by omega) rfl
      · exact absurd rfl w3
  · exact absurd rfl w1
set_option maxRecDepth 20000 in
theorem law_define {X : jX} {σ : jS} {nm : String} {hh : List (Nat × Nat × Nat × Nat)} {s : Nat → Int} {N : Nat} {lu du : Nat → Int} {i k n : Nat} {u6 u7 u8 : Value} {Q : jOut → jS → Prop} (hL : LI s N lu du σ) (hi : i + 4 ≤ N) (hkb : k ≤ 500000) (hnb : n ≤ 5000000) (hu6 : u6.category = 1) (hk : ∀ (σ' : jS) (k' n' : Nat) (v6 v7 v8 : Value), LI s N lu du σ' → k' ≤ k + 10 → n' ≤ n + 100 → v6.category = 1 → J X (mLw nm hh) rL_law 1636 [.ref 4, .ref 5, .ref 37, .ref 49, .ref 50, vI ((i : Nat) : Int), v6, v7, v8] [] k' n' σ' Q) : J X (mLw nm hh) rL_law 614 [.ref 4, .ref 5, .ref 37, .ref 49, .ref 50, vI ((i : Nat) : Int), u6, u7, u8] [] k n σ Q := by
  obtain ⟨⟨th, pr, ln, lw, bn, cd, sz, ph, mn, mg, kn, kr, ks, kt, rd, rg, hW, hM, hI⟩, ⟨f0, e49⟩, ⟨g0, e50⟩, e4, hst, hN1, hsI, hN2⟩ := id hL
  obtain ⟨kk, v, pr', ln', lw', bn', cd', sz', ph', mn', mg', kn', kr', ks', kt', rd', rg', hJ1, hJ2, hI', hk3, hv⟩ := op_define hW hI e49 e50 (s (i + 1))  (s (i + 2))  (hsI _) (hsI _)
  have hki3 : inI kk := by unfold inI; omega
  refine J.ald_n dL_law_614 rfl ?_
  refine J.ald_n dL_law_615 rfl ?_
  refine J.ild dL_law_616 rfl ?_
  refine J.iconst dL_law_618 ?_
  refine J.iadd dL_law_619 ?_
  rw [show (((i : Nat) : Int) : Int) + 1 = ((i + 1 : Nat) : Int) from by push_cast; rfl]
  refine J.iald (i + 1) dL_law_620 e4 rfl (by omega) (by omega) ?_
  refine J.ald_n dL_law_621 rfl ?_
  refine J.ild dL_law_622 rfl ?_
  refine J.iconst dL_law_624 ?_
  refine J.iadd dL_law_625 ?_
  rw [show (((i : Nat) : Int) : Int) + 2 = ((i + 2 : Nat) : Int) from by push_cast; rfl]
  refine J.iald (i + 2) dL_law_626 e4 rfl (by omega) (by omega) ?_
  refine J.ald_n dL_law_627 rfl ?_
  refine J.callSX (rm' := rL_define) [.ref 5, vI (s (i + 1)), vI (s (i + 2)), .ref 49] dL_law_628 (hJ1) st_L_define ml_L_127 sm_L_define rfl (Nat.le_of_ble_eq_true rfl) (by decide) (by decide) (Nat.le_of_ble_eq_true rfl) (Nat.le_trans (Nat.add_le_add_right hkb _) (by decide)) (Nat.le_trans (Nat.add_le_add_right hnb _) (by decide)) (fun E9 σ9 hq9 => nomatch hq9.1) (fun r9 σ1 hq9 hle9 => ?_)
  obtain ⟨h9, ⟨f1, e49', hv1⟩, ⟨g1, e50'⟩, hC1, hn1, hj1⟩ := hq9
  cases h9
  clear hle9
  obtain ⟨pa, ps, hO⟩ := hM.1
  refine J.ist dL_law_631 (Nat.le_of_ble_eq_true rfl) (jnc_of rfl rfl) ?_
  refine J.ald_n dL_law_633 rfl ?_
  refine J.ald_n dL_law_634 rfl ?_
  refine J.ild dL_law_635 rfl ?_
  refine J.iconst dL_law_637 ?_
  refine J.iadd dL_law_638 ?_
  rw [show (((i : Nat) : Int) : Int) + 1 = ((i + 1 : Nat) : Int) from by push_cast; rfl]
  refine J.iald (i + 1) dL_law_639 ((hj1 _ (by omega)).trans e4) rfl (by omega) (by omega) ?_
  refine J.ald_n dL_law_640 rfl ?_
  refine J.ild dL_law_641 rfl ?_
  refine J.iconst dL_law_643 ?_
  refine J.iadd dL_law_644 ?_
  rw [show (((i : Nat) : Int) : Int) + 2 = ((i + 2 : Nat) : Int) from by push_cast; rfl]
  refine J.iald (i + 2) dL_law_645 ((hj1 _ (by omega)).trans e4) rfl (by omega) (by omega) ?_
  refine J.callV (rm' := rX7_define) [vI (s (i + 1)), vI (s (i + 2))] dL_law_646 (hJ2 σ1 th (hM.keep (fun j a b => hj1 j (by omega)))) ((hj1 _ (by omega)).trans hO) rfl st_X7_define ml_L_129 im_X7_define se_X7_define rfl (Nat.le_of_ble_eq_true rfl) (by decide) (by decide) (Nat.le_of_ble_eq_true rfl) (Nat.le_trans (Nat.add_le_add_right (Nat.add_le_add_right hkb _) _) (by decide)) (Nat.le_trans (Nat.add_le_add_right (Nat.add_le_add_right hnb _) _) (by decide)) (Or.inr (fun E9 σ9 hq9 => nomatch hq9.1.choose_spec.1)) (fun E9 σ9 hq9 _ => nomatch hq9.1.choose_spec.1) (fun r9 σ2 hq9 hle9 => ?_)
  obtain ⟨⟨x, h9, hx⟩, hM2, hn2, hj2⟩ := hq9
  cases h9
  clear hle9
  obtain ⟨pa2, ps2, hO2⟩ := hM2.1
  refine J.ist dL_law_649 (Nat.le_of_ble_eq_true rfl) (jnc_of rfl rfl) ?_
  refine J.ald_n dL_law_651 rfl ?_
  refine J.callV (rm' := rX7_thrown) [] dL_law_652 (c_X7_thrown hO2) hO2 rfl st_X7_thrown ml_L_96 im_X7_thrown se_X7_thrown rfl (Nat.le_of_ble_eq_true rfl) (by decide) (by decide) (Nat.le_of_ble_eq_true rfl) (Nat.le_trans (Nat.add_le_add_right (Nat.add_le_add_right (Nat.add_le_add_right hkb _) _) _) (by decide)) (Nat.le_trans (Nat.add_le_add_right (Nat.add_le_add_right (Nat.add_le_add_right hnb _) _) _) (by decide)) (Or.inr (fun E9 σ9 hq9 => nomatch hq9.1)) (fun E9 σ9 hq9 _ => nomatch hq9.1) (fun r9 σ9 hq9 hle9 => ?_)
  obtain ⟨h9, h8⟩ := hq9
  rw [h8]
  clear hle9 h8 σ9
  cases h9
  refine J.ild dL_law_655 rfl ?_
  refine J.icmp_eq dL_law_657 (by decide) (tgt := 662) hki3 hki3 (fun w1 => ?_) (fun w1 => ?_)
  · refine J.ild dL_law_662 rfl ?_
    refine J.if_ne dL_law_664 (by decide) (tgt := 679) hki3 (fun w2 => ?_) (fun w2 => ?_)
    · refine J.goto dL_law_679 (by decide) (tgt := 1636) ?_
      exact hk σ2 _ _ _ _ _ ⟨⟨kk, _, _, _, _, _, _, _, _, _, _, _, _, _, _, _, hC1.keep (fun j hj => hj2 j (Or.inl hj)), hM2, hI'⟩, ⟨f1, (hj2 _ (by omega)).trans e49'⟩, ⟨g1, (hj2 _ (by omega)).trans e50'⟩, (hj2 _ (by omega)).trans ((hj1 _ (by omega)).trans e4), ⟨(hj2 _ (by omega)).trans ((hj1 _ (by omega)).trans hst.1), (hj2 _ (by omega)).trans ((hj1 _ (by omega)).trans hst.2.1), (hj2 _ (by omega)).trans ((hj1 _ (by omega)).trans hst.2.2.1), (hj2 _ (by omega)).trans ((hj1 _ (by omega)).trans hst.2.2.2)⟩, hn2.trans (hn1.trans hN1), hsI, hN2⟩ (show k + 3 ≤ k + 10 by omega) (show n + 18 ≤ n + 100 by omega) rfl
    · have hk0 : kk = 0 := by omega
      have hxv : x = v := hx hk0
      have hvi := hv hk0
      have hf1 : f1 0 = v := hv1 hk0
      refine J.ald_n dL_law_667 rfl ?_
      refine J.iconst dL_law_668 ?_
      refine J.laldD 0 dL_law_669 ((hj2 _ (by omega)).trans e49') rfl (by omega) (by omega) ?_
      rw [hf1]
      refine J.ild dL_law_670 rfl ?_
      refine J.i2l dL_law_672 (by rw [hxv]; exact hvi) ?_
      rw [hxv]
      refine J.lcmp dL_law_673 ?_
      rw [lg_selfI]
      refine J.if_eq dL_law_674 (by decide) (tgt := 679) (by unfold inI; omega) (fun w3 => ?_) (fun w3 => ?_)
      · refine J.goto dL_law_679 (by decide) (tgt := 1636) ?_
        exact hk σ2 _ _ _ _ _ ⟨⟨kk, _, _, _, _, _, _, _, _, _, _, _, _, _, _, _, hC1.keep (fun j hj => hj2 j (Or.inl hj)), hM2, hI'⟩, ⟨f1, (hj2 _ (by omega)).trans e49'⟩, ⟨g1, (hj2 _ (by omega)).trans e50'⟩, (hj2 _ (by omega)).trans ((hj1 _ (by omega)).trans e4), ⟨(hj2 _ (by omega)).trans ((hj1 _ (by omega)).trans hst.1), (hj2 _ (by omega)).trans ((hj1 _ (by omega)).trans hst.2.1), (hj2 _ (by omega)).trans ((hj1 _ (by omega)).trans hst.2.2.1), (hj2 _ (by omega)).trans ((hj1 _ (by omega)).trans hst.2.2.2)⟩, hn2.trans (hn1.trans hN1), hsI, hN2⟩ (show k + 3 ≤ k + 10 by omega) (show n + 18 ≤ n + 100 by omega) rfl
      · exact absurd rfl w3
  · exact absurd rfl w1
set_option maxRecDepth 20000 in
theorem law_drop {X : jX} {σ : jS} {nm : String} {hh : List (Nat × Nat × Nat × Nat)} {s : Nat → Int} {N : Nat} {lu du : Nat → Int} {i k n : Nat} {u6 u7 u8 : Value} {Q : jOut → jS → Prop} (hL : LI s N lu du σ) (hi : i + 4 ≤ N) (hkb : k ≤ 500000) (hnb : n ≤ 5000000) (hu6 : u6.category = 1) (hk : ∀ (σ' : jS) (k' n' : Nat) (v6 v7 v8 : Value), LI s N lu du σ' → k' ≤ k + 10 → n' ≤ n + 100 → v6.category = 1 → J X (mLw nm hh) rL_law 1636 [.ref 4, .ref 5, .ref 37, .ref 49, .ref 50, vI ((i : Nat) : Int), v6, v7, v8] [] k' n' σ' Q) : J X (mLw nm hh) rL_law 682 [.ref 4, .ref 5, .ref 37, .ref 49, .ref 50, vI ((i : Nat) : Int), u6, u7, u8] [] k n σ Q := by
  obtain ⟨⟨th, pr, ln, lw, bn, cd, sz, ph, mn, mg, kn, kr, ks, kt, rd, rg, hW, hM, hI⟩, ⟨f0, e49⟩, ⟨g0, e50⟩, e4, hst, hN1, hsI, hN2⟩ := id hL
  obtain ⟨kk, v, pr', ln', lw', bn', cd', sz', ph', mn', mg', kn', kr', ks', kt', rd', rg', hJ1, hJ2, hI', hk3, hv⟩ := op_drop hW hI e49 e50 (s (i + 1))  (s (i + 2))  (hsI _) (hsI _)
  have hki3 : inI kk := by unfold inI; omega
  refine J.ald_n dL_law_682 rfl ?_
  refine J.ald_n dL_law_683 rfl ?_
  refine J.ild dL_law_684 rfl ?_
  refine J.iconst dL_law_686 ?_
  refine J.iadd dL_law_687 ?_
  rw [show (((i : Nat) : Int) : Int) + 1 = ((i + 1 : Nat) : Int) from by push_cast; rfl]
  refine J.iald (i + 1) dL_law_688 e4 rfl (by omega) (by omega) ?_
  refine J.ald_n dL_law_689 rfl ?_
  refine J.ild dL_law_690 rfl ?_
  refine J.iconst dL_law_692 ?_
  refine J.iadd dL_law_693 ?_
  rw [show (((i : Nat) : Int) : Int) + 2 = ((i + 2 : Nat) : Int) from by push_cast; rfl]
  refine J.iald (i + 2) dL_law_694 e4 rfl (by omega) (by omega) ?_
  refine J.ald_n dL_law_695 rfl ?_
  refine J.callSX (rm' := rL_drop) [.ref 5, vI (s (i + 1)), vI (s (i + 2)), .ref 49] dL_law_696 (hJ1) st_L_drop ml_L_130 sm_L_drop rfl (Nat.le_of_ble_eq_true rfl) (by decide) (by decide) (Nat.le_of_ble_eq_true rfl) (Nat.le_trans (Nat.add_le_add_right hkb _) (by decide)) (Nat.le_trans (Nat.add_le_add_right hnb _) (by decide)) (fun E9 σ9 hq9 => nomatch hq9.1) (fun r9 σ1 hq9 hle9 => ?_)
  obtain ⟨h9, ⟨f1, e49', hv1⟩, ⟨g1, e50'⟩, hC1, hn1, hj1⟩ := hq9
  cases h9
  clear hle9
  obtain ⟨pa, ps, hO⟩ := hM.1
  refine J.ist dL_law_699 (Nat.le_of_ble_eq_true rfl) (jnc_of rfl rfl) ?_
  refine J.ald_n dL_law_701 rfl ?_
  refine J.ald_n dL_law_702 rfl ?_
  refine J.ild dL_law_703 rfl ?_
  refine J.iconst dL_law_705 ?_
  refine J.iadd dL_law_706 ?_
  rw [show (((i : Nat) : Int) : Int) + 1 = ((i + 1 : Nat) : Int) from by push_cast; rfl]
  refine J.iald (i + 1) dL_law_707 ((hj1 _ (by omega)).trans e4) rfl (by omega) (by omega) ?_
  refine J.ald_n dL_law_708 rfl ?_
  refine J.ild dL_law_709 rfl ?_
  refine J.iconst dL_law_711 ?_
  refine J.iadd dL_law_712 ?_
  rw [show (((i : Nat) : Int) : Int) + 2 = ((i + 2 : Nat) : Int) from by push_cast; rfl]
  refine J.iald (i + 2) dL_law_713 ((hj1 _ (by omega)).trans e4) rfl (by omega) (by omega) ?_
  refine J.callV (rm' := rX7_drop) [vI (s (i + 1)), vI (s (i + 2))] dL_law_714 (hJ2 σ1 th (hM.keep (fun j a b => hj1 j (by omega)))) ((hj1 _ (by omega)).trans hO) rfl st_X7_drop ml_L_132 im_X7_drop se_X7_drop rfl (Nat.le_of_ble_eq_true rfl) (by decide) (by decide) (Nat.le_of_ble_eq_true rfl) (Nat.le_trans (Nat.add_le_add_right (Nat.add_le_add_right hkb _) _) (by decide)) (Nat.le_trans (Nat.add_le_add_right (Nat.add_le_add_right hnb _) _) (by decide)) (Or.inr (fun E9 σ9 hq9 => nomatch hq9.1.choose_spec.1)) (fun E9 σ9 hq9 _ => nomatch hq9.1.choose_spec.1) (fun r9 σ2 hq9 hle9 => ?_)
  obtain ⟨⟨x, h9, hx⟩, hM2, hn2, hj2⟩ := hq9
  cases h9
  clear hle9
  obtain ⟨pa2, ps2, hO2⟩ := hM2.1
  refine J.ist dL_law_717 (Nat.le_of_ble_eq_true rfl) (jnc_of rfl rfl) ?_
  refine J.ald_n dL_law_719 rfl ?_
  refine J.callV (rm' := rX7_thrown) [] dL_law_720 (c_X7_thrown hO2) hO2 rfl st_X7_thrown ml_L_96 im_X7_thrown se_X7_thrown rfl (Nat.le_of_ble_eq_true rfl) (by decide) (by decide) (Nat.le_of_ble_eq_true rfl) (Nat.le_trans (Nat.add_le_add_right (Nat.add_le_add_right (Nat.add_le_add_right hkb _) _) _) (by decide)) (Nat.le_trans (Nat.add_le_add_right (Nat.add_le_add_right (Nat.add_le_add_right hnb _) _) _) (by decide)) (Or.inr (fun E9 σ9 hq9 => nomatch hq9.1)) (fun E9 σ9 hq9 _ => nomatch hq9.1) (fun r9 σ9 hq9 hle9 => ?_)
  obtain ⟨h9, h8⟩ := hq9
  rw [h8]
  clear hle9 h8 σ9
  cases h9
  refine J.ild dL_law_723 rfl ?_
  refine J.icmp_eq dL_law_725 (by decide) (tgt := 730) hki3 hki3 (fun w1 => ?_) (fun w1 => ?_)
  · refine J.ild dL_law_730 rfl ?_
    refine J.if_ne dL_law_732 (by decide) (tgt := 747) hki3 (fun w2 => ?_) (fun w2 => ?_)
    · refine J.goto dL_law_747 (by decide) (tgt := 1636) ?_
      exact hk σ2 _ _ _ _ _ ⟨⟨kk, _, _, _, _, _, _, _, _, _, _, _, _, _, _, _, hC1.keep (fun j hj => hj2 j (Or.inl hj)), hM2, hI'⟩, ⟨f1, (hj2 _ (by omega)).trans e49'⟩, ⟨g1, (hj2 _ (by omega)).trans e50'⟩, (hj2 _ (by omega)).trans ((hj1 _ (by omega)).trans e4), ⟨(hj2 _ (by omega)).trans ((hj1 _ (by omega)).trans hst.1), (hj2 _ (by omega)).trans ((hj1 _ (by omega)).trans hst.2.1), (hj2 _ (by omega)).trans ((hj1 _ (by omega)).trans hst.2.2.1), (hj2 _ (by omega)).trans ((hj1 _ (by omega)).trans hst.2.2.2)⟩, hn2.trans (hn1.trans hN1), hsI, hN2⟩ (show k + 2 ≤ k + 10 by omega) (show n + 12 ≤ n + 100 by omega) rfl
    · have hk0 : kk = 0 := by omega
      have hxv : x = v := hx hk0
      have hvi := hv hk0
      have hf1 : f1 0 = v := hv1 hk0
      refine J.ald_n dL_law_735 rfl ?_
      refine J.iconst dL_law_736 ?_
      refine J.laldD 0 dL_law_737 ((hj2 _ (by omega)).trans e49') rfl (by omega) (by omega) ?_
      rw [hf1]
      refine J.ild dL_law_738 rfl ?_
      refine J.i2l dL_law_740 (by rw [hxv]; exact hvi) ?_
      rw [hxv]
      refine J.lcmp dL_law_741 ?_
      rw [lg_selfI]
      refine J.if_eq dL_law_742 (by decide) (tgt := 747) (by unfold inI; omega) (fun w3 => ?_) (fun w3 => ?_)
      · refine J.goto dL_law_747 (by decide) (tgt := 1636) ?_
        exact hk σ2 _ _ _ _ _ ⟨⟨kk, _, _, _, _, _, _, _, _, _, _, _, _, _, _, _, hC1.keep (fun j hj => hj2 j (Or.inl hj)), hM2, hI'⟩, ⟨f1, (hj2 _ (by omega)).trans e49'⟩, ⟨g1, (hj2 _ (by omega)).trans e50'⟩, (hj2 _ (by omega)).trans ((hj1 _ (by omega)).trans e4), ⟨(hj2 _ (by omega)).trans ((hj1 _ (by omega)).trans hst.1), (hj2 _ (by omega)).trans ((hj1 _ (by omega)).trans hst.2.1), (hj2 _ (by omega)).trans ((hj1 _ (by omega)).trans hst.2.2.1), (hj2 _ (by omega)).trans ((hj1 _ (by omega)).trans hst.2.2.2)⟩, hn2.trans (hn1.trans hN1), hsI, hN2⟩ (show k + 2 ≤ k + 10 by omega) (show n + 12 ≤ n + 100 by omega) rfl
      · exact absurd rfl w3
  · exact absurd rfl w1
set_option maxRecDepth 20000 in
theorem law_entries {X : jX} {σ : jS} {nm : String} {hh : List (Nat × Nat × Nat × Nat)} {s : Nat → Int} {N : Nat} {lu du : Nat → Int} {i k n : Nat} {u6 u7 u8 : Value} {Q : jOut → jS → Prop} (hL : LI s N lu du σ) (hi : i + 4 ≤ N) (hkb : k ≤ 500000) (hnb : n ≤ 5000000) (hu6 : u6.category = 1) (hk : ∀ (σ' : jS) (k' n' : Nat) (v6 v7 v8 : Value), LI s N lu du σ' → k' ≤ k + 10 → n' ≤ n + 100 → v6.category = 1 → J X (mLw nm hh) rL_law 1636 [.ref 4, .ref 5, .ref 37, .ref 49, .ref 50, vI ((i : Nat) : Int), v6, v7, v8] [] k' n' σ' Q) : J X (mLw nm hh) rL_law 750 [.ref 4, .ref 5, .ref 37, .ref 49, .ref 50, vI ((i : Nat) : Int), u6, u7, u8] [] k n σ Q := by
  obtain ⟨⟨th, pr, ln, lw, bn, cd, sz, ph, mn, mg, kn, kr, ks, kt, rd, rg, hW, hM, hI⟩, ⟨f0, e49⟩, ⟨g0, e50⟩, e4, hst, hN1, hsI, hN2⟩ := id hL
  obtain ⟨kk, v, pr', ln', lw', bn', cd', sz', ph', mn', mg', kn', kr', ks', kt', rd', rg', hJ1, hJ2, hI', hk3, hv⟩ := op_entries hW hI e49 e50 (s (i + 1))  (hsI _)
  have hki3 : inI kk := by unfold inI; omega
  refine J.ald_n dL_law_750 rfl ?_
  refine J.ald_n dL_law_751 rfl ?_
  refine J.ild dL_law_752 rfl ?_
  refine J.iconst dL_law_754 ?_
  refine J.iadd dL_law_755 ?_
  rw [show (((i : Nat) : Int) : Int) + 1 = ((i + 1 : Nat) : Int) from by push_cast; rfl]
  refine J.iald (i + 1) dL_law_756 e4 rfl (by omega) (by omega) ?_
  refine J.ald_n dL_law_757 rfl ?_
  refine J.callSX (rm' := rL_entries) [.ref 5, vI (s (i + 1)), .ref 49] dL_law_758 (hJ1) st_L_entries ml_L_133 sm_L_entries rfl (Nat.le_of_ble_eq_true rfl) (by decide) (by decide) (Nat.le_of_ble_eq_true rfl) (Nat.le_trans (Nat.add_le_add_right hkb _) (by decide)) (Nat.le_trans (Nat.add_le_add_right hnb _) (by decide)) (fun E9 σ9 hq9 => nomatch hq9.1) (fun r9 σ1 hq9 hle9 => ?_)
  obtain ⟨h9, ⟨f1, e49', hv1⟩, ⟨g1, e50'⟩, hC1, hn1, hj1⟩ := hq9
  cases h9
  clear hle9
  obtain ⟨pa, ps, hO⟩ := hM.1
  refine J.ist dL_law_761 (Nat.le_of_ble_eq_true rfl) (jnc_of rfl rfl) ?_
  refine J.ald_n dL_law_763 rfl ?_
  refine J.ald_n dL_law_764 rfl ?_
  refine J.ild dL_law_765 rfl ?_
  refine J.iconst dL_law_767 ?_
  refine J.iadd dL_law_768 ?_
  rw [show (((i : Nat) : Int) : Int) + 1 = ((i + 1 : Nat) : Int) from by push_cast; rfl]
  refine J.iald (i + 1) dL_law_769 ((hj1 _ (by omega)).trans e4) rfl (by omega) (by omega) ?_
  refine J.callV (rm' := rX7_entries) [vI (s (i + 1))] dL_law_770 (hJ2 σ1 th (hM.keep (fun j a b => hj1 j (by omega)))) ((hj1 _ (by omega)).trans hO) rfl st_X7_entries ml_L_135 im_X7_entries se_X7_entries rfl (Nat.le_of_ble_eq_true rfl) (by decide) (by decide) (Nat.le_of_ble_eq_true rfl) (Nat.le_trans (Nat.add_le_add_right (Nat.add_le_add_right hkb _) _) (by decide)) (Nat.le_trans (Nat.add_le_add_right (Nat.add_le_add_right hnb _) _) (by decide)) (Or.inr (fun E9 σ9 hq9 => nomatch hq9.1.choose_spec.1)) (fun E9 σ9 hq9 _ => nomatch hq9.1.choose_spec.1) (fun r9 σ2 hq9 hle9 => ?_)
  obtain ⟨⟨x, h9, hx⟩, hM2, hn2, hj2⟩ := hq9
  cases h9
  clear hle9
  obtain ⟨pa2, ps2, hO2⟩ := hM2.1
  refine J.ist dL_law_773 (Nat.le_of_ble_eq_true rfl) (jnc_of rfl rfl) ?_
  refine J.ald_n dL_law_775 rfl ?_
  refine J.callV (rm' := rX7_thrown) [] dL_law_776 (c_X7_thrown hO2) hO2 rfl st_X7_thrown ml_L_96 im_X7_thrown se_X7_thrown rfl (Nat.le_of_ble_eq_true rfl) (by decide) (by decide) (Nat.le_of_ble_eq_true rfl) (Nat.le_trans (Nat.add_le_add_right (Nat.add_le_add_right (Nat.add_le_add_right hkb _) _) _) (by decide)) (Nat.le_trans (Nat.add_le_add_right (Nat.add_le_add_right (Nat.add_le_add_right hnb _) _) _) (by decide)) (Or.inr (fun E9 σ9 hq9 => nomatch hq9.1)) (fun E9 σ9 hq9 _ => nomatch hq9.1) (fun r9 σ9 hq9 hle9 => ?_)
  obtain ⟨h9, h8⟩ := hq9
  rw [h8]
  clear hle9 h8 σ9
  cases h9
  refine J.ild dL_law_779 rfl ?_
  refine J.icmp_eq dL_law_781 (by decide) (tgt := 786) hki3 hki3 (fun w1 => ?_) (fun w1 => ?_)
  · refine J.ild dL_law_786 rfl ?_
    refine J.if_ne dL_law_788 (by decide) (tgt := 803) hki3 (fun w2 => ?_) (fun w2 => ?_)
    · refine J.goto dL_law_803 (by decide) (tgt := 1636) ?_
      exact hk σ2 _ _ _ _ _ ⟨⟨kk, _, _, _, _, _, _, _, _, _, _, _, _, _, _, _, hC1.keep (fun j hj => hj2 j (Or.inl hj)), hM2, hI'⟩, ⟨f1, (hj2 _ (by omega)).trans e49'⟩, ⟨g1, (hj2 _ (by omega)).trans e50'⟩, (hj2 _ (by omega)).trans ((hj1 _ (by omega)).trans e4), ⟨(hj2 _ (by omega)).trans ((hj1 _ (by omega)).trans hst.1), (hj2 _ (by omega)).trans ((hj1 _ (by omega)).trans hst.2.1), (hj2 _ (by omega)).trans ((hj1 _ (by omega)).trans hst.2.2.1), (hj2 _ (by omega)).trans ((hj1 _ (by omega)).trans hst.2.2.2)⟩, hn2.trans (hn1.trans hN1), hsI, hN2⟩ (show k + 1 ≤ k + 10 by omega) (show n + 6 ≤ n + 100 by omega) rfl
    · have hk0 : kk = 0 := by omega
      have hxv : x = v := hx hk0
      have hvi := hv hk0
      have hf1 : f1 0 = v := hv1 hk0
      refine J.ald_n dL_law_791 rfl ?_
      refine J.iconst dL_law_792 ?_
      refine J.laldD 0 dL_law_793 ((hj2 _ (by omega)).trans e49') rfl (by omega) (by omega) ?_
      rw [hf1]
      refine J.ild dL_law_794 rfl ?_
      refine J.i2l dL_law_796 (by rw [hxv]; exact hvi) ?_
      rw [hxv]
      refine J.lcmp dL_law_797 ?_
      rw [lg_selfI]
      refine J.if_eq dL_law_798 (by decide) (tgt := 803) (by unfold inI; omega) (fun w3 => ?_) (fun w3 => ?_)
      · refine J.goto dL_law_803 (by decide) (tgt := 1636) ?_
        exact hk σ2 _ _ _ _ _ ⟨⟨kk, _, _, _, _, _, _, _, _, _, _, _, _, _, _, _, hC1.keep (fun j hj => hj2 j (Or.inl hj)), hM2, hI'⟩, ⟨f1, (hj2 _ (by omega)).trans e49'⟩, ⟨g1, (hj2 _ (by omega)).trans e50'⟩, (hj2 _ (by omega)).trans ((hj1 _ (by omega)).trans e4), ⟨(hj2 _ (by omega)).trans ((hj1 _ (by omega)).trans hst.1), (hj2 _ (by omega)).trans ((hj1 _ (by omega)).trans hst.2.1), (hj2 _ (by omega)).trans ((hj1 _ (by omega)).trans hst.2.2.1), (hj2 _ (by omega)).trans ((hj1 _ (by omega)).trans hst.2.2.2)⟩, hn2.trans (hn1.trans hN1), hsI, hN2⟩ (show k + 1 ≤ k + 10 by omega) (show n + 6 ≤ n + 100 by omega) rfl
      · exact absurd rfl w3
  · exact absurd rfl w1
set_option maxRecDepth 20000 in
theorem law_entry {X : jX} {σ : jS} {nm : String} {hh : List (Nat × Nat × Nat × Nat)} {s : Nat → Int} {N : Nat} {lu du : Nat → Int} {i k n : Nat} {u6 u7 u8 : Value} {Q : jOut → jS → Prop} (hL : LI s N lu du σ) (hi : i + 4 ≤ N) (hkb : k ≤ 500000) (hnb : n ≤ 5000000) (hu6 : u6.category = 1) (hk : ∀ (σ' : jS) (k' n' : Nat) (v6 v7 v8 : Value), LI s N lu du σ' → k' ≤ k + 10 → n' ≤ n + 100 → v6.category = 1 → J X (mLw nm hh) rL_law 1636 [.ref 4, .ref 5, .ref 37, .ref 49, .ref 50, vI ((i : Nat) : Int), v6, v7, v8] [] k' n' σ' Q) : J X (mLw nm hh) rL_law 806 [.ref 4, .ref 5, .ref 37, .ref 49, .ref 50, vI ((i : Nat) : Int), u6, u7, u8] [] k n σ Q := by
  obtain ⟨⟨th, pr, ln, lw, bn, cd, sz, ph, mn, mg, kn, kr, ks, kt, rd, rg, hW, hM, hI⟩, ⟨f0, e49⟩, ⟨g0, e50⟩, e4, hst, hN1, hsI, hN2⟩ := id hL
  obtain ⟨kk, v, pr', ln', lw', bn', cd', sz', ph', mn', mg', kn', kr', ks', kt', rd', rg', hJ1, hJ2, hI', hk3, hv⟩ := op_entry hW hI e49 e50 (s (i + 1))  (s (i + 2))  (s (i + 3))  (hsI _) (hsI _) (hsI _)
  have hki3 : inI kk := by unfold inI; omega
  refine J.ald_n dL_law_806 rfl ?_
  refine J.ald_n dL_law_807 rfl ?_
  refine J.ild dL_law_808 rfl ?_
  refine J.iconst dL_law_810 ?_
  refine J.iadd dL_law_811 ?_
  rw [show (((i : Nat) : Int) : Int) + 1 = ((i + 1 : Nat) : Int) from by push_cast; rfl]
  refine J.iald (i + 1) dL_law_812 e4 rfl (by omega) (by omega) ?_
  refine J.ald_n dL_law_813 rfl ?_
  refine J.ild dL_law_814 rfl ?_
  refine J.iconst dL_law_816 ?_
  refine J.iadd dL_law_817 ?_
  rw [show (((i : Nat) : Int) : Int) + 2 = ((i + 2 : Nat) : Int) from by push_cast; rfl]
  refine J.iald (i + 2) dL_law_818 e4 rfl (by omega) (by omega) ?_
  refine J.ald_n dL_law_819 rfl ?_
  refine J.ild dL_law_820 rfl ?_
  refine J.iconst dL_law_822 ?_
  refine J.iadd dL_law_823 ?_
  rw [show (((i : Nat) : Int) : Int) + 3 = ((i + 3 : Nat) : Int) from by push_cast; rfl]
  refine J.iald (i + 3) dL_law_824 e4 rfl (by omega) (by omega) ?_
  refine J.ald_n dL_law_825 rfl ?_
  refine J.callSX (rm' := rL_entry) [.ref 5, vI (s (i + 1)), vI (s (i + 2)), vI (s (i + 3)), .ref 49] dL_law_826 (hJ1) st_L_entry ml_L_136 sm_L_entry rfl (Nat.le_of_ble_eq_true rfl) (by decide) (by decide) (Nat.le_of_ble_eq_true rfl) (Nat.le_trans (Nat.add_le_add_right hkb _) (by decide)) (Nat.le_trans (Nat.add_le_add_right hnb _) (by decide)) (fun E9 σ9 hq9 => nomatch hq9.1) (fun r9 σ1 hq9 hle9 => ?_)
  obtain ⟨h9, ⟨f1, e49', hv1⟩, ⟨g1, e50'⟩, hC1, hn1, hj1⟩ := hq9
  cases h9
  clear hle9
  obtain ⟨pa, ps, hO⟩ := hM.1
  refine J.ist dL_law_829 (Nat.le_of_ble_eq_true rfl) (jnc_of rfl rfl) ?_
  refine J.ald_n dL_law_831 rfl ?_
  refine J.ald_n dL_law_832 rfl ?_
  refine J.ild dL_law_833 rfl ?_
  refine J.iconst dL_law_835 ?_
  refine J.iadd dL_law_836 ?_
  rw [show (((i : Nat) : Int) : Int) + 1 = ((i + 1 : Nat) : Int) from by push_cast; rfl]
  refine J.iald (i + 1) dL_law_837 ((hj1 _ (by omega)).trans e4) rfl (by omega) (by omega) ?_
  refine J.ald_n dL_law_838 rfl ?_
  refine J.ild dL_law_839 rfl ?_
  refine J.iconst dL_law_841 ?_
  refine J.iadd dL_law_842 ?_
  rw [show (((i : Nat) : Int) : Int) + 2 = ((i + 2 : Nat) : Int) from by push_cast; rfl]
  refine J.iald (i + 2) dL_law_843 ((hj1 _ (by omega)).trans e4) rfl (by omega) (by omega) ?_
  refine J.ald_n dL_law_844 rfl ?_
  refine J.ild dL_law_845 rfl ?_
  refine J.iconst dL_law_847 ?_
  refine J.iadd dL_law_848 ?_
  rw [show (((i : Nat) : Int) : Int) + 3 = ((i + 3 : Nat) : Int) from by push_cast; rfl]
  refine J.iald (i + 3) dL_law_849 ((hj1 _ (by omega)).trans e4) rfl (by omega) (by omega) ?_
  refine J.callV (rm' := rX7_entry) [vI (s (i + 1)), vI (s (i + 2)), vI (s (i + 3))] dL_law_850 (hJ2 σ1 th (hM.keep (fun j a b => hj1 j (by omega)))) ((hj1 _ (by omega)).trans hO) rfl st_X7_entry ml_L_139 im_X7_entry se_X7_entry rfl (Nat.le_of_ble_eq_true rfl) (by decide) (by decide) (Nat.le_of_ble_eq_true rfl) (Nat.le_trans (Nat.add_le_add_right (Nat.add_le_add_right hkb _) _) (by decide)) (Nat.le_trans (Nat.add_le_add_right (Nat.add_le_add_right hnb _) _) (by decide)) (Or.inr (fun E9 σ9 hq9 => nomatch hq9.1.choose_spec.1)) (fun E9 σ9 hq9 _ => nomatch hq9.1.choose_spec.1) (fun r9 σ2 hq9 hle9 => ?_)
  obtain ⟨⟨x, h9, hx⟩, hM2, hn2, hj2⟩ := hq9
  cases h9
  clear hle9
  obtain ⟨pa2, ps2, hO2⟩ := hM2.1
  refine J.ist dL_law_853 (Nat.le_of_ble_eq_true rfl) (jnc_of rfl rfl) ?_
  refine J.ald_n dL_law_855 rfl ?_
  refine J.callV (rm' := rX7_thrown) [] dL_law_856 (c_X7_thrown hO2) hO2 rfl st_X7_thrown ml_L_96 im_X7_thrown se_X7_thrown rfl (Nat.le_of_ble_eq_true rfl) (by decide) (by decide) (Nat.le_of_ble_eq_true rfl) (Nat.le_trans (Nat.add_le_add_right (Nat.add_le_add_right (Nat.add_le_add_right hkb _) _) _) (by decide)) (Nat.le_trans (Nat.add_le_add_right (Nat.add_le_add_right (Nat.add_le_add_right hnb _) _) _) (by decide)) (Or.inr (fun E9 σ9 hq9 => nomatch hq9.1)) (fun E9 σ9 hq9 _ => nomatch hq9.1) (fun r9 σ9 hq9 hle9 => ?_)
  obtain ⟨h9, h8⟩ := hq9
  rw [h8]
  clear hle9 h8 σ9
  cases h9
  refine J.ild dL_law_859 rfl ?_
  refine J.icmp_eq dL_law_861 (by decide) (tgt := 866) hki3 hki3 (fun w1 => ?_) (fun w1 => ?_)
  · refine J.ild dL_law_866 rfl ?_
    refine J.if_ne dL_law_868 (by decide) (tgt := 883) hki3 (fun w2 => ?_) (fun w2 => ?_)
    · refine J.goto dL_law_883 (by decide) (tgt := 1636) ?_
      exact hk σ2 _ _ _ _ _ ⟨⟨kk, _, _, _, _, _, _, _, _, _, _, _, _, _, _, _, hC1.keep (fun j hj => hj2 j (Or.inl hj)), hM2, hI'⟩, ⟨f1, (hj2 _ (by omega)).trans e49'⟩, ⟨g1, (hj2 _ (by omega)).trans e50'⟩, (hj2 _ (by omega)).trans ((hj1 _ (by omega)).trans e4), ⟨(hj2 _ (by omega)).trans ((hj1 _ (by omega)).trans hst.1), (hj2 _ (by omega)).trans ((hj1 _ (by omega)).trans hst.2.1), (hj2 _ (by omega)).trans ((hj1 _ (by omega)).trans hst.2.2.1), (hj2 _ (by omega)).trans ((hj1 _ (by omega)).trans hst.2.2.2)⟩, hn2.trans (hn1.trans hN1), hsI, hN2⟩ (show k + 3 ≤ k + 10 by omega) (show n + 18 ≤ n + 100 by omega) rfl
    · have hk0 : kk = 0 := by omega
      have hxv : x = v := hx hk0
      have hvi := hv hk0
      have hf1 : f1 0 = v := hv1 hk0
      refine J.ald_n dL_law_871 rfl ?_
      refine J.iconst dL_law_872 ?_
      refine J.laldD 0 dL_law_873 ((hj2 _ (by omega)).trans e49') rfl (by omega) (by omega) ?_
      rw [hf1]
      refine J.ild dL_law_874 rfl ?_
      refine J.i2l dL_law_876 (by rw [hxv]; exact hvi) ?_
      rw [hxv]
      refine J.lcmp dL_law_877 ?_
      rw [lg_selfI]
      refine J.if_eq dL_law_878 (by decide) (tgt := 883) (by unfold inI; omega) (fun w3 => ?_) (fun w3 => ?_)
      · refine J.goto dL_law_883 (by decide) (tgt := 1636) ?_
        exact hk σ2 _ _ _ _ _ ⟨⟨kk, _, _, _, _, _, _, _, _, _, _, _, _, _, _, _, hC1.keep (fun j hj => hj2 j (Or.inl hj)), hM2, hI'⟩, ⟨f1, (hj2 _ (by omega)).trans e49'⟩, ⟨g1, (hj2 _ (by omega)).trans e50'⟩, (hj2 _ (by omega)).trans ((hj1 _ (by omega)).trans e4), ⟨(hj2 _ (by omega)).trans ((hj1 _ (by omega)).trans hst.1), (hj2 _ (by omega)).trans ((hj1 _ (by omega)).trans hst.2.1), (hj2 _ (by omega)).trans ((hj1 _ (by omega)).trans hst.2.2.1), (hj2 _ (by omega)).trans ((hj1 _ (by omega)).trans hst.2.2.2)⟩, hn2.trans (hn1.trans hN1), hsI, hN2⟩ (show k + 3 ≤ k + 10 by omega) (show n + 18 ≤ n + 100 by omega) rfl
      · exact absurd rfl w3
  · exact absurd rfl w1
set_option maxRecDepth 20000 in
theorem law_find {X : jX} {σ : jS} {nm : String} {hh : List (Nat × Nat × Nat × Nat)} {s : Nat → Int} {N : Nat} {lu du : Nat → Int} {i k n : Nat} {u6 u7 u8 : Value} {Q : jOut → jS → Prop} (hL : LI s N lu du σ) (hi : i + 4 ≤ N) (hkb : k ≤ 500000) (hnb : n ≤ 5000000) (hu6 : u6.category = 1) (hk : ∀ (σ' : jS) (k' n' : Nat) (v6 v7 v8 : Value), LI s N lu du σ' → k' ≤ k + 10 → n' ≤ n + 100 → v6.category = 1 → J X (mLw nm hh) rL_law 1636 [.ref 4, .ref 5, .ref 37, .ref 49, .ref 50, vI ((i : Nat) : Int), v6, v7, v8] [] k' n' σ' Q) : J X (mLw nm hh) rL_law 886 [.ref 4, .ref 5, .ref 37, .ref 49, .ref 50, vI ((i : Nat) : Int), u6, u7, u8] [] k n σ Q := by
  obtain ⟨⟨th, pr, ln, lw, bn, cd, sz, ph, mn, mg, kn, kr, ks, kt, rd, rg, hW, hM, hI⟩, ⟨f0, e49⟩, ⟨g0, e50⟩, e4, hst, hN1, hsI, hN2⟩ := id hL
  obtain ⟨kk, v, pr', ln', lw', bn', cd', sz', ph', mn', mg', kn', kr', ks', kt', rd', rg', hJ1, hJ2, hI', hk3, hv⟩ := op_find hW hI e49 e50 (s (i + 1))  (s (i + 2))  (hsI _) (hsI _)
  have hki3 : inI kk := by unfold inI; omega
  refine J.ald_n dL_law_886 rfl ?_
  refine J.ald_n dL_law_887 rfl ?_
  refine J.ild dL_law_888 rfl ?_
  refine J.iconst dL_law_890 ?_
  refine J.iadd dL_law_891 ?_
  rw [show (((i : Nat) : Int) : Int) + 1 = ((i + 1 : Nat) : Int) from by push_cast; rfl]
  refine J.iald (i + 1) dL_law_892 e4 rfl (by omega) (by omega) ?_
  refine J.ald_n dL_law_893 rfl ?_
  refine J.ild dL_law_894 rfl ?_
  refine J.iconst dL_law_896 ?_
  refine J.iadd dL_law_897 ?_
  rw [show (((i : Nat) : Int) : Int) + 2 = ((i + 2 : Nat) : Int) from by push_cast; rfl]
  refine J.iald (i + 2) dL_law_898 e4 rfl (by omega) (by omega) ?_
  refine J.ald_n dL_law_899 rfl ?_
  refine J.callSX (rm' := rL_find) [.ref 5, vI (s (i + 1)), vI (s (i + 2)), .ref 49] dL_law_900 (hJ1) st_L_find ml_L_140 sm_L_find rfl (Nat.le_of_ble_eq_true rfl) (by decide) (by decide) (Nat.le_of_ble_eq_true rfl) (Nat.le_trans (Nat.add_le_add_right hkb _) (by decide)) (Nat.le_trans (Nat.add_le_add_right hnb _) (by decide)) (fun E9 σ9 hq9 => nomatch hq9.1) (fun r9 σ1 hq9 hle9 => ?_)
  obtain ⟨h9, ⟨f1, e49', hv1⟩, ⟨g1, e50'⟩, hC1, hn1, hj1⟩ := hq9
  cases h9
  clear hle9
  obtain ⟨pa, ps, hO⟩ := hM.1
  refine J.ist dL_law_903 (Nat.le_of_ble_eq_true rfl) (jnc_of rfl rfl) ?_
  refine J.ald_n dL_law_905 rfl ?_
  refine J.ald_n dL_law_906 rfl ?_
  refine J.ild dL_law_907 rfl ?_
  refine J.iconst dL_law_909 ?_
  refine J.iadd dL_law_910 ?_
  rw [show (((i : Nat) : Int) : Int) + 1 = ((i + 1 : Nat) : Int) from by push_cast; rfl]
  refine J.iald (i + 1) dL_law_911 ((hj1 _ (by omega)).trans e4) rfl (by omega) (by omega) ?_
  refine J.ald_n dL_law_912 rfl ?_
  refine J.ild dL_law_913 rfl ?_
  refine J.iconst dL_law_915 ?_
  refine J.iadd dL_law_916 ?_
  rw [show (((i : Nat) : Int) : Int) + 2 = ((i + 2 : Nat) : Int) from by push_cast; rfl]
  refine J.iald (i + 2) dL_law_917 ((hj1 _ (by omega)).trans e4) rfl (by omega) (by omega) ?_
  refine J.callV (rm' := rX7_find) [vI (s (i + 1)), vI (s (i + 2))] dL_law_918 (hJ2 σ1 th (hM.keep (fun j a b => hj1 j (by omega)))) ((hj1 _ (by omega)).trans hO) rfl st_X7_find ml_L_142 im_X7_find se_X7_find rfl (Nat.le_of_ble_eq_true rfl) (by decide) (by decide) (Nat.le_of_ble_eq_true rfl) (Nat.le_trans (Nat.add_le_add_right (Nat.add_le_add_right hkb _) _) (by decide)) (Nat.le_trans (Nat.add_le_add_right (Nat.add_le_add_right hnb _) _) (by decide)) (Or.inr (fun E9 σ9 hq9 => nomatch hq9.1.choose_spec.1)) (fun E9 σ9 hq9 _ => nomatch hq9.1.choose_spec.1) (fun r9 σ2 hq9 hle9 => ?_)
  obtain ⟨⟨x, h9, hx⟩, hM2, hn2, hj2⟩ := hq9
  cases h9
  clear hle9
  obtain ⟨pa2, ps2, hO2⟩ := hM2.1
  refine J.ist dL_law_921 (Nat.le_of_ble_eq_true rfl) (jnc_of rfl rfl) ?_
  refine J.ald_n dL_law_923 rfl ?_
  refine J.callV (rm' := rX7_thrown) [] dL_law_924 (c_X7_thrown hO2) hO2 rfl st_X7_thrown ml_L_96 im_X7_thrown se_X7_thrown rfl (Nat.le_of_ble_eq_true rfl) (by decide) (by decide) (Nat.le_of_ble_eq_true rfl) (Nat.le_trans (Nat.add_le_add_right (Nat.add_le_add_right (Nat.add_le_add_right hkb _) _) _) (by decide)) (Nat.le_trans (Nat.add_le_add_right (Nat.add_le_add_right (Nat.add_le_add_right hnb _) _) _) (by decide)) (Or.inr (fun E9 σ9 hq9 => nomatch hq9.1)) (fun E9 σ9 hq9 _ => nomatch hq9.1) (fun r9 σ9 hq9 hle9 => ?_)
  obtain ⟨h9, h8⟩ := hq9
  rw [h8]
  clear hle9 h8 σ9
  cases h9
  refine J.ild dL_law_927 rfl ?_
  refine J.icmp_eq dL_law_929 (by decide) (tgt := 934) hki3 hki3 (fun w1 => ?_) (fun w1 => ?_)
  · refine J.ild dL_law_934 rfl ?_
    refine J.if_ne dL_law_936 (by decide) (tgt := 951) hki3 (fun w2 => ?_) (fun w2 => ?_)
    · refine J.goto dL_law_951 (by decide) (tgt := 1636) ?_
      exact hk σ2 _ _ _ _ _ ⟨⟨kk, _, _, _, _, _, _, _, _, _, _, _, _, _, _, _, hC1.keep (fun j hj => hj2 j (Or.inl hj)), hM2, hI'⟩, ⟨f1, (hj2 _ (by omega)).trans e49'⟩, ⟨g1, (hj2 _ (by omega)).trans e50'⟩, (hj2 _ (by omega)).trans ((hj1 _ (by omega)).trans e4), ⟨(hj2 _ (by omega)).trans ((hj1 _ (by omega)).trans hst.1), (hj2 _ (by omega)).trans ((hj1 _ (by omega)).trans hst.2.1), (hj2 _ (by omega)).trans ((hj1 _ (by omega)).trans hst.2.2.1), (hj2 _ (by omega)).trans ((hj1 _ (by omega)).trans hst.2.2.2)⟩, hn2.trans (hn1.trans hN1), hsI, hN2⟩ (show k + 2 ≤ k + 10 by omega) (show n + 12 ≤ n + 100 by omega) rfl
    · have hk0 : kk = 0 := by omega
      have hxv : x = v := hx hk0
      have hvi := hv hk0
      have hf1 : f1 0 = v := hv1 hk0
      refine J.ald_n dL_law_939 rfl ?_
      refine J.iconst dL_law_940 ?_
      refine J.laldD 0 dL_law_941 ((hj2 _ (by omega)).trans e49') rfl (by omega) (by omega) ?_
      rw [hf1]
      refine J.ild dL_law_942 rfl ?_
      refine J.i2l dL_law_944 (by rw [hxv]; exact hvi) ?_
      rw [hxv]
      refine J.lcmp dL_law_945 ?_
      rw [lg_selfI]
      refine J.if_eq dL_law_946 (by decide) (tgt := 951) (by unfold inI; omega) (fun w3 => ?_) (fun w3 => ?_)
      · refine J.goto dL_law_951 (by decide) (tgt := 1636) ?_
        exact hk σ2 _ _ _ _ _ ⟨⟨kk, _, _, _, _, _, _, _, _, _, _, _, _, _, _, _, hC1.keep (fun j hj => hj2 j (Or.inl hj)), hM2, hI'⟩, ⟨f1, (hj2 _ (by omega)).trans e49'⟩, ⟨g1, (hj2 _ (by omega)).trans e50'⟩, (hj2 _ (by omega)).trans ((hj1 _ (by omega)).trans e4), ⟨(hj2 _ (by omega)).trans ((hj1 _ (by omega)).trans hst.1), (hj2 _ (by omega)).trans ((hj1 _ (by omega)).trans hst.2.1), (hj2 _ (by omega)).trans ((hj1 _ (by omega)).trans hst.2.2.1), (hj2 _ (by omega)).trans ((hj1 _ (by omega)).trans hst.2.2.2)⟩, hn2.trans (hn1.trans hN1), hsI, hN2⟩ (show k + 2 ≤ k + 10 by omega) (show n + 12 ≤ n + 100 by omega) rfl
      · exact absurd rfl w3
  · exact absurd rfl w1
set_option maxRecDepth 20000 in
theorem law_setPrice {X : jX} {σ : jS} {nm : String} {hh : List (Nat × Nat × Nat × Nat)} {s : Nat → Int} {N : Nat} {lu du : Nat → Int} {i k n : Nat} {u6 u7 u8 : Value} {Q : jOut → jS → Prop} (hL : LI s N lu du σ) (hi : i + 4 ≤ N) (hkb : k ≤ 500000) (hnb : n ≤ 5000000) (hu6 : u6.category = 1) (hk : ∀ (σ' : jS) (k' n' : Nat) (v6 v7 v8 : Value), LI s N lu du σ' → k' ≤ k + 10 → n' ≤ n + 100 → v6.category = 1 → J X (mLw nm hh) rL_law 1636 [.ref 4, .ref 5, .ref 37, .ref 49, .ref 50, vI ((i : Nat) : Int), v6, v7, v8] [] k' n' σ' Q) : J X (mLw nm hh) rL_law 954 [.ref 4, .ref 5, .ref 37, .ref 49, .ref 50, vI ((i : Nat) : Int), u6, u7, u8] [] k n σ Q := by
  obtain ⟨⟨th, pr, ln, lw, bn, cd, sz, ph, mn, mg, kn, kr, ks, kt, rd, rg, hW, hM, hI⟩, ⟨f0, e49⟩, ⟨g0, e50⟩, e4, hst, hN1, hsI, hN2⟩ := id hL
  obtain ⟨kk, v, pr', ln', lw', bn', cd', sz', ph', mn', mg', kn', kr', ks', kt', rd', rg', hJ1, hJ2, hI', hk3, hv⟩ := op_setPrice hW hI e49 e50 (s (i + 1))  (hsI _)
  have hki3 : inI kk := by unfold inI; omega
  refine J.ald_n dL_law_954 rfl ?_
  refine J.ald_n dL_law_955 rfl ?_
  refine J.ild dL_law_956 rfl ?_
  refine J.iconst dL_law_958 ?_
  refine J.iadd dL_law_959 ?_
  rw [show (((i : Nat) : Int) : Int) + 1 = ((i + 1 : Nat) : Int) from by push_cast; rfl]
  refine J.iald (i + 1) dL_law_960 e4 rfl (by omega) (by omega) ?_
  refine J.ald_n dL_law_961 rfl ?_
  refine J.callSX (rm' := rL_setPrice) [.ref 5, vI (s (i + 1)), .ref 49] dL_law_962 (hJ1) st_L_setPrice ml_L_143 sm_L_setPrice rfl (Nat.le_of_ble_eq_true rfl) (by decide) (by decide) (Nat.le_of_ble_eq_true rfl) (Nat.le_trans (Nat.add_le_add_right hkb _) (by decide)) (Nat.le_trans (Nat.add_le_add_right hnb _) (by decide)) (fun E9 σ9 hq9 => nomatch hq9.1) (fun r9 σ1 hq9 hle9 => ?_)
  obtain ⟨h9, ⟨f1, e49', hv1⟩, ⟨g1, e50'⟩, hC1, hn1, hj1⟩ := hq9
  cases h9
  clear hle9
  obtain ⟨pa, ps, hO⟩ := hM.1
  refine J.ist dL_law_965 (Nat.le_of_ble_eq_true rfl) (jnc_of rfl rfl) ?_
  refine J.ald_n dL_law_967 rfl ?_
  refine J.ald_n dL_law_968 rfl ?_
  refine J.ild dL_law_969 rfl ?_
  refine J.iconst dL_law_971 ?_
  refine J.iadd dL_law_972 ?_
  rw [show (((i : Nat) : Int) : Int) + 1 = ((i + 1 : Nat) : Int) from by push_cast; rfl]
  refine J.iald (i + 1) dL_law_973 ((hj1 _ (by omega)).trans e4) rfl (by omega) (by omega) ?_
  refine J.callV (rm' := rX7_setPrice) [vI (s (i + 1))] dL_law_974 (hJ2 σ1 th (hM.keep (fun j a b => hj1 j (by omega)))) ((hj1 _ (by omega)).trans hO) rfl st_X7_setPrice ml_L_145 im_X7_setPrice se_X7_setPrice rfl (Nat.le_of_ble_eq_true rfl) (by decide) (by decide) (Nat.le_of_ble_eq_true rfl) (Nat.le_trans (Nat.add_le_add_right (Nat.add_le_add_right hkb _) _) (by decide)) (Nat.le_trans (Nat.add_le_add_right (Nat.add_le_add_right hnb _) _) (by decide)) (Or.inr (fun E9 σ9 hq9 => nomatch hq9.1.choose_spec.1)) (fun E9 σ9 hq9 _ => nomatch hq9.1.choose_spec.1) (fun r9 σ2 hq9 hle9 => ?_)
  obtain ⟨⟨x, h9, hx⟩, hM2, hn2, hj2⟩ := hq9
  cases h9
  clear hle9
  obtain ⟨pa2, ps2, hO2⟩ := hM2.1
  refine J.ist dL_law_977 (Nat.le_of_ble_eq_true rfl) (jnc_of rfl rfl) ?_
  refine J.ald_n dL_law_979 rfl ?_
  refine J.callV (rm' := rX7_thrown) [] dL_law_980 (c_X7_thrown hO2) hO2 rfl st_X7_thrown ml_L_96 im_X7_thrown se_X7_thrown rfl (Nat.le_of_ble_eq_true rfl) (by decide) (by decide) (Nat.le_of_ble_eq_true rfl) (Nat.le_trans (Nat.add_le_add_right (Nat.add_le_add_right (Nat.add_le_add_right hkb _) _) _) (by decide)) (Nat.le_trans (Nat.add_le_add_right (Nat.add_le_add_right (Nat.add_le_add_right hnb _) _) _) (by decide)) (Or.inr (fun E9 σ9 hq9 => nomatch hq9.1)) (fun E9 σ9 hq9 _ => nomatch hq9.1) (fun r9 σ9 hq9 hle9 => ?_)
  obtain ⟨h9, h8⟩ := hq9
  rw [h8]
  clear hle9 h8 σ9
  cases h9
  refine J.ild dL_law_983 rfl ?_
  refine J.icmp_eq dL_law_985 (by decide) (tgt := 990) hki3 hki3 (fun w1 => ?_) (fun w1 => ?_)
  · refine J.ild dL_law_990 rfl ?_
    refine J.if_ne dL_law_992 (by decide) (tgt := 1007) hki3 (fun w2 => ?_) (fun w2 => ?_)
    · refine J.goto dL_law_1007 (by decide) (tgt := 1636) ?_
      exact hk σ2 _ _ _ _ _ ⟨⟨kk, _, _, _, _, _, _, _, _, _, _, _, _, _, _, _, hC1.keep (fun j hj => hj2 j (Or.inl hj)), hM2, hI'⟩, ⟨f1, (hj2 _ (by omega)).trans e49'⟩, ⟨g1, (hj2 _ (by omega)).trans e50'⟩, (hj2 _ (by omega)).trans ((hj1 _ (by omega)).trans e4), ⟨(hj2 _ (by omega)).trans ((hj1 _ (by omega)).trans hst.1), (hj2 _ (by omega)).trans ((hj1 _ (by omega)).trans hst.2.1), (hj2 _ (by omega)).trans ((hj1 _ (by omega)).trans hst.2.2.1), (hj2 _ (by omega)).trans ((hj1 _ (by omega)).trans hst.2.2.2)⟩, hn2.trans (hn1.trans hN1), hsI, hN2⟩ (show k + 1 ≤ k + 10 by omega) (show n + 6 ≤ n + 100 by omega) rfl
    · have hk0 : kk = 0 := by omega
      have hxv : x = v := hx hk0
      have hvi := hv hk0
      have hf1 : f1 0 = v := hv1 hk0
      refine J.ald_n dL_law_995 rfl ?_
      refine J.iconst dL_law_996 ?_
      refine J.laldD 0 dL_law_997 ((hj2 _ (by omega)).trans e49') rfl (by omega) (by omega) ?_
      rw [hf1]
      refine J.ild dL_law_998 rfl ?_
      refine J.i2l dL_law_1000 (by rw [hxv]; exact hvi) ?_
      rw [hxv]
      refine J.lcmp dL_law_1001 ?_
      rw [lg_selfI]
      refine J.if_eq dL_law_1002 (by decide) (tgt := 1007) (by unfold inI; omega) (fun w3 => ?_) (fun w3 => ?_)
      · refine J.goto dL_law_1007 (by decide) (tgt := 1636) ?_
        exact hk σ2 _ _ _ _ _ ⟨⟨kk, _, _, _, _, _, _, _, _, _, _, _, _, _, _, _, hC1.keep (fun j hj => hj2 j (Or.inl hj)), hM2, hI'⟩, ⟨f1, (hj2 _ (by omega)).trans e49'⟩, ⟨g1, (hj2 _ (by omega)).trans e50'⟩, (hj2 _ (by omega)).trans ((hj1 _ (by omega)).trans e4), ⟨(hj2 _ (by omega)).trans ((hj1 _ (by omega)).trans hst.1), (hj2 _ (by omega)).trans ((hj1 _ (by omega)).trans hst.2.1), (hj2 _ (by omega)).trans ((hj1 _ (by omega)).trans hst.2.2.1), (hj2 _ (by omega)).trans ((hj1 _ (by omega)).trans hst.2.2.2)⟩, hn2.trans (hn1.trans hN1), hsI, hN2⟩ (show k + 1 ≤ k + 10 by omega) (show n + 6 ≤ n + 100 by omega) rfl
      · exact absurd rfl w3
  · exact absurd rfl w1
set_option maxRecDepth 20000 in
theorem law_encode {X : jX} {σ : jS} {nm : String} {hh : List (Nat × Nat × Nat × Nat)} {s : Nat → Int} {N : Nat} {lu du : Nat → Int} {i k n : Nat} {u6 u7 u8 : Value} {Q : jOut → jS → Prop} (hL : LI s N lu du σ) (hi : i + 4 ≤ N) (hkb : k ≤ 500000) (hnb : n ≤ 5000000) (hu6 : u6.category = 1) (hk : ∀ (σ' : jS) (k' n' : Nat) (v6 v7 v8 : Value), LI s N lu du σ' → k' ≤ k + 10 → n' ≤ n + 100 → v6.category = 1 → J X (mLw nm hh) rL_law 1636 [.ref 4, .ref 5, .ref 37, .ref 49, .ref 50, vI ((i : Nat) : Int), v6, v7, v8] [] k' n' σ' Q) : J X (mLw nm hh) rL_law 1010 [.ref 4, .ref 5, .ref 37, .ref 49, .ref 50, vI ((i : Nat) : Int), u6, u7, u8] [] k n σ Q := by
  obtain ⟨⟨th, pr, ln, lw, bn, cd, sz, ph, mn, mg, kn, kr, ks, kt, rd, rg, hW, hM, hI⟩, ⟨f0, e49⟩, ⟨g0, e50⟩, e4, hst, hN1, hsI, hN2⟩ := id hL
  obtain ⟨kk, v, pr', ln', lw', bn', cd', sz', ph', mn', mg', kn', kr', ks', kt', rd', rg', hJ1, hJ2, hI', hk3, hv⟩ := op_encode hW hI e49 e50 (s (i + 1))  (hsI _)
  have hki3 : inI kk := by unfold inI; omega
  refine J.ald_n dL_law_1010 rfl ?_
  refine J.ald_n dL_law_1011 rfl ?_
  refine J.ild dL_law_1012 rfl ?_
  refine J.iconst dL_law_1014 ?_
  refine J.iadd dL_law_1015 ?_
  rw [show (((i : Nat) : Int) : Int) + 1 = ((i + 1 : Nat) : Int) from by push_cast; rfl]
  refine J.iald (i + 1) dL_law_1016 e4 rfl (by omega) (by omega) ?_
  refine J.ald_n dL_law_1017 rfl ?_
  refine J.callSX (rm' := rL_encode) [.ref 5, vI (s (i + 1)), .ref 49] dL_law_1018 (hJ1) st_L_encode ml_L_146 sm_L_encode rfl (Nat.le_of_ble_eq_true rfl) (by decide) (by decide) (Nat.le_of_ble_eq_true rfl) (Nat.le_trans (Nat.add_le_add_right hkb _) (by decide)) (Nat.le_trans (Nat.add_le_add_right hnb _) (by decide)) (fun E9 σ9 hq9 => nomatch hq9.1) (fun r9 σ1 hq9 hle9 => ?_)
  obtain ⟨h9, ⟨f1, e49', hv1⟩, ⟨g1, e50'⟩, hC1, hn1, hj1⟩ := hq9
  cases h9
  clear hle9
  obtain ⟨pa, ps, hO⟩ := hM.1
  refine J.ist dL_law_1021 (Nat.le_of_ble_eq_true rfl) (jnc_of rfl rfl) ?_
  refine J.ald_n dL_law_1023 rfl ?_
  refine J.ald_n dL_law_1024 rfl ?_
  refine J.ild dL_law_1025 rfl ?_
  refine J.iconst dL_law_1027 ?_
  refine J.iadd dL_law_1028 ?_
  rw [show (((i : Nat) : Int) : Int) + 1 = ((i + 1 : Nat) : Int) from by push_cast; rfl]
  refine J.iald (i + 1) dL_law_1029 ((hj1 _ (by omega)).trans e4) rfl (by omega) (by omega) ?_
  refine J.callV (rm' := rX7_encode) [vI (s (i + 1))] dL_law_1030 (hJ2 σ1 th (hM.keep (fun j a b => hj1 j (by omega)))) ((hj1 _ (by omega)).trans hO) rfl st_X7_encode ml_L_148 im_X7_encode se_X7_encode rfl (Nat.le_of_ble_eq_true rfl) (by decide) (by decide) (Nat.le_of_ble_eq_true rfl) (Nat.le_trans (Nat.add_le_add_right (Nat.add_le_add_right hkb _) _) (by decide)) (Nat.le_trans (Nat.add_le_add_right (Nat.add_le_add_right hnb _) _) (by decide)) (Or.inr (fun E9 σ9 hq9 => nomatch hq9.1.choose_spec.1)) (fun E9 σ9 hq9 _ => nomatch hq9.1.choose_spec.1) (fun r9 σ2 hq9 hle9 => ?_)
  obtain ⟨⟨x, h9, hx⟩, hM2, hn2, hj2⟩ := hq9
  cases h9
  clear hle9
  obtain ⟨pa2, ps2, hO2⟩ := hM2.1
  refine J.ist dL_law_1033 (Nat.le_of_ble_eq_true rfl) (jnc_of rfl rfl) ?_
  refine J.ald_n dL_law_1035 rfl ?_
  refine J.callV (rm' := rX7_thrown) [] dL_law_1036 (c_X7_thrown hO2) hO2 rfl st_X7_thrown ml_L_96 im_X7_thrown se_X7_thrown rfl (Nat.le_of_ble_eq_true rfl) (by decide) (by decide) (Nat.le_of_ble_eq_true rfl) (Nat.le_trans (Nat.add_le_add_right (Nat.add_le_add_right (Nat.add_le_add_right hkb _) _) _) (by decide)) (Nat.le_trans (Nat.add_le_add_right (Nat.add_le_add_right (Nat.add_le_add_right hnb _) _) _) (by decide)) (Or.inr (fun E9 σ9 hq9 => nomatch hq9.1)) (fun E9 σ9 hq9 _ => nomatch hq9.1) (fun r9 σ9 hq9 hle9 => ?_)
  obtain ⟨h9, h8⟩ := hq9
  rw [h8]
  clear hle9 h8 σ9
  cases h9
  refine J.ild dL_law_1039 rfl ?_
  refine J.icmp_eq dL_law_1041 (by decide) (tgt := 1046) hki3 hki3 (fun w1 => ?_) (fun w1 => ?_)
  · refine J.ild dL_law_1046 rfl ?_
    refine J.if_ne dL_law_1048 (by decide) (tgt := 1063) hki3 (fun w2 => ?_) (fun w2 => ?_)
    · refine J.goto dL_law_1063 (by decide) (tgt := 1636) ?_
      exact hk σ2 _ _ _ _ _ ⟨⟨kk, _, _, _, _, _, _, _, _, _, _, _, _, _, _, _, hC1.keep (fun j hj => hj2 j (Or.inl hj)), hM2, hI'⟩, ⟨f1, (hj2 _ (by omega)).trans e49'⟩, ⟨g1, (hj2 _ (by omega)).trans e50'⟩, (hj2 _ (by omega)).trans ((hj1 _ (by omega)).trans e4), ⟨(hj2 _ (by omega)).trans ((hj1 _ (by omega)).trans hst.1), (hj2 _ (by omega)).trans ((hj1 _ (by omega)).trans hst.2.1), (hj2 _ (by omega)).trans ((hj1 _ (by omega)).trans hst.2.2.1), (hj2 _ (by omega)).trans ((hj1 _ (by omega)).trans hst.2.2.2)⟩, hn2.trans (hn1.trans hN1), hsI, hN2⟩ (show k + 1 ≤ k + 10 by omega) (show n + 6 ≤ n + 100 by omega) rfl
    · have hk0 : kk = 0 := by omega
      have hxv : x = v := hx hk0
      have hvi := hv hk0
      have hf1 : f1 0 = v := hv1 hk0
      refine J.ald_n dL_law_1051 rfl ?_
      refine J.iconst dL_law_1052 ?_
      refine J.laldD 0 dL_law_1053 ((hj2 _ (by omega)).trans e49') rfl (by omega) (by omega) ?_
      rw [hf1]
      refine J.ild dL_law_1054 rfl ?_
      refine J.i2l dL_law_1056 (by rw [hxv]; exact hvi) ?_
      rw [hxv]
      refine J.lcmp dL_law_1057 ?_
      rw [lg_selfI]
      refine J.if_eq dL_law_1058 (by decide) (tgt := 1063) (by unfold inI; omega) (fun w3 => ?_) (fun w3 => ?_)
      · refine J.goto dL_law_1063 (by decide) (tgt := 1636) ?_
        exact hk σ2 _ _ _ _ _ ⟨⟨kk, _, _, _, _, _, _, _, _, _, _, _, _, _, _, _, hC1.keep (fun j hj => hj2 j (Or.inl hj)), hM2, hI'⟩, ⟨f1, (hj2 _ (by omega)).trans e49'⟩, ⟨g1, (hj2 _ (by omega)).trans e50'⟩, (hj2 _ (by omega)).trans ((hj1 _ (by omega)).trans e4), ⟨(hj2 _ (by omega)).trans ((hj1 _ (by omega)).trans hst.1), (hj2 _ (by omega)).trans ((hj1 _ (by omega)).trans hst.2.1), (hj2 _ (by omega)).trans ((hj1 _ (by omega)).trans hst.2.2.1), (hj2 _ (by omega)).trans ((hj1 _ (by omega)).trans hst.2.2.2)⟩, hn2.trans (hn1.trans hN1), hsI, hN2⟩ (show k + 1 ≤ k + 10 by omega) (show n + 6 ≤ n + 100 by omega) rfl
      · exact absurd rfl w3
  · exact absurd rfl w1
set_option maxRecDepth 20000 in
theorem law_group {X : jX} {σ : jS} {nm : String} {hh : List (Nat × Nat × Nat × Nat)} {s : Nat → Int} {N : Nat} {lu du : Nat → Int} {i k n : Nat} {u6 u7 u8 : Value} {Q : jOut → jS → Prop} (hL : LI s N lu du σ) (hi : i + 4 ≤ N) (hkb : k ≤ 500000) (hnb : n ≤ 5000000) (hu6 : u6.category = 1) (hk : ∀ (σ' : jS) (k' n' : Nat) (v6 v7 v8 : Value), LI s N lu du σ' → k' ≤ k + 10 → n' ≤ n + 100 → v6.category = 1 → J X (mLw nm hh) rL_law 1636 [.ref 4, .ref 5, .ref 37, .ref 49, .ref 50, vI ((i : Nat) : Int), v6, v7, v8] [] k' n' σ' Q) : J X (mLw nm hh) rL_law 1079 [.ref 4, .ref 5, .ref 37, .ref 49, .ref 50, vI ((i : Nat) : Int), u6, u7, u8] [] k n σ Q := by
  obtain ⟨⟨th, pr, ln, lw, bn, cd, sz, ph, mn, mg, kn, kr, ks, kt, rd, rg, hW, hM, hI⟩, ⟨f0, e49⟩, ⟨g0, e50⟩, e4, hst, hN1, hsI, hN2⟩ := id hL
  obtain ⟨kk, v, pr', ln', lw', bn', cd', sz', ph', mn', mg', kn', kr', ks', kt', rd', rg', hJ1, hJ2, hI', hk3, hv⟩ := op_group hW hI e49 e50 (s (i + 1))  (hsI _)
  have hki3 : inI kk := by unfold inI; omega
  refine J.ald_n dL_law_1079 rfl ?_
  refine J.ald_n dL_law_1080 rfl ?_
  refine J.ild dL_law_1081 rfl ?_
  refine J.iconst dL_law_1083 ?_
  refine J.iadd dL_law_1084 ?_
  rw [show (((i : Nat) : Int) : Int) + 1 = ((i + 1 : Nat) : Int) from by push_cast; rfl]
  refine J.iald (i + 1) dL_law_1085 e4 rfl (by omega) (by omega) ?_
  refine J.ald_n dL_law_1086 rfl ?_
  refine J.callSX (rm' := rL_group) [.ref 5, vI (s (i + 1)), .ref 49] dL_law_1087 (hJ1) st_L_group ml_L_153 sm_L_group rfl (Nat.le_of_ble_eq_true rfl) (by decide) (by decide) (Nat.le_of_ble_eq_true rfl) (Nat.le_trans (Nat.add_le_add_right hkb _) (by decide)) (Nat.le_trans (Nat.add_le_add_right hnb _) (by decide)) (fun E9 σ9 hq9 => nomatch hq9.1) (fun r9 σ1 hq9 hle9 => ?_)
  obtain ⟨h9, ⟨f1, e49', hv1⟩, ⟨g1, e50'⟩, hC1, hn1, hj1⟩ := hq9
  cases h9
  clear hle9
  obtain ⟨pa, ps, hO⟩ := hM.1
  refine J.ist dL_law_1090 (Nat.le_of_ble_eq_true rfl) (jnc_of rfl rfl) ?_
  refine J.ald_n dL_law_1092 rfl ?_
  refine J.ald_n dL_law_1093 rfl ?_
  refine J.ild dL_law_1094 rfl ?_
  refine J.iconst dL_law_1096 ?_
  refine J.iadd dL_law_1097 ?_
  rw [show (((i : Nat) : Int) : Int) + 1 = ((i + 1 : Nat) : Int) from by push_cast; rfl]
  refine J.iald (i + 1) dL_law_1098 ((hj1 _ (by omega)).trans e4) rfl (by omega) (by omega) ?_
  refine J.callV (rm' := rX7_group) [vI (s (i + 1))] dL_law_1099 (hJ2 σ1 th (hM.keep (fun j a b => hj1 j (by omega)))) ((hj1 _ (by omega)).trans hO) rfl st_X7_group ml_L_155 im_X7_group se_X7_group rfl (Nat.le_of_ble_eq_true rfl) (by decide) (by decide) (Nat.le_of_ble_eq_true rfl) (Nat.le_trans (Nat.add_le_add_right (Nat.add_le_add_right hkb _) _) (by decide)) (Nat.le_trans (Nat.add_le_add_right (Nat.add_le_add_right hnb _) _) (by decide)) (Or.inr (fun E9 σ9 hq9 => nomatch hq9.1.choose_spec.1)) (fun E9 σ9 hq9 _ => nomatch hq9.1.choose_spec.1) (fun r9 σ2 hq9 hle9 => ?_)
  obtain ⟨⟨x, h9, hx⟩, hM2, hn2, hj2⟩ := hq9
  cases h9
  clear hle9
  obtain ⟨pa2, ps2, hO2⟩ := hM2.1
  refine J.ist dL_law_1102 (Nat.le_of_ble_eq_true rfl) (jnc_of rfl rfl) ?_
  refine J.ald_n dL_law_1104 rfl ?_
  refine J.callV (rm' := rX7_thrown) [] dL_law_1105 (c_X7_thrown hO2) hO2 rfl st_X7_thrown ml_L_96 im_X7_thrown se_X7_thrown rfl (Nat.le_of_ble_eq_true rfl) (by decide) (by decide) (Nat.le_of_ble_eq_true rfl) (Nat.le_trans (Nat.add_le_add_right (Nat.add_le_add_right (Nat.add_le_add_right hkb _) _) _) (by decide)) (Nat.le_trans (Nat.add_le_add_right (Nat.add_le_add_right (Nat.add_le_add_right hnb _) _) _) (by decide)) (Or.inr (fun E9 σ9 hq9 => nomatch hq9.1)) (fun E9 σ9 hq9 _ => nomatch hq9.1) (fun r9 σ9 hq9 hle9 => ?_)
  obtain ⟨h9, h8⟩ := hq9
  rw [h8]
  clear hle9 h8 σ9
  cases h9
  refine J.ild dL_law_1108 rfl ?_
  refine J.icmp_eq dL_law_1110 (by decide) (tgt := 1115) hki3 hki3 (fun w1 => ?_) (fun w1 => ?_)
  · refine J.ild dL_law_1115 rfl ?_
    refine J.if_ne dL_law_1117 (by decide) (tgt := 1132) hki3 (fun w2 => ?_) (fun w2 => ?_)
    · refine J.goto dL_law_1132 (by decide) (tgt := 1636) ?_
      exact hk σ2 _ _ _ _ _ ⟨⟨kk, _, _, _, _, _, _, _, _, _, _, _, _, _, _, _, hC1.keep (fun j hj => hj2 j (Or.inl hj)), hM2, hI'⟩, ⟨f1, (hj2 _ (by omega)).trans e49'⟩, ⟨g1, (hj2 _ (by omega)).trans e50'⟩, (hj2 _ (by omega)).trans ((hj1 _ (by omega)).trans e4), ⟨(hj2 _ (by omega)).trans ((hj1 _ (by omega)).trans hst.1), (hj2 _ (by omega)).trans ((hj1 _ (by omega)).trans hst.2.1), (hj2 _ (by omega)).trans ((hj1 _ (by omega)).trans hst.2.2.1), (hj2 _ (by omega)).trans ((hj1 _ (by omega)).trans hst.2.2.2)⟩, hn2.trans (hn1.trans hN1), hsI, hN2⟩ (show k + 1 ≤ k + 10 by omega) (show n + 6 ≤ n + 100 by omega) rfl
    · have hk0 : kk = 0 := by omega
      have hxv : x = v := hx hk0
      have hvi := hv hk0
      have hf1 : f1 0 = v := hv1 hk0
      refine J.ald_n dL_law_1120 rfl ?_
      refine J.iconst dL_law_1121 ?_
      refine J.laldD 0 dL_law_1122 ((hj2 _ (by omega)).trans e49') rfl (by omega) (by omega) ?_
      rw [hf1]
      refine J.ild dL_law_1123 rfl ?_
      refine J.i2l dL_law_1125 (by rw [hxv]; exact hvi) ?_
      rw [hxv]
      refine J.lcmp dL_law_1126 ?_
      rw [lg_selfI]
      refine J.if_eq dL_law_1127 (by decide) (tgt := 1132) (by unfold inI; omega) (fun w3 => ?_) (fun w3 => ?_)
      · refine J.goto dL_law_1132 (by decide) (tgt := 1636) ?_
        exact hk σ2 _ _ _ _ _ ⟨⟨kk, _, _, _, _, _, _, _, _, _, _, _, _, _, _, _, hC1.keep (fun j hj => hj2 j (Or.inl hj)), hM2, hI'⟩, ⟨f1, (hj2 _ (by omega)).trans e49'⟩, ⟨g1, (hj2 _ (by omega)).trans e50'⟩, (hj2 _ (by omega)).trans ((hj1 _ (by omega)).trans e4), ⟨(hj2 _ (by omega)).trans ((hj1 _ (by omega)).trans hst.1), (hj2 _ (by omega)).trans ((hj1 _ (by omega)).trans hst.2.1), (hj2 _ (by omega)).trans ((hj1 _ (by omega)).trans hst.2.2.1), (hj2 _ (by omega)).trans ((hj1 _ (by omega)).trans hst.2.2.2)⟩, hn2.trans (hn1.trans hN1), hsI, hN2⟩ (show k + 1 ≤ k + 10 by omega) (show n + 6 ≤ n + 100 by omega) rfl
      · exact absurd rfl w3
  · exact absurd rfl w1
set_option maxRecDepth 20000 in
theorem law_garble {X : jX} {σ : jS} {nm : String} {hh : List (Nat × Nat × Nat × Nat)} {s : Nat → Int} {N : Nat} {lu du : Nat → Int} {i k n : Nat} {u6 u7 u8 : Value} {Q : jOut → jS → Prop} (hL : LI s N lu du σ) (hi : i + 4 ≤ N) (hkb : k ≤ 500000) (hnb : n ≤ 5000000) (hu6 : u6.category = 1) (hk : ∀ (σ' : jS) (k' n' : Nat) (v6 v7 v8 : Value), LI s N lu du σ' → k' ≤ k + 10 → n' ≤ n + 100 → v6.category = 1 → J X (mLw nm hh) rL_law 1636 [.ref 4, .ref 5, .ref 37, .ref 49, .ref 50, vI ((i : Nat) : Int), v6, v7, v8] [] k' n' σ' Q) : J X (mLw nm hh) rL_law 1135 [.ref 4, .ref 5, .ref 37, .ref 49, .ref 50, vI ((i : Nat) : Int), u6, u7, u8] [] k n σ Q := by
  obtain ⟨⟨th, pr, ln, lw, bn, cd, sz, ph, mn, mg, kn, kr, ks, kt, rd, rg, hW, hM, hI⟩, ⟨f0, e49⟩, ⟨g0, e50⟩, e4, hst, hN1, hsI, hN2⟩ := id hL
  obtain ⟨kk, v, pr', ln', lw', bn', cd', sz', ph', mn', mg', kn', kr', ks', kt', rd', rg', hJ1, hJ2, hI', hk3, hv⟩ := op_garble hW hI e49 e50 (s (i + 1))  (s (i + 2))  (s (i + 3))  (hsI _) (hsI _) (hsI _)
  have hki3 : inI kk := by unfold inI; omega
  refine J.ald_n dL_law_1135 rfl ?_
  refine J.ald_n dL_law_1136 rfl ?_
  refine J.ild dL_law_1137 rfl ?_
  refine J.iconst dL_law_1139 ?_
  refine J.iadd dL_law_1140 ?_
  rw [show (((i : Nat) : Int) : Int) + 1 = ((i + 1 : Nat) : Int) from by push_cast; rfl]
  refine J.iald (i + 1) dL_law_1141 e4 rfl (by omega) (by omega) ?_
  refine J.ald_n dL_law_1142 rfl ?_
  refine J.ild dL_law_1143 rfl ?_
  refine J.iconst dL_law_1145 ?_
  refine J.iadd dL_law_1146 ?_
  rw [show (((i : Nat) : Int) : Int) + 2 = ((i + 2 : Nat) : Int) from by push_cast; rfl]
  refine J.iald (i + 2) dL_law_1147 e4 rfl (by omega) (by omega) ?_
  refine J.ald_n dL_law_1148 rfl ?_
  refine J.ild dL_law_1149 rfl ?_
  refine J.iconst dL_law_1151 ?_
  refine J.iadd dL_law_1152 ?_
  rw [show (((i : Nat) : Int) : Int) + 3 = ((i + 3 : Nat) : Int) from by push_cast; rfl]
  refine J.iald (i + 3) dL_law_1153 e4 rfl (by omega) (by omega) ?_
  refine J.ald_n dL_law_1154 rfl ?_
  refine J.callSX (rm' := rL_garble) [.ref 5, vI (s (i + 1)), vI (s (i + 2)), vI (s (i + 3)), .ref 49] dL_law_1155 (hJ1) st_L_garble ml_L_156 sm_L_garble rfl (Nat.le_of_ble_eq_true rfl) (by decide) (by decide) (Nat.le_of_ble_eq_true rfl) (Nat.le_trans (Nat.add_le_add_right hkb _) (by decide)) (Nat.le_trans (Nat.add_le_add_right hnb _) (by decide)) (fun E9 σ9 hq9 => nomatch hq9.1) (fun r9 σ1 hq9 hle9 => ?_)
  obtain ⟨h9, ⟨f1, e49', hv1⟩, ⟨g1, e50'⟩, hC1, hn1, hj1⟩ := hq9
  cases h9
  clear hle9
  obtain ⟨pa, ps, hO⟩ := hM.1
  refine J.ist dL_law_1158 (Nat.le_of_ble_eq_true rfl) (jnc_of rfl rfl) ?_
  refine J.ald_n dL_law_1160 rfl ?_
  refine J.ald_n dL_law_1161 rfl ?_
  refine J.ild dL_law_1162 rfl ?_
  refine J.iconst dL_law_1164 ?_
  refine J.iadd dL_law_1165 ?_
  rw [show (((i : Nat) : Int) : Int) + 1 = ((i + 1 : Nat) : Int) from by push_cast; rfl]
  refine J.iald (i + 1) dL_law_1166 ((hj1 _ (by omega)).trans e4) rfl (by omega) (by omega) ?_
  refine J.ald_n dL_law_1167 rfl ?_
  refine J.ild dL_law_1168 rfl ?_
  refine J.iconst dL_law_1170 ?_
  refine J.iadd dL_law_1171 ?_
  rw [show (((i : Nat) : Int) : Int) + 2 = ((i + 2 : Nat) : Int) from by push_cast; rfl]
  refine J.iald (i + 2) dL_law_1172 ((hj1 _ (by omega)).trans e4) rfl (by omega) (by omega) ?_
  refine J.ald_n dL_law_1173 rfl ?_
  refine J.ild dL_law_1174 rfl ?_
  refine J.iconst dL_law_1176 ?_
  refine J.iadd dL_law_1177 ?_
  rw [show (((i : Nat) : Int) : Int) + 3 = ((i + 3 : Nat) : Int) from by push_cast; rfl]
  refine J.iald (i + 3) dL_law_1178 ((hj1 _ (by omega)).trans e4) rfl (by omega) (by omega) ?_
  refine J.callV (rm' := rX7_garble) [vI (s (i + 1)), vI (s (i + 2)), vI (s (i + 3))] dL_law_1179 (hJ2 σ1 th (hM.keep (fun j a b => hj1 j (by omega)))) ((hj1 _ (by omega)).trans hO) rfl st_X7_garble ml_L_158 im_X7_garble se_X7_garble rfl (Nat.le_of_ble_eq_true rfl) (by decide) (by decide) (Nat.le_of_ble_eq_true rfl) (Nat.le_trans (Nat.add_le_add_right (Nat.add_le_add_right hkb _) _) (by decide)) (Nat.le_trans (Nat.add_le_add_right (Nat.add_le_add_right hnb _) _) (by decide)) (Or.inr (fun E9 σ9 hq9 => nomatch hq9.1.choose_spec.1)) (fun E9 σ9 hq9 _ => nomatch hq9.1.choose_spec.1) (fun r9 σ2 hq9 hle9 => ?_)
  obtain ⟨⟨x, h9, hx⟩, hM2, hn2, hj2⟩ := hq9
  cases h9
  clear hle9
  obtain ⟨pa2, ps2, hO2⟩ := hM2.1
  refine J.ist dL_law_1182 (Nat.le_of_ble_eq_true rfl) (jnc_of rfl rfl) ?_
  refine J.ald_n dL_law_1184 rfl ?_
  refine J.callV (rm' := rX7_thrown) [] dL_law_1185 (c_X7_thrown hO2) hO2 rfl st_X7_thrown ml_L_96 im_X7_thrown se_X7_thrown rfl (Nat.le_of_ble_eq_true rfl) (by decide) (by decide) (Nat.le_of_ble_eq_true rfl) (Nat.le_trans (Nat.add_le_add_right (Nat.add_le_add_right (Nat.add_le_add_right hkb _) _) _) (by decide)) (Nat.le_trans (Nat.add_le_add_right (Nat.add_le_add_right (Nat.add_le_add_right hnb _) _) _) (by decide)) (Or.inr (fun E9 σ9 hq9 => nomatch hq9.1)) (fun E9 σ9 hq9 _ => nomatch hq9.1) (fun r9 σ9 hq9 hle9 => ?_)
  obtain ⟨h9, h8⟩ := hq9
  rw [h8]
  clear hle9 h8 σ9
  cases h9
  refine J.ild dL_law_1188 rfl ?_
  refine J.icmp_eq dL_law_1190 (by decide) (tgt := 1195) hki3 hki3 (fun w1 => ?_) (fun w1 => ?_)
  · refine J.ild dL_law_1195 rfl ?_
    refine J.if_ne dL_law_1197 (by decide) (tgt := 1212) hki3 (fun w2 => ?_) (fun w2 => ?_)
    · refine J.goto dL_law_1212 (by decide) (tgt := 1636) ?_
      exact hk σ2 _ _ _ _ _ ⟨⟨kk, _, _, _, _, _, _, _, _, _, _, _, _, _, _, _, hC1.keep (fun j hj => hj2 j (Or.inl hj)), hM2, hI'⟩, ⟨f1, (hj2 _ (by omega)).trans e49'⟩, ⟨g1, (hj2 _ (by omega)).trans e50'⟩, (hj2 _ (by omega)).trans ((hj1 _ (by omega)).trans e4), ⟨(hj2 _ (by omega)).trans ((hj1 _ (by omega)).trans hst.1), (hj2 _ (by omega)).trans ((hj1 _ (by omega)).trans hst.2.1), (hj2 _ (by omega)).trans ((hj1 _ (by omega)).trans hst.2.2.1), (hj2 _ (by omega)).trans ((hj1 _ (by omega)).trans hst.2.2.2)⟩, hn2.trans (hn1.trans hN1), hsI, hN2⟩ (show k + 4 ≤ k + 10 by omega) (show n + 24 ≤ n + 100 by omega) rfl
    · have hk0 : kk = 0 := by omega
      have hxv : x = v := hx hk0
      have hvi := hv hk0
      have hf1 : f1 0 = v := hv1 hk0
      refine J.ald_n dL_law_1200 rfl ?_
      refine J.iconst dL_law_1201 ?_
      refine J.laldD 0 dL_law_1202 ((hj2 _ (by omega)).trans e49') rfl (by omega) (by omega) ?_
      rw [hf1]
      refine J.ild dL_law_1203 rfl ?_
      refine J.i2l dL_law_1205 (by rw [hxv]; exact hvi) ?_
      rw [hxv]
      refine J.lcmp dL_law_1206 ?_
      rw [lg_selfI]
      refine J.if_eq dL_law_1207 (by decide) (tgt := 1212) (by unfold inI; omega) (fun w3 => ?_) (fun w3 => ?_)
      · refine J.goto dL_law_1212 (by decide) (tgt := 1636) ?_
        exact hk σ2 _ _ _ _ _ ⟨⟨kk, _, _, _, _, _, _, _, _, _, _, _, _, _, _, _, hC1.keep (fun j hj => hj2 j (Or.inl hj)), hM2, hI'⟩, ⟨f1, (hj2 _ (by omega)).trans e49'⟩, ⟨g1, (hj2 _ (by omega)).trans e50'⟩, (hj2 _ (by omega)).trans ((hj1 _ (by omega)).trans e4), ⟨(hj2 _ (by omega)).trans ((hj1 _ (by omega)).trans hst.1), (hj2 _ (by omega)).trans ((hj1 _ (by omega)).trans hst.2.1), (hj2 _ (by omega)).trans ((hj1 _ (by omega)).trans hst.2.2.1), (hj2 _ (by omega)).trans ((hj1 _ (by omega)).trans hst.2.2.2)⟩, hn2.trans (hn1.trans hN1), hsI, hN2⟩ (show k + 4 ≤ k + 10 by omega) (show n + 24 ≤ n + 100 by omega) rfl
      · exact absurd rfl w3
  · exact absurd rfl w1
set_option maxRecDepth 20000 in
theorem law_swap {X : jX} {σ : jS} {nm : String} {hh : List (Nat × Nat × Nat × Nat)} {s : Nat → Int} {N : Nat} {lu du : Nat → Int} {i k n : Nat} {u6 u7 u8 : Value} {Q : jOut → jS → Prop} (hL : LI s N lu du σ) (hi : i + 4 ≤ N) (hkb : k ≤ 500000) (hnb : n ≤ 5000000) (hu6 : u6.category = 1) (hk : ∀ (σ' : jS) (k' n' : Nat) (v6 v7 v8 : Value), LI s N lu du σ' → k' ≤ k + 10 → n' ≤ n + 100 → v6.category = 1 → J X (mLw nm hh) rL_law 1636 [.ref 4, .ref 5, .ref 37, .ref 49, .ref 50, vI ((i : Nat) : Int), v6, v7, v8] [] k' n' σ' Q) : J X (mLw nm hh) rL_law 1215 [.ref 4, .ref 5, .ref 37, .ref 49, .ref 50, vI ((i : Nat) : Int), u6, u7, u8] [] k n σ Q := by
  obtain ⟨⟨th, pr, ln, lw, bn, cd, sz, ph, mn, mg, kn, kr, ks, kt, rd, rg, hW, hM, hI⟩, ⟨f0, e49⟩, ⟨g0, e50⟩, e4, hst, hN1, hsI, hN2⟩ := id hL
  obtain ⟨kk, v, pr', ln', lw', bn', cd', sz', ph', mn', mg', kn', kr', ks', kt', rd', rg', hJ1, hJ2, hI', hk3, hv⟩ := op_swap hW hI e49 e50 (s (i + 1))  (s (i + 2))  (hsI _) (hsI _)
  have hki3 : inI kk := by unfold inI; omega
  refine J.ald_n dL_law_1215 rfl ?_
  refine J.ald_n dL_law_1216 rfl ?_
  refine J.ild dL_law_1217 rfl ?_
  refine J.iconst dL_law_1219 ?_
  refine J.iadd dL_law_1220 ?_
  rw [show (((i : Nat) : Int) : Int) + 1 = ((i + 1 : Nat) : Int) from by push_cast; rfl]
  refine J.iald (i + 1) dL_law_1221 e4 rfl (by omega) (by omega) ?_
  refine J.ald_n dL_law_1222 rfl ?_
  refine J.ild dL_law_1223 rfl ?_
  refine J.iconst dL_law_1225 ?_
  refine J.iadd dL_law_1226 ?_
  rw [show (((i : Nat) : Int) : Int) + 2 = ((i + 2 : Nat) : Int) from by push_cast; rfl]
  refine J.iald (i + 2) dL_law_1227 e4 rfl (by omega) (by omega) ?_
  refine J.ald_n dL_law_1228 rfl ?_
  refine J.callSX (rm' := rL_swap) [.ref 5, vI (s (i + 1)), vI (s (i + 2)), .ref 49] dL_law_1229 (hJ1) st_L_swap ml_L_159 sm_L_swap rfl (Nat.le_of_ble_eq_true rfl) (by decide) (by decide) (Nat.le_of_ble_eq_true rfl) (Nat.le_trans (Nat.add_le_add_right hkb _) (by decide)) (Nat.le_trans (Nat.add_le_add_right hnb _) (by decide)) (fun E9 σ9 hq9 => nomatch hq9.1) (fun r9 σ1 hq9 hle9 => ?_)
  obtain ⟨h9, ⟨f1, e49', hv1⟩, ⟨g1, e50'⟩, hC1, hn1, hj1⟩ := hq9
  cases h9
  clear hle9
  obtain ⟨pa, ps, hO⟩ := hM.1
  refine J.ist dL_law_1232 (Nat.le_of_ble_eq_true rfl) (jnc_of rfl rfl) ?_
  refine J.ald_n dL_law_1234 rfl ?_
  refine J.ald_n dL_law_1235 rfl ?_
  refine J.ild dL_law_1236 rfl ?_
  refine J.iconst dL_law_1238 ?_
  refine J.iadd dL_law_1239 ?_
  rw [show (((i : Nat) : Int) : Int) + 1 = ((i + 1 : Nat) : Int) from by push_cast; rfl]
  refine J.iald (i + 1) dL_law_1240 ((hj1 _ (by omega)).trans e4) rfl (by omega) (by omega) ?_
  refine J.ald_n dL_law_1241 rfl ?_
  refine J.ild dL_law_1242 rfl ?_
  refine J.iconst dL_law_1244 ?_
  refine J.iadd dL_law_1245 ?_
  rw [show (((i : Nat) : Int) : Int) + 2 = ((i + 2 : Nat) : Int) from by push_cast; rfl]
  refine J.iald (i + 2) dL_law_1246 ((hj1 _ (by omega)).trans e4) rfl (by omega) (by omega) ?_
  refine J.callV (rm' := rX7_swap) [vI (s (i + 1)), vI (s (i + 2))] dL_law_1247 (hJ2 σ1 th (hM.keep (fun j a b => hj1 j (by omega)))) ((hj1 _ (by omega)).trans hO) rfl st_X7_swap ml_L_161 im_X7_swap se_X7_swap rfl (Nat.le_of_ble_eq_true rfl) (by decide) (by decide) (Nat.le_of_ble_eq_true rfl) (Nat.le_trans (Nat.add_le_add_right (Nat.add_le_add_right hkb _) _) (by decide)) (Nat.le_trans (Nat.add_le_add_right (Nat.add_le_add_right hnb _) _) (by decide)) (Or.inr (fun E9 σ9 hq9 => nomatch hq9.1.choose_spec.1)) (fun E9 σ9 hq9 _ => nomatch hq9.1.choose_spec.1) (fun r9 σ2 hq9 hle9 => ?_)
  obtain ⟨⟨x, h9, hx⟩, hM2, hn2, hj2⟩ := hq9
  cases h9
  clear hle9
  obtain ⟨pa2, ps2, hO2⟩ := hM2.1
  refine J.ist dL_law_1250 (Nat.le_of_ble_eq_true rfl) (jnc_of rfl rfl) ?_
  refine J.ald_n dL_law_1252 rfl ?_
  refine J.callV (rm' := rX7_thrown) [] dL_law_1253 (c_X7_thrown hO2) hO2 rfl st_X7_thrown ml_L_96 im_X7_thrown se_X7_thrown rfl (Nat.le_of_ble_eq_true rfl) (by decide) (by decide) (Nat.le_of_ble_eq_true rfl) (Nat.le_trans (Nat.add_le_add_right (Nat.add_le_add_right (Nat.add_le_add_right hkb _) _) _) (by decide)) (Nat.le_trans (Nat.add_le_add_right (Nat.add_le_add_right (Nat.add_le_add_right hnb _) _) _) (by decide)) (Or.inr (fun E9 σ9 hq9 => nomatch hq9.1)) (fun E9 σ9 hq9 _ => nomatch hq9.1) (fun r9 σ9 hq9 hle9 => ?_)
  obtain ⟨h9, h8⟩ := hq9
  rw [h8]
  clear hle9 h8 σ9
  cases h9
  refine J.ild dL_law_1256 rfl ?_
  refine J.icmp_eq dL_law_1258 (by decide) (tgt := 1263) hki3 hki3 (fun w1 => ?_) (fun w1 => ?_)
  · refine J.ild dL_law_1263 rfl ?_
    refine J.if_ne dL_law_1265 (by decide) (tgt := 1280) hki3 (fun w2 => ?_) (fun w2 => ?_)
    · refine J.goto dL_law_1280 (by decide) (tgt := 1636) ?_
      exact hk σ2 _ _ _ _ _ ⟨⟨kk, _, _, _, _, _, _, _, _, _, _, _, _, _, _, _, hC1.keep (fun j hj => hj2 j (Or.inl hj)), hM2, hI'⟩, ⟨f1, (hj2 _ (by omega)).trans e49'⟩, ⟨g1, (hj2 _ (by omega)).trans e50'⟩, (hj2 _ (by omega)).trans ((hj1 _ (by omega)).trans e4), ⟨(hj2 _ (by omega)).trans ((hj1 _ (by omega)).trans hst.1), (hj2 _ (by omega)).trans ((hj1 _ (by omega)).trans hst.2.1), (hj2 _ (by omega)).trans ((hj1 _ (by omega)).trans hst.2.2.1), (hj2 _ (by omega)).trans ((hj1 _ (by omega)).trans hst.2.2.2)⟩, hn2.trans (hn1.trans hN1), hsI, hN2⟩ (show k + 3 ≤ k + 10 by omega) (show n + 18 ≤ n + 100 by omega) rfl
    · have hk0 : kk = 0 := by omega
      have hxv : x = v := hx hk0
      have hvi := hv hk0
      have hf1 : f1 0 = v := hv1 hk0
      refine J.ald_n dL_law_1268 rfl ?_
      refine J.iconst dL_law_1269 ?_
      refine J.laldD 0 dL_law_1270 ((hj2 _ (by omega)).trans e49') rfl (by omega) (by omega) ?_
      rw [hf1]
      refine J.ild dL_law_1271 rfl ?_
      refine J.i2l dL_law_1273 (by rw [hxv]; exact hvi) ?_
      rw [hxv]
      refine J.lcmp dL_law_1274 ?_
      rw [lg_selfI]
      refine J.if_eq dL_law_1275 (by decide) (tgt := 1280) (by unfold inI; omega) (fun w3 => ?_) (fun w3 => ?_)
      · refine J.goto dL_law_1280 (by decide) (tgt := 1636) ?_
        exact hk σ2 _ _ _ _ _ ⟨⟨kk, _, _, _, _, _, _, _, _, _, _, _, _, _, _, _, hC1.keep (fun j hj => hj2 j (Or.inl hj)), hM2, hI'⟩, ⟨f1, (hj2 _ (by omega)).trans e49'⟩, ⟨g1, (hj2 _ (by omega)).trans e50'⟩, (hj2 _ (by omega)).trans ((hj1 _ (by omega)).trans e4), ⟨(hj2 _ (by omega)).trans ((hj1 _ (by omega)).trans hst.1), (hj2 _ (by omega)).trans ((hj1 _ (by omega)).trans hst.2.1), (hj2 _ (by omega)).trans ((hj1 _ (by omega)).trans hst.2.2.1), (hj2 _ (by omega)).trans ((hj1 _ (by omega)).trans hst.2.2.2)⟩, hn2.trans (hn1.trans hN1), hsI, hN2⟩ (show k + 3 ≤ k + 10 by omega) (show n + 18 ≤ n + 100 by omega) rfl
      · exact absurd rfl w3
  · exact absurd rfl w1
set_option maxRecDepth 20000 in
theorem law_decode {X : jX} {σ : jS} {nm : String} {hh : List (Nat × Nat × Nat × Nat)} {s : Nat → Int} {N : Nat} {lu du : Nat → Int} {i k n : Nat} {u6 u7 u8 : Value} {Q : jOut → jS → Prop} (hL : LI s N lu du σ) (hi : i + 4 ≤ N) (hkb : k ≤ 500000) (hnb : n ≤ 5000000) (hu6 : u6.category = 1) (hk : ∀ (σ' : jS) (k' n' : Nat) (v6 v7 v8 : Value), LI s N lu du σ' → k' ≤ k + 10 → n' ≤ n + 100 → v6.category = 1 → J X (mLw nm hh) rL_law 1636 [.ref 4, .ref 5, .ref 37, .ref 49, .ref 50, vI ((i : Nat) : Int), v6, v7, v8] [] k' n' σ' Q) : J X (mLw nm hh) rL_law 1283 [.ref 4, .ref 5, .ref 37, .ref 49, .ref 50, vI ((i : Nat) : Int), u6, u7, u8] [] k n σ Q := by
  obtain ⟨⟨th, pr, ln, lw, bn, cd, sz, ph, mn, mg, kn, kr, ks, kt, rd, rg, hW, hM, hI⟩, ⟨f0, e49⟩, ⟨g0, e50⟩, e4, hst, hN1, hsI, hN2⟩ := id hL
  obtain ⟨kk, v, pr', ln', lw', bn', cd', sz', ph', mn', mg', kn', kr', ks', kt', rd', rg', hJ1, hJ2, hI', hk3, hv⟩ := op_decode hW hI e49 e50 (s (i + 1))  (hsI _)
  have hki3 : inI kk := by unfold inI; omega
  refine J.ald_n dL_law_1283 rfl ?_
  refine J.ald_n dL_law_1284 rfl ?_
  refine J.ild dL_law_1285 rfl ?_
  refine J.iconst dL_law_1287 ?_
  refine J.iadd dL_law_1288 ?_
  rw [show (((i : Nat) : Int) : Int) + 1 = ((i + 1 : Nat) : Int) from by push_cast; rfl]
  refine J.iald (i + 1) dL_law_1289 e4 rfl (by omega) (by omega) ?_
  refine J.ald_n dL_law_1290 rfl ?_
  refine J.callSX (rm' := rL_decode) [.ref 5, vI (s (i + 1)), .ref 49] dL_law_1291 (hJ1) st_L_decode ml_L_162 sm_L_decode rfl (Nat.le_of_ble_eq_true rfl) (by decide) (by decide) (Nat.le_of_ble_eq_true rfl) (Nat.le_trans (Nat.add_le_add_right hkb _) (by decide)) (Nat.le_trans (Nat.add_le_add_right hnb _) (by decide)) (fun E9 σ9 hq9 => nomatch hq9.1) (fun r9 σ1 hq9 hle9 => ?_)
  obtain ⟨h9, ⟨f1, e49', hv1⟩, ⟨g1, e50'⟩, hC1, hn1, hj1⟩ := hq9
  cases h9
  clear hle9
  obtain ⟨pa, ps, hO⟩ := hM.1
  refine J.ist dL_law_1294 (Nat.le_of_ble_eq_true rfl) (jnc_of rfl rfl) ?_
  refine J.ald_n dL_law_1296 rfl ?_
  refine J.ald_n dL_law_1297 rfl ?_
  refine J.ild dL_law_1298 rfl ?_
  refine J.iconst dL_law_1300 ?_
  refine J.iadd dL_law_1301 ?_
  rw [show (((i : Nat) : Int) : Int) + 1 = ((i + 1 : Nat) : Int) from by push_cast; rfl]
  refine J.iald (i + 1) dL_law_1302 ((hj1 _ (by omega)).trans e4) rfl (by omega) (by omega) ?_
  refine J.callV (rm' := rX7_decode) [vI (s (i + 1))] dL_law_1303 (hJ2 σ1 th (hM.keep (fun j a b => hj1 j (by omega)))) ((hj1 _ (by omega)).trans hO) rfl st_X7_decode ml_L_164 im_X7_decode se_X7_decode rfl (Nat.le_of_ble_eq_true rfl) (by decide) (by decide) (Nat.le_of_ble_eq_true rfl) (Nat.le_trans (Nat.add_le_add_right (Nat.add_le_add_right hkb _) _) (by decide)) (Nat.le_trans (Nat.add_le_add_right (Nat.add_le_add_right hnb _) _) (by decide)) (Or.inr (fun E9 σ9 hq9 => nomatch hq9.1.choose_spec.1)) (fun E9 σ9 hq9 _ => nomatch hq9.1.choose_spec.1) (fun r9 σ2 hq9 hle9 => ?_)
  obtain ⟨⟨x, h9, hx⟩, hM2, hn2, hj2⟩ := hq9
  cases h9
  clear hle9
  obtain ⟨pa2, ps2, hO2⟩ := hM2.1
  refine J.ist dL_law_1306 (Nat.le_of_ble_eq_true rfl) (jnc_of rfl rfl) ?_
  refine J.ald_n dL_law_1308 rfl ?_
  refine J.callV (rm' := rX7_thrown) [] dL_law_1309 (c_X7_thrown hO2) hO2 rfl st_X7_thrown ml_L_96 im_X7_thrown se_X7_thrown rfl (Nat.le_of_ble_eq_true rfl) (by decide) (by decide) (Nat.le_of_ble_eq_true rfl) (Nat.le_trans (Nat.add_le_add_right (Nat.add_le_add_right (Nat.add_le_add_right hkb _) _) _) (by decide)) (Nat.le_trans (Nat.add_le_add_right (Nat.add_le_add_right (Nat.add_le_add_right hnb _) _) _) (by decide)) (Or.inr (fun E9 σ9 hq9 => nomatch hq9.1)) (fun E9 σ9 hq9 _ => nomatch hq9.1) (fun r9 σ9 hq9 hle9 => ?_)
  obtain ⟨h9, h8⟩ := hq9
  rw [h8]
  clear hle9 h8 σ9
  cases h9
  refine J.ild dL_law_1312 rfl ?_
  refine J.icmp_eq dL_law_1314 (by decide) (tgt := 1319) hki3 hki3 (fun w1 => ?_) (fun w1 => ?_)
  · refine J.ild dL_law_1319 rfl ?_
    refine J.if_ne dL_law_1321 (by decide) (tgt := 1336) hki3 (fun w2 => ?_) (fun w2 => ?_)
    · refine J.goto dL_law_1336 (by decide) (tgt := 1636) ?_
      exact hk σ2 _ _ _ _ _ ⟨⟨kk, _, _, _, _, _, _, _, _, _, _, _, _, _, _, _, hC1.keep (fun j hj => hj2 j (Or.inl hj)), hM2, hI'⟩, ⟨f1, (hj2 _ (by omega)).trans e49'⟩, ⟨g1, (hj2 _ (by omega)).trans e50'⟩, (hj2 _ (by omega)).trans ((hj1 _ (by omega)).trans e4), ⟨(hj2 _ (by omega)).trans ((hj1 _ (by omega)).trans hst.1), (hj2 _ (by omega)).trans ((hj1 _ (by omega)).trans hst.2.1), (hj2 _ (by omega)).trans ((hj1 _ (by omega)).trans hst.2.2.1), (hj2 _ (by omega)).trans ((hj1 _ (by omega)).trans hst.2.2.2)⟩, hn2.trans (hn1.trans hN1), hsI, hN2⟩ (show k + 1 ≤ k + 10 by omega) (show n + 6 ≤ n + 100 by omega) rfl
    · have hk0 : kk = 0 := by omega
      have hxv : x = v := hx hk0
      have hvi := hv hk0
      have hf1 : f1 0 = v := hv1 hk0
      refine J.ald_n dL_law_1324 rfl ?_
      refine J.iconst dL_law_1325 ?_
      refine J.laldD 0 dL_law_1326 ((hj2 _ (by omega)).trans e49') rfl (by omega) (by omega) ?_
      rw [hf1]
      refine J.ild dL_law_1327 rfl ?_
      refine J.i2l dL_law_1329 (by rw [hxv]; exact hvi) ?_
      rw [hxv]
      refine J.lcmp dL_law_1330 ?_
      rw [lg_selfI]
      refine J.if_eq dL_law_1331 (by decide) (tgt := 1336) (by unfold inI; omega) (fun w3 => ?_) (fun w3 => ?_)
      · refine J.goto dL_law_1336 (by decide) (tgt := 1636) ?_
        exact hk σ2 _ _ _ _ _ ⟨⟨kk, _, _, _, _, _, _, _, _, _, _, _, _, _, _, _, hC1.keep (fun j hj => hj2 j (Or.inl hj)), hM2, hI'⟩, ⟨f1, (hj2 _ (by omega)).trans e49'⟩, ⟨g1, (hj2 _ (by omega)).trans e50'⟩, (hj2 _ (by omega)).trans ((hj1 _ (by omega)).trans e4), ⟨(hj2 _ (by omega)).trans ((hj1 _ (by omega)).trans hst.1), (hj2 _ (by omega)).trans ((hj1 _ (by omega)).trans hst.2.1), (hj2 _ (by omega)).trans ((hj1 _ (by omega)).trans hst.2.2.1), (hj2 _ (by omega)).trans ((hj1 _ (by omega)).trans hst.2.2.2)⟩, hn2.trans (hn1.trans hN1), hsI, hN2⟩ (show k + 1 ≤ k + 10 by omega) (show n + 6 ≤ n + 100 by omega) rfl
      · exact absurd rfl w3
  · exact absurd rfl w1
set_option maxRecDepth 20000 in
theorem law_how {X : jX} {σ : jS} {nm : String} {hh : List (Nat × Nat × Nat × Nat)} {s : Nat → Int} {N : Nat} {lu du : Nat → Int} {i k n : Nat} {u6 u7 u8 : Value} {Q : jOut → jS → Prop} (hL : LI s N lu du σ) (hi : i + 4 ≤ N) (hkb : k ≤ 500000) (hnb : n ≤ 5000000) (hu6 : u6.category = 1) (hk : ∀ (σ' : jS) (k' n' : Nat) (v6 v7 v8 : Value), LI s N lu du σ' → k' ≤ k + 10 → n' ≤ n + 100 → v6.category = 1 → J X (mLw nm hh) rL_law 1636 [.ref 4, .ref 5, .ref 37, .ref 49, .ref 50, vI ((i : Nat) : Int), v6, v7, v8] [] k' n' σ' Q) : J X (mLw nm hh) rL_law 1339 [.ref 4, .ref 5, .ref 37, .ref 49, .ref 50, vI ((i : Nat) : Int), u6, u7, u8] [] k n σ Q := by
  obtain ⟨⟨th, pr, ln, lw, bn, cd, sz, ph, mn, mg, kn, kr, ks, kt, rd, rg, hW, hM, hI⟩, ⟨f0, e49⟩, ⟨g0, e50⟩, e4, hst, hN1, hsI, hN2⟩ := id hL
  obtain ⟨kk, v, pr', ln', lw', bn', cd', sz', ph', mn', mg', kn', kr', ks', kt', rd', rg', hJ1, hJ2, hI', hk3, hv⟩ := op_how hW hI e49 e50 (s (i + 1))  (hsI _)
  have hki3 : inI kk := by unfold inI; omega
  refine J.ald_n dL_law_1339 rfl ?_
  refine J.ald_n dL_law_1340 rfl ?_
  refine J.ild dL_law_1341 rfl ?_
  refine J.iconst dL_law_1343 ?_
  refine J.iadd dL_law_1344 ?_
  rw [show (((i : Nat) : Int) : Int) + 1 = ((i + 1 : Nat) : Int) from by push_cast; rfl]
  refine J.iald (i + 1) dL_law_1345 e4 rfl (by omega) (by omega) ?_
  refine J.ald_n dL_law_1346 rfl ?_
  refine J.callSX (rm' := rL_how) [.ref 5, vI (s (i + 1)), .ref 49] dL_law_1347 (hJ1) st_L_how ml_L_165 sm_L_how rfl (Nat.le_of_ble_eq_true rfl) (by decide) (by decide) (Nat.le_of_ble_eq_true rfl) (Nat.le_trans (Nat.add_le_add_right hkb _) (by decide)) (Nat.le_trans (Nat.add_le_add_right hnb _) (by decide)) (fun E9 σ9 hq9 => nomatch hq9.1) (fun r9 σ1 hq9 hle9 => ?_)
  obtain ⟨h9, ⟨f1, e49', hv1⟩, ⟨g1, e50'⟩, hC1, hn1, hj1⟩ := hq9
  cases h9
  clear hle9
  obtain ⟨pa, ps, hO⟩ := hM.1
  refine J.ist dL_law_1350 (Nat.le_of_ble_eq_true rfl) (jnc_of rfl rfl) ?_
  refine J.ald_n dL_law_1352 rfl ?_
  refine J.ald_n dL_law_1353 rfl ?_
  refine J.ild dL_law_1354 rfl ?_
  refine J.iconst dL_law_1356 ?_
  refine J.iadd dL_law_1357 ?_
  rw [show (((i : Nat) : Int) : Int) + 1 = ((i + 1 : Nat) : Int) from by push_cast; rfl]
  refine J.iald (i + 1) dL_law_1358 ((hj1 _ (by omega)).trans e4) rfl (by omega) (by omega) ?_
  refine J.callV (rm' := rX7_how) [vI (s (i + 1))] dL_law_1359 (hJ2 σ1 th (hM.keep (fun j a b => hj1 j (by omega)))) ((hj1 _ (by omega)).trans hO) rfl st_X7_how ml_L_167 im_X7_how se_X7_how rfl (Nat.le_of_ble_eq_true rfl) (by decide) (by decide) (Nat.le_of_ble_eq_true rfl) (Nat.le_trans (Nat.add_le_add_right (Nat.add_le_add_right hkb _) _) (by decide)) (Nat.le_trans (Nat.add_le_add_right (Nat.add_le_add_right hnb _) _) (by decide)) (Or.inr (fun E9 σ9 hq9 => nomatch hq9.1.choose_spec.1)) (fun E9 σ9 hq9 _ => nomatch hq9.1.choose_spec.1) (fun r9 σ2 hq9 hle9 => ?_)
  obtain ⟨⟨x, h9, hx⟩, hM2, hn2, hj2⟩ := hq9
  cases h9
  clear hle9
  obtain ⟨pa2, ps2, hO2⟩ := hM2.1
  refine J.ist dL_law_1362 (Nat.le_of_ble_eq_true rfl) (jnc_of rfl rfl) ?_
  refine J.ald_n dL_law_1364 rfl ?_
  refine J.callV (rm' := rX7_thrown) [] dL_law_1365 (c_X7_thrown hO2) hO2 rfl st_X7_thrown ml_L_96 im_X7_thrown se_X7_thrown rfl (Nat.le_of_ble_eq_true rfl) (by decide) (by decide) (Nat.le_of_ble_eq_true rfl) (Nat.le_trans (Nat.add_le_add_right (Nat.add_le_add_right (Nat.add_le_add_right hkb _) _) _) (by decide)) (Nat.le_trans (Nat.add_le_add_right (Nat.add_le_add_right (Nat.add_le_add_right hnb _) _) _) (by decide)) (Or.inr (fun E9 σ9 hq9 => nomatch hq9.1)) (fun E9 σ9 hq9 _ => nomatch hq9.1) (fun r9 σ9 hq9 hle9 => ?_)
  obtain ⟨h9, h8⟩ := hq9
  rw [h8]
  clear hle9 h8 σ9
  cases h9
  refine J.ild dL_law_1368 rfl ?_
  refine J.icmp_eq dL_law_1370 (by decide) (tgt := 1375) hki3 hki3 (fun w1 => ?_) (fun w1 => ?_)
  · refine J.ild dL_law_1375 rfl ?_
    refine J.if_ne dL_law_1377 (by decide) (tgt := 1392) hki3 (fun w2 => ?_) (fun w2 => ?_)
    · refine J.goto dL_law_1392 (by decide) (tgt := 1636) ?_
      exact hk σ2 _ _ _ _ _ ⟨⟨kk, _, _, _, _, _, _, _, _, _, _, _, _, _, _, _, hC1.keep (fun j hj => hj2 j (Or.inl hj)), hM2, hI'⟩, ⟨f1, (hj2 _ (by omega)).trans e49'⟩, ⟨g1, (hj2 _ (by omega)).trans e50'⟩, (hj2 _ (by omega)).trans ((hj1 _ (by omega)).trans e4), ⟨(hj2 _ (by omega)).trans ((hj1 _ (by omega)).trans hst.1), (hj2 _ (by omega)).trans ((hj1 _ (by omega)).trans hst.2.1), (hj2 _ (by omega)).trans ((hj1 _ (by omega)).trans hst.2.2.1), (hj2 _ (by omega)).trans ((hj1 _ (by omega)).trans hst.2.2.2)⟩, hn2.trans (hn1.trans hN1), hsI, hN2⟩ (show k + 1 ≤ k + 10 by omega) (show n + 6 ≤ n + 100 by omega) rfl
    · have hk0 : kk = 0 := by omega
      have hxv : x = v := hx hk0
      have hvi := hv hk0
      have hf1 : f1 0 = v := hv1 hk0
      refine J.ald_n dL_law_1380 rfl ?_
      refine J.iconst dL_law_1381 ?_
      refine J.laldD 0 dL_law_1382 ((hj2 _ (by omega)).trans e49') rfl (by omega) (by omega) ?_
      rw [hf1]
      refine J.ild dL_law_1383 rfl ?_
      refine J.i2l dL_law_1385 (by rw [hxv]; exact hvi) ?_
      rw [hxv]
      refine J.lcmp dL_law_1386 ?_
      rw [lg_selfI]
      refine J.if_eq dL_law_1387 (by decide) (tgt := 1392) (by unfold inI; omega) (fun w3 => ?_) (fun w3 => ?_)
      · refine J.goto dL_law_1392 (by decide) (tgt := 1636) ?_
        exact hk σ2 _ _ _ _ _ ⟨⟨kk, _, _, _, _, _, _, _, _, _, _, _, _, _, _, _, hC1.keep (fun j hj => hj2 j (Or.inl hj)), hM2, hI'⟩, ⟨f1, (hj2 _ (by omega)).trans e49'⟩, ⟨g1, (hj2 _ (by omega)).trans e50'⟩, (hj2 _ (by omega)).trans ((hj1 _ (by omega)).trans e4), ⟨(hj2 _ (by omega)).trans ((hj1 _ (by omega)).trans hst.1), (hj2 _ (by omega)).trans ((hj1 _ (by omega)).trans hst.2.1), (hj2 _ (by omega)).trans ((hj1 _ (by omega)).trans hst.2.2.1), (hj2 _ (by omega)).trans ((hj1 _ (by omega)).trans hst.2.2.2)⟩, hn2.trans (hn1.trans hN1), hsI, hN2⟩ (show k + 1 ≤ k + 10 by omega) (show n + 6 ≤ n + 100 by omega) rfl
      · exact absurd rfl w3
  · exact absurd rfl w1
set_option maxRecDepth 20000 in
theorem law_propose {X : jX} {σ : jS} {nm : String} {hh : List (Nat × Nat × Nat × Nat)} {s : Nat → Int} {N : Nat} {lu du : Nat → Int} {i k n : Nat} {u6 u7 u8 : Value} {Q : jOut → jS → Prop} (hL : LI s N lu du σ) (hi : i + 4 ≤ N) (hkb : k ≤ 500000) (hnb : n ≤ 5000000) (hu6 : u6.category = 1) (hk : ∀ (σ' : jS) (k' n' : Nat) (v6 v7 v8 : Value), LI s N lu du σ' → k' ≤ k + 10 → n' ≤ n + 100 → v6.category = 1 → J X (mLw nm hh) rL_law 1636 [.ref 4, .ref 5, .ref 37, .ref 49, .ref 50, vI ((i : Nat) : Int), v6, v7, v8] [] k' n' σ' Q) : J X (mLw nm hh) rL_law 1498 [.ref 4, .ref 5, .ref 37, .ref 49, .ref 50, vI ((i : Nat) : Int), u6, u7, u8] [] k n σ Q := by
  obtain ⟨⟨th, pr, ln, lw, bn, cd, sz, ph, mn, mg, kn, kr, ks, kt, rd, rg, hW, hM, hI⟩, ⟨f0, e49⟩, ⟨g0, e50⟩, e4, hst, hN1, hsI, hN2⟩ := id hL
  obtain ⟨kk, v, pr', ln', lw', bn', cd', sz', ph', mn', mg', kn', kr', ks', kt', rd', rg', hJ1, hJ2, hI', hk3, hv⟩ := op_propose hW hI e49 e50 (s (i + 1))  (hsI _)
  have hki3 : inI kk := by unfold inI; omega
  refine J.ald_n dL_law_1498 rfl ?_
  refine J.ald_n dL_law_1499 rfl ?_
  refine J.ild dL_law_1500 rfl ?_
  refine J.iconst dL_law_1502 ?_
  refine J.iadd dL_law_1503 ?_
  rw [show (((i : Nat) : Int) : Int) + 1 = ((i + 1 : Nat) : Int) from by push_cast; rfl]
  refine J.iald (i + 1) dL_law_1504 e4 rfl (by omega) (by omega) ?_
  refine J.ald_n dL_law_1505 rfl ?_
  refine J.callSX (rm' := rL_propose) [.ref 5, vI (s (i + 1)), .ref 49] dL_law_1506 (hJ1) st_L_propose ml_L_180 sm_L_propose rfl (Nat.le_of_ble_eq_true rfl) (by decide) (by decide) (Nat.le_of_ble_eq_true rfl) (Nat.le_trans (Nat.add_le_add_right hkb _) (by decide)) (Nat.le_trans (Nat.add_le_add_right hnb _) (by decide)) (fun E9 σ9 hq9 => nomatch hq9.1) (fun r9 σ1 hq9 hle9 => ?_)
  obtain ⟨h9, ⟨f1, e49', hv1⟩, ⟨g1, e50'⟩, hC1, hn1, hj1⟩ := hq9
  cases h9
  clear hle9
  obtain ⟨pa, ps, hO⟩ := hM.1
  refine J.ist dL_law_1509 (Nat.le_of_ble_eq_true rfl) (jnc_of rfl rfl) ?_
  refine J.ald_n dL_law_1511 rfl ?_
  refine J.ald_n dL_law_1512 rfl ?_
  refine J.ild dL_law_1513 rfl ?_
  refine J.iconst dL_law_1515 ?_
  refine J.iadd dL_law_1516 ?_
  rw [show (((i : Nat) : Int) : Int) + 1 = ((i + 1 : Nat) : Int) from by push_cast; rfl]
  refine J.iald (i + 1) dL_law_1517 ((hj1 _ (by omega)).trans e4) rfl (by omega) (by omega) ?_
  refine J.callV (rm' := rX7_propose) [vI (s (i + 1))] dL_law_1518 (hJ2 σ1 th (hM.keep (fun j a b => hj1 j (by omega)))) ((hj1 _ (by omega)).trans hO) rfl st_X7_propose ml_L_182 im_X7_propose se_X7_propose rfl (Nat.le_of_ble_eq_true rfl) (by decide) (by decide) (Nat.le_of_ble_eq_true rfl) (Nat.le_trans (Nat.add_le_add_right (Nat.add_le_add_right hkb _) _) (by decide)) (Nat.le_trans (Nat.add_le_add_right (Nat.add_le_add_right hnb _) _) (by decide)) (Or.inr (fun E9 σ9 hq9 => nomatch hq9.1.choose_spec.1)) (fun E9 σ9 hq9 _ => nomatch hq9.1.choose_spec.1) (fun r9 σ2 hq9 hle9 => ?_)
  obtain ⟨⟨x, h9, hx⟩, hM2, hn2, hj2⟩ := hq9
  cases h9
  clear hle9
  obtain ⟨pa2, ps2, hO2⟩ := hM2.1
  refine J.ist dL_law_1521 (Nat.le_of_ble_eq_true rfl) (jnc_of rfl rfl) ?_
  refine J.ald_n dL_law_1523 rfl ?_
  refine J.callV (rm' := rX7_thrown) [] dL_law_1524 (c_X7_thrown hO2) hO2 rfl st_X7_thrown ml_L_96 im_X7_thrown se_X7_thrown rfl (Nat.le_of_ble_eq_true rfl) (by decide) (by decide) (Nat.le_of_ble_eq_true rfl) (Nat.le_trans (Nat.add_le_add_right (Nat.add_le_add_right (Nat.add_le_add_right hkb _) _) _) (by decide)) (Nat.le_trans (Nat.add_le_add_right (Nat.add_le_add_right (Nat.add_le_add_right hnb _) _) _) (by decide)) (Or.inr (fun E9 σ9 hq9 => nomatch hq9.1)) (fun E9 σ9 hq9 _ => nomatch hq9.1) (fun r9 σ9 hq9 hle9 => ?_)
  obtain ⟨h9, h8⟩ := hq9
  rw [h8]
  clear hle9 h8 σ9
  cases h9
  refine J.ild dL_law_1527 rfl ?_
  refine J.icmp_eq dL_law_1529 (by decide) (tgt := 1534) hki3 hki3 (fun w1 => ?_) (fun w1 => ?_)
  · refine J.ild dL_law_1534 rfl ?_
    refine J.if_ne dL_law_1536 (by decide) (tgt := 1551) hki3 (fun w2 => ?_) (fun w2 => ?_)
    · refine J.goto dL_law_1551 (by decide) (tgt := 1636) ?_
      exact hk σ2 _ _ _ _ _ ⟨⟨kk, _, _, _, _, _, _, _, _, _, _, _, _, _, _, _, hC1.keep (fun j hj => hj2 j (Or.inl hj)), hM2, hI'⟩, ⟨f1, (hj2 _ (by omega)).trans e49'⟩, ⟨g1, (hj2 _ (by omega)).trans e50'⟩, (hj2 _ (by omega)).trans ((hj1 _ (by omega)).trans e4), ⟨(hj2 _ (by omega)).trans ((hj1 _ (by omega)).trans hst.1), (hj2 _ (by omega)).trans ((hj1 _ (by omega)).trans hst.2.1), (hj2 _ (by omega)).trans ((hj1 _ (by omega)).trans hst.2.2.1), (hj2 _ (by omega)).trans ((hj1 _ (by omega)).trans hst.2.2.2)⟩, hn2.trans (hn1.trans hN1), hsI, hN2⟩ (show k + 1 ≤ k + 10 by omega) (show n + 6 ≤ n + 100 by omega) rfl
    · have hk0 : kk = 0 := by omega
      have hxv : x = v := hx hk0
      have hvi := hv hk0
      have hf1 : f1 0 = v := hv1 hk0
      refine J.ald_n dL_law_1539 rfl ?_
      refine J.iconst dL_law_1540 ?_
      refine J.laldD 0 dL_law_1541 ((hj2 _ (by omega)).trans e49') rfl (by omega) (by omega) ?_
      rw [hf1]
      refine J.ild dL_law_1542 rfl ?_
      refine J.i2l dL_law_1544 (by rw [hxv]; exact hvi) ?_
      rw [hxv]
      refine J.lcmp dL_law_1545 ?_
      rw [lg_selfI]
      refine J.if_eq dL_law_1546 (by decide) (tgt := 1551) (by unfold inI; omega) (fun w3 => ?_) (fun w3 => ?_)
      · refine J.goto dL_law_1551 (by decide) (tgt := 1636) ?_
        exact hk σ2 _ _ _ _ _ ⟨⟨kk, _, _, _, _, _, _, _, _, _, _, _, _, _, _, _, hC1.keep (fun j hj => hj2 j (Or.inl hj)), hM2, hI'⟩, ⟨f1, (hj2 _ (by omega)).trans e49'⟩, ⟨g1, (hj2 _ (by omega)).trans e50'⟩, (hj2 _ (by omega)).trans ((hj1 _ (by omega)).trans e4), ⟨(hj2 _ (by omega)).trans ((hj1 _ (by omega)).trans hst.1), (hj2 _ (by omega)).trans ((hj1 _ (by omega)).trans hst.2.1), (hj2 _ (by omega)).trans ((hj1 _ (by omega)).trans hst.2.2.1), (hj2 _ (by omega)).trans ((hj1 _ (by omega)).trans hst.2.2.2)⟩, hn2.trans (hn1.trans hN1), hsI, hN2⟩ (show k + 1 ≤ k + 10 by omega) (show n + 6 ≤ n + 100 by omega) rfl
      · exact absurd rfl w3
  · exact absurd rfl w1
set_option maxRecDepth 20000 in
theorem law_learn {X : jX} {σ : jS} {nm : String} {hh : List (Nat × Nat × Nat × Nat)} {s : Nat → Int} {N : Nat} {lu du : Nat → Int} {i k n : Nat} {u6 u7 u8 : Value} {Q : jOut → jS → Prop} (hL : LI s N lu du σ) (hi : i + 4 ≤ N) (hkb : k ≤ 500000) (hnb : n ≤ 5000000) (hu6 : u6.category = 1) (hk : ∀ (σ' : jS) (k' n' : Nat) (v6 v7 v8 : Value), LI s N lu du σ' → k' ≤ k + 10 → n' ≤ n + 100 → v6.category = 1 → J X (mLw nm hh) rL_law 1636 [.ref 4, .ref 5, .ref 37, .ref 49, .ref 50, vI ((i : Nat) : Int), v6, v7, v8] [] k' n' σ' Q) : J X (mLw nm hh) rL_law 1554 [.ref 4, .ref 5, .ref 37, .ref 49, .ref 50, vI ((i : Nat) : Int), u6, u7, u8] [] k n σ Q := by
  obtain ⟨⟨th, pr, ln, lw, bn, cd, sz, ph, mn, mg, kn, kr, ks, kt, rd, rg, hW, hM, hI⟩, ⟨f0, e49⟩, ⟨g0, e50⟩, e4, hst, hN1, hsI, hN2⟩ := id hL
  obtain ⟨kk, v, pr', ln', lw', bn', cd', sz', ph', mn', mg', kn', kr', ks', kt', rd', rg', hJ1, hJ2, hI', hk3, hv⟩ := op_learn hW hI e49 e50 (s (i + 1))  (s (i + 2))  (hsI _) (hsI _)
  have hki3 : inI kk := by unfold inI; omega
  refine J.ald_n dL_law_1554 rfl ?_
  refine J.ald_n dL_law_1555 rfl ?_
  refine J.ild dL_law_1556 rfl ?_
  refine J.iconst dL_law_1558 ?_
  refine J.iadd dL_law_1559 ?_
  rw [show (((i : Nat) : Int) : Int) + 1 = ((i + 1 : Nat) : Int) from by push_cast; rfl]
  refine J.iald (i + 1) dL_law_1560 e4 rfl (by omega) (by omega) ?_
  refine J.ald_n dL_law_1561 rfl ?_
  refine J.ild dL_law_1562 rfl ?_
  refine J.iconst dL_law_1564 ?_
  refine J.iadd dL_law_1565 ?_
  rw [show (((i : Nat) : Int) : Int) + 2 = ((i + 2 : Nat) : Int) from by push_cast; rfl]
  refine J.iald (i + 2) dL_law_1566 e4 rfl (by omega) (by omega) ?_
  refine J.ald_n dL_law_1567 rfl ?_
  refine J.callSX (rm' := rL_learn) [.ref 5, vI (s (i + 1)), vI (s (i + 2)), .ref 49] dL_law_1568 (hJ1) st_L_learn ml_L_183 sm_L_learn rfl (Nat.le_of_ble_eq_true rfl) (by decide) (by decide) (Nat.le_of_ble_eq_true rfl) (Nat.le_trans (Nat.add_le_add_right hkb _) (by decide)) (Nat.le_trans (Nat.add_le_add_right hnb _) (by decide)) (fun E9 σ9 hq9 => nomatch hq9.1) (fun r9 σ1 hq9 hle9 => ?_)
  obtain ⟨h9, ⟨f1, e49', hv1⟩, ⟨g1, e50'⟩, hC1, hn1, hj1⟩ := hq9
  cases h9
  clear hle9
  obtain ⟨pa, ps, hO⟩ := hM.1
  refine J.ist dL_law_1571 (Nat.le_of_ble_eq_true rfl) (jnc_of rfl rfl) ?_
  refine J.ald_n dL_law_1573 rfl ?_
  refine J.ald_n dL_law_1574 rfl ?_
  refine J.ild dL_law_1575 rfl ?_
  refine J.iconst dL_law_1577 ?_
  refine J.iadd dL_law_1578 ?_
  rw [show (((i : Nat) : Int) : Int) + 1 = ((i + 1 : Nat) : Int) from by push_cast; rfl]
  refine J.iald (i + 1) dL_law_1579 ((hj1 _ (by omega)).trans e4) rfl (by omega) (by omega) ?_
  refine J.ald_n dL_law_1580 rfl ?_
  refine J.ild dL_law_1581 rfl ?_
  refine J.iconst dL_law_1583 ?_
  refine J.iadd dL_law_1584 ?_
  rw [show (((i : Nat) : Int) : Int) + 2 = ((i + 2 : Nat) : Int) from by push_cast; rfl]
  refine J.iald (i + 2) dL_law_1585 ((hj1 _ (by omega)).trans e4) rfl (by omega) (by omega) ?_
  refine J.callV (rm' := rX7_learn) [vI (s (i + 1)), vI (s (i + 2))] dL_law_1586 (hJ2 σ1 th (hM.keep (fun j a b => hj1 j (by omega)))) ((hj1 _ (by omega)).trans hO) rfl st_X7_learn ml_L_185 im_X7_learn se_X7_learn rfl (Nat.le_of_ble_eq_true rfl) (by decide) (by decide) (Nat.le_of_ble_eq_true rfl) (Nat.le_trans (Nat.add_le_add_right (Nat.add_le_add_right hkb _) _) (by decide)) (Nat.le_trans (Nat.add_le_add_right (Nat.add_le_add_right hnb _) _) (by decide)) (Or.inr (fun E9 σ9 hq9 => nomatch hq9.1.choose_spec.1)) (fun E9 σ9 hq9 _ => nomatch hq9.1.choose_spec.1) (fun r9 σ2 hq9 hle9 => ?_)
  obtain ⟨⟨x, h9, hx⟩, hM2, hn2, hj2⟩ := hq9
  cases h9
  clear hle9
  obtain ⟨pa2, ps2, hO2⟩ := hM2.1
  refine J.ist dL_law_1589 (Nat.le_of_ble_eq_true rfl) (jnc_of rfl rfl) ?_
  refine J.ald_n dL_law_1591 rfl ?_
  refine J.callV (rm' := rX7_thrown) [] dL_law_1592 (c_X7_thrown hO2) hO2 rfl st_X7_thrown ml_L_96 im_X7_thrown se_X7_thrown rfl (Nat.le_of_ble_eq_true rfl) (by decide) (by decide) (Nat.le_of_ble_eq_true rfl) (Nat.le_trans (Nat.add_le_add_right (Nat.add_le_add_right (Nat.add_le_add_right hkb _) _) _) (by decide)) (Nat.le_trans (Nat.add_le_add_right (Nat.add_le_add_right (Nat.add_le_add_right hnb _) _) _) (by decide)) (Or.inr (fun E9 σ9 hq9 => nomatch hq9.1)) (fun E9 σ9 hq9 _ => nomatch hq9.1) (fun r9 σ9 hq9 hle9 => ?_)
  obtain ⟨h9, h8⟩ := hq9
  rw [h8]
  clear hle9 h8 σ9
  cases h9
  refine J.ild dL_law_1595 rfl ?_
  refine J.icmp_eq dL_law_1597 (by decide) (tgt := 1602) hki3 hki3 (fun w1 => ?_) (fun w1 => ?_)
  · refine J.ild dL_law_1602 rfl ?_
    refine J.if_ne dL_law_1604 (by decide) (tgt := 1619) hki3 (fun w2 => ?_) (fun w2 => ?_)
    · refine J.goto dL_law_1619 (by decide) (tgt := 1636) ?_
      exact hk σ2 _ _ _ _ _ ⟨⟨kk, _, _, _, _, _, _, _, _, _, _, _, _, _, _, _, hC1.keep (fun j hj => hj2 j (Or.inl hj)), hM2, hI'⟩, ⟨f1, (hj2 _ (by omega)).trans e49'⟩, ⟨g1, (hj2 _ (by omega)).trans e50'⟩, (hj2 _ (by omega)).trans ((hj1 _ (by omega)).trans e4), ⟨(hj2 _ (by omega)).trans ((hj1 _ (by omega)).trans hst.1), (hj2 _ (by omega)).trans ((hj1 _ (by omega)).trans hst.2.1), (hj2 _ (by omega)).trans ((hj1 _ (by omega)).trans hst.2.2.1), (hj2 _ (by omega)).trans ((hj1 _ (by omega)).trans hst.2.2.2)⟩, hn2.trans (hn1.trans hN1), hsI, hN2⟩ (show k + 2 ≤ k + 10 by omega) (show n + 12 ≤ n + 100 by omega) rfl
    · have hk0 : kk = 0 := by omega
      have hxv : x = v := hx hk0
      have hvi := hv hk0
      have hf1 : f1 0 = v := hv1 hk0
      refine J.ald_n dL_law_1607 rfl ?_
      refine J.iconst dL_law_1608 ?_
      refine J.laldD 0 dL_law_1609 ((hj2 _ (by omega)).trans e49') rfl (by omega) (by omega) ?_
      rw [hf1]
      refine J.ild dL_law_1610 rfl ?_
      refine J.i2l dL_law_1612 (by rw [hxv]; exact hvi) ?_
      rw [hxv]
      refine J.lcmp dL_law_1613 ?_
      rw [lg_selfI]
      refine J.if_eq dL_law_1614 (by decide) (tgt := 1619) (by unfold inI; omega) (fun w3 => ?_) (fun w3 => ?_)
      · refine J.goto dL_law_1619 (by decide) (tgt := 1636) ?_
        exact hk σ2 _ _ _ _ _ ⟨⟨kk, _, _, _, _, _, _, _, _, _, _, _, _, _, _, _, hC1.keep (fun j hj => hj2 j (Or.inl hj)), hM2, hI'⟩, ⟨f1, (hj2 _ (by omega)).trans e49'⟩, ⟨g1, (hj2 _ (by omega)).trans e50'⟩, (hj2 _ (by omega)).trans ((hj1 _ (by omega)).trans e4), ⟨(hj2 _ (by omega)).trans ((hj1 _ (by omega)).trans hst.1), (hj2 _ (by omega)).trans ((hj1 _ (by omega)).trans hst.2.1), (hj2 _ (by omega)).trans ((hj1 _ (by omega)).trans hst.2.2.1), (hj2 _ (by omega)).trans ((hj1 _ (by omega)).trans hst.2.2.2)⟩, hn2.trans (hn1.trans hN1), hsI, hN2⟩ (show k + 2 ≤ k + 10 by omega) (show n + 12 ≤ n + 100 by omega) rfl
      · exact absurd rfl w3
  · exact absurd rfl w1
