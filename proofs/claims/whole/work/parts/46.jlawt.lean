theorem dcmp_self (w : UInt64) : FP.dcmp w w = none ∨ FP.dcmp w w = some .eq := by
  have hc : ∀ x : Int, compare x x = .eq := fun x => by simp [compare, compareOfLessAndEq]
  show FP.Core.order (FP.Core.decode FP.Core.b64 w.toNat) (FP.Core.decode FP.Core.b64 w.toNat) = none ∨ FP.Core.order (FP.Core.decode FP.Core.b64 w.toNat) (FP.Core.decode FP.Core.b64 w.toNat) = some .eq
  cases FP.Core.decode FP.Core.b64 w.toNat with
  | nan => exact Or.inl rfl
  | inf s => exact Or.inr (congrArg some (hc _))
  | fin s c q => exact Or.inr (congrArg some (hc _))
set_option maxRecDepth 20000 in
theorem law_empty {X : jX} {σ : jS} {nm : String} {hh : List (Nat × Nat × Nat × Nat)} {s : Nat → Int} {N : Nat} {lu du : Nat → Int} {i k n : Nat} {u6 u7 u8 : Value} {Q : jOut → jS → Prop} (hL : LI s N lu du σ) (hi : i + 4 ≤ N) (hkb : k ≤ 500000) (hnb : n ≤ 5000000) (hu6 : u6.category = 1) (hk : ∀ (σ' : jS) (k' n' : Nat) (v6 v7 v8 : Value), LI s N lu du σ' → k' ≤ k + 10 → n' ≤ n + 100 → v6.category = 1 → J X (mLw nm hh) rL_law 1636 [.ref 4, .ref 5, .ref 37, .ref 49, .ref 50, vI ((i : Nat) : Int), v6, v7, v8] [] k' n' σ' Q) : J X (mLw nm hh) rL_law 228 [.ref 4, .ref 5, .ref 37, .ref 49, .ref 50, vI ((i : Nat) : Int), u6, u7, u8] [] k n σ Q := by
  obtain ⟨⟨th, pr, ln, lw, bn, cd, sz, ph, mn, mg, kn, kr, ks, kt, rd, rg, hW, hM, hI⟩, ⟨f0, e49⟩, ⟨g0, e50⟩, e4, hst, hN1, hsI, hN2⟩ := id hL
  obtain ⟨hpr, ⟨hln, hlw⟩, hbk, ⟨hmn, hmg⟩, hki, hrd, hrg⟩ := id hI
  refine J.ald_n dL_law_228 rfl ?_
  refine J.callV (rm' := rX6_empty) [] dL_law_229 (c_empty hW hI ) hW.1.1 rfl st_X6_empty ml_L_99 im_X6_empty se_X6_empty rfl (Nat.le_of_ble_eq_true rfl) (by decide) (by decide) (Nat.le_of_ble_eq_true rfl) (Nat.le_trans (Nat.add_le_add_right hkb _) (by decide)) (Nat.le_trans (Nat.add_le_add_right hnb _) (by decide)) (Or.inr (fun E9 σ9 hq9 => nomatch hq9.1)) (fun E9 σ9 hq9 _ => nomatch hq9.1) (fun r9 σ1 hq9 hle9 => ?_)
  obtain ⟨h9, hC1, hn1, hj1⟩ := hq9
  cases h9
  clear hle9
  obtain ⟨pa, ps, hO⟩ := hM.1
  refine J.ald_n dL_law_232 rfl ?_
  have hM1 := hM.keep (fun j a b => hj1 j (by omega))
  refine J.callV (rm' := rX7_empty) [] dL_law_233 (m_empty hM1 hI ) ((hj1 _ (by omega)).trans hO) rfl st_X7_empty ml_L_102 im_X7_empty se_X7_empty rfl (Nat.le_of_ble_eq_true rfl) (by decide) (by decide) (Nat.le_of_ble_eq_true rfl) (Nat.le_trans (Nat.add_le_add_right (Nat.add_le_add_right hkb _) _) (by decide)) (Nat.le_trans (Nat.add_le_add_right (Nat.add_le_add_right hnb _) _) (by decide)) (Or.inr (fun E9 σ9 hq9 => nomatch hq9.1.choose_spec.1)) (fun E9 σ9 hq9 _ => nomatch hq9.1.choose_spec.1) (fun r9 σ2 hq9 hle9 => ?_)
  obtain ⟨⟨x, h9, hx⟩, hM2, hn2, hj2⟩ := hq9
  cases h9
  clear hle9
  have hxv := hx rfl
  subst hxv
  refine J.icmp_eq dL_law_236 (by decide) (tgt := 1636) (by unfold inI; omega) (by unfold inI; omega) (fun w1 => ?_) (fun w1 => ?_)
  · exact hk σ2 _ _ _ _ _ ⟨⟨0, _, _, _, _, _, _, _, _, _, _, _, _, _, _, _, hC1.keep (fun j hj => hj2 j (Or.inl hj)), hM2, ⟨hpr, ⟨by omega, hlw⟩, hbk, ⟨hmn, hmg⟩, hki, hrd, hrg⟩⟩, ⟨_, ((hj2 _ (by omega)).trans ((hj1 _ (by omega)).trans e49))⟩, ⟨_, ((hj2 _ (by omega)).trans ((hj1 _ (by omega)).trans e50))⟩, ((hj2 _ (by omega)).trans ((hj1 _ (by omega)).trans e4)), ⟨((hj2 _ (by omega)).trans ((hj1 _ (by omega)).trans hst.1)), ((hj2 _ (by omega)).trans ((hj1 _ (by omega)).trans hst.2.1)), ((hj2 _ (by omega)).trans ((hj1 _ (by omega)).trans hst.2.2.1)), ((hj2 _ (by omega)).trans ((hj1 _ (by omega)).trans hst.2.2.2))⟩, hn2.trans (hn1.trans hN1), hsI, hN2⟩ (show k + 0 ≤ k + 10 by omega) (show n + 0 ≤ n + 100 by omega) hu6
  · exact absurd rfl w1
set_option maxRecDepth 20000 in
theorem law_words {X : jX} {σ : jS} {nm : String} {hh : List (Nat × Nat × Nat × Nat)} {s : Nat → Int} {N : Nat} {lu du : Nat → Int} {i k n : Nat} {u6 u7 u8 : Value} {Q : jOut → jS → Prop} (hL : LI s N lu du σ) (hi : i + 4 ≤ N) (hkb : k ≤ 500000) (hnb : n ≤ 5000000) (hu6 : u6.category = 1) (hk : ∀ (σ' : jS) (k' n' : Nat) (v6 v7 v8 : Value), LI s N lu du σ' → k' ≤ k + 10 → n' ≤ n + 100 → v6.category = 1 → J X (mLw nm hh) rL_law 1636 [.ref 4, .ref 5, .ref 37, .ref 49, .ref 50, vI ((i : Nat) : Int), v6, v7, v8] [] k' n' σ' Q) : J X (mLw nm hh) rL_law 241 [.ref 4, .ref 5, .ref 37, .ref 49, .ref 50, vI ((i : Nat) : Int), u6, u7, u8] [] k n σ Q := by
  obtain ⟨⟨th, pr, ln, lw, bn, cd, sz, ph, mn, mg, kn, kr, ks, kt, rd, rg, hW, hM, hI⟩, ⟨f0, e49⟩, ⟨g0, e50⟩, e4, hst, hN1, hsI, hN2⟩ := id hL
  obtain ⟨hpr, ⟨hln, hlw⟩, hbk, ⟨hmn, hmg⟩, hki, hrd, hrg⟩ := id hI
  refine J.ald_n dL_law_241 rfl ?_
  refine J.callV (rm' := rX6_words) [] dL_law_242 (c_words hW hI ) hW.1.1 rfl st_X6_words ml_L_103 im_X6_words se_X6_words rfl (Nat.le_of_ble_eq_true rfl) (by decide) (by decide) (Nat.le_of_ble_eq_true rfl) (Nat.le_trans (Nat.add_le_add_right hkb _) (by decide)) (Nat.le_trans (Nat.add_le_add_right hnb _) (by decide)) (Or.inr (fun E9 σ9 hq9 => nomatch hq9.1)) (fun E9 σ9 hq9 _ => nomatch hq9.1) (fun r9 σ1 hq9 hle9 => ?_)
  obtain ⟨h9, hC1, hn1, hj1⟩ := hq9
  cases h9
  clear hle9
  obtain ⟨pa, ps, hO⟩ := hM.1
  refine J.ald_n dL_law_245 rfl ?_
  have hM1 := hM.keep (fun j a b => hj1 j (by omega))
  refine J.callV (rm' := rX7_words) [] dL_law_246 (m_words hM1 hI ) ((hj1 _ (by omega)).trans hO) rfl st_X7_words ml_L_106 im_X7_words se_X7_words rfl (Nat.le_of_ble_eq_true rfl) (by decide) (by decide) (Nat.le_of_ble_eq_true rfl) (Nat.le_trans (Nat.add_le_add_right (Nat.add_le_add_right hkb _) _) (by decide)) (Nat.le_trans (Nat.add_le_add_right (Nat.add_le_add_right hnb _) _) (by decide)) (Or.inr (fun E9 σ9 hq9 => nomatch hq9.1.choose_spec.1)) (fun E9 σ9 hq9 _ => nomatch hq9.1.choose_spec.1) (fun r9 σ2 hq9 hle9 => ?_)
  obtain ⟨⟨x, h9, hx⟩, hM2, hn2, hj2⟩ := hq9
  cases h9
  clear hle9
  have hxv := hx rfl
  subst hxv
  refine J.icmp_eq dL_law_249 (by decide) (tgt := 1636) (by unfold inI; omega) (by unfold inI; omega) (fun w1 => ?_) (fun w1 => ?_)
  · exact hk σ2 _ _ _ _ _ ⟨⟨0, _, _, _, _, _, _, _, _, _, _, _, _, _, _, _, hC1.keep (fun j hj => hj2 j (Or.inl hj)), hM2, hI⟩, ⟨_, ((hj2 _ (by omega)).trans ((hj1 _ (by omega)).trans e49))⟩, ⟨_, ((hj2 _ (by omega)).trans ((hj1 _ (by omega)).trans e50))⟩, ((hj2 _ (by omega)).trans ((hj1 _ (by omega)).trans e4)), ⟨((hj2 _ (by omega)).trans ((hj1 _ (by omega)).trans hst.1)), ((hj2 _ (by omega)).trans ((hj1 _ (by omega)).trans hst.2.1)), ((hj2 _ (by omega)).trans ((hj1 _ (by omega)).trans hst.2.2.1)), ((hj2 _ (by omega)).trans ((hj1 _ (by omega)).trans hst.2.2.2))⟩, hn2.trans (hn1.trans hN1), hsI, hN2⟩ (show k + 0 ≤ k + 10 by omega) (show n + 0 ≤ n + 100 by omega) hu6
  · exact absurd rfl w1
set_option maxRecDepth 20000 in
theorem law_groups {X : jX} {σ : jS} {nm : String} {hh : List (Nat × Nat × Nat × Nat)} {s : Nat → Int} {N : Nat} {lu du : Nat → Int} {i k n : Nat} {u6 u7 u8 : Value} {Q : jOut → jS → Prop} (hL : LI s N lu du σ) (hi : i + 4 ≤ N) (hkb : k ≤ 500000) (hnb : n ≤ 5000000) (hu6 : u6.category = 1) (hk : ∀ (σ' : jS) (k' n' : Nat) (v6 v7 v8 : Value), LI s N lu du σ' → k' ≤ k + 10 → n' ≤ n + 100 → v6.category = 1 → J X (mLw nm hh) rL_law 1636 [.ref 4, .ref 5, .ref 37, .ref 49, .ref 50, vI ((i : Nat) : Int), v6, v7, v8] [] k' n' σ' Q) : J X (mLw nm hh) rL_law 1066 [.ref 4, .ref 5, .ref 37, .ref 49, .ref 50, vI ((i : Nat) : Int), u6, u7, u8] [] k n σ Q := by
  obtain ⟨⟨th, pr, ln, lw, bn, cd, sz, ph, mn, mg, kn, kr, ks, kt, rd, rg, hW, hM, hI⟩, ⟨f0, e49⟩, ⟨g0, e50⟩, e4, hst, hN1, hsI, hN2⟩ := id hL
  obtain ⟨hpr, ⟨hln, hlw⟩, hbk, ⟨hmn, hmg⟩, hki, hrd, hrg⟩ := id hI
  refine J.ald_n dL_law_1066 rfl ?_
  refine J.callV (rm' := rX6_groups) [] dL_law_1067 (c_groups hW hI ) hW.1.1 rfl st_X6_groups ml_L_149 im_X6_groups se_X6_groups rfl (Nat.le_of_ble_eq_true rfl) (by decide) (by decide) (Nat.le_of_ble_eq_true rfl) (Nat.le_trans (Nat.add_le_add_right hkb _) (by decide)) (Nat.le_trans (Nat.add_le_add_right hnb _) (by decide)) (Or.inr (fun E9 σ9 hq9 => nomatch hq9.1)) (fun E9 σ9 hq9 _ => nomatch hq9.1) (fun r9 σ1 hq9 hle9 => ?_)
  obtain ⟨h9, hC1, hn1, hj1⟩ := hq9
  cases h9
  clear hle9
  obtain ⟨pa, ps, hO⟩ := hM.1
  refine J.ald_n dL_law_1070 rfl ?_
  have hM1 := hM.keep (fun j a b => hj1 j (by omega))
  refine J.callV (rm' := rX7_groups) [] dL_law_1071 (m_groups hM1 hI ) ((hj1 _ (by omega)).trans hO) rfl st_X7_groups ml_L_152 im_X7_groups se_X7_groups rfl (Nat.le_of_ble_eq_true rfl) (by decide) (by decide) (Nat.le_of_ble_eq_true rfl) (Nat.le_trans (Nat.add_le_add_right (Nat.add_le_add_right hkb _) _) (by decide)) (Nat.le_trans (Nat.add_le_add_right (Nat.add_le_add_right hnb _) _) (by decide)) (Or.inr (fun E9 σ9 hq9 => nomatch hq9.1.choose_spec.1)) (fun E9 σ9 hq9 _ => nomatch hq9.1.choose_spec.1) (fun r9 σ2 hq9 hle9 => ?_)
  obtain ⟨⟨x, h9, hx⟩, hM2, hn2, hj2⟩ := hq9
  cases h9
  clear hle9
  have hxv := hx rfl
  subst hxv
  refine J.icmp_eq dL_law_1074 (by decide) (tgt := 1636) (by unfold inI; omega) (by unfold inI; omega) (fun w1 => ?_) (fun w1 => ?_)
  · exact hk σ2 _ _ _ _ _ ⟨⟨0, _, _, _, _, _, _, _, _, _, _, _, _, _, _, _, hC1.keep (fun j hj => hj2 j (Or.inl hj)), hM2, hI⟩, ⟨_, ((hj2 _ (by omega)).trans ((hj1 _ (by omega)).trans e49))⟩, ⟨_, ((hj2 _ (by omega)).trans ((hj1 _ (by omega)).trans e50))⟩, ((hj2 _ (by omega)).trans ((hj1 _ (by omega)).trans e4)), ⟨((hj2 _ (by omega)).trans ((hj1 _ (by omega)).trans hst.1)), ((hj2 _ (by omega)).trans ((hj1 _ (by omega)).trans hst.2.1)), ((hj2 _ (by omega)).trans ((hj1 _ (by omega)).trans hst.2.2.1)), ((hj2 _ (by omega)).trans ((hj1 _ (by omega)).trans hst.2.2.2))⟩, hn2.trans (hn1.trans hN1), hsI, hN2⟩ (show k + 0 ≤ k + 10 by omega) (show n + 0 ≤ n + 100 by omega) hu6
  · exact absurd rfl w1
set_option maxRecDepth 20000 in
theorem law_cost {X : jX} {σ : jS} {nm : String} {hh : List (Nat × Nat × Nat × Nat)} {s : Nat → Int} {N : Nat} {lu du : Nat → Int} {i k n : Nat} {u6 u7 u8 : Value} {Q : jOut → jS → Prop} (hL : LI s N lu du σ) (hi : i + 4 ≤ N) (hkb : k ≤ 500000) (hnb : n ≤ 5000000) (hu6 : u6.category = 1) (hk : ∀ (σ' : jS) (k' n' : Nat) (v6 v7 v8 : Value), LI s N lu du σ' → k' ≤ k + 10 → n' ≤ n + 100 → v6.category = 1 → J X (mLw nm hh) rL_law 1636 [.ref 4, .ref 5, .ref 37, .ref 49, .ref 50, vI ((i : Nat) : Int), v6, v7, v8] [] k' n' σ' Q) : J X (mLw nm hh) rL_law 1395 [.ref 4, .ref 5, .ref 37, .ref 49, .ref 50, vI ((i : Nat) : Int), u6, u7, u8] [] k n σ Q := by
  obtain ⟨⟨th, pr, ln, lw, bn, cd, sz, ph, mn, mg, kn, kr, ks, kt, rd, rg, hW, hM, hI⟩, ⟨f0, e49⟩, ⟨g0, e50⟩, e4, hst, hN1, hsI, hN2⟩ := id hL
  obtain ⟨hpr, ⟨hln, hlw⟩, hbk, ⟨hmn, hmg⟩, hki, hrd, hrg⟩ := id hI
  have hcb := csL_bd (m := mg) hpr mn 0
  refine J.ald_n dL_law_1395 rfl ?_
  refine J.callV (rm' := rX6_cost) [] dL_law_1396 (c_cost hW hI ) hW.1.1 rfl st_X6_cost ml_L_168 im_X6_cost se_X6_cost rfl (Nat.le_of_ble_eq_true rfl) (by decide) (by decide) (Nat.le_of_ble_eq_true rfl) (Nat.le_trans (Nat.add_le_add_right hkb _) (by decide)) (Nat.le_trans (Nat.add_le_add_right hnb _) (by decide)) (Or.inr (fun E9 σ9 hq9 => nomatch hq9.1)) (fun E9 σ9 hq9 _ => nomatch hq9.1) (fun r9 σ1 hq9 hle9 => ?_)
  obtain ⟨h9, hC1, hn1, hj1⟩ := hq9
  cases h9
  clear hle9
  obtain ⟨pa, ps, hO⟩ := hM.1
  refine J.ald_n dL_law_1399 rfl ?_
  have hM1 := hM.keep (fun j a b => hj1 j (by omega))
  refine J.callV (rm' := rX7_cost) [] dL_law_1400 (m_cost hM1 hI ) ((hj1 _ (by omega)).trans hO) rfl st_X7_cost ml_L_171 im_X7_cost se_X7_cost rfl (Nat.le_of_ble_eq_true rfl) (by decide) (by decide) (Nat.le_of_ble_eq_true rfl) (Nat.le_trans (Nat.add_le_add_right (Nat.add_le_add_right hkb _) _) (by decide)) (Nat.le_trans (Nat.add_le_add_right (Nat.add_le_add_right hnb _) _) (by decide)) (Or.inr (fun E9 σ9 hq9 => nomatch hq9.1.choose_spec.1)) (fun E9 σ9 hq9 _ => nomatch hq9.1.choose_spec.1) (fun r9 σ2 hq9 hle9 => ?_)
  obtain ⟨⟨x, h9, hx⟩, hM2, hn2, hj2⟩ := hq9
  cases h9
  clear hle9
  have hxv := hx rfl
  subst hxv
  refine J.icmp_eq dL_law_1403 (by decide) (tgt := 1636) (by unfold inI; omega) (by unfold inI; omega) (fun w1 => ?_) (fun w1 => ?_)
  · exact hk σ2 _ _ _ _ _ ⟨⟨0, _, _, _, _, _, _, _, _, _, _, _, _, _, _, _, hC1.keep (fun j hj => hj2 j (Or.inl hj)), hM2, hI⟩, ⟨_, ((hj2 _ (by omega)).trans ((hj1 _ (by omega)).trans e49))⟩, ⟨_, ((hj2 _ (by omega)).trans ((hj1 _ (by omega)).trans e50))⟩, ((hj2 _ (by omega)).trans ((hj1 _ (by omega)).trans e4)), ⟨((hj2 _ (by omega)).trans ((hj1 _ (by omega)).trans hst.1)), ((hj2 _ (by omega)).trans ((hj1 _ (by omega)).trans hst.2.1)), ((hj2 _ (by omega)).trans ((hj1 _ (by omega)).trans hst.2.2.1)), ((hj2 _ (by omega)).trans ((hj1 _ (by omega)).trans hst.2.2.2))⟩, hn2.trans (hn1.trans hN1), hsI, hN2⟩ (show k + 0 ≤ k + 10 by omega) (show n + 0 ≤ n + 100 by omega) hu6
  · exact absurd rfl w1
set_option maxRecDepth 20000 in
theorem law_time {X : jX} {σ : jS} {nm : String} {hh : List (Nat × Nat × Nat × Nat)} {s : Nat → Int} {N : Nat} {lu du : Nat → Int} {i k n : Nat} {u6 u7 u8 : Value} {Q : jOut → jS → Prop} (hL : LI s N lu du σ) (hi : i + 4 ≤ N) (hkb : k ≤ 500000) (hnb : n ≤ 5000000) (hu6 : u6.category = 1) (hk : ∀ (σ' : jS) (k' n' : Nat) (v6 v7 v8 : Value), LI s N lu du σ' → k' ≤ k + 10 → n' ≤ n + 100 → v6.category = 1 → J X (mLw nm hh) rL_law 1636 [.ref 4, .ref 5, .ref 37, .ref 49, .ref 50, vI ((i : Nat) : Int), v6, v7, v8] [] k' n' σ' Q) (hlu : ∀ i, i < 26 → 0 ≤ lu i ∧ lu i ≤ 100) (hdu : ∀ i, i < 10 → 0 ≤ du i ∧ du i ≤ 100) : J X (mLw nm hh) rL_law 1408 [.ref 4, .ref 5, .ref 37, .ref 49, .ref 50, vI ((i : Nat) : Int), u6, u7, u8] [] k n σ Q := by
  obtain ⟨⟨th, pr, ln, lw, bn, cd, sz, ph, mn, mg, kn, kr, ks, kt, rd, rg, hW, hM, hI⟩, ⟨f0, e49⟩, ⟨g0, e50⟩, e4, hst, hN1, hsI, hN2⟩ := id hL
  obtain ⟨hpr, ⟨hln, hlw⟩, hbk, ⟨hmn, hmg⟩, hki, hrd, hrg⟩ := id hI
  have htb := tmL_bd (m := mg) hlu hdu mn 0
  refine J.ald_n dL_law_1408 rfl ?_
  refine J.callV (rm' := rX6_time) [] dL_law_1409 (c_time hW hI hst.1 hst.2.1) hW.1.1 rfl st_X6_time ml_L_172 im_X6_time se_X6_time rfl (Nat.le_of_ble_eq_true rfl) (by decide) (by decide) (Nat.le_of_ble_eq_true rfl) (Nat.le_trans (Nat.add_le_add_right hkb _) (by decide)) (Nat.le_trans (Nat.add_le_add_right hnb _) (by decide)) (Or.inr (fun E9 σ9 hq9 => nomatch hq9.1)) (fun E9 σ9 hq9 _ => nomatch hq9.1) (fun r9 σ1 hq9 hle9 => ?_)
  obtain ⟨h9, hC1, hn1, hj1⟩ := hq9
  cases h9
  clear hle9
  obtain ⟨pa, ps, hO⟩ := hM.1
  refine J.ald_n dL_law_1412 rfl ?_
  have hM1 := hM.keep (fun j a b => hj1 j (by omega))
  refine J.callV (rm' := rX7_time) [] dL_law_1413 (m_time hM1 hI ((hj1 _ (by omega)).trans hst.2.2.1) ((hj1 _ (by omega)).trans hst.2.2.2)) ((hj1 _ (by omega)).trans hO) rfl st_X7_time ml_L_175 im_X7_time se_X7_time rfl (Nat.le_of_ble_eq_true rfl) (by decide) (by decide) (Nat.le_of_ble_eq_true rfl) (Nat.le_trans (Nat.add_le_add_right (Nat.add_le_add_right hkb _) _) (by decide)) (Nat.le_trans (Nat.add_le_add_right (Nat.add_le_add_right hnb _) _) (by decide)) (Or.inr (fun E9 σ9 hq9 => nomatch hq9.1.choose_spec.1)) (fun E9 σ9 hq9 _ => nomatch hq9.1.choose_spec.1) (fun r9 σ2 hq9 hle9 => ?_)
  obtain ⟨⟨x, h9, hx⟩, hM2, hn2, hj2⟩ := hq9
  cases h9
  clear hle9
  have hxv := hx rfl
  subst hxv
  refine J.icmp_eq dL_law_1416 (by decide) (tgt := 1636) (by unfold inI; omega) (by unfold inI; omega) (fun w1 => ?_) (fun w1 => ?_)
  · exact hk σ2 _ _ _ _ _ ⟨⟨0, _, _, _, _, _, _, _, _, _, _, _, _, _, _, _, hC1.keep (fun j hj => hj2 j (Or.inl hj)), hM2, hI⟩, ⟨_, ((hj2 _ (by omega)).trans ((hj1 _ (by omega)).trans e49))⟩, ⟨_, ((hj2 _ (by omega)).trans ((hj1 _ (by omega)).trans e50))⟩, ((hj2 _ (by omega)).trans ((hj1 _ (by omega)).trans e4)), ⟨((hj2 _ (by omega)).trans ((hj1 _ (by omega)).trans hst.1)), ((hj2 _ (by omega)).trans ((hj1 _ (by omega)).trans hst.2.1)), ((hj2 _ (by omega)).trans ((hj1 _ (by omega)).trans hst.2.2.1)), ((hj2 _ (by omega)).trans ((hj1 _ (by omega)).trans hst.2.2.2))⟩, hn2.trans (hn1.trans hN1), hsI, hN2⟩ (show k + 0 ≤ k + 10 by omega) (show n + 0 ≤ n + 100 by omega) hu6
  · exact absurd rfl w1
set_option maxRecDepth 20000 in
theorem law_digest {X : jX} {σ : jS} {nm : String} {hh : List (Nat × Nat × Nat × Nat)} {s : Nat → Int} {N : Nat} {lu du : Nat → Int} {i k n : Nat} {u6 u7 u8 : Value} {Q : jOut → jS → Prop} (hL : LI s N lu du σ) (hi : i + 4 ≤ N) (hkb : k ≤ 500000) (hnb : n ≤ 5000000) (hu6 : u6.category = 1) (hk : ∀ (σ' : jS) (k' n' : Nat) (v6 v7 v8 : Value), LI s N lu du σ' → k' ≤ k + 10 → n' ≤ n + 100 → v6.category = 1 → J X (mLw nm hh) rL_law 1636 [.ref 4, .ref 5, .ref 37, .ref 49, .ref 50, vI ((i : Nat) : Int), v6, v7, v8] [] k' n' σ' Q) : J X (mLw nm hh) rL_law 1622 [.ref 4, .ref 5, .ref 37, .ref 49, .ref 50, vI ((i : Nat) : Int), u6, u7, u8] [] k n σ Q := by
  obtain ⟨⟨th, pr, ln, lw, bn, cd, sz, ph, mn, mg, kn, kr, ks, kt, rd, rg, hW, hM, hI⟩, ⟨f0, e49⟩, ⟨g0, e50⟩, e4, hst, hN1, hsI, hN2⟩ := id hL
  obtain ⟨hpr, ⟨hln, hlw⟩, hbk, ⟨hmn, hmg⟩, hki, hrd, hrg⟩ := id hI
  refine J.ald_n dL_law_1622 rfl ?_
  refine J.callV (rm' := rX6_digest) [] dL_law_1623 (c_digest hW hI ) hW.1.1 rfl st_X6_digest ml_L_186 im_X6_digest se_X6_digest rfl (Nat.le_of_ble_eq_true rfl) (by decide) (by decide) (Nat.le_of_ble_eq_true rfl) (Nat.le_trans (Nat.add_le_add_right hkb _) (by decide)) (Nat.le_trans (Nat.add_le_add_right hnb _) (by decide)) (Or.inr (fun E9 σ9 hq9 => nomatch hq9.1)) (fun E9 σ9 hq9 _ => nomatch hq9.1) (fun r9 σ1 hq9 hle9 => ?_)
  obtain ⟨h9, hC1, hn1, hj1⟩ := hq9
  cases h9
  clear hle9
  obtain ⟨pa, ps, hO⟩ := hM.1
  refine J.ald_n dL_law_1626 rfl ?_
  have hM1 := hM.keep (fun j a b => hj1 j (by omega))
  refine J.callV (rm' := rX7_digest) [] dL_law_1627 (m_digest hM1 hI ) ((hj1 _ (by omega)).trans hO) rfl st_X7_digest ml_L_190 im_X7_digest se_X7_digest rfl (Nat.le_of_ble_eq_true rfl) (by decide) (by decide) (Nat.le_of_ble_eq_true rfl) (Nat.le_trans (Nat.add_le_add_right (Nat.add_le_add_right hkb _) _) (by decide)) (Nat.le_trans (Nat.add_le_add_right (Nat.add_le_add_right hnb _) _) (by decide)) (Or.inr (fun E9 σ9 hq9 => nomatch hq9.1)) (fun E9 σ9 hq9 _ => nomatch hq9.1) (fun r9 σ2 hq9 hle9 => ?_)
  obtain ⟨h9, hM2, hn2, hj2⟩ := hq9
  cases h9
  clear hle9
  refine J.lcmp dL_law_1630 ?_
  rw [lg_selfI]
  refine J.if_eq dL_law_1631 (by decide) (tgt := 1636) (by unfold inI; omega) (fun w1 => ?_) (fun w1 => ?_)
  · exact hk σ2 _ _ _ _ _ ⟨⟨0, _, _, _, _, _, _, _, _, _, _, _, _, _, _, _, hC1.keep (fun j hj => hj2 j (Or.inl hj)), hM2, hI⟩, ⟨_, ((hj2 _ (by omega)).trans ((hj1 _ (by omega)).trans e49))⟩, ⟨_, ((hj2 _ (by omega)).trans ((hj1 _ (by omega)).trans e50))⟩, ((hj2 _ (by omega)).trans ((hj1 _ (by omega)).trans e4)), ⟨((hj2 _ (by omega)).trans ((hj1 _ (by omega)).trans hst.1)), ((hj2 _ (by omega)).trans ((hj1 _ (by omega)).trans hst.2.1)), ((hj2 _ (by omega)).trans ((hj1 _ (by omega)).trans hst.2.2.1)), ((hj2 _ (by omega)).trans ((hj1 _ (by omega)).trans hst.2.2.2))⟩, hn2.trans (hn1.trans hN1), hsI, hN2⟩ (show k + 0 ≤ k + 10 by omega) (show n + 0 ≤ n + 100 by omega) hu6
  · exact absurd rfl w1
set_option maxRecDepth 20000 in
theorem law_share {X : jX} {σ : jS} {nm : String} {hh : List (Nat × Nat × Nat × Nat)} {s : Nat → Int} {N : Nat} {lu du : Nat → Int} {i k n : Nat} {u6 u7 u8 : Value} {Q : jOut → jS → Prop} (hL : LI s N lu du σ) (hi : i + 4 ≤ N) (hkb : k ≤ 500000) (hnb : n ≤ 5000000) (hu6 : u6.category = 1) (hk : ∀ (σ' : jS) (k' n' : Nat) (v6 v7 v8 : Value), LI s N lu du σ' → k' ≤ k + 10 → n' ≤ n + 100 → v6.category = 1 → J X (mLw nm hh) rL_law 1636 [.ref 4, .ref 5, .ref 37, .ref 49, .ref 50, vI ((i : Nat) : Int), v6, v7, v8] [] k' n' σ' Q) : J X (mLw nm hh) rL_law 1421 [.ref 4, .ref 5, .ref 37, .ref 49, .ref 50, vI ((i : Nat) : Int), u6, u7, u8] [] k n σ Q := by
  obtain ⟨⟨th, pr, ln, lw, bn, cd, sz, ph, mn, mg, kn, kr, ks, kt, rd, rg, hW, hM, hI⟩, ⟨f0, e49⟩, ⟨g0, e50⟩, e4, hst, hN1, hsI, hN2⟩ := id hL
  obtain ⟨kk, v, pr', ln', lw', bn', cd', sz', ph', mn', mg', kn', kr', ks', kt', rd', rg', hJ1, hJ2, hI', hk3⟩ := op_share hW hI e49 e50 (s (i + 1)) (hsI _)
  have hki3 : inI kk := by unfold inI; omega
  refine J.ald_n dL_law_1421 rfl ?_
  refine J.ald_n dL_law_1422 rfl ?_
  refine J.ild dL_law_1423 rfl ?_
  refine J.iconst dL_law_1425 ?_
  refine J.iadd dL_law_1426 ?_
  rw [show (((i : Nat) : Int) : Int) + 1 = ((i + 1 : Nat) : Int) from by push_cast; rfl]
  refine J.iald (i + 1) dL_law_1427 e4 rfl (by omega) (by omega) ?_
  refine J.ald dL_law_1428 rfl ?_
  refine J.callSX (rm' := rL_share) [.ref 5, vI (s (i + 1)), .ref 50] dL_law_1430 (hJ1) st_L_share ml_L_176 sm_L_share rfl (Nat.le_of_ble_eq_true rfl) (by decide) (by decide) (Nat.le_of_ble_eq_true rfl) (Nat.le_trans (Nat.add_le_add_right hkb _) (by decide)) (Nat.le_trans (Nat.add_le_add_right hnb _) (by decide)) (fun E9 σ9 hq9 => nomatch hq9.1) (fun r9 σ1 hq9 hle9 => ?_)
  obtain ⟨h9, ⟨f1, e49'⟩, ⟨g1, e50', hv1⟩, hC1, hn1, hj1⟩ := hq9
  cases h9
  clear hle9
  obtain ⟨pa, ps, hO⟩ := hM.1
  refine J.ist dL_law_1433 (Nat.le_of_ble_eq_true rfl) (jnc_of rfl rfl) ?_
  refine J.ald_n dL_law_1435 rfl ?_
  refine J.ald_n dL_law_1436 rfl ?_
  refine J.ild dL_law_1437 rfl ?_
  refine J.iconst dL_law_1439 ?_
  refine J.iadd dL_law_1440 ?_
  rw [show (((i : Nat) : Int) : Int) + 1 = ((i + 1 : Nat) : Int) from by push_cast; rfl]
  refine J.iald (i + 1) dL_law_1441 ((hj1 _ (by omega)).trans e4) rfl (by omega) (by omega) ?_
  refine J.callV (rm' := rX7_share) [vI (s (i + 1))] dL_law_1442 (hJ2 σ1 th (hM.keep (fun j a b => hj1 j (by omega)))) ((hj1 _ (by omega)).trans hO) rfl st_X7_share ml_L_179 im_X7_share se_X7_share rfl (Nat.le_of_ble_eq_true rfl) (by decide) (by decide) (Nat.le_of_ble_eq_true rfl) (Nat.le_trans (Nat.add_le_add_right (Nat.add_le_add_right hkb _) _) (by decide)) (Nat.le_trans (Nat.add_le_add_right (Nat.add_le_add_right hnb _) _) (by decide)) (Or.inr (fun E9 σ9 hq9 => nomatch hq9.1.choose_spec.1)) (fun E9 σ9 hq9 _ => nomatch hq9.1.choose_spec.1) (fun r9 σ2 hq9 hle9 => ?_)
  obtain ⟨⟨x, h9, hx⟩, hM2, hn2, hj2⟩ := hq9
  cases h9
  clear hle9
  obtain ⟨pa2, ps2, hO2⟩ := hM2.1
  refine J.dst dL_law_1445 (Nat.le_of_ble_eq_true rfl) (jnc_of rfl rfl) ?_
  refine J.ald_n dL_law_1447 rfl ?_
  refine J.callV (rm' := rX7_thrown) [] dL_law_1448 (c_X7_thrown hO2) hO2 rfl st_X7_thrown ml_L_96 im_X7_thrown se_X7_thrown rfl (Nat.le_of_ble_eq_true rfl) (by decide) (by decide) (Nat.le_of_ble_eq_true rfl) (Nat.le_trans (Nat.add_le_add_right (Nat.add_le_add_right (Nat.add_le_add_right hkb _) _) _) (by decide)) (Nat.le_trans (Nat.add_le_add_right (Nat.add_le_add_right (Nat.add_le_add_right hnb _) _) _) (by decide)) (Or.inr (fun E9 σ9 hq9 => nomatch hq9.1)) (fun E9 σ9 hq9 _ => nomatch hq9.1) (fun r9 σ9 hq9 hle9 => ?_)
  obtain ⟨h9, h8⟩ := hq9
  rw [h8]
  clear hle9 h8 σ9
  cases h9
  refine J.ild dL_law_1451 rfl ?_
  refine J.icmp_eq dL_law_1453 (by decide) (tgt := 1458) hki3 hki3 (fun w1 => ?_) (fun w1 => ?_)
  · refine J.ild dL_law_1458 rfl ?_
    refine J.if_ne dL_law_1460 (by decide) (tgt := 1495) hki3 (fun w2 => ?_) (fun w2 => ?_)
    · refine J.goto dL_law_1495 (by decide) (tgt := 1636) ?_
      exact hk σ2 _ _ _ _ _ ⟨⟨kk, _, _, _, _, _, _, _, _, _, _, _, _, _, _, _, hC1.keep (fun j hj => hj2 j (Or.inl hj)), hM2, hI'⟩, ⟨_, (hj2 _ (by omega)).trans e49'⟩, ⟨_, (hj2 _ (by omega)).trans e50'⟩, ((hj2 _ (by omega)).trans ((hj1 _ (by omega)).trans e4)), ⟨((hj2 _ (by omega)).trans ((hj1 _ (by omega)).trans hst.1)), ((hj2 _ (by omega)).trans ((hj1 _ (by omega)).trans hst.2.1)), ((hj2 _ (by omega)).trans ((hj1 _ (by omega)).trans hst.2.2.1)), ((hj2 _ (by omega)).trans ((hj1 _ (by omega)).trans hst.2.2.2))⟩, hn2.trans (hn1.trans hN1), hsI, hN2⟩ (show k + 1 ≤ k + 10 by omega) (show n + 6 ≤ n + 100 by omega) rfl
    · have hk0 : kk = 0 := by omega
      have hxv : x = v := hx hk0
      have hg1 : g1 0 = v := hv1 hk0
      subst hxv
      refine J.ald dL_law_1463 rfl ?_
      refine J.iconst dL_law_1465 ?_
      refine J.daldD 0 dL_law_1466 ((hj2 _ (by omega)).trans e50') rfl (by omega) (by omega) ?_
      rw [hg1]
      refine J.dld dL_law_1467 rfl ?_
      rcases dcmp_self x with hd | hd
      · refine J.dcmp dL_law_1469 ?_
        rw [hd, show Value.int (Op.cmpValue none .l) = vI (-1) from rfl]
        refine J.if_eq dL_law_1470 (by decide) (tgt := 1495) (by unfold inI; omega) (fun w3 => ?_) (fun w3 => ?_)
        · exact absurd w3 (by decide)
        · refine J.ald dL_law_1473 rfl ?_
          refine J.iconst dL_law_1475 ?_
          refine J.daldD 0 dL_law_1476 ((hj2 _ (by omega)).trans e50') rfl (by omega) (by omega) ?_
          rw [hg1]
          refine J.ald dL_law_1477 rfl ?_
          refine J.iconst dL_law_1479 ?_
          refine J.daldD 0 dL_law_1480 ((hj2 _ (by omega)).trans e50') rfl (by omega) (by omega) ?_
          rw [hg1]
          refine J.dcmp dL_law_1481 ?_
          rw [hd, show Value.int (Op.cmpValue none .l) = vI (-1) from rfl]
          refine J.if_eq dL_law_1482 (by decide) (tgt := 1493) (by unfold inI; omega) (fun w4 => ?_) (fun w4 => ?_)
          · exact absurd w4 (by decide)
          · refine J.dld dL_law_1485 rfl ?_
            refine J.dld dL_law_1487 rfl ?_
            refine J.dcmp dL_law_1489 ?_
            rw [hd, show Value.int (Op.cmpValue none .l) = vI (-1) from rfl]
            refine J.if_ne dL_law_1490 (by decide) (tgt := 1495) (by unfold inI; omega) (fun w5 => ?_) (fun w5 => ?_)
            · refine J.goto dL_law_1495 (by decide) (tgt := 1636) ?_
              exact hk σ2 _ _ _ _ _ ⟨⟨kk, _, _, _, _, _, _, _, _, _, _, _, _, _, _, _, hC1.keep (fun j hj => hj2 j (Or.inl hj)), hM2, hI'⟩, ⟨_, (hj2 _ (by omega)).trans e49'⟩, ⟨_, (hj2 _ (by omega)).trans e50'⟩, ((hj2 _ (by omega)).trans ((hj1 _ (by omega)).trans e4)), ⟨((hj2 _ (by omega)).trans ((hj1 _ (by omega)).trans hst.1)), ((hj2 _ (by omega)).trans ((hj1 _ (by omega)).trans hst.2.1)), ((hj2 _ (by omega)).trans ((hj1 _ (by omega)).trans hst.2.2.1)), ((hj2 _ (by omega)).trans ((hj1 _ (by omega)).trans hst.2.2.2))⟩, hn2.trans (hn1.trans hN1), hsI, hN2⟩ (show k + 1 ≤ k + 10 by omega) (show n + 6 ≤ n + 100 by omega) rfl
            · exact absurd w5 (by decide)
      · refine J.dcmp dL_law_1469 ?_
        rw [hd, show Value.int (Op.cmpValue (some .eq) .l) = vI 0 from rfl]
        refine J.if_eq dL_law_1470 (by decide) (tgt := 1495) (by unfold inI; omega) (fun w3 => ?_) (fun w3 => ?_)
        · refine J.goto dL_law_1495 (by decide) (tgt := 1636) ?_
          exact hk σ2 _ _ _ _ _ ⟨⟨kk, _, _, _, _, _, _, _, _, _, _, _, _, _, _, _, hC1.keep (fun j hj => hj2 j (Or.inl hj)), hM2, hI'⟩, ⟨_, (hj2 _ (by omega)).trans e49'⟩, ⟨_, (hj2 _ (by omega)).trans e50'⟩, ((hj2 _ (by omega)).trans ((hj1 _ (by omega)).trans e4)), ⟨((hj2 _ (by omega)).trans ((hj1 _ (by omega)).trans hst.1)), ((hj2 _ (by omega)).trans ((hj1 _ (by omega)).trans hst.2.1)), ((hj2 _ (by omega)).trans ((hj1 _ (by omega)).trans hst.2.2.1)), ((hj2 _ (by omega)).trans ((hj1 _ (by omega)).trans hst.2.2.2))⟩, hn2.trans (hn1.trans hN1), hsI, hN2⟩ (show k + 1 ≤ k + 10 by omega) (show n + 6 ≤ n + 100 by omega) rfl
        · exact absurd rfl w3
  · exact absurd rfl w1
