theorem and31 (x : Int32) : ∃ c : Nat, c < 32 ∧ x &&& iI 31 = iI (c : Int) := by
  refine ⟨(x &&& iI 31).toBitVec.toNat, ?_, ?_⟩
  · show (x.toBitVec &&& 31#32).toNat < 32
    rw [BitVec.toNat_and]
    exact Nat.lt_of_le_of_lt Nat.and_le_right (by decide)
  · apply Int32.toBitVec_inj.mp
    show (x &&& iI 31).toBitVec = BitVec.ofInt 32 _
    rw [BitVec.ofInt_natCast, BitVec.ofNat_toNat, BitVec.setWidth_eq]
set_option maxRecDepth 20000 in
theorem law_loop {X : jX} {nm : String} {hh : List (Nat × Nat × Nat × Nat)} {s : Nat → Int} {N : Nat} {lu du : Nat → Int} (hlu : ∀ i, i < 26 → 0 ≤ lu i ∧ lu i ≤ 100) (hdu : ∀ i, i < 10 → 0 ≤ du i ∧ du i ≤ 100) : ∀ (t i k n : Nat) (σ : jS) (u6 u7 u8 : Value), LI s N lu du σ → N ≤ i + 4 * t → i + 4 * t ≤ 4000 → k + 10 * t ≤ 100000 → n + 100 * t ≤ 1000000 → u6.category = 1 → J X (mLw nm hh) rL_law 28 [.ref 4, .ref 5, .ref 37, .ref 49, .ref 50, vI ((i : Nat) : Int), u6, u7, u8] [] k n σ (fun o _ => o = oI 1) := by
  intro t
  induction t with
  | zero =>
    intro i k n σ u6 u7 u8 hL ht hti hk hn hu6
    have e4 := hL.2.2.2.1
    have hN2 := hL.2.2.2.2.2.2.2
    refine J.ild dL_law_28 rfl ?_
    refine J.ald_n dL_law_30 rfl ?_
    refine J.alen dL_law_31 e4 ?_
    refine J.iconst dL_law_32 ?_
    refine J.isub dL_law_33 ?_
    refine J.icmp_gt dL_law_34 (by decide) (tgt := 1642) (by unfold inI; omega) (by unfold inI; omega) (fun h0 => ?_) (fun h0 => ?_)
    · refine J.iconst dL_law_1642 ?_
      refine J.iret .boolean dL_law_1643 rfl rfl (show k ≤ 601024 by omega) (show n ≤ 7293034 by omega) ?_
      exact rfl
    · omega
  | succ t ih =>
    intro i k n σ u6 u7 u8 hL ht hti hk hn hu6
    have e4 := hL.2.2.2.1
    have hN2 := hL.2.2.2.2.2.2.2
    refine J.ild dL_law_28 rfl ?_
    refine J.ald_n dL_law_30 rfl ?_
    refine J.alen dL_law_31 e4 ?_
    refine J.iconst dL_law_32 ?_
    refine J.isub dL_law_33 ?_
    refine J.icmp_gt dL_law_34 (by decide) (tgt := 1642) (by unfold inI; omega) (by unfold inI; omega) (fun h0 => ?_) (fun h0 => ?_)
    · refine J.iconst dL_law_1642 ?_
      refine J.iret .boolean dL_law_1643 rfl rfl (show k ≤ 601024 by omega) (show n ≤ 7293034 by omega) ?_
      exact rfl
    · refine J.ald_n dL_law_37 rfl ?_
      refine J.ild dL_law_38 rfl ?_
      refine J.iald i dL_law_40 e4 rfl (by omega) (by omega) ?_
      refine J.bipush dL_law_41 (by decide) ?_
      obtain ⟨c, hc, hcc⟩ := and31 (iI (s i))
      refine J.iand dL_law_43 ?_
      rw [hcc]
      have hk9 : ∀ (σ' : jS) (k' n' : Nat) (v6 v7 v8 : Value), LI s N lu du σ' → k' ≤ k + 10 → n' ≤ n + 100 → v6.category = 1 → J X (mLw nm hh) rL_law 1636 [.ref 4, .ref 5, .ref 37, .ref 49, .ref 50, vI ((i : Nat) : Int), v6, v7, v8] [] k' n' σ' (fun o _ => o = oI 1) := fun σ' k' n' v6 v7 v8 hL' hk' hn' hv6 => by
        refine J.iinc (v := ((i + 4 : Nat) : Int)) dL_law_1636 rfl (by omega) (Nat.le_of_ble_eq_true rfl) (jnc_of rfl rfl) ?_
        refine J.goto dL_law_1639 (by decide) (tgt := 28) ?_
        exact ih (i + 4) k' n' σ' v6 v7 v8 hL' (by omega) (by omega) (by omega) (by omega) hv6
      match c, hc with
      | 0, _ => exact J.tableIn dL_law_44 (by decide) (by decide) rfl (by decide) (law_say hL (by omega) (by omega) (by omega) hu6 hk9)
      | 1, _ => exact J.tableIn dL_law_44 (by decide) (by decide) rfl (by decide) (law_empty hL (by omega) (by omega) (by omega) hu6 hk9)
      | 2, _ => exact J.tableIn dL_law_44 (by decide) (by decide) rfl (by decide) (law_words hL (by omega) (by omega) (by omega) hu6 hk9)
      | 3, _ => exact J.tableIn dL_law_44 (by decide) (by decide) rfl (by decide) (law_wordAt hL (by omega) (by omega) (by omega) hu6 hk9)
      | 4, _ => exact J.tableIn dL_law_44 (by decide) (by decide) rfl (by decide) (law_keep hL (by omega) (by omega) (by omega) hu6 hk9)
      | 5, _ => exact J.tableIn dL_law_44 (by decide) (by decide) rfl (by decide) (law_recall hL (by omega) (by omega) (by omega) hu6 hk9)
      | 6, _ => exact J.tableIn dL_law_44 (by decide) (by decide) rfl (by decide) (law_letter hL (by omega) (by omega) (by omega) hu6 hk9)
      | 7, _ => exact J.tableIn dL_law_44 (by decide) (by decide) rfl (by decide) (law_reason hL (by omega) (by omega) (by omega) hu6 hk9)
      | 8, _ => exact J.tableIn dL_law_44 (by decide) (by decide) rfl (by decide) (law_firstFit hL (by omega) (by omega) (by omega) hu6 hk9)
      | 9, _ => exact J.tableIn dL_law_44 (by decide) (by decide) rfl (by decide) (law_define hL (by omega) (by omega) (by omega) hu6 hk9)
      | 10, _ => exact J.tableIn dL_law_44 (by decide) (by decide) rfl (by decide) (law_drop hL (by omega) (by omega) (by omega) hu6 hk9)
      | 11, _ => exact J.tableIn dL_law_44 (by decide) (by decide) rfl (by decide) (law_entries hL (by omega) (by omega) (by omega) hu6 hk9)
      | 12, _ => exact J.tableIn dL_law_44 (by decide) (by decide) rfl (by decide) (law_entry hL (by omega) (by omega) (by omega) hu6 hk9)
      | 13, _ => exact J.tableIn dL_law_44 (by decide) (by decide) rfl (by decide) (law_find hL (by omega) (by omega) (by omega) hu6 hk9)
      | 14, _ => exact J.tableIn dL_law_44 (by decide) (by decide) rfl (by decide) (law_setPrice hL (by omega) (by omega) (by omega) hu6 hk9)
      | 15, _ => exact J.tableIn dL_law_44 (by decide) (by decide) rfl (by decide) (law_encode hL (by omega) (by omega) (by omega) hu6 hk9)
      | 16, _ => exact J.tableIn dL_law_44 (by decide) (by decide) rfl (by decide) (law_groups hL (by omega) (by omega) (by omega) hu6 hk9)
      | 17, _ => exact J.tableIn dL_law_44 (by decide) (by decide) rfl (by decide) (law_group hL (by omega) (by omega) (by omega) hu6 hk9)
      | 18, _ => exact J.tableIn dL_law_44 (by decide) (by decide) rfl (by decide) (law_garble hL (by omega) (by omega) (by omega) hu6 hk9)
      | 19, _ => exact J.tableIn dL_law_44 (by decide) (by decide) rfl (by decide) (law_swap hL (by omega) (by omega) (by omega) hu6 hk9)
      | 20, _ => exact J.tableIn dL_law_44 (by decide) (by decide) rfl (by decide) (law_decode hL (by omega) (by omega) (by omega) hu6 hk9)
      | 21, _ => exact J.tableIn dL_law_44 (by decide) (by decide) rfl (by decide) (law_how hL (by omega) (by omega) (by omega) hu6 hk9)
      | 22, _ => exact J.tableIn dL_law_44 (by decide) (by decide) rfl (by decide) (law_cost hL (by omega) (by omega) (by omega) hu6 hk9)
      | 23, _ => exact J.tableIn dL_law_44 (by decide) (by decide) rfl (by decide) (law_time hL (by omega) (by omega) (by omega) hu6 hk9 hlu hdu)
      | 24, _ => exact J.tableIn dL_law_44 (by decide) (by decide) rfl (by decide) (law_share hL (by omega) (by omega) (by omega) hu6 hk9)
      | 25, _ => exact J.tableIn dL_law_44 (by decide) (by decide) rfl (by decide) (law_propose hL (by omega) (by omega) (by omega) hu6 hk9)
      | 26, _ => exact J.tableIn dL_law_44 (by decide) (by decide) rfl (by decide) (law_learn hL (by omega) (by omega) (by omega) hu6 hk9)
      | 27, _ => exact J.tableIn dL_law_44 (by decide) (by decide) rfl (by decide) (law_digest hL (by omega) (by omega) (by omega) hu6 hk9)
      | 28, _ => exact J.tableOut dL_law_44 (Or.inr (by decide)) (tgt := 1636) (by decide) (hk9 σ k n u6 u7 u8 hL (by omega) (by omega) hu6)
      | 29, _ => exact J.tableOut dL_law_44 (Or.inr (by decide)) (tgt := 1636) (by decide) (hk9 σ k n u6 u7 u8 hL (by omega) (by omega) hu6)
      | 30, _ => exact J.tableOut dL_law_44 (Or.inr (by decide)) (tgt := 1636) (by decide) (hk9 σ k n u6 u7 u8 hL (by omega) (by omega) hu6)
      | 31, _ => exact J.tableOut dL_law_44 (Or.inr (by decide)) (tgt := 1636) (by decide) (hk9 σ k n u6 u7 u8 hL (by omega) (by omega) hu6)
      | _ + 32, h => exact absurd h (by omega)
