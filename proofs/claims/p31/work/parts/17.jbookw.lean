set_option maxRecDepth 20000 in
theorem c_X0_add {X : jX} {σ : jS} {i n : Nat} {cd sz : Nat → Nat} {ph : Nat → Int} {c l r m : Nat} {w : Nat → Int} (hB : BK σ i n cd sz ph) (h5 : 5 ≤ i) (hn : n ≤ 40) (hn2 : n < 40) (eL : σ.2 l = jO 3 [.ref r, vI ((m : Nat) : Int)]) (eR : σ.2 r = jI 40 w) (hm : m ≤ 6) (hl : l < i ∨ i + 3 < l) (hr : r < i ∨ i + 3 < r) (h5r : 5 ≤ r) : JM X mX0_add rX0_add [.ref i, vI ((c : Nat) : Int), .ref l] σ (fun o σ1 => o = oV ∧ BK σ1 i (n + 1) (jup cd n c) (jup sz n m) (jcp w ph 0 (n * 6) m) ∧ Fr4 σ σ1 i) := by
  refine JM.of (lc := [.ref i, vI ((c : Nat) : Int), .ref l]) rfl ?_
  refine J.ald_n dX0_add_0 rfl ?_
  refine gf_X0_21 rfl dX0_add_1 hB.1 ?_
  refine J.bipush dX0_add_4 (by decide) ?_
  refine J.icmp_ge dX0_add_6 (by decide) (tgt := 18) (by unfold inI; omega) (by unfold inI; omega) (fun h => ?_) (fun h => ?_)
  · omega
  · refine J.ald_n dX0_add_9 rfl ?_
    refine gf_X0_25 rfl dX0_add_10 eL ?_
    refine J.bipush dX0_add_13 (by decide) ?_
    refine J.icmp_le dX0_add_15 (by decide) (tgt := 19) (by unfold inI; omega) (by unfold inI; omega) (fun h2 => ?_) (fun h2 => ?_)
    · refine J.ald_n dX0_add_19 rfl ?_
      refine gf_X0_9 rfl dX0_add_20 hB.1 ?_
      refine J.ald_n dX0_add_23 rfl ?_
      refine gf_X0_21 rfl dX0_add_24 hB.1 ?_
      refine J.ild_n dX0_add_27 rfl ?_
      refine J.iast n dX0_add_28 hB.2.1 (by omega) rfl (by omega) (by omega) ?_
      refine J.ald_n dX0_add_29 rfl ?_
      refine gf_X0_15 rfl dX0_add_30 ((jset_ne _ _ (by omega)).trans hB.1) ?_
      refine J.ald_n dX0_add_33 rfl ?_
      refine gf_X0_21 rfl dX0_add_34 ((jset_ne _ _ (by omega)).trans hB.1) ?_
      refine J.ald_n dX0_add_37 rfl ?_
      refine gf_X0_25 rfl dX0_add_38 ((jset_ne _ _ (by omega)).trans eL) ?_
      refine J.iast n dX0_add_41 ((jset_ne _ _ (by omega)).trans hB.2.2.1) (by omega) rfl (by omega) (by omega) ?_
      refine J.ald_n dX0_add_42 rfl ?_
      refine gf_X0_28 rfl dX0_add_43 ((jset_ne _ _ (by omega)).trans ((jset_ne _ _ (by omega)).trans eL)) ?_
      refine J.iconst dX0_add_46 ?_
      refine J.ald_n dX0_add_47 rfl ?_
      refine gf_X0_18 rfl dX0_add_48 ((jset_ne _ _ (by omega)).trans ((jset_ne _ _ (by omega)).trans hB.1)) ?_
      refine J.ald_n dX0_add_51 rfl ?_
      refine gf_X0_21 rfl dX0_add_52 ((jset_ne _ _ (by omega)).trans ((jset_ne _ _ (by omega)).trans hB.1)) ?_
      refine J.callS (rm' := rX0_startOf) [vI ((n : Nat) : Int)] dX0_add_55 (c_X0_startOf) st_X0_startOf ml_X0_31 sm_X0_startOf rfl (Nat.le_of_ble_eq_true rfl) (by decide) (by decide) (Nat.le_of_ble_eq_true rfl) (by decide) (by decide) (Or.inl rfl) (fun E9 σ9 hq9 _ => nomatch hq9.1) (fun r9 σ9 hq9 hle9 => ?_)
      obtain ⟨h9, h8⟩ := hq9
      rw [h8]
      clear hle9 h8 σ9
      cases h9
      refine J.ald_n dX0_add_58 rfl ?_
      refine gf_X0_25 rfl dX0_add_59 ((jset_ne _ _ (by omega)).trans ((jset_ne _ _ (by omega)).trans eL)) ?_
      refine J.acopy 0 (n * 6) m dX0_add_62 ml_X0_35 na_acopy sm_acopy ini_java_lang_System ((jset_ne _ _ (by omega)).trans ((jset_ne _ _ (by omega)).trans eR)) ((jset_ne _ _ (by omega)).trans ((jset_ne _ _ (by omega)).trans hB.2.2.2)) (by omega) (by omega) rfl rfl rfl (by omega) (by omega) (by omega) (by omega) (by decide) (Nat.le_of_ble_eq_true rfl) ?_
      refine J.ald_n dX0_add_65 rfl ?_
      refine J.dup dX0_add_66 rfl ?_
      refine gf_X0_21 rfl dX0_add_67 ((jset_ne _ _ (by omega)).trans ((jset_ne _ _ (by omega)).trans ((jset_ne _ _ (by omega)).trans hB.1))) ?_
      refine J.iconst dX0_add_70 ?_
      refine J.iadd dX0_add_71 ?_
      rw [show (((n : Nat) : Int) : Int) + 1 = ((n + 1 : Nat) : Int) from by push_cast; rfl]
      refine pf_X0_21 rfl dX0_add_72 ((jset_ne _ _ (by omega)).trans ((jset_ne _ _ (by omega)).trans ((jset_ne _ _ (by omega)).trans hB.1))) ?_
      refine J.vret dX0_add_75 rfl (by decide) (by decide) ?_
      refine ⟨rfl, ⟨?_, ?_, ?_, ?_⟩, rfl, fun j hj => ?_⟩
      · rw [jset_eq]
      · rw [← jup_cast]; exact ((jset_ne _ _ (by omega)).trans ((jset_ne _ _ (by omega)).trans ((jset_ne _ _ (by omega)).trans (jset_eq _ _ _))))
      · rw [← jup_cast]; exact ((jset_ne _ _ (by omega)).trans ((jset_ne _ _ (by omega)).trans (jset_eq _ _ _)))
      · exact ((jset_ne _ _ (by omega)).trans (jset_eq _ _ _))
      · rw [jset_ne _ _ (by omega), jset_ne _ _ (by omega), jset_ne _ _ (by omega), jset_ne _ _ (by omega)]
    · omega
def shN (f : Nat → Nat) (e n : Nat) : Nat → Nat := jcpN f f (e + 1) e (n - (e + 1))