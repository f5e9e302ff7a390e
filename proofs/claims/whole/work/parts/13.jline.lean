theorem c_X4_clear {X : jX} {σ : jS} {i r : Nat} {n : Int} (e0 : σ.2 i = jO 3 [.ref r, vI n]) : JM X mX4_clear rX4_clear [.ref i] σ (jEnd oV (jset σ i (jO 3 [.ref r, vI 0]))) := by
  refine JM.of (lc := [.ref i]) rfl ?_
  refine J.ald_n dX4_clear_0 rfl ?_
  refine J.iconst dX4_clear_1 ?_
  refine pf_X4_15 rfl dX4_clear_2 e0 ?_
  refine J.vret dX4_clear_5 rfl (by decide) (by decide) ?_
  exact ⟨rfl, rfl⟩
theorem c_X4_append {X : jX} {σ : jS} {i r n : Nat} {f : Nat → Int} {w : Int} (e0 : σ.2 i = jO 3 [.ref r, vI (n : Int)]) (e1 : σ.2 r = jI 40 f) (h5 : 5 ≤ r) (hir : i ≠ r) (hn : n ≤ 40) : JM X mX4_append rX4_append [.ref i, vI w] σ (jEnd oV (if n < 40 then jset (jset σ r (jI 40 (jup f n w))) i (jO 3 [.ref r, vI ((n + 1 : Nat) : Int)]) else σ)) := by
  refine JM.of (lc := [.ref i, vI w]) rfl ?_
  refine J.ald_n dX4_append_0 rfl ?_
  refine gf_X4_15 rfl dX4_append_1 e0 ?_
  refine J.ald_n dX4_append_4 rfl ?_
  refine gf_X4_9 rfl dX4_append_5 e0 ?_
  refine J.alen dX4_append_8 e1 ?_
  refine J.icmp_ge dX4_append_9 (by decide) (tgt := 32) (by unfold inI; omega) (by unfold inI; omega) (fun h => ?_) (fun h => ?_)
  · refine J.vret dX4_append_32 rfl (by decide) (by decide) ?_
    exact ⟨rfl, (if_neg (by omega)).symm⟩
  · refine J.ald_n dX4_append_12 rfl ?_
    refine gf_X4_9 rfl dX4_append_13 e0 ?_
    refine J.ald_n dX4_append_16 rfl ?_
    refine gf_X4_15 rfl dX4_append_17 e0 ?_
    refine J.ild_n dX4_append_20 rfl ?_
    refine J.iast n dX4_append_21 e1 h5 rfl (by omega) (by omega) ?_
    refine J.ald_n dX4_append_22 rfl ?_
    refine J.dup dX4_append_23 rfl ?_
    refine gf_X4_15 rfl dX4_append_24 ((jset_ne _ _ (by omega)).trans e0) ?_
    refine J.iconst dX4_append_27 ?_
    refine J.iadd dX4_append_28 ?_
    rw [show (((n : Nat) : Int) : Int) + 1 = ((n + 1 : Nat) : Int) from by push_cast; rfl]
    refine pf_X4_15 rfl dX4_append_29 ((jset_ne _ _ (by omega)).trans e0) ?_
    refine J.vret dX4_append_32 rfl (by decide) (by decide) ?_
    exact ⟨rfl, (if_pos (by omega)).symm⟩
