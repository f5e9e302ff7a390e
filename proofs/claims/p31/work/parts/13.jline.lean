theorem c_X4_clear {X : jX} {σ : jS} {i r : Nat} {n : Int} (e0 : σ.2 i = jO 3 [.ref r, vI n]) : JM X mX4_clear rX4_clear [.ref i] σ (jEnd oV (jset σ i (jO 3 [.ref r, vI 0]))) := by
  refine JM.of (lc := [.ref i]) rfl ?_
  refine J.ald_n dX4_clear_0 rfl ?_
  refine J.iconst dX4_clear_1 ?_
  refine pf_X4_15 rfl dX4_clear_2 e0 ?_
  refine J.vret dX4_clear_5 rfl (by decide) (by decide) ?_
  exact ⟨rfl, rfl⟩
theorem c_X5_clear {X : jX} {σ : jS} {i r : Nat} {n : Int} (e0 : σ.2 i = jO 4 [.ref r, vI n]) : JM X mX5_clear rX5_clear [.ref i] σ (jEnd oV (jset σ i (jO 4 [.ref r, vI 0]))) := by
  refine JM.of (lc := [.ref i]) rfl ?_
  refine J.ald_n dX5_clear_0 rfl ?_
  refine J.iconst dX5_clear_1 ?_
  refine pf_X5_15 rfl dX5_clear_2 e0 ?_
  refine J.vret dX5_clear_5 rfl (by decide) (by decide) ?_
  exact ⟨rfl, rfl⟩
/-- a row of at most 40, one put behind, told of cells i (its object, kind ci) and r (its row) -/
def japp (ci : Nat) (σ : jS) (i r n : Nat) (f : Nat → Int) (w : Int) : jS := if n < 40 then jset (jset σ r (jI 40 (jup f n w))) i (jO ci [.ref r, vI ((n + 1 : Nat) : Int)]) else σ
theorem c_X4_append {X : jX} {σ : jS} {i r n : Nat} {f : Nat → Int} {w : Int} (e0 : σ.2 i = jO 3 [.ref r, vI (n : Int)]) (e1 : σ.2 r = jI 40 f) (h5 : 5 ≤ r) (hir : i ≠ r) (hn : n ≤ 40) : JM X mX4_append rX4_append [.ref i, vI w] σ (jEnd oV (japp 3 σ i r n f w)) := by
  refine JM.of (lc := [.ref i, vI w]) rfl ?_
  refine J.ald_n dX4_append_0 rfl ?_
  refine gf_X4_15 rfl dX4_append_1 e0 ?_
  refine J.ald_n dX4_append_4 rfl ?_
  refine gf_X4_9 rfl dX4_append_5 e0 ?_
  refine J.alen dX4_append_8 e1 ?_
  refine J.icmp_ge dX4_append_9 (by decide) (tgt := 32) (by unfold inI; omega) (by unfold inI; omega) (fun h => ?_) (fun h => ?_)
  · refine J.vret dX4_append_32 rfl (by decide) (by decide) ?_
    exact ⟨rfl, (if_neg (by omega)).symm⟩
  · refine J.ald_n dX4_append_12 rfl ?_
    refine gf_X4_9 rfl dX4_append_13 e0 ?_
    refine J.ald_n dX4_append_16 rfl ?_
    refine gf_X4_15 rfl dX4_append_17 e0 ?_
    refine J.ild_n dX4_append_20 rfl ?_
    refine J.iast n dX4_append_21 e1 h5 rfl (by omega) (by omega) ?_
    refine J.ald_n dX4_append_22 rfl ?_
    refine J.dup dX4_append_23 rfl ?_
    refine gf_X4_15 rfl dX4_append_24 ((jset_ne _ _ (by omega)).trans e0) ?_
    refine J.iconst dX4_append_27 ?_
    refine J.iadd dX4_append_28 ?_
    rw [show (((n : Nat) : Int) : Int) + 1 = ((n + 1 : Nat) : Int) from by push_cast; rfl]
    refine pf_X4_15 rfl dX4_append_29 ((jset_ne _ _ (by omega)).trans e0) ?_
    refine J.vret dX4_append_32 rfl (by decide) (by decide) ?_
    exact ⟨rfl, (if_pos (by omega)).symm⟩
theorem c_X5_append {X : jX} {σ : jS} {i r n : Nat} {f : Nat → Int} {w : Int} (e0 : σ.2 i = jO 4 [.ref r, vI (n : Int)]) (e1 : σ.2 r = jI 40 f) (h5 : 5 ≤ r) (hir : i ≠ r) (hn : n ≤ 40) : JM X mX5_append rX5_append [.ref i, vI w] σ (jEnd oV (japp 4 σ i r n f w)) := by
  refine JM.of (lc := [.ref i, vI w]) rfl ?_
  refine J.ald_n dX5_append_0 rfl ?_
  refine gf_X5_15 rfl dX5_append_1 e0 ?_
  refine J.ald_n dX5_append_4 rfl ?_
  refine gf_X5_9 rfl dX5_append_5 e0 ?_
  refine J.alen dX5_append_8 e1 ?_
  refine J.icmp_ge dX5_append_9 (by decide) (tgt := 32) (by unfold inI; omega) (by unfold inI; omega) (fun h => ?_) (fun h => ?_)
  · refine J.vret dX5_append_32 rfl (by decide) (by decide) ?_
    exact ⟨rfl, (if_neg (by omega)).symm⟩
  · refine J.ald_n dX5_append_12 rfl ?_
    refine gf_X5_9 rfl dX5_append_13 e0 ?_
    refine J.ald_n dX5_append_16 rfl ?_
    refine gf_X5_15 rfl dX5_append_17 e0 ?_
    refine J.ild_n dX5_append_20 rfl ?_
    refine J.iast n dX5_append_21 e1 h5 rfl (by omega) (by omega) ?_
    refine J.ald_n dX5_append_22 rfl ?_
    refine J.dup dX5_append_23 rfl ?_
    refine gf_X5_15 rfl dX5_append_24 ((jset_ne _ _ (by omega)).trans e0) ?_
    refine J.iconst dX5_append_27 ?_
    refine J.iadd dX5_append_28 ?_
    rw [show (((n : Nat) : Int) : Int) + 1 = ((n + 1 : Nat) : Int) from by push_cast; rfl]
    refine pf_X5_15 rfl dX5_append_29 ((jset_ne _ _ (by omega)).trans e0) ?_
    refine J.vret dX5_append_32 rfl (by decide) (by decide) ?_
    exact ⟨rfl, (if_pos (by omega)).symm⟩
theorem japp_n (ci : Nat) (σ : jS) (i r n : Nat) (f : Nat → Int) (w : Int) : (japp ci σ i r n f w).1 = σ.1 := by unfold japp; split <;> rfl
theorem japp_o {ci : Nat} {σ : jS} {i r n : Nat} {f : Nat → Int} {w : Int} {j : Nat} (h1 : j ≠ i) (h2 : j ≠ r) : (japp ci σ i r n f w).2 j = σ.2 j := by
  unfold japp
  split
  · rw [jset_ne _ _ h1, jset_ne _ _ h2]
  · rfl
/-- what a full row takes: k words of g from s on -/
def apN (n : Nat) : Nat := if n < 40 then n + 1 else n
def apF (n : Nat) (f : Nat → Int) (w : Int) : Nat → Int := if n < 40 then jup f n w else f
theorem japp_i {ci : Nat} {σ : jS} {i r n : Nat} {f : Nat → Int} {w : Int} (e0 : σ.2 i = jO ci [.ref r, vI (n : Int)]) : (japp ci σ i r n f w).2 i = jO ci [.ref r, vI ((apN n : Nat) : Int)] := by
  unfold japp apN
  split
  · rw [jset_eq]
  · exact e0
theorem japp_r {ci : Nat} {σ : jS} {i r n : Nat} {f : Nat → Int} {w : Int} (e1 : σ.2 r = jI 40 f) (h : i ≠ r) : (japp ci σ i r n f w).2 r = jI 40 (apF n f w) := by
  unfold japp apF
  split
  · rw [jset_ne _ _ (Ne.symm h), jset_eq]
  · exact e1
theorem apN_le {n : Nat} (h : n ≤ 40) : apN n ≤ 40 := by unfold apN; split <;> omega
def alN : Nat → Nat → Nat
  | 0, n => n
  | k + 1, n => alN k (apN n)
def alF (g : Nat → Int) : Nat → Nat → Nat → (Nat → Int) → (Nat → Int)
  | 0, _, _, f => f
  | k + 1, s, n, f => alF g k (s + 1) (apN n) (apF n f (g s))
def alS (g : Nat → Int) (i r : Nat) : Nat → Nat → jS → Nat → (Nat → Int) → jS
  | 0, _, σ, _, _ => σ
  | k + 1, s, σ, n, f => alS g i r k (s + 1) (japp 3 σ i r n f (g s)) (apN n) (apF n f (g s))
theorem c_X4_appendAll {X : jX} {σ : jS} {i r n q N s k : Nat} {f g : Nat → Int} (e0 : σ.2 i = jO 3 [.ref r, vI (n : Int)]) (e1 : σ.2 r = jI 40 f) (h5 : 5 ≤ r) (hir : i ≠ r) (hn : n ≤ 40) (e2 : σ.2 q = jI N g) (hqi : q ≠ i) (hqr : q ≠ r) (hsk : s + k ≤ N) (hN : N ≤ 100000) : JM X mX4_appendAll rX4_appendAll [.ref i, .ref q, vI ((s : Nat) : Int), vI ((k : Nat) : Int)] σ (jEnd oV (alS g i r k s σ n f)) := by
  refine JM.of (lc := [.ref i, .ref q, vI ((s : Nat) : Int), vI ((k : Nat) : Int), .null]) rfl ?_
  refine J.ild_n dX4_appendAll_0 rfl ?_
  refine J.ist dX4_appendAll_1 (by decide) (jnc_of rfl rfl) ?_
  have L : ∀ (t a : Nat) (σ1 : jS) (n : Nat) (f : Nat → Int), a + t = s + k → σ1.2 i = jO 3 [.ref r, vI (n : Int)] → σ1.2 r = jI 40 f → σ1.2 q = jI N g → n ≤ 40 → J X mX4_appendAll rX4_appendAll 3 [.ref i, .ref q, vI ((s : Nat) : Int), vI ((k : Nat) : Int), vI ((a : Nat) : Int)] [] 0 0 σ1 (jEnd oV (alS g i r t a σ1 n f)) := by
    intro t
    induction t with
    | zero =>
      intro a σ1 n f hat e0 e1 e2 hn
      rw [show a = s + k by omega]
      refine J.ild dX4_appendAll_3 rfl ?_
      refine J.ild_n dX4_appendAll_5 rfl ?_
      refine J.ild_n dX4_appendAll_6 rfl ?_
      refine J.iadd dX4_appendAll_7 ?_
      rw [show (((s : Nat) : Int) : Int) + ((k : Nat) : Int) = ((s + k : Nat) : Int) from by push_cast; rfl]
      refine J.icmp_ge dX4_appendAll_8 (by decide) (tgt := 32) (by unfold inI; omega) (by unfold inI; omega) (fun h => ?_) (fun h => ?_)
      · refine J.vret dX4_appendAll_32 rfl (by decide) (by decide) ?_
        exact ⟨rfl, rfl⟩
      · omega
    | succ t ih =>
      intro a σ1 n f hat e0 e1 e2 hn
      refine J.ild dX4_appendAll_3 rfl ?_
      refine J.ild_n dX4_appendAll_5 rfl ?_
      refine J.ild_n dX4_appendAll_6 rfl ?_
      refine J.iadd dX4_appendAll_7 ?_
      rw [show (((s : Nat) : Int) : Int) + ((k : Nat) : Int) = ((s + k : Nat) : Int) from by push_cast; rfl]
      refine J.icmp_ge dX4_appendAll_8 (by decide) (tgt := 32) (by unfold inI; omega) (by unfold inI; omega) (fun h => ?_) (fun h => ?_)
      · omega
      · refine J.ild dX4_appendAll_11 rfl ?_
        refine J.ald_n dX4_appendAll_13 rfl ?_
        refine J.alen dX4_appendAll_14 e2 ?_
        refine J.icmp_ge dX4_appendAll_15 (by decide) (tgt := 32) (by unfold inI; omega) (by unfold inI; omega) (fun h2 => ?_) (fun h2 => ?_)
        · omega
        · refine J.ald_n dX4_appendAll_18 rfl ?_
          refine J.ald_n dX4_appendAll_19 rfl ?_
          refine J.ild dX4_appendAll_20 rfl ?_
          refine J.iald a dX4_appendAll_22 e2 rfl (by omega) (by omega) ?_
          refine J.callV (rm' := rX4_append) [vI (g a)] dX4_appendAll_23 (c_X4_append e0 e1 h5 hir hn) e0 rfl st_X4_append ml_X4_19 im_X4_append se_X4_append rfl (Nat.le_of_ble_eq_true rfl) (by decide) (by decide) (Nat.le_of_ble_eq_true rfl) (by decide) (by decide) (Or.inl rfl) (fun E9 σ9 hq9 _ => nomatch hq9.1) (fun r9 σ9 hq9 hle9 => ?_)
          obtain ⟨h9, rfl⟩ := hq9
          cases h9
          refine J.iinc (v := ((a + 1 : Nat) : Int)) dX4_appendAll_26 rfl (by first | rfl | omega) (by decide) (jnc_of rfl rfl) ?_
          refine J.goto dX4_appendAll_29 (by decide) (tgt := 3) ?_
          exact ih (a + 1) (japp 3 σ1 i r n f (g a)) (apN n) (apF n f (g a)) (by omega) (japp_i e0) (japp_r e1 hir) ((japp_o hqi hqr).trans e2) (apN_le hn)
  exact L k s σ n f rfl e0 e1 e2 hn
theorem alN_le : ∀ (k n : Nat), n ≤ 40 → alN k n ≤ 40
  | 0, _, h => h
  | k + 1, n, h => alN_le k (apN n) (apN_le h)
theorem alS_n (g : Nat → Int) (i r : Nat) : ∀ (k s : Nat) (σ : jS) (n : Nat) (f : Nat → Int), (alS g i r k s σ n f).1 = σ.1
  | 0, _, _, _, _ => rfl
  | k + 1, s, σ, n, f => (alS_n g i r k (s + 1) _ _ _).trans (japp_n ..)
theorem alS_o {g : Nat → Int} {i r j : Nat} (h1 : j ≠ i) (h2 : j ≠ r) : ∀ (k s : Nat) (σ : jS) (n : Nat) (f : Nat → Int), (alS g i r k s σ n f).2 j = σ.2 j
  | 0, _, _, _, _ => rfl
  | k + 1, s, σ, n, f => (alS_o h1 h2 k (s + 1) _ _ _).trans (japp_o h1 h2)
theorem alS_i {g : Nat → Int} {i r : Nat} : ∀ (k s : Nat) (σ : jS) (n : Nat) (f : Nat → Int), σ.2 i = jO 3 [.ref r, vI (n : Int)] → (alS g i r k s σ n f).2 i = jO 3 [.ref r, vI ((alN k n : Nat) : Int)]
  | 0, _, _, _, _, h => h
  | k + 1, s, σ, n, f, h => alS_i k (s + 1) _ _ _ (japp_i h)
theorem alS_r {g : Nat → Int} {i r : Nat} (hir : i ≠ r) : ∀ (k s : Nat) (σ : jS) (n : Nat) (f : Nat → Int), σ.2 r = jI 40 f → (alS g i r k s σ n f).2 r = jI 40 (alF g k s n f)
  | 0, _, _, _, _, h => h
  | k + 1, s, σ, n, f, h => alS_r hir k (s + 1) _ _ _ (japp_r h hir)
