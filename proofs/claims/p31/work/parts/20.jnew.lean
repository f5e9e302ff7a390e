/-! ===== constructors ===== -/
theorem jpush_eq {σ : jS} {e : jE} {x : Nat} (h : σ.1 = x) : (jpush σ e).2 x = e := if_pos h.symm
theorem jpush_ne {σ : jS} {e : jE} {x j : Nat} (h : σ.1 = x) (hj : j ≠ x) : (jpush σ e).2 j = σ.2 j := if_neg (fun q => hj (q.trans h))
theorem J.newIx {X : jX} {M : jMt} {rm : Room} {pc : Nat} {lc st : List Value} {k n : Nat} {σ : jS} {Q : jOut → jS → Prop} {a : Int} (N x : Nat) (hx : σ.1 = x) (d : decode M.2.1 pc = .ok (.newarray .int, 2)) (ha : a = (N : Int)) (hN : N ≤ 100000) (hc : k + 1 ≤ rm.cells) (hs : n + N ≤ rm.slots) (hw : Cond.arrayClass .int ∈ lw_tbl) (kk : J X M rm (pc + 2) lc (.ref x :: st) (k + 1) (n + N) (jpush σ (jI N (fun _ => 0))) Q) : J X M rm pc lc (vI a :: st) k n σ Q := by
  subst hx
  exact J.newI N d ha hN hc hs hw kk
theorem J.newBx {X : jX} {M : jMt} {rm : Room} {pc : Nat} {lc st : List Value} {k n : Nat} {σ : jS} {Q : jOut → jS → Prop} {a : Int} {ix : Nat} (N x : Nat) (hx : σ.1 = x) (d : decode M.2.1 pc = .ok (.anewarray ix, 3)) (ha : a = (N : Int)) (hN : N ≤ 100000) (hc : k + 1 ≤ rm.cells) (hs : n + N ≤ rm.slots) (hw : Cond.classLink M.1.cls ix "WireBook$Book" ∈ lw_tbl) (kk : J X M rm (pc + 3) lc (.ref x :: st) (k + 1) (n + N) (jpush σ (jQ 0 N (fun _ => none))) Q) : J X M rm pc lc (vI a :: st) k n σ Q := by
  subst hx
  exact J.newB N d ha hN hc hs hw kk
theorem no_X0 {X : jX} {M : jMt} {rm : Room} {pc : Nat} {lc st : List Value} {k n : Nat} {σ : jS} {Q : jOut → jS → Prop} {ix : Nat} (x : Nat) (hx : σ.1 = x) (d : decode M.2.1 pc = .ok (.new ix, 3)) (h1 : Cond.classLink M.1.cls ix RX0 ∈ lw_tbl) (hc : k + 1 ≤ rm.cells) (hs : n + 4 ≤ rm.slots) (kk : J X M rm (pc + 3) lc (.ref x :: st) (k + 1) (n + 4) (jpush σ (jO 0 [.null, .null, .null, vI 0])) Q) : J X M rm pc lc st k n σ Q := by
  subst hx
  exact J.newO tyX0 tyX0_ok d rfl in_X0 (fs := [.null, .null, .null, vI 0]) (fun j hj => match j, hj with | 0, _ => rfl | 1, _ => rfl | 2, _ => rfl | 3, _ => rfl) (List.forall_mem_cons.mpr ⟨Or.inl rfl, List.forall_mem_cons.mpr ⟨Or.inl rfl, List.forall_mem_cons.mpr ⟨Or.inl rfl, List.forall_mem_cons.mpr ⟨Or.inr ⟨_, rfl⟩, List.forall_mem_nil _⟩⟩⟩⟩) h1 it_X0 ini_WireBook_Book hc hs kk
theorem no_X2 {X : jX} {M : jMt} {rm : Room} {pc : Nat} {lc st : List Value} {k n : Nat} {σ : jS} {Q : jOut → jS → Prop} {ix : Nat} (x : Nat) (hx : σ.1 = x) (d : decode M.2.1 pc = .ok (.new ix, 3)) (h1 : Cond.classLink M.1.cls ix RX2 ∈ lw_tbl) (hc : k + 1 ≤ rm.cells) (hs : n + 2 ≤ rm.slots) (kk : J X M rm (pc + 3) lc (.ref x :: st) (k + 1) (n + 2) (jpush σ (jO 1 [.null, .null])) Q) : J X M rm pc lc st k n σ Q := by
  subst hx
  exact J.newO tyX2 tyX2_ok d rfl in_X2 (fs := [.null, .null]) (fun j hj => match j, hj with | 0, _ => rfl | 1, _ => rfl) (List.forall_mem_cons.mpr ⟨Or.inl rfl, List.forall_mem_cons.mpr ⟨Or.inl rfl, List.forall_mem_nil _⟩⟩) h1 it_X2 ini_WireBook_Division hc hs kk
theorem no_X3 {X : jX} {M : jMt} {rm : Room} {pc : Nat} {lc st : List Value} {k n : Nat} {σ : jS} {Q : jOut → jS → Prop} {ix : Nat} (x : Nat) (hx : σ.1 = x) (d : decode M.2.1 pc = .ok (.new ix, 3)) (h1 : Cond.classLink M.1.cls ix RX3 ∈ lw_tbl) (hc : k + 1 ≤ rm.cells) (hs : n + 5 ≤ rm.slots) (kk : J X M rm (pc + 3) lc (.ref x :: st) (k + 1) (n + 5) (jpush σ (jO 2 [.null, .null, .null, .null, vI 0])) Q) : J X M rm pc lc st k n σ Q := by
  subst hx
  exact J.newO tyX3 tyX3_ok d rfl in_X3 (fs := [.null, .null, .null, .null, vI 0]) (fun j hj => match j, hj with | 0, _ => rfl | 1, _ => rfl | 2, _ => rfl | 3, _ => rfl | 4, _ => rfl) (List.forall_mem_cons.mpr ⟨Or.inl rfl, List.forall_mem_cons.mpr ⟨Or.inl rfl, List.forall_mem_cons.mpr ⟨Or.inl rfl, List.forall_mem_cons.mpr ⟨Or.inl rfl, List.forall_mem_cons.mpr ⟨Or.inr ⟨_, rfl⟩, List.forall_mem_nil _⟩⟩⟩⟩⟩) h1 it_X3 ini_WireBook_Kept hc hs kk
theorem no_X4 {X : jX} {M : jMt} {rm : Room} {pc : Nat} {lc st : List Value} {k n : Nat} {σ : jS} {Q : jOut → jS → Prop} {ix : Nat} (x : Nat) (hx : σ.1 = x) (d : decode M.2.1 pc = .ok (.new ix, 3)) (h1 : Cond.classLink M.1.cls ix RX4 ∈ lw_tbl) (hc : k + 1 ≤ rm.cells) (hs : n + 2 ≤ rm.slots) (kk : J X M rm (pc + 3) lc (.ref x :: st) (k + 1) (n + 2) (jpush σ (jO 3 [.null, vI 0])) Q) : J X M rm pc lc st k n σ Q := by
  subst hx
  exact J.newO tyX4 tyX4_ok d rfl in_X4 (fs := [.null, vI 0]) (fun j hj => match j, hj with | 0, _ => rfl | 1, _ => rfl) (List.forall_mem_cons.mpr ⟨Or.inl rfl, List.forall_mem_cons.mpr ⟨Or.inr ⟨_, rfl⟩, List.forall_mem_nil _⟩⟩) h1 it_X4 ini_WireBook_Line hc hs kk
theorem no_X5 {X : jX} {M : jMt} {rm : Room} {pc : Nat} {lc st : List Value} {k n : Nat} {σ : jS} {Q : jOut → jS → Prop} {ix : Nat} (x : Nat) (hx : σ.1 = x) (d : decode M.2.1 pc = .ok (.new ix, 3)) (h1 : Cond.classLink M.1.cls ix RX5 ∈ lw_tbl) (hc : k + 1 ≤ rm.cells) (hs : n + 2 ≤ rm.slots) (kk : J X M rm (pc + 3) lc (.ref x :: st) (k + 1) (n + 2) (jpush σ (jO 4 [.null, vI 0])) Q) : J X M rm pc lc st k n σ Q := by
  subst hx
  exact J.newO tyX5 tyX5_ok d rfl in_X5 (fs := [.null, vI 0]) (fun j hj => match j, hj with | 0, _ => rfl | 1, _ => rfl) (List.forall_mem_cons.mpr ⟨Or.inl rfl, List.forall_mem_cons.mpr ⟨Or.inr ⟨_, rfl⟩, List.forall_mem_nil _⟩⟩) h1 it_X5 ini_WireBook_Message hc hs kk
theorem no_X6 {X : jX} {M : jMt} {rm : Room} {pc : Nat} {lc st : List Value} {k n : Nat} {σ : jS} {Q : jOut → jS → Prop} {ix : Nat} (x : Nat) (hx : σ.1 = x) (d : decode M.2.1 pc = .ok (.new ix, 3)) (h1 : Cond.classLink M.1.cls ix RX6 ∈ lw_tbl) (hc : k + 1 ≤ rm.cells) (hs : n + 8 ≤ rm.slots) (kk : J X M rm (pc + 3) lc (.ref x :: st) (k + 1) (n + 8) (jpush σ (jO 5 [.null, .null, .null, .null, .null, .null, vI 0, vI 0])) Q) : J X M rm pc lc st k n σ Q := by
  subst hx
  exact J.newO tyX6 tyX6_ok d rfl in_X6 (fs := [.null, .null, .null, .null, .null, .null, vI 0, vI 0]) (fun j hj => match j, hj with | 0, _ => rfl | 1, _ => rfl | 2, _ => rfl | 3, _ => rfl | 4, _ => rfl | 5, _ => rfl | 6, _ => rfl | 7, _ => rfl) (List.forall_mem_cons.mpr ⟨Or.inl rfl, List.forall_mem_cons.mpr ⟨Or.inl rfl, List.forall_mem_cons.mpr ⟨Or.inl rfl, List.forall_mem_cons.mpr ⟨Or.inl rfl, List.forall_mem_cons.mpr ⟨Or.inl rfl, List.forall_mem_cons.mpr ⟨Or.inl rfl, List.forall_mem_cons.mpr ⟨Or.inr ⟨_, rfl⟩, List.forall_mem_cons.mpr ⟨Or.inr ⟨_, rfl⟩, List.forall_mem_nil _⟩⟩⟩⟩⟩⟩⟩⟩) h1 it_X6 ini_WireBook hc hs kk
/-- the first so many cells have not changed, but for one -/
def Fr1 (σ σ' : jS) (i N k : Nat) : Prop := σ'.1 = N + k ∧ ∀ j, j < N → j ≠ i → σ'.2 j = σ.2 j
set_option maxRecDepth 20000 in
theorem c_X0_init {X : jX} {σ : jS} {i N : Nat} (hN : σ.1 = N) (hi : i < N) (h5 : 5 ≤ i) (e0 : σ.2 i = jO 0 [.null, .null, .null, vI 0]) : JM X mX0_init rX0_init [.ref i] σ (fun o σ1 => o = oV ∧ σ1.2 i = jO 0 [.ref N, .ref (N + 1), .ref (N + 2), vI 0] ∧ σ1.2 (N) = jI 40 (fun _ => 0) ∧ σ1.2 (N + 1) = jI 40 (fun _ => 0) ∧ σ1.2 (N + 2) = jI 240 (fun _ => 0) ∧ Fr1 σ σ1 i N 3) := by
  refine JM.of (lc := [.ref i]) rfl ?_
  refine J.ald_n dX0_init_0 rfl ?_
  refine J.objInit dX0_init_1 ml_X0_3 im_obj co_obj rfl (by decide) (by decide) ?_
  refine J.ald_n dX0_init_4 rfl ?_
  refine J.bipush dX0_init_5 (by decide) ?_
  refine J.newIx 40 N hN dX0_init_7 rfl (by omega) (by decide) (by decide) ac_int ?_
  refine pf_X0_9 rfl rfl dX0_init_9 ((jpush_ne hN (by omega)).trans e0) ?_
  refine J.ald_n dX0_init_12 rfl ?_
  refine J.bipush dX0_init_13 (by decide) ?_
  refine J.newIx 40 (N + 1) (by show σ.1 + 1 = N + 1; omega) dX0_init_15 rfl (by omega) (by decide) (by decide) ac_int ?_
  refine pf_X0_15 rfl rfl dX0_init_17 ((jpush_ne (by show σ.1 + 1 = N + 1; omega) (by omega)).trans (jset_eq _ _ _)) ?_
  refine J.ald_n dX0_init_20 rfl ?_
  refine J.sipush dX0_init_21 (by decide) ?_
  refine J.newIx 240 (N + 2) (by show σ.1 + 1 + 1 = N + 2; omega) dX0_init_24 rfl (by omega) (by decide) (by decide) ac_int ?_
  refine pf_X0_18 rfl rfl dX0_init_26 ((jpush_ne (by show σ.1 + 1 + 1 = N + 2; omega) (by omega)).trans (jset_eq _ _ _)) ?_
  refine J.vret dX0_init_29 rfl (by decide) (by decide) ?_
  refine ⟨rfl, ?_, ?_, ?_, ?_, ?_, fun j hj hji => ?_⟩
  · exact (jset_eq _ _ _)
  · exact ((jset_ne _ _ (by omega)).trans ((jpush_ne (by show σ.1 + 1 + 1 = N + 2; omega) (by omega)).trans ((jset_ne _ _ (by omega)).trans ((jpush_ne (by show σ.1 + 1 = N + 1; omega) (by omega)).trans ((jset_ne _ _ (by omega)).trans (jpush_eq hN))))))
  · exact ((jset_ne _ _ (by omega)).trans ((jpush_ne (by show σ.1 + 1 + 1 = N + 2; omega) (by omega)).trans ((jset_ne _ _ (by omega)).trans (jpush_eq (by show σ.1 + 1 = N + 1; omega)))))
  · exact ((jset_ne _ _ (by omega)).trans (jpush_eq (by show σ.1 + 1 + 1 = N + 2; omega)))
  · show σ.1 + 1 + 1 + 1 = N + 3; omega
  · exact ((jset_ne _ _ (by omega)).trans ((jpush_ne (by show σ.1 + 1 + 1 = N + 2; omega) (by omega)).trans ((jset_ne _ _ (by omega)).trans ((jpush_ne (by show σ.1 + 1 = N + 1; omega) (by omega)).trans ((jset_ne _ _ (by omega)).trans ((jpush_ne hN (by omega)).trans (rfl : σ.2 j = σ.2 j)))))))
set_option maxRecDepth 20000 in
theorem c_X2_init {X : jX} {σ : jS} {i N : Nat} (hN : σ.1 = N) (hi : i < N) (h5 : 5 ≤ i) (e0 : σ.2 i = jO 1 [.null, .null]) : JM X mX2_init rX2_init [.ref i] σ (fun o σ1 => o = oV ∧ σ1.2 i = jO 1 [.ref N, .ref (N + 1)] ∧ σ1.2 (N) = jI 41 (fun _ => 0) ∧ σ1.2 (N + 1) = jI 40 (fun _ => 0) ∧ Fr1 σ σ1 i N 2) := by
  refine JM.of (lc := [.ref i]) rfl ?_
  refine J.ald_n dX2_init_0 rfl ?_
  refine J.objInit dX2_init_1 ml_X2_3 im_obj co_obj rfl (by decide) (by decide) ?_
  refine J.ald_n dX2_init_4 rfl ?_
  refine J.bipush dX2_init_5 (by decide) ?_
  refine J.newIx 41 N hN dX2_init_7 rfl (by omega) (by decide) (by decide) ac_int ?_
  refine pf_X2_9 rfl rfl dX2_init_9 ((jpush_ne hN (by omega)).trans e0) ?_
  refine J.ald_n dX2_init_12 rfl ?_
  refine J.bipush dX2_init_13 (by decide) ?_
  refine J.newIx 40 (N + 1) (by show σ.1 + 1 = N + 1; omega) dX2_init_15 rfl (by omega) (by decide) (by decide) ac_int ?_
  refine pf_X2_15 rfl rfl dX2_init_17 ((jpush_ne (by show σ.1 + 1 = N + 1; omega) (by omega)).trans (jset_eq _ _ _)) ?_
  refine J.vret dX2_init_20 rfl (by decide) (by decide) ?_
  refine ⟨rfl, ?_, ?_, ?_, ?_, fun j hj hji => ?_⟩
  · exact (jset_eq _ _ _)
  · exact ((jset_ne _ _ (by omega)).trans ((jpush_ne (by show σ.1 + 1 = N + 1; omega) (by omega)).trans ((jset_ne _ _ (by omega)).trans (jpush_eq hN))))
  · exact ((jset_ne _ _ (by omega)).trans (jpush_eq (by show σ.1 + 1 = N + 1; omega)))
  · show σ.1 + 1 + 1 = N + 2; omega
  · exact ((jset_ne _ _ (by omega)).trans ((jpush_ne (by show σ.1 + 1 = N + 1; omega) (by omega)).trans ((jset_ne _ _ (by omega)).trans ((jpush_ne hN (by omega)).trans (rfl : σ.2 j = σ.2 j)))))
set_option maxRecDepth 20000 in
theorem c_X4_init {X : jX} {σ : jS} {i N : Nat} (hN : σ.1 = N) (hi : i < N) (h5 : 5 ≤ i) (e0 : σ.2 i = jO 3 [.null, vI 0]) : JM X mX4_init rX4_init [.ref i] σ (fun o σ1 => o = oV ∧ σ1.2 i = jO 3 [.ref N, vI 0] ∧ σ1.2 (N) = jI 40 (fun _ => 0) ∧ Fr1 σ σ1 i N 1) := by
  refine JM.of (lc := [.ref i]) rfl ?_
  refine J.ald_n dX4_init_0 rfl ?_
  refine J.objInit dX4_init_1 ml_X4_3 im_obj co_obj rfl (by decide) (by decide) ?_
  refine J.ald_n dX4_init_4 rfl ?_
  refine J.bipush dX4_init_5 (by decide) ?_
  refine J.newIx 40 N hN dX4_init_7 rfl (by omega) (by decide) (by decide) ac_int ?_
  refine pf_X4_9 rfl rfl dX4_init_9 ((jpush_ne hN (by omega)).trans e0) ?_
  refine J.vret dX4_init_12 rfl (by decide) (by decide) ?_
  refine ⟨rfl, ?_, ?_, ?_, fun j hj hji => ?_⟩
  · exact (jset_eq _ _ _)
  · exact ((jset_ne _ _ (by omega)).trans (jpush_eq hN))
  · show σ.1 + 1 = N + 1; omega
  · exact ((jset_ne _ _ (by omega)).trans ((jpush_ne hN (by omega)).trans (rfl : σ.2 j = σ.2 j)))
set_option maxRecDepth 20000 in
theorem c_X5_init {X : jX} {σ : jS} {i N : Nat} (hN : σ.1 = N) (hi : i < N) (h5 : 5 ≤ i) (e0 : σ.2 i = jO 4 [.null, vI 0]) : JM X mX5_init rX5_init [.ref i] σ (fun o σ1 => o = oV ∧ σ1.2 i = jO 4 [.ref N, vI 0] ∧ σ1.2 (N) = jI 40 (fun _ => 0) ∧ Fr1 σ σ1 i N 1) := by
  refine JM.of (lc := [.ref i]) rfl ?_
  refine J.ald_n dX5_init_0 rfl ?_
  refine J.objInit dX5_init_1 ml_X5_3 im_obj co_obj rfl (by decide) (by decide) ?_
  refine J.ald_n dX5_init_4 rfl ?_
  refine J.bipush dX5_init_5 (by decide) ?_
  refine J.newIx 40 N hN dX5_init_7 rfl (by omega) (by decide) (by decide) ac_int ?_
  refine pf_X5_9 rfl rfl dX5_init_9 ((jpush_ne hN (by omega)).trans e0) ?_
  refine J.vret dX5_init_12 rfl (by decide) (by decide) ?_
  refine ⟨rfl, ?_, ?_, ?_, fun j hj hji => ?_⟩
  · exact (jset_eq _ _ _)
  · exact ((jset_ne _ _ (by omega)).trans (jpush_eq hN))
  · show σ.1 + 1 = N + 1; omega
  · exact ((jset_ne _ _ (by omega)).trans ((jpush_ne hN (by omega)).trans (rfl : σ.2 j = σ.2 j)))
theorem jpII_q {σ : jS} {N K x : Nat} (h : σ.1 = x) : (jpushII σ N K).2 x = jQ 1 N (fun i => if i < N then some (x + 1 + i) else none) := by
  subst h
  exact if_pos rfl
theorem jpII_r {σ : jS} {N K x s : Nat} (h : σ.1 = x) (hs : s < N) : (jpushII σ N K).2 (x + 1 + s) = jI K (fun _ => 0) := by
  subst h
  exact (if_neg (by omega)).trans (if_pos (by omega))
theorem jpII_o {σ : jS} {N K x j : Nat} (h : σ.1 = x) (hj : j < x ∨ x + N < j) : (jpushII σ N K).2 j = σ.2 j := by
  subst h
  exact (if_neg (by omega)).trans (if_neg (by omega))
theorem J.newIIx {X : jX} {M : jMt} {rm : Room} {pc : Nat} {lc st : List Value} {k n : Nat} {σ : jS} {Q : jOut → jS → Prop} {a b : Int} {ix : Nat} (N K x : Nat) (hx : σ.1 = x) (d : decode M.2.1 pc = .ok (.multianewarray ix 2, 4)) (ha : a = (N : Int)) (hb9 : b = (K : Int)) (hN9 : N ≤ 1000) (hK9 : K ≤ 10000) (hc : k + (1 + N) ≤ rm.cells) (hs : n + (N + N * K) ≤ rm.slots) (hw : Cond.classLink M.1.cls ix "[[I" ∈ lw_tbl) (hw2 : Cond.arrayClass .int ∈ lw_tbl) (kk : J X M rm (pc + 4) lc (.ref x :: st) (k + 1 + N) (n + N + N * K) (jpushII σ N K) Q) : J X M rm pc lc (vI b :: vI a :: st) k n σ Q := by
  subst hx
  exact J.newII N K d ha hb9 hN9 hK9 hc hs hw hw2 kk
set_option maxRecDepth 20000 in
theorem c_X3_init {X : jX} {σ : jS}  (hN : σ.1 = 22) (e0 : σ.2 21 = jO 2 [.null, .null, .null, .null, vI 0]) : JM X mX3_init rX3_init [.ref 21] σ (fun o σ1 => o = oV ∧ KP σ1 0 (flF (fun _ => 0) 492 (-1)) (fun _ => 0) (fun _ _ => 0) ∧ Fr1 σ σ1 21 22 9) := by
  refine JM.of (lc := [.ref 21]) rfl ?_
  refine J.ald_n dX3_init_0 rfl ?_
  refine J.objInit dX3_init_1 ml_X3_5 im_obj co_obj rfl (by decide) (by decide) ?_
  refine J.ald_n dX3_init_4 rfl ?_
  refine J.sipush dX3_init_5 (by decide) ?_
  refine J.newIx 492 22 hN dX3_init_8 rfl (by omega) (by decide) (by decide) ac_int ?_
  refine pf_X3_11 rfl rfl dX3_init_10 ((jpush_ne hN (by omega)).trans e0) ?_
  refine J.ald_n dX3_init_13 rfl ?_
  refine J.bipush dX3_init_14 (by decide) ?_
  refine J.newIx 12 23 (by show σ.1 + 1 = 23; omega) dX3_init_16 rfl (by omega) (by decide) (by decide) ac_int ?_
  refine pf_X3_15 rfl rfl dX3_init_18 ((jpush_ne (by show σ.1 + 1 = 23; omega) (by omega)).trans (jset_eq _ _ _)) ?_
  refine J.ald_n dX3_init_21 rfl ?_
  refine J.iconst dX3_init_22 ?_
  refine J.sipush dX3_init_23 (by decide) ?_
  refine J.newIIx 5 492 24 (by show σ.1 + 1 + 1 = 24; omega) dX3_init_26 rfl rfl (by decide) (by decide) (by decide) (by decide) cl_X3_18 ac_int ?_
  refine pf_X3_20 rfl rfl dX3_init_30 ((jpII_o (by show σ.1 + 1 + 1 = 24; omega) (by omega)).trans (jset_eq _ _ _)) ?_
  refine J.ald_n dX3_init_33 rfl ?_
  refine J.sipush dX3_init_34 (by decide) ?_
  refine J.newIx 492 30 (by show σ.1 + 1 + 1 + 1 + 1 + 1 + 1 + 1 + 1 = 30; omega) dX3_init_37 rfl (by omega) (by decide) (by decide) ac_int ?_
  refine pf_X3_23 rfl rfl dX3_init_39 ((jpush_ne (by show σ.1 + 1 + 1 + 1 + 1 + 1 + 1 + 1 + 1 = 30; omega) (by omega)).trans (jset_eq _ _ _)) ?_
  refine J.ald_n dX3_init_42 rfl ?_
  refine gf_X3_11 rfl dX3_init_43 (jset_eq _ _ _) ?_
  refine J.iconst dX3_init_46 ?_
  refine J.callS (rm' := rJ7_fill_53178) [.ref 22, vI (-1)] dX3_init_47 (c_J7_fill ((jset_ne _ _ (by omega)).trans ((jpush_ne (by show σ.1 + 1 + 1 + 1 + 1 + 1 + 1 + 1 + 1 = 30; omega) (by omega)).trans ((jset_ne _ _ (by omega)).trans ((jpII_o (by show σ.1 + 1 + 1 = 24; omega) (by omega)).trans ((jset_ne _ _ (by omega)).trans ((jpush_ne (by show σ.1 + 1 = 23; omega) (by omega)).trans ((jset_ne _ _ (by omega)).trans (jpush_eq hN)))))))) (by omega) (by omega)) st_J7_fill_53178 ml_X3_26 sm_J7_fill_53178 rfl (Nat.le_of_ble_eq_true rfl) (by decide) (by decide) (Nat.le_of_ble_eq_true rfl) (by decide) (by decide) (Or.inl rfl) (fun E9 σ9 hq9 _ => nomatch hq9.1) (fun r9 σ9 hq9 hle9 => ?_)
  obtain ⟨h9, rfl⟩ := hq9
  cases h9
  clear hle9
  refine J.vret dX3_init_50 rfl (by decide) (by decide) ?_
  refine ⟨rfl, ⟨?_, ?_, ?_, ⟨fun i => if i < 5 then some (24 + 1 + i) else none, ?_, fun s hs => if_pos hs⟩, fun s hs => ?_, fun _ => 0, ?_, fun _ _ => rfl⟩, ?_, fun j hj hji => ?_⟩
  · exact ((jset_ne _ _ (by omega)).trans (jset_eq _ _ _))
  · exact (jset_eq _ _ _)
  · exact ((jset_ne _ _ (by omega)).trans ((jset_ne _ _ (by omega)).trans ((jpush_ne (by show σ.1 + 1 + 1 + 1 + 1 + 1 + 1 + 1 + 1 = 30; omega) (by omega)).trans ((jset_ne _ _ (by omega)).trans ((jpII_o (by show σ.1 + 1 + 1 = 24; omega) (by omega)).trans ((jset_ne _ _ (by omega)).trans (jpush_eq (by show σ.1 + 1 = 23; omega))))))))
  · exact ((jset_ne _ _ (by omega)).trans ((jset_ne _ _ (by omega)).trans ((jpush_ne (by show σ.1 + 1 + 1 + 1 + 1 + 1 + 1 + 1 + 1 = 30; omega) (by omega)).trans ((jset_ne _ _ (by omega)).trans (jpII_q (by show σ.1 + 1 + 1 = 24; omega))))))
  · exact ((jset_ne _ _ (by omega)).trans ((jset_ne _ _ (by omega)).trans ((jpush_ne (by show σ.1 + 1 + 1 + 1 + 1 + 1 + 1 + 1 + 1 = 30; omega) (by omega)).trans ((jset_ne _ _ (by omega)).trans (jpII_r (by show σ.1 + 1 + 1 = 24; omega) hs)))))
  · exact ((jset_ne _ _ (by omega)).trans ((jset_ne _ _ (by omega)).trans (jpush_eq (by show σ.1 + 1 + 1 + 1 + 1 + 1 + 1 + 1 + 1 = 30; omega))))
  · show σ.1 + 1 + 1 + 1 + 5 + 1 = 22 + 9; omega
  · exact ((jset_ne _ _ (by omega)).trans ((jset_ne _ _ (by omega)).trans ((jpush_ne (by show σ.1 + 1 + 1 + 1 + 1 + 1 + 1 + 1 + 1 = 30; omega) (by omega)).trans ((jset_ne _ _ (by omega)).trans ((jpII_o (by show σ.1 + 1 + 1 = 24; omega) (by omega)).trans ((jset_ne _ _ (by omega)).trans ((jpush_ne (by show σ.1 + 1 = 23; omega) (by omega)).trans ((jset_ne _ _ (by omega)).trans ((jpush_ne hN (by omega)).trans (rfl : σ.2 j = σ.2 j))))))))))
