theorem jw_in {w : Cond} (h : w ∈ lw_tbl) (g : goodWord w = true) : w ∈ jBig := List.mem_filter.mpr ⟨h, g⟩
theorem jl_set1 {ls' : Array Slot} {nL : Nat} {ad : Nat → Nat} {lc : List Value} {i : Nat} {w : Value} {l : List (Nat × Value)} (hn : jnc lc i) (e : (i, tv ad w) :: (jal ad lc).filter (fun q => !(q.1 == i) && !(q.1 + 1 == i && q.2.category == 2)) = l) (h : lv_has ls' nL l) : jl ls' nL ad (lc.set i w) := jl_put1 hn (by rw [e]; exact h)
theorem jl_set2 {ls' : Array Slot} {nL : Nat} {ad : Nat → Nat} {lc : List Value} {i : Nat} {w : Value} {l : List (Nat × Value)} (hn : jnc lc i) (e : (i, tv ad w) :: (jal ad lc).filter (fun q => !(q.1 == i) && (!(q.1 == i + 1) && !(q.1 + 1 == i && q.2.category == 2))) = l) (h : lv_has ls' nL l) : jl ls' nL ad ((lc.set i w).set (i + 1) .null) := jl_put2 hn (by rw [e]; exact h)
theorem J.ild {X : jX} {M : jMt} {rm : Room} {pc : Nat} {lc st : List Value} {k n : Nat} {σ : jS} {Q : jOut → jS → Prop} {i : Nat} {x : Int32} (d : decode M.2.1 pc = .ok (.iload i, 2)) (h : lc[i]? = some (.int x)) (kk : J X M rm (pc + 2) lc (.int x :: st) k n σ Q) : J X M rm pc lc st k n σ Q := by
  intro p e s m args below meth c A ad0 σ0 H locs ls ad C Y hS hl ol os
  obtain ⟨⟨hx, hb, hml, hr, htab⟩, ⟨hown, hlk, hnm, hlt⟩, hts, hA, hK, hN, h5⟩ := id C
  exact lv_iload hx hb d (jl_get hl h (fun q => by cases q)) (kk p e s m args below meth c A ad0 σ0 H locs ls ad C Y hS hl ol (jok_cons trivial os))
theorem J.ild_n {X : jX} {M : jMt} {rm : Room} {pc : Nat} {lc st : List Value} {k n : Nat} {σ : jS} {Q : jOut → jS → Prop} {j : Fin 4} {x : Int32} (d : decode M.2.1 pc = .ok (.iload_n j, 1)) (h : lc[(j : Nat)]? = some (.int x)) (kk : J X M rm (pc + 1) lc (.int x :: st) k n σ Q) : J X M rm pc lc st k n σ Q := by
  intro p e s m args below meth c A ad0 σ0 H locs ls ad C Y hS hl ol os
  obtain ⟨⟨hx, hb, hml, hr, htab⟩, ⟨hown, hlk, hnm, hlt⟩, hts, hA, hK, hN, h5⟩ := id C
  exact lv_iload_n hx hb d rfl (jl_get hl h (fun q => by cases q)) (kk p e s m args below meth c A ad0 σ0 H locs ls ad C Y hS hl ol (jok_cons trivial os))
theorem J.ald {X : jX} {M : jMt} {rm : Room} {pc : Nat} {lc st : List Value} {k n : Nat} {σ : jS} {Q : jOut → jS → Prop} {i : Nat} {x : Nat} (d : decode M.2.1 pc = .ok (.aload i, 2)) (h : lc[i]? = some (.ref x)) (kk : J X M rm (pc + 2) lc (.ref x :: st) k n σ Q) : J X M rm pc lc st k n σ Q := by
  intro p e s m args below meth c A ad0 σ0 H locs ls ad C Y hS hl ol os
  obtain ⟨⟨hx, hb, hml, hr, htab⟩, ⟨hown, hlk, hnm, hlt⟩, hts, hA, hK, hN, h5⟩ := id C
  exact lv_aload hx hb d (jl_get hl h (fun q => by cases q)) (kk p e s m args below meth c A ad0 σ0 H locs ls ad C Y hS hl ol (jok_cons (jok_at ol h) os))
theorem J.ald_n {X : jX} {M : jMt} {rm : Room} {pc : Nat} {lc st : List Value} {k n : Nat} {σ : jS} {Q : jOut → jS → Prop} {j : Fin 4} {x : Nat} (d : decode M.2.1 pc = .ok (.aload_n j, 1)) (h : lc[(j : Nat)]? = some (.ref x)) (kk : J X M rm (pc + 1) lc (.ref x :: st) k n σ Q) : J X M rm pc lc st k n σ Q := by
  intro p e s m args below meth c A ad0 σ0 H locs ls ad C Y hS hl ol os
  obtain ⟨⟨hx, hb, hml, hr, htab⟩, ⟨hown, hlk, hnm, hlt⟩, hts, hA, hK, hN, h5⟩ := id C
  exact lv_aload_n hx hb d rfl (jl_get hl h (fun q => by cases q)) (kk p e s m args below meth c A ad0 σ0 H locs ls ad C Y hS hl ol (jok_cons (jok_at ol h) os))
theorem J.lld {X : jX} {M : jMt} {rm : Room} {pc : Nat} {lc st : List Value} {k n : Nat} {σ : jS} {Q : jOut → jS → Prop} {i : Nat} {x : Int64} (d : decode M.2.1 pc = .ok (.lload i, 2)) (h : lc[i]? = some (.long x)) (kk : J X M rm (pc + 2) lc (.long x :: st) k n σ Q) : J X M rm pc lc st k n σ Q := by
  intro p e s m args below meth c A ad0 σ0 H locs ls ad C Y hS hl ol os
  obtain ⟨⟨hx, hb, hml, hr, htab⟩, ⟨hown, hlk, hnm, hlt⟩, hts, hA, hK, hN, h5⟩ := id C
  exact lv_lload hx hb d (jl_get hl h (fun q => by cases q)) (kk p e s m args below meth c A ad0 σ0 H locs ls ad C Y hS hl ol (jok_cons trivial os))
theorem J.lld_n {X : jX} {M : jMt} {rm : Room} {pc : Nat} {lc st : List Value} {k n : Nat} {σ : jS} {Q : jOut → jS → Prop} {j : Fin 4} {x : Int64} (d : decode M.2.1 pc = .ok (.lload_n j, 1)) (h : lc[(j : Nat)]? = some (.long x)) (kk : J X M rm (pc + 1) lc (.long x :: st) k n σ Q) : J X M rm pc lc st k n σ Q := by
  intro p e s m args below meth c A ad0 σ0 H locs ls ad C Y hS hl ol os
  obtain ⟨⟨hx, hb, hml, hr, htab⟩, ⟨hown, hlk, hnm, hlt⟩, hts, hA, hK, hN, h5⟩ := id C
  exact lv_lload_n hx hb d rfl (jl_get hl h (fun q => by cases q)) (kk p e s m args below meth c A ad0 σ0 H locs ls ad C Y hS hl ol (jok_cons trivial os))
theorem J.dld {X : jX} {M : jMt} {rm : Room} {pc : Nat} {lc st : List Value} {k n : Nat} {σ : jS} {Q : jOut → jS → Prop} {i : Nat} {x : UInt64} (d : decode M.2.1 pc = .ok (.dload i, 2)) (h : lc[i]? = some (.double x)) (kk : J X M rm (pc + 2) lc (.double x :: st) k n σ Q) : J X M rm pc lc st k n σ Q := by
  intro p e s m args below meth c A ad0 σ0 H locs ls ad C Y hS hl ol os
  obtain ⟨⟨hx, hb, hml, hr, htab⟩, ⟨hown, hlk, hnm, hlt⟩, hts, hA, hK, hN, h5⟩ := id C
  exact lv_dload hx hb d (jl_get hl h (fun q => by cases q)) (kk p e s m args below meth c A ad0 σ0 H locs ls ad C Y hS hl ol (jok_cons trivial os))
theorem J.dld_n {X : jX} {M : jMt} {rm : Room} {pc : Nat} {lc st : List Value} {k n : Nat} {σ : jS} {Q : jOut → jS → Prop} {j : Fin 4} {x : UInt64} (d : decode M.2.1 pc = .ok (.dload_n j, 1)) (h : lc[(j : Nat)]? = some (.double x)) (kk : J X M rm (pc + 1) lc (.double x :: st) k n σ Q) : J X M rm pc lc st k n σ Q := by
  intro p e s m args below meth c A ad0 σ0 H locs ls ad C Y hS hl ol os
  obtain ⟨⟨hx, hb, hml, hr, htab⟩, ⟨hown, hlk, hnm, hlt⟩, hts, hA, hK, hN, h5⟩ := id C
  exact lv_dload_n hx hb d rfl (jl_get hl h (fun q => by cases q)) (kk p e s m args below meth c A ad0 σ0 H locs ls ad C Y hS hl ol (jok_cons trivial os))
theorem J.ist {X : jX} {M : jMt} {rm : Room} {pc : Nat} {lc st : List Value} {k n : Nat} {σ : jS} {Q : jOut → jS → Prop} {i : Nat} {x : Int32} (d : decode M.2.1 pc = .ok (.istore i, 2)) (hi : i < M.2.2.1) (hn : jnc lc i) (kk : J X M rm (pc + 2) (lc.set i (.int x)) st k n σ Q) : J X M rm pc lc (.int x :: st) k n σ Q := by
  intro p e s m args below meth c A ad0 σ0 H locs ls ad C Y hS hl ol os
  obtain ⟨⟨hx, hb, hml, hr, htab⟩, ⟨hown, hlk, hnm, hlt⟩, hts, hA, hK, hN, h5⟩ := id C
  refine lv_istore hx hb d (jl_has hl) hi rfl (fun ls' hl' => ?_)
  have hl2 := jl_set1 (w := .int x) (ad := ad) hn rfl hl'
  exact (kk p e s m args below meth c A ad0 σ0 H locs ls' ad C Y hS hl2 (jok_set ol trivial) (jok_tl os))
theorem J.ist_n {X : jX} {M : jMt} {rm : Room} {pc : Nat} {lc st : List Value} {k n : Nat} {σ : jS} {Q : jOut → jS → Prop} {j : Fin 4} {x : Int32} (d : decode M.2.1 pc = .ok (.istore_n j, 1)) (hi : (j : Nat) < M.2.2.1) (hn : jnc lc (j : Nat)) (kk : J X M rm (pc + 1) (lc.set (j : Nat) (.int x)) st k n σ Q) : J X M rm pc lc (.int x :: st) k n σ Q := by
  intro p e s m args below meth c A ad0 σ0 H locs ls ad C Y hS hl ol os
  obtain ⟨⟨hx, hb, hml, hr, htab⟩, ⟨hown, hlk, hnm, hlt⟩, hts, hA, hK, hN, h5⟩ := id C
  refine lv_istore_n hx hb d rfl (jl_has hl) hi rfl (fun ls' hl' => ?_)
  have hl2 := jl_set1 (w := .int x) (ad := ad) hn rfl hl'
  exact (kk p e s m args below meth c A ad0 σ0 H locs ls' ad C Y hS hl2 (jok_set ol trivial) (jok_tl os))
theorem J.ast {X : jX} {M : jMt} {rm : Room} {pc : Nat} {lc st : List Value} {k n : Nat} {σ : jS} {Q : jOut → jS → Prop} {i : Nat} {x : Nat} (d : decode M.2.1 pc = .ok (.astore i, 2)) (hi : i < M.2.2.1) (hn : jnc lc i) (kk : J X M rm (pc + 2) (lc.set i (.ref x)) st k n σ Q) : J X M rm pc lc (.ref x :: st) k n σ Q := by
  intro p e s m args below meth c A ad0 σ0 H locs ls ad C Y hS hl ol os
  obtain ⟨⟨hx, hb, hml, hr, htab⟩, ⟨hown, hlk, hnm, hlt⟩, hts, hA, hK, hN, h5⟩ := id C
  refine lv_astore hx hb d (jl_has hl) hi rfl (fun ls' hl' => ?_)
  have hl2 := jl_set1 (w := .ref x) (ad := ad) hn rfl hl'
  exact (kk p e s m args below meth c A ad0 σ0 H locs ls' ad C Y hS hl2 (jok_set ol (jok_hd os)) (jok_tl os))
theorem J.ast_n {X : jX} {M : jMt} {rm : Room} {pc : Nat} {lc st : List Value} {k n : Nat} {σ : jS} {Q : jOut → jS → Prop} {j : Fin 4} {x : Nat} (d : decode M.2.1 pc = .ok (.astore_n j, 1)) (hi : (j : Nat) < M.2.2.1) (hn : jnc lc (j : Nat)) (kk : J X M rm (pc + 1) (lc.set (j : Nat) (.ref x)) st k n σ Q) : J X M rm pc lc (.ref x :: st) k n σ Q := by
  intro p e s m args below meth c A ad0 σ0 H locs ls ad C Y hS hl ol os
  obtain ⟨⟨hx, hb, hml, hr, htab⟩, ⟨hown, hlk, hnm, hlt⟩, hts, hA, hK, hN, h5⟩ := id C
  refine lv_astore_n hx hb d rfl (jl_has hl) hi rfl (fun ls' hl' => ?_)
  have hl2 := jl_set1 (w := .ref x) (ad := ad) hn rfl hl'
  exact (kk p e s m args below meth c A ad0 σ0 H locs ls' ad C Y hS hl2 (jok_set ol (jok_hd os)) (jok_tl os))
theorem J.lst {X : jX} {M : jMt} {rm : Room} {pc : Nat} {lc st : List Value} {k n : Nat} {σ : jS} {Q : jOut → jS → Prop} {i : Nat} {x : Int64} (d : decode M.2.1 pc = .ok (.lstore i, 2)) (hi : i + 1 < M.2.2.1) (hn : jnc lc i) (kk : J X M rm (pc + 2) ((lc.set i (.long x)).set (i + 1) .null) st k n σ Q) : J X M rm pc lc (.long x :: st) k n σ Q := by
  intro p e s m args below meth c A ad0 σ0 H locs ls ad C Y hS hl ol os
  obtain ⟨⟨hx, hb, hml, hr, htab⟩, ⟨hown, hlk, hnm, hlt⟩, hts, hA, hK, hN, h5⟩ := id C
  refine lv_lstore hx hb d (jl_has hl) hi rfl (fun ls' hl' => ?_)
  have hl2 := jl_set2 (w := .long x) (ad := ad) hn rfl hl'
  exact (kk p e s m args below meth c A ad0 σ0 H locs ls' ad C Y hS hl2 (jok_set (v := Value.null) (jok_set (v := .long x) ol trivial) trivial) (jok_tl os))
theorem J.lst_n {X : jX} {M : jMt} {rm : Room} {pc : Nat} {lc st : List Value} {k n : Nat} {σ : jS} {Q : jOut → jS → Prop} {j : Fin 4} {x : Int64} (d : decode M.2.1 pc = .ok (.lstore_n j, 1)) (hi : (j : Nat) + 1 < M.2.2.1) (hn : jnc lc (j : Nat)) (kk : J X M rm (pc + 1) ((lc.set (j : Nat) (.long x)).set ((j : Nat) + 1) .null) st k n σ Q) : J X M rm pc lc (.long x :: st) k n σ Q := by
  intro p e s m args below meth c A ad0 σ0 H locs ls ad C Y hS hl ol os
  obtain ⟨⟨hx, hb, hml, hr, htab⟩, ⟨hown, hlk, hnm, hlt⟩, hts, hA, hK, hN, h5⟩ := id C
  refine lv_lstore_n hx hb d rfl (jl_has hl) hi rfl (fun ls' hl' => ?_)
  have hl2 := jl_set2 (w := .long x) (ad := ad) hn rfl hl'
  exact (kk p e s m args below meth c A ad0 σ0 H locs ls' ad C Y hS hl2 (jok_set (v := Value.null) (jok_set (v := .long x) ol trivial) trivial) (jok_tl os))
theorem J.dst {X : jX} {M : jMt} {rm : Room} {pc : Nat} {lc st : List Value} {k n : Nat} {σ : jS} {Q : jOut → jS → Prop} {i : Nat} {x : UInt64} (d : decode M.2.1 pc = .ok (.dstore i, 2)) (hi : i + 1 < M.2.2.1) (hn : jnc lc i) (kk : J X M rm (pc + 2) ((lc.set i (.double x)).set (i + 1) .null) st k n σ Q) : J X M rm pc lc (.double x :: st) k n σ Q := by
  intro p e s m args below meth c A ad0 σ0 H locs ls ad C Y hS hl ol os
  obtain ⟨⟨hx, hb, hml, hr, htab⟩, ⟨hown, hlk, hnm, hlt⟩, hts, hA, hK, hN, h5⟩ := id C
  refine lv_dstore hx hb d (jl_has hl) hi rfl (fun ls' hl' => ?_)
  have hl2 := jl_set2 (w := .double x) (ad := ad) hn rfl hl'
  exact (kk p e s m args below meth c A ad0 σ0 H locs ls' ad C Y hS hl2 (jok_set (v := Value.null) (jok_set (v := .double x) ol trivial) trivial) (jok_tl os))
theorem J.dst_n {X : jX} {M : jMt} {rm : Room} {pc : Nat} {lc st : List Value} {k n : Nat} {σ : jS} {Q : jOut → jS → Prop} {j : Fin 4} {x : UInt64} (d : decode M.2.1 pc = .ok (.dstore_n j, 1)) (hi : (j : Nat) + 1 < M.2.2.1) (hn : jnc lc (j : Nat)) (kk : J X M rm (pc + 1) ((lc.set (j : Nat) (.double x)).set ((j : Nat) + 1) .null) st k n σ Q) : J X M rm pc lc (.double x :: st) k n σ Q := by
  intro p e s m args below meth c A ad0 σ0 H locs ls ad C Y hS hl ol os
  obtain ⟨⟨hx, hb, hml, hr, htab⟩, ⟨hown, hlk, hnm, hlt⟩, hts, hA, hK, hN, h5⟩ := id C
  refine lv_dstore_n hx hb d rfl (jl_has hl) hi rfl (fun ls' hl' => ?_)
  have hl2 := jl_set2 (w := .double x) (ad := ad) hn rfl hl'
  exact (kk p e s m args below meth c A ad0 σ0 H locs ls' ad C Y hS hl2 (jok_set (v := Value.null) (jok_set (v := .double x) ol trivial) trivial) (jok_tl os))
theorem J.iinc {X : jX} {M : jMt} {rm : Room} {pc : Nat} {lc st : List Value} {k n : Nat} {σ : jS} {Q : jOut → jS → Prop} {i : Nat} {b a v : Int} (d : decode M.2.1 pc = .ok (.iinc i b, 3)) (h : lc[i]? = some (vI a)) (hv : a + b = v) (hi : i < M.2.2.1) (hn : jnc lc i) (kk : J X M rm (pc + 3) (lc.set i (vI v)) st k n σ Q) : J X M rm pc lc st k n σ Q := by
  intro p e s m args below meth c A ad0 σ0 H locs ls ad C Y hS hl ol os
  obtain ⟨⟨hx, hb, hml, hr, htab⟩, ⟨hown, hlk, hnm, hlt⟩, hts, hA, hK, hN, h5⟩ := id C
  obtain ⟨j, hj⟩ := List.getElem?_of_mem (jal_in (ad := ad) h (fun q => by cases q))
  refine lv_iinc (v := iI v) hx hb d (jl_has hl) hj (by subst hv; exact iI_add a b) hi rfl (fun ls' hl' => ?_)
  have hl2 := jl_set1 (w := vI v) (ad := ad) hn rfl hl'
  exact kk p e s m args below meth c A ad0 σ0 H locs ls' ad C Y hS hl2 (jok_set ol trivial) os
theorem J.iconst {X : jX} {M : jMt} {rm : Room} {pc : Nat} {lc st : List Value} {k n : Nat} {σ : jS} {Q : jOut → jS → Prop} {b : Int} (d : decode M.2.1 pc = .ok (.iconst b, 1)) (kk : J X M rm (pc + 1) lc (vI b :: st) k n σ Q) : J X M rm pc lc st k n σ Q := by
  intro p e s m args below meth c A ad0 σ0 H locs ls ad C Y hS hl ol os
  obtain ⟨⟨hx, hb, hml, hr, htab⟩, ⟨hown, hlk, hnm, hlt⟩, hts, hA, hK, hN, h5⟩ := id C
  exact lv_iconst hx hb d rfl (kk p e s m args below meth c A ad0 σ0 H locs ls ad C Y hS hl ol (jok_cons trivial os))
theorem J.bipush {X : jX} {M : jMt} {rm : Room} {pc : Nat} {lc st : List Value} {k n : Nat} {σ : jS} {Q : jOut → jS → Prop} {b : Int} (d : decode M.2.1 pc = .ok (.bipush b, 2)) (hv : (Int8.ofInt b).toInt32 = iI b) (kk : J X M rm (pc + 2) lc (vI b :: st) k n σ Q) : J X M rm pc lc st k n σ Q := by
  intro p e s m args below meth c A ad0 σ0 H locs ls ad C Y hS hl ol os
  obtain ⟨⟨hx, hb, hml, hr, htab⟩, ⟨hown, hlk, hnm, hlt⟩, hts, hA, hK, hN, h5⟩ := id C
  exact lv_bipush hx hb d hv (kk p e s m args below meth c A ad0 σ0 H locs ls ad C Y hS hl ol (jok_cons trivial os))
theorem J.sipush {X : jX} {M : jMt} {rm : Room} {pc : Nat} {lc st : List Value} {k n : Nat} {σ : jS} {Q : jOut → jS → Prop} {b : Int} (d : decode M.2.1 pc = .ok (.sipush b, 3)) (hv : (Int16.ofInt b).toInt32 = iI b) (kk : J X M rm (pc + 3) lc (vI b :: st) k n σ Q) : J X M rm pc lc st k n σ Q := by
  intro p e s m args below meth c A ad0 σ0 H locs ls ad C Y hS hl ol os
  obtain ⟨⟨hx, hb, hml, hr, htab⟩, ⟨hown, hlk, hnm, hlt⟩, hts, hA, hK, hN, h5⟩ := id C
  exact lv_sipush hx hb d hv (kk p e s m args below meth c A ad0 σ0 H locs ls ad C Y hS hl ol (jok_cons trivial os))
theorem J.ldc {X : jX} {M : jMt} {rm : Room} {pc : Nat} {lc st : List Value} {k n : Nat} {σ : jS} {Q : jOut → jS → Prop} {ix : Nat} {x : Int32} {b : Int} (d : decode M.2.1 pc = .ok (.ldc ix, 2)) (hc : Cond.constant M.1.cls ix x ∈ lw_tbl) (hv : x = iI b) (kk : J X M rm (pc + 2) lc (vI b :: st) k n σ Q) : J X M rm pc lc st k n σ Q := by
  intro p e s m args below meth c A ad0 σ0 H locs ls ad C Y hS hl ol os
  obtain ⟨⟨hx, hb, hml, hr, htab⟩, ⟨hown, hlk, hnm, hlt⟩, hts, hA, hK, hN, h5⟩ := id C
  subst hv
  exact lv_ldc hx hb hown (hts _ (jw_in hc rfl)) d (kk p e s m args below meth c A ad0 σ0 H locs ls ad C Y hS hl ol (jok_cons trivial os))
theorem J.ldc2 {X : jX} {M : jMt} {rm : Room} {pc : Nat} {lc st : List Value} {k n : Nat} {σ : jS} {Q : jOut → jS → Prop} {ix : Nat} {x : Int64} {b : Int} (d : decode M.2.1 pc = .ok (.ldc2_w ix, 3)) (hc : Cond.constantLong M.1.cls ix x ∈ lw_tbl) (hv : x = lI b) (kk : J X M rm (pc + 3) lc (vL b :: st) k n σ Q) : J X M rm pc lc st k n σ Q := by
  intro p e s m args below meth c A ad0 σ0 H locs ls ad C Y hS hl ol os
  obtain ⟨⟨hx, hb, hml, hr, htab⟩, ⟨hown, hlk, hnm, hlt⟩, hts, hA, hK, hN, h5⟩ := id C
  subst hv
  exact lv_ldc2 hx hb hown (hts _ (jw_in hc rfl)) d (kk p e s m args below meth c A ad0 σ0 H locs ls ad C Y hS hl ol (jok_cons trivial os))
theorem J.dconst0 {X : jX} {M : jMt} {rm : Room} {pc : Nat} {lc st : List Value} {k n : Nat} {σ : jS} {Q : jOut → jS → Prop}  (d : decode M.2.1 pc = .ok (.dconst 0, 1)) (kk : J X M rm (pc + 1) lc (.double FP.dconst0 :: st) k n σ Q) : J X M rm pc lc st k n σ Q := by
  intro p e s m args below meth c A ad0 σ0 H locs ls ad C Y hS hl ol os
  obtain ⟨⟨hx, hb, hml, hr, htab⟩, ⟨hown, hlk, hnm, hlt⟩, hts, hA, hK, hN, h5⟩ := id C
  exact lv_dconst0 hx hb d (kk p e s m args below meth c A ad0 σ0 H locs ls ad C Y hS hl ol (jok_cons trivial os))
theorem J.dconst1 {X : jX} {M : jMt} {rm : Room} {pc : Nat} {lc st : List Value} {k n : Nat} {σ : jS} {Q : jOut → jS → Prop}  (d : decode M.2.1 pc = .ok (.dconst 1, 1)) (kk : J X M rm (pc + 1) lc (.double FP.dconst1 :: st) k n σ Q) : J X M rm pc lc st k n σ Q := by
  intro p e s m args below meth c A ad0 σ0 H locs ls ad C Y hS hl ol os
  obtain ⟨⟨hx, hb, hml, hr, htab⟩, ⟨hown, hlk, hnm, hlt⟩, hts, hA, hK, hN, h5⟩ := id C
  exact lv_dconst1 hx hb d (kk p e s m args below meth c A ad0 σ0 H locs ls ad C Y hS hl ol (jok_cons trivial os))
theorem J.dup {X : jX} {M : jMt} {rm : Room} {pc : Nat} {lc st : List Value} {k n : Nat} {σ : jS} {Q : jOut → jS → Prop} {v : Value} (d : decode M.2.1 pc = .ok (.dup, 1)) (hc : v.category = 1) (kk : J X M rm (pc + 1) lc (v :: v :: st) k n σ Q) : J X M rm pc lc (v :: st) k n σ Q := by
  intro p e s m args below meth c A ad0 σ0 H locs ls ad C Y hS hl ol os
  obtain ⟨⟨hx, hb, hml, hr, htab⟩, ⟨hown, hlk, hnm, hlt⟩, hts, hA, hK, hN, h5⟩ := id C
  exact lv_dup hx hb d (by rw [tv_cat]; exact hc) (kk p e s m args below meth c A ad0 σ0 H locs ls ad C Y hS hl ol (jok_cons (jok_hd os) os))
theorem J.dup2 {X : jX} {M : jMt} {rm : Room} {pc : Nat} {lc st : List Value} {k n : Nat} {σ : jS} {Q : jOut → jS → Prop} {v w : Value} (d : decode M.2.1 pc = .ok (.dup2, 1)) (hc : v.category = 1) (hc2 : w.category = 1) (kk : J X M rm (pc + 1) lc (v :: w :: v :: w :: st) k n σ Q) : J X M rm pc lc (v :: w :: st) k n σ Q := by
  intro p e s m args below meth c A ad0 σ0 H locs ls ad C Y hS hl ol os
  obtain ⟨⟨hx, hb, hml, hr, htab⟩, ⟨hown, hlk, hnm, hlt⟩, hts, hA, hK, hN, h5⟩ := id C
  exact lv_dup2_11 hx hb d (by rw [tv_cat]; exact hc) (by rw [tv_cat]; exact hc2) (kk p e s m args below meth c A ad0 σ0 H locs ls ad C Y hS hl ol (jok_cons (jok_hd os) (jok_cons (jok_hd (jok_tl os)) os)))
theorem J.pop {X : jX} {M : jMt} {rm : Room} {pc : Nat} {lc st : List Value} {k n : Nat} {σ : jS} {Q : jOut → jS → Prop} {v : Value} (d : decode M.2.1 pc = .ok (.pop, 1)) (hc : v.category = 1) (kk : J X M rm (pc + 1) lc st k n σ Q) : J X M rm pc lc (v :: st) k n σ Q := by
  intro p e s m args below meth c A ad0 σ0 H locs ls ad C Y hS hl ol os
  obtain ⟨⟨hx, hb, hml, hr, htab⟩, ⟨hown, hlk, hnm, hlt⟩, hts, hA, hK, hN, h5⟩ := id C
  exact lv_pop hx hb d (by rw [tv_cat]; exact hc) (kk p e s m args below meth c A ad0 σ0 H locs ls ad C Y hS hl ol (jok_tl os))
theorem J.iadd {X : jX} {M : jMt} {rm : Room} {pc : Nat} {lc st : List Value} {k n : Nat} {σ : jS} {Q : jOut → jS → Prop} {a b : Int} (d : decode M.2.1 pc = .ok (.iadd, 1)) (kk : J X M rm (pc + 1) lc (vI (a + b) :: st) k n σ Q) : J X M rm pc lc (vI b :: vI a :: st) k n σ Q := by
  intro p e s m args below meth c A ad0 σ0 H locs ls ad C Y hS hl ol os
  obtain ⟨⟨hx, hb, hml, hr, htab⟩, ⟨hown, hlk, hnm, hlt⟩, hts, hA, hK, hN, h5⟩ := id C
  exact lv_iadd hx hb d (by rw [iI_add]; exact (kk p e s m args below meth c A ad0 σ0 H locs ls ad C Y hS hl ol (jok_cons trivial (jok_tl (jok_tl os)))))
theorem J.isub {X : jX} {M : jMt} {rm : Room} {pc : Nat} {lc st : List Value} {k n : Nat} {σ : jS} {Q : jOut → jS → Prop} {a b : Int} (d : decode M.2.1 pc = .ok (.isub, 1)) (kk : J X M rm (pc + 1) lc (vI (a - b) :: st) k n σ Q) : J X M rm pc lc (vI b :: vI a :: st) k n σ Q := by
  intro p e s m args below meth c A ad0 σ0 H locs ls ad C Y hS hl ol os
  obtain ⟨⟨hx, hb, hml, hr, htab⟩, ⟨hown, hlk, hnm, hlt⟩, hts, hA, hK, hN, h5⟩ := id C
  exact lv_isub hx hb d (by rw [iI_sub]; exact (kk p e s m args below meth c A ad0 σ0 H locs ls ad C Y hS hl ol (jok_cons trivial (jok_tl (jok_tl os)))))
theorem J.imul {X : jX} {M : jMt} {rm : Room} {pc : Nat} {lc st : List Value} {k n : Nat} {σ : jS} {Q : jOut → jS → Prop} {a b : Int} (d : decode M.2.1 pc = .ok (.imul, 1)) (kk : J X M rm (pc + 1) lc (vI (a * b) :: st) k n σ Q) : J X M rm pc lc (vI b :: vI a :: st) k n σ Q := by
  intro p e s m args below meth c A ad0 σ0 H locs ls ad C Y hS hl ol os
  obtain ⟨⟨hx, hb, hml, hr, htab⟩, ⟨hown, hlk, hnm, hlt⟩, hts, hA, hK, hN, h5⟩ := id C
  exact lv_imul hx hb d (by rw [iI_mul]; exact (kk p e s m args below meth c A ad0 σ0 H locs ls ad C Y hS hl ol (jok_cons trivial (jok_tl (jok_tl os)))))
theorem J.ladd {X : jX} {M : jMt} {rm : Room} {pc : Nat} {lc st : List Value} {k n : Nat} {σ : jS} {Q : jOut → jS → Prop} {a b : Int} (d : decode M.2.1 pc = .ok (.ladd, 1)) (kk : J X M rm (pc + 1) lc (vL (a + b) :: st) k n σ Q) : J X M rm pc lc (vL b :: vL a :: st) k n σ Q := by
  intro p e s m args below meth c A ad0 σ0 H locs ls ad C Y hS hl ol os
  obtain ⟨⟨hx, hb, hml, hr, htab⟩, ⟨hown, hlk, hnm, hlt⟩, hts, hA, hK, hN, h5⟩ := id C
  exact lv_ladd hx hb d (by rw [lI_add]; exact (kk p e s m args below meth c A ad0 σ0 H locs ls ad C Y hS hl ol (jok_cons trivial (jok_tl (jok_tl os)))))
theorem J.lmul {X : jX} {M : jMt} {rm : Room} {pc : Nat} {lc st : List Value} {k n : Nat} {σ : jS} {Q : jOut → jS → Prop} {a b : Int} (d : decode M.2.1 pc = .ok (.lmul, 1)) (kk : J X M rm (pc + 1) lc (vL (a * b) :: st) k n σ Q) : J X M rm pc lc (vL b :: vL a :: st) k n σ Q := by
  intro p e s m args below meth c A ad0 σ0 H locs ls ad C Y hS hl ol os
  obtain ⟨⟨hx, hb, hml, hr, htab⟩, ⟨hown, hlk, hnm, hlt⟩, hts, hA, hK, hN, h5⟩ := id C
  exact lv_lmul hx hb d (by rw [lI_mul]; exact (kk p e s m args below meth c A ad0 σ0 H locs ls ad C Y hS hl ol (jok_cons trivial (jok_tl (jok_tl os)))))
theorem J.idiv {X : jX} {M : jMt} {rm : Room} {pc : Nat} {lc st : List Value} {k n : Nat} {σ : jS} {Q : jOut → jS → Prop} {a b : Int} (d : decode M.2.1 pc = .ok (.idiv, 1)) (ha : inI a) (hb' : inI b) (hz : b ≠ 0) (kk : J X M rm (pc + 1) lc (vI (a.tdiv b) :: st) k n σ Q) : J X M rm pc lc (vI b :: vI a :: st) k n σ Q := by
  intro p e s m args below meth c A ad0 σ0 H locs ls ad C Y hS hl ol os
  obtain ⟨⟨hx, hb, hml, hr, htab⟩, ⟨hown, hlk, hnm, hlt⟩, hts, hA, hK, hN, h5⟩ := id C
  exact lv_idiv hx hb d (fun q => hz ((iI_eq hb' inI_0).mp (q.trans iI_0.symm))) (by rw [iI_div ha hb']; exact (kk p e s m args below meth c A ad0 σ0 H locs ls ad C Y hS hl ol (jok_cons trivial (jok_tl (jok_tl os)))))
theorem J.irem {X : jX} {M : jMt} {rm : Room} {pc : Nat} {lc st : List Value} {k n : Nat} {σ : jS} {Q : jOut → jS → Prop} {a b : Int} (d : decode M.2.1 pc = .ok (.irem, 1)) (ha : inI a) (hb' : inI b) (hz : b ≠ 0) (kk : J X M rm (pc + 1) lc (vI (a.tmod b) :: st) k n σ Q) : J X M rm pc lc (vI b :: vI a :: st) k n σ Q := by
  intro p e s m args below meth c A ad0 σ0 H locs ls ad C Y hS hl ol os
  obtain ⟨⟨hx, hb, hml, hr, htab⟩, ⟨hown, hlk, hnm, hlt⟩, hts, hA, hK, hN, h5⟩ := id C
  exact lv_irem hx hb d (fun q => hz ((iI_eq hb' inI_0).mp (q.trans iI_0.symm))) (by rw [iI_rem ha hb']; exact (kk p e s m args below meth c A ad0 σ0 H locs ls ad C Y hS hl ol (jok_cons trivial (jok_tl (jok_tl os)))))
theorem J.iand {X : jX} {M : jMt} {rm : Room} {pc : Nat} {lc st : List Value} {k n : Nat} {σ : jS} {Q : jOut → jS → Prop} {x y : Int32} (d : decode M.2.1 pc = .ok (.iand, 1)) (kk : J X M rm (pc + 1) lc (.int (x &&& y) :: st) k n σ Q) : J X M rm pc lc (.int y :: .int x :: st) k n σ Q := by
  intro p e s m args below meth c A ad0 σ0 H locs ls ad C Y hS hl ol os
  obtain ⟨⟨hx, hb, hml, hr, htab⟩, ⟨hown, hlk, hnm, hlt⟩, hts, hA, hK, hN, h5⟩ := id C
  exact lv_iand hx hb d (kk p e s m args below meth c A ad0 σ0 H locs ls ad C Y hS hl ol (jok_cons trivial (jok_tl (jok_tl os))))
theorem J.ixor {X : jX} {M : jMt} {rm : Room} {pc : Nat} {lc st : List Value} {k n : Nat} {σ : jS} {Q : jOut → jS → Prop} {x y : Int32} (d : decode M.2.1 pc = .ok (.ixor, 1)) (kk : J X M rm (pc + 1) lc (.int (x ^^^ y) :: st) k n σ Q) : J X M rm pc lc (.int y :: .int x :: st) k n σ Q := by
  intro p e s m args below meth c A ad0 σ0 H locs ls ad C Y hS hl ol os
  obtain ⟨⟨hx, hb, hml, hr, htab⟩, ⟨hown, hlk, hnm, hlt⟩, hts, hA, hK, hN, h5⟩ := id C
  exact lv_ixor hx hb d (kk p e s m args below meth c A ad0 σ0 H locs ls ad C Y hS hl ol (jok_cons trivial (jok_tl (jok_tl os))))
theorem J.i2l {X : jX} {M : jMt} {rm : Room} {pc : Nat} {lc st : List Value} {k n : Nat} {σ : jS} {Q : jOut → jS → Prop} {a : Int} (d : decode M.2.1 pc = .ok (.i2l, 1)) (ha : inI a) (kk : J X M rm (pc + 1) lc (vL a :: st) k n σ Q) : J X M rm pc lc (vI a :: st) k n σ Q := by
  intro p e s m args below meth c A ad0 σ0 H locs ls ad C Y hS hl ol os
  obtain ⟨⟨hx, hb, hml, hr, htab⟩, ⟨hown, hlk, hnm, hlt⟩, hts, hA, hK, hN, h5⟩ := id C
  exact lv_i2l hx hb d (iI_l ha) (kk p e s m args below meth c A ad0 σ0 H locs ls ad C Y hS hl ol (jok_cons trivial (jok_tl os)))
theorem J.i2d {X : jX} {M : jMt} {rm : Room} {pc : Nat} {lc st : List Value} {k n : Nat} {σ : jS} {Q : jOut → jS → Prop} {x : Int32} (d : decode M.2.1 pc = .ok (.i2d, 1)) (kk : J X M rm (pc + 1) lc (.double (FP.i2d x) :: st) k n σ Q) : J X M rm pc lc (.int x :: st) k n σ Q := by
  intro p e s m args below meth c A ad0 σ0 H locs ls ad C Y hS hl ol os
  obtain ⟨⟨hx, hb, hml, hr, htab⟩, ⟨hown, hlk, hnm, hlt⟩, hts, hA, hK, hN, h5⟩ := id C
  exact lv_i2d hx hb d (kk p e s m args below meth c A ad0 σ0 H locs ls ad C Y hS hl ol (jok_cons trivial (jok_tl os)))
theorem J.ddiv {X : jX} {M : jMt} {rm : Room} {pc : Nat} {lc st : List Value} {k n : Nat} {σ : jS} {Q : jOut → jS → Prop} {x y : UInt64} (d : decode M.2.1 pc = .ok (.ddiv, 1)) (hn : vf_n64 (FP.ddiv x y)) (kk : J X M rm (pc + 1) lc (.double (FP.ddiv x y) :: st) k n σ Q) : J X M rm pc lc (.double y :: .double x :: st) k n σ Q := by
  intro p e s m args below meth c A ad0 σ0 H locs ls ad C Y hS hl ol os
  obtain ⟨⟨hx, hb, hml, hr, htab⟩, ⟨hown, hlk, hnm, hlt⟩, hts, hA, hK, hN, h5⟩ := id C
  exact lv_ddiv hx hb d hn (kk p e s m args below meth c A ad0 σ0 H locs ls ad C Y hS hl ol (jok_cons trivial (jok_tl (jok_tl os))))
theorem J.dcmp {X : jX} {M : jMt} {rm : Room} {pc : Nat} {lc st : List Value} {k n : Nat} {σ : jS} {Q : jOut → jS → Prop} {x y : UInt64} {o : CmpOp} (d : decode M.2.1 pc = .ok (.dcmp o, 1)) (kk : J X M rm (pc + 1) lc (.int (Op.cmpValue (FP.dcmp x y) o) :: st) k n σ Q) : J X M rm pc lc (.double y :: .double x :: st) k n σ Q := by
  intro p e s m args below meth c A ad0 σ0 H locs ls ad C Y hS hl ol os
  obtain ⟨⟨hx, hb, hml, hr, htab⟩, ⟨hown, hlk, hnm, hlt⟩, hts, hA, hK, hN, h5⟩ := id C
  exact lv_dcmp hx hb d (kk p e s m args below meth c A ad0 σ0 H locs ls ad C Y hS hl ol (jok_cons trivial (jok_tl (jok_tl os))))
theorem J.lcmp {X : jX} {M : jMt} {rm : Room} {pc : Nat} {lc st : List Value} {k n : Nat} {σ : jS} {Q : jOut → jS → Prop} {x y : Int64} (d : decode M.2.1 pc = .ok (.lcmp, 1)) (kk : J X M rm (pc + 1) lc (.int (lg_cmp x y) :: st) k n σ Q) : J X M rm pc lc (.long y :: .long x :: st) k n σ Q := by
  intro p e s m args below meth c A ad0 σ0 H locs ls ad C Y hS hl ol os
  obtain ⟨⟨hx, hb, hml, hr, htab⟩, ⟨hown, hlk, hnm, hlt⟩, hts, hA, hK, hN, h5⟩ := id C
  exact W.lcmp hx hb d (kk p e s m args below meth c A ad0 σ0 H locs ls ad C Y hS hl ol (jok_cons trivial (jok_tl (jok_tl os))))
theorem J.icmp_eq {X : jX} {M : jMt} {rm : Room} {pc : Nat} {lc st : List Value} {k n : Nat} {σ : jS} {Q : jOut → jS → Prop} {a b off : Int} {tgt : Nat} (d : decode M.2.1 pc = .ok (.if_icmp .eq off, 3)) (ht : (pc : Int) + off = (tgt : Int)) (ha : inI a) (hb' : inI b) (kt : a = b → J X M rm tgt lc st k n σ Q) (kf : ¬ a = b → J X M rm (pc + 3) lc st k n σ Q) : J X M rm pc lc (vI b :: vI a :: st) k n σ Q := by
  intro p e s m args below meth c A ad0 σ0 H locs ls ad C Y hS hl ol os
  obtain ⟨⟨hx, hb, hml, hr, htab⟩, ⟨hown, hlk, hnm, hlt⟩, hts, hA, hK, hN, h5⟩ := id C
  exact lv_icmp_eq hx hb d ht (fun q => (kt ((iI_eq ha hb').mp q)) p e s m args below meth c A ad0 σ0 H locs ls ad C Y hS hl ol (jok_tl (jok_tl os))) (fun q => (kf (fun z => q ((iI_eq ha hb').mpr z))) p e s m args below meth c A ad0 σ0 H locs ls ad C Y hS hl ol (jok_tl (jok_tl os)))
theorem J.if_eq {X : jX} {M : jMt} {rm : Room} {pc : Nat} {lc st : List Value} {k n : Nat} {σ : jS} {Q : jOut → jS → Prop} {a off : Int} {tgt : Nat} (d : decode M.2.1 pc = .ok (.ifCond .eq off, 3)) (ht : (pc : Int) + off = (tgt : Int)) (ha : inI a) (kt : a = 0 → J X M rm tgt lc st k n σ Q) (kf : ¬ a = 0 → J X M rm (pc + 3) lc st k n σ Q) : J X M rm pc lc (vI a :: st) k n σ Q := by
  intro p e s m args below meth c A ad0 σ0 H locs ls ad C Y hS hl ol os
  obtain ⟨⟨hx, hb, hml, hr, htab⟩, ⟨hown, hlk, hnm, hlt⟩, hts, hA, hK, hN, h5⟩ := id C
  exact lv_if_eq hx hb d ht (fun q => (kt ((iI_eq ha inI_0).mp q)) p e s m args below meth c A ad0 σ0 H locs ls ad C Y hS hl ol (jok_tl os)) (fun q => (kf (fun z => q ((iI_eq ha inI_0).mpr z))) p e s m args below meth c A ad0 σ0 H locs ls ad C Y hS hl ol (jok_tl os))
theorem J.icmp_ne {X : jX} {M : jMt} {rm : Room} {pc : Nat} {lc st : List Value} {k n : Nat} {σ : jS} {Q : jOut → jS → Prop} {a b off : Int} {tgt : Nat} (d : decode M.2.1 pc = .ok (.if_icmp .ne off, 3)) (ht : (pc : Int) + off = (tgt : Int)) (ha : inI a) (hb' : inI b) (kt : ¬ a = b → J X M rm tgt lc st k n σ Q) (kf : a = b → J X M rm (pc + 3) lc st k n σ Q) : J X M rm pc lc (vI b :: vI a :: st) k n σ Q := by
  intro p e s m args below meth c A ad0 σ0 H locs ls ad C Y hS hl ol os
  obtain ⟨⟨hx, hb, hml, hr, htab⟩, ⟨hown, hlk, hnm, hlt⟩, hts, hA, hK, hN, h5⟩ := id C
  exact lv_icmp_ne hx hb d ht (fun q => (kt (fun z => q ((iI_eq ha hb').mpr z))) p e s m args below meth c A ad0 σ0 H locs ls ad C Y hS hl ol (jok_tl (jok_tl os))) (fun q => (kf ((iI_eq ha hb').mp q)) p e s m args below meth c A ad0 σ0 H locs ls ad C Y hS hl ol (jok_tl (jok_tl os)))
theorem J.if_ne {X : jX} {M : jMt} {rm : Room} {pc : Nat} {lc st : List Value} {k n : Nat} {σ : jS} {Q : jOut → jS → Prop} {a off : Int} {tgt : Nat} (d : decode M.2.1 pc = .ok (.ifCond .ne off, 3)) (ht : (pc : Int) + off = (tgt : Int)) (ha : inI a) (kt : ¬ a = 0 → J X M rm tgt lc st k n σ Q) (kf : a = 0 → J X M rm (pc + 3) lc st k n σ Q) : J X M rm pc lc (vI a :: st) k n σ Q := by
  intro p e s m args below meth c A ad0 σ0 H locs ls ad C Y hS hl ol os
  obtain ⟨⟨hx, hb, hml, hr, htab⟩, ⟨hown, hlk, hnm, hlt⟩, hts, hA, hK, hN, h5⟩ := id C
  exact lv_if_ne hx hb d ht (fun q => (kt (fun z => q ((iI_eq ha inI_0).mpr z))) p e s m args below meth c A ad0 σ0 H locs ls ad C Y hS hl ol (jok_tl os)) (fun q => (kf ((iI_eq ha inI_0).mp q)) p e s m args below meth c A ad0 σ0 H locs ls ad C Y hS hl ol (jok_tl os))
theorem J.icmp_lt {X : jX} {M : jMt} {rm : Room} {pc : Nat} {lc st : List Value} {k n : Nat} {σ : jS} {Q : jOut → jS → Prop} {a b off : Int} {tgt : Nat} (d : decode M.2.1 pc = .ok (.if_icmp .lt off, 3)) (ht : (pc : Int) + off = (tgt : Int)) (ha : inI a) (hb' : inI b) (kt : a < b → J X M rm tgt lc st k n σ Q) (kf : ¬ a < b → J X M rm (pc + 3) lc st k n σ Q) : J X M rm pc lc (vI b :: vI a :: st) k n σ Q := by
  intro p e s m args below meth c A ad0 σ0 H locs ls ad C Y hS hl ol os
  obtain ⟨⟨hx, hb, hml, hr, htab⟩, ⟨hown, hlk, hnm, hlt⟩, hts, hA, hK, hN, h5⟩ := id C
  exact lv_icmp_lt hx hb d ht (fun q => (kt ((iI_lt ha hb').mp q)) p e s m args below meth c A ad0 σ0 H locs ls ad C Y hS hl ol (jok_tl (jok_tl os))) (fun q => (kf (fun z => q ((iI_lt ha hb').mpr z))) p e s m args below meth c A ad0 σ0 H locs ls ad C Y hS hl ol (jok_tl (jok_tl os)))
theorem J.if_lt {X : jX} {M : jMt} {rm : Room} {pc : Nat} {lc st : List Value} {k n : Nat} {σ : jS} {Q : jOut → jS → Prop} {a off : Int} {tgt : Nat} (d : decode M.2.1 pc = .ok (.ifCond .lt off, 3)) (ht : (pc : Int) + off = (tgt : Int)) (ha : inI a) (kt : a < 0 → J X M rm tgt lc st k n σ Q) (kf : ¬ a < 0 → J X M rm (pc + 3) lc st k n σ Q) : J X M rm pc lc (vI a :: st) k n σ Q := by
  intro p e s m args below meth c A ad0 σ0 H locs ls ad C Y hS hl ol os
  obtain ⟨⟨hx, hb, hml, hr, htab⟩, ⟨hown, hlk, hnm, hlt⟩, hts, hA, hK, hN, h5⟩ := id C
  exact lv_if_lt hx hb d ht (fun q => (kt ((iI_lt ha inI_0).mp q)) p e s m args below meth c A ad0 σ0 H locs ls ad C Y hS hl ol (jok_tl os)) (fun q => (kf (fun z => q ((iI_lt ha inI_0).mpr z))) p e s m args below meth c A ad0 σ0 H locs ls ad C Y hS hl ol (jok_tl os))
theorem J.icmp_ge {X : jX} {M : jMt} {rm : Room} {pc : Nat} {lc st : List Value} {k n : Nat} {σ : jS} {Q : jOut → jS → Prop} {a b off : Int} {tgt : Nat} (d : decode M.2.1 pc = .ok (.if_icmp .ge off, 3)) (ht : (pc : Int) + off = (tgt : Int)) (ha : inI a) (hb' : inI b) (kt : b ≤ a → J X M rm tgt lc st k n σ Q) (kf : ¬ b ≤ a → J X M rm (pc + 3) lc st k n σ Q) : J X M rm pc lc (vI b :: vI a :: st) k n σ Q := by
  intro p e s m args below meth c A ad0 σ0 H locs ls ad C Y hS hl ol os
  obtain ⟨⟨hx, hb, hml, hr, htab⟩, ⟨hown, hlk, hnm, hlt⟩, hts, hA, hK, hN, h5⟩ := id C
  exact lv_icmp_ge hx hb d ht (fun q => (kt ((iI_le hb' ha).mp q)) p e s m args below meth c A ad0 σ0 H locs ls ad C Y hS hl ol (jok_tl (jok_tl os))) (fun q => (kf (fun z => q ((iI_le hb' ha).mpr z))) p e s m args below meth c A ad0 σ0 H locs ls ad C Y hS hl ol (jok_tl (jok_tl os)))
theorem J.if_ge {X : jX} {M : jMt} {rm : Room} {pc : Nat} {lc st : List Value} {k n : Nat} {σ : jS} {Q : jOut → jS → Prop} {a off : Int} {tgt : Nat} (d : decode M.2.1 pc = .ok (.ifCond .ge off, 3)) (ht : (pc : Int) + off = (tgt : Int)) (ha : inI a) (kt : 0 ≤ a → J X M rm tgt lc st k n σ Q) (kf : ¬ 0 ≤ a → J X M rm (pc + 3) lc st k n σ Q) : J X M rm pc lc (vI a :: st) k n σ Q := by
  intro p e s m args below meth c A ad0 σ0 H locs ls ad C Y hS hl ol os
  obtain ⟨⟨hx, hb, hml, hr, htab⟩, ⟨hown, hlk, hnm, hlt⟩, hts, hA, hK, hN, h5⟩ := id C
  exact lv_if_ge hx hb d ht (fun q => (kt ((iI_le inI_0 ha).mp q)) p e s m args below meth c A ad0 σ0 H locs ls ad C Y hS hl ol (jok_tl os)) (fun q => (kf (fun z => q ((iI_le inI_0 ha).mpr z))) p e s m args below meth c A ad0 σ0 H locs ls ad C Y hS hl ol (jok_tl os))
theorem J.icmp_gt {X : jX} {M : jMt} {rm : Room} {pc : Nat} {lc st : List Value} {k n : Nat} {σ : jS} {Q : jOut → jS → Prop} {a b off : Int} {tgt : Nat} (d : decode M.2.1 pc = .ok (.if_icmp .gt off, 3)) (ht : (pc : Int) + off = (tgt : Int)) (ha : inI a) (hb' : inI b) (kt : b < a → J X M rm tgt lc st k n σ Q) (kf : ¬ b < a → J X M rm (pc + 3) lc st k n σ Q) : J X M rm pc lc (vI b :: vI a :: st) k n σ Q := by
  intro p e s m args below meth c A ad0 σ0 H locs ls ad C Y hS hl ol os
  obtain ⟨⟨hx, hb, hml, hr, htab⟩, ⟨hown, hlk, hnm, hlt⟩, hts, hA, hK, hN, h5⟩ := id C
  exact lv_icmp_gt hx hb d ht (fun q => (kt ((iI_lt hb' ha).mp q)) p e s m args below meth c A ad0 σ0 H locs ls ad C Y hS hl ol (jok_tl (jok_tl os))) (fun q => (kf (fun z => q ((iI_lt hb' ha).mpr z))) p e s m args below meth c A ad0 σ0 H locs ls ad C Y hS hl ol (jok_tl (jok_tl os)))
theorem J.if_gt {X : jX} {M : jMt} {rm : Room} {pc : Nat} {lc st : List Value} {k n : Nat} {σ : jS} {Q : jOut → jS → Prop} {a off : Int} {tgt : Nat} (d : decode M.2.1 pc = .ok (.ifCond .gt off, 3)) (ht : (pc : Int) + off = (tgt : Int)) (ha : inI a) (kt : 0 < a → J X M rm tgt lc st k n σ Q) (kf : ¬ 0 < a → J X M rm (pc + 3) lc st k n σ Q) : J X M rm pc lc (vI a :: st) k n σ Q := by
  intro p e s m args below meth c A ad0 σ0 H locs ls ad C Y hS hl ol os
  obtain ⟨⟨hx, hb, hml, hr, htab⟩, ⟨hown, hlk, hnm, hlt⟩, hts, hA, hK, hN, h5⟩ := id C
  exact lv_if_gt hx hb d ht (fun q => (kt ((iI_lt inI_0 ha).mp q)) p e s m args below meth c A ad0 σ0 H locs ls ad C Y hS hl ol (jok_tl os)) (fun q => (kf (fun z => q ((iI_lt inI_0 ha).mpr z))) p e s m args below meth c A ad0 σ0 H locs ls ad C Y hS hl ol (jok_tl os))
theorem J.icmp_le {X : jX} {M : jMt} {rm : Room} {pc : Nat} {lc st : List Value} {k n : Nat} {σ : jS} {Q : jOut → jS → Prop} {a b off : Int} {tgt : Nat} (d : decode M.2.1 pc = .ok (.if_icmp .le off, 3)) (ht : (pc : Int) + off = (tgt : Int)) (ha : inI a) (hb' : inI b) (kt : a ≤ b → J X M rm tgt lc st k n σ Q) (kf : ¬ a ≤ b → J X M rm (pc + 3) lc st k n σ Q) : J X M rm pc lc (vI b :: vI a :: st) k n σ Q := by
  intro p e s m args below meth c A ad0 σ0 H locs ls ad C Y hS hl ol os
  obtain ⟨⟨hx, hb, hml, hr, htab⟩, ⟨hown, hlk, hnm, hlt⟩, hts, hA, hK, hN, h5⟩ := id C
  exact lv_icmp_le hx hb d ht (fun q => (kt ((iI_le ha hb').mp q)) p e s m args below meth c A ad0 σ0 H locs ls ad C Y hS hl ol (jok_tl (jok_tl os))) (fun q => (kf (fun z => q ((iI_le ha hb').mpr z))) p e s m args below meth c A ad0 σ0 H locs ls ad C Y hS hl ol (jok_tl (jok_tl os)))
theorem J.if_le {X : jX} {M : jMt} {rm : Room} {pc : Nat} {lc st : List Value} {k n : Nat} {σ : jS} {Q : jOut → jS → Prop} {a off : Int} {tgt : Nat} (d : decode M.2.1 pc = .ok (.ifCond .le off, 3)) (ht : (pc : Int) + off = (tgt : Int)) (ha : inI a) (kt : a ≤ 0 → J X M rm tgt lc st k n σ Q) (kf : ¬ a ≤ 0 → J X M rm (pc + 3) lc st k n σ Q) : J X M rm pc lc (vI a :: st) k n σ Q := by
  intro p e s m args below meth c A ad0 σ0 H locs ls ad C Y hS hl ol os
  obtain ⟨⟨hx, hb, hml, hr, htab⟩, ⟨hown, hlk, hnm, hlt⟩, hts, hA, hK, hN, h5⟩ := id C
  exact lv_if_le hx hb d ht (fun q => (kt ((iI_le ha inI_0).mp q)) p e s m args below meth c A ad0 σ0 H locs ls ad C Y hS hl ol (jok_tl os)) (fun q => (kf (fun z => q ((iI_le ha inI_0).mpr z))) p e s m args below meth c A ad0 σ0 H locs ls ad C Y hS hl ol (jok_tl os))
theorem J.goto {X : jX} {M : jMt} {rm : Room} {pc : Nat} {lc st : List Value} {k n : Nat} {σ : jS} {Q : jOut → jS → Prop} {off : Int} {tgt : Nat} (d : decode M.2.1 pc = .ok (.goto off, 3)) (ht : (pc : Int) + off = (tgt : Int)) (kk : J X M rm tgt lc st k n σ Q) : J X M rm pc lc st k n σ Q := by
  intro p e s m args below meth c A ad0 σ0 H locs ls ad C Y hS hl ol os
  obtain ⟨⟨hx, hb, hml, hr, htab⟩, ⟨hown, hlk, hnm, hlt⟩, hts, hA, hK, hN, h5⟩ := id C
  exact lv_goto hx hb d ht (kk p e s m args below meth c A ad0 σ0 H locs ls ad C Y hS hl ol os)
theorem J.tableIn {X : jX} {M : jMt} {rm : Room} {pc : Nat} {lc st : List Value} {k n : Nat} {σ : jS} {Q : jOut → jS → Prop} {dflt lo hi : Int} {offs : Array Int} {len : Nat} {x : Int32} {off : Int} {tgt : Nat} (d : decode M.2.1 pc = .ok (.tableswitch dflt lo hi offs, len)) (h1 : ¬ x.toInt < lo) (h2 : ¬ hi < x.toInt) (ho : offs[(x.toInt - lo).toNat]? = some off) (ht : (pc : Int) + off = (tgt : Int)) (kk : J X M rm tgt lc st k n σ Q) : J X M rm pc lc (.int x :: st) k n σ Q := by
  intro p e s m args below meth c A ad0 σ0 H locs ls ad C Y hS hl ol os
  obtain ⟨⟨hx, hb, hml, hr, htab⟩, ⟨hown, hlk, hnm, hlt⟩, hts, hA, hK, hN, h5⟩ := id C
  exact lv_tableIn hx hb d h1 h2 ho ht (kk p e s m args below meth c A ad0 σ0 H locs ls ad C Y hS hl ol (jok_tl os))
theorem J.tableOut {X : jX} {M : jMt} {rm : Room} {pc : Nat} {lc st : List Value} {k n : Nat} {σ : jS} {Q : jOut → jS → Prop} {dflt lo hi : Int} {offs : Array Int} {len : Nat} {x : Int32} {tgt : Nat} (d : decode M.2.1 pc = .ok (.tableswitch dflt lo hi offs, len)) (h : x.toInt < lo ∨ hi < x.toInt) (ht : (pc : Int) + dflt = (tgt : Int)) (kk : J X M rm tgt lc st k n σ Q) : J X M rm pc lc (.int x :: st) k n σ Q := by
  intro p e s m args below meth c A ad0 σ0 H locs ls ad C Y hS hl ol os
  obtain ⟨⟨hx, hb, hml, hr, htab⟩, ⟨hown, hlk, hnm, hlt⟩, hts, hA, hK, hN, h5⟩ := id C
  exact lv_tableOut hx hb d h ht (kk p e s m args below meth c A ad0 σ0 H locs ls ad C Y hS hl ol (jok_tl os))
