/-! rows of the small machine: a handler that stores what was thrown and answers a number; rows of rows -/
def jCatch (M : jMt) (pc : Nat) (E : String) (b : Int) : Prop :=
  ∃ (pre : List ExceptionTableEntry) (x : ExceptionTableEntry) (suf : List ExceptionTableEntry), tableOf M.2.2.2.2 = pre ++ x :: suf ∧ (∀ z ∈ pre, covers z pc = false ∨ (z.catchType ≠ 0 ∧ ∃ nm : String, Cond.classLink M.1.cls z.catchType nm ∈ lw_tbl ∧ (E, nm) ∈ jNcs)) ∧ covers x pc = true ∧ x.catchType ≠ 0 ∧ Cond.classLink M.1.cls x.catchType E ∈ lw_tbl ∧ Cond.castable E E ∈ lw_tbl ∧
    ((∃ j : Fin 4, decode M.2.1 x.handlerPc = .ok (.astore_n j, 1) ∧ (j : Nat) < M.2.2.1 ∧ decode M.2.1 (x.handlerPc + 1) = .ok (.iconst b, 1) ∧ decode M.2.1 (x.handlerPc + 1 + 1) = .ok (.ireturn, 1)) ∨ (∃ j : Nat, decode M.2.1 x.handlerPc = .ok (.astore j, 2) ∧ j < M.2.2.1 ∧ decode M.2.1 (x.handlerPc + 2) = .ok (.iconst b, 1) ∧ decode M.2.1 (x.handlerPc + 2 + 1) = .ok (.ireturn, 1)))
theorem J.callVC {X : jX} {M : jMt} {rm : Room} {pc : Nat} {lc st st0 : List Value} {k n : Nat} {σ : jS} {Q : jOut → jS → Prop} {M' : jMt} {rm' : Room} {Q1 : jOut → jS → Prop} {ix i ci N : Nat} {T : u_T} {fs : List Value} (as : List Value) (d : decode M.2.1 pc = .ok (.invokevirtual ix, 3)) (hJ : JM X M' rm' (.ref i :: as) σ Q1) (he : σ.2 i = jO ci fs) (hci : vwCl[ci]? = some (M'.1.cls, T, N)) (hst : jSt M' as.length) (hl9 : Cond.methodLink M.1.cls ix M'.1 ∈ lw_tbl) (hi9 : Cond.instanceMethod M'.1 ∈ lw_tbl) (hs9 : Cond.selects M'.1.cls M'.1 M'.1 ∈ lw_tbl) (hst0 : st0 = as.reverse ++ .ref i :: st) (hlen : (jargs (.ref i :: as)).length ≤ M'.2.2.1) (hf : rm'.frames + 1 ≤ rm.frames) (hlo : 8 + (M'.2.2.1 + 11) + rm'.locals ≤ rm.locals) (hcat : jcat st ≤ 8) (hb1 : k + rm'.cells ≤ rm.cells) (hb2 : n + rm'.slots ≤ rm.slots)
    (hret : M.2.2.2.1 = some .int) (kc : ∀ E σ', Q1 (.inr E) σ' → ∃ b : Int, jCatch M pc E b ∧ Q (.inl (some (vI b))) σ') (kk : ∀ r σ', Q1 (.inl r) σ' → σ.1 ≤ σ'.1 → J X M rm (pc + 3) lc (r.toList ++ st) (k + rm'.cells) (n + rm'.slots) σ' Q) : J X M rm pc lc st0 k n σ Q := by
  subst hst0
  intro p e s m args below meth c A ad0 σ0 H locs ls ad C Y hS hl ol os
  obtain ⟨⟨hx, hb, hml, hr9, htab⟩, ⟨hown, hlk, hnm, hlt⟩, hts, hA, hK, hN, h5⟩ := id C
  have os1 : jok σ.1 (.ref i :: as) := fun v hv => os v (by rcases List.mem_cons.mp hv with rfl | h; exact List.mem_append_right _ List.mem_cons_self; exact List.mem_append_left _ (List.mem_reverse.mpr h))
  have os2 : jok σ.1 st := fun v hv => os v (List.mem_append_right _ (List.mem_cons_of_mem _ hv))
  have hi : i < σ.1 := jok_hd os1
  have hw := jws_at (cA := X.2.2) (ad := ad) (jown C Y he (jO_ne _ _)) hi
  rw [he] at hw
  have hM := jm_met hJ hst.1 hst.2.1 hlen ad H.size
  have hF := jfree Y hS hA
  have hr := vx_runV (l := X.1) (e := e) (R := rm) (below := below) (meth := meth) (H := H) (locs := locs) (cells := k) (slots := n) (g := F0 m pc ls (List.map (tv ad) (as.reverse ++ .ref i :: st))) (As := as.map (tv ad)) (rest := st.map (tv ad)) (Ts := jBig) ⟨hx, hb, hml, hown, hts⟩ hM ⟨jcb hts hst hl9 hf hlo, hts _ (jw_in hi9 rfl), hts _ (jw_in hs9 rfl)⟩ ⟨jblind, va_recv hK Y.1 hci hw, jpre C Y hS os1⟩ rfl (List.length_map ..) hl.1 (by show List.map _ _ = _; rw [List.map_append, List.map_reverse]; rfl) (lv_room (by rw [jcat_tv]; exact hcat)) d ⟨hb1, hb2⟩
  intro T hT XX
  rcases hr T hT XX with ⟨v, st₀, t, T', L, h0, X', hL, e1, e2, ⟨⟨r, ad', σ', hv, hq, hok, Y'⟩, hFr⟩, stp⟩ | ⟨q, st₀, t, T', L, E, ce, h0, X', hL, e1, e2, ⟨⟨ad', σ', hq, Y'⟩, hFr⟩, hce, hcv, hcl, stp⟩
  · cases hv
    obtain ⟨k1, k2, k3⟩ := vx_keep h0 e1 hS (fun q _ h => hF q h) hF hL hFr
    have Y2 := jback h5 Y hF Y'
    rw [← e1] at Y2
    have hle : σ.1 ≤ σ'.1 := Y'.2.2.2.1
    have hext := Y'.2.2.2.2.1
    have os' : jok σ'.1 (r.toList ++ st) := fun w hw => (List.mem_append.mp hw).elim (fun h => hok w (by cases r with | none => cases h | some x => rw [List.mem_singleton.mp h])) (fun h => jokv_mono hle (os2 w h))
    obtain ⟨t2, a1, b1⟩ := kk r σ' hq hle p e s m args below meth c A ad0 σ0 T'.heap (locs ++ L) ls ad' C Y2 k3 (jl_ext hext ol hl) (jok_mono hle ol) os' T' rfl X'
    refine ⟨t2, stp t2 ?_, b1⟩
    rw [List.map_append, jext hext os2] at a1
    have hto : (r.map (tv ad')).toList = r.toList.map (tv ad') := by cases r <;> rfl
    rw [hto]
    exact a1
  · obtain ⟨k1, k2, k3⟩ := vx_keep h0 e1 hS (fun q _ h => hF q h) hF hL hFr
    have Y2 := jback h5 Y hF Y'
    rw [← e1] at Y2
    obtain ⟨b, ⟨pre, x, suf, hsp, hpass, hcx, hct, hlk9, hcs, hand⟩, hQ⟩ := kc E σ' hq
    have hend : W p X.1 e rm s m args below meth c T'.heap (locs ++ L) (k + rm'.cells) (n + rm'.slots) (vx_MQ below (jQc X A ad0 σ0 Q) (jXC X A ad0 σ0 Q) args s rm.cells rm.slots A) (F0 m x.handlerPc ls [.ref q]) := by
      have hfin := jfin (p := p) (e := e) (rm := rm) (m := m) (args := args) (below := below) (meth := meth) (c := c) (r := some (vI b)) Y2 k3 (fun v h => by cases h; trivial) hQ
      rcases hand with ⟨j, d1, hj, d2, d3⟩ | ⟨j, d1, hj, d2, d3⟩
      · refine lv_astore_n hx hb d1 rfl (jl_has hl) hj rfl (fun ls' _ => ?_)
        refine lv_iconst (v := iI b) hx hb d2 rfl ?_
        exact W.widen hb1 hb2 (vx_ret (W.zret hx hb (hr9.trans hret) rfl hfin k3.2.2 d3 hlk))
      · refine lv_astore hx hb d1 (jl_has hl) hj rfl (fun ls' _ => ?_)
        refine lv_iconst (v := iI b) hx hb d2 rfl ?_
        exact W.widen hb1 hb2 (vx_ret (W.zret hx hb (hr9.trans hret) rfl hfin k3.2.2 d3 hlk))
    obtain ⟨t2, a1, b1⟩ := vx_catch (rest := st.map (tv ad)) hown pre x suf (htab.trans hsp) (fun z hz => by
      rcases hpass z hz with h | ⟨h1, nm, h2, h3⟩
      · exact Or.inl h
      · exact Or.inr ⟨h1, nm, hts _ (jw_in h2 rfl), hN.2.2.2.2.2.2.2 _ h3⟩) hcx hct (hts _ (jw_in hlk9 rfl)) ((hN.1 _ hcs rfl).use rfl) (by rw [e1]; exact hce) hcv hcl hend T' rfl X'
    exact ⟨t2, stp.trans a1, b1⟩
/-- new int[N][K] -/
def jpushII (σ : jS) (N K : Nat) : jS := (σ.1 + 1 + N, fun j => if j = σ.1 then jQ 1 N (fun i => if i < N then some (σ.1 + 1 + i) else none) else if σ.1 < j ∧ j < σ.1 + 1 + N then jI K (fun _ => 0) else σ.2 j)
theorem J.newII {X : jX} {M : jMt} {rm : Room} {pc : Nat} {lc st : List Value} {k n : Nat} {σ : jS} {Q : jOut → jS → Prop} {a b : Int} {ix : Nat} (N K : Nat) (d : decode M.2.1 pc = .ok (.multianewarray ix 2, 4)) (ha : a = (N : Int)) (hb9 : b = (K : Int)) (hN9 : N ≤ 1000) (hK9 : K ≤ 10000) (hc : k + (1 + N) ≤ rm.cells) (hs : n + (N + N * K) ≤ rm.slots) (hw : Cond.classLink M.1.cls ix "[[I" ∈ lw_tbl) (hw2 : Cond.arrayClass .int ∈ lw_tbl) (kk : J X M rm (pc + 4) lc (.ref σ.1 :: st) (k + 1 + N) (n + N + N * K) (jpushII σ N K) Q) : J X M rm pc lc (vI b :: vI a :: st) k n σ Q := by
  subst ha; subst hb9
  intro p e s m args below meth c A ad0 σ0 H locs ls ad C Y hS hl9 ol os
  obtain ⟨⟨hx, hb, hml, hr, htab⟩, ⟨hown, hlk, hnm, hlt⟩, hts, hA, hK, hN, h5⟩ := id C
  have os2 := jok_tl (jok_tl os)
  obtain ⟨hP0, hD0, hwf, hle, hag, hro⟩ := id Y
  have hcy : s.vm.findClass (FieldType.array .int).toString = some (X.2.2 0) := (hK.2 0 (X.2.2 0, .int) rfl).2
  have ng : ∀ z : Nat, z < 2147483648 → ¬ iI (z : Int) < 0 := fun z hz => by rw [← iI_0, iI_lt (iI_nat hz) inI_0]; omega
  refine va_mna (X := jws X.2.2 ad σ) (L := []) (f := fun _ => .inl (X.2.2 0, 0, .inl fun _ => 0)) (ty := .int) (cy := X.2.2 0) hx hb hown (hts _ (jw_in hw rfl)) hN.2.2.2.2.2.2.1 (hts _ (jw_in hw2 rfl)) hcy hK (by rw [show va_pl [] (fun _ => _) = [] from rfl, List.append_nil]; exact hP0) (by rw [show va_pl [] (fun _ => _) = [] from rfl, List.append_nil]; exact hD0) hS hA (N' := N) (K' := K) (z := (K, .inl (fun _ => 0))) (ng _ (by omega)) (ng _ (by omega)) (iI_natcl (by omega)) (iI_natcl (by omega)) (by omega) (by show K * 4 ≤ _; omega) (by omega) rfl rfl hc hs (fun c9 => ?_) d (fun q r cA9 H1 hinj hnl hK1 hP hD hS1 => ?_)
  · show ({ cls := c9, slots := Array.replicate K (.int 0), vm := .none } : Cell) = _
    rw [arrV_new]
    rfl
  have hcc : cA9 = X.2.2 4 := jK_un (t0 := 4) hK1 rfl
  subst hcc
  let ad' : Nat → Nat := fun j => if j = σ.1 then q else if σ.1 < j ∧ j < σ.1 + 1 + N then r (j - σ.1 - 1) else ad j
  have hext : ∀ i, i < σ.1 → ad' i = ad i := fun i hi => by
    show (if i = σ.1 then q else if σ.1 < i ∧ i < σ.1 + 1 + N then r (i - σ.1 - 1) else ad i) = ad i
    rw [if_neg (by omega), if_neg (by omega)]
  have h0 : ad' σ.1 = q := if_pos rfl
  have hrr : ∀ i, i < N → ad' (σ.1 + 1 + i) = r i := fun i hi => by
    show (if σ.1 + 1 + i = σ.1 then q else if σ.1 < σ.1 + 1 + i ∧ σ.1 + 1 + i < σ.1 + 1 + N then r (σ.1 + 1 + i - σ.1 - 1) else ad (σ.1 + 1 + i)) = r i
    rw [if_neg (by omega), if_pos (by omega), show σ.1 + 1 + i - σ.1 - 1 = i by omega]
  have hworld : (jws X.2.2 ad σ ++ [(q, (.inl (X.2.2 4, N, .inr (.inr (.inr (.inr (fun i => if i < N then some (r i) else none))))) : va_E))]) ++ va_pl ([] ++ (List.range N).map r) (vr_up (fun _ => .inl (X.2.2 0, 0, .inl fun _ => 0)) ((List.range N).map r) (.inl (X.2.2 0, K, .inl (fun _ => 0)))) = jws X.2.2 ad' (jpushII σ N K) := by
    rw [← jws_ad hwf hext, List.nil_append]
    unfold jws
    rw [show (jpushII σ N K).1 - 5 = (σ.1 - 5 + 1) + N by show σ.1 + 1 + N - 5 = _; omega, List.range_add, List.range_succ, List.map_append, List.map_append]
    congr 1
    · congr 1
      · apply List.map_congr_left
        intro j hj
        have hj' : j + 5 < σ.1 := by have := List.mem_range.mp hj; omega
        rw [show (jpushII σ N K).2 (j + 5) = σ.2 (j + 5) from (if_neg (by omega)).trans (if_neg (by omega))]
      · show _ = [(ad' (σ.1 - 5 + 5), tE X.2.2 ad' ((jpushII σ N K).2 (σ.1 - 5 + 5)))]
        rw [show σ.1 - 5 + 5 = σ.1 by omega, h0, show (jpushII σ N K).2 σ.1 = jQ 1 N (fun i => if i < N then some (σ.1 + 1 + i) else none) from if_pos rfl]
        have : (fun i => if i < N then some (r i) else none) = fun i => (if i < N then some (σ.1 + 1 + i) else none : Option Nat).map ad' := funext fun i => by
          by_cases hi : i < N
          · rw [if_pos hi, if_pos hi]; exact congrArg some (hrr i hi).symm
          · rw [if_neg hi, if_neg hi]; rfl
        rw [this]
        rfl
    · unfold va_pl
      rw [List.map_map, List.map_map]
      apply List.map_congr_left
      intro j hj
      have hj' := List.mem_range.mp hj
      show (r j, vr_up _ _ _ (r j)) = (ad' (σ.1 - 5 + 1 + j + 5), tE X.2.2 ad' ((jpushII σ N K).2 (σ.1 - 5 + 1 + j + 5)))
      rw [vr_up_in (List.mem_map.mpr ⟨j, hj, rfl⟩), show σ.1 - 5 + 1 + j + 5 = σ.1 + 1 + j by omega, hrr j hj', show (jpushII σ N K).2 (σ.1 + 1 + j) = jI K (fun _ => 0) from (if_neg (by omega)).trans (if_pos (by omega))]
      rfl
  rw [hworld] at hP hD
  have hwf2 : jwf (jpushII σ N K) := by
    intro j hj
    by_cases q1 : j = σ.1
    · subst q1
      rw [show (jpushII σ N K).2 σ.1 = jQ 1 N (fun i => if i < N then some (σ.1 + 1 + i) else none) from if_pos rfl]
      intro t u htu
      have htu : (if t < N then some (σ.1 + 1 + t) else none) = some u := htu
      by_cases ht : t < N
      · rw [if_pos ht] at htu
        cases htu
        show σ.1 + 1 + t < σ.1 + 1 + N
        omega
      · rw [if_neg ht] at htu
        cases htu
    · by_cases q2 : σ.1 < j ∧ j < σ.1 + 1 + N
      · rw [show (jpushII σ N K).2 j = jI K (fun _ => 0) from (if_neg q1).trans (if_pos q2)]
        trivial
      · rw [show (jpushII σ N K).2 j = σ.2 j from (if_neg q1).trans (if_neg q2)]
        have hj : j < σ.1 + 1 + N := hj
        exact jokE_mono (show σ.1 ≤ σ.1 + 1 + N by omega) (hwf j (by omega))
  have hY2 : jH X A ad0 σ0 ad' (jpushII σ N K) H1 := ⟨hP, hD, hwf2, by show σ0.1 ≤ σ.1 + 1 + N; omega, fun i hi => by rw [hext i (by omega), hag i hi], fun i hi => by
    rw [show (jpushII σ N K).2 i = σ.2 i from (if_neg (by omega)).trans (if_neg (by omega))]
    exact hro i hi⟩
  have hkk := kk p e s m args below meth c A ad0 σ0 H1 locs ls ad' C hY2 hS1 (jl_ext hext ol hl9) (jok_mono (by show σ.1 ≤ σ.1 + 1 + N; omega) ol) (jok_cons (show σ.1 < σ.1 + 1 + N by omega) (jok_mono (by show σ.1 ≤ σ.1 + 1 + N; omega) os2))
  rw [List.map_cons, jext hext os2, show tv ad' (.ref σ.1) = .ref q from congrArg Value.ref h0] at hkk
  exact hkk
/-! a static member of the JDK that throws nothing, of a class with members that the machine answers itself -/
theorem jm_metF {X : jX} {M : jMt} {rm : Room} {as : List Value} {σ : jS} {Q : jOut → jS → Prop} (hJ : JM X M rm as σ Q) (hn : ∀ E σ', ¬ Q (.inr E) σ') (hy : plainFor M.1 = true) (hh : M.2.2.2.2 = []) (hlen : (jargs as).length ≤ M.2.2.1) (ad : Nat → Nat) (sz : Nat) :
    Met X.1 M.1 (jWs M) rm (va_Pc (as.map (tv ad)) (jPre X ad σ as sz)) (jQc X (va_A (jws X.2.2 ad σ) sz) ad σ Q) rm.cells rm.slots (va_A (jws X.2.2 ad σ) sz) := by
  refine va_MetF (cc := M.2.1) (maxL := M.2.2.1) (ret := M.2.2.2.1) hy rfl ?_
  intro p e s m args below meth c s₁ B hml hv
  have hts := atoms_spec (ws := jWs M) B.pre
  have htab : c.exceptionTable.toList = tableOf M.2.2.2.2 := by
    obtain ⟨meth9, c9, h1, h2, -, -, -, -, h7, -⟩ := Cond.code_spec B.named (atoms_spec (ws := jWs M) B.pre _ List.mem_cons_self)
    cases Option.some.inj (h1.symm.trans B.method)
    cases Option.some.inj (h2.symm.trans (Stand.of_body B).code)
    rw [hh, Array.isEmpty_iff.mp h7]
    rfl
  have hW := jm_body (e := e) (below := below) hJ hlen ad sz B.exec B.bytes hml B.returns htab (findClass_of_methodNamed B.named) B.notSynchronized (name_of_methodNamed B.named B.method).1 (fun w h => hts w (List.mem_cons_of_mem _ h)) hv
  intro T hT XX
  obtain ⟨t, a1, o, b1, b2, b3⟩ := hW T hT XX
  refine ⟨t, a1, o, b1, b2, ?_⟩
  rcases b3 with ⟨d1, d2⟩ | ⟨q, -, E, ce, L, hx, -⟩
  · exact ⟨d1, d2⟩
  · exact (jno hn _ _ _ hx).elim
def jStF (M : jMt) (n : Nat) : Prop := plainFor M.1 = true ∧ M.2.2.2.2 = [] ∧ Cond.code M.1 M.2.1 M.2.2.1 M.2.2.2.1 ∈ lw_tbl ∧ Cond.initialized M.1.cls ∈ lw_tbl ∧ (M.1.cls ≠ "java/lang/invoke/MethodHandle" ∧ M.1.cls ≠ "java/lang/invoke/VarHandle") ∧ (parseMethodDescriptor M.1.desc).map (fun d => d.parameters.length) = some n
theorem J.callSF {X : jX} {M : jMt} {rm : Room} {pc : Nat} {lc st st0 : List Value} {k n : Nat} {σ : jS} {Q : jOut → jS → Prop} {M' : jMt} {rm' : Room} {Q1 : jOut → jS → Prop} {ix : Nat} (as : List Value) (d : decode M.2.1 pc = .ok (.invokestatic ix, 3)) (hJ : JM X M' rm' as σ Q1) (hst : jStF M' as.length) (hl9 : Cond.methodLink M.1.cls ix M'.1 ∈ lw_tbl) (hi9 : Cond.static M'.1 ∈ lw_tbl) (hst0 : st0 = as.reverse ++ st) (hlen : (jargs as).length ≤ M'.2.2.1) (hf : rm'.frames + 1 ≤ rm.frames) (hlo : 8 + (M'.2.2.1 + 11) + rm'.locals ≤ rm.locals) (hcat : jcat st ≤ 8) (hb1 : k + rm'.cells ≤ rm.cells) (hb2 : n + rm'.slots ≤ rm.slots)
    (hh : ∀ E σ', ¬ Q1 (.inr E) σ') (kk : ∀ r σ', Q1 (.inl r) σ' → σ.1 ≤ σ'.1 → J X M rm (pc + 3) lc (r.toList ++ st) (k + rm'.cells) (n + rm'.slots) σ' Q) : J X M rm pc lc st0 k n σ Q := by
  subst hst0
  intro p e s m args below meth c A ad0 σ0 H locs ls ad C Y hS hl ol os
  obtain ⟨⟨hx, hb, hml, hr, htab⟩, ⟨hown, hlk, hnm, hlt⟩, hts, hA, hK, hN, h5⟩ := id C
  have os1 : jok σ.1 as := fun v hv => os v (List.mem_append_left _ (List.mem_reverse.mpr hv))
  have os2 : jok σ.1 st := fun v hv => os v (List.mem_append_right _ hv)
  have hM := jm_metF hJ hh hst.1 hst.2.1 hlen ad H.size
  obtain ⟨-, -, hc, hi, hy, hd⟩ := id hst
  have hcb : CallB rm s args M.1.cls ix M'.1 M'.2.1 M'.2.2.1 M'.2.2.2.1 (jWs M') rm' rm'.cells rm'.slots as.length := ⟨rfl, rfl, hf, hlo, jws_ok hts hc, List.mem_cons_self, hts _ (jw_in hc rfl), hts _ (jw_in hi rfl), hy, fun sig h => by rw [h] at hd; exact (Option.some.inj hd).symm, hts _ (jw_in hl9 rfl)⟩
  refine jcall C Y hS hl ol os2 (run_of (va_runS (As := as.map (tv ad)) (rest := st.map (tv ad)) (Ts := jBig) ⟨hx, hb, hml, hown, hts⟩ hM ⟨hcb, hts _ (jw_in hi9 rfl)⟩ ⟨jblind, jpre C Y hS os1⟩ rfl (List.length_map ..) hl.1 (by rw [List.map_append, List.map_reverse]) (lv_room (by rw [jcat_tv]; exact hcat)) d ⟨hb1, hb2⟩)) (Or.inr hh) hb1 hb2 (fun E σ' h => (hh E σ' h).elim) kk
