/-- new int[N][K] -/
def jpushII (σ : jS) (N K : Nat) : jS := (σ.1 + 1 + N, fun j => if j = σ.1 then jQ 1 N (fun i => if i < N then some (σ.1 + 1 + i) else none) else if σ.1 < j ∧ j < σ.1 + 1 + N then jI K (fun _ => 0) else σ.2 j)
theorem J.newII {X : jX} {M : jMt} {rm : Room} {pc : Nat} {lc st : List Value} {k n : Nat} {σ : jS} {Q : jOut → jS → Prop} {a b : Int} {ix : Nat} (N K : Nat) (d : decode M.2.1 pc = .ok (.multianewarray ix 2, 4)) (ha : a = (N : Int)) (hb9 : b = (K : Int)) (hN9 : N ≤ 1000) (hK9 : K ≤ 10000) (hc : k + (1 + N) ≤ rm.cells) (hs : n + (N + N * K) ≤ rm.slots) (hw : Cond.classLink M.1.cls ix "[[I" ∈ lw_tbl) (hw2 : Cond.arrayClass .int ∈ lw_tbl) (kk : J X M rm (pc + 4) lc (.ref σ.1 :: st) (k + 1 + N) (n + N + N * K) (jpushII σ N K) Q) : J X M rm pc lc (vI b :: vI a :: st) k n σ Q := by
  subst ha; subst hb9
  intro p e s m args below meth c A ad0 σ0 H locs ls ad C Y hS hl9 ol os
  obtain ⟨⟨hx, hb, hml, hr, htab⟩, ⟨hown, hlk, hnm, hlt⟩, hts, hA, hK, hN, h5⟩ := id C
  have os2 := jok_tl (jok_tl os)
  obtain ⟨hP0, hD0, hwf, hle, hag, hro⟩ := id Y
  have hcy : s.vm.findClass (FieldType.array .int).toString = some (X.2.2 0) := (hK.2 0 (X.2.2 0, .int) rfl).2
  have ng : ∀ z : Nat, z < 2147483648 → ¬ iI (z : Int) < 0 := fun z hz => by rw [← iI_0, iI_lt (iI_nat hz) inI_0]; omega
  refine va_mna (X := jws X.2.2 ad σ) (L := []) (f := fun _ => .inl (X.2.2 0, 0, .inl fun _ => 0)) (ty := .int) (cy := X.2.2 0) hx hb hown (hts _ (jw_in hw rfl)) hN.2.2.2.2.2.2.1 (hts _ (jw_in hw2 rfl)) hcy hK (by rw [show va_pl [] (fun _ => _) = [] from rfl, List.append_nil]; exact hP0) (by rw [show va_pl [] (fun _ => _) = [] from rfl, List.append_nil]; exact hD0) hS hA (N' := N) (K' := K) (z := (K, .inl (fun _ => 0))) (ng _ (by omega)) (ng _ (by omega)) (iI_natcl (by omega)) (iI_natcl (by omega)) (by omega) (by show K * 4 ≤ _; omega) (by omega) rfl rfl hc hs (fun c9 => ?_) d (fun q r cA9 H1 hinj hnl hK1 hP hD hS1 => ?_)
  · show ({ cls := c9, slots := Array.replicate K (.int 0), vm := .none } : Cell) = _
    rw [arrV_new]
    rfl
  have hcc : cA9 = X.2.2 4 := jK_un (t0 := 2) hK1 rfl
  subst hcc
  let ad' : Nat → Nat := fun j => if j = σ.1 then q else if σ.1 < j ∧ j < σ.1 + 1 + N then r (j - σ.1 - 1) else ad j
  have hext : ∀ i, i < σ.1 → ad' i = ad i := fun i hi => by
    show (if i = σ.1 then q else if σ.1 < i ∧ i < σ.1 + 1 + N then r (i - σ.1 - 1) else ad i) = ad i
    rw [if_neg (by omega), if_neg (by omega)]
  have h0 : ad' σ.1 = q := if_pos rfl
  have hrr : ∀ i, i < N → ad' (σ.1 + 1 + i) = r i := fun i hi => by
    show (if σ.1 + 1 + i = σ.1 then q else if σ.1 < σ.1 + 1 + i ∧ σ.1 + 1 + i < σ.1 + 1 + N then r (σ.1 + 1 + i - σ.1 - 1) else ad (σ.1 + 1 + i)) = r i
    rw [if_neg (by omega), if_pos (by omega), show σ.1 + 1 + i - σ.1 - 1 = i by omega]
  have hworld : (jws X.2.2 ad σ ++ [(q, (.inl (X.2.2 4, N, .inr (.inr (.inr (.inr (fun i => if i < N then some (r i) else none))))) : va_E))]) ++ va_pl ([] ++ (List.range N).map r) (vr_up (fun _ => .inl (X.2.2 0, 0, .inl fun _ => 0)) ((List.range N).map r) (.inl (X.2.2 0, K, .inl (fun _ => 0)))) = jws X.2.2 ad' (jpushII σ N K) := by
    rw [← jws_ad hwf hext, List.nil_append]
    unfold jws
    rw [show (jpushII σ N K).1 - 5 = (σ.1 - 5 + 1) + N by show σ.1 + 1 + N - 5 = _; omega, List.range_add, List.range_succ, List.map_append, List.map_append]
    congr 1
    · congr 1
      · apply List.map_congr_left
        intro j hj
        have hj' : j + 5 < σ.1 := by have := List.mem_range.mp hj; omega
        rw [show (jpushII σ N K).2 (j + 5) = σ.2 (j + 5) from (if_neg (by omega)).trans (if_neg (by omega))]
      · show _ = [(ad' (σ.1 - 5 + 5), tE X.2.2 ad' ((jpushII σ N K).2 (σ.1 - 5 + 5)))]
        rw [show σ.1 - 5 + 5 = σ.1 by omega, h0, show (jpushII σ N K).2 σ.1 = jQ 1 N (fun i => if i < N then some (σ.1 + 1 + i) else none) from if_pos rfl]
        have : (fun i => if i < N then some (r i) else none) = fun i => (if i < N then some (σ.1 + 1 + i) else none : Option Nat).map ad' := funext fun i => by
          by_cases hi : i < N
          · rw [if_pos hi, if_pos hi]; exact congrArg some (hrr i hi).symm
          · rw [if_neg hi, if_neg hi]; rfl
        rw [this]
        rfl
    · unfold va_pl
      rw [List.map_map, List.map_map]
      apply List.map_congr_left
      intro j hj
      have hj' := List.mem_range.mp hj
      show (r j, vr_up _ _ _ (r j)) = (ad' (σ.1 - 5 + 1 + j + 5), tE X.2.2 ad' ((jpushII σ N K).2 (σ.1 - 5 + 1 + j + 5)))
      rw [vr_up_in (List.mem_map.mpr ⟨j, hj, rfl⟩), show σ.1 - 5 + 1 + j + 5 = σ.1 + 1 + j by omega, hrr j hj', show (jpushII σ N K).2 (σ.1 + 1 + j) = jI K (fun _ => 0) from (if_neg (by omega)).trans (if_pos (by omega))]
      rfl
  rw [hworld] at hP hD
  have hwf2 : jwf (jpushII σ N K) := by
    intro j hj
    by_cases q1 : j = σ.1
    · subst q1
      rw [show (jpushII σ N K).2 σ.1 = jQ 1 N (fun i => if i < N then some (σ.1 + 1 + i) else none) from if_pos rfl]
      intro t u htu
      have htu : (if t < N then some (σ.1 + 1 + t) else none) = some u := htu
      by_cases ht : t < N
      · rw [if_pos ht] at htu
        cases htu
        show σ.1 + 1 + t < σ.1 + 1 + N
        omega
      · rw [if_neg ht] at htu
        cases htu
    · by_cases q2 : σ.1 < j ∧ j < σ.1 + 1 + N
      · rw [show (jpushII σ N K).2 j = jI K (fun _ => 0) from (if_neg q1).trans (if_pos q2)]
        trivial
      · rw [show (jpushII σ N K).2 j = σ.2 j from (if_neg q1).trans (if_neg q2)]
        have hj : j < σ.1 + 1 + N := hj
        exact jokE_mono (show σ.1 ≤ σ.1 + 1 + N by omega) (hwf j (by omega))
  have hY2 : jH X A ad0 σ0 ad' (jpushII σ N K) H1 := ⟨hP, hD, hwf2, by show σ0.1 ≤ σ.1 + 1 + N; omega, fun i hi => by rw [hext i (by omega), hag i hi], fun i hi => by
    rw [show (jpushII σ N K).2 i = σ.2 i from (if_neg (by omega)).trans (if_neg (by omega))]
    exact hro i hi⟩
  have hkk := kk p e s m args below meth c A ad0 σ0 H1 locs ls ad' C hY2 hS1 (jl_ext hext ol hl9) (jok_mono (by show σ.1 ≤ σ.1 + 1 + N; omega) ol) (jok_cons (show σ.1 < σ.1 + 1 + N by omega) (jok_mono (by show σ.1 ≤ σ.1 + 1 + N; omega) os2))
  rw [List.map_cons, jext hext os2, show tv ad' (.ref σ.1) = .ref q from congrArg Value.ref h0] at hkk
  exact hkk
/-! a static member of the JDK that throws nothing, of a class with members that the machine answers itself -/
theorem jm_metF {X : jX} {M : jMt} {rm : Room} {as : List Value} {σ : jS} {Q : jOut → jS → Prop} (hJ : JM X M rm as σ Q) (hn : ∀ E σ', ¬ Q (.inr E) σ') (hy : plainFor M.1 = true) (hh : M.2.2.2.2 = []) (hlen : (jargs as).length ≤ M.2.2.1) (ad : Nat → Nat) (sz : Nat) :
    Met X.1 M.1 (jWs M) rm (va_Pc (as.map (tv ad)) (jPre X ad σ as sz)) (jQc X (va_A (jws X.2.2 ad σ) sz) ad σ Q) rm.cells rm.slots (va_A (jws X.2.2 ad σ) sz) := by
  refine va_MetF (cc := M.2.1) (maxL := M.2.2.1) (ret := M.2.2.2.1) hy rfl ?_
  intro p e s m args below meth c s₁ B hml hv
  have hts := atoms_spec (ws := jWs M) B.pre
  have htab : c.exceptionTable.toList = tableOf M.2.2.2.2 := by
    obtain ⟨meth9, c9, h1, h2, -, -, -, -, h7, -⟩ := Cond.code_spec B.named (atoms_spec (ws := jWs M) B.pre _ List.mem_cons_self)
    cases Option.some.inj (h1.symm.trans B.method)
    cases Option.some.inj (h2.symm.trans (Stand.of_body B).code)
    rw [hh, Array.isEmpty_iff.mp h7]
    rfl
  have hW := jm_body (e := e) (below := below) hJ hlen ad sz B.exec B.bytes hml B.returns htab (findClass_of_methodNamed B.named) B.notSynchronized (name_of_methodNamed B.named B.method).1 (fun w h => hts w (List.mem_cons_of_mem _ h)) hv
  intro T hT XX
  obtain ⟨t, a1, o, b1, b2, b3⟩ := hW T hT XX
  refine ⟨t, a1, o, b1, b2, ?_⟩
  rcases b3 with ⟨d1, d2⟩ | ⟨q, -, E, ce, L, hx, -⟩
  · exact ⟨d1, d2⟩
  · exact (jno hn _ _ _ hx).elim
def jStF (M : jMt) (n : Nat) : Prop := plainFor M.1 = true ∧ M.2.2.2.2 = [] ∧ Cond.code M.1 M.2.1 M.2.2.1 M.2.2.2.1 ∈ lw_tbl ∧ Cond.initialized M.1.cls ∈ lw_tbl ∧ (M.1.cls ≠ "java/lang/invoke/MethodHandle" ∧ M.1.cls ≠ "java/lang/invoke/VarHandle") ∧ (parseMethodDescriptor M.1.desc).map (fun d => d.parameters.length) = some n
theorem J.callSF {X : jX} {M : jMt} {rm : Room} {pc : Nat} {lc st st0 : List Value} {k n : Nat} {σ : jS} {Q : jOut → jS → Prop} {M' : jMt} {rm' : Room} {Q1 : jOut → jS → Prop} {ix : Nat} (as : List Value) (d : decode M.2.1 pc = .ok (.invokestatic ix, 3)) (hJ : JM X M' rm' as σ Q1) (hst : jStF M' as.length) (hl9 : Cond.methodLink M.1.cls ix M'.1 ∈ lw_tbl) (hi9 : Cond.static M'.1 ∈ lw_tbl) (hst0 : st0 = as.reverse ++ st) (hlen : (jargs as).length ≤ M'.2.2.1) (hf : rm'.frames + 1 ≤ rm.frames) (hlo : 8 + (M'.2.2.1 + 11) + rm'.locals ≤ rm.locals) (hcat : jcat st ≤ 8) (hb1 : k + rm'.cells ≤ rm.cells) (hb2 : n + rm'.slots ≤ rm.slots)
    (hh : ∀ E σ', ¬ Q1 (.inr E) σ') (kk : ∀ r σ', Q1 (.inl r) σ' → σ.1 ≤ σ'.1 → J X M rm (pc + 3) lc (r.toList ++ st) (k + rm'.cells) (n + rm'.slots) σ' Q) : J X M rm pc lc st0 k n σ Q := by
  subst hst0
  intro p e s m args below meth c A ad0 σ0 H locs ls ad C Y hS hl ol os
  obtain ⟨⟨hx, hb, hml, hr, htab⟩, ⟨hown, hlk, hnm, hlt⟩, hts, hA, hK, hN, h5⟩ := id C
  have os1 : jok σ.1 as := fun v hv => os v (List.mem_append_left _ (List.mem_reverse.mpr hv))
  have os2 : jok σ.1 st := fun v hv => os v (List.mem_append_right _ hv)
  have hM := jm_metF hJ hh hst.1 hst.2.1 hlen ad H.size
  obtain ⟨-, -, hc, hi, hy, hd⟩ := id hst
  have hcb : CallB rm s args M.1.cls ix M'.1 M'.2.1 M'.2.2.1 M'.2.2.2.1 (jWs M') rm' rm'.cells rm'.slots as.length := ⟨rfl, rfl, hf, hlo, jws_ok hts hc, List.mem_cons_self, hts _ (jw_in hc rfl), hts _ (jw_in hi rfl), hy, fun sig h => by rw [h] at hd; exact (Option.some.inj hd).symm, hts _ (jw_in hl9 rfl)⟩
  refine jcall C Y hS hl ol os2 (run_of (va_runS (As := as.map (tv ad)) (rest := st.map (tv ad)) (Ts := jBig) ⟨hx, hb, hml, hown, hts⟩ hM ⟨hcb, hts _ (jw_in hi9 rfl)⟩ ⟨jblind, jpre C Y hS os1⟩ rfl (List.length_map ..) hl.1 (by rw [List.map_append, List.map_reverse]) (lv_room (by rw [jcat_tv]; exact hcat)) d ⟨hb1, hb2⟩)) (Or.inr hh) hb1 hb2 (fun E σ' h => (hh E σ' h).elim) kk
