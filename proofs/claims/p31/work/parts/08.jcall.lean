/-! rows of the small machine: ends, calls, throws -/
theorem jfin {X : jX} {p : Program} {e : Env} {rm : Room} {s : State} {m : MethodId} {args : Array Value} {below : List Frame} {meth : Method} {c : Code} {A : Nat → Prop} {ad0 ad : Nat → Nat} {σ0 σ : jS} {H : Heap} {Q : jOut → jS → Prop} {locs : List Loc} {r : Option Value} (Y : jH X A ad0 σ0 ad σ H) (hS : va_S A s.heap H locs) (hr : ∀ v, r = some v → jokv σ.1 v) (hq : Q (.inl r) σ) : ∀ t : State, t.heap = H → s.WarmedH t.vm → jQc X A ad0 σ0 Q args s (.returned (r.map (tv ad))) t := fun t ht _ => ⟨⟨r, ad, σ, rfl, hq, hr, by rw [ht]; exact Y⟩, hS.F ht⟩
theorem J.iret {X : jX} {M : jMt} {rm : Room} {pc : Nat} {lc : List Value} {k n : Nat} {σ : jS} {Q : jOut → jS → Prop} {x : Int32} (ty : FieldType) (d : decode M.2.1 pc = .ok (.ireturn, 1)) (hr9 : M.2.2.2.1 = some ty) (hn : narrow ty (.int x) = .int x) (hk : k ≤ rm.cells) (hs : n ≤ rm.slots) (hq : Q (.inl (some (.int x))) σ) : J X M rm pc lc [.int x] k n σ Q := by
  intro p e s m args below meth c A ad0 σ0 H locs ls ad C Y hS hl ol os
  obtain ⟨⟨hx, hb, hml, hr, htab⟩, ⟨hown, hlk, hnm, hlt⟩, hts, hA, hK, hN, h5⟩ := id C
  exact W.widen hk hs (vx_ret (W.zret hx hb (hr.trans hr9) hn (jfin (p := p) (e := e) (rm := rm) (m := m) (below := below) (meth := meth) (c := c) (r := some (.int x)) Y hS (fun v h => by cases h; trivial) hq) hS.2.2 d hlk))
theorem J.lret {X : jX} {M : jMt} {rm : Room} {pc : Nat} {lc : List Value} {k n : Nat} {σ : jS} {Q : jOut → jS → Prop} {x : Int64} (d : decode M.2.1 pc = .ok (.lreturn, 1)) (hr9 : M.2.2.2.1 = some .long) (hk : k ≤ rm.cells) (hs : n ≤ rm.slots) (hq : Q (.inl (some (.long x))) σ) : J X M rm pc lc [.long x] k n σ Q := by
  intro p e s m args below meth c A ad0 σ0 H locs ls ad C Y hS hl ol os
  obtain ⟨⟨hx, hb, hml, hr, htab⟩, ⟨hown, hlk, hnm, hlt⟩, hts, hA, hK, hN, h5⟩ := id C
  exact W.widen hk hs (vx_ret (W.lret hx hb (hr.trans hr9) (jfin (p := p) (e := e) (rm := rm) (m := m) (below := below) (meth := meth) (c := c) (r := some (.long x)) Y hS (fun v h => by cases h; trivial) hq) hS.2.2 d hlk))
theorem J.dret {X : jX} {M : jMt} {rm : Room} {pc : Nat} {lc : List Value} {k n : Nat} {σ : jS} {Q : jOut → jS → Prop} {x : UInt64} (d : decode M.2.1 pc = .ok (.dreturn, 1)) (hr9 : M.2.2.2.1 = some .double) (hk : k ≤ rm.cells) (hs : n ≤ rm.slots) (hq : Q (.inl (some (.double x))) σ) : J X M rm pc lc [.double x] k n σ Q := by
  intro p e s m args below meth c A ad0 σ0 H locs ls ad C Y hS hl ol os
  obtain ⟨⟨hx, hb, hml, hr, htab⟩, ⟨hown, hlk, hnm, hlt⟩, hts, hA, hK, hN, h5⟩ := id C
  exact W.widen hk hs (vx_ret (W.dret hx hb (hr.trans hr9) (jfin (p := p) (e := e) (rm := rm) (m := m) (below := below) (meth := meth) (c := c) (r := some (.double x)) Y hS (fun v h => by cases h; trivial) hq) hS.2.2 d hlk))
theorem J.aret {X : jX} {M : jMt} {rm : Room} {pc : Nat} {lc : List Value} {k n : Nat} {σ : jS} {Q : jOut → jS → Prop} {i : Nat} {C9 : String} (d : decode M.2.1 pc = .ok (.areturn, 1)) (hr9 : M.2.2.2.1 = some (.object C9)) (hk : k ≤ rm.cells) (hs : n ≤ rm.slots) (hq : Q (.inl (some (.ref i))) σ) : J X M rm pc lc [.ref i] k n σ Q := by
  intro p e s m args below meth c A ad0 σ0 H locs ls ad C Y hS hl ol os
  obtain ⟨⟨hx, hb, hml, hr, htab⟩, ⟨hown, hlk, hnm, hlt⟩, hts, hA, hK, hN, h5⟩ := id C
  exact W.widen hk hs (vx_ret (W.aret (v := .ref (ad i)) hx hb (hr.trans hr9) (Or.inl ⟨_, rfl⟩) (Or.inr ⟨_, rfl⟩) (jfin (p := p) (e := e) (rm := rm) (m := m) (below := below) (meth := meth) (c := c) (r := some (.ref i)) Y hS (fun v h => by cases h; exact jok_hd os) hq) hS.2.2 d hlk))
theorem J.vret {X : jX} {M : jMt} {rm : Room} {pc : Nat} {lc : List Value} {k n : Nat} {σ : jS} {Q : jOut → jS → Prop} (d : decode M.2.1 pc = .ok (.return_, 1)) (hr9 : M.2.2.2.1 = none) (hk : k ≤ rm.cells) (hs : n ≤ rm.slots) (hq : Q (.inl none) σ) : J X M rm pc lc [] k n σ Q := by
  intro p e s m args below meth c A ad0 σ0 H locs ls ad C Y hS hl ol os
  obtain ⟨⟨hx, hb, hml, hr, htab⟩, ⟨hown, hlk, hnm, hlt⟩, hts, hA, hK, hN, h5⟩ := id C
  exact W.widen hk hs (vx_ret (W.vret hx hb (hr.trans hr9) (jfin (p := p) (e := e) (rm := rm) (m := m) (below := below) (meth := meth) (c := c) (r := none) Y hS (fun v h => by cases h) hq) hS.2.2 d hlk))
/-! a method, from its entry -/
def jargs : List Value → List Value
  | [] => []
  | v :: l => if v.category = 2 then v :: .null :: jargs l else v :: jargs l
def jlc (n : Nat) (as : List Value) : List Value := jargs as ++ List.replicate (n - (jargs as).length) .null
def JM (X : jX) (M : jMt) (rm : Room) (as : List Value) (σ : jS) (Q : jOut → jS → Prop) : Prop := J X M rm 0 (jlc M.2.2.1 as) [] 0 0 σ Q
theorem jargs_len : ∀ (ad : Nat → Nat) (as : List Value), (lg_sl (as.map (tv ad))).length = (jargs as).length
  | _, [] => rfl
  | ad, v :: l => by
    have ih := jargs_len ad l
    have e : lg_sl ((v :: l).map (tv ad)) = (if (tv ad v).category = 2 then [Slot.val (tv ad v), Slot.second] else [Slot.val (tv ad v)]) ++ lg_sl (l.map (tv ad)) := by
      simp [lg_sl]
    rw [e, List.length_append, ih, tv_cat, show jargs (v :: l) = if v.category = 2 then v :: .null :: jargs l else v :: jargs l from rfl]
    by_cases h : v.category = 2
    · rw [if_pos h, if_pos h]; simp; omega
    · rw [if_neg h, if_neg h]; simp; omega
theorem jargs_in : ∀ (ad : Nat → Nat) (as : List Value) (o i : Nat) (v : Value), (jargs as)[i]? = some v → v ≠ .null → (o + i, tv ad v) ∈ lv_args o (as.map (tv ad))
  | _, [], o, i, v, h, _ => by simp [jargs] at h
  | ad, w :: l, o, i, v, h, hn => by
    unfold jargs at h
    rw [List.map_cons]
    unfold lv_args
    rw [tv_cat]
    by_cases hc : w.category = 2
    · rw [if_pos hc] at h ⊢
      match i, h with
      | 0, h =>
        cases h
        exact List.mem_cons_self
      | 1, h =>
        cases h
        exact absurd rfl hn
      | i + 2, h =>
        have := jargs_in ad l (o + 2) i v (by simpa using h) hn
        rw [show o + (i + 2) = o + 2 + i by omega]
        exact List.mem_cons_of_mem _ this
    · rw [if_neg hc] at h ⊢
      match i, h with
      | 0, h =>
        cases h
        exact List.mem_cons_self
      | i + 1, h =>
        have := jargs_in ad l (o + 1) i v (by simpa using h) hn
        rw [show o + (i + 1) = o + 1 + i by omega]
        exact List.mem_cons_of_mem _ this
theorem jentry {ad : Nat → Nat} {as : List Value} {nL : Nat} {ls : Array Slot} (h : lv_has ls nL (lv_args 0 (as.map (tv ad)))) : jl ls nL ad (jlc nL as) := by
  refine ⟨h.1, h.2.1, fun i v hv hn => ?_⟩
  unfold jlc at hv
  by_cases hi : i < (jargs as).length
  · rw [List.getElem?_append_left hi] at hv
    have := jargs_in ad as 0 i v hv hn
    rw [Nat.zero_add] at this
    exact h.2.2 _ this
  · rw [List.getElem?_append_right (by omega)] at hv
    exact absurd (List.eq_of_mem_replicate (List.mem_of_getElem? hv)) hn
theorem jargs_ok {n : Nat} : ∀ {as : List Value}, jok n as → jok n (jargs as)
  | [], _ => fun v hv => by cases hv
  | w :: l, h => by
    have ih := jargs_ok (jok_tl h)
    unfold jargs
    by_cases hc : w.category = 2
    · rw [if_pos hc]; exact jok_cons (jok_hd h) (jok_cons trivial ih)
    · rw [if_neg hc]; exact jok_cons (jok_hd h) ih
theorem jlc_ok {n nL : Nat} {as : List Value} (h : jok n as) : jok n (jlc nL as) := fun v hv => (List.mem_append.mp hv).elim (jargs_ok h v) (fun q => by rw [List.eq_of_mem_replicate q]; trivial)
/-- what a caller owes at a method's start -/
def jPre (X : jX) (ad : Nat → Nat) (σ : jS) (as : List Value) (sz : Nat) (U : State) : Prop :=
  U.heap.size = sz ∧ va_P X.2.1 vwCl (jws X.2.2 ad σ) U.heap ∧ va_D (fun _ => True) (jws X.2.2 ad σ) ∧ va_K X.2.1 vwCl (jty X.2.2) U ∧ jN (va_A (jws X.2.2 ad σ) sz) ad σ U U.heap ∧ jwf σ ∧ jok σ.1 as ∧ 5 ≤ σ.1 ∧ X.1.stackTraces = false
abbrev jWs (M : jMt) : List Cond := Cond.code M.1 M.2.1 M.2.2.1 M.2.2.2.1 :: jBig
abbrev jWsX (M : jMt) : List Cond := Cond.codeWith M.1 M.2.1 M.2.2.1 M.2.2.2.1 M.2.2.2.2 :: jBig
theorem jm_body {X : jX} {M : jMt} {rm : Room} {as : List Value} {σ : jS} {Q : jOut → jS → Prop} (hJ : JM X M rm as σ Q) (hlen : (jargs as).length ≤ M.2.2.1) (ad : Nat → Nat) (sz : Nat)
    {p : Program} {e : Env} {s : State} {m : MethodId} {args : Array Value} {below : List Frame} {meth : Method} {c : Code} (hx : p.tables.exec = Jvm.exec) (hb : c.code = M.2.1) (hml : c.maxLocals = M.2.2.1) (hr : meth.sig.returnType = M.2.2.2.1) (htab : c.exceptionTable.toList = tableOf M.2.2.2.2) (hown : s.vm.findClass M.1.cls = some m.cls) (hlk : meth.locks = false) (hnm : meth.name = M.1.name) (hts : ∀ w ∈ jBig, w.before args s = true) (hv : va_Pc (as.map (tv ad)) (jPre X ad σ as sz) args s) :
    W p X.1 e rm s m args below meth c s.heap [] 0 0 (vx_MQ below (jQc X (va_A (jws X.2.2 ad σ) sz) ad σ Q) (jXC X (va_A (jws X.2.2 ad σ) sz) ad σ Q) args s rm.cells rm.slots (va_A (jws X.2.2 ad σ) sz)) (entryFrame m args M.2.2.1) := by
  obtain ⟨rfl, hsz, hP, hD, hK, hN, hw, hok, h5, hlt⟩ := hv
  subst hsz
  have hl := lv_entry (as.map (tv ad)) (n := M.2.2.1) (by rw [jargs_len]; exact hlen)
  rw [lg_entry_eq]
  exact hJ p e s m _ below meth c _ ad σ s.heap [] _ ad ⟨⟨hx, hb, hml, hr, htab⟩, ⟨hown, hlk, hnm, hlt⟩, hts, fun q h => Or.inr h, hK, hN, h5⟩ ⟨hP, hD.self, hw, Nat.le_refl _, fun _ _ => rfl, fun _ _ => rfl⟩ va_S.rf (jentry hl) (jlc_ok hok) (fun v h => by cases h)
theorem jm_met {X : jX} {M : jMt} {rm : Room} {as : List Value} {σ : jS} {Q : jOut → jS → Prop} (hJ : JM X M rm as σ Q) (hy : plainName M.1.cls = true) (hh : M.2.2.2.2 = []) (hlen : (jargs as).length ≤ M.2.2.1) (ad : Nat → Nat) (sz : Nat) :
    vx_Met X.1 M.1 (jWs M) rm (va_Pc (as.map (tv ad)) (jPre X ad σ as sz)) (jQc X (va_A (jws X.2.2 ad σ) sz) ad σ Q) (jXC X (va_A (jws X.2.2 ad σ) sz) ad σ Q) rm.cells rm.slots (va_A (jws X.2.2 ad σ) sz) := by
  refine vx_ofW (cc := M.2.1) (maxL := M.2.2.1) (ret := M.2.2.2.1) hy rfl ?_
  intro p e s m args below meth c s₁ B hml htab hv
  have hts := atoms_spec (ws := jWs M) B.pre
  refine jm_body hJ hlen ad sz B.exec B.bytes hml B.returns ?_ (findClass_of_methodNamed B.named) B.notSynchronized (name_of_methodNamed B.named B.method).1 (fun w h => hts w (List.mem_cons_of_mem _ h)) hv
  rw [hh]
  show _ = []
  cases hc : c.exceptionTable.toList with
  | nil => rfl
  | cons x l => exact (htab x (by rw [hc]; exact List.mem_cons_self)).elim
theorem jm_metX {X : jX} {M : jMt} {rm : Room} {as : List Value} {σ : jS} {Q : jOut → jS → Prop} (hJ : JM X M rm as σ Q) (hy : plainName M.1.cls = true) (hlen : (jargs as).length ≤ M.2.2.1) (ad : Nat → Nat) (sz : Nat) :
    vx_Met X.1 M.1 (jWsX M) rm (va_Pc (as.map (tv ad)) (jPre X ad σ as sz)) (jQc X (va_A (jws X.2.2 ad σ) sz) ad σ Q) (jXC X (va_A (jws X.2.2 ad σ) sz) ad σ Q) rm.cells rm.slots (va_A (jws X.2.2 ad σ) sz) := by
  refine vx_ofWH (cc := M.2.1) (maxL := M.2.2.1) (ret := M.2.2.2.1) (hh := M.2.2.2.2) hy rfl ?_
  intro p e s m args below meth c s₁ B hml hv
  have hts := atoms_spec (ws := jWsX M) B.pre
  exact jm_body hJ hlen ad sz B.exec B.bytes hml B.returns (vx_table (x := M.1) B (hts _ List.mem_cons_self)) (findClass_of_methodNamed B.named) B.notSynchronized (name_of_methodNamed B.named B.method).1 (fun w h => hts w (List.mem_cons_of_mem _ h)) hv
theorem jblind {X : jX} {ad : Nat → Nat} {σ : jS} {as : List Value} {sz : Nat} {av : List Value} : FrameBlind (va_Pc av (jPre X ad σ as sz)) := fun a U g mk q => by
  obtain ⟨q0, q1, qP, qD, qK, qN, qw, qo, q5, ql⟩ := q
  exact ⟨q0, q1, qP, qD, va_K.moved (u := U) (U := U.calling g mk a) (Vm.Alike.refl U.vm) qK, jN.warm (s := U) (U := U.calling g mk a) (State.WarmedH.refl U) qN, qw, qo, q5, ql⟩
theorem jfree {X : jX} {A : Nat → Prop} {ad0 ad : Nat → Nat} {σ0 σ : jS} {H H0 : Heap} {locs : List Loc} (Y : jH X A ad0 σ0 ad σ H) (hS : va_S A H0 H locs) (hA : ∀ q : Nat, H0.size ≤ q → A q) : ∀ q, va_A (jws X.2.2 ad σ) H.size q → A q := by
  intro q h
  rcases h with ⟨k, e, h⟩ | h
  · exact Y.2.1.2 k (q, e) h
  · exact hA q (Nat.le_trans hS.1 h)
theorem jpre {X : jX} {M : jMt} {rm : Room} {p : Program} {s : State} {m : MethodId} {args : Array Value} {meth : Method} {c : Code} {A : Nat → Prop} {ad0 ad : Nat → Nat} {σ0 σ : jS} {H : Heap} {locs : List Loc} (C : jC X M rm p s m args meth c A ad0 σ0) (Y : jH X A ad0 σ0 ad σ H) (hS : va_S A s.heap H locs) {as : List Value} (hok : jok σ.1 as) : ∀ U : State, U.heap = H → s.WarmedH U.vm → va_Pc (as.map (tv ad)) (jPre X ad σ as H.size) (as.map (tv ad)).toArray U := by
  intro U hU hW
  obtain ⟨-, ⟨-, -, -, hlt⟩, -, hA, hK, hN, h5⟩ := id C
  obtain ⟨hP, hD, hw, hle, ha, hs⟩ := id Y
  refine ⟨rfl, by rw [hU], by rw [hU]; exact hP, hD.weaken (fun _ _ _ _ => trivial), va_K.moved hW.alike hK, ?_, hw, hok, by omega, hlt⟩
  rw [hU]
  exact jN.warm hW (((hN.kept hS.2.1).narrow (jfree Y hS hA)).to (fun i hi => ha i (by omega)) hs)
/-- behind a call -/
theorem jback {X : jX} {A : Nat → Prop} {ad0 ad ad' : Nat → Nat} {σ0 σ σ' : jS} {H H' : Heap} (h5 : 5 ≤ σ0.1) (Y : jH X A ad0 σ0 ad σ H) (hF : ∀ q, va_A (jws X.2.2 ad σ) H.size q → A q) (Y' : jH X (va_A (jws X.2.2 ad σ) H.size) ad σ ad' σ' H') : jH X A ad0 σ0 ad' σ' H' := by
  obtain ⟨-, -, -, hle, ha, hs⟩ := Y
  obtain ⟨hP, hD, hw, hle', ha', hs'⟩ := Y'
  exact ⟨hP, hD.weaken (fun _ q _ h => hF q.1 h), hw, by omega, fun i hi => by rw [ha' i (by omega), ha i hi], fun i hi => by rw [hs' i hi, hs i hi]⟩
theorem jcall {X : jX} {M : jMt} {rm : Room} {p : Program} {e : Env} {s : State} {m : MethodId} {args : Array Value} {below : List Frame} {meth : Method} {c : Code} {A : Nat → Prop} {ad0 ad : Nat → Nat} {σ0 σ : jS} {H : Heap} {locs : List Loc} {ls : Array Slot} {pc k n mc ms : Nat} {lc rest : List Value} {st0 : List Value} {Q Q1 : jOut → jS → Prop} {a : Array Value}
    (C : jC X M rm p s m args meth c A ad0 σ0) (Y : jH X A ad0 σ0 ad σ H) (hS : va_S A s.heap H locs) (hl : jl ls M.2.2.1 ad lc) (ol : jok σ.1 lc) (os : jok σ.1 rest)
    (hr : vx_Run p X.1 e rm s m args below meth c H locs k n mc ms (F0 m pc ls st0) (rest.map (tv ad)) (jQc X (va_A (jws X.2.2 ad σ) H.size) ad σ Q1 a) (jXC X (va_A (jws X.2.2 ad σ) H.size) ad σ Q1) (va_A (jws X.2.2 ad σ) H.size))
    (hh : M.2.2.2.2 = [] ∨ ∀ E σ', ¬ Q1 (.inr E) σ') (hb1 : k + mc ≤ rm.cells) (hb2 : n + ms ≤ rm.slots) (kx : ∀ E σ', Q1 (.inr E) σ' → σ.1 ≤ σ'.1 → Q (.inr E) σ')
    (kk : ∀ r σ', Q1 (.inl r) σ' → σ.1 ≤ σ'.1 → J X M rm (pc + 3) lc (r.toList ++ rest) (k + mc) (n + ms) σ' Q) :
    W p X.1 e rm s m args below meth c H locs k n (vx_MQ below (jQc X A ad0 σ0 Q) (jXC X A ad0 σ0 Q) args s rm.cells rm.slots A) (F0 m pc ls st0) := by
  obtain ⟨⟨hx, hb, hml, hr9, htab⟩, ⟨hown, hlk, hnm, hlt⟩, hts, hA, hK, hN, h5⟩ := id C
  have hF := jfree Y hS hA
  intro T hT XX
  rcases hr T hT XX with ⟨v, st₀, t, T', L, h0, X', hL, e1, e2, ⟨⟨r, ad', σ', hv, hq, hok, Y'⟩, hFr⟩, stp⟩ | ⟨q, st₀, t, T', L, E, ce, h0, X', hL, e1, e2, ⟨⟨ad', σ', hq, Y'⟩, hFr⟩, hce, hcv, hcl, stp⟩
  · cases hv
    obtain ⟨k1, k2, k3⟩ := vx_keep h0 e1 hS (fun q _ h => hF q h) hF hL hFr
    have Y2 := jback h5 Y hF Y'
    rw [← e1] at Y2
    have hle : σ.1 ≤ σ'.1 := Y'.2.2.2.1
    have hext := Y'.2.2.2.2.1
    have os' : jok σ'.1 (r.toList ++ rest) := fun w hw => (List.mem_append.mp hw).elim (fun h => hok w (by cases r with | none => cases h | some x => rw [List.mem_singleton.mp h])) (fun h => jokv_mono hle (os w h))
    obtain ⟨t2, a1, b1⟩ := kk r σ' hq hle p e s m args below meth c A ad0 σ0 T'.heap (locs ++ L) ls ad' C Y2 k3 (jl_ext hext ol hl) (jok_mono hle ol) os' T' rfl X'
    refine ⟨t2, stp t2 ?_, b1⟩
    rw [List.map_append, jext hext os] at a1
    have hto : (r.map (tv ad')).toList = r.toList.map (tv ad') := by cases r <;> rfl
    rw [hto]
    exact a1
  · obtain ⟨k1, k2, k3⟩ := vx_keep h0 e1 hS (fun q _ h => hF q h) hF hL hFr
    have Y2 := jback h5 Y hF Y'
    rcases hh with hh | hh
    · have hno : ∀ x ∈ c.exceptionTable.toList, covers x pc = false := fun x hx9 => by
        rw [htab, hh] at hx9
        cases hx9
      obtain ⟨t2, a1, b1⟩ := vx_out (Qc := jQc X A ad0 σ0 Q) (XC := jXC X A ad0 σ0 Q) (args := args) (s := s) (mc := rm.cells) (ms := rm.slots) (free := A) (H := T'.heap) (rest := rest.map (tv ad)) (ls := ls) (pc := pc) hno hlk (by rw [e1]; exact hce) hcv hcl (fun t9 ht9 _ => ⟨⟨ad', σ', kx E σ' hq Y'.2.2.2.1, by rw [ht9, e1]; exact Y2⟩, k3.F ht9⟩) k3.2.2 hb1 hb2 T' rfl X'
      exact ⟨t2, stp.trans a1, b1⟩
    · exact (hh E σ' hq).elim
theorem jws_ok {M : jMt} {s : State} {args : Array Value} (hts : ∀ w ∈ jBig, w.before args s = true) (hc : Cond.code M.1 M.2.1 M.2.2.1 M.2.2.2.1 ∈ lw_tbl) : ∀ w ∈ jWs M, ∀ (a' : Array Value) (U : State), s.WarmedH U.vm → w.before a' U = true := by
  intro w hw a' U hW
  have hb : w ∈ jBig := by
    rcases List.mem_cons.mp hw with rfl | h
    · exact jw_in hc rfl
    · exact h
  exact word_at hW (good_of_word (List.mem_filter.mp hb).2) (hts w hb)
theorem jws_okX {M : jMt} {s : State} {args : Array Value} (hts : ∀ w ∈ jBig, w.before args s = true) (hc : Cond.codeWith M.1 M.2.1 M.2.2.1 M.2.2.2.1 M.2.2.2.2 ∈ lw_tbl) : ∀ w ∈ jWsX M, ∀ (a' : Array Value) (U : State), s.WarmedH U.vm → w.before a' U = true := by
  intro w hw a' U hW
  have hb : w ∈ jBig := by
    rcases List.mem_cons.mp hw with rfl | h
    · exact jw_in hc rfl
    · exact h
  exact word_at hW (good_of_word (List.mem_filter.mp hb).2) (hts w hb)
/-- what the tables say of a method that is called: n: its parameters -/
def jSt (M : jMt) (n : Nat) : Prop := plainName M.1.cls = true ∧ M.2.2.2.2 = [] ∧ Cond.code M.1 M.2.1 M.2.2.1 M.2.2.2.1 ∈ lw_tbl ∧ Cond.initialized M.1.cls ∈ lw_tbl ∧ (M.1.cls ≠ "java/lang/invoke/MethodHandle" ∧ M.1.cls ≠ "java/lang/invoke/VarHandle") ∧ (parseMethodDescriptor M.1.desc).map (fun d => d.parameters.length) = some n
theorem jcb {M M' : jMt} {s : State} {args : Array Value} {rm rm' : Room} {ix n : Nat} (hts : ∀ w ∈ jBig, w.before args s = true) (hst : jSt M' n) (hl : Cond.methodLink M.1.cls ix M'.1 ∈ lw_tbl) (hf : rm'.frames + 1 ≤ rm.frames) (hlo : 8 + (M'.2.2.1 + 11) + rm'.locals ≤ rm.locals) : CallB rm s args M.1.cls ix M'.1 M'.2.1 M'.2.2.1 M'.2.2.2.1 (jWs M') rm' rm'.cells rm'.slots n := by
  obtain ⟨-, -, hc, hi, hy, hd⟩ := hst
  refine ⟨rfl, rfl, hf, hlo, jws_ok hts hc, List.mem_cons_self, hts _ (jw_in hc rfl), hts _ (jw_in hi rfl), hy, fun sig h => ?_, hts _ (jw_in hl rfl)⟩
  rw [h] at hd
  exact (Option.some.inj hd).symm
def jcat (l : List Value) : Nat := (l.map fun v => v.category).sum
theorem jcat_tv (ad : Nat → Nat) (l : List Value) : ((l.map (tv ad)).map fun v => v.category).sum = jcat l := by
  unfold jcat
  rw [List.map_map]
  congr 1
  exact List.map_congr_left fun v _ => tv_cat ad v
theorem J.callV {X : jX} {M : jMt} {rm : Room} {pc : Nat} {lc st st0 : List Value} {k n : Nat} {σ : jS} {Q : jOut → jS → Prop} {M' : jMt} {rm' : Room} {Q1 : jOut → jS → Prop} {ix i ci N : Nat} {T : u_T} {fs : List Value} (as : List Value) (d : decode M.2.1 pc = .ok (.invokevirtual ix, 3)) (hJ : JM X M' rm' (.ref i :: as) σ Q1) (he : σ.2 i = jO ci fs) (hci : vwCl[ci]? = some (M'.1.cls, T, N)) (hst : jSt M' as.length) (hl9 : Cond.methodLink M.1.cls ix M'.1 ∈ lw_tbl) (hi9 : Cond.instanceMethod M'.1 ∈ lw_tbl) (hs9 : Cond.selects M'.1.cls M'.1 M'.1 ∈ lw_tbl) (hst0 : st0 = as.reverse ++ .ref i :: st) (hlen : (jargs (.ref i :: as)).length ≤ M'.2.2.1) (hf : rm'.frames + 1 ≤ rm.frames) (hlo : 8 + (M'.2.2.1 + 11) + rm'.locals ≤ rm.locals) (hcat : jcat st ≤ 8) (hb1 : k + rm'.cells ≤ rm.cells) (hb2 : n + rm'.slots ≤ rm.slots)
    (hh : M.2.2.2.2 = [] ∨ ∀ E σ', ¬ Q1 (.inr E) σ') (kx : ∀ E σ', Q1 (.inr E) σ' → σ.1 ≤ σ'.1 → Q (.inr E) σ') (kk : ∀ r σ', Q1 (.inl r) σ' → σ.1 ≤ σ'.1 → J X M rm (pc + 3) lc (r.toList ++ st) (k + rm'.cells) (n + rm'.slots) σ' Q) : J X M rm pc lc st0 k n σ Q := by
  subst hst0
  intro p e s m args below meth c A ad0 σ0 H locs ls ad C Y hS hl ol os
  obtain ⟨⟨hx, hb, hml, hr, htab⟩, ⟨hown, hlk, hnm, hlt⟩, hts, hA, hK, hN, h5⟩ := id C
  have os1 : jok σ.1 (.ref i :: as) := fun v hv => os v (by rcases List.mem_cons.mp hv with rfl | h; exact List.mem_append_right _ List.mem_cons_self; exact List.mem_append_left _ (List.mem_reverse.mpr h))
  have os2 : jok σ.1 st := fun v hv => os v (List.mem_append_right _ (List.mem_cons_of_mem _ hv))
  have hi : i < σ.1 := jok_hd os1
  have hw := jws_at (cA := X.2.2) (ad := ad) (jown C Y he (jO_ne _ _)) hi
  rw [he] at hw
  have hM := jm_met hJ hst.1 hst.2.1 hlen ad H.size
  refine jcall C Y hS hl ol os2 (vx_runV (As := as.map (tv ad)) (rest := st.map (tv ad)) (Ts := jBig) ⟨hx, hb, hml, hown, hts⟩ hM ⟨jcb hts hst hl9 hf hlo, hts _ (jw_in hi9 rfl), hts _ (jw_in hs9 rfl)⟩ ⟨jblind, va_recv hK Y.1 hci hw, jpre C Y hS os1⟩ rfl (List.length_map ..) hl.1 (by rw [List.map_append, List.map_reverse]; rfl) (lv_room (by rw [jcat_tv]; exact hcat)) d ⟨hb1, hb2⟩) hh hb1 hb2 kx kk
theorem J.callS {X : jX} {M : jMt} {rm : Room} {pc : Nat} {lc st st0 : List Value} {k n : Nat} {σ : jS} {Q : jOut → jS → Prop} {M' : jMt} {rm' : Room} {Q1 : jOut → jS → Prop} {ix : Nat} (as : List Value) (d : decode M.2.1 pc = .ok (.invokestatic ix, 3)) (hJ : JM X M' rm' as σ Q1) (hst : jSt M' as.length) (hl9 : Cond.methodLink M.1.cls ix M'.1 ∈ lw_tbl) (hi9 : Cond.static M'.1 ∈ lw_tbl) (hst0 : st0 = as.reverse ++ st) (hlen : (jargs as).length ≤ M'.2.2.1) (hf : rm'.frames + 1 ≤ rm.frames) (hlo : 8 + (M'.2.2.1 + 11) + rm'.locals ≤ rm.locals) (hcat : jcat st ≤ 8) (hb1 : k + rm'.cells ≤ rm.cells) (hb2 : n + rm'.slots ≤ rm.slots)
    (hh : M.2.2.2.2 = [] ∨ ∀ E σ', ¬ Q1 (.inr E) σ') (kx : ∀ E σ', Q1 (.inr E) σ' → σ.1 ≤ σ'.1 → Q (.inr E) σ') (kk : ∀ r σ', Q1 (.inl r) σ' → σ.1 ≤ σ'.1 → J X M rm (pc + 3) lc (r.toList ++ st) (k + rm'.cells) (n + rm'.slots) σ' Q) : J X M rm pc lc st0 k n σ Q := by
  subst hst0
  intro p e s m args below meth c A ad0 σ0 H locs ls ad C Y hS hl ol os
  obtain ⟨⟨hx, hb, hml, hr, htab⟩, ⟨hown, hlk, hnm, hlt⟩, hts, hA, hK, hN, h5⟩ := id C
  have os1 : jok σ.1 as := fun v hv => os v (List.mem_append_left _ (List.mem_reverse.mpr hv))
  have os2 : jok σ.1 st := fun v hv => os v (List.mem_append_right _ hv)
  have hM := jm_met hJ hst.1 hst.2.1 hlen ad H.size
  refine jcall C Y hS hl ol os2 (vx_runS (As := as.map (tv ad)) (rest := st.map (tv ad)) (Ts := jBig) ⟨hx, hb, hml, hown, hts⟩ hM ⟨jcb hts hst hl9 hf hlo, hts _ (jw_in hi9 rfl)⟩ ⟨jblind, jpre C Y hS os1⟩ rfl (List.length_map ..) hl.1 (by rw [List.map_append, List.map_reverse]) (lv_room (by rw [jcat_tv]; exact hcat)) d ⟨hb1, hb2⟩) hh hb1 hb2 kx kk

theorem met_of {l : Launch} {y : MethodName} {ws : List Cond} {rm : Room} {Pc : Array Value → State → Prop} {Qc : Array Value → State → Outcome → State → Prop} {XC : String → State → State → Prop} {mc ms : Nat} {free : Addr → Prop} (h : vx_Met l y ws rm Pc Qc XC mc ms free) (hn : ∀ E st t, ¬ XC E st t) : Met l y ws rm Pc Qc mc ms free := by
  intro p e h1 h2 h3 s m args below h4 h5 h6 h7
  obtain ⟨n, o, a, b, c, d⟩ := h p e h1 h2 h3 s m args below h4 h5 h6 h7
  refine ⟨n, o, a, b, c, ?_⟩
  rcases d with ⟨d1, d2⟩ | ⟨q, -, E, ce, L, hx, -⟩
  · exact ⟨d1, d2⟩
  · exact (hn _ _ _ hx).elim
theorem run_of {p : Program} {l : Launch} {e : Env} {R : Room} {s : State} {m : MethodId} {args : Array Value} {below : List Frame} {meth : Method} {c : Code} {H : Heap} {locs : List Loc} {cells slots mc ms : Nat} {g : JFrame} {rest : List Value} {Qa : State → Outcome → State → Prop} {XC : String → State → State → Prop} {free : Addr → Prop} (h : va_Run p l e R s m args below meth c H locs cells slots mc ms g rest Qa free) : vx_Run p l e R s m args below meth c H locs cells slots mc ms g rest Qa XC free := fun T hT X => Or.inl (h T hT X)
theorem jno {X : jX} {A : Nat → Prop} {ad0 : Nat → Nat} {σ0 : jS} {Q : jOut → jS → Prop} (h : ∀ E σ', ¬ Q (.inr E) σ') : ∀ E st t, ¬ jXC X A ad0 σ0 Q E st t := fun E st t q => by
  obtain ⟨⟨ad, σ, h1, -⟩, -⟩ := q
  exact h E σ h1
theorem J.callSN {X : jX} {M : jMt} {rm : Room} {pc : Nat} {lc st st0 : List Value} {k n : Nat} {σ : jS} {Q : jOut → jS → Prop} {M' : jMt} {rm' : Room} {Q1 : jOut → jS → Prop} {ix : Nat} {host : String} (as : List Value) (d : decode M.2.1 pc = .ok (.invokestatic ix, 3)) (hJ : JM X M' rm' as σ Q1) (hst : jSt M' as.length) (hl9 : Cond.methodLinkNest M.1.cls ix M'.1 host ∈ lw_tbl) (hi9 : Cond.static M'.1 ∈ lw_tbl) (hst0 : st0 = as.reverse ++ st) (hlen : (jargs as).length ≤ M'.2.2.1) (hf : rm'.frames + 1 ≤ rm.frames) (hlo : 8 + (M'.2.2.1 + 11) + rm'.locals ≤ rm.locals) (hcat : jcat st ≤ 8) (hb1 : k + rm'.cells ≤ rm.cells) (hb2 : n + rm'.slots ≤ rm.slots)
    (hh : ∀ E σ', ¬ Q1 (.inr E) σ') (kk : ∀ r σ', Q1 (.inl r) σ' → σ.1 ≤ σ'.1 → J X M rm (pc + 3) lc (r.toList ++ st) (k + rm'.cells) (n + rm'.slots) σ' Q) : J X M rm pc lc st0 k n σ Q := by
  subst hst0
  intro p e s m args below meth c A ad0 σ0 H locs ls ad C Y hS hl ol os
  obtain ⟨⟨hx, hb, hml, hr, htab⟩, ⟨hown, hlk, hnm, hlt⟩, hts, hA, hK, hN, h5⟩ := id C
  have os1 : jok σ.1 as := fun v hv => os v (List.mem_append_left _ (List.mem_reverse.mpr hv))
  have os2 : jok σ.1 st := fun v hv => os v (List.mem_append_right _ hv)
  have hM := met_of (jm_met hJ hst.1 hst.2.1 hlen ad H.size) (jno hh)
  obtain ⟨-, -, hc, hi, hy, hd⟩ := id hst
  have hG : GoodIn jBig (jWs M') := fun w hw => by
    have hb9 : w ∈ jBig := (List.mem_cons.mp hw).elim (fun h => by rw [h]; exact jw_in hc rfl) (fun h => h)
    exact ⟨hb9, good_of_word (List.mem_filter.mp hb9).2⟩
  refine jcall C Y hS hl ol os2 (run_of (va_runSN (As := as.map (tv ad)) (rest := st.map (tv ad)) (Ts := jBig) ⟨hx, hb, hml, hown, hts⟩ hM ⟨va_cnB (maxL := M'.2.2.1) as.length hts hG rfl rfl rfl (hN.1 _ hl9 rfl) (hts _ (jw_in hi rfl)) ⟨hy.1, hy.2, hd⟩ ⟨hf, hlo⟩, hts _ (jw_in hi9 rfl), trivial⟩ ⟨jblind, jpre C Y hS os1⟩ rfl (List.length_map ..) hl.1 (by rw [List.map_append, List.map_reverse]) (lv_room (by rw [jcat_tv]; exact hcat)) d ⟨hb1, hb2⟩)) (Or.inr hh) hb1 hb2 (fun E σ' h => (hh E σ' h).elim) kk
theorem J.callIN {X : jX} {M : jMt} {rm : Room} {pc : Nat} {lc st st0 : List Value} {k n : Nat} {σ : jS} {Q : jOut → jS → Prop} {M' : jMt} {rm' : Room} {Q1 : jOut → jS → Prop} {ix i : Nat} {host : String} (as : List Value) (d : decode M.2.1 pc = .ok (.invokespecial ix, 3)) (hJ : JM X M' rm' (.ref i :: as) σ Q1) (hst : jSt M' as.length) (hret : M'.2.2.2.1 = none) (hinit : M'.1.name = "<init>") (hl9 : Cond.methodLinkNest M.1.cls ix M'.1 host ∈ lw_tbl) (hi9 : Cond.instanceMethod M'.1 ∈ lw_tbl) (hst0 : st0 = as.reverse ++ .ref i :: st) (hlen : (jargs (.ref i :: as)).length ≤ M'.2.2.1) (hf : rm'.frames + 1 ≤ rm.frames) (hlo : 8 + (M'.2.2.1 + 11) + rm'.locals ≤ rm.locals) (hcat : jcat st ≤ 8) (hb1 : k + rm'.cells ≤ rm.cells) (hb2 : n + rm'.slots ≤ rm.slots)
    (hh : ∀ E σ', ¬ Q1 (.inr E) σ') (kk : ∀ r σ', Q1 (.inl r) σ' → σ.1 ≤ σ'.1 → J X M rm (pc + 3) lc (r.toList ++ st) (k + rm'.cells) (n + rm'.slots) σ' Q) : J X M rm pc lc st0 k n σ Q := by
  subst hst0
  intro p e s m args below meth c A ad0 σ0 H locs ls ad C Y hS hl ol os
  obtain ⟨⟨hx, hb, hml, hr, htab⟩, ⟨hown, hlk, hnm, hlt⟩, hts, hA, hK, hN, h5⟩ := id C
  have os1 : jok σ.1 (.ref i :: as) := fun v hv => os v (by rcases List.mem_cons.mp hv with rfl | h; exact List.mem_append_right _ List.mem_cons_self; exact List.mem_append_left _ (List.mem_reverse.mpr h))
  have os2 : jok σ.1 st := fun v hv => os v (List.mem_append_right _ (List.mem_cons_of_mem _ hv))
  have hM := met_of (jm_met hJ hst.1 hst.2.1 hlen ad H.size) (jno hh)
  obtain ⟨-, -, hc, hi, hy, hd⟩ := id hst
  have hG : GoodIn jBig (jWs M') := fun w hw => by
    have hb9 : w ∈ jBig := (List.mem_cons.mp hw).elim (fun h => by rw [h]; exact jw_in hc rfl) (fun h => h)
    exact ⟨hb9, good_of_word (List.mem_filter.mp hb9).2⟩
  refine jcall C Y hS hl ol os2 (run_of (va_runIN (As := as.map (tv ad)) (rest := st.map (tv ad)) (Ts := jBig) (maxL := M'.2.2.1) (bytes := M'.2.1) (ws := jWs M') ⟨hx, hb, hml, hown, hts⟩ hM ⟨hret ▸ va_cnB (maxL := M'.2.2.1) (ret := M'.2.2.2.1) as.length hts hG rfl rfl rfl (hN.1 _ hl9 rfl) (hts _ (jw_in hi rfl)) ⟨hy.1, hy.2, hd⟩ ⟨hf, hlo⟩, hinit, hts _ (jw_in hi9 rfl)⟩ ⟨jblind, jpre C Y hS os1⟩ rfl (List.length_map ..) hl.1 (by rw [List.map_append, List.map_reverse]; rfl) (lv_room (by rw [jcat_tv]; exact hcat)) d ⟨hb1, hb2⟩)) (Or.inr hh) hb1 hb2 (fun E σ' h => (hh E σ' h).elim) kk
theorem J.callI {X : jX} {M : jMt} {rm : Room} {pc : Nat} {lc st st0 : List Value} {k n : Nat} {σ : jS} {Q : jOut → jS → Prop} {M' : jMt} {rm' : Room} {Q1 : jOut → jS → Prop} {ix i : Nat} (as : List Value) (d : decode M.2.1 pc = .ok (.invokespecial ix, 3)) (hJ : JM X M' rm' (.ref i :: as) σ Q1) (hst : jSt M' as.length) (hret : M'.2.2.2.1 = none) (hinit : M'.1.name = "<init>") (hl9 : Cond.methodLink M.1.cls ix M'.1 ∈ lw_tbl) (hi9 : Cond.instanceMethod M'.1 ∈ lw_tbl) (hst0 : st0 = as.reverse ++ .ref i :: st) (hlen : (jargs (.ref i :: as)).length ≤ M'.2.2.1) (hf : rm'.frames + 1 ≤ rm.frames) (hlo : 8 + (M'.2.2.1 + 11) + rm'.locals ≤ rm.locals) (hcat : jcat st ≤ 8) (hb1 : k + rm'.cells ≤ rm.cells) (hb2 : n + rm'.slots ≤ rm.slots)
    (hh : ∀ E σ', ¬ Q1 (.inr E) σ') (kk : ∀ r σ', Q1 (.inl r) σ' → σ.1 ≤ σ'.1 → J X M rm (pc + 3) lc (r.toList ++ st) (k + rm'.cells) (n + rm'.slots) σ' Q) : J X M rm pc lc st0 k n σ Q := by
  subst hst0
  intro p e s m args below meth c A ad0 σ0 H locs ls ad C Y hS hl ol os
  obtain ⟨⟨hx, hb, hml, hr, htab⟩, ⟨hown, hlk, hnm, hlt⟩, hts, hA, hK, hN, h5⟩ := id C
  have os1 : jok σ.1 (.ref i :: as) := fun v hv => os v (by rcases List.mem_cons.mp hv with rfl | h; exact List.mem_append_right _ List.mem_cons_self; exact List.mem_append_left _ (List.mem_reverse.mpr h))
  have os2 : jok σ.1 st := fun v hv => os v (List.mem_append_right _ (List.mem_cons_of_mem _ hv))
  have hM := met_of (jm_met hJ hst.1 hst.2.1 hlen ad H.size) (jno hh)
  refine jcall C Y hS hl ol os2 (run_of (va_runI (As := as.map (tv ad)) (rest := st.map (tv ad)) (Ts := jBig) (maxL := M'.2.2.1) (bytes := M'.2.1) (ws := jWs M') ⟨hx, hb, hml, hown, hts⟩ hM ⟨hret ▸ jcb hts hst hl9 hf hlo, hinit, hts _ (jw_in hi9 rfl)⟩ ⟨jblind, jpre C Y hS os1⟩ rfl (List.length_map ..) hl.1 (by rw [List.map_append, List.map_reverse]; rfl) (lv_room (by rw [jcat_tv]; exact hcat)) d ⟨hb1, hb2⟩)) (Or.inr hh) hb1 hb2 (fun E σ' h => (hh E σ' h).elim) kk
/-- a static method with a table of its own -/
def jStX (M : jMt) (n : Nat) : Prop := plainName M.1.cls = true ∧ Cond.codeWith M.1 M.2.1 M.2.2.1 M.2.2.2.1 M.2.2.2.2 ∈ lw_tbl ∧ Cond.initialized M.1.cls ∈ lw_tbl ∧ (M.1.cls ≠ "java/lang/invoke/MethodHandle" ∧ M.1.cls ≠ "java/lang/invoke/VarHandle") ∧ (parseMethodDescriptor M.1.desc).map (fun d => d.parameters.length) = some n
theorem J.callSX {X : jX} {M : jMt} {rm : Room} {pc : Nat} {lc st st0 : List Value} {k n : Nat} {σ : jS} {Q : jOut → jS → Prop} {M' : jMt} {rm' : Room} {Q1 : jOut → jS → Prop} {ix : Nat} (as : List Value) (d : decode M.2.1 pc = .ok (.invokestatic ix, 3)) (hJ : JM X M' rm' as σ Q1) (hst : jStX M' as.length) (hl9 : Cond.methodLink M.1.cls ix M'.1 ∈ lw_tbl) (hi9 : Cond.static M'.1 ∈ lw_tbl) (hst0 : st0 = as.reverse ++ st) (hlen : (jargs as).length ≤ M'.2.2.1) (hf : rm'.frames + 1 ≤ rm.frames) (hlo : 8 + (M'.2.2.1 + 11) + rm'.locals ≤ rm.locals) (hcat : jcat st ≤ 8) (hb1 : k + rm'.cells ≤ rm.cells) (hb2 : n + rm'.slots ≤ rm.slots)
    (hh : ∀ E σ', ¬ Q1 (.inr E) σ') (kk : ∀ r σ', Q1 (.inl r) σ' → σ.1 ≤ σ'.1 → J X M rm (pc + 3) lc (r.toList ++ st) (k + rm'.cells) (n + rm'.slots) σ' Q) : J X M rm pc lc st0 k n σ Q := by
  subst hst0
  intro p e s m args below meth c A ad0 σ0 H locs ls ad C Y hS hl ol os
  obtain ⟨⟨hx, hb, hml, hr, htab⟩, ⟨hown, hlk, hnm, hlt⟩, hts, hA, hK, hN, h5⟩ := id C
  have os1 : jok σ.1 as := fun v hv => os v (List.mem_append_left _ (List.mem_reverse.mpr hv))
  have os2 : jok σ.1 st := fun v hv => os v (List.mem_append_right _ hv)
  have hM := jm_metX hJ hst.1 hlen ad H.size
  obtain ⟨-, hc, hi, hy, hd⟩ := hst
  refine jcall C Y hS hl ol os2 (vx_runSX (hh := M'.2.2.2.2) (As := as.map (tv ad)) (rest := st.map (tv ad)) (Ts := jBig) (maxL := M'.2.2.1) ⟨hx, hb, hml, hown, hts⟩ hM ⟨⟨rfl, rfl, hf, hlo, jws_okX hts hc, List.mem_cons_self⟩, hts _ (jw_in hc rfl), hts _ (jw_in hi rfl), hy, fun sig h => by rw [h] at hd; exact (Option.some.inj hd).symm, hts _ (jw_in hl9 rfl), hts _ (jw_in hi9 rfl)⟩ ⟨jblind, jpre C Y hS os1⟩ rfl (List.length_map ..) hl.1 (by rw [List.map_append, List.map_reverse]) (lv_room (by rw [jcat_tv]; exact hcat)) d ⟨hb1, hb2⟩) (Or.inr hh) hb1 hb2 (fun E σ' h => (hh E σ' h).elim) kk
