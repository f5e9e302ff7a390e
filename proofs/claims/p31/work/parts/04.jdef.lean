/-! the judgement of the small machine -/
def jNestW : Cond → Bool
  | .fieldLinkNest .. => true
  | .methodLinkNest .. => true
  | .declares .. => true
  | .castable .. => true
  | _ => false
def jNcs : List (String × String) := []
def jBig : List Cond := lw_tbl.filter goodWord
def jStr : List (String × Nat × String) := [("WireBook", 54, "a plain word is 0 to 9999"), ("WireBook", 64, "the line has 40 words"), ("WireBook", 76, "no such place on the line"), ("WireBook", 82, "the line is empty"), ("WireBook", 85, "12 lines are kept"), ("WireBook", 91, "no such kept line"), ("WireBook", 231, "a code word is 0 to 11881375"), ("WireBook", 233, "no such place in a code word"), ("WireBook", 228, "no such book"), ("WireBook", 228, "no such book"), ("WireBook", 228, "no such book"), ("WireBook", 235, "no such entry"), ("WireBook", 147, "no such word in the phrase"), ("WireBook", 156, "a price is 1 to 5"), ("WireBook", 237, "no such group"), ("WireBook", 175, "a letter is 0 to 25"), ("WireBook", 243, "the group is a plain word"), ("WireBook", 194, "no such group was read"), ("WireBook", 207, "1 to 40 entries can be learned")]
abbrev jMt : Type := MethodName × ByteArray × Nat × Option FieldType × List (Nat × Nat × Nat × Nat)
abbrev jOut : Type := Option Value ⊕ String
abbrev jX : Type := Launch × va_G × (Nat → ClassId)
def jty (cA : Nat → ClassId) : List (ClassId × FieldType) := [(cA 0, .int), (cA 3, .object "WireBook$Book"), (cA 4, .array .int)]
/-- what stands outside the world: links between nest mates, static rows, the texts, what a throw needs -/
def jN (A : Nat → Prop) (ad : Nat → Nat) (σ : jS) (U : State) (H : Heap) : Prop :=
  (∀ w ∈ lw_tbl, jNestW w = true → va_Nw w U) ∧
  (va_Z "WireBook" "LETTER_UNITS" "[I" (.ref (ad 0)) A U H ∧ va_Z "WireBook" "DIGIT_UNITS" "[I" (.ref (ad 1)) A U H) ∧
  (∀ i, i < 5 → ∃ (n : Nat) (f : Nat → Int), n < 2147483648 ∧ σ.2 i = jI n f ∧ va_T .int (ad i) n (fun j => .int (iI (f j))) A U H) ∧
  (vx_Zq Bundle.tN "UNASSIGNED_STACK" Bundle.steD A U H ∧ vx_Zq Bundle.tN "SUPPRESSED_SENTINEL" Bundle.listD A U H) ∧
  (∀ q ∈ jStr, ∃ a, vk_R q.1 q.2.1 q.2.2 a U) ∧ va_AO "WireBook$Book" U ∧ va_AOA .int U ∧ ∀ q ∈ jNcs, va_Nc q.1 q.2 U
theorem va_AOA.moved {t : FieldType} {u U : State} (hvm : u.vm.Alike U.vm) (h : va_AOA t u) : va_AOA t U := by
  obtain ⟨comp, c, k, h1, h2, h3, h4, h5⟩ := arrayOverA_spec h
  obtain ⟨k', hk', he⟩ := hvm.2.2 _ _ h3
  have hi : (U.vm.classes.findIdx? fun (x : Class) => match x.kind with | .array component _ => component == comp | _ => false) = some c := by
    rw [hvm.findIdx?_eq _ (fun _ => rfl)]
    exact h2
  have hkind : k'.kind = .array comp (.array t) := by rw [he]; exact h4
  have f1 : U.vm.findClass (FieldType.array t).toString = some comp := by rw [hvm.findClass]; exact h1
  have f2 : U.vm.findClass ("[" ++ (FieldType.array t).toString) = some c := by rw [hvm.findClass]; exact h5
  unfold va_AOA Cond.before Cond.holds
  simp only [Cond.value]
  rw [f1, Option.bind_some]
  refine (congrArg (fun o : Option Nat => (o.bind (fun c => (U.vm.classes[c]?).map fun (k : Class) => match k.kind with | .array _ ty => decide (ty = FieldType.array t) && decide (U.vm.findClass ("[" ++ (FieldType.array t).toString) = some c) | _ => false) == some true)) hi).trans ?_
  simp [hk', hkind, f2]
theorem jN.kept {A : Nat → Prop} {ad : Nat → Nat} {σ : jS} {U : State} {H H1 : Heap} (h : jN A ad σ U H) (hq : ∀ a : Nat, a < H.size → ¬ A a → H1[a]? = H[a]?) : jN A ad σ U H1 := by
  obtain ⟨h1, ⟨z0, z1⟩, h3, ⟨u0, u1⟩, h5⟩ := h
  exact ⟨h1, ⟨z0.kept hq, z1.kept hq⟩, fun i hi => by
    obtain ⟨n, f, a, b, c⟩ := h3 i hi
    exact ⟨n, f, a, b, c.kept hq⟩, ⟨u0.kept hq, u1.kept hq⟩, h5⟩
theorem jN.narrow {A B : Nat → Prop} {ad : Nat → Nat} {σ : jS} {U : State} {H : Heap} (h : jN A ad σ U H) (hq : ∀ a : Nat, B a → A a) : jN B ad σ U H := by
  obtain ⟨h1, ⟨z0, z1⟩, h3, ⟨u0, u1⟩, h5⟩ := h
  exact ⟨h1, ⟨z0.narrow hq, z1.narrow hq⟩, fun i hi => by
    obtain ⟨n, f, a, b, c⟩ := h3 i hi
    exact ⟨n, f, a, b, c.narrow hq⟩, ⟨u0.narrow hq, u1.narrow hq⟩, h5⟩
theorem jN.warm {A : Nat → Prop} {ad : Nat → Nat} {σ : jS} {s U : State} {H : Heap} (hW : s.WarmedH U.vm) (h : jN A ad σ s H) : jN A ad σ U H := by
  obtain ⟨h1, ⟨z0, z1⟩, h3, ⟨u0, u1⟩, h5, h6, h7, h8⟩ := h
  have hv := hW.alike
  refine ⟨fun w hw hn => ?_, ⟨z0.moved hv, z1.moved hv⟩, fun i hi => ?_, ⟨u0.moved hv, u1.moved hv⟩, fun q hq => ?_, h6.moved hv, h7.moved hv, fun q hq => (h8 q hq).moved hv⟩
  · have h9 := h1 w hw hn
    cases w <;> first | (exact absurd hn (by decide)) | exact va_Nw.warmF hW h9 | exact va_Nw.warmM hW h9 | exact va_Nw.warmD hW h9 | exact va_Nw.warmC hW h9 | simp [jNestW] at hn
  · obtain ⟨n, f, a, b, c⟩ := h3 i hi
    exact ⟨n, f, a, b, c.moved hv⟩
  · obtain ⟨a, ha⟩ := h5 q hq
    exact ⟨a, ha.warm hW⟩
theorem jN.to {A : Nat → Prop} {ad ad' : Nat → Nat} {σ σ' : jS} {U : State} {H : Heap} (h : jN A ad σ U H) (ha : ∀ i, i < 5 → ad' i = ad i) (hs : ∀ i, i < 5 → σ'.2 i = σ.2 i) : jN A ad' σ' U H := by
  obtain ⟨h1, ⟨z0, z1⟩, h3, h4⟩ := h
  refine ⟨h1, ⟨by rw [ha 0 (by omega)]; exact z0, by rw [ha 1 (by omega)]; exact z1⟩, fun i hi => ?_, h4⟩
  obtain ⟨n, f, a, b, c⟩ := h3 i hi
  exact ⟨n, f, a, by rw [hs i hi]; exact b, by rw [ha i hi]; exact c⟩
/-- what stays the same through a method -/
def jC (X : jX) (M : jMt) (rm : Room) (p : Program) (s : State) (m : MethodId) (args : Array Value) (meth : Method) (c : Code) (A : Nat → Prop) (ad0 : Nat → Nat) (σ0 : jS) : Prop :=
  (p.tables.exec = Jvm.exec ∧ c.code = M.2.1 ∧ c.maxLocals = M.2.2.1 ∧ meth.sig.returnType = M.2.2.2.1 ∧ c.exceptionTable.toList = tableOf M.2.2.2.2) ∧
  (s.vm.findClass M.1.cls = some m.cls ∧ meth.locks = false ∧ meth.name = M.1.name ∧ X.1.stackTraces = false) ∧
  (∀ w ∈ jBig, w.before args s = true) ∧ (∀ q : Nat, s.heap.size ≤ q → A q) ∧ va_K X.2.1 vwCl (jty X.2.2) s ∧ jN A ad0 σ0 s s.heap ∧ 5 ≤ σ0.1
/-- the world of the small machine in a heap -/
def jH (X : jX) (A : Nat → Prop) (ad0 : Nat → Nat) (σ0 : jS) (ad : Nat → Nat) (σ : jS) (H : Heap) : Prop :=
  va_P X.2.1 vwCl (jws X.2.2 ad σ) H ∧ va_D A (jws X.2.2 ad σ) ∧ jwf σ ∧ σ0.1 ≤ σ.1 ∧ (∀ i, i < σ0.1 → ad i = ad0 i) ∧ ∀ i, i < 5 → σ.2 i = σ0.2 i
def jQc (X : jX) (A : Nat → Prop) (ad0 : Nat → Nat) (σ0 : jS) (Q : jOut → jS → Prop) : Array Value → State → Outcome → State → Prop := fun _ st oc t =>
  (∃ (r : Option Value) (ad : Nat → Nat) (σ : jS), oc = .returned (r.map (tv ad)) ∧ Q (.inl r) σ ∧ (∀ v, r = some v → jokv σ.1 v) ∧ jH X A ad0 σ0 ad σ t.heap) ∧ va_F A st t
def jXC (X : jX) (A : Nat → Prop) (ad0 : Nat → Nat) (σ0 : jS) (Q : jOut → jS → Prop) : String → State → State → Prop := fun E st t =>
  (∃ (ad : Nat → Nat) (σ : jS), Q (.inr E) σ ∧ jH X A ad0 σ0 ad σ t.heap) ∧ va_F A st t
/-- the locals -/
def jl (ls : Array Slot) (nL : Nat) (ad : Nat → Nat) (lc : List Value) : Prop := ls.size = nL ∧ lv_wf ls ∧ ∀ (i : Nat) (v : Value), lc[i]? = some v → v ≠ Value.null → ls[i]? = some (Slot.val (tv ad v))
def jal (ad : Nat → Nat) (lc : List Value) : List (Nat × Value) := (List.range lc.length).filterMap (fun i => (lc[i]?).bind fun v => if v = .null then none else some (i, tv ad v))
theorem jal_mem {ad : Nat → Nat} {lc : List Value} {q : Nat × Value} (h : q ∈ jal ad lc) : ∃ v, lc[q.1]? = some v ∧ v ≠ .null ∧ q.2 = tv ad v := by
  obtain ⟨i, -, hi⟩ := List.mem_filterMap.mp h
  cases hv : lc[i]? with
  | none => rw [hv] at hi; cases hi
  | some v =>
    rw [hv] at hi
    have hi2 : (if v = .null then none else some (i, tv ad v)) = some q := hi
    by_cases hn : v = .null
    · rw [if_pos hn] at hi2; cases hi2
    · rw [if_neg hn] at hi2
      cases hi2
      exact ⟨v, hv, hn, rfl⟩
theorem jal_in {ad : Nat → Nat} {lc : List Value} {i : Nat} {v : Value} (h : lc[i]? = some v) (hn : v ≠ .null) : (i, tv ad v) ∈ jal ad lc := by
  refine List.mem_filterMap.mpr ⟨i, List.mem_range.mpr (List.getElem?_eq_some_iff.mp h).1, ?_⟩
  rw [h]
  exact if_neg hn
theorem jl_has {ls : Array Slot} {nL : Nat} {ad : Nat → Nat} {lc : List Value} (h : jl ls nL ad lc) : lv_has ls nL (jal ad lc) := by
  refine ⟨h.1, h.2.1, fun q hq => ?_⟩
  obtain ⟨v, h1, h2, h3⟩ := jal_mem hq
  rw [h3]
  exact h.2.2 q.1 v h1 h2
theorem jl_get {ls : Array Slot} {nL : Nat} {ad : Nat → Nat} {lc : List Value} (h : jl ls nL ad lc) {i : Nat} {v : Value} (hv : lc[i]? = some v) (hn : v ≠ .null) : ls[i]? = some (.val (tv ad v)) := h.2.2 i v hv hn
/-- the slot ahead holds no long -/
def jnc (lc : List Value) (i : Nat) : Prop := ∀ v : Value, lc[i - 1]? = some v → 1 ≤ i → v.category = 1
theorem jl_put1 {ls' : Array Slot} {nL : Nat} {ad : Nat → Nat} {lc : List Value} {i : Nat} {w : Value} (hn : jnc lc i) (h : lv_has ls' nL ((i, tv ad w) :: (jal ad lc).filter (fun q => !(q.1 == i) && !(q.1 + 1 == i && q.2.category == 2)))) : jl ls' nL ad (lc.set i w) := by
  refine ⟨h.1, h.2.1, fun j v hv hnn => ?_⟩
  by_cases hj : j = i
  · subst hj
    have hl := (List.getElem?_eq_some_iff.mp hv).1
    rw [List.getElem?_set_self (by simpa using hl)] at hv
    cases hv
    exact h.2.2 (j, tv ad w) List.mem_cons_self
  · rw [List.getElem?_set_ne (Ne.symm hj)] at hv
    refine h.2.2 (j, tv ad v) (List.mem_cons_of_mem _ (List.mem_filter.mpr ⟨jal_in hv hnn, ?_⟩))
    simp only [Bool.and_eq_true, Bool.not_eq_true', beq_eq_false_iff_ne, ne_eq, Bool.and_eq_false_iff]
    refine ⟨hj, ?_⟩
    by_cases h1 : j + 1 = i
    · right
      rw [tv_cat]
      have := hn v (by rw [show i - 1 = j by omega]; exact hv) (by omega)
      rw [this]
      decide
    · left; exact h1
theorem jl_put2 {ls' : Array Slot} {nL : Nat} {ad : Nat → Nat} {lc : List Value} {i : Nat} {w : Value} (hn : jnc lc i) (h : lv_has ls' nL ((i, tv ad w) :: (jal ad lc).filter (fun q => !(q.1 == i) && (!(q.1 == i + 1) && !(q.1 + 1 == i && q.2.category == 2))))) : jl ls' nL ad ((lc.set i w).set (i + 1) .null) := by
  refine ⟨h.1, h.2.1, fun j v hv hnn => ?_⟩
  by_cases hj2 : j = i + 1
  · subst hj2
    have hl := (List.getElem?_eq_some_iff.mp hv).1
    rw [List.getElem?_set_self (by simpa using hl)] at hv
    cases hv
    exact absurd rfl hnn
  rw [List.getElem?_set_ne (Ne.symm hj2)] at hv
  by_cases hj : j = i
  · subst hj
    have hl := (List.getElem?_eq_some_iff.mp hv).1
    rw [List.getElem?_set_self (by simpa using hl)] at hv
    cases hv
    exact h.2.2 (j, tv ad w) List.mem_cons_self
  · rw [List.getElem?_set_ne (Ne.symm hj)] at hv
    refine h.2.2 (j, tv ad v) (List.mem_cons_of_mem _ (List.mem_filter.mpr ⟨jal_in hv hnn, ?_⟩))
    simp only [Bool.and_eq_true, Bool.not_eq_true', beq_eq_false_iff_ne, ne_eq, Bool.and_eq_false_iff]
    refine ⟨hj, hj2, ?_⟩
    by_cases h1 : j + 1 = i
    · right
      rw [tv_cat]
      have := hn v (by rw [show i - 1 = j by omega]; exact hv) (by omega)
      rw [this]
      decide
    · left; exact h1
def jok (n : Nat) (l : List Value) : Prop := ∀ v ∈ l, jokv n v
theorem jok_cons {n : Nat} {v : Value} {l : List Value} (h : jokv n v) (hl : jok n l) : jok n (v :: l) := fun w hw => (List.mem_cons.mp hw).elim (fun e => e ▸ h) (hl w)
theorem jok_tl {n : Nat} {v : Value} {l : List Value} (h : jok n (v :: l)) : jok n l := fun w hw => h w (List.mem_cons_of_mem _ hw)
theorem jok_hd {n : Nat} {v : Value} {l : List Value} (h : jok n (v :: l)) : jokv n v := h v List.mem_cons_self
theorem jok_at {n : Nat} {l : List Value} (h : jok n l) {i : Nat} {v : Value} (hv : l[i]? = some v) : jokv n v := h v (List.mem_of_getElem? hv)
theorem jok_set {n : Nat} {l : List Value} (h : jok n l) {i : Nat} {v : Value} (hv : jokv n v) : jok n (l.set i v) := fun w hw => (List.mem_or_eq_of_mem_set hw).elim (h w) (fun e => e ▸ hv)
/-- from here the small machine comes to an end with Q -/
def J (X : jX) (M : jMt) (rm : Room) (pc : Nat) (lc st : List Value) (k n : Nat) (σ : jS) (Q : jOut → jS → Prop) : Prop :=
  ∀ (p : Program) (e : Env) (s : State) (m : MethodId) (args : Array Value) (below : List Frame) (meth : Method) (c : Code) (A : Nat → Prop) (ad0 : Nat → Nat) (σ0 : jS) (H : Heap) (locs : List Loc) (ls : Array Slot) (ad : Nat → Nat),
    jC X M rm p s m args meth c A ad0 σ0 → jH X A ad0 σ0 ad σ H → va_S A s.heap H locs → jl ls M.2.2.1 ad lc → jok σ.1 lc → jok σ.1 st →
    W p X.1 e rm s m args below meth c H locs k n (vx_MQ below (jQc X A ad0 σ0 Q) (jXC X A ad0 σ0 Q) args s rm.cells rm.slots A) (F0 m pc ls (st.map (tv ad)))
