/-! rows of the small machine over its heap -/
def jup {α : Type} (f : Nat → α) (j : Nat) (x : α) : Nat → α := fun t => if t = j then x else f t
theorem jup_eq {α : Type} (f : Nat → α) (j : Nat) (x : α) : jup f j x j = x := if_pos rfl
theorem jup_ne {α : Type} (f : Nat → α) {j t : Nat} (x : α) (h : t ≠ j) : jup f j x t = f t := if_neg h
theorem jro {X : jX} {M : jMt} {rm : Room} {p : Program} {s : State} {m : MethodId} {args : Array Value} {meth : Method} {c : Code} {A : Nat → Prop} {ad0 ad : Nat → Nat} {σ0 σ : jS} {H : Heap} (C : jC X M rm p s m args meth c A ad0 σ0) (Y : jH X A ad0 σ0 ad σ H) {i : Nat} (hi : i < 5) : ∃ (n : Nat) (f : Nat → Int), n < 2147483648 ∧ σ.2 i = jI n f ∧ va_T .int (ad i) n (fun j => .int (iI (f j))) A s s.heap := by
  obtain ⟨-, -, -, -, -, ⟨-, -, h3, -⟩, h5⟩ := C
  obtain ⟨-, -, -, hle, ha, hs⟩ := Y
  obtain ⟨n, f, h1, h2, h4⟩ := h3 i hi
  exact ⟨n, f, h1, by rw [hs i hi]; exact h2, by rw [ha i (by omega)]; exact h4⟩
theorem jown {X : jX} {M : jMt} {rm : Room} {p : Program} {s : State} {m : MethodId} {args : Array Value} {meth : Method} {c : Code} {A : Nat → Prop} {ad0 ad : Nat → Nat} {σ0 σ : jS} {H : Heap} (C : jC X M rm p s m args meth c A ad0 σ0) (Y : jH X A ad0 σ0 ad σ H) {i : Nat} {e : jE} (he : σ.2 i = e) (hn : ∀ n f, e ≠ jI n f) : 5 ≤ i := by
  by_cases h : i < 5
  · obtain ⟨n, f, -, h2, -⟩ := jro C Y h
    exact absurd (he.symm.trans h2) (hn n f)
  · omega
theorem jO_ne (ci : Nat) (fs : List Value) : ∀ n f, jO ci fs ≠ jI n f := fun n f h => by cases h
theorem jQ_ne (a b : Nat) (g : Nat → Option Nat) : ∀ n f, jQ a b g ≠ jI n f := fun n f h => by cases h
theorem jL_ne (a : Nat) (g : Nat → Int) : ∀ n f, jL a g ≠ jI n f := fun n f h => by cases h
theorem jD_ne (a : Nat) (g : Nat → UInt64) : ∀ n f, jD a g ≠ jI n f := fun n f h => by cases h
theorem jH_set {X : jX} {A : Nat → Prop} {ad0 ad : Nat → Nat} {σ0 σ : jS} {H H1 : Heap} (Y : jH X A ad0 σ0 ad σ H) (hc5 : 5 ≤ σ0.1) {i : Nat} {e : jE} (h5 : 5 ≤ i) (hi : i < σ.1) (hok : jokE σ.1 e) (hP : va_P X.2.1 vwCl ((jws X.2.2 ad σ).set (i - 5) (ad i, tE X.2.2 ad e)) H1) (hD : va_D A ((jws X.2.2 ad σ).set (i - 5) (ad i, tE X.2.2 ad e))) : jH X A ad0 σ0 ad (jset σ i e) H1 := by
  obtain ⟨-, -, hw, hle, ha, hs⟩ := Y
  rw [jws_set h5 hi] at hP hD
  exact ⟨hP, hD, jwf_set hw hok, hle, ha, fun j hj => by rw [jset_ne σ e (by omega)]; exact hs j hj⟩
theorem jext {ad ad' : Nat → Nat} {n : Nat} (h : ∀ i, i < n → ad' i = ad i) {l : List Value} (hl : jok n l) : l.map (tv ad') = l.map (tv ad) := List.map_congr_left fun v hv => tv_ext h (hl v hv)
theorem jl_ext {ls : Array Slot} {nL n : Nat} {ad ad' : Nat → Nat} {lc : List Value} (h : ∀ i, i < n → ad' i = ad i) (hl : jok n lc) (hj : jl ls nL ad lc) : jl ls nL ad' lc := ⟨hj.1, hj.2.1, fun i v hv hn => by rw [tv_ext h (jok_at hl hv)]; exact hj.2.2 i v hv hn⟩
theorem jok_mono {n n' : Nat} (h : n ≤ n') {l : List Value} (hl : jok n l) : jok n' l := fun v hv => jokv_mono h (hl v hv)
/-- a new cell -/
theorem jH_push {X : jX} {A : Nat → Prop} {ad0 ad : Nat → Nat} {σ0 σ : jS} {H H1 : Heap} (Y : jH X A ad0 σ0 ad σ H) (hc5 : 5 ≤ σ0.1) {e : jE} {q : Nat} (hok : jokE (σ.1 + 1) e) (hP : va_P X.2.1 vwCl (jws X.2.2 ad σ ++ [(q, tE X.2.2 (fun j => if j = σ.1 then q else ad j) e)]) H1) (hD : va_D A (jws X.2.2 ad σ ++ [(q, tE X.2.2 (fun j => if j = σ.1 then q else ad j) e)])) : jH X A ad0 σ0 (fun j => if j = σ.1 then q else ad j) (jpush σ e) H1 := by
  obtain ⟨-, -, hw, hle, ha, hs⟩ := Y
  have hext : ∀ i, i < σ.1 → (fun j => if j = σ.1 then q else ad j) i = ad i := fun i hi => if_neg (by omega)
  have hp := jws_push (cA := X.2.2) hw hext (by omega) e
  rw [if_pos rfl] at hp
  rw [hp] at hP hD
  exact ⟨hP, hD, jwf_push hw hok, by show σ0.1 ≤ σ.1 + 1; omega, fun i hi => by rw [← ha i hi]; exact if_neg (by omega), fun i hi => by
    rw [show (jpush σ e).2 i = σ.2 i from if_neg (by omega)]
    exact hs i hi⟩
theorem jK_un {U : State} {cl : List vw_C} {D : va_G} {cA : Nat → ClassId} {t0 : Nat} {c1 c2 : ClassId} {ty : FieldType} (hK : va_K D cl (jty cA ++ [(c2, ty)]) U) (ht : (jty cA)[t0]? = some (c1, ty)) : c2 = c1 := by
  have hl : t0 < (jty cA).length := (List.getElem?_eq_some_iff.mp ht).1
  have h1 := (hK.2 t0 (c1, ty) (by rw [List.getElem?_append_left hl]; exact ht)).2
  have h2 := (hK.2 (jty cA).length (c2, ty) (by rw [List.getElem?_append_right (Nat.le_refl _), Nat.sub_self]; rfl)).2
  cases ty with
  | object C =>
    obtain ⟨_, _, _, _, _, g1⟩ := h1
    obtain ⟨_, _, _, _, _, g2⟩ := h2
    exact Option.some.inj (g2.symm.trans g1)
  | _ => exact Option.some.inj (Eq.symm h2 |>.symm |>.symm.trans h1 |> fun h => h) 
theorem J.eq {X : jX} {M : jMt} {rm : Room} {pc : Nat} {lc lc' st st' : List Value} {k n : Nat} {σ : jS} {Q : jOut → jS → Prop} (h1 : lc = lc') (h2 : st = st') (kk : J X M rm pc lc' st' k n σ Q) : J X M rm pc lc st k n σ Q := by subst h1; subst h2; exact kk
/-- fields -/
theorem J.getf {X : jX} {M : jMt} {rm : Room} {pc : Nat} {lc st : List Value} {k n : Nat} {σ : jS} {Q : jOut → jS → Prop} {ix ci kf N i : Nat} {C9 : String} {T : u_T} {fs : List Value} {v : Value} (d : decode M.2.1 pc = .ok (.getfield ix, 3)) (he : σ.2 i = jO ci fs) (hc : vwCl[ci]? = some (C9, T, N)) (hin : ∀ w ∈ u_ws C9 T N, w ∈ jBig) (hk : kf < N) (hl : Cond.fieldLink M.1.cls ix (T kf).1 (T kf).2.1 (T kf).2.2.1 ∈ lw_tbl) (hv : fs[kf]? = some v) (kk : J X M rm (pc + 3) lc (v :: st) k n σ Q) : J X M rm pc lc (.ref i :: st) k n σ Q := by
  intro p e s m args below meth c A ad0 σ0 H locs ls ad C Y hS hl9 ol os
  obtain ⟨⟨hx, hb, hml, hr, htab⟩, ⟨hown, hlk, hnm, hlt⟩, hts, hA, hK, hN, h5⟩ := id C
  have hi : i < σ.1 := jok_hd os
  have h5i := jown C Y he (jO_ne _ _)
  have hw := jws_at (cA := X.2.2) (ad := ad) h5i hi
  rw [he] at hw
  have hokv : jokv σ.1 v := by
    have := Y.2.2.1 i hi
    rw [he] at this
    exact this v (List.mem_of_getElem? hv)
  exact va_get hx hb hts hin hown hK Y.1 (i - 5) hw hc kf hk (hts _ (jw_in hl rfl)) (fun _ h => h) (by rw [List.getElem?_map, hv]; rfl) d (kk p e s m args below meth c A ad0 σ0 H locs ls ad C Y hS hl9 ol (jok_cons hokv (jok_tl os)))
theorem J.getfN {X : jX} {M : jMt} {rm : Room} {pc : Nat} {lc st : List Value} {k n : Nat} {σ : jS} {Q : jOut → jS → Prop} {ix ci kf N i : Nat} {C9 host : String} {T : u_T} {fs : List Value} {v : Value} (d : decode M.2.1 pc = .ok (.getfield ix, 3)) (he : σ.2 i = jO ci fs) (hc : vwCl[ci]? = some (C9, T, N)) (hin : ∀ w ∈ u_ws C9 T N, w ∈ jBig) (hk : kf < N) (hl : Cond.fieldLinkNest M.1.cls ix (T kf).1 (T kf).2.1 (T kf).2.2.1 host ∈ lw_tbl) (hv : fs[kf]? = some v) (kk : J X M rm (pc + 3) lc (v :: st) k n σ Q) : J X M rm pc lc (.ref i :: st) k n σ Q := by
  intro p e s m args below meth c A ad0 σ0 H locs ls ad C Y hS hl9 ol os
  obtain ⟨⟨hx, hb, hml, hr, htab⟩, ⟨hown, hlk, hnm, hlt⟩, hts, hA, hK, hN, h5⟩ := id C
  have hi : i < σ.1 := jok_hd os
  have h5i := jown C Y he (jO_ne _ _)
  have hw := jws_at (cA := X.2.2) (ad := ad) h5i hi
  rw [he] at hw
  have hokv : jokv σ.1 v := by
    have := Y.2.2.1 i hi
    rw [he] at this
    exact this v (List.mem_of_getElem? hv)
  exact va_getN hx hb hts hin hown hK Y.1 (i - 5) hw hc kf hk ((hN.1 _ hl rfl).use rfl) (fun _ h => h) (by rw [List.getElem?_map, hv]; rfl) d (kk p e s m args below meth c A ad0 σ0 H locs ls ad C Y hS hl9 ol (jok_cons hokv (jok_tl os)))
theorem jfit {ad : Nat → Nat} {v : Value} {ty : FieldType} (h : (∃ x, v = .int x ∧ ty = .int) ∨ (∃ k, v = .ref k ∧ ty.isReference = true)) : narrow ty (tv ad v) = tv ad v ∧ fits ty (tv ad v) = true := by
  rcases h with ⟨x, rfl, rfl⟩ | ⟨k, rfl, h⟩
  · exact ⟨rfl, rfl⟩
  · cases ty <;> first | exact ⟨rfl, rfl⟩ | exact absurd h (by decide)
theorem J.putf {X : jX} {M : jMt} {rm : Room} {pc : Nat} {lc st : List Value} {k n : Nat} {σ : jS} {Q : jOut → jS → Prop} {ix ci kf N i : Nat} {C9 : String} {T : u_T} {fs : List Value} {v : Value} {ty : FieldType} (ty0 : Nat → FieldType) (hty : ∀ k, k < N → parseFieldDescriptor (T k).2.2.1 = some (ty0 k)) (hnm : ∀ a, a < N → ∀ b, b < N → a ≠ b → (T a).2.1 ≠ (T b).2.1) (d : decode M.2.1 pc = .ok (.putfield ix, 3)) (he : σ.2 i = jO ci fs) (hc : vwCl[ci]? = some (C9, T, N)) (hin : ∀ w ∈ u_ws C9 T N, w ∈ jBig) (hk : kf < N) (hl : Cond.fieldLink M.1.cls ix (T kf).1 (T kf).2.1 (T kf).2.2.1 ∈ lw_tbl) (hfin : (T kf).2.2.2 = false) (htyk : ty0 kf = ty) (hv : (∃ x, v = .int x ∧ ty = .int) ∨ (∃ k, v = .ref k ∧ ty.isReference = true)) (hlen : kf < fs.length) (kk : J X M rm (pc + 3) lc st k n (jset σ i (jO ci (fs.set kf v))) Q) : J X M rm pc lc (v :: .ref i :: st) k n σ Q := by
  intro p e s m args below meth c A ad0 σ0 H locs ls ad C Y hS hl9 ol os
  obtain ⟨⟨hx, hb, hml, hr, htab⟩, ⟨hown, hlk, hnm9, hlt⟩, hts, hA, hK, hN, h5⟩ := id C
  have hi : i < σ.1 := jok_hd (jok_tl os)
  have h5i := jown C Y he (jO_ne _ _)
  have hw := jws_at (cA := X.2.2) (ad := ad) h5i hi
  rw [he] at hw
  have hd := hty kf hk
  rw [htyk] at hd
  have hokE : jokE σ.1 (jO ci (fs.set kf v)) := by
    have := Y.2.2.1 i hi
    rw [he] at this
    exact fun w hw => (List.mem_or_eq_of_mem_set hw).elim (this w) (fun e => e ▸ jok_hd os)
  refine va_put hx hb hts hin ty0 hty hnm hown hK Y.1 Y.2.1 hS (i - 5) hw hc kf hk (hts _ (jw_in hl rfl)) (fun _ h => h) hfin hd (jfit hv).1 (jfit hv).2 (by rw [List.length_map]; exact hlen) d (fun H1 locs1 hP hD hS1 => ?_)
  rw [← List.map_set] at hP hD
  exact kk p e s m args below meth c A ad0 σ0 H1 locs1 ls ad C (jH_set Y h5 h5i hi hokE hP hD) hS1 hl9 ol (jok_tl (jok_tl os))
theorem J.putfN {X : jX} {M : jMt} {rm : Room} {pc : Nat} {lc st : List Value} {k n : Nat} {σ : jS} {Q : jOut → jS → Prop} {ix ci kf N i : Nat} {C9 host : String} {T : u_T} {fs : List Value} {v : Value} {ty : FieldType} (ty0 : Nat → FieldType) (hty : ∀ k, k < N → parseFieldDescriptor (T k).2.2.1 = some (ty0 k)) (hnm : ∀ a, a < N → ∀ b, b < N → a ≠ b → (T a).2.1 ≠ (T b).2.1) (d : decode M.2.1 pc = .ok (.putfield ix, 3)) (he : σ.2 i = jO ci fs) (hc : vwCl[ci]? = some (C9, T, N)) (hin : ∀ w ∈ u_ws C9 T N, w ∈ jBig) (hk : kf < N) (hl : Cond.fieldLinkNest M.1.cls ix (T kf).1 (T kf).2.1 (T kf).2.2.1 host ∈ lw_tbl) (hfin : (T kf).2.2.2 = false) (htyk : ty0 kf = ty) (hv : (∃ x, v = .int x ∧ ty = .int) ∨ (∃ k, v = .ref k ∧ ty.isReference = true)) (hlen : kf < fs.length) (kk : J X M rm (pc + 3) lc st k n (jset σ i (jO ci (fs.set kf v))) Q) : J X M rm pc lc (v :: .ref i :: st) k n σ Q := by
  intro p e s m args below meth c A ad0 σ0 H locs ls ad C Y hS hl9 ol os
  obtain ⟨⟨hx, hb, hml, hr, htab⟩, ⟨hown, hlk, hnm9, hlt⟩, hts, hA, hK, hN, h5⟩ := id C
  have hi : i < σ.1 := jok_hd (jok_tl os)
  have h5i := jown C Y he (jO_ne _ _)
  have hw := jws_at (cA := X.2.2) (ad := ad) h5i hi
  rw [he] at hw
  have hd := hty kf hk
  rw [htyk] at hd
  have hokE : jokE σ.1 (jO ci (fs.set kf v)) := by
    have := Y.2.2.1 i hi
    rw [he] at this
    exact fun w hw => (List.mem_or_eq_of_mem_set hw).elim (this w) (fun e => e ▸ jok_hd os)
  refine va_putN hx hb hts hin ty0 hty hnm hown hK Y.1 Y.2.1 hS (i - 5) hw hc kf hk ((hN.1 _ hl rfl).use rfl) (fun _ h => h) hfin hd (jfit hv).1 (jfit hv).2 (by rw [List.length_map]; exact hlen) d (fun H1 locs1 hP hD hS1 => ?_)
  rw [← List.map_set] at hP hD
  exact kk p e s m args below meth c A ad0 σ0 H1 locs1 ls ad C (jH_set Y h5 h5i hi hokE hP hD) hS1 hl9 ol (jok_tl (jok_tl os))
theorem J.putfF {X : jX} {M : jMt} {rm : Room} {pc : Nat} {lc st : List Value} {k n : Nat} {σ : jS} {Q : jOut → jS → Prop} {ix ci kf N i : Nat} {C9 : String} {T : u_T} {fs : List Value} {v : Value} {ty : FieldType} (ty0 : Nat → FieldType) (hty : ∀ k, k < N → parseFieldDescriptor (T k).2.2.1 = some (ty0 k)) (hnm : ∀ a, a < N → ∀ b, b < N → a ≠ b → (T a).2.1 ≠ (T b).2.1) (d : decode M.2.1 pc = .ok (.putfield ix, 3)) (he : σ.2 i = jO ci fs) (hc : vwCl[ci]? = some (C9, T, N)) (hin : ∀ w ∈ u_ws C9 T N, w ∈ jBig) (hk : kf < N) (hl : Cond.fieldLink M.1.cls ix (T kf).1 (T kf).2.1 (T kf).2.2.1 ∈ lw_tbl) (hfin : (T kf).2.2.2 = true) (hM : M.1.name = "<init>") (hdecl : (T kf).1 = M.1.cls) (htyk : ty0 kf = ty) (hv : (∃ x, v = .int x ∧ ty = .int) ∨ (∃ k, v = .ref k ∧ ty.isReference = true)) (hlen : kf < fs.length) (kk : J X M rm (pc + 3) lc st k n (jset σ i (jO ci (fs.set kf v))) Q) : J X M rm pc lc (v :: .ref i :: st) k n σ Q := by
  intro p e s m args below meth c A ad0 σ0 H locs ls ad C Y hS hl9 ol os
  obtain ⟨⟨hx, hb, hml, hr, htab⟩, ⟨hown, hlk, hnm9, hlt⟩, hts, hA, hK, hN, h5⟩ := id C
  have hi : i < σ.1 := jok_hd (jok_tl os)
  have h5i := jown C Y he (jO_ne _ _)
  have hw := jws_at (cA := X.2.2) (ad := ad) h5i hi
  rw [he] at hw
  have hd := hty kf hk
  rw [htyk] at hd
  have hokE : jokE σ.1 (jO ci (fs.set kf v)) := by
    have := Y.2.2.1 i hi
    rw [he] at this
    exact fun w hw => (List.mem_or_eq_of_mem_set hw).elim (this w) (fun e => e ▸ jok_hd os)
  refine va_putF hx hb hts hin ty0 hty hnm hown hK Y.1 Y.2.1 hS (i - 5) hw hc kf hk (hts _ (jw_in hl rfl)) (fun _ h => h) hfin (hnm9.trans hM) hdecl hd (jfit hv).1 (jfit hv).2 (by rw [List.length_map]; exact hlen) d (fun H1 locs1 hP hD hS1 => ?_)
  rw [← List.map_set] at hP hD
  exact kk p e s m args below meth c A ad0 σ0 H1 locs1 ls ad C (jH_set Y h5 h5i hi hokE hP hD) hS1 hl9 ol (jok_tl (jok_tl os))
