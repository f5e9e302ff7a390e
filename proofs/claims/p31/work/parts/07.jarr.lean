/-! rows of the small machine: arrays, new cells -/
theorem iI_nat {j : Nat} (h : j < 2147483648) : inI (j : Int) := by unfold inI; omega
theorem iI_natcl {j : Nat} (h : j < 2147483648) : (iI (j : Int)).toNatClampNeg = j := by rw [iI_clamp (iI_nat h)]; rfl
theorem iI_nat_in {j N : Nat} (h : j < N) (hN : N < 2147483648) : vp_in (iI (j : Int)) N := iI_in (iI_nat (by omega)) (by omega) (by omega)
theorem J.iald {X : jX} {M : jMt} {rm : Room} {pc : Nat} {lc st : List Value} {k n : Nat} {σ : jS} {Q : jOut → jS → Prop} {i N : Nat} {f : Nat → Int} {a : Int} (j : Nat) (d : decode M.2.1 pc = .ok (.iaload, 1)) (he : σ.2 i = jI N f) (ha : a = (j : Int)) (hj : j < N) (hN : N < 2147483648) (kk : J X M rm (pc + 1) lc (vI (f j) :: st) k n σ Q) : J X M rm pc lc (vI a :: .ref i :: st) k n σ Q := by
  intro p e s m args below meth c A ad0 σ0 H locs ls ad C Y hS hl9 ol os
  obtain ⟨⟨hx, hb, hml, hr, htab⟩, ⟨hown, hlk, hnm, hlt⟩, hts, hA, hK, hN9, h5⟩ := id C
  subst ha
  have hi : i < σ.1 := jok_hd (jok_tl os)
  have hkk := kk p e s m args below meth c A ad0 σ0 H locs ls ad C Y hS hl9 ol (jok_cons trivial (jok_tl (jok_tl os)))
  have hin := iI_nat_in hj hN
  by_cases h : i < 5
  · obtain ⟨n9, f9, h1, h2, h3⟩ := jro C Y h
    rw [he] at h2
    cases h2
    exact va_ti hx hb h3 hS hin (v := vI (f j)) (by rw [iI_natcl (by omega)]) d hkk
  · have hw := jws_at (cA := X.2.2) (ad := ad) (show 5 ≤ i by omega) hi
    rw [he] at hw
    refine va_iald hx hb hK Y.1 (i - 5) 0 (f := fun t => iI (f t)) hw rfl hin d ?_
    rw [iI_natcl (by omega)]
    exact hkk
theorem J.iast {X : jX} {M : jMt} {rm : Room} {pc : Nat} {lc st : List Value} {k n : Nat} {σ : jS} {Q : jOut → jS → Prop} {i N : Nat} {f : Nat → Int} {a x : Int} (j : Nat) (d : decode M.2.1 pc = .ok (.iastore, 1)) (he : σ.2 i = jI N f) (h5i : 5 ≤ i) (ha : a = (j : Int)) (hj : j < N) (hN : N < 2147483648) (kk : J X M rm (pc + 1) lc st k n (jset σ i (jI N (jup f j x))) Q) : J X M rm pc lc (vI x :: vI a :: .ref i :: st) k n σ Q := by
  intro p e s m args below meth c A ad0 σ0 H locs ls ad C Y hS hl9 ol os
  obtain ⟨⟨hx, hb, hml, hr, htab⟩, ⟨hown, hlk, hnm, hlt⟩, hts, hA, hK, hN9, h5⟩ := id C
  subst ha
  have hi : i < σ.1 := jok_hd (jok_tl (jok_tl os))
  have hw := jws_at (cA := X.2.2) (ad := ad) h5i hi
  rw [he] at hw
  refine va_iast hx hb hK Y.1 Y.2.1 hS (i - 5) 0 (f := fun t => iI (f t)) hw rfl (iI_nat_in hj hN) d (fun H1 locs1 hP hD hS1 => ?_)
  have hf : upd (fun t => iI (f t)) (iI (j : Int)).toNatClampNeg (iI x) = fun t => iI (jup f j x t) := by
    rw [iI_natcl (by omega)]
    funext t
    unfold upd jup
    by_cases h : t = j
    · rw [if_pos h, if_pos h]
    · rw [if_neg h, if_neg h]
  rw [hf] at hP hD
  exact kk p e s m args below meth c A ad0 σ0 H1 locs1 ls ad C (jH_set (e := jI N (jup f j x)) Y h5 h5i hi trivial hP hD) hS1 hl9 ol (jok_tl (jok_tl (jok_tl os)))
theorem J.alen {X : jX} {M : jMt} {rm : Room} {pc : Nat} {lc st : List Value} {k n : Nat} {σ : jS} {Q : jOut → jS → Prop} {i N : Nat} {f : Nat → Int} (d : decode M.2.1 pc = .ok (.arraylength, 1)) (he : σ.2 i = jI N f) (kk : J X M rm (pc + 1) lc (vI (N : Int) :: st) k n σ Q) : J X M rm pc lc (.ref i :: st) k n σ Q := by
  intro p e s m args below meth c A ad0 σ0 H locs ls ad C Y hS hl9 ol os
  obtain ⟨⟨hx, hb, hml, hr, htab⟩, ⟨hown, hlk, hnm, hlt⟩, hts, hA, hK, hN9, h5⟩ := id C
  have hi : i < σ.1 := jok_hd os
  have hkk := kk p e s m args below meth c A ad0 σ0 H locs ls ad C Y hS hl9 ol (jok_cons trivial (jok_tl os))
  by_cases h : i < 5
  · obtain ⟨n9, f9, h1, h2, h3⟩ := jro C Y h
    rw [he] at h2
    cases h2
    exact va_tlen hx hb h3 hS (v := iI (N : Int)) (Int32.ofInt_eq_ofNat).symm d hkk
  · have hw := jws_at (cA := X.2.2) (ad := ad) (show 5 ≤ i by omega) hi
    rw [he] at hw
    exact va_alen hx hb hK Y.1 (i - 5) 0 hw rfl (v := iI (N : Int)) (Int32.ofInt_eq_ofNat).symm d hkk
theorem J.aaldB {X : jX} {M : jMt} {rm : Room} {pc : Nat} {lc st : List Value} {k n : Nat} {σ : jS} {Q : jOut → jS → Prop} {i N q : Nat} {g : Nat → Option Nat} {a : Int} (j : Nat) (d : decode M.2.1 pc = .ok (.aaload, 1)) (he : σ.2 i = jQ 0 N g) (ha : a = (j : Int)) (hj : j < N) (hN : N < 2147483648) (hg : g j = some q) (kk : J X M rm (pc + 1) lc (.ref q :: st) k n σ Q) : J X M rm pc lc (vI a :: .ref i :: st) k n σ Q := by
  intro p e s m args below meth c A ad0 σ0 H locs ls ad C Y hS hl9 ol os
  obtain ⟨⟨hx, hb, hml, hr, htab⟩, ⟨hown, hlk, hnm, hlt⟩, hts, hA, hK, hN9, h5⟩ := id C
  subst ha
  have hi : i < σ.1 := jok_hd (jok_tl os)
  have hok : jokv σ.1 (.ref q) := by
    have := Y.2.2.1 i hi
    rw [he] at this
    exact this j q hg
  have hkk := kk p e s m args below meth c A ad0 σ0 H locs ls ad C Y hS hl9 ol (jok_cons hok (jok_tl (jok_tl os)))
  have hin := iI_nat_in hj hN
  have hw := jws_at (cA := X.2.2) (ad := ad) (jown C Y he (jQ_ne _ _ _)) hi
  rw [he] at hw
  refine va_aldq hx hb hK Y.1 (i - 5) 1 (f := fun t => (g t).map ad) hw rfl hin d ?_
  rw [iI_natcl (by omega), hg]
  exact hkk
theorem J.aaldI {X : jX} {M : jMt} {rm : Room} {pc : Nat} {lc st : List Value} {k n : Nat} {σ : jS} {Q : jOut → jS → Prop} {i N q : Nat} {g : Nat → Option Nat} {a : Int} (j : Nat) (d : decode M.2.1 pc = .ok (.aaload, 1)) (he : σ.2 i = jQ 1 N g) (ha : a = (j : Int)) (hj : j < N) (hN : N < 2147483648) (hg : g j = some q) (kk : J X M rm (pc + 1) lc (.ref q :: st) k n σ Q) : J X M rm pc lc (vI a :: .ref i :: st) k n σ Q := by
  intro p e s m args below meth c A ad0 σ0 H locs ls ad C Y hS hl9 ol os
  obtain ⟨⟨hx, hb, hml, hr, htab⟩, ⟨hown, hlk, hnm, hlt⟩, hts, hA, hK, hN9, h5⟩ := id C
  subst ha
  have hi : i < σ.1 := jok_hd (jok_tl os)
  have hok : jokv σ.1 (.ref q) := by
    have := Y.2.2.1 i hi
    rw [he] at this
    exact this j q hg
  have hkk := kk p e s m args below meth c A ad0 σ0 H locs ls ad C Y hS hl9 ol (jok_cons hok (jok_tl (jok_tl os)))
  have hin := iI_nat_in hj hN
  have hw := jws_at (cA := X.2.2) (ad := ad) (jown C Y he (jQ_ne _ _ _)) hi
  rw [he] at hw
  have hcell := Y.1 (i - 5) _ hw
  refine W.aald (v := va_rf ((g j).map ad)) (ty := .array .int) hx hb hcell ((hK.2 2 (X.2.2 4, .array .int) rfl).1 N (fun t => va_rf ((g t).map ad))) rfl (fun q => by cases q) (by show ¬ (_ ∨ (arrV _ _ _).slots.size ≤ _); rw [arrV_size]; exact hin) (by rw [iI_natcl (by omega)]; show (arrV _ _ _).slots[_]? = _; rw [arrV_read _ _ hj]) rfl rfl d ?_
  rw [hg]
  exact hkk
theorem J.aastB {X : jX} {M : jMt} {rm : Room} {pc : Nat} {lc st : List Value} {k n : Nat} {σ : jS} {Q : jOut → jS → Prop} {i N q : Nat} {g : Nat → Option Nat} {a : Int} {vs : List Value} (j : Nat) (d : decode M.2.1 pc = .ok (.aastore, 1)) (he : σ.2 i = jQ 0 N g) (hq : σ.2 q = jO 0 vs) (ha : a = (j : Int)) (hj : j < N) (hN : N < 2147483648) (kk : J X M rm (pc + 1) lc st k n (jset σ i (jQ 0 N (jup g j (some q)))) Q) : J X M rm pc lc (.ref q :: vI a :: .ref i :: st) k n σ Q := by
  intro p e s m args below meth c A ad0 σ0 H locs ls ad C Y hS hl9 ol os
  obtain ⟨⟨hx, hb, hml, hr, htab⟩, ⟨hown, hlk, hnm, hlt⟩, hts, hA, hK, hN9, h5⟩ := id C
  subst ha
  have hi : i < σ.1 := jok_hd (jok_tl (jok_tl os))
  have hqi : q < σ.1 := jok_hd os
  have h5i := jown C Y he (jQ_ne _ _ _)
  have hw := jws_at (cA := X.2.2) (ad := ad) h5i hi
  rw [he] at hw
  have hw2 := jws_at (cA := X.2.2) (ad := ad) (jown C Y hq (jO_ne _ _)) hqi
  rw [hq] at hw2
  have hokE : jokE σ.1 (jQ 0 N (jup g j (some q))) := by
    have := Y.2.2.1 i hi
    rw [he] at this
    intro t u htu
    have htu : jup g j (some q) t = some u := htu
    by_cases h : t = j
    · subst h
      rw [jup_eq] at htu
      cases htu
      exact hqi
    · rw [jup_ne _ _ h] at htu
      exact this t u htu
  refine va_astq hx hb hK Y.1 Y.2.1 hS (i - 5) 1 (q - 5) 0 (r := (RX0, TX0, 4)) (f := fun t => (g t).map ad) hw rfl hw2 rfl (iI_nat_in hj hN) d (fun H1 locs1 hP hD hS1 => ?_)
  have hf : va_up (fun t => (g t).map ad) (iI (j : Int)).toNatClampNeg (some (ad q)) = fun t => (jup g j (some q) t).map ad := by
    rw [iI_natcl (by omega)]
    funext t
    unfold va_up jup
    by_cases h : t = j
    · rw [if_pos h, if_pos h]; rfl
    · rw [if_neg h, if_neg h]
  rw [hf] at hP hD
  exact kk p e s m args below meth c A ad0 σ0 H1 locs1 ls ad C (jH_set (e := jQ 0 N (jup g j (some q))) Y h5 h5i hi hokE hP hD) hS1 hl9 ol (jok_tl (jok_tl (jok_tl os)))
theorem J.newI {X : jX} {M : jMt} {rm : Room} {pc : Nat} {lc st : List Value} {k n : Nat} {σ : jS} {Q : jOut → jS → Prop} {a : Int} (N : Nat) (d : decode M.2.1 pc = .ok (.newarray .int, 2)) (ha : a = (N : Int)) (hN : N ≤ 100000) (hc : k + 1 ≤ rm.cells) (hs : n + N ≤ rm.slots) (hw : Cond.arrayClass .int ∈ lw_tbl) (kk : J X M rm (pc + 2) lc (.ref σ.1 :: st) (k + 1) (n + N) (jpush σ (jI N (fun _ => 0))) Q) : J X M rm pc lc (vI a :: st) k n σ Q := by
  intro p e s m args below meth c A ad0 σ0 H locs ls ad C Y hS hl9 ol os
  obtain ⟨⟨hx, hb, hml, hr, htab⟩, ⟨hown, hlk, hnm, hlt⟩, hts, hA, hK, hN9, h5⟩ := id C
  subst ha
  refine va_newa (atype := .int) hx hb (hts _ (jw_in hw rfl)) rfl hK Y.1 Y.2.1 hS hA (a0 := (N, .inl (fun _ => 0))) (fun _ => rfl) (N' := N) (by rw [← iI_0, iI_lt (iI_nat (by omega)) inI_0]; omega) (iI_natcl (by omega)) (by show N * 4 ≤ 536870912; omega) hc hs d (fun q cA9 H1 hK9 hP hD hS1 => ?_)
  have hcc : cA9 = X.2.2 0 := jK_un (t0 := 0) hK9 rfl
  subst hcc
  have hext : ∀ i, i < σ.1 → (fun j => if j = σ.1 then q else ad j) i = ad i := fun i hi => if_neg (by omega)
  have hkk := kk p e s m args below meth c A ad0 σ0 H1 locs ls (fun j => if j = σ.1 then q else ad j) C (jH_push (e := jI N (fun _ => 0)) (q := q) Y h5 trivial hP hD) hS1 (jl_ext hext ol hl9) (jok_mono (Nat.le_succ _) ol) (jok_cons (Nat.lt_succ_self _) (jok_mono (Nat.le_succ _) (jok_tl os)))
  rw [List.map_cons, jext hext (jok_tl os), show tv (fun j => if j = σ.1 then q else ad j) (.ref σ.1) = .ref q from congrArg Value.ref (if_pos rfl)] at hkk
  exact hkk
theorem J.newB {X : jX} {M : jMt} {rm : Room} {pc : Nat} {lc st : List Value} {k n : Nat} {σ : jS} {Q : jOut → jS → Prop} {a : Int} {ix : Nat} (N : Nat) (d : decode M.2.1 pc = .ok (.anewarray ix, 3)) (ha : a = (N : Int)) (hN : N ≤ 100000) (hc : k + 1 ≤ rm.cells) (hs : n + N ≤ rm.slots) (hw : Cond.classLink M.1.cls ix "WireBook$Book" ∈ lw_tbl) (kk : J X M rm (pc + 3) lc (.ref σ.1 :: st) (k + 1) (n + N) (jpush σ (jQ 0 N (fun _ => none))) Q) : J X M rm pc lc (vI a :: st) k n σ Q := by
  intro p e s m args below meth c A ad0 σ0 H locs ls ad C Y hS hl9 ol os
  obtain ⟨⟨hx, hb, hml, hr, htab⟩, ⟨hown, hlk, hnm, hlt⟩, hts, hA, hK, hN9, h5⟩ := id C
  subst ha
  refine va_newq (C := "WireBook$Book") hx hb hown (hts _ (jw_in hw rfl)) hN9.2.2.2.2.2.1 hK Y.1 Y.2.1 hS hA (N' := N) (by rw [← iI_0, iI_lt (iI_nat (by omega)) inI_0]; omega) (iI_natcl (by omega)) (by show N * 4 ≤ 536870912; omega) hc hs d (fun q cA9 H1 hK9 hP hD hS1 => ?_)
  have hcc : cA9 = X.2.2 3 := jK_un (t0 := 1) hK9 rfl
  subst hcc
  have hext : ∀ i, i < σ.1 → (fun j => if j = σ.1 then q else ad j) i = ad i := fun i hi => if_neg (by omega)
  have hokE : jokE (σ.1 + 1) (jQ 0 N (fun _ => none)) := fun j k h => by cases h
  have hkk := kk p e s m args below meth c A ad0 σ0 H1 locs ls (fun j => if j = σ.1 then q else ad j) C (jH_push (e := jQ 0 N (fun _ => none)) (q := q) Y h5 hokE hP hD) hS1 (jl_ext hext ol hl9) (jok_mono (Nat.le_succ _) ol) (jok_cons (Nat.lt_succ_self _) (jok_mono (Nat.le_succ _) (jok_tl os)))
  rw [List.map_cons, jext hext (jok_tl os), show tv (fun j => if j = σ.1 then q else ad j) (.ref σ.1) = .ref q from congrArg Value.ref (if_pos rfl)] at hkk
  exact hkk
theorem J.newO {X : jX} {M : jMt} {rm : Room} {pc : Nat} {lc st : List Value} {k n : Nat} {σ : jS} {Q : jOut → jS → Prop} {ix ci N : Nat} {C9 : String} {T : u_T} (ty : Nat → FieldType) (hty : ∀ k, k < N → parseFieldDescriptor (T k).2.2.1 = some (ty k)) (d : decode M.2.1 pc = .ok (.new ix, 3)) (hcl : vwCl[ci]? = some (C9, T, N)) (hin : ∀ w ∈ u_ws C9 T N, w ∈ jBig) {fs : List Value} (hfs : ∀ j, j < N → defaultValue (ty j) = vp_V fs j) (hfl : ∀ v ∈ fs, v = .null ∨ ∃ x, v = .int x) (h1 : Cond.classLink M.1.cls ix C9 ∈ lw_tbl) (h2 : Cond.instantiable C9 N ∈ lw_tbl) (h3 : Cond.initialized C9 ∈ lw_tbl) (hc : k + 1 ≤ rm.cells) (hs : n + N ≤ rm.slots) (kk : J X M rm (pc + 3) lc (.ref σ.1 :: st) (k + 1) (n + N) (jpush σ (jO ci fs)) Q) : J X M rm pc lc st k n σ Q := by
  intro p e s m args below meth c A ad0 σ0 H locs ls ad C Y hS hl9 ol os
  obtain ⟨⟨hx, hb, hml, hr, htab⟩, ⟨hown, hlk, hnm, hlt⟩, hts, hA, hK, hN9, h5⟩ := id C
  refine va_new hx hb hts hin ty hty hown (hts _ (jw_in h1 rfl)) (hts _ (jw_in h2 rfl)) (hts _ (jw_in h3 rfl)) hK Y.1 Y.2.1 hS hA hcl hfs hc hs d (fun q H1 hP hD hS1 => ?_)
  have hext : ∀ i, i < σ.1 → (fun j => if j = σ.1 then q else ad j) i = ad i := fun i hi => if_neg (by omega)
  have hokE : jokE (σ.1 + 1) (jO ci fs) := fun v hv => by
    rcases hfl v hv with rfl | ⟨x, rfl⟩ <;> trivial
  have hmap : fs.map (tv (fun j => if j = σ.1 then q else ad j)) = fs := by
    rw [List.map_congr_left (g := id) (fun v hv => by rcases hfl v hv with rfl | ⟨x, rfl⟩ <;> rfl), List.map_id]
  have hE : tE X.2.2 (fun j => if j = σ.1 then q else ad j) (jO ci fs) = .inr (ci, fs) := by
    show Sum.inr (ci, fs.map _) = _
    rw [hmap]
  rw [← hE] at hP hD
  have hkk := kk p e s m args below meth c A ad0 σ0 H1 locs ls (fun j => if j = σ.1 then q else ad j) C (jH_push (q := q) Y h5 hokE hP hD) hS1 (jl_ext hext ol hl9) (jok_mono (Nat.le_succ _) ol) (jok_cons (Nat.lt_succ_self _) (jok_mono (Nat.le_succ _) os))
  rw [List.map_cons, jext hext os, show tv (fun j => if j = σ.1 then q else ad j) (.ref σ.1) = .ref q from congrArg Value.ref (if_pos rfl)] at hkk
  exact hkk
theorem J.objInit {X : jX} {M : jMt} {rm : Room} {pc : Nat} {lc st : List Value} {k n : Nat} {σ : jS} {Q : jOut → jS → Prop} {ix i : Nat} (d : decode M.2.1 pc = .ok (.invokespecial ix, 3)) (h1 : Cond.methodLink M.1.cls ix objectInit ∈ lw_tbl) (h2 : Cond.instanceMethod objectInit ∈ lw_tbl) (h3 : Cond.code objectInit ⟨#[0xb1]⟩ 1 none ∈ lw_tbl) (hst : st = []) (hf : 1 ≤ rm.frames) (hlo : 12 ≤ rm.locals) (kk : J X M rm (pc + 3) lc st k n σ Q) : J X M rm pc lc (.ref i :: st) k n σ Q := by
  intro p e s m args below meth c A ad0 σ0 H locs ls ad C Y hS hl9 ol os
  obtain ⟨⟨hx, hb, hml, hr, htab⟩, ⟨hown, hlk, hnm, hlt⟩, hts, hA, hK, hN9, h5⟩ := id C
  subst hst
  exact W.objInit hx hb hown (hts _ (jw_in h1 rfl)) (hts _ (jw_in h2 rfl)) (hts _ (jw_in h3 rfl)) rfl (by rw [hml]; exact hl9.1) rfl d hf hlo (kk p e s m args below meth c A ad0 σ0 H locs ls ad C Y hS hl9 ol (jok_tl os))
