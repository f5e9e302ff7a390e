/-! rows of the small machine: throws, static rows, members of the JDK, rows of rows, handlers -/
abbrev jNM : List String := ["java/lang/RuntimeException", "java/lang/Exception"]
theorem jw_use {A : Nat → Prop} {ad : Nat → Nat} {σ : jS} {s : State} {args : Array Value} {H : Heap} (hts : ∀ w ∈ jBig, w.before args s = true) (hN : jN A ad σ s H) {w : Cond} (hw : w ∈ lw_tbl) (hg : goodWord w = true ∨ (jNestW w = true ∧ w.onTables = true)) : w.before args s = true := by
  rcases hg with hg | ⟨hg, ho⟩
  · exact hts w (jw_in hw hg)
  · exact (hN.1 w hw hg).use ho
theorem J.throwS {X : jX} {M : jMt} {rm : Room} {pc : Nat} {lc st : List Value} {k n : Nat} {σ : jS} {Q : jOut → jS → Prop} {ik is ic : Nat} {cls text : String}
    (d0 : decode M.2.1 pc = .ok (.new ik, 3)) (d3 : decode M.2.1 (pc + 3) = .ok (.dup, 1)) (d4 : decode M.2.1 (pc + 4) = .ok (.ldc is, 2)) (d6 : decode M.2.1 (pc + 6) = .ok (.invokespecial ic, 3)) (d9 : decode M.2.1 (pc + 9) = .ok (.athrow, 1))
    (hcls : Bundle.fit cls = true) (hk : Cond.classLink M.1.cls ik cls ∈ lw_tbl) (hi : Cond.initialized cls ∈ lw_tbl) (hst : (M.1.cls, is, text) ∈ jStr) (hat : ∀ w ∈ vx_atS M.1.cls ic cls jNM, w ∈ lw_tbl ∧ (goodWord w = true ∨ (jNestW w = true ∧ w.onTables = true)))
    (hgood : ∀ w ∈ Cond.classLink M.1.cls ik cls :: Cond.initialized cls :: vx_atS M.1.cls ic cls jNM, vx_ot w = true) (hh : M.2.2.2.2 = []) (hf : 6 ≤ rm.frames) (hlo : jcat st + 82 ≤ rm.locals) (hc : k + 1 ≤ rm.cells) (hs : n + 6 ≤ rm.slots) (hq : Q (.inr cls) σ) : J X M rm pc lc st k n σ Q := by
  intro p e s m args below meth c A ad0 σ0 H locs ls ad C Y hS hl ol os
  obtain ⟨⟨hx, hb, hml, hr, htab⟩, ⟨hown, hlk, hnm, hlt⟩, hts, hA, hK, hN, h5⟩ := id C
  obtain ⟨sa, hsa⟩ := hN.2.2.2.2.1 _ hst
  refine vx_throwS hx hb hlt (names := jNM) (A := A) hown hcls (by decide +kernel) (hts _ (jw_in hk rfl)) (hts _ (jw_in hi rfl)) hsa (fun w hw => jw_use hts hN (hat w hw).1 (hat w hw).2) hgood hN.2.2.2.1.1 hN.2.2.2.1.2 hS (hl.1.trans hml.symm) d0 d3 d4 d6 d9 (fun x hx9 => by rw [htab, hh] at hx9; cases hx9) (by show 2 + 3 < rm.frames; omega) (by show _ + (13 * 3 + 43) ≤ _; rw [jcat_tv]; exact hlo) hc hs hlk (fun t _ hz hq9 => ?_) hS.2.2 hc hs
  refine ⟨⟨ad, σ, hq, ?_⟩, Nat.le_trans hS.1 hz, fun q h1 h2 => by rw [hq9 q (Nat.lt_of_lt_of_le h1 hS.1)]; exact hS.2.1 q h1 h2⟩
  obtain ⟨hP, hD, hrest⟩ := Y
  exact ⟨hP.kept (fun k9 x hx9 => hq9 x.1 (hP k9 x hx9).lt), hD, hrest⟩
theorem hat_iae : ∀ w ∈ vx_atS RX6 56 "java/lang/IllegalArgumentException" jNM, w ∈ lw_tbl ∧ (goodWord w = true ∨ (jNestW w = true ∧ w.onTables = true)) := by decide +kernel
theorem hat_ise : ∀ w ∈ vx_atS RX6 66 "java/lang/IllegalStateException" jNM, w ∈ lw_tbl ∧ (goodWord w = true ∨ (jNestW w = true ∧ w.onTables = true)) := by decide +kernel
theorem hat_iob : ∀ w ∈ vx_atS RX6 78 "java/lang/IndexOutOfBoundsException" jNM, w ∈ lw_tbl ∧ (goodWord w = true ∨ (jNestW w = true ∧ w.onTables = true)) := by decide +kernel
/-- throws of WireBook's own methods -/
theorem J.throwIae {X : jX} {M : jMt} {rm : Room} {pc : Nat} {lc st : List Value} {k n : Nat} {σ : jS} {Q : jOut → jS → Prop} {is : Nat} {text : String} (hM : M.1.cls = RX6)
    (d0 : decode M.2.1 pc = .ok (.new 52, 3)) (d3 : decode M.2.1 (pc + 3) = .ok (.dup, 1)) (d4 : decode M.2.1 (pc + 4) = .ok (.ldc is, 2)) (d6 : decode M.2.1 (pc + 6) = .ok (.invokespecial 56, 3)) (d9 : decode M.2.1 (pc + 9) = .ok (.athrow, 1)) (hst : (RX6, is, text) ∈ jStr) (hh : M.2.2.2.2 = []) (hf : 6 ≤ rm.frames) (hlo : jcat st + 82 ≤ rm.locals) (hc : k + 1 ≤ rm.cells) (hs : n + 6 ≤ rm.slots) (hq : Q (.inr "java/lang/IllegalArgumentException") σ) : J X M rm pc lc st k n σ Q :=
  J.throwS d0 d3 d4 d6 d9 (by decide +kernel) (by rw [hM]; decide +kernel) (by decide +kernel) (by rw [hM]; exact hst) (by rw [hM]; exact hat_iae) (by rw [hM]; decide +kernel) hh hf hlo hc hs hq
theorem J.throwIse {X : jX} {M : jMt} {rm : Room} {pc : Nat} {lc st : List Value} {k n : Nat} {σ : jS} {Q : jOut → jS → Prop} {is : Nat} {text : String} (hM : M.1.cls = RX6)
    (d0 : decode M.2.1 pc = .ok (.new 62, 3)) (d3 : decode M.2.1 (pc + 3) = .ok (.dup, 1)) (d4 : decode M.2.1 (pc + 4) = .ok (.ldc is, 2)) (d6 : decode M.2.1 (pc + 6) = .ok (.invokespecial 66, 3)) (d9 : decode M.2.1 (pc + 9) = .ok (.athrow, 1)) (hst : (RX6, is, text) ∈ jStr) (hh : M.2.2.2.2 = []) (hf : 6 ≤ rm.frames) (hlo : jcat st + 82 ≤ rm.locals) (hc : k + 1 ≤ rm.cells) (hs : n + 6 ≤ rm.slots) (hq : Q (.inr "java/lang/IllegalStateException") σ) : J X M rm pc lc st k n σ Q :=
  J.throwS d0 d3 d4 d6 d9 (by decide +kernel) (by rw [hM]; decide +kernel) (by decide +kernel) (by rw [hM]; exact hst) (by rw [hM]; exact hat_ise) (by rw [hM]; decide +kernel) hh hf hlo hc hs hq
theorem J.throwIob {X : jX} {M : jMt} {rm : Room} {pc : Nat} {lc st : List Value} {k n : Nat} {σ : jS} {Q : jOut → jS → Prop} {is : Nat} {text : String} (hM : M.1.cls = RX6)
    (d0 : decode M.2.1 pc = .ok (.new 74, 3)) (d3 : decode M.2.1 (pc + 3) = .ok (.dup, 1)) (d4 : decode M.2.1 (pc + 4) = .ok (.ldc is, 2)) (d6 : decode M.2.1 (pc + 6) = .ok (.invokespecial 78, 3)) (d9 : decode M.2.1 (pc + 9) = .ok (.athrow, 1)) (hst : (RX6, is, text) ∈ jStr) (hh : M.2.2.2.2 = []) (hf : 6 ≤ rm.frames) (hlo : jcat st + 82 ≤ rm.locals) (hc : k + 1 ≤ rm.cells) (hs : n + 6 ≤ rm.slots) (hq : Q (.inr "java/lang/IndexOutOfBoundsException") σ) : J X M rm pc lc st k n σ Q :=
  J.throwS d0 d3 d4 d6 d9 (by decide +kernel) (by rw [hM]; decide +kernel) (by decide +kernel) (by rw [hM]; exact hst) (by rw [hM]; exact hat_iob) (by rw [hM]; decide +kernel) hh hf hlo hc hs hq
/-! static rows -/
theorem J.getsL {X : jX} {M : jMt} {rm : Room} {pc : Nat} {lc st : List Value} {k n : Nat} {σ : jS} {Q : jOut → jS → Prop} {ix : Nat} {host : String} (d : decode M.2.1 pc = .ok (.getstatic ix, 3)) (hl : Cond.fieldLinkNest M.1.cls ix "WireBook" "LETTER_UNITS" "[I" host ∈ lw_tbl) (kk : J X M rm (pc + 3) lc (.ref 0 :: st) k n σ Q) : J X M rm pc lc st k n σ Q := by
  intro p e s m args below meth c A ad0 σ0 H locs ls ad C Y hS hl9 ol os
  obtain ⟨⟨hx, hb, hml, hr, htab⟩, ⟨hown, hlk, hnm, hlt⟩, hts, hA, hK, hN, h5⟩ := id C
  have hle := Y.2.2.2.1
  refine va_getsN hx hb (v := .ref (ad 0)) (by rw [Y.2.2.2.2.1 0 (by omega)]; exact hN.2.1.1) hS hown ((hN.1 _ hl rfl).use rfl) (fun _ h => h) d (kk p e s m args below meth c A ad0 σ0 H locs ls ad C Y hS hl9 ol (jok_cons (show 0 < σ.1 by omega) os))
theorem J.getsD {X : jX} {M : jMt} {rm : Room} {pc : Nat} {lc st : List Value} {k n : Nat} {σ : jS} {Q : jOut → jS → Prop} {ix : Nat} {host : String} (d : decode M.2.1 pc = .ok (.getstatic ix, 3)) (hl : Cond.fieldLinkNest M.1.cls ix "WireBook" "DIGIT_UNITS" "[I" host ∈ lw_tbl) (kk : J X M rm (pc + 3) lc (.ref 1 :: st) k n σ Q) : J X M rm pc lc st k n σ Q := by
  intro p e s m args below meth c A ad0 σ0 H locs ls ad C Y hS hl9 ol os
  obtain ⟨⟨hx, hb, hml, hr, htab⟩, ⟨hown, hlk, hnm, hlt⟩, hts, hA, hK, hN, h5⟩ := id C
  have hle := Y.2.2.2.1
  refine va_getsN hx hb (v := .ref (ad 1)) (by rw [Y.2.2.2.2.1 1 (by omega)]; exact hN.2.1.2) hS hown ((hN.1 _ hl rfl).use rfl) (fun _ h => h) d (kk p e s m args below meth c A ad0 σ0 H locs ls ad C Y hS hl9 ol (jok_cons (show 1 < σ.1 by omega) os))
def jcp (f g : Nat → Int) (sp dp n : Nat) : Nat → Int := fun t => if dp ≤ t ∧ t < dp + n then f (sp + (t - dp)) else g t
theorem J.acopy {X : jX} {M : jMt} {rm : Room} {pc : Nat} {lc st : List Value} {k n : Nat} {σ : jS} {Q : jOut → jS → Prop} {ix i0 i1 n0 n1 : Nat} {f g : Nat → Int} {sp dp l : Int} (sp' dp' l' : Nat) (d : decode M.2.1 pc = .ok (.invokestatic ix, 3)) (h1 : Cond.methodLink M.1.cls ix arraycopyName ∈ lw_tbl) (h2 : Cond.native arraycopyName ∈ lw_tbl) (h3 : Cond.static arraycopyName ∈ lw_tbl) (h4 : Cond.initialized "java/lang/System" ∈ lw_tbl)
    (he0 : σ.2 i0 = jI n0 f) (he1 : σ.2 i1 = jI n1 g) (hi0 : 5 ≤ i0) (hi1 : 5 ≤ i1) (hsp : sp = (sp' : Int)) (hdp : dp = (dp' : Int)) (hl' : l = (l' : Int)) (hb0 : sp' + l' ≤ n0) (hb1 : dp' + l' ≤ n1) (hn0 : n0 < 2147483648) (hn1 : n1 < 2147483648) (hf : 1 ≤ rm.frames) (hlo : jcat st + 40 ≤ rm.locals) (kk : J X M rm (pc + 3) lc st k n (jset σ i1 (jI n1 (jcp f g sp' dp' l'))) Q) : J X M rm pc lc (vI l :: vI dp :: .ref i1 :: vI sp :: .ref i0 :: st) k n σ Q := by
  subst hsp; subst hdp; subst hl'
  intro p e s m args below meth c A ad0 σ0 H locs ls ad C Y hS hl ol os
  obtain ⟨⟨hx, hb, hml, hr, htab⟩, ⟨hown, hlk, hnm, hlt⟩, hts, hA, hK, hN, h5⟩ := id C
  have os1 := jok_tl (jok_tl os)
  have hj1 : i1 < σ.1 := jok_hd os1
  have os2 := jok_tl (jok_tl os1)
  have hj0 : i0 < σ.1 := jok_hd os2
  have hw0 := jws_at (cA := X.2.2) (ad := ad) hi0 hj0
  have hw1 := jws_at (cA := X.2.2) (ad := ad) hi1 hj1
  rw [he0] at hw0
  rw [he1] at hw1
  have cl : ∀ z : Nat, z < 2147483648 → (iI (z : Int)).toNatClampNeg = z := fun z hz => iI_natcl hz
  have ng : ∀ z : Nat, z < 2147483648 → ¬ iI (z : Int) < 0 := fun z hz => by rw [← iI_0, iI_lt (iI_nat hz) inI_0]; omega
  refine va_copyi hx hb (hml.trans hl.1.symm) hown (hts _ (jw_in h1 rfl)) (hts _ (jw_in h2 rfl)) (hts _ (jw_in h3 rfl)) (hts _ (jw_in h4 rfl)) hK Y.1 Y.2.1 hS (i0 - 5) (i1 - 5) 0 0 (f := fun t => iI (f t)) (g := fun t => iI (g t)) (ty := .int) hw0 hw1 rfl rfl rfl (ng _ (by omega)) (ng _ (by omega)) (ng _ (by omega)) (by rw [cl _ (by omega), cl _ (by omega)]; exact hb0) (by rw [cl _ (by omega), cl _ (by omega)]; exact hb1) (fun _ _ => rfl) hf (by rw [jcat_tv]; exact Nat.le_trans (Nat.add_le_add_left (by decide +kernel) _) hlo) d (fun H1 locs1 hP hD hS1 => ?_)
  have hfun : va_cpy (fun t => iI (f t)) (fun t => iI (g t)) (iI (sp' : Int)).toNatClampNeg (iI (dp' : Int)).toNatClampNeg (iI (l' : Int)).toNatClampNeg = fun t => iI (jcp f g sp' dp' l' t) := by
    rw [cl _ (by omega), cl _ (by omega), cl _ (by omega)]
    funext t
    unfold va_cpy jcp
    by_cases h : dp' ≤ t ∧ t < dp' + l'
    · rw [if_pos h, if_pos h]
    · rw [if_neg h, if_neg h]
  rw [hfun] at hP hD
  exact kk p e s m args below meth c A ad0 σ0 H1 locs1 ls ad C (jH_set (e := jI n1 (jcp f g sp' dp' l')) Y h5 hi1 hj1 trivial hP hD) hS1 hl ol (jok_tl os2)
