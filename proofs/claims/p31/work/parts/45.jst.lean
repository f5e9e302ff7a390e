/-! the start: what the statement gives, as the first world of the small machine -/
abbrev jNw : Cond := Jvm.Cond.and given_1 narrow_1
def jLuL : List Int := [5, 9, 11, 7, 1, 9, 9, 7, 3, 13, 9, 9, 7, 5, 11, 11, 13, 7, 5, 3, 7, 9, 9, 11, 13, 11]
def jDuL : List Int := [19, 17, 15, 13, 11, 9, 11, 13, 15, 17]
def jLu (j : Nat) : Int := jLuL.getD j 0
def jDu (j : Nat) : Int := jDuL.getD j 0
theorem jLu_b : ∀ i, i < 26 → ((1 : Nat) : Int) ≤ jLu i ∧ jLu i ≤ 100 := by decide +kernel
theorem jDu_b : ∀ i, i < 10 → ((9 : Nat) : Int) ≤ jDu i ∧ jDu i ≤ 100 := by decide +kernel
def jElW (C n : String) (f : Nat → Int) (j : Nat) : Cond := Cond.eq (.elem (.static C n "[I") (.int (Int32.ofNat j))) (.int (iI (f j)))
theorem nw_du : ∀ j, j < 10 → (flatC jNw)[9 + j]? = some (jElW "WireBook" "DIGIT_UNITS" jDu j) := by decide +kernel
theorem nw_lu : ∀ j, j < 26 → (flatC jNw)[22 + j]? = some (jElW "WireBook" "LETTER_UNITS" jLu j) := by decide +kernel
theorem js_row {args : Array Value} {s : State} {C n : String} {A : Nat → Prop} (N k : Nat) (f : Nat → Int) (hf : ∀ c ∈ flatC jNw, c.before args s = true) (hl : (Cond.laysStatic C n "[I").before args s = true) (hini : (Cond.initialized C).before args s = true) (hN : N < 2 ^ 31)
    (h1 : (Cond.arrayOf (.static C n "[I") .int) ∈ flatC jNw) (h2 : Cond.eq (.length (.static C n "[I")) (.int (Int32.ofNat N)) ∈ flatC jNw) (h3 : ∀ j, j < N → (flatC jNw)[k + j]? = some (jElW C n f j)) (hA : ∀ a : Nat, a < s.heap.size → ¬ A a) :
    ∃ t : Nat, va_Z C n "[I" (.ref t) A s s.heap ∧ va_T .int t N (fun j => .int (iI (f j))) A s s.heap := by
  obtain ⟨t, ht, hT⟩ := va_Tof (A := A) (f := fun j => .int (iI (f j))) hN (hf _ h1) (va_eqt (hf _ h2)) (fun j hj => va_eqt (hf _ (List.mem_of_getElem? (h3 j hj)))) hA
  exact ⟨t, va_Zof hl hini ht hA, hT⟩
theorem js_str : ∀ q ∈ jStr, Cond.stringRef q.1 q.2.1 q.2.2 ∈ lw_tbl ∧ Cond.exactly (.string q.1 q.2.1) "java/lang/String" ∈ flatC jNw := by decide +kernel
theorem js_ncs : ∀ q ∈ jNcs, Cond.not (.castable q.1 q.2) ∈ flatC jNw := by decide +kernel
theorem js_nest {w : Cond} (h : jNestW w = true) : w.onTables = true := by
  cases w <;> first | rfl | simp [jNestW] at h
theorem js_arr {args : Array Value} {s : State} {ty : FieldType} (h : (Cond.arrayClass ty).before args s = true) : ∃ cA : ClassId, ArrOfT s cA ty ∧ s.vm.findClass ("[" ++ ty.toString) = some cA := by
  obtain ⟨c, k, comp, h1, h2, h3⟩ := Cond.arrayClass_spec h
  exact ⟨c, fun n z => ⟨(fun k h => by cases h), k, h2, comp, h3⟩, h1⟩
theorem js_arrO {args : Array Value} {s : State} {C : String} (h : (Cond.arrayOver (.object C)).before args s = true) : ∃ cA : ClassId, ArrOfT s cA (.object C) ∧ va_RA s cA (.object C) := by
  obtain ⟨comp, c, k, h1, -, h3, h4, h5⟩ := Cond.arrayOver_spec h
  exact ⟨c, fun n z => ⟨(fun k h => by cases h), k, h3, comp, h4⟩, k, comp, h3, h4, h1, h5⟩
theorem js_arrA {args : Array Value} {s : State} {t : FieldType} (h : (Cond.arrayOver (.array t)).before args s = true) : ∃ cA : ClassId, ArrOfT s cA (.array t) ∧ s.vm.findClass ("[" ++ (FieldType.array t).toString) = some cA := by
  obtain ⟨comp, c, k, h1, -, h3, h4, h5⟩ := arrayOverA_spec h
  exact ⟨c, fun n z => ⟨(fun k h => by cases h), k, h3, comp, h4⟩, h5⟩
theorem ao_book : Cond.arrayOver (.object "WireBook$Book") ∈ lw_tbl := by decide +kernel
theorem ao_int : Cond.arrayOver (.array .int) ∈ lw_tbl := by decide +kernel
theorem js_K {args : Array Value} {s : State} (hts : ∀ w ∈ lw_tbl, w.before args s = true) : ∃ (D : va_G) (cA : Nat → ClassId), va_K D vwCl (jty cA) s := by
  have hB : ∀ w ∈ jBig, w.before args s = true := fun w h => hts w (List.mem_filter.mp h).1
  obtain ⟨c0, i0, k0⟩ := u_known hB in_X0 (hts _ it_X0)
  obtain ⟨c1, i1, k1⟩ := u_known hB in_X2 (hts _ it_X2)
  obtain ⟨c2, i2, k2⟩ := u_known hB in_X3 (hts _ it_X3)
  obtain ⟨c3, i3, k3⟩ := u_known hB in_X4 (hts _ it_X4)
  obtain ⟨c4, i4, k4⟩ := u_known hB in_X5 (hts _ it_X5)
  obtain ⟨c5, i5, k5⟩ := u_known hB in_X6 (hts _ it_X6)
  obtain ⟨a0, b0, d0⟩ := js_arr (hts _ ac_int)
  obtain ⟨a3, b3, d3⟩ := js_arrO (hts _ ao_book)
  obtain ⟨a4, b4, d4⟩ := js_arrA (hts _ ao_int)
  refine ⟨(fun k => match k with | 0 => c0 | 1 => c1 | 2 => c2 | 3 => c3 | 4 => c4 | _ => c5, fun k => match k with | 0 => i0 | 1 => i1 | 2 => i2 | 3 => i3 | 4 => i4 | _ => i5), fun k => match k with | 0 => a0 | 3 => a3 | _ => a4, fun k q hq => ?_, fun k q hq => ?_⟩
  · match k, hq with
    | 0, hq => cases hq; exact k0
    | 1, hq => cases hq; exact k1
    | 2, hq => cases hq; exact k2
    | 3, hq => cases hq; exact k3
    | 4, hq => cases hq; exact k4
    | 5, hq => cases hq; exact k5
    | k + 6, hq => cases hq
  · match k, hq with
    | 0, hq => cases hq; exact ⟨b0, d0⟩
    | 1, hq => cases hq; exact ⟨b3, d3⟩
    | 2, hq => cases hq; exact ⟨b4, d4⟩
    | k + 3, hq => cases hq
/-- the world at the law's entry -/
def js0 (L : Nat) (xs : Nat → Int32) : jS := (5, fun i => match i with | 0 => jI 26 jLu | 1 => jI 10 jDu | 2 => jI 26 jLu | 3 => jI 10 jDu | _ => jI L (fun j => (xs j).toInt))
def jad (a0 a1 b : Nat) (i : Nat) : Nat := match i with | 0 => a0 | 1 => a1 | 2 => a0 | 3 => a1 | _ => b
theorem st_u : Cond.laysStatic "WireBook" "LETTER_UNITS" "[I" ∈ lw_tbl ∧ Cond.laysStatic "WireBook" "DIGIT_UNITS" "[I" ∈ lw_tbl := by decide +kernel
theorem st_i : Cond.initialized "WireBook" ∈ lw_tbl ∧ Cond.initialized Bundle.tN ∈ lw_tbl := by decide +kernel
theorem st_t : Cond.laysStatic Bundle.tN "UNASSIGNED_STACK" Bundle.steD ∈ lw_tbl ∧ Cond.laysStatic Bundle.tN "SUPPRESSED_SENTINEL" Bundle.listD ∈ lw_tbl := by decide +kernel
theorem nw_a : Cond.arrayOf (.static "WireBook" "LETTER_UNITS" "[I") .int ∈ flatC jNw ∧ Cond.arrayOf (.static "WireBook" "DIGIT_UNITS" "[I") .int ∈ flatC jNw := by decide +kernel
theorem nw_l : Cond.eq (.length (.static "WireBook" "LETTER_UNITS" "[I")) (.int (Int32.ofNat 26)) ∈ flatC jNw ∧ Cond.eq (.length (.static "WireBook" "DIGIT_UNITS" "[I")) (.int (Int32.ofNat 10)) ∈ flatC jNw := by decide +kernel
theorem nw_t : Cond.isRef (.static Bundle.tN "UNASSIGNED_STACK" Bundle.steD) ∈ flatC jNw ∧ Cond.isRef (.static Bundle.tN "SUPPRESSED_SENTINEL" Bundle.listD) ∈ flatC jNw := by decide +kernel
theorem js_N {s : State} {b L : Nat} {xs : Nat → Int32} (hL : L ≤ 260) (hts : ∀ w ∈ lw_tbl, w.before #[Value.ref b] s = true) (hX : va_X b L xs s s.heap) (hbl : b < s.heap.size) (hgv : jNw.before #[Value.ref b] s = true) :
    ∃ a0 a1 : Nat, jN (fun q : Nat => s.heap.size ≤ q) (jad a0 a1 b) (js0 L xs) s s.heap := by
  have hf := flat_of_before _ hgv
  have hA : ∀ a : Nat, a < s.heap.size → ¬ (fun q : Nat => s.heap.size ≤ q) a := fun a h => Nat.not_le.mpr h
  obtain ⟨a0, z0, t0⟩ := js_row 26 22 jLu hf (hts _ st_u.1) (hts _ st_i.1) (by decide) nw_a.1 nw_l.1 nw_lu hA
  obtain ⟨a1, z1, t1⟩ := js_row 10 9 jDu hf (hts _ st_u.2) (hts _ st_i.1) (by decide) nw_a.2 nw_l.2 nw_du hA
  refine ⟨a0, a1, fun w hw hn => va_Nw.of (js_nest hn) (hts w hw), ⟨z0, z1⟩, fun i hi => ?_, ⟨vx_Zqof (hts _ st_t.1) (hts _ st_i.2) (hf _ nw_t.1) hA, vx_Zqof (hts _ st_t.2) (hts _ st_i.2) (hf _ nw_t.2) hA⟩, fun q hq => ?_, va_AO.of (hts _ ao_book), hts _ ao_int, fun q hq => va_Nc.of (hf _ (js_ncs q hq))⟩
  · match i, hi with
    | 0, _ => exact ⟨26, jLu, by omega, rfl, t0⟩
    | 1, _ => exact ⟨10, jDu, by omega, rfl, t1⟩
    | 2, _ => exact ⟨26, jLu, by omega, rfl, t0⟩
    | 3, _ => exact ⟨10, jDu, by omega, rfl, t1⟩
    | 4, _ =>
      obtain ⟨scr, h1, h2, h3, h4, h5⟩ := hX
      exact ⟨L, fun j => (xs j).toInt, by omega, rfl, scr, h1, h2, h3, Nat.le_of_eq h4.symm, by rw [h4], fun j hj => by rw [h5 j hj]; exact congrArg (fun z => some (Value.int z)) (iI_self (xs j)).symm, hA b hbl⟩
  · obtain ⟨g1, g2⟩ := js_str q hq
    obtain ⟨a, c, cell, k, h1, -⟩ := Cond.exactly_spec (hf _ g2)
    exact ⟨a, vk_R.of (hts _ g1) h1⟩
