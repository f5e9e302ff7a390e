/-! numbers: an int is told by a whole number that stands for it -/
def iI (a : Int) : Int32 := Int32.ofInt a
def lI (a : Int) : Int64 := Int64.ofInt a
def inI (a : Int) : Prop := -2147483648 ≤ a ∧ a ≤ 2147483647
abbrev vI (a : Int) : Value := .int (iI a)
abbrev vL (a : Int) : Value := .long (lI a)
theorem iI_add (a b : Int) : iI a + iI b = iI (a + b) := (Int32.ofInt_add a b).symm
theorem iI_sub (a b : Int) : iI a - iI b = iI (a - b) := (Int32.ofInt_sub a b).symm
theorem iI_mul (a b : Int) : iI a * iI b = iI (a * b) := (Int32.ofInt_mul a b).symm
theorem lI_add (a b : Int) : lI a + lI b = lI (a + b) := (Int64.ofInt_add a b).symm
theorem lI_mul (a b : Int) : lI a * lI b = lI (a * b) := (Int64.ofInt_mul a b).symm
theorem iI_toInt {a : Int} (h : inI a) : (iI a).toInt = a := Int32.toInt_ofInt_of_le (by have := h.1; omega) (by have := h.2; omega)
theorem iI_lt {a b : Int} (ha : inI a) (hb : inI b) : iI a < iI b ↔ a < b := by rw [Int32.lt_iff_toInt_lt, iI_toInt ha, iI_toInt hb]
theorem iI_le {a b : Int} (ha : inI a) (hb : inI b) : iI a ≤ iI b ↔ a ≤ b := by rw [Int32.le_iff_toInt_le, iI_toInt ha, iI_toInt hb]
theorem iI_eq {a b : Int} (ha : inI a) (hb : inI b) : iI a = iI b ↔ a = b := by rw [← Int32.toInt_inj, iI_toInt ha, iI_toInt hb]
theorem iI_0 : iI 0 = 0 := by decide
theorem inI_0 : inI 0 := by unfold inI; omega
theorem iI_clamp {a : Int} (h : inI a) : (iI a).toNatClampNeg = a.toNat := Int32.toNatClampNeg_ofInt_of_le (by have := h.1; omega) (by have := h.2; omega)
theorem iI_self (x : Int32) : iI x.toInt = x := Int32.ofInt_toInt x
theorem iI_inI (x : Int32) : inI x.toInt := by
  have h1 := Int32.le_toInt x
  have h2 := Int32.toInt_lt x
  unfold inI
  omega
theorem iI_of (x : Int32) : ∃ a : Int, inI a ∧ x = iI a := ⟨x.toInt, iI_inI x, (iI_self x).symm⟩
theorem mxI : Int32.maxValue.toInt = 2147483647 := by decide
theorem mnI : Int32.minValue.toInt = -2147483648 := by decide
theorem iI_div {a b : Int} (ha : inI a) (hb : inI b) : iI a / iI b = iI (a.tdiv b) :=
  (Int32.ofInt_tdiv (by rw [mnI]; exact ha.1) (by rw [mxI]; exact ha.2) (by rw [mnI]; exact hb.1) (by rw [mxI]; exact hb.2)).symm
theorem iI_rem {a b : Int} (ha : inI a) (hb : inI b) : iI a - iI a / iI b * iI b = iI (a.tmod b) := by
  rw [iI_div ha hb, iI_mul, iI_sub, Int.tmod_def, Int.mul_comm]
theorem iI_l {a : Int} (h : inI a) : (iI a).toInt64 = lI a := Int32.toInt64_ofInt (by rw [mnI]; exact h.1) (by rw [mxI]; exact h.2)
theorem iI_in {a : Int} {n : Nat} (h : inI a) (h0 : 0 ≤ a) (hn : a < n) : vp_in (iI a) n := by
  unfold vp_in
  rw [iI_clamp h]
  have h1 : ¬ iI a < 0 := by rw [← iI_0, iI_lt h inI_0]; omega
  rintro (q | q)
  · exact h1 q
  · omega
theorem lI_toInt {a : Int} (h : -9223372036854775808 ≤ a ∧ a ≤ 9223372036854775807) : (lI a).toInt = a := Int64.toInt_ofInt_of_le (by have := h.1; omega) (by have := h.2; omega)
theorem lI_eq {a b : Int} (ha : inI a) (hb : inI b) : lI a = lI b ↔ a = b := by
  have h1 := ha; have h2 := hb
  unfold inI at h1 h2
  rw [← Int64.toInt_inj, lI_toInt (by omega), lI_toInt (by omega)]
/-! the small machine's heap: cells by their places; places 0 to 4 are read alone -/
abbrev jE : Type := (Nat × (Nat → Int)) ⊕ (Nat × (Nat → Int)) ⊕ (Nat × (Nat → UInt64)) ⊕ (Nat × Nat × (Nat → Option Nat)) ⊕ (Nat × List Value)
def jI (n : Nat) (f : Nat → Int) : jE := .inl (n, f)
def jL (n : Nat) (f : Nat → Int) : jE := .inr (.inl (n, f))
def jD (n : Nat) (f : Nat → UInt64) : jE := .inr (.inr (.inl (n, f)))
def jQ (kd n : Nat) (g : Nat → Option Nat) : jE := .inr (.inr (.inr (.inl (kd, n, g))))
def jO (ci : Nat) (fs : List Value) : jE := .inr (.inr (.inr (.inr (ci, fs))))
abbrev jS : Type := Nat × (Nat → jE)
def jset (σ : jS) (i : Nat) (e : jE) : jS := (σ.1, fun j => if j = i then e else σ.2 j)
def jpush (σ : jS) (e : jE) : jS := (σ.1 + 1, fun j => if j = σ.1 then e else σ.2 j)
theorem jset_1 (σ : jS) (i : Nat) (e : jE) : (jset σ i e).1 = σ.1 := rfl
theorem jset_eq (σ : jS) (i : Nat) (e : jE) : (jset σ i e).2 i = e := if_pos rfl
theorem jset_ne (σ : jS) {i j : Nat} (e : jE) (h : j ≠ i) : (jset σ i e).2 j = σ.2 j := if_neg h
def tv (ad : Nat → Nat) (v : Value) : Value := match v with
  | .ref k => .ref (ad k)
  | w => w
def tE (cA : Nat → ClassId) (ad : Nat → Nat) (e : jE) : va_E := match e with
  | .inl a => .inl (cA 0, a.1, .inl (fun j => iI (a.2 j)))
  | .inr (.inl a) => .inl (cA 1, a.1, .inr (.inl (fun j => lI (a.2 j))))
  | .inr (.inr (.inl a)) => .inl (cA 2, a.1, .inr (.inr (.inr (.inl a.2))))
  | .inr (.inr (.inr (.inl a))) => .inl (cA (3 + a.1), a.2.1, .inr (.inr (.inr (.inr (fun j => (a.2.2 j).map ad)))))
  | .inr (.inr (.inr (.inr a))) => .inr (a.1, a.2.map (tv ad))
def jokv (n : Nat) (v : Value) : Prop := match v with
  | .ref k => k < n
  | _ => True
def jokE (n : Nat) (e : jE) : Prop := match e with
  | .inr (.inr (.inr (.inl a))) => ∀ j k, a.2.2 j = some k → k < n
  | .inr (.inr (.inr (.inr a))) => ∀ v ∈ a.2, jokv n v
  | _ => True
def jwf (σ : jS) : Prop := ∀ i, i < σ.1 → jokE σ.1 (σ.2 i)
theorem tv_cat (ad : Nat → Nat) (v : Value) : (tv ad v).category = v.category := by cases v <;> rfl
theorem tv_int (ad : Nat → Nat) (x : Int32) : tv ad (.int x) = .int x := rfl
theorem tv_ext {ad ad' : Nat → Nat} {n : Nat} (h : ∀ i, i < n → ad' i = ad i) {v : Value} (hv : jokv n v) : tv ad' v = tv ad v := by
  cases v <;> first | rfl | exact congrArg Value.ref (h _ hv)
theorem jokv_mono {n n' : Nat} (h : n ≤ n') {v : Value} (hv : jokv n v) : jokv n' v := by
  cases v <;> first | trivial | exact Nat.lt_of_lt_of_le hv h
theorem jokE_mono {n n' : Nat} (h : n ≤ n') {e : jE} (he : jokE n e) : jokE n' e := by
  rcases e with a | a | a | a | a
  · trivial
  · trivial
  · trivial
  · exact fun j k q => Nat.lt_of_lt_of_le (he j k q) h
  · exact fun v q => jokv_mono h (he v q)
theorem tE_ext {cA : Nat → ClassId} {ad ad' : Nat → Nat} {n : Nat} (h : ∀ i, i < n → ad' i = ad i) {e : jE} (he : jokE n e) : tE cA ad' e = tE cA ad e := by
  rcases e with a | a | a | a | a
  · rfl
  · rfl
  · rfl
  · show Sum.inl (cA (3 + a.1), a.2.1, Sum.inr (Sum.inr (Sum.inr (Sum.inr (fun j => (a.2.2 j).map ad'))))) = Sum.inl (cA (3 + a.1), a.2.1, Sum.inr (Sum.inr (Sum.inr (Sum.inr (fun j => (a.2.2 j).map ad)))))
    have : (fun j => (a.2.2 j).map ad') = (fun j => (a.2.2 j).map ad) := funext fun j => by
      cases hj : a.2.2 j with
      | none => rfl
      | some k => exact congrArg some (h k (he j k hj))
    rw [this]
  · show Sum.inr (a.1, a.2.map (tv ad')) = Sum.inr (a.1, a.2.map (tv ad))
    have : a.2.map (tv ad') = a.2.map (tv ad) := List.map_congr_left fun v hv => tv_ext h (he v hv)
    rw [this]
def jws (cA : Nat → ClassId) (ad : Nat → Nat) (σ : jS) : va_W := (List.range (σ.1 - 5)).map (fun k => (ad (k + 5), tE cA ad (σ.2 (k + 5))))
theorem jws_at {cA : Nat → ClassId} {ad : Nat → Nat} {σ : jS} {i : Nat} (h5 : 5 ≤ i) (hi : i < σ.1) : (jws cA ad σ)[i - 5]? = some (ad i, tE cA ad (σ.2 i)) := by
  unfold jws
  rw [List.getElem?_map, List.getElem?_range (by omega)]
  show some (ad (i - 5 + 5), tE cA ad (σ.2 (i - 5 + 5))) = _
  rw [show i - 5 + 5 = i by omega]
theorem jws_of {cA : Nat → ClassId} {ad : Nat → Nat} {σ : jS} {k : Nat} {q : Nat × va_E} (h : (jws cA ad σ)[k]? = some q) : k + 5 < σ.1 ∧ q = (ad (k + 5), tE cA ad (σ.2 (k + 5))) := by
  unfold jws at h
  rw [List.getElem?_map] at h
  by_cases hk : k < σ.1 - 5
  · rw [List.getElem?_range hk] at h
    exact ⟨by omega, (Option.some.inj h).symm⟩
  · rw [List.getElem?_eq_none (by simp; omega)] at h
    cases h
theorem jws_set {cA : Nat → ClassId} {ad : Nat → Nat} {σ : jS} {i : Nat} (h5 : 5 ≤ i) (hi : i < σ.1) (e : jE) : (jws cA ad σ).set (i - 5) (ad i, tE cA ad e) = jws cA ad (jset σ i e) := by
  apply List.ext_getElem?
  intro k
  by_cases hk : k = i - 5
  · subst hk
    rw [List.getElem?_set_self (by have := (List.getElem?_eq_some_iff.mp (jws_at (cA := cA) (ad := ad) h5 hi)).1; exact this), jws_at (σ := jset σ i e) h5 hi, jset_eq]
  · rw [List.getElem?_set_ne (Ne.symm hk)]
    unfold jws
    rw [List.getElem?_map, List.getElem?_map]
    show Option.map _ (List.range (σ.1 - 5))[k]? = Option.map _ (List.range (σ.1 - 5))[k]?
    by_cases hl : k < σ.1 - 5
    · rw [List.getElem?_range hl]
      show some (ad (k + 5), tE cA ad (σ.2 (k + 5))) = some (ad (k + 5), tE cA ad ((jset σ i e).2 (k + 5)))
      rw [jset_ne σ e (by omega)]
    · rw [List.getElem?_eq_none (by simp; omega)]
      rfl
theorem jws_ad {cA : Nat → ClassId} {ad ad' : Nat → Nat} {σ : jS} (hw : jwf σ) (h : ∀ i, i < σ.1 → ad' i = ad i) : jws cA ad' σ = jws cA ad σ := by
  unfold jws
  apply List.map_congr_left
  intro k hk
  have hk' : k + 5 < σ.1 := by have := List.mem_range.mp hk; omega
  rw [h _ hk', tE_ext h (hw _ hk')]
theorem jws_push {cA : Nat → ClassId} {ad ad' : Nat → Nat} {σ : jS} (hw : jwf σ) (h : ∀ i, i < σ.1 → ad' i = ad i) (h5 : 5 ≤ σ.1) (e : jE) : jws cA ad σ ++ [(ad' σ.1, tE cA ad' e)] = jws cA ad' (jpush σ e) := by
  rw [← jws_ad hw h]
  unfold jws
  rw [show (jpush σ e).1 - 5 = (σ.1 - 5) + 1 by show σ.1 + 1 - 5 = _; omega, List.range_succ, List.map_append]
  congr 1
  · apply List.map_congr_left
    intro k hk
    have hk' : k + 5 < σ.1 := by have := List.mem_range.mp hk; omega
    rw [show (jpush σ e).2 (k + 5) = σ.2 (k + 5) from if_neg (by omega)]
  · show _ = [(ad' (σ.1 - 5 + 5), tE cA ad' ((jpush σ e).2 (σ.1 - 5 + 5)))]
    rw [show σ.1 - 5 + 5 = σ.1 by omega, show (jpush σ e).2 σ.1 = e from if_pos rfl]
/-- an index: the read-only ones are int rows -/
theorem jwf_set {σ : jS} (h : jwf σ) {i : Nat} {e : jE} (he : jokE σ.1 e) : jwf (jset σ i e) := by
  intro j hj
  by_cases q : j = i
  · subst q; rw [jset_eq]; exact he
  · rw [jset_ne σ e q]; exact h j hj
theorem jwf_push {σ : jS} (h : jwf σ) {e : jE} (he : jokE (σ.1 + 1) e) : jwf (jpush σ e) := by
  intro j hj
  by_cases q : j = σ.1
  · subst q; rw [show (jpush σ e).2 σ.1 = e from if_pos rfl]; exact he
  · rw [show (jpush σ e).2 j = σ.2 j from if_neg q]
    exact jokE_mono (Nat.le_succ _) (h j (by have : j < σ.1 + 1 := hj; omega))
