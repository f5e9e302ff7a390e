/-! ===== messages: what a cheapest division writes, and what is read of it ===== -/
theorem mnU_at {ok : Nat → Bool} {w : Nat → Int} : ∀ (t e : Nat) (c : Int), mnU ok w t e c = c ∨ ∃ k, e ≤ k ∧ k < e + t ∧ ok k = true ∧ mnU ok w t e c = w k
  | 0, _, _ => Or.inl rfl
  | t + 1, e, c => by
    show mnU ok w t (e + 1) (if ok e = true ∧ w e < c then w e else c) = c ∨ ∃ k, e ≤ k ∧ k < e + (t + 1) ∧ ok k = true ∧ mnU ok w t (e + 1) (if ok e = true ∧ w e < c then w e else c) = w k
    rcases mnU_at t (e + 1) (if ok e = true ∧ w e < c then w e else c) with h | ⟨k, h1, h2, h3, h4⟩
    · by_cases z : ok e = true ∧ w e < c
      · rw [if_pos z] at h ⊢
        exact Or.inr ⟨e, Nat.le_refl _, by omega, z.1, h⟩
      · rw [if_neg z] at h ⊢
        exact Or.inl h
    · exact Or.inr ⟨k, by omega, by omega, h3, h4⟩
theorem pk_none {ok : Nat → Bool} {w : Nat → Int} {ga : Nat → Nat → Bool} {c : Int} : ∀ (t e : Nat) (b : Int), pkU ok w ga c t e b = -1 → b = -1 ∧ ∀ k, e ≤ k → k < e + t → ok k = true → w k ≠ c
  | 0, e, b, h => ⟨h, fun k h1 h2 => absurd h2 (by omega)⟩
  | t + 1, e, b, h => by
    obtain ⟨h1, h2⟩ := pk_none t (e + 1) _ h
    have h3 : b = -1 ∧ (ok e = true → w e ≠ c) := by
      by_cases z : ok e = true ∧ w e = c ∧ (b = -1 ∨ ga e b.toNat = true)
      · rw [if_pos z] at h1
        omega
      · rw [if_neg z] at h1
        exact ⟨h1, fun y1 y2 => z ⟨y1, y2, Or.inl h1⟩⟩
    exact ⟨h3.1, fun k a b y => by
      rcases Nat.eq_or_lt_of_le a with q | q
      · subst q
        exact h3.2 y
      · exact h2 k q (by omega) y⟩
theorem pk_some {ok : Nat → Bool} {w : Nat → Int} {ga : Nat → Nat → Bool} {c : Int} : ∀ (t e : Nat) (b : Int), (b = -1 ∨ ∃ k : Nat, b = ((k : Nat) : Int) ∧ k < e ∧ ok k = true ∧ w k = c) → pkU ok w ga c t e b = -1 ∨ ∃ k : Nat, pkU ok w ga c t e b = ((k : Nat) : Int) ∧ k < e + t ∧ ok k = true ∧ w k = c
  | 0, e, b, h => h
  | t + 1, e, b, h => by
    have h1 := pk_some t (e + 1) (if ok e = true ∧ w e = c ∧ (b = -1 ∨ ga e b.toNat = true) then ((e : Nat) : Int) else b) (by
      by_cases z : ok e = true ∧ w e = c ∧ (b = -1 ∨ ga e b.toNat = true)
      · rw [if_pos z]
        exact Or.inr ⟨e, rfl, by omega, z.1, z.2.1⟩
      · rw [if_neg z]
        rcases h with h | ⟨k, a1, a2, a3, a4⟩
        · exact Or.inl h
        · exact Or.inr ⟨k, a1, by omega, a3, a4⟩) (ga := ga)
    rcases h1 with h1 | ⟨k, a1, a2, a3, a4⟩
    · exact Or.inl h1
    · exact Or.inr ⟨k, a1, by omega, a3, a4⟩
theorem pkC_spec {n : Nat} {C S : Nat → Nat} {P g : Nat → Int} {s m : Nat} {pr : Int} {a : Nat} (hS : ∀ e, e < n → 1 ≤ S e ∧ S e ≤ 6) (ha : a < m) : (pkC n C S P g s m pr a = -1 ∧ cvC n S P g s m pr a = pr + cvC n S P g s m pr (a + 1)) ∨ ∃ k : Nat, pkC n C S P g s m pr a = ((k : Nat) : Int) ∧ k < n ∧ mtB S P g s m a k = true ∧ cvC n S P g s m pr a = 1 + cvC n S P g s m pr (a + S k) := by
  have hst := cvC_step (n := n) (sz := S) (ph := P) (g := g) (s := s) (m := m) (pr := pr) (fun e he => (hS e he).1) ha
  rcases pk_some (ok := mtB S P g s m a) (w := whF S (cvC n S P g s m pr) a) (ga := gaB C S) (c := cvC n S P g s m pr a) n 0 (-1) (Or.inl rfl) with h | ⟨k, h1, h2, h3, h4⟩
  · refine Or.inl ⟨h, ?_⟩
    obtain ⟨-, hno⟩ := pk_none _ _ _ h
    rcases mnU_at (ok := mtB S P g s m a) (w := whF S (cvC n S P g s m pr) a) n 0 (pr + cvC n S P g s m pr (a + 1)) with q | ⟨k, q1, q2, q3, q4⟩
    · exact hst.trans q
    · exact absurd (hst.trans q4).symm (hno k q1 q2 q3)
  · exact Or.inr ⟨k, h1, by omega, h3, h4.symm⟩
/-- t groups from g on stand for what is left of the line from a on -/
def MsK (n : Nat) (C S : Nat → Nat) (P lw : Nat → Int) (ln : Nat) (mg : Nat → Int) : Nat → Nat → Nat → Prop
  | 0, _, a => a = ln
  | t + 1, g, a => a < ln ∧ ((mg g = -1 - lw a ∧ MsK n C S P lw ln mg t (g + 1) (a + 1)) ∨ ∃ e, e < n ∧ mg g = ((C e : Nat) : Int) ∧ a + S e ≤ ln ∧ (∀ i, i < S e → P (e * 6 + i) = lw (a + i)) ∧ MsK n C S P lw ln mg t (g + 1) (a + S e))
theorem enU_msk {n : Nat} {C S : Nat → Nat} {P lw : Nat → Int} {ln : Nat} {pr : Int} (hS : ∀ e, e < n → 1 ≤ S e ∧ S e ≤ 6) (hlw : ∀ t, 0 ≤ lw t) : ∀ (t a k : Nat) (g : Nat → Int), a ≤ ln → ln - a ≤ t → ∃ u, (enU (pkC n C S P lw 0 ln pr) C S lw ln t a k g).1 = k + u ∧ (∀ i, i < k → (enU (pkC n C S P lw 0 ln pr) C S lw ln t a k g).2 i = g i) ∧ MsK n C S P lw ln (enU (pkC n C S P lw 0 ln pr) C S lw ln t a k g).2 u k a ∧ csL (enU (pkC n C S P lw 0 ln pr) C S lw ln t a k g).2 pr u k = cvC n S P lw 0 ln pr a ∧ u ≤ ln - a
  | 0, a, k, g, ha, ht => by
    have : a = ln := by omega
    subst this
    exact ⟨0, rfl, fun _ _ => rfl, rfl, cvC_m.symm, Nat.zero_le _⟩
  | t + 1, a, k, g, ha, ht => by
    rcases Nat.eq_or_lt_of_le ha with q | q
    · subst q
      rw [show enU (pkC n C S P lw 0 a pr) C S lw a (t + 1) a k g = (k, g) from if_neg (by omega)]
      exact ⟨0, rfl, fun _ _ => rfl, rfl, cvC_m.symm, Nat.zero_le _⟩
    · rcases pkC_spec (C := C) (P := P) (g := lw) (s := 0) (pr := pr) hS q with ⟨h1, h2⟩ | ⟨e, h1, h2, h3, h4⟩
      · rw [show enU (pkC n C S P lw 0 ln pr) C S lw ln (t + 1) a k g = enU (pkC n C S P lw 0 ln pr) C S lw ln t (a + 1) (k + 1) (jup g k (-1 - lw a)) from (if_pos q).trans (if_pos h1)]
        obtain ⟨u, u1, u2, u3, u4, u5⟩ := enU_msk (ln := ln) (pr := pr) hS hlw t (a + 1) (k + 1) (jup g k (-1 - lw a)) (by omega) (by omega)
        have hk : (enU (pkC n C S P lw 0 ln pr) C S lw ln t (a + 1) (k + 1) (jup g k (-1 - lw a))).2 k = -1 - lw a := (u2 k (by omega)).trans (jup_eq _ _ _)
        refine ⟨u + 1, by omega, fun i hi => (u2 i (by omega)).trans (jup_ne _ _ (by omega)), ⟨q, Or.inl ⟨hk, u3⟩⟩, ?_, by omega⟩
        show (if _ < 0 then pr else 1) + csL _ pr u (k + 1) = _
        have := hlw a
        rw [hk, if_pos (by omega), u4, h2]
      · have hm := mtB_le h3
        have hse := hS e h2
        rw [show enU (pkC n C S P lw 0 ln pr) C S lw ln (t + 1) a k g = enU (pkC n C S P lw 0 ln pr) C S lw ln t (a + S e) (k + 1) (jup g k ((C e : Nat) : Int)) from (if_pos q).trans ((if_neg (by omega)).trans (by rw [h1, Int.toNat_natCast]))]
        obtain ⟨u, u1, u2, u3, u4, u5⟩ := enU_msk (ln := ln) (pr := pr) hS hlw t (a + S e) (k + 1) (jup g k ((C e : Nat) : Int)) (by omega) (by omega)
        have hk : (enU (pkC n C S P lw 0 ln pr) C S lw ln t (a + S e) (k + 1) (jup g k ((C e : Nat) : Int))).2 k = ((C e : Nat) : Int) := (u2 k (by omega)).trans (jup_eq _ _ _)
        refine ⟨u + 1, by omega, fun i hi => (u2 i (by omega)).trans (jup_ne _ _ (by omega)), ⟨q, Or.inr ⟨e, h2, hk, hm, fun i hi => ?_, u3⟩⟩, ?_, by omega⟩
        · unfold mtB at h3
          rw [Bool.and_eq_true] at h3
          have := (smU_iff _ _ _).mp h3.2 i hi
          rw [this]
          congr 1
          omega
        · show (if _ < 0 then pr else 1) + csL _ pr u (k + 1) = _
          rw [hk, if_neg (by omega), u4, h4]
/-- each group is a plain word or an entry's code word -/
theorem MsK.kinds {n : Nat} {C S : Nat → Nat} {P lw : Nat → Int} {ln : Nat} {mg : Nat → Int} (hlw : ∀ t, 0 ≤ lw t) : ∀ (t g a : Nat), MsK n C S P lw ln mg t g a → ∀ j, g ≤ j → j < g + t → mg j < 0 ∨ ∃ e, e < n ∧ mg j = ((C e : Nat) : Int)
  | 0, g, a, _, j, h1, h2 => absurd h2 (by omega)
  | t + 1, g, a, h, j, h1, h2 => by
    rcases Nat.eq_or_lt_of_le h1 with q | q
    · subst q
      rcases h.2 with ⟨p, -⟩ | ⟨e, p1, p2, -⟩
      · have := hlw a
        exact Or.inl (by omega)
      · exact Or.inr ⟨e, p1, p2⟩
    · rcases h.2 with ⟨-, p⟩ | ⟨e, -, -, -, -, p⟩
      · exact MsK.kinds hlw t (g + 1) _ p j q (by omega)
      · exact MsK.kinds hlw t (g + 1) _ p j q (by omega)
/-! which entry a code word is read as -/
theorem fnU_none {cd : Nat → Nat} {c : Nat} : ∀ (t e : Nat), (∀ k, e ≤ k → k < e + t → cd k ≠ c) → fnU cd c t e = -1
  | 0, _, _ => rfl
  | t + 1, e, h => (if_neg (h e (by omega) (by omega))).trans (fnU_none t (e + 1) (fun k a b => h k (by omega) (by omega)))
theorem fnU_at {cd : Nat → Nat} {c q : Nat} (hq : cd q = c) : ∀ (t e : Nat), (∀ k, e ≤ k → k < q → cd k ≠ c) → e ≤ q → q < e + t → fnU cd c t e = ((q : Nat) : Int)
  | 0, e, _, h1, h2 => absurd h2 (by omega)
  | t + 1, e, h, h1, h2 => by
    rcases Nat.eq_or_lt_of_le h1 with z | z
    · subst z
      exact if_pos hq
    · exact (if_neg (h e (by omega) z)).trans (fnU_at hq t (e + 1) (fun k a b => h k (by omega) b) z (by omega))
theorem LkI.inj {n : Nat} {C : Nat → Nat} (h : LkI n C) {a b : Nat} (ha : a < n) (hb : b < n) (e : C a = C b) : a = b := by
  rcases Nat.lt_trichotomy a b with q | q | q
  · have := h a b q hb
    rw [e, lk_self] at this
    cases this
  · exact q
  · have := h b a q ha
    rw [e, lk_self] at this
    cases this
theorem LkI.ne {n : Nat} {C : Nat → Nat} (h : LkI n C) (hC : ∀ e, C e ≤ 11881375) {a b : Nat} (ha : a < n) (hb : b < n) (e : lk (C a) (C b) ≠ 0) : a = b := by
  rcases Nat.lt_trichotomy a b with q | q | q
  · exact absurd (h a b q hb) e
  · exact q
  · exact absurd (lk_sym (hC b) (hC a) (h b a q ha)) e
theorem rd_code {n : Nat} {C : Nat → Nat} (h : LkI n C) {e : Nat} (he : e < n) : rdR n C ((C e : Nat) : Int) = 1 ∧ rdE n C ((C e : Nat) : Int) = e := by
  have hf : fnU C (C e) n 0 = ((e : Nat) : Int) := fnU_at rfl n 0 (fun k _ hk q => absurd (h.inj (by omega) he q) (by omega)) (Nat.zero_le _) (by omega)
  unfold rdR rdE
  rw [Int.toNat_natCast, hf]
  refine ⟨?_, ?_⟩
  · rw [if_neg (by omega), if_neg (by omega)]
  · rw [if_neg (by omega), Int.toNat_natCast]
theorem rd_plain {n : Nat} {C : Nat → Nat} {x : Int} (h : x < 0) : rdR n C x = 0 := if_pos h
/-- the same, told by how each group is read -/
def MsR (n : Nat) (C S : Nat → Nat) (P lw : Nat → Int) (ln : Nat) (mg : Nat → Int) : Nat → Nat → Nat → Prop
  | 0, _, a => a = ln
  | t + 1, g, a => a < ln ∧ ((mg g = -1 - lw a ∧ MsR n C S P lw ln mg t (g + 1) (a + 1)) ∨ ∃ e, (0 ≤ mg g ∧ rdR n C (mg g) ≠ 3 ∧ rdE n C (mg g) = e) ∧ a + S e ≤ ln ∧ (∀ i, i < S e → P (e * 6 + i) = lw (a + i)) ∧ MsR n C S P lw ln mg t (g + 1) (a + S e))
theorem MsK.toR {n : Nat} {C S : Nat → Nat} {P lw : Nat → Int} {ln : Nat} {mg : Nat → Int} (hC : LkI n C) : ∀ (t g a : Nat), MsK n C S P lw ln mg t g a → MsR n C S P lw ln mg t g a
  | 0, g, a, h => h
  | t + 1, g, a, ⟨h, h2⟩ => by
    refine ⟨h, ?_⟩
    rcases h2 with ⟨p, q⟩ | ⟨e, p1, p2, p3, p4, q⟩
    · exact Or.inl ⟨p, MsK.toR hC t (g + 1) _ q⟩
    · refine Or.inr ⟨e, ?_, p3, p4, MsK.toR hC t (g + 1) _ q⟩
      obtain ⟨r1, r2⟩ := rd_code hC p1
      rw [p2]
      exact ⟨by omega, by omega, r2⟩
theorem MsK.toG {n : Nat} {C S : Nat → Nat} {P lw : Nat → Int} {ln : Nat} {mg : Nat → Int} (hC : LkI n C) (hlw : ∀ t, 0 ≤ lw t) {q e0 : Nat} {x : Int} (he : e0 < n) (hq : mg q = ((C e0 : Nat) : Int)) (hx : 0 ≤ x ∧ rdR n C x ≠ 3 ∧ rdE n C x = e0) : ∀ (t g a : Nat), MsK n C S P lw ln mg t g a → MsR n C S P lw ln (jup mg q x) t g a
  | 0, g, a, h => h
  | t + 1, g, a, ⟨h, h2⟩ => by
    refine ⟨h, ?_⟩
    rcases h2 with ⟨p, r⟩ | ⟨e, p1, p2, p3, p4, r⟩
    · have hg : g ≠ q := fun z => by
        subst z
        have := hlw a
        omega
      exact Or.inl ⟨(jup_ne _ _ hg).trans p, MsK.toG hC hlw he hq hx t (g + 1) _ r⟩
    · refine Or.inr ⟨e, ?_, p3, p4, MsK.toG hC hlw he hq hx t (g + 1) _ r⟩
      by_cases hg : g = q
      · have h3 : e = e0 := hC.inj p1 he (by rw [hg] at p2; omega)
        rw [hg, jup_eq, h3]
        exact hx
      · rw [jup_ne _ _ hg, p2]
        obtain ⟨r1, r2⟩ := rd_code hC p1
        exact ⟨by omega, by omega, r2⟩
/-- what is read is the line -/
theorem dcU_ok {n : Nat} {C S : Nat → Nat} {P lw : Nat → Int} {ln : Nat} {mg : Nat → Int} (hlw : ∀ t, 0 ≤ lw t) (hln : ln ≤ 40) : ∀ (t g a : Nat) (w r : Nat → Int) (x : Int), MsR n C S P lw ln mg t g a → (∀ i, i < a → w i = lw i) → (dcU n C S P mg t g a w r x).1 = ln ∧ ∀ i, i < ln → (dcU n C S P mg t g a w r x).2.1 i = lw i
  | 0, g, a, w, r, x, h, hw => by
    have h1 : a = ln := h
    subst h1
    exact ⟨rfl, hw⟩
  | t + 1, g, a, w, r, x, ⟨ha, h2⟩, hw => by
    rw [show dcU n C S P mg (t + 1) g a w r x = dcU n C S P mg t (g + 1) (rdN n C S (mg g) a) (rdF n C S P (mg g) a w) (jup r g (rdR n C (mg g))) (if rdR n C (mg g) = 3 then x + 1 else x) from rfl]
    rcases h2 with ⟨p, q⟩ | ⟨e, ⟨p1, p2, p3⟩, p4, p5, q⟩
    · have h0 := hlw a
      have e1 : rdN n C S (mg g) a = a + 1 := (if_pos (by omega)).trans (if_pos (by omega))
      have e2 : rdF n C S P (mg g) a w = jup w a (lw a) := (if_pos (by omega)).trans ((if_pos (by omega)).trans (by rw [p]; congr 1; omega))
      rw [e1, e2]
      refine dcU_ok hlw hln t (g + 1) (a + 1) _ _ _ q (fun i hi => ?_)
      by_cases z : i = a
      · rw [z, jup_eq]
      · rw [jup_ne _ _ z]
        exact hw i (by omega)
    · have e1 : rdN n C S (mg g) a = a + S e := (if_neg (by omega)).trans ((if_neg p2).trans (by rw [p3, alN_eq _ _ (by omega)]))
      have e2 : rdF n C S P (mg g) a w = alF P (S e) (e * 6) a w := (if_neg (by omega)).trans ((if_neg p2).trans (by rw [p3]))
      rw [e1, e2]
      refine dcU_ok hlw hln t (g + 1) (a + S e) _ _ _ q (fun i hi => ?_)
      rw [alF_eq _ _ _ _ _ (by omega)]
      by_cases z : a ≤ i ∧ i < a + S e
      · rw [if_pos z, p5 (i - a) (by omega)]
        congr 1
        omega
      · rw [if_neg z]
        exact hw i (by omega)
def c3 (n : Nat) (C : Nat → Nat) (mg : Nat → Int) : Nat → Nat → Int
  | 0, _ => 0
  | t + 1, g => (if rdR n C (mg g) = 3 then 1 else 0) + c3 n C mg t (g + 1)
theorem dcU_x {n : Nat} {C S : Nat → Nat} {P : Nat → Int} {mg : Nat → Int} : ∀ (t g l : Nat) (w r : Nat → Int) (x : Int), (dcU n C S P mg t g l w r x).2.2.2 = x + c3 n C mg t g
  | 0, g, l, w, r, x => (Int.add_zero x).symm
  | t + 1, g, l, w, r, x => by
    rw [show dcU n C S P mg (t + 1) g l w r x = dcU n C S P mg t (g + 1) (rdN n C S (mg g) l) (rdF n C S P (mg g) l w) (jup r g (rdR n C (mg g))) (if rdR n C (mg g) = 3 then x + 1 else x) from rfl, dcU_x t (g + 1)]
    show _ = x + ((if rdR n C (mg g) = 3 then 1 else 0) + c3 n C mg t (g + 1))
    split <;> omega
theorem dcU_r {n : Nat} {C S : Nat → Nat} {P : Nat → Int} {mg : Nat → Int} : ∀ (t g l : Nat) (w r : Nat → Int) (x : Int) (j : Nat), (dcU n C S P mg t g l w r x).2.2.1 j = if g ≤ j ∧ j < g + t then rdR n C (mg j) else r j
  | 0, g, l, w, r, x, j => (if_neg (by omega)).symm
  | t + 1, g, l, w, r, x, j => by
    rw [show dcU n C S P mg (t + 1) g l w r x = dcU n C S P mg t (g + 1) (rdN n C S (mg g) l) (rdF n C S P (mg g) l w) (jup r g (rdR n C (mg g))) (if rdR n C (mg g) = 3 then x + 1 else x) from rfl, dcU_r t (g + 1)]
    by_cases z : g + 1 ≤ j ∧ j < g + 1 + t
    · rw [if_pos z, if_pos (by omega)]
    · rw [if_neg z]
      by_cases y : j = g
      · subst y
        rw [jup_eq, if_pos (by omega)]
      · rw [jup_ne _ _ y, if_neg (by omega)]
theorem c3_0 {n : Nat} {C : Nat → Nat} {mg : Nat → Int} : ∀ (t g : Nat), (∀ j, g ≤ j → j < g + t → rdR n C (mg j) ≠ 3) → c3 n C mg t g = 0
  | 0, _, _ => rfl
  | t + 1, g, h => by
    show (if rdR n C (mg g) = 3 then 1 else 0) + c3 n C mg t (g + 1) = 0
    rw [if_neg (h g (by omega) (by omega)), c3_0 t (g + 1) (fun j a b => h j (by omega) (by omega))]
    rfl
theorem c3_1 {n : Nat} {C : Nat → Nat} {mg : Nat → Int} {q : Nat} (hq : rdR n C (mg q) = 3) : ∀ (t g : Nat), (∀ j, g ≤ j → j < g + t → j ≠ q → rdR n C (mg j) ≠ 3) → g ≤ q → q < g + t → c3 n C mg t g = 1
  | 0, g, _, h1, h2 => absurd h2 (by omega)
  | t + 1, g, h, h1, h2 => by
    show (if rdR n C (mg g) = 3 then 1 else 0) + c3 n C mg t (g + 1) = 1
    rcases Nat.eq_or_lt_of_le h1 with z | z
    · subst z
      rw [if_pos hq, c3_0 t (g + 1) (fun j a b => h j (by omega) (by omega) (by omega))]
      rfl
    · rw [if_neg (h g (by omega) (by omega) (by omega)), c3_1 hq t (g + 1) (fun j a b => h j (by omega) (by omega)) z (by omega)]
      rfl
/-! how many entries are near -/
def nrF (C : Nat → Nat) (x : Nat) : Nat → Nat
  | 0 => 0
  | e + 1 => nrF C x e + (if ofR (C e) x < 3 then 1 else 0)
theorem nrF_le {C : Nat → Nat} {x : Nat} : ∀ (d e : Nat), nrF C x e ≤ nrF C x (e + d) ∧ nrF C x e ≤ e
  | 0, 0 => ⟨Nat.le_refl _, Nat.le_refl _⟩
  | 0, e + 1 => by
    have h := (nrF_le (C := C) (x := x) 0 e).2
    refine ⟨Nat.le_refl _, ?_⟩
    show nrF C x e + (if ofR (C e) x < 3 then 1 else 0) ≤ e + 1
    split <;> omega
  | d + 1, e => by
    obtain ⟨h1, h2⟩ := nrF_le (C := C) (x := x) d e
    refine ⟨Nat.le_trans h1 ?_, h2⟩
    show nrF C x (e + d) ≤ nrF C x (e + d) + _
    exact Nat.le_add_right _ _
theorem olU_spec {C : Nat → Nat} {x n : Nat} (hC : ∀ e, C e ≤ 11881375) (hx : x ≤ 11881375) : ∀ (t e : Nat) (o : Int), e + t = n → ((o = -1 ∧ nrF C x e = 0 ∧ ∀ j, j < e → lk (C j) x = 0) ∨ ∃ k : Nat, o = ((k : Nat) : Int) ∧ k < e ∧ nrF C x e = 1 ∧ lk (C k) x ≠ 0 ∧ ∀ j, j < e → lk (C j) x ≠ 0 → j = k) → (olU C x t e o = -1 ∧ nrF C x n ≠ 1) ∨ ∃ k : Nat, olU C x t e o = ((k : Nat) : Int) ∧ k < n ∧ nrF C x n = 1 ∧ lk (C k) x ≠ 0 ∧ ∀ j, j < n → lk (C j) x ≠ 0 → j = k
  | 0, e, o, he, h => by
    have : e = n := by omega
    subst this
    rcases h with ⟨h1, h2, -⟩ | h
    · exact Or.inl ⟨h1, by omega⟩
    · exact Or.inr h
  | t + 1, e, o, he, h => by
    have hlt := ofR_lt (hC e) hx
    have hs : nrF C x (e + 1) = nrF C x e + (if ofR (C e) x < 3 then 1 else 0) := rfl
    rw [show olU C x (t + 1) e o = if lk (C e) x = 0 then olU C x t (e + 1) o else if o = -1 then olU C x t (e + 1) ((e : Nat) : Int) else -1 from rfl]
    by_cases z : lk (C e) x = 0
    · rw [if_pos z]
      rw [if_neg (fun y => hlt.mp y z)] at hs
      refine olU_spec hC hx t (e + 1) o (by omega) ?_
      rcases h with ⟨h1, h2, h3⟩ | ⟨k, h1, h2, h3, h4, h5⟩
      · exact Or.inl ⟨h1, by omega, fun j hj => by
          by_cases y : j = e
          · rw [y]; exact z
          · exact h3 j (by omega)⟩
      · exact Or.inr ⟨k, h1, by omega, by omega, h4, fun j hj hk => by
          by_cases y : j = e
          · rw [y] at hk; exact absurd z hk
          · exact h5 j (by omega) hk⟩
    · rw [if_neg z]
      rw [if_pos (hlt.mpr z)] at hs
      rcases h with ⟨h1, h2, h3⟩ | ⟨k, h1, h2, h3, h4, h5⟩
      · rw [if_pos h1]
        exact olU_spec hC hx t (e + 1) _ (by omega) (Or.inr ⟨e, rfl, by omega, by omega, z, fun j hj hk => by
          by_cases y : j = e
          · exact y
          · exact absurd (h3 j (by omega)) hk⟩)
      · rw [if_neg (by omega)]
        have h6 := (nrF_le (C := C) (x := x) t (e + 1)).1
        rw [show e + 1 + t = n by omega] at h6
        exact Or.inl ⟨rfl, by omega⟩
theorem nrF_pos {C : Nat → Nat} {x n q : Nat} (hq : q < n) (h : ofR (C q) x < 3) : 1 ≤ nrF C x n := by
  have h1 := (nrF_le (C := C) (x := x) (n - (q + 1)) (q + 1)).1
  rw [show q + 1 + (n - (q + 1)) = n by omega] at h1
  have h2 : nrF C x (q + 1) = nrF C x q + 1 := by
    show nrF C x q + (if ofR (C q) x < 3 then 1 else 0) = _
    rw [if_pos h]
  omega
/-- a garbled letter: the word isn't there, and it is read as its entry unless two are as near -/
theorem grb {n : Nat} {C : Nat → Nat} (h : LkI n C) (hC : ∀ e, C e ≤ 11881375) {e0 : Nat} (he : e0 < n) {p l : Nat} (hp : p ≤ 4) (hl : l < 26) (hn : l ≠ ltr (C e0) p) : fnU C (wlt (C e0) p l) n 0 = -1 ∧ 1 ≤ nrF C (wlt (C e0) p l) n ∧ (nrF C (wlt (C e0) p l) n = 1 → rdR n C ((wlt (C e0) p l : Nat) : Int) = 2 ∧ rdE n C ((wlt (C e0) p l : Nat) : Int) = e0) ∧ (nrF C (wlt (C e0) p l) n ≠ 1 → rdR n C ((wlt (C e0) p l : Nat) : Int) = 3) := by
  obtain ⟨h1, h2⟩ := wlt_lk (hC e0) hl hp hn
  have hx := wlt_le (hC e0) hl p hp
  have hf : fnU C (wlt (C e0) p l) n 0 = -1 := fnU_none n 0 (fun k _ hk q => by
    rw [← q] at h1 h2
    exact h2 (by rw [h.ne hC he (by omega) h1]))
  refine ⟨hf, nrF_pos he ((ofR_lt (hC e0) hx).mpr h1), ?_⟩
  unfold rdR rdE
  rw [Int.toNat_natCast, hf, if_neg (by omega), if_pos rfl, if_pos rfl]
  rcases olU_spec (n := n) hC hx n 0 (-1) (by omega) (Or.inl ⟨rfl, rfl, fun j hj => absurd hj (by omega)⟩) with ⟨q1, q2⟩ | ⟨k, q1, q2, q3, q4, q5⟩
  · rw [q1, if_pos rfl]
    exact ⟨fun y => absurd y q2, fun _ => rfl⟩
  · rw [q1, if_neg (by omega)]
    exact ⟨fun _ => ⟨rfl, by rw [Int.toNat_natCast]; exact (q5 e0 he h1).symm⟩, fun y => absurd q3 y⟩
/-! the units -/
theorem usL_lo {lu : Nat → Int} {m lo : Nat} (hm : 0 < m) (h : ∀ i, i < m → ((lo : Nat) : Int) ≤ lu i) : ∀ (t x : Nat), ((lo : Nat) : Int) * ((t : Nat) : Int) ≤ usL lu m t x
  | 0, _ => by show _ ≤ (0 : Int); simp
  | t + 1, x => by
    have h1 := h (x % m) (Nat.mod_lt _ hm)
    have h2 := usL_lo hm h t (x / m)
    show _ ≤ lu (x % m) + usL lu m t (x / m)
    rw [show ((t + 1 : Nat) : Int) = ((t : Nat) : Int) + 1 from rfl, Int.mul_add, Int.mul_one]
    omega
theorem tmL_lo {lu du m : Nat → Int} (h1 : ∀ i, i < 26 → ((1 : Nat) : Int) ≤ lu i) (h2 : ∀ i, i < 10 → ((9 : Nat) : Int) ≤ du i) : ∀ (t a : Nat), 17 * ((t : Nat) : Int) ≤ tmL lu du m t a
  | 0, _ => by show _ ≤ (0 : Int); simp
  | t + 1, a => by
    have h3 := tmL_lo (m := m) h1 h2 t (a + 1)
    show _ ≤ (if a = 0 then 0 else 7) + tmG lu du (m a) + tmL lu du m t (a + 1)
    have h4 : 17 ≤ tmG lu du (m a) := by
      unfold tmG
      by_cases z : m a < 0
      · rw [if_pos z]
        have := usL_lo (by omega) h2 4 (-1 - m a).toNat
        omega
      · rw [if_neg z]
        have := usL_lo (by omega) h1 5 (m a).toNat
        omega
    split <;> omega
