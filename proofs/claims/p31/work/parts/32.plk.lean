/-! ===== likeness is of both sides; the law's own measure ===== -/
theorem offN_sym (a b p : Nat) : offN a b p = offN b a p := by
  unfold offN
  by_cases h : ltr a p = ltr b p
  · rw [if_pos h, if_pos h.symm]
  · rw [if_neg h, if_neg (fun q => h q.symm)]
theorem offS_sym (a b : Nat) : offS a b = offS b a := by
  unfold offS
  rw [offN_sym a b 0, offN_sym a b 1, offN_sym a b 2, offN_sym a b 3, offN_sym a b 4]
theorem num5 {x0 x1 x2 x3 x4 y0 y1 y2 y3 y4 : Nat} (h0 : x0 < 26) (h1 : x1 < 26) (h2 : x2 < 26) (h3 : x3 < 26) (g0 : y0 < 26) (g1 : y1 < 26) (g2 : y2 < 26) (g3 : y3 < 26) : (((x4 * 26 + x3) * 26 + x2) * 26 + x1) * 26 + x0 = (((y4 * 26 + y3) * 26 + y2) * 26 + y1) * 26 + y0 ↔ x4 = y4 ∧ x3 = y3 ∧ x2 = y2 ∧ x1 = y1 ∧ x0 = y0 := by
  rw [dstep h0 g0, dstep h1 g1, dstep h2 g2, dstep h3 g3]
  constructor
  · rintro ⟨⟨⟨⟨a, b⟩, c⟩, d⟩, e⟩
    exact ⟨a, b, c, d, e⟩
  · rintro ⟨a, b, c, d, e⟩
    exact ⟨⟨⟨⟨a, b⟩, c⟩, d⟩, e⟩
theorem eq_l {a b : Nat} (ha : a ≤ 11881375) (hb : b ≤ 11881375) : a = b ↔ ltr a 0 = ltr b 0 ∧ ltr a 1 = ltr b 1 ∧ ltr a 2 = ltr b 2 ∧ ltr a 3 = ltr b 3 ∧ ltr a 4 = ltr b 4 := by
  obtain ⟨a0, a1, a2, a3, a4, ha0, ha1, ha2, ha3, ha4, rfl⟩ := dig5 ha
  obtain ⟨b0, b1, b2, b3, b4, hb0, hb1, hb2, hb3, hb4, rfl⟩ := dig5 hb
  obtain ⟨l0, l1, l2, l3, l4⟩ := ltr_d ha0 ha1 ha2 ha3 ha4
  obtain ⟨m0, m1, m2, m3, m4⟩ := ltr_d hb0 hb1 hb2 hb3 hb4
  rw [l0, l1, l2, l3, l4, m0, m1, m2, m3, m4]
  exact num5 ha0 ha1 ha2 ha3 hb0 hb1 hb2 hb3
theorem swB_l {a b : Nat} (ha : a ≤ 11881375) (hb : b ≤ 11881375) : swB a b ↔ (ltr a 0 = ltr b 1 ∧ ltr a 1 = ltr b 0 ∧ ltr a 2 = ltr b 2 ∧ ltr a 3 = ltr b 3 ∧ ltr a 4 = ltr b 4) ∨ (ltr a 0 = ltr b 0 ∧ ltr a 1 = ltr b 2 ∧ ltr a 2 = ltr b 1 ∧ ltr a 3 = ltr b 3 ∧ ltr a 4 = ltr b 4) ∨ (ltr a 0 = ltr b 0 ∧ ltr a 1 = ltr b 1 ∧ ltr a 2 = ltr b 3 ∧ ltr a 3 = ltr b 2 ∧ ltr a 4 = ltr b 4) ∨ (ltr a 0 = ltr b 0 ∧ ltr a 1 = ltr b 1 ∧ ltr a 2 = ltr b 2 ∧ ltr a 3 = ltr b 4 ∧ ltr a 4 = ltr b 3) := by
  obtain ⟨a0, a1, a2, a3, a4, ha0, ha1, ha2, ha3, ha4, rfl⟩ := dig5 ha
  obtain ⟨b0, b1, b2, b3, b4, hb0, hb1, hb2, hb3, hb4, rfl⟩ := dig5 hb
  obtain ⟨l0, l1, l2, l3, l4⟩ := ltr_d ha0 ha1 ha2 ha3 ha4
  obtain ⟨m0, m1, m2, m3, m4⟩ := ltr_d hb0 hb1 hb2 hb3 hb4
  obtain ⟨s0, s1, s2, s3⟩ := swp_d ha0 ha1 ha2 ha3 ha4
  unfold swB
  rw [s0, s1, s2, s3, l0, l1, l2, l3, l4, m0, m1, m2, m3, m4, num5 ha0 ha1 ha2 ha4 hb0 hb1 hb2 hb3, num5 ha0 ha1 ha3 ha2 hb0 hb1 hb2 hb3, num5 ha0 ha2 ha1 ha3 hb0 hb1 hb2 hb3, num5 ha1 ha0 ha2 ha3 hb0 hb1 hb2 hb3]
  clear s0 s1 s2 s3 l0 l1 l2 l3 l4 m0 m1 m2 m3 m4
  constructor
  · rintro (⟨p, q, r, s, t⟩ | ⟨p, q, r, s, t⟩ | ⟨p, q, r, s, t⟩ | ⟨p, q, r, s, t⟩)
    · exact Or.inl ⟨q, p, r, s, t⟩
    · exact Or.inr (Or.inl ⟨p, r, q, s, t⟩)
    · exact Or.inr (Or.inr (Or.inl ⟨p, q, s, r, t⟩))
    · exact Or.inr (Or.inr (Or.inr ⟨p, q, r, t, s⟩))
  · rintro (⟨p, q, r, s, t⟩ | ⟨p, q, r, s, t⟩ | ⟨p, q, r, s, t⟩ | ⟨p, q, r, s, t⟩)
    · exact Or.inl ⟨q, p, r, s, t⟩
    · exact Or.inr (Or.inl ⟨p, r, q, s, t⟩)
    · exact Or.inr (Or.inr (Or.inl ⟨p, q, s, r, t⟩))
    · exact Or.inr (Or.inr (Or.inr ⟨p, q, r, t, s⟩))
theorem lk_self (a : Nat) : lk a a = 2 := if_pos rfl
theorem lk_iff {a b : Nat} (ha : a ≤ 11881375) (hb : b ≤ 11881375) : lk a b ≠ 0 ↔ a = b ∨ offS a b = 1 ∨ swB a b := by
  by_cases hab : a = b
  · subst hab
    rw [lk_self]
    exact ⟨fun _ => Or.inl rfl, fun _ => by decide⟩
  · obtain ⟨h1, h2, h3⟩ := lk_off ha hb hab
    constructor
    · intro h
      by_cases q : offS a b = 1
      · exact Or.inr (Or.inl q)
      · by_cases r : swB a b
        · exact Or.inr (Or.inr r)
        · exact absurd (h3 q r) h
    · rintro (h | h | h)
      · exact absurd h hab
      · rw [h1 h]; decide
      · by_cases q : offS a b = 1
        · rw [h1 q]; decide
        · rw [h2 q h]; decide
theorem swB_sym {a b : Nat} (ha : a ≤ 11881375) (hb : b ≤ 11881375) (h : swB a b) : swB b a := by
  rw [swB_l ha hb] at h
  rw [swB_l hb ha]
  rcases h with ⟨p, q, r, s, t⟩ | ⟨p, q, r, s, t⟩ | ⟨p, q, r, s, t⟩ | ⟨p, q, r, s, t⟩
  · exact Or.inl ⟨q.symm, p.symm, r.symm, s.symm, t.symm⟩
  · exact Or.inr (Or.inl ⟨p.symm, r.symm, q.symm, s.symm, t.symm⟩)
  · exact Or.inr (Or.inr (Or.inl ⟨p.symm, q.symm, s.symm, r.symm, t.symm⟩))
  · exact Or.inr (Or.inr (Or.inr ⟨p.symm, q.symm, r.symm, t.symm, s.symm⟩))
theorem lk_sym {a b : Nat} (ha : a ≤ 11881375) (hb : b ≤ 11881375) (h : lk a b = 0) : lk b a = 0 := by
  by_cases q : lk b a = 0
  · exact q
  · refine absurd h ((lk_iff ha hb).mpr ?_)
    rcases (lk_iff hb ha).mp q with r | r | r
    · exact Or.inl r.symm
    · exact Or.inr (Or.inl ((offS_sym a b).trans r))
    · exact Or.inr (Or.inr (swB_sym hb ha r))
/-- one letter changed -/
theorem wlt_lk {c p l : Nat} (hc : c ≤ 11881375) (hl : l < 26) (hp : p ≤ 4) (hn : l ≠ ltr c p) : lk c (wlt c p l) ≠ 0 ∧ c ≠ wlt c p l := by
  have hw := wlt_le hc hl p hp
  have key : offS c (wlt c p l) = 1 ∧ c ≠ wlt c p l := by
    obtain ⟨d0, d1, d2, d3, d4, h0, h1, h2, h3, h4, rfl⟩ := dig5 hc
    obtain ⟨w0, w1, w2, w3, w4⟩ := wlt_d (l := l) h0 h1 h2 h3 h4
    obtain ⟨l0, l1, l2, l3, l4⟩ := ltr_d h0 h1 h2 h3 h4
    match p, hp with

    | 0, _ =>
      rw [l0] at hn
      rw [w0]
      obtain ⟨m0, m1, m2, m3, m4⟩ := ltr_d h0 h1 h2 h3 hl
      refine ⟨?_, fun q => ?_⟩
      · unfold offS offN
        rw [l0, l1, l2, l3, l4, m0, m1, m2, m3, m4]
        simp
        exact fun q => hn q.symm
      · have z := congrArg (fun x => ltr x 0) q
        have z2 : d4 = l := (l0.symm.trans z).trans m0
        exact hn z2.symm
    | 1, _ =>
      rw [l1] at hn
      rw [w1]
      obtain ⟨m0, m1, m2, m3, m4⟩ := ltr_d h0 h1 h2 hl h4
      refine ⟨?_, fun q => ?_⟩
      · unfold offS offN
        rw [l0, l1, l2, l3, l4, m0, m1, m2, m3, m4]
        simp
        exact fun q => hn q.symm
      · have z := congrArg (fun x => ltr x 1) q
        have z2 : d3 = l := (l1.symm.trans z).trans m1
        exact hn z2.symm
    | 2, _ =>
      rw [l2] at hn
      rw [w2]
      obtain ⟨m0, m1, m2, m3, m4⟩ := ltr_d h0 h1 hl h3 h4
      refine ⟨?_, fun q => ?_⟩
      · unfold offS offN
        rw [l0, l1, l2, l3, l4, m0, m1, m2, m3, m4]
        simp
        exact fun q => hn q.symm
      · have z := congrArg (fun x => ltr x 2) q
        have z2 : d2 = l := (l2.symm.trans z).trans m2
        exact hn z2.symm
    | 3, _ =>
      rw [l3] at hn
      rw [w3]
      obtain ⟨m0, m1, m2, m3, m4⟩ := ltr_d h0 hl h2 h3 h4
      refine ⟨?_, fun q => ?_⟩
      · unfold offS offN
        rw [l0, l1, l2, l3, l4, m0, m1, m2, m3, m4]
        simp
        exact fun q => hn q.symm
      · have z := congrArg (fun x => ltr x 3) q
        have z2 : d1 = l := (l3.symm.trans z).trans m3
        exact hn z2.symm
    | 4, _ =>
      rw [l4] at hn
      rw [w4]
      obtain ⟨m0, m1, m2, m3, m4⟩ := ltr_d hl h1 h2 h3 h4
      refine ⟨?_, fun q => ?_⟩
      · unfold offS offN
        rw [l0, l1, l2, l3, l4, m0, m1, m2, m3, m4]
        simp
        exact fun q => hn q.symm
      · have z := congrArg (fun x => ltr x 4) q
        have z2 : d0 = l := (l4.symm.trans z).trans m4
        exact hn z2.symm
  exact ⟨(lk_iff hc hw).mpr (Or.inr (Or.inl key.1)), key.2⟩
/-- the law's off: how many letters differ, the first, the last -/
def ofU (a b : Nat) : Nat → Nat → Nat → Int → Int → Nat × Int × Int
  | 0, _, m, f, l => (m, f, l)
  | t + 1, k, m, f, l => if ltr a k = ltr b k then ofU a b t (k + 1) m f l else ofU a b t (k + 1) (m + 1) (if f < 0 then ((k : Nat) : Int) else f) ((k : Nat) : Int)
def ofE (a b : Nat) (r : Nat × Int × Int) : Nat := if r.1 < 2 then r.1 else if r.1 = 2 ∧ r.2.2 = r.2.1 + 1 ∧ ltr a r.2.1.toNat = ltr b r.2.2.toNat ∧ ltr a r.2.2.toNat = ltr b r.2.1.toNat then 2 else 3
def ofR (a b : Nat) : Nat := ofE a b (ofU a b 5 0 0 (-1) (-1))
theorem ofE_1 {a b m : Nat} {f l : Int} (h : m < 2) : ofE a b (m, f, l) < 3 ↔ True := by
  unfold ofE
  rw [if_pos h]
  exact ⟨fun _ => trivial, fun _ => by show m < 3; omega⟩
theorem ofE_3 {a b m : Nat} {f l : Int} (h : 2 < m) : ofE a b (m, f, l) < 3 ↔ False := by
  unfold ofE
  rw [if_neg (show ¬ m < 2 by omega), if_neg (fun q => absurd q.1 (show m ≠ 2 by omega))]
  exact ⟨fun q => absurd q (by decide), False.elim⟩
theorem ofE_2n {a b : Nat} {f l : Int} (h : l ≠ f + 1) : ofE a b (2, f, l) < 3 ↔ False := by
  unfold ofE
  rw [if_neg (show ¬ 2 < 2 by omega), if_neg (fun q => absurd q.2.1 h)]
  exact ⟨fun q => absurd q (by decide), False.elim⟩
theorem ofE_2 {a b i j : Nat} (h : j = i + 1) : ofE a b (2, ((i : Nat) : Int), ((j : Nat) : Int)) < 3 ↔ ltr a i = ltr b j ∧ ltr a j = ltr b i := by
  unfold ofE
  rw [if_neg (show ¬ 2 < 2 by omega)]
  constructor
  · intro q
    by_cases z : (2 = 2 ∧ ((j : Nat) : Int) = ((i : Nat) : Int) + 1 ∧ ltr a ((i : Nat) : Int).toNat = ltr b ((j : Nat) : Int).toNat ∧ ltr a ((j : Nat) : Int).toNat = ltr b ((i : Nat) : Int).toNat)
    · exact z.2.2
    · rw [if_neg z] at q
      exact absurd q (by decide)
  · intro q
    rw [if_pos ⟨rfl, by show ((j : Nat) : Int) = ((i : Nat) : Int) + 1; omega, q⟩]
    decide
theorem ofU_e {a b t k m : Nat} {f l : Int} (h : ltr a k = ltr b k) : ofU a b (t + 1) k m f l = ofU a b t (k + 1) m f l := if_pos h
theorem ofU_f {a b t k m : Nat} (h : ltr a k ≠ ltr b k) : ofU a b (t + 1) k m (-1) (-1) = ofU a b t (k + 1) (m + 1) ((k : Nat) : Int) ((k : Nat) : Int) := if_neg h
theorem ofU_n {a b t k m i : Nat} {l : Int} (h : ltr a k ≠ ltr b k) : ofU a b (t + 1) k m ((i : Nat) : Int) l = ofU a b t (k + 1) (m + 1) ((i : Nat) : Int) ((k : Nat) : Int) := (if_neg h).trans (by rw [if_neg (by omega)])

set_option maxHeartbeats 4000000 in
theorem ofR_lt {a b : Nat} (ha : a ≤ 11881375) (hb : b ≤ 11881375) : ofR a b < 3 ↔ lk a b ≠ 0 := by
  rw [lk_iff ha hb, eq_l ha hb, swB_l ha hb]
  unfold offS offN ofR
  by_cases e0 : ltr a 0 = ltr b 0
  · by_cases e1 : ltr a 1 = ltr b 1
    · by_cases e2 : ltr a 2 = ltr b 2
      · by_cases e3 : ltr a 3 = ltr b 3
        · by_cases e4 : ltr a 4 = ltr b 4
          · rw [show ofU a b 5 0 0 (-1) (-1) = _ from ofU_e e0, ofU_e e1, ofU_e e2, ofU_e e3, ofU_e e4, show ofU a b 0 5 0 (-1) (-1) = (0, -1, -1) from rfl]
            rw [if_pos e0]
            rw [if_pos e1]
            rw [if_pos e2]
            rw [if_pos e3]
            rw [if_pos e4]
            rw [ofE_1 (by decide)]
            first | (simp [*]; done) | omega
          · rw [show ofU a b 5 0 0 (-1) (-1) = _ from ofU_e e0, ofU_e e1, ofU_e e2, ofU_e e3, ofU_f e4, show ofU a b 0 5 1 ((4 : Nat) : Int) ((4 : Nat) : Int) = (1, ((4 : Nat) : Int), ((4 : Nat) : Int)) from rfl]
            rw [if_pos e0]
            rw [if_pos e1]
            rw [if_pos e2]
            rw [if_pos e3]
            rw [if_neg e4]
            rw [ofE_1 (by decide)]
            first | (simp [*]; done) | omega
        · by_cases e4 : ltr a 4 = ltr b 4
          · rw [show ofU a b 5 0 0 (-1) (-1) = _ from ofU_e e0, ofU_e e1, ofU_e e2, ofU_f e3, ofU_e e4, show ofU a b 0 5 1 ((3 : Nat) : Int) ((3 : Nat) : Int) = (1, ((3 : Nat) : Int), ((3 : Nat) : Int)) from rfl]
            rw [if_pos e0]
            rw [if_pos e1]
            rw [if_pos e2]
            rw [if_neg e3]
            rw [if_pos e4]
            rw [ofE_1 (by decide)]
            first | (simp [*]; done) | omega
          · rw [show ofU a b 5 0 0 (-1) (-1) = _ from ofU_e e0, ofU_e e1, ofU_e e2, ofU_f e3, ofU_n e4, show ofU a b 0 5 2 ((3 : Nat) : Int) ((4 : Nat) : Int) = (2, ((3 : Nat) : Int), ((4 : Nat) : Int)) from rfl]
            rw [if_pos e0]
            rw [if_pos e1]
            rw [if_pos e2]
            rw [if_neg e3]
            rw [if_neg e4]
            rw [ofE_2 (by decide)]
            first | (simp [*]; done) | omega
      · by_cases e3 : ltr a 3 = ltr b 3
        · by_cases e4 : ltr a 4 = ltr b 4
          · rw [show ofU a b 5 0 0 (-1) (-1) = _ from ofU_e e0, ofU_e e1, ofU_f e2, ofU_e e3, ofU_e e4, show ofU a b 0 5 1 ((2 : Nat) : Int) ((2 : Nat) : Int) = (1, ((2 : Nat) : Int), ((2 : Nat) : Int)) from rfl]
            rw [if_pos e0]
            rw [if_pos e1]
            rw [if_neg e2]
            rw [if_pos e3]
            rw [if_pos e4]
            rw [ofE_1 (by decide)]
            first | (simp [*]; done) | omega
          · rw [show ofU a b 5 0 0 (-1) (-1) = _ from ofU_e e0, ofU_e e1, ofU_f e2, ofU_e e3, ofU_n e4, show ofU a b 0 5 2 ((2 : Nat) : Int) ((4 : Nat) : Int) = (2, ((2 : Nat) : Int), ((4 : Nat) : Int)) from rfl]
            rw [if_pos e0]
            rw [if_pos e1]
            rw [if_neg e2]
            rw [if_pos e3]
            rw [if_neg e4]
            rw [ofE_2n (by decide)]
            first | (simp [*]; done) | omega
        · by_cases e4 : ltr a 4 = ltr b 4
          · rw [show ofU a b 5 0 0 (-1) (-1) = _ from ofU_e e0, ofU_e e1, ofU_f e2, ofU_n e3, ofU_e e4, show ofU a b 0 5 2 ((2 : Nat) : Int) ((3 : Nat) : Int) = (2, ((2 : Nat) : Int), ((3 : Nat) : Int)) from rfl]
            rw [if_pos e0]
            rw [if_pos e1]
            rw [if_neg e2]
            rw [if_neg e3]
            rw [if_pos e4]
            rw [ofE_2 (by decide)]
            first | (simp [*]; done) | omega
          · rw [show ofU a b 5 0 0 (-1) (-1) = _ from ofU_e e0, ofU_e e1, ofU_f e2, ofU_n e3, ofU_n e4, show ofU a b 0 5 3 ((2 : Nat) : Int) ((4 : Nat) : Int) = (3, ((2 : Nat) : Int), ((4 : Nat) : Int)) from rfl]
            rw [if_pos e0]
            rw [if_pos e1]
            rw [if_neg e2]
            rw [if_neg e3]
            rw [if_neg e4]
            rw [ofE_3 (by decide)]
            first | (simp [*]; done) | omega
    · by_cases e2 : ltr a 2 = ltr b 2
      · by_cases e3 : ltr a 3 = ltr b 3
        · by_cases e4 : ltr a 4 = ltr b 4
          · rw [show ofU a b 5 0 0 (-1) (-1) = _ from ofU_e e0, ofU_f e1, ofU_e e2, ofU_e e3, ofU_e e4, show ofU a b 0 5 1 ((1 : Nat) : Int) ((1 : Nat) : Int) = (1, ((1 : Nat) : Int), ((1 : Nat) : Int)) from rfl]
            rw [if_pos e0]
            rw [if_neg e1]
            rw [if_pos e2]
            rw [if_pos e3]
            rw [if_pos e4]
            rw [ofE_1 (by decide)]
            first | (simp [*]; done) | omega
          · rw [show ofU a b 5 0 0 (-1) (-1) = _ from ofU_e e0, ofU_f e1, ofU_e e2, ofU_e e3, ofU_n e4, show ofU a b 0 5 2 ((1 : Nat) : Int) ((4 : Nat) : Int) = (2, ((1 : Nat) : Int), ((4 : Nat) : Int)) from rfl]
            rw [if_pos e0]
            rw [if_neg e1]
            rw [if_pos e2]
            rw [if_pos e3]
            rw [if_neg e4]
            rw [ofE_2n (by decide)]
            first | (simp [*]; done) | omega
        · by_cases e4 : ltr a 4 = ltr b 4
          · rw [show ofU a b 5 0 0 (-1) (-1) = _ from ofU_e e0, ofU_f e1, ofU_e e2, ofU_n e3, ofU_e e4, show ofU a b 0 5 2 ((1 : Nat) : Int) ((3 : Nat) : Int) = (2, ((1 : Nat) : Int), ((3 : Nat) : Int)) from rfl]
            rw [if_pos e0]
            rw [if_neg e1]
            rw [if_pos e2]
            rw [if_neg e3]
            rw [if_pos e4]
            rw [ofE_2n (by decide)]
            first | (simp [*]; done) | omega
          · rw [show ofU a b 5 0 0 (-1) (-1) = _ from ofU_e e0, ofU_f e1, ofU_e e2, ofU_n e3, ofU_n e4, show ofU a b 0 5 3 ((1 : Nat) : Int) ((4 : Nat) : Int) = (3, ((1 : Nat) : Int), ((4 : Nat) : Int)) from rfl]
            rw [if_pos e0]
            rw [if_neg e1]
            rw [if_pos e2]
            rw [if_neg e3]
            rw [if_neg e4]
            rw [ofE_3 (by decide)]
            first | (simp [*]; done) | omega
      · by_cases e3 : ltr a 3 = ltr b 3
        · by_cases e4 : ltr a 4 = ltr b 4
          · rw [show ofU a b 5 0 0 (-1) (-1) = _ from ofU_e e0, ofU_f e1, ofU_n e2, ofU_e e3, ofU_e e4, show ofU a b 0 5 2 ((1 : Nat) : Int) ((2 : Nat) : Int) = (2, ((1 : Nat) : Int), ((2 : Nat) : Int)) from rfl]
            rw [if_pos e0]
            rw [if_neg e1]
            rw [if_neg e2]
            rw [if_pos e3]
            rw [if_pos e4]
            rw [ofE_2 (by decide)]
            first | (simp [*]; done) | omega
          · rw [show ofU a b 5 0 0 (-1) (-1) = _ from ofU_e e0, ofU_f e1, ofU_n e2, ofU_e e3, ofU_n e4, show ofU a b 0 5 3 ((1 : Nat) : Int) ((4 : Nat) : Int) = (3, ((1 : Nat) : Int), ((4 : Nat) : Int)) from rfl]
            rw [if_pos e0]
            rw [if_neg e1]
            rw [if_neg e2]
            rw [if_pos e3]
            rw [if_neg e4]
            rw [ofE_3 (by decide)]
            first | (simp [*]; done) | omega
        · by_cases e4 : ltr a 4 = ltr b 4
          · rw [show ofU a b 5 0 0 (-1) (-1) = _ from ofU_e e0, ofU_f e1, ofU_n e2, ofU_n e3, ofU_e e4, show ofU a b 0 5 3 ((1 : Nat) : Int) ((3 : Nat) : Int) = (3, ((1 : Nat) : Int), ((3 : Nat) : Int)) from rfl]
            rw [if_pos e0]
            rw [if_neg e1]
            rw [if_neg e2]
            rw [if_neg e3]
            rw [if_pos e4]
            rw [ofE_3 (by decide)]
            first | (simp [*]; done) | omega
          · rw [show ofU a b 5 0 0 (-1) (-1) = _ from ofU_e e0, ofU_f e1, ofU_n e2, ofU_n e3, ofU_n e4, show ofU a b 0 5 4 ((1 : Nat) : Int) ((4 : Nat) : Int) = (4, ((1 : Nat) : Int), ((4 : Nat) : Int)) from rfl]
            rw [if_pos e0]
            rw [if_neg e1]
            rw [if_neg e2]
            rw [if_neg e3]
            rw [if_neg e4]
            rw [ofE_3 (by decide)]
            first | (simp [*]; done) | omega
  · by_cases e1 : ltr a 1 = ltr b 1
    · by_cases e2 : ltr a 2 = ltr b 2
      · by_cases e3 : ltr a 3 = ltr b 3
        · by_cases e4 : ltr a 4 = ltr b 4
          · rw [show ofU a b 5 0 0 (-1) (-1) = _ from ofU_f e0, ofU_e e1, ofU_e e2, ofU_e e3, ofU_e e4, show ofU a b 0 5 1 ((0 : Nat) : Int) ((0 : Nat) : Int) = (1, ((0 : Nat) : Int), ((0 : Nat) : Int)) from rfl]
            rw [if_neg e0]
            rw [if_pos e1]
            rw [if_pos e2]
            rw [if_pos e3]
            rw [if_pos e4]
            rw [ofE_1 (by decide)]
            first | (simp [*]; done) | omega
          · rw [show ofU a b 5 0 0 (-1) (-1) = _ from ofU_f e0, ofU_e e1, ofU_e e2, ofU_e e3, ofU_n e4, show ofU a b 0 5 2 ((0 : Nat) : Int) ((4 : Nat) : Int) = (2, ((0 : Nat) : Int), ((4 : Nat) : Int)) from rfl]
            rw [if_neg e0]
            rw [if_pos e1]
            rw [if_pos e2]
            rw [if_pos e3]
            rw [if_neg e4]
            rw [ofE_2n (by decide)]
            first | (simp [*]; done) | omega
        · by_cases e4 : ltr a 4 = ltr b 4
          · rw [show ofU a b 5 0 0 (-1) (-1) = _ from ofU_f e0, ofU_e e1, ofU_e e2, ofU_n e3, ofU_e e4, show ofU a b 0 5 2 ((0 : Nat) : Int) ((3 : Nat) : Int) = (2, ((0 : Nat) : Int), ((3 : Nat) : Int)) from rfl]
            rw [if_neg e0]
            rw [if_pos e1]
            rw [if_pos e2]
            rw [if_neg e3]
            rw [if_pos e4]
            rw [ofE_2n (by decide)]
            first | (simp [*]; done) | omega
          · rw [show ofU a b 5 0 0 (-1) (-1) = _ from ofU_f e0, ofU_e e1, ofU_e e2, ofU_n e3, ofU_n e4, show ofU a b 0 5 3 ((0 : Nat) : Int) ((4 : Nat) : Int) = (3, ((0 : Nat) : Int), ((4 : Nat) : Int)) from rfl]
            rw [if_neg e0]
            rw [if_pos e1]
            rw [if_pos e2]
            rw [if_neg e3]
            rw [if_neg e4]
            rw [ofE_3 (by decide)]
            first | (simp [*]; done) | omega
      · by_cases e3 : ltr a 3 = ltr b 3
        · by_cases e4 : ltr a 4 = ltr b 4
          · rw [show ofU a b 5 0 0 (-1) (-1) = _ from ofU_f e0, ofU_e e1, ofU_n e2, ofU_e e3, ofU_e e4, show ofU a b 0 5 2 ((0 : Nat) : Int) ((2 : Nat) : Int) = (2, ((0 : Nat) : Int), ((2 : Nat) : Int)) from rfl]
            rw [if_neg e0]
            rw [if_pos e1]
            rw [if_neg e2]
            rw [if_pos e3]
            rw [if_pos e4]
            rw [ofE_2n (by decide)]
            first | (simp [*]; done) | omega
          · rw [show ofU a b 5 0 0 (-1) (-1) = _ from ofU_f e0, ofU_e e1, ofU_n e2, ofU_e e3, ofU_n e4, show ofU a b 0 5 3 ((0 : Nat) : Int) ((4 : Nat) : Int) = (3, ((0 : Nat) : Int), ((4 : Nat) : Int)) from rfl]
            rw [if_neg e0]
            rw [if_pos e1]
            rw [if_neg e2]
            rw [if_pos e3]
            rw [if_neg e4]
            rw [ofE_3 (by decide)]
            first | (simp [*]; done) | omega
        · by_cases e4 : ltr a 4 = ltr b 4
          · rw [show ofU a b 5 0 0 (-1) (-1) = _ from ofU_f e0, ofU_e e1, ofU_n e2, ofU_n e3, ofU_e e4, show ofU a b 0 5 3 ((0 : Nat) : Int) ((3 : Nat) : Int) = (3, ((0 : Nat) : Int), ((3 : Nat) : Int)) from rfl]
            rw [if_neg e0]
            rw [if_pos e1]
            rw [if_neg e2]
            rw [if_neg e3]
            rw [if_pos e4]
            rw [ofE_3 (by decide)]
            first | (simp [*]; done) | omega
          · rw [show ofU a b 5 0 0 (-1) (-1) = _ from ofU_f e0, ofU_e e1, ofU_n e2, ofU_n e3, ofU_n e4, show ofU a b 0 5 4 ((0 : Nat) : Int) ((4 : Nat) : Int) = (4, ((0 : Nat) : Int), ((4 : Nat) : Int)) from rfl]
            rw [if_neg e0]
            rw [if_pos e1]
            rw [if_neg e2]
            rw [if_neg e3]
            rw [if_neg e4]
            rw [ofE_3 (by decide)]
            first | (simp [*]; done) | omega
    · by_cases e2 : ltr a 2 = ltr b 2
      · by_cases e3 : ltr a 3 = ltr b 3
        · by_cases e4 : ltr a 4 = ltr b 4
          · rw [show ofU a b 5 0 0 (-1) (-1) = _ from ofU_f e0, ofU_n e1, ofU_e e2, ofU_e e3, ofU_e e4, show ofU a b 0 5 2 ((0 : Nat) : Int) ((1 : Nat) : Int) = (2, ((0 : Nat) : Int), ((1 : Nat) : Int)) from rfl]
            rw [if_neg e0]
            rw [if_neg e1]
            rw [if_pos e2]
            rw [if_pos e3]
            rw [if_pos e4]
            rw [ofE_2 (by decide)]
            first | (simp [*]; done) | omega
          · rw [show ofU a b 5 0 0 (-1) (-1) = _ from ofU_f e0, ofU_n e1, ofU_e e2, ofU_e e3, ofU_n e4, show ofU a b 0 5 3 ((0 : Nat) : Int) ((4 : Nat) : Int) = (3, ((0 : Nat) : Int), ((4 : Nat) : Int)) from rfl]
            rw [if_neg e0]
            rw [if_neg e1]
            rw [if_pos e2]
            rw [if_pos e3]
            rw [if_neg e4]
            rw [ofE_3 (by decide)]
            first | (simp [*]; done) | omega
        · by_cases e4 : ltr a 4 = ltr b 4
          · rw [show ofU a b 5 0 0 (-1) (-1) = _ from ofU_f e0, ofU_n e1, ofU_e e2, ofU_n e3, ofU_e e4, show ofU a b 0 5 3 ((0 : Nat) : Int) ((3 : Nat) : Int) = (3, ((0 : Nat) : Int), ((3 : Nat) : Int)) from rfl]
            rw [if_neg e0]
            rw [if_neg e1]
            rw [if_pos e2]
            rw [if_neg e3]
            rw [if_pos e4]
            rw [ofE_3 (by decide)]
            first | (simp [*]; done) | omega
          · rw [show ofU a b 5 0 0 (-1) (-1) = _ from ofU_f e0, ofU_n e1, ofU_e e2, ofU_n e3, ofU_n e4, show ofU a b 0 5 4 ((0 : Nat) : Int) ((4 : Nat) : Int) = (4, ((0 : Nat) : Int), ((4 : Nat) : Int)) from rfl]
            rw [if_neg e0]
            rw [if_neg e1]
            rw [if_pos e2]
            rw [if_neg e3]
            rw [if_neg e4]
            rw [ofE_3 (by decide)]
            first | (simp [*]; done) | omega
      · by_cases e3 : ltr a 3 = ltr b 3
        · by_cases e4 : ltr a 4 = ltr b 4
          · rw [show ofU a b 5 0 0 (-1) (-1) = _ from ofU_f e0, ofU_n e1, ofU_n e2, ofU_e e3, ofU_e e4, show ofU a b 0 5 3 ((0 : Nat) : Int) ((2 : Nat) : Int) = (3, ((0 : Nat) : Int), ((2 : Nat) : Int)) from rfl]
            rw [if_neg e0]
            rw [if_neg e1]
            rw [if_neg e2]
            rw [if_pos e3]
            rw [if_pos e4]
            rw [ofE_3 (by decide)]
            first | (simp [*]; done) | omega
          · rw [show ofU a b 5 0 0 (-1) (-1) = _ from ofU_f e0, ofU_n e1, ofU_n e2, ofU_e e3, ofU_n e4, show ofU a b 0 5 4 ((0 : Nat) : Int) ((4 : Nat) : Int) = (4, ((0 : Nat) : Int), ((4 : Nat) : Int)) from rfl]
            rw [if_neg e0]
            rw [if_neg e1]
            rw [if_neg e2]
            rw [if_pos e3]
            rw [if_neg e4]
            rw [ofE_3 (by decide)]
            first | (simp [*]; done) | omega
        · by_cases e4 : ltr a 4 = ltr b 4
          · rw [show ofU a b 5 0 0 (-1) (-1) = _ from ofU_f e0, ofU_n e1, ofU_n e2, ofU_n e3, ofU_e e4, show ofU a b 0 5 4 ((0 : Nat) : Int) ((3 : Nat) : Int) = (4, ((0 : Nat) : Int), ((3 : Nat) : Int)) from rfl]
            rw [if_neg e0]
            rw [if_neg e1]
            rw [if_neg e2]
            rw [if_neg e3]
            rw [if_pos e4]
            rw [ofE_3 (by decide)]
            first | (simp [*]; done) | omega
          · rw [show ofU a b 5 0 0 (-1) (-1) = _ from ofU_f e0, ofU_n e1, ofU_n e2, ofU_n e3, ofU_n e4, show ofU a b 0 5 5 ((0 : Nat) : Int) ((4 : Nat) : Int) = (5, ((0 : Nat) : Int), ((4 : Nat) : Int)) from rfl]
            rw [if_neg e0]
            rw [if_neg e1]
            rw [if_neg e2]
            rw [if_neg e3]
            rw [if_neg e4]
            rw [ofE_3 (by decide)]
            first | (simp [*]; done) | omega
