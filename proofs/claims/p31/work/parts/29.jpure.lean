/-! ===== what two ways of counting have in common ===== -/
theorem ltr_0 {c : Nat} : ltr c 0 = c / 456976 % 26 := rfl
theorem ltr_1 {c : Nat} : ltr c 1 = c / 17576 % 26 := rfl
theorem ltr_2 {c : Nat} : ltr c 2 = c / 676 % 26 := rfl
theorem ltr_3 {c : Nat} : ltr c 3 = c / 26 % 26 := rfl
theorem ltr_4 {c : Nat} : ltr c 4 = c % 26 := by
  show c / 26 ^ 0 % 26 = c % 26
  rw [Nat.pow_zero, Nat.div_one]
/-- a number of five letters -/
theorem dig5 {c : Nat} (h : c ≤ 11881375) : ∃ d0 d1 d2 d3 d4 : Nat, d0 < 26 ∧ d1 < 26 ∧ d2 < 26 ∧ d3 < 26 ∧ d4 < 26 ∧ c = (((d4 * 26 + d3) * 26 + d2) * 26 + d1) * 26 + d0 :=
  ⟨c % 26, c / 26 % 26, c / 26 / 26 % 26, c / 26 / 26 / 26 % 26, c / 26 / 26 / 26 / 26, by omega, by omega, by omega, by omega, by omega, by omega⟩
theorem ltr_d {d0 d1 d2 d3 d4 : Nat} (h0 : d0 < 26) (h1 : d1 < 26) (h2 : d2 < 26) (h3 : d3 < 26) (h4 : d4 < 26) : ltr ((((d4 * 26 + d3) * 26 + d2) * 26 + d1) * 26 + d0) 0 = d4 ∧ ltr ((((d4 * 26 + d3) * 26 + d2) * 26 + d1) * 26 + d0) 1 = d3 ∧ ltr ((((d4 * 26 + d3) * 26 + d2) * 26 + d1) * 26 + d0) 2 = d2 ∧ ltr ((((d4 * 26 + d3) * 26 + d2) * 26 + d1) * 26 + d0) 3 = d1 ∧ ltr ((((d4 * 26 + d3) * 26 + d2) * 26 + d1) * 26 + d0) 4 = d0 := by
  rw [ltr_0, ltr_1, ltr_2, ltr_3, ltr_4]
  refine ⟨by omega, by omega, by omega, by omega, by omega⟩
theorem wlt_d {d0 d1 d2 d3 d4 l : Nat} (h0 : d0 < 26) (h1 : d1 < 26) (h2 : d2 < 26) (h3 : d3 < 26) (h4 : d4 < 26) : wlt ((((d4 * 26 + d3) * 26 + d2) * 26 + d1) * 26 + d0) 0 l = (((l * 26 + d3) * 26 + d2) * 26 + d1) * 26 + d0 ∧ wlt ((((d4 * 26 + d3) * 26 + d2) * 26 + d1) * 26 + d0) 1 l = (((d4 * 26 + l) * 26 + d2) * 26 + d1) * 26 + d0 ∧ wlt ((((d4 * 26 + d3) * 26 + d2) * 26 + d1) * 26 + d0) 2 l = (((d4 * 26 + d3) * 26 + l) * 26 + d1) * 26 + d0 ∧ wlt ((((d4 * 26 + d3) * 26 + d2) * 26 + d1) * 26 + d0) 3 l = (((d4 * 26 + d3) * 26 + d2) * 26 + l) * 26 + d0 ∧ wlt ((((d4 * 26 + d3) * 26 + d2) * 26 + d1) * 26 + d0) 4 l = (((d4 * 26 + d3) * 26 + d2) * 26 + d1) * 26 + l := by
  refine ⟨?_, ?_, ?_, ?_, ?_⟩
  · show _ / 11881376 * 11881376 + l * 456976 + _ % 456976 = _; omega
  · show _ / 456976 * 456976 + l * 17576 + _ % 17576 = _; omega
  · show _ / 17576 * 17576 + l * 676 + _ % 676 = _; omega
  · show _ / 676 * 676 + l * 26 + _ % 26 = _; omega
  · show _ / 26 * 26 + l * 1 + _ % 1 = _; omega
theorem swp_d {d0 d1 d2 d3 d4 : Nat} (h0 : d0 < 26) (h1 : d1 < 26) (h2 : d2 < 26) (h3 : d3 < 26) (h4 : d4 < 26) : swp ((((d4 * 26 + d3) * 26 + d2) * 26 + d1) * 26 + d0) 0 = (((d3 * 26 + d4) * 26 + d2) * 26 + d1) * 26 + d0 ∧ swp ((((d4 * 26 + d3) * 26 + d2) * 26 + d1) * 26 + d0) 1 = (((d4 * 26 + d2) * 26 + d3) * 26 + d1) * 26 + d0 ∧ swp ((((d4 * 26 + d3) * 26 + d2) * 26 + d1) * 26 + d0) 2 = (((d4 * 26 + d3) * 26 + d1) * 26 + d2) * 26 + d0 ∧ swp ((((d4 * 26 + d3) * 26 + d2) * 26 + d1) * 26 + d0) 3 = (((d4 * 26 + d3) * 26 + d2) * 26 + d0) * 26 + d1 := by
  obtain ⟨l0, l1, l2, l3, l4⟩ := ltr_d h0 h1 h2 h3 h4
  refine ⟨?_, ?_, ?_, ?_⟩
  · show wlt (wlt _ 0 (ltr _ 1)) 1 (ltr _ 0) = _
    rw [l1, l0, (wlt_d h0 h1 h2 h3 h4).1, (wlt_d h0 h1 h2 h3 h3).2.1]
  · show wlt (wlt _ 1 (ltr _ 2)) 2 (ltr _ 1) = _
    rw [l2, l1, (wlt_d h0 h1 h2 h3 h4).2.1, (wlt_d h0 h1 h2 h2 h4).2.2.1]
  · show wlt (wlt _ 2 (ltr _ 3)) 3 (ltr _ 2) = _
    rw [l3, l2, (wlt_d h0 h1 h2 h3 h4).2.2.1, (wlt_d h0 h1 h1 h3 h4).2.2.2.1]
  · show wlt (wlt _ 3 (ltr _ 4)) 4 (ltr _ 3) = _
    rw [l4, l3, (wlt_d h0 h1 h2 h3 h4).2.2.2.1, (wlt_d h0 h0 h2 h3 h4).2.2.2.2]
theorem swp_le {c p : Nat} (hc : c ≤ 11881375) (hp : p ≤ 3) : swp c p ≤ 11881375 := wlt_le (wlt_le hc (ltr_lt _ _) _ (by omega)) (ltr_lt _ _) _ (by omega)
/-- letters that differ -/
def offN (a b p : Nat) : Nat := if ltr a p = ltr b p then 0 else 1
def offS (a b : Nat) : Nat := offN a b 0 + offN a b 1 + offN a b 2 + offN a b 3 + offN a b 4
def swB (a b : Nat) : Prop := swp a 0 = b ∨ swp a 1 = b ∨ swp a 2 = b ∨ swp a 3 = b
theorem dstep {X Y d e : Nat} (hd : d < 26) (he : e < 26) : X * 26 + d = Y * 26 + e ↔ X = Y ∧ d = e := by omega
theorem dqr {X d : Nat} (hd : d < 26) : (X * 26 + d) % 26 = d ∧ (X * 26 + d) / 26 = X := by omega
theorem lk_fin {A B S : Prop} {v n : Nat} (hx : (A → v = 3) ∧ (¬ A → B → v = 4) ∧ (¬ A → ¬ B → v = 0)) (h1 : n = 1 ↔ A) (h2 : ¬ A → (S ↔ B)) : (n = 1 → v = 3) ∧ (n ≠ 1 → S → v = 4) ∧ (n ≠ 1 → ¬ S → v = 0) :=
  ⟨fun q => hx.1 (h1.mp q), fun q w => hx.2.1 (fun a => q (h1.mpr a)) ((h2 (fun a => q (h1.mpr a))).mp w), fun q w => hx.2.2 (fun a => q (h1.mpr a)) (fun b => w ((h2 (fun a => q (h1.mpr a))).mpr b))⟩
set_option maxHeartbeats 400000 in
theorem lk_off {a b : Nat} (ha : a ≤ 11881375) (hb : b ≤ 11881375) (hab : a ≠ b) : (offS a b = 1 → lk a b = 3) ∧ (offS a b ≠ 1 → swB a b → lk a b = 4) ∧ (offS a b ≠ 1 → ¬ swB a b → lk a b = 0) := by
  have hk : lk a b = lkL 4 a b := if_neg hab
  rw [hk]
  obtain ⟨d0, d1, d2, d3, d4, h0, h1, h2, h3, h4, rfl⟩ := dig5 ha
  obtain ⟨e0, e1, e2, e3, e4, g0, g1, g2, g3, g4, rfl⟩ := dig5 hb
  obtain ⟨l0, l1, l2, l3, l4⟩ := ltr_d h0 h1 h2 h3 h4
  obtain ⟨m0, m1, m2, m3, m4⟩ := ltr_d g0 g1 g2 g3 g4
  obtain ⟨s0, s1, s2, s3⟩ := swp_d h0 h1 h2 h3 h4
  have ho : ∀ p x y : Nat, ltr ((((d4 * 26 + d3) * 26 + d2) * 26 + d1) * 26 + d0) p = x → ltr ((((e4 * 26 + e3) * 26 + e2) * 26 + e1) * 26 + e0) p = y → (x = y ∧ offN ((((d4 * 26 + d3) * 26 + d2) * 26 + d1) * 26 + d0) ((((e4 * 26 + e3) * 26 + e2) * 26 + e1) * 26 + e0) p = 0) ∨ (x ≠ y ∧ offN ((((d4 * 26 + d3) * 26 + d2) * 26 + d1) * 26 + d0) ((((e4 * 26 + e3) * 26 + e2) * 26 + e1) * 26 + e0) p = 1) := fun p x y hx hy => by
    unfold offN
    rw [hx, hy]
    by_cases q : x = y
    · exact Or.inl ⟨q, if_pos q⟩
    · exact Or.inr ⟨q, if_neg q⟩
  have o0 := ho 0 d4 e4 l0 m0
  have o1 := ho 1 d3 e3 l1 m1
  have o2 := ho 2 d2 e2 l2 m2
  have o3 := ho 3 d1 e1 l3 m3
  have o4 := ho 4 d0 e0 l4 m4
  have sw : swB ((((d4 * 26 + d3) * 26 + d2) * 26 + d1) * 26 + d0) ((((e4 * 26 + e3) * 26 + e2) * 26 + e1) * 26 + e0) ↔ (d3 = e4 ∧ d4 = e3 ∧ d2 = e2 ∧ d1 = e1 ∧ d0 = e0) ∨ (d4 = e4 ∧ d2 = e3 ∧ d3 = e2 ∧ d1 = e1 ∧ d0 = e0) ∨ (d4 = e4 ∧ d3 = e3 ∧ d1 = e2 ∧ d2 = e1 ∧ d0 = e0) ∨ (d4 = e4 ∧ d3 = e3 ∧ d2 = e2 ∧ d0 = e1 ∧ d1 = e0) := by
    unfold swB
    rw [s0, s1, s2, s3, dstep h0 g0, dstep h1 g1, dstep h2 g2, dstep h4 g3, dstep h0 g0, dstep h1 g1, dstep h3 g2, dstep h2 g3, dstep h0 g0, dstep h2 g1, dstep h1 g2, dstep h3 g3, dstep h1 g0, dstep h0 g1, dstep h2 g2, dstep h3 g3]
    simp only [and_assoc]
  have hne : ¬ (d4 = e4 ∧ d3 = e3 ∧ d2 = e2 ∧ d1 = e1 ∧ d0 = e0) := fun q => hab (by rw [q.1, q.2.1, q.2.2.1, q.2.2.2.1, q.2.2.2.2])
  rw [sw]
  unfold offS
  generalize offN ((((d4 * 26 + d3) * 26 + d2) * 26 + d1) * 26 + d0) ((((e4 * 26 + e3) * 26 + e2) * 26 + e1) * 26 + e0) 0 = n0 at o0 ⊢
  generalize offN ((((d4 * 26 + d3) * 26 + d2) * 26 + d1) * 26 + d0) ((((e4 * 26 + e3) * 26 + e2) * 26 + e1) * 26 + e0) 1 = n1 at o1 ⊢
  generalize offN ((((d4 * 26 + d3) * 26 + d2) * 26 + d1) * 26 + d0) ((((e4 * 26 + e3) * 26 + e2) * 26 + e1) * 26 + e0) 2 = n2 at o2 ⊢
  generalize offN ((((d4 * 26 + d3) * 26 + d2) * 26 + d1) * 26 + d0) ((((e4 * 26 + e3) * 26 + e2) * 26 + e1) * 26 + e0) 3 = n3 at o3 ⊢
  generalize offN ((((d4 * 26 + d3) * 26 + d2) * 26 + d1) * 26 + d0) ((((e4 * 26 + e3) * 26 + e2) * 26 + e1) * 26 + e0) 4 = n4 at o4 ⊢
  clear ho l0 l1 l2 l3 l4 m0 m1 m2 m3 m4 s0 s1 s2 s3 hk sw hab ha hb
  have hE : ∀ X Y d e : Nat, d < 26 → e < 26 → (X = Y → lkE (X * 26 + d) (Y * 26 + e) = 3) ∧ (X ≠ Y → (d = Y % 26 ∧ e = X % 26 ∧ X / 26 = Y / 26) → lkE (X * 26 + d) (Y * 26 + e) = 4) ∧ (X ≠ Y → ¬ (d = Y % 26 ∧ e = X % 26 ∧ X / 26 = Y / 26) → lkE (X * 26 + d) (Y * 26 + e) = 0) := fun X Y d e hd he => by
    unfold lkE
    rw [(dqr hd).1, (dqr he).1, (dqr hd).2, (dqr he).2]
    exact ⟨fun q => if_pos q, fun q q2 => (if_neg q).trans (if_pos q2), fun q q2 => (if_neg q).trans (if_neg q2)⟩
  have step : ∀ t X Y d e : Nat, d < 26 → e < 26 → lkL (t + 1) (X * 26 + d) (Y * 26 + e) = if d = e then lkL t X Y else lkE (X * 26 + d) (Y * 26 + e) := fun t X Y d e hd he => by
    show (if (X * 26 + d) % 26 = (Y * 26 + e) % 26 then lkL t ((X * 26 + d) / 26) ((Y * 26 + e) / 26) else lkE (X * 26 + d) (Y * 26 + e)) = _
    rw [(dqr hd).1, (dqr he).1, (dqr hd).2, (dqr he).2]
  rw [step _ _ _ _ _ h0 g0]
  by_cases c0 : d0 = e0
  · rw [if_pos c0, step _ _ _ _ _ h1 g1]
    by_cases c1 : d1 = e1
    · rw [if_pos c1, step _ _ _ _ _ h2 g2]
      by_cases c2 : d2 = e2
      · rw [if_pos c2, step _ _ _ _ _ h3 g3]
        by_cases c3 : d3 = e3
        · rw [if_pos c3]
          have hx : d4 / 26 = e4 / 26 := by rw [Nat.div_eq_of_lt h4, Nat.div_eq_of_lt g4]
          rw [show lkL 0 d4 e4 = lkE d4 e4 from rfl, show lkE d4 e4 = 3 from if_pos hx]
          have hn1 : n0 + n1 + n2 + n3 + n4 = 1 := by
            have hd : d4 ≠ e4 := fun q => hne ⟨q, c3, c2, c1, c0⟩
            have w4 : n4 = 0 := o4.elim (fun q => q.2) (fun q => absurd c0 q.1)
            have w3 : n3 = 0 := o3.elim (fun q => q.2) (fun q => absurd c1 q.1)
            have w2 : n2 = 0 := o2.elim (fun q => q.2) (fun q => absurd c2 q.1)
            have w1 : n1 = 0 := o1.elim (fun q => q.2) (fun q => absurd c3 q.1)
            have w0 : n0 = 1 := o0.elim (fun q => absurd q.1 hd) (fun q => q.2)
            rw [w0, w1, w2, w3, w4]
          exact ⟨fun _ => rfl, fun q => absurd hn1 q, fun q => absurd hn1 q⟩
        · rw [if_neg c3]
          have hx := hE d4 e4 d3 e3 h3 g3
          rw [Nat.mod_eq_of_lt h4, Nat.mod_eq_of_lt g4, Nat.div_eq_of_lt h4, Nat.div_eq_of_lt g4] at hx
          clear hE step
          refine lk_fin hx ?_ (fun hA => ?_)
          · clear hne hx
            rcases o4 with ⟨a4, rfl⟩ | ⟨a4, rfl⟩ <;> rcases o3 with ⟨a3, rfl⟩ | ⟨a3, rfl⟩ <;> rcases o2 with ⟨a2, rfl⟩ | ⟨a2, rfl⟩ <;> rcases o1 with ⟨a1, rfl⟩ | ⟨a1, rfl⟩ <;> rcases o0 with ⟨a0, rfl⟩ | ⟨a0, rfl⟩ <;> simp_all
          · clear hne hx o0 o1 o2 o3 o4 hA
            omega
      · rw [if_neg c2]
        have hx := hE (d4 * 26 + d3) (e4 * 26 + e3) d2 e2 h2 g2
        rw [(dqr h3).1, (dqr g3).1, (dqr h3).2, (dqr g3).2, Ne, dstep h3 g3] at hx
        clear hE step
        refine lk_fin hx ?_ (fun hA => ?_)
        · clear hne hx
          rcases o4 with ⟨a4, rfl⟩ | ⟨a4, rfl⟩ <;> rcases o3 with ⟨a3, rfl⟩ | ⟨a3, rfl⟩ <;> rcases o2 with ⟨a2, rfl⟩ | ⟨a2, rfl⟩ <;> rcases o1 with ⟨a1, rfl⟩ | ⟨a1, rfl⟩ <;> rcases o0 with ⟨a0, rfl⟩ | ⟨a0, rfl⟩ <;> simp_all
        · clear hne hx o0 o1 o2 o3 o4 hA
          omega
    · rw [if_neg c1]
      have hx := hE ((d4 * 26 + d3) * 26 + d2) ((e4 * 26 + e3) * 26 + e2) d1 e1 h1 g1
      rw [(dqr h2).1, (dqr g2).1, (dqr h2).2, (dqr g2).2, Ne, dstep h2 g2, dstep h3 g3] at hx
      clear hE step
      refine lk_fin hx ?_ (fun hA => ?_)
      · clear hne hx
        rcases o4 with ⟨a4, rfl⟩ | ⟨a4, rfl⟩ <;> rcases o3 with ⟨a3, rfl⟩ | ⟨a3, rfl⟩ <;> rcases o2 with ⟨a2, rfl⟩ | ⟨a2, rfl⟩ <;> rcases o1 with ⟨a1, rfl⟩ | ⟨a1, rfl⟩ <;> rcases o0 with ⟨a0, rfl⟩ | ⟨a0, rfl⟩ <;> simp_all
      · clear hne hx o0 o1 o2 o3 o4 hA
        omega
  · rw [if_neg c0]
    have hx := hE (((d4 * 26 + d3) * 26 + d2) * 26 + d1) (((e4 * 26 + e3) * 26 + e2) * 26 + e1) d0 e0 h0 g0
    rw [(dqr h1).1, (dqr g1).1, (dqr h1).2, (dqr g1).2, Ne, dstep h1 g1, dstep h2 g2, dstep h3 g3] at hx
    clear hE step
    refine lk_fin hx ?_ (fun hA => ?_)
    · clear hne hx
      rcases o4 with ⟨a4, rfl⟩ | ⟨a4, rfl⟩ <;> rcases o3 with ⟨a3, rfl⟩ | ⟨a3, rfl⟩ <;> rcases o2 with ⟨a2, rfl⟩ | ⟨a2, rfl⟩ <;> rcases o1 with ⟨a1, rfl⟩ | ⟨a1, rfl⟩ <;> rcases o0 with ⟨a0, rfl⟩ | ⟨a0, rfl⟩ <;> simp_all
    · clear hne hx o0 o1 o2 o3 o4 hA
      omega
