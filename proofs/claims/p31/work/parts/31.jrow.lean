/-! rows of the small machine that the law wants: shifts, masks, room rounded up, locals forgotten -/
theorem J.ishr {X : jX} {M : jMt} {rm : Room} {pc : Nat} {lc st : List Value} {k n : Nat} {σ : jS} {Q : jOut → jS → Prop} {x y : Int32} (d : decode M.2.1 pc = .ok (.ishr, 1)) (kk : J X M rm (pc + 1) lc (.int (x >>> (y &&& 31)) :: st) k n σ Q) : J X M rm pc lc (.int y :: .int x :: st) k n σ Q := by
  intro p e s m args below meth c A ad0 σ0 H locs ls ad C Y hS hl ol os
  obtain ⟨⟨hx, hb, hml, hr, htab⟩, ⟨hown, hlk, hnm, hlt⟩, hts, hA, hK, hN, h5⟩ := id C
  exact lv_ishr hx hb d (kk p e s m args below meth c A ad0 σ0 H locs ls ad C Y hS hl ol (jok_cons trivial (jok_tl (jok_tl os))))
theorem J.shr {X : jX} {M : jMt} {rm : Room} {pc : Nat} {lc st : List Value} {k n : Nat} {σ : jS} {Q : jOut → jS → Prop} {a b : Int} (d : decode M.2.1 pc = .ok (.ishr, 1)) (kk : ∀ v : Int, inI v → J X M rm (pc + 1) lc (vI v :: st) k n σ Q) : J X M rm pc lc (vI b :: vI a :: st) k n σ Q := by
  obtain ⟨v, hv, he⟩ := iI_of (iI a >>> (iI b &&& 31))
  refine J.ishr d ?_
  rw [he]
  exact kk v hv
theorem msk (x : Int32) : ∃ c : Nat, c < 2147483648 ∧ x &&& iI 2147483647 = iI (c : Int) := by
  refine ⟨(x &&& iI 2147483647).toBitVec.toNat, ?_, ?_⟩
  · show (x.toBitVec &&& 2147483647#32).toNat < 2147483648
    rw [BitVec.toNat_and]
    exact Nat.lt_of_le_of_lt Nat.and_le_right (by decide)
  · apply Int32.toBitVec_inj.mp
    show (x &&& iI 2147483647).toBitVec = BitVec.ofInt 32 _
    rw [BitVec.ofInt_natCast, BitVec.ofNat_toNat, BitVec.setWidth_eq]
theorem J.widen {X : jX} {M : jMt} {rm : Room} {pc : Nat} {lc st : List Value} {k n : Nat} (k' n' : Nat) {σ : jS} {Q : jOut → jS → Prop} (hk : k ≤ k') (hn : n ≤ n') (kk : J X M rm pc lc st k' n' σ Q) : J X M rm pc lc st k n σ Q := by
  intro p e s m args below meth c A ad0 σ0 H locs ls ad C Y hS hl ol os
  exact W.widen hk hn (kk p e s m args below meth c A ad0 σ0 H locs ls ad C Y hS hl ol os)
def fgt : List Value → List Value → Prop
  | a :: l, b :: l' => (b = .null ∨ b = a) ∧ fgt l l'
  | [], [] => True
  | _, _ => False
theorem fgt_at : ∀ {l l' : List Value}, fgt l l' → ∀ (i : Nat) (v : Value), l'[i]? = some v → v ≠ .null → l[i]? = some v
  | [], [], _, i, v, h, _ => by simp at h
  | [], _ :: _, h, _, _, _, _ => h.elim
  | _ :: _, [], h, _, _, _, _ => h.elim
  | a :: l, b :: l', h, 0, v, hv, hn => by
    have h1 : b = v := Option.some.inj hv
    subst h1
    exact congrArg some (h.1.resolve_left hn).symm
  | a :: l, b :: l', h, i + 1, v, hv, hn => fgt_at h.2 i v hv hn
theorem fgt_ok {n : Nat} : ∀ {l l' : List Value}, fgt l l' → jok n l → jok n l'
  | [], [], _, _ => fun v h => by cases h
  | [], _ :: _, h, _ => h.elim
  | _ :: _, [], h, _ => h.elim
  | a :: l, b :: l', h, hl => jok_cons (h.1.elim (fun e => by rw [e]; trivial) (fun e => by rw [e]; exact jok_hd hl)) (fgt_ok h.2 (jok_tl hl))
theorem J.forget {X : jX} {M : jMt} {rm : Room} {pc : Nat} {lc st : List Value} {k n : Nat} {σ : jS} {Q : jOut → jS → Prop} (lc' : List Value) (h : fgt lc lc') (kk : J X M rm pc lc' st k n σ Q) : J X M rm pc lc st k n σ Q := by
  intro p e s m args below meth c A ad0 σ0 H locs ls ad C Y hS hl ol os
  exact kk p e s m args below meth c A ad0 σ0 H locs ls ad C Y hS ⟨hl.1, hl.2.1, fun i v hv hn => hl.2.2 i v (fgt_at h i v hv hn) hn⟩ (fgt_ok h ol) os
