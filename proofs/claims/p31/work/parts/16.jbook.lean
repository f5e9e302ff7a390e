/-! ===== books ===== -/
def BK (σ : jS) (i n : Nat) (cd sz : Nat → Nat) (ph : Nat → Int) : Prop :=
  σ.2 i = jO 0 [.ref (i + 1), .ref (i + 2), .ref (i + 3), vI ((n : Nat) : Int)] ∧ σ.2 (i + 1) = jI 40 (fun e => ((cd e : Nat) : Int)) ∧ σ.2 (i + 2) = jI 40 (fun e => ((sz e : Nat) : Int)) ∧ σ.2 (i + 3) = jI 240 ph
/-- nothing but the four cells from i on has changed -/
def Fr4 (σ σ' : jS) (i : Nat) : Prop := σ'.1 = σ.1 ∧ ∀ j, (j < i ∨ i + 3 < j) → σ'.2 j = σ.2 j
theorem BK.keep {σ σ' : jS} {i n : Nat} {cd sz : Nat → Nat} {ph : Nat → Int} (h : BK σ i n cd sz ph) (h' : ∀ j, i ≤ j → j ≤ i + 3 → σ'.2 j = σ.2 j) : BK σ' i n cd sz ph := by
  obtain ⟨a, b, c, d⟩ := h
  exact ⟨(h' _ (by omega) (by omega)).trans a, (h' _ (by omega) (by omega)).trans b, (h' _ (by omega) (by omega)).trans c, (h' _ (by omega) (by omega)).trans d⟩
theorem jup_cast (f : Nat → Nat) (n v : Nat) : jup (fun e => ((f e : Nat) : Int)) n ((v : Nat) : Int) = fun e => ((jup f n v e : Nat) : Int) := funext fun t => by
  unfold jup
  by_cases h : t = n
  · rw [if_pos h, if_pos h]
  · rw [if_neg h, if_neg h]
def jcpN (f g : Nat → Nat) (sp dp n : Nat) : Nat → Nat := fun t => if dp ≤ t ∧ t < dp + n then f (sp + (t - dp)) else g t
theorem jcp_cast (f g : Nat → Nat) (a b c : Nat) : jcp (fun e => ((f e : Nat) : Int)) (fun e => ((g e : Nat) : Int)) a b c = fun e => ((jcpN f g a b c e : Nat) : Int) := funext fun t => by
  unfold jcp jcpN
  by_cases h : b ≤ t ∧ t < b + c
  · rw [if_pos h, if_pos h]
  · rw [if_neg h, if_neg h]
def fnU (cd : Nat → Nat) (c : Nat) : Nat → Nat → Int
  | 0, _ => -1
  | t + 1, e => if cd e = c then ((e : Nat) : Int) else fnU cd c t (e + 1)
def rsU (cd : Nat → Nat) (c : Nat) : Nat → Nat → Nat → Nat
  | 0, _, r => r
  | t + 1, e, r => rsU cd c t (e + 1) (if lk (cd e) c ≠ 0 ∧ (r = 0 ∨ lk (cd e) c < r) then lk (cd e) c else r)
def rsn (n : Nat) (cd : Nat → Nat) (c : Nat) : Nat := if 40 ≤ n then 1 else rsU cd c n 0 0
def ftU (n : Nat) (cd : Nat → Nat) : Nat → Nat → Int
  | 0, _ => -1
  | t + 1, c => if c ≤ 11881375 then (if rsn n cd c = 0 then ((c : Nat) : Int) else ftU n cd t (c + 1)) else -1
def ftt (n : Nat) (cd : Nat → Nat) (c : Nat) : Int := if 40 ≤ n then -1 else ftU n cd 2001 c
def olU (cd : Nat → Nat) (c : Nat) : Nat → Nat → Int → Int
  | 0, _, o => o
  | t + 1, e, o => if lk (cd e) c = 0 then olU cd c t (e + 1) o else if o = -1 then olU cd c t (e + 1) ((e : Nat) : Int) else -1
def hpU (sz : Nat → Nat) (ph g : Nat → Int) (s k : Nat) : Nat → Nat → Bool
  | 0, _ => false
  | t + 1, e => (decide (sz e = k) && smU ph g k (e * 6) s) || hpU sz ph g s k t (e + 1)
def gaB (cd sz : Nat → Nat) (e o : Nat) : Bool := decide (sz o < sz e) || (decide (sz e = sz o) && decide (cd e < cd o))
def bmU (cd sz : Nat → Nat) (ph : Nat → Int) : Nat → Nat → Int → Int
  | 0, _, d => d
  | t + 1, e, d => bmU cd sz ph t (e + 1) (mxF ph (sz e) (e * 6) ((d * 31 + ((cd e : Nat) : Int)) * 31 + ((sz e : Nat) : Int)))
theorem lk_le (a b : Nat) : lk a b ≤ 4 := by
  have h1 : ∀ l r, lkE l r ≤ 4 := fun l r => by
    unfold lkE
    split
    · omega
    · split <;> omega
  have h2 : ∀ t l r, lkL t l r ≤ 4 := fun t => by
    induction t with
    | zero => exact h1
    | succ t ih =>
      intro l r
      unfold lkL
      split
      · exact ih _ _
      · exact h1 _ _
  unfold lk
  split
  · omega
  · exact h2 _ _ _
theorem rsU_le (cd : Nat → Nat) (c : Nat) : ∀ (t e r : Nat), r ≤ 4 → rsU cd c t e r ≤ 4
  | 0, _, _, h => h
  | t + 1, e, r, h => rsU_le cd c t (e + 1) _ (by
    split
    · exact lk_le _ _
    · exact h)
theorem rsn_le (n : Nat) (cd : Nat → Nat) (c : Nat) : rsn n cd c ≤ 4 := by
  unfold rsn
  split
  · omega
  · exact rsU_le _ _ _ _ _ (by omega)
set_option maxRecDepth 20000 in
theorem c_X0_startOf {X : jX} {σ : jS} {e : Nat}  : JM X mX0_startOf rX0_startOf [vI ((e : Nat) : Int)] σ (jEnd (oI ((e * 6 : Nat) : Int)) σ) := by
  refine JM.of (lc := [vI ((e : Nat) : Int)]) rfl ?_
  refine J.ild_n dX0_startOf_0 rfl ?_
  refine J.bipush dX0_startOf_1 (by decide) ?_
  refine J.imul dX0_startOf_3 ?_
  rw [show (((e : Nat) : Int) : Int) * 6 = ((e * 6 : Nat) : Int) from by push_cast; rfl]
  refine J.iret .int dX0_startOf_4 rfl rfl (by decide) (by decide) ?_
  exact ⟨rfl, rfl⟩
set_option maxRecDepth 20000 in
theorem c_X0_latestCode {X : jX} {σ : jS} {i n : Nat} {cd sz : Nat → Nat} {ph : Nat → Int} (hB : BK σ i n cd sz ph) (h5 : 5 ≤ i) (hn : n ≤ 40) : JM X mX0_latestCode rX0_latestCode [.ref i] σ (jEnd (oI ((if n = 0 then 0 else cd (n - 1) : Nat) : Int)) σ) := by
  refine JM.of (lc := [.ref i]) rfl ?_
  refine J.ald_n dX0_latestCode_0 rfl ?_
  refine gf_X0_21 rfl dX0_latestCode_1 hB.1 ?_
  refine J.if_ne dX0_latestCode_4 (by decide) (tgt := 11) (by unfold inI; omega) (fun h => ?_) (fun h => ?_)
  · refine J.ald_n dX0_latestCode_11 rfl ?_
    refine gf_X0_9 rfl dX0_latestCode_12 hB.1 ?_
    refine J.ald_n dX0_latestCode_15 rfl ?_
    refine gf_X0_21 rfl dX0_latestCode_16 hB.1 ?_
    refine J.iconst dX0_latestCode_19 ?_
    refine J.isub dX0_latestCode_20 ?_
    rw [show ((n : Nat) : Int) - 1 = ((n - 1 : Nat) : Int) from by omega]
    refine J.iald (n - 1) dX0_latestCode_21 hB.2.1 rfl (by omega) (by omega) ?_
    refine J.iret .int dX0_latestCode_22 rfl rfl (by decide) (by decide) ?_
    exact ⟨by rw [if_neg (by omega)], rfl⟩
  · refine J.iconst dX0_latestCode_7 ?_
    refine J.goto dX0_latestCode_8 (by decide) (tgt := 22) ?_
    refine J.iret .int dX0_latestCode_22 rfl rfl (by decide) (by decide) ?_
    exact ⟨by rw [if_pos (by omega)] <;> rfl, rfl⟩
set_option maxRecDepth 20000 in
theorem c_X0_entryWith {X : jX} {σ : jS} {i n : Nat} {cd sz : Nat → Nat} {ph : Nat → Int} {c : Nat} (hB : BK σ i n cd sz ph) (h5 : 5 ≤ i) (hn : n ≤ 40) (hcd : ∀ e, e < n → cd e ≤ 11881375) (hc : c ≤ 11881375) : JM X mX0_entryWith rX0_entryWith [.ref i, vI ((c : Nat) : Int)] σ (jEnd (oI (fnU cd c n 0)) σ) := by
  refine JM.of (lc := [.ref i, vI ((c : Nat) : Int), .null]) rfl ?_
  refine J.iconst dX0_entryWith_0 ?_
  refine J.ist_n dX0_entryWith_1 (by decide) (jnc_of rfl rfl) ?_
  have L : ∀ (t : Nat), ∀ (e : Nat), e + t = n → J X mX0_entryWith rX0_entryWith 2 [.ref i, vI ((c : Nat) : Int), vI ((e : Nat) : Int)] [] 0 0 σ (jEnd (oI (fnU cd c t e)) σ) := by
    intro t
    induction t with
    | zero =>
      intro e he
      refine J.ild_n dX0_entryWith_2 rfl ?_
      refine J.ald_n dX0_entryWith_3 rfl ?_
      refine gf_X0_21 rfl dX0_entryWith_4 hB.1 ?_
      refine J.icmp_ge dX0_entryWith_7 (by decide) (tgt := 28) (by unfold inI; omega) (by unfold inI; omega) (fun h => ?_) (fun h => ?_)
      · refine J.iconst dX0_entryWith_28 ?_
        refine J.iret .int dX0_entryWith_29 rfl rfl (by decide) (by decide) ?_
        exact ⟨rfl, rfl⟩
      · omega
    | succ t ih =>
      intro e he
      refine J.ild_n dX0_entryWith_2 rfl ?_
      refine J.ald_n dX0_entryWith_3 rfl ?_
      refine gf_X0_21 rfl dX0_entryWith_4 hB.1 ?_
      refine J.icmp_ge dX0_entryWith_7 (by decide) (tgt := 28) (by unfold inI; omega) (by unfold inI; omega) (fun h => ?_) (fun h => ?_)
      · omega
      · have hce := hcd e (by omega)
        refine J.ald_n dX0_entryWith_10 rfl ?_
        refine gf_X0_9 rfl dX0_entryWith_11 hB.1 ?_
        refine J.ild_n dX0_entryWith_14 rfl ?_
        refine J.iald e dX0_entryWith_15 hB.2.1 rfl (by omega) (by omega) ?_
        refine J.ild_n dX0_entryWith_16 rfl ?_
        refine J.icmp_ne dX0_entryWith_17 (by decide) (tgt := 22) (by unfold inI; omega) (by unfold inI; omega) (fun h2 => ?_) (fun h2 => ?_)
        · refine J.iinc (v := ((e + 1 : Nat) : Int)) dX0_entryWith_22 rfl (by first | rfl | omega) (by decide) (jnc_of rfl rfl) ?_
          refine J.goto dX0_entryWith_25 (by decide) (tgt := 2) ?_
          rw [show fnU cd c (t + 1) e = fnU cd c t (e + 1) from if_neg (by omega)]
          exact ih (e + 1) (by omega)
        · refine J.ild_n dX0_entryWith_20 rfl ?_
          refine J.iret .int dX0_entryWith_21 rfl rfl (by decide) (by decide) ?_
          exact ⟨by rw [show fnU cd c (t + 1) e = ((e : Nat) : Int) from if_pos (by omega)], rfl⟩
  exact L n 0 (by omega)
set_option maxRecDepth 20000 in
theorem c_X0_reasonAgainst {X : jX} {σ : jS} {i n : Nat} {cd sz : Nat → Nat} {ph : Nat → Int} {c : Nat} (hB : BK σ i n cd sz ph) (h5 : 5 ≤ i) (hn : n ≤ 40) (hcd : ∀ e, e < n → cd e ≤ 11881375) (hc : c ≤ 11881375) : JM X mX0_reasonAgainst rX0_reasonAgainst [.ref i, vI ((c : Nat) : Int)] σ (jEnd (oI ((rsn n cd c : Nat) : Int)) σ) := by
  refine JM.of (lc := [.ref i, vI ((c : Nat) : Int), .null, .null, .null]) rfl ?_
  refine J.ald_n dX0_reasonAgainst_0 rfl ?_
  refine gf_X0_21 rfl dX0_reasonAgainst_1 hB.1 ?_
  refine J.bipush dX0_reasonAgainst_4 (by decide) ?_
  refine J.icmp_lt dX0_reasonAgainst_6 (by decide) (tgt := 11) (by unfold inI; omega) (by unfold inI; omega) (fun h0 => ?_) (fun h0 => ?_)
  · refine J.iconst dX0_reasonAgainst_11 ?_
    refine J.ist_n dX0_reasonAgainst_12 (by decide) (jnc_of rfl rfl) ?_
    refine J.iconst dX0_reasonAgainst_13 ?_
    refine J.ist_n dX0_reasonAgainst_14 (by decide) (jnc_of rfl rfl) ?_
    have L : ∀ (t : Nat), ∀ (e r : Nat) (u : Value), e + t = n → u.category = 1 → r ≤ 4 → J X mX0_reasonAgainst rX0_reasonAgainst 15 [.ref i, vI ((c : Nat) : Int), vI ((r : Nat) : Int), vI ((e : Nat) : Int), u] [] 0 0 σ (jEnd (oI ((rsU cd c t e r : Nat) : Int)) σ) := by
      intro t
      induction t with
      | zero =>
        intro e r u he hu hr
        refine J.ild_n dX0_reasonAgainst_15 rfl ?_
        refine J.ald_n dX0_reasonAgainst_16 rfl ?_
        refine gf_X0_21 rfl dX0_reasonAgainst_17 hB.1 ?_
        refine J.icmp_ge dX0_reasonAgainst_20 (by decide) (tgt := 59) (by unfold inI; omega) (by unfold inI; omega) (fun h => ?_) (fun h => ?_)
        · refine J.ild_n dX0_reasonAgainst_59 rfl ?_
          refine J.iret .int dX0_reasonAgainst_60 rfl rfl (by decide) (by decide) ?_
          exact ⟨rfl, rfl⟩
        · omega
      | succ t ih =>
        intro e r u he hu hr
        refine J.ild_n dX0_reasonAgainst_15 rfl ?_
        refine J.ald_n dX0_reasonAgainst_16 rfl ?_
        refine gf_X0_21 rfl dX0_reasonAgainst_17 hB.1 ?_
        refine J.icmp_ge dX0_reasonAgainst_20 (by decide) (tgt := 59) (by unfold inI; omega) (by unfold inI; omega) (fun h => ?_) (fun h => ?_)
        · omega
        · have hce := hcd e (by omega)
          have hlk := lk_le (cd e) c
          refine J.ald_n dX0_reasonAgainst_23 rfl ?_
          refine gf_X0_9 rfl dX0_reasonAgainst_24 hB.1 ?_
          refine J.ild_n dX0_reasonAgainst_27 rfl ?_
          refine J.iald e dX0_reasonAgainst_28 hB.2.1 rfl (by omega) (by omega) ?_
          refine J.ild_n dX0_reasonAgainst_29 rfl ?_
          refine J.callS (rm' := rX1_likeness) [vI ((cd e : Nat) : Int), vI ((c : Nat) : Int)] dX0_reasonAgainst_30 (c_X1_likeness hce hc) st_X1_likeness ml_X0_41 sm_X1_likeness rfl (Nat.le_of_ble_eq_true rfl) (by decide) (by decide) (Nat.le_of_ble_eq_true rfl) (by decide) (by decide) (Or.inl rfl) (fun E9 σ9 hq9 _ => nomatch hq9.1) (fun r9 σ9 hq9 hle9 => ?_)
          obtain ⟨h9, h8⟩ := hq9
          rw [h8]
          clear hle9 h8 σ9
          cases h9
          refine J.ist dX0_reasonAgainst_33 (by decide) (jnc_of rfl rfl) ?_
          refine J.ild dX0_reasonAgainst_35 rfl ?_
          refine J.if_eq dX0_reasonAgainst_37 (by decide) (tgt := 53) (by unfold inI; omega) (fun h2 => ?_) (fun h2 => ?_)
          · refine J.iinc (v := ((e + 1 : Nat) : Int)) dX0_reasonAgainst_53 rfl (by first | rfl | omega) (by decide) (jnc_of rfl rfl) ?_
            refine J.goto dX0_reasonAgainst_56 (by decide) (tgt := 15) ?_
            rw [show rsU cd c (t + 1) e r = rsU cd c t (e + 1) r from by rw [show rsU cd c (t + 1) e r = rsU cd c t (e + 1) (if lk (cd e) c ≠ 0 ∧ (r = 0 ∨ lk (cd e) c < r) then lk (cd e) c else r) from rfl, if_neg (by omega)]]
            exact ih (e + 1) r _ (by omega) rfl (by omega)
          · refine J.ild_n dX0_reasonAgainst_40 rfl ?_
            refine J.if_eq dX0_reasonAgainst_41 (by decide) (tgt := 50) (by unfold inI; omega) (fun h3 => ?_) (fun h3 => ?_)
            · refine J.ild dX0_reasonAgainst_50 rfl ?_
              refine J.ist_n dX0_reasonAgainst_52 (by decide) (jnc_of rfl rfl) ?_
              refine J.iinc (v := ((e + 1 : Nat) : Int)) dX0_reasonAgainst_53 rfl (by first | rfl | omega) (by decide) (jnc_of rfl rfl) ?_
              refine J.goto dX0_reasonAgainst_56 (by decide) (tgt := 15) ?_
              rw [show rsU cd c (t + 1) e r = rsU cd c t (e + 1) (lk (cd e) c) from by rw [show rsU cd c (t + 1) e r = rsU cd c t (e + 1) (if lk (cd e) c ≠ 0 ∧ (r = 0 ∨ lk (cd e) c < r) then lk (cd e) c else r) from rfl, if_pos (by omega)]]
              exact ih (e + 1) _ _ (by omega) rfl (by omega)
            · refine J.ild dX0_reasonAgainst_44 rfl ?_
              refine J.ild_n dX0_reasonAgainst_46 rfl ?_
              refine J.icmp_ge dX0_reasonAgainst_47 (by decide) (tgt := 53) (by unfold inI; omega) (by unfold inI; omega) (fun h4 => ?_) (fun h4 => ?_)
              · refine J.iinc (v := ((e + 1 : Nat) : Int)) dX0_reasonAgainst_53 rfl (by first | rfl | omega) (by decide) (jnc_of rfl rfl) ?_
                refine J.goto dX0_reasonAgainst_56 (by decide) (tgt := 15) ?_
                rw [show rsU cd c (t + 1) e r = rsU cd c t (e + 1) r from by rw [show rsU cd c (t + 1) e r = rsU cd c t (e + 1) (if lk (cd e) c ≠ 0 ∧ (r = 0 ∨ lk (cd e) c < r) then lk (cd e) c else r) from rfl, if_neg (by omega)]]
                exact ih (e + 1) r _ (by omega) rfl (by omega)
              · refine J.ild dX0_reasonAgainst_50 rfl ?_
                refine J.ist_n dX0_reasonAgainst_52 (by decide) (jnc_of rfl rfl) ?_
                refine J.iinc (v := ((e + 1 : Nat) : Int)) dX0_reasonAgainst_53 rfl (by first | rfl | omega) (by decide) (jnc_of rfl rfl) ?_
                refine J.goto dX0_reasonAgainst_56 (by decide) (tgt := 15) ?_
                rw [show rsU cd c (t + 1) e r = rsU cd c t (e + 1) (lk (cd e) c) from by rw [show rsU cd c (t + 1) e r = rsU cd c t (e + 1) (if lk (cd e) c ≠ 0 ∧ (r = 0 ∨ lk (cd e) c < r) then lk (cd e) c else r) from rfl, if_pos (by omega)]]
                exact ih (e + 1) _ _ (by omega) rfl (by omega)
    rw [show rsn n cd c = rsU cd c n 0 0 from if_neg (by omega)]
    exact L n 0 0 _ (by omega) rfl (by omega)
  · refine J.iconst dX0_reasonAgainst_9 ?_
    refine J.iret .int dX0_reasonAgainst_10 rfl rfl (by decide) (by decide) ?_
    exact ⟨by rw [show rsn n cd c = 1 from if_pos (by omega)] <;> rfl, rfl⟩
set_option maxRecDepth 20000 in
theorem c_X0_fitFrom {X : jX} {σ : jS} {i n : Nat} {cd sz : Nat → Nat} {ph : Nat → Int} {c : Nat} (hB : BK σ i n cd sz ph) (h5 : 5 ≤ i) (hn : n ≤ 40) (hcd : ∀ e, e < n → cd e ≤ 11881375) (hc : c ≤ 11881375) : JM X mX0_fitFrom rX0_fitFrom [.ref i, vI ((c : Nat) : Int)] σ (jEnd (oI (ftt n cd c)) σ) := by
  refine JM.of (lc := [.ref i, vI ((c : Nat) : Int), .null]) rfl ?_
  refine J.ald_n dX0_fitFrom_0 rfl ?_
  refine gf_X0_21 rfl dX0_fitFrom_1 hB.1 ?_
  refine J.bipush dX0_fitFrom_4 (by decide) ?_
  refine J.icmp_lt dX0_fitFrom_6 (by decide) (tgt := 11) (by unfold inI; omega) (by unfold inI; omega) (fun h0 => ?_) (fun h0 => ?_)
  · refine J.ild_n dX0_fitFrom_11 rfl ?_
    refine J.ist_n dX0_fitFrom_12 (by decide) (jnc_of rfl rfl) ?_
    have L : ∀ (t : Nat), ∀ (x : Nat), x + t = c + 2001 → J X mX0_fitFrom rX0_fitFrom 13 [.ref i, vI ((c : Nat) : Int), vI ((x : Nat) : Int)] [] 0 0 σ (jEnd (oI (ftU n cd t x)) σ) := by
      intro t
      induction t with
      | zero =>
        intro x hx
        refine J.ild_n dX0_fitFrom_13 rfl ?_
        refine J.ild_n dX0_fitFrom_14 rfl ?_
        refine J.sipush dX0_fitFrom_15 (by decide) ?_
        refine J.iadd dX0_fitFrom_18 ?_
        rw [show (((c : Nat) : Int) : Int) + 2000 = ((c + 2000 : Nat) : Int) from by push_cast; rfl]
        refine J.icmp_gt dX0_fitFrom_19 (by decide) (tgt := 44) (by unfold inI; omega) (by unfold inI; omega) (fun h => ?_) (fun h => ?_)
        · refine J.iconst dX0_fitFrom_44 ?_
          refine J.iret .int dX0_fitFrom_45 rfl rfl (by decide) (by decide) ?_
          exact ⟨rfl, rfl⟩
        · omega
      | succ t ih =>
        intro x hx
        refine J.ild_n dX0_fitFrom_13 rfl ?_
        refine J.ild_n dX0_fitFrom_14 rfl ?_
        refine J.sipush dX0_fitFrom_15 (by decide) ?_
        refine J.iadd dX0_fitFrom_18 ?_
        rw [show (((c : Nat) : Int) : Int) + 2000 = ((c + 2000 : Nat) : Int) from by push_cast; rfl]
        refine J.icmp_gt dX0_fitFrom_19 (by decide) (tgt := 44) (by unfold inI; omega) (by unfold inI; omega) (fun h => ?_) (fun h => ?_)
        · omega
        · refine J.ild_n dX0_fitFrom_22 rfl ?_
          refine J.ldc (b := 11881375) dX0_fitFrom_23 kc_X0_47 (by decide) ?_
          refine J.icmp_gt dX0_fitFrom_25 (by decide) (tgt := 44) (by unfold inI; omega) (by unfold inI; omega) (fun h2 => ?_) (fun h2 => ?_)
          · refine J.iconst dX0_fitFrom_44 ?_
            refine J.iret .int dX0_fitFrom_45 rfl rfl (by decide) (by decide) ?_
            exact ⟨by rw [show ftU n cd (t + 1) x = -1 from if_neg (by omega)], rfl⟩
          · have hrl := rsn_le n cd x
            refine J.ald_n dX0_fitFrom_28 rfl ?_
            refine J.ild_n dX0_fitFrom_29 rfl ?_
            refine J.callV (rm' := rX0_reasonAgainst) [vI ((x : Nat) : Int)] dX0_fitFrom_30 (c_X0_reasonAgainst hB h5 hn hcd (c := x) (by omega)) hB.1 rfl st_X0_reasonAgainst ml_X0_48 im_X0_reasonAgainst se_X0_reasonAgainst rfl (Nat.le_of_ble_eq_true rfl) (by decide) (by decide) (Nat.le_of_ble_eq_true rfl) (by decide) (by decide) (Or.inl rfl) (fun E9 σ9 hq9 _ => nomatch hq9.1) (fun r9 σ9 hq9 hle9 => ?_)
            obtain ⟨h9, h8⟩ := hq9
            rw [h8]
            clear hle9 h8 σ9
            cases h9
            refine J.if_ne dX0_fitFrom_33 (by decide) (tgt := 38) (by unfold inI; omega) (fun h3 => ?_) (fun h3 => ?_)
            · refine J.iinc (v := ((x + 1 : Nat) : Int)) dX0_fitFrom_38 rfl (by first | rfl | omega) (by decide) (jnc_of rfl rfl) ?_
              refine J.goto dX0_fitFrom_41 (by decide) (tgt := 13) ?_
              rw [show ftU n cd (t + 1) x = ftU n cd t (x + 1) from (if_pos (by omega)).trans (if_neg (by omega))]
              exact ih (x + 1) (by omega)
            · refine J.ild_n dX0_fitFrom_36 rfl ?_
              refine J.iret .int dX0_fitFrom_37 rfl rfl (by decide) (by decide) ?_
              exact ⟨by rw [show ftU n cd (t + 1) x = ((x : Nat) : Int) from (if_pos (by omega)).trans (if_pos (by omega))], rfl⟩
    rw [show ftt n cd c = ftU n cd 2001 c from if_neg (by omega)]
    exact L 2001 c rfl
  · refine J.iconst dX0_fitFrom_9 ?_
    refine J.iret .int dX0_fitFrom_10 rfl rfl (by decide) (by decide) ?_
    exact ⟨by rw [show ftt n cd c = -1 from if_pos (by omega)], rfl⟩
set_option maxRecDepth 20000 in
theorem c_X0_onlyEntryLike {X : jX} {σ : jS} {i n : Nat} {cd sz : Nat → Nat} {ph : Nat → Int} {c : Nat} (hB : BK σ i n cd sz ph) (h5 : 5 ≤ i) (hn : n ≤ 40) (hcd : ∀ e, e < n → cd e ≤ 11881375) (hc : c ≤ 11881375) : JM X mX0_onlyEntryLike rX0_onlyEntryLike [.ref i, vI ((c : Nat) : Int)] σ (jEnd (oI (olU cd c n 0 (-1))) σ) := by
  refine JM.of (lc := [.ref i, vI ((c : Nat) : Int), .null, .null]) rfl ?_
  refine J.iconst dX0_onlyEntryLike_0 ?_
  refine J.ist_n dX0_onlyEntryLike_1 (by decide) (jnc_of rfl rfl) ?_
  refine J.iconst dX0_onlyEntryLike_2 ?_
  refine J.ist_n dX0_onlyEntryLike_3 (by decide) (jnc_of rfl rfl) ?_
  have L : ∀ (t : Nat), ∀ (e : Nat) (o : Int), e + t = n → (-1 ≤ o ∧ o ≤ 40) → J X mX0_onlyEntryLike rX0_onlyEntryLike 4 [.ref i, vI ((c : Nat) : Int), vI o, vI ((e : Nat) : Int)] [] 0 0 σ (jEnd (oI (olU cd c t e o)) σ) := by
    intro t
    induction t with
    | zero =>
      intro e o he ho
      refine J.ild_n dX0_onlyEntryLike_4 rfl ?_
      refine J.ald_n dX0_onlyEntryLike_5 rfl ?_
      refine gf_X0_21 rfl dX0_onlyEntryLike_6 hB.1 ?_
      refine J.icmp_ge dX0_onlyEntryLike_9 (by decide) (tgt := 40) (by unfold inI; omega) (by unfold inI; omega) (fun h => ?_) (fun h => ?_)
      · refine J.ild_n dX0_onlyEntryLike_40 rfl ?_
        refine J.iret .int dX0_onlyEntryLike_41 rfl rfl (by decide) (by decide) ?_
        exact ⟨rfl, rfl⟩
      · omega
    | succ t ih =>
      intro e o he ho
      refine J.ild_n dX0_onlyEntryLike_4 rfl ?_
      refine J.ald_n dX0_onlyEntryLike_5 rfl ?_
      refine gf_X0_21 rfl dX0_onlyEntryLike_6 hB.1 ?_
      refine J.icmp_ge dX0_onlyEntryLike_9 (by decide) (tgt := 40) (by unfold inI; omega) (by unfold inI; omega) (fun h => ?_) (fun h => ?_)
      · omega
      · have hce := hcd e (by omega)
        have hlk := lk_le (cd e) c
        refine J.ald_n dX0_onlyEntryLike_12 rfl ?_
        refine gf_X0_9 rfl dX0_onlyEntryLike_13 hB.1 ?_
        refine J.ild_n dX0_onlyEntryLike_16 rfl ?_
        refine J.iald e dX0_onlyEntryLike_17 hB.2.1 rfl (by omega) (by omega) ?_
        refine J.ild_n dX0_onlyEntryLike_18 rfl ?_
        refine J.callS (rm' := rX1_likeness) [vI ((cd e : Nat) : Int), vI ((c : Nat) : Int)] dX0_onlyEntryLike_19 (c_X1_likeness hce hc) st_X1_likeness ml_X0_41 sm_X1_likeness rfl (Nat.le_of_ble_eq_true rfl) (by decide) (by decide) (Nat.le_of_ble_eq_true rfl) (by decide) (by decide) (Or.inl rfl) (fun E9 σ9 hq9 _ => nomatch hq9.1) (fun r9 σ9 hq9 hle9 => ?_)
        obtain ⟨h9, h8⟩ := hq9
        rw [h8]
        clear hle9 h8 σ9
        cases h9
        refine J.if_eq dX0_onlyEntryLike_22 (by decide) (tgt := 34) (by unfold inI; omega) (fun h2 => ?_) (fun h2 => ?_)
        · refine J.iinc (v := ((e + 1 : Nat) : Int)) dX0_onlyEntryLike_34 rfl (by first | rfl | omega) (by decide) (jnc_of rfl rfl) ?_
          refine J.goto dX0_onlyEntryLike_37 (by decide) (tgt := 4) ?_
          rw [show olU cd c (t + 1) e o = olU cd c t (e + 1) o from if_pos (by omega)]
          exact ih (e + 1) o (by omega) (by omega)
        · refine J.ild_n dX0_onlyEntryLike_25 rfl ?_
          refine J.iconst dX0_onlyEntryLike_26 ?_
          refine J.icmp_eq dX0_onlyEntryLike_27 (by decide) (tgt := 32) (by unfold inI; omega) (by unfold inI; omega) (fun h3 => ?_) (fun h3 => ?_)
          · refine J.ild_n dX0_onlyEntryLike_32 rfl ?_
            refine J.ist_n dX0_onlyEntryLike_33 (by decide) (jnc_of rfl rfl) ?_
            refine J.iinc (v := ((e + 1 : Nat) : Int)) dX0_onlyEntryLike_34 rfl (by first | rfl | omega) (by decide) (jnc_of rfl rfl) ?_
            refine J.goto dX0_onlyEntryLike_37 (by decide) (tgt := 4) ?_
            rw [show olU cd c (t + 1) e o = olU cd c t (e + 1) ((e : Nat) : Int) from (if_neg (by omega)).trans (if_pos (by omega))]
            exact ih (e + 1) _ (by omega) (by omega)
          · refine J.iconst dX0_onlyEntryLike_30 ?_
            refine J.iret .int dX0_onlyEntryLike_31 rfl rfl (by decide) (by decide) ?_
            exact ⟨by rw [show olU cd c (t + 1) e o = -1 from (if_neg (by omega)).trans (if_neg (by omega))], rfl⟩
  exact L n 0 (-1) (by omega) (by omega)
set_option maxRecDepth 20000 in
theorem c_X0_hasPhrase {X : jX} {σ : jS} {i n : Nat} {cd sz : Nat → Nat} {ph : Nat → Int} {q N s k : Nat} {g : Nat → Int} (hB : BK σ i n cd sz ph) (h5 : 5 ≤ i) (hn : n ≤ 40) (hsz : ∀ e, e < n → 1 ≤ sz e ∧ sz e ≤ 6) (hph : ∀ t, t < 240 → inI (ph t)) (e2 : σ.2 q = jI N g) (hN : N ≤ 100000) (hsk : s + k ≤ N) (hg : ∀ t, t < N → inI (g t)) (hk : k ≤ 6) : JM X mX0_hasPhrase rX0_hasPhrase [.ref i, .ref q, vI ((s : Nat) : Int), vI ((k : Nat) : Int)] σ (jEnd (oI (bN (hpU sz ph g s k n 0))) σ) := by
  refine JM.of (lc := [.ref i, .ref q, vI ((s : Nat) : Int), vI ((k : Nat) : Int), .null]) rfl ?_
  refine J.iconst dX0_hasPhrase_0 ?_
  refine J.ist dX0_hasPhrase_1 (by decide) (jnc_of rfl rfl) ?_
  have L : ∀ (t : Nat), ∀ (e : Nat), e + t = n → J X mX0_hasPhrase rX0_hasPhrase 3 [.ref i, .ref q, vI ((s : Nat) : Int), vI ((k : Nat) : Int), vI ((e : Nat) : Int)] [] 0 0 σ (jEnd (oI (bN (hpU sz ph g s k t e))) σ) := by
    intro t
    induction t with
    | zero =>
      intro e he
      refine J.ild dX0_hasPhrase_3 rfl ?_
      refine J.ald_n dX0_hasPhrase_5 rfl ?_
      refine gf_X0_21 rfl dX0_hasPhrase_6 hB.1 ?_
      refine J.icmp_ge dX0_hasPhrase_9 (by decide) (tgt := 49) (by unfold inI; omega) (by unfold inI; omega) (fun h => ?_) (fun h => ?_)
      · refine J.iconst dX0_hasPhrase_49 ?_
        refine J.iret .boolean dX0_hasPhrase_50 rfl rfl (by decide) (by decide) ?_
        exact ⟨rfl, rfl⟩
      · omega
    | succ t ih =>
      intro e he
      refine J.ild dX0_hasPhrase_3 rfl ?_
      refine J.ald_n dX0_hasPhrase_5 rfl ?_
      refine gf_X0_21 rfl dX0_hasPhrase_6 hB.1 ?_
      refine J.icmp_ge dX0_hasPhrase_9 (by decide) (tgt := 49) (by unfold inI; omega) (by unfold inI; omega) (fun h => ?_) (fun h => ?_)
      · omega
      · have hse := hsz e (by omega)
        refine J.ald_n dX0_hasPhrase_12 rfl ?_
        refine gf_X0_15 rfl dX0_hasPhrase_13 hB.1 ?_
        refine J.ild dX0_hasPhrase_16 rfl ?_
        refine J.iald e dX0_hasPhrase_18 hB.2.2.1 rfl (by omega) (by omega) ?_
        refine J.ild_n dX0_hasPhrase_19 rfl ?_
        refine J.icmp_ne dX0_hasPhrase_20 (by decide) (tgt := 43) (by unfold inI; omega) (by unfold inI; omega) (fun h2 => ?_) (fun h2 => ?_)
        · refine J.iinc (v := ((e + 1 : Nat) : Int)) dX0_hasPhrase_43 rfl (by first | rfl | omega) (by decide) (jnc_of rfl rfl) ?_
          refine J.goto dX0_hasPhrase_46 (by decide) (tgt := 3) ?_
          rw [show hpU sz ph g s k (t + 1) e = hpU sz ph g s k t (e + 1) from by rw [show hpU sz ph g s k (t + 1) e = ((decide (sz e = k) && smU ph g k (e * 6) s) || hpU sz ph g s k t (e + 1)) from rfl, decide_eq_false (by omega)]; rfl]
          exact ih (e + 1) (by omega)
        · refine J.ald_n dX0_hasPhrase_23 rfl ?_
          refine gf_X0_18 rfl dX0_hasPhrase_24 hB.1 ?_
          refine J.ild dX0_hasPhrase_27 rfl ?_
          refine J.callS (rm' := rX0_startOf) [vI ((e : Nat) : Int)] dX0_hasPhrase_29 (c_X0_startOf) st_X0_startOf ml_X0_31 sm_X0_startOf rfl (Nat.le_of_ble_eq_true rfl) (by decide) (by decide) (Nat.le_of_ble_eq_true rfl) (by decide) (by decide) (Or.inl rfl) (fun E9 σ9 hq9 _ => nomatch hq9.1) (fun r9 σ9 hq9 hle9 => ?_)
          obtain ⟨h9, h8⟩ := hq9
          rw [h8]
          clear hle9 h8 σ9
          cases h9
          refine J.ald_n dX0_hasPhrase_32 rfl ?_
          refine J.ild_n dX0_hasPhrase_33 rfl ?_
          refine J.ild_n dX0_hasPhrase_34 rfl ?_
          refine J.callSN (rm' := rX6_sameWords) [.ref (i + 3), vI ((e * 6 : Nat) : Int), .ref q, vI ((s : Nat) : Int), vI ((k : Nat) : Int)] dX0_hasPhrase_35 (c_X6_sameWords hB.2.2.2 e2 (by omega) hN (by omega) hsk hph hg) st_X6_sameWords ml_X0_51 sm_X6_sameWords rfl (Nat.le_of_ble_eq_true rfl) (by decide) (by decide) (Nat.le_of_ble_eq_true rfl) (by decide) (by decide) (fun E9 σ9 hq9 => nomatch hq9.1) (fun r9 σ9 hq9 hle9 => ?_)
          obtain ⟨h9, h8⟩ := hq9
          rw [h8]
          clear hle9 h8 σ9
          cases h9
          rw [show hpU sz ph g s k (t + 1) e = (smU ph g k (e * 6) s || hpU sz ph g s k t (e + 1)) from by rw [show hpU sz ph g s k (t + 1) e = ((decide (sz e = k) && smU ph g k (e * 6) s) || hpU sz ph g s k t (e + 1)) from rfl, decide_eq_true (by omega)]; rfl]
          cases smU ph g k (e * 6) s with
          | false =>
            rw [show bN false = 0 from rfl]
            refine J.if_eq dX0_hasPhrase_38 (by decide) (tgt := 43) (by unfold inI; omega) (fun h3 => ?_) (fun h3 => ?_)
            · refine J.iinc (v := ((e + 1 : Nat) : Int)) dX0_hasPhrase_43 rfl (by first | rfl | omega) (by decide) (jnc_of rfl rfl) ?_
              refine J.goto dX0_hasPhrase_46 (by decide) (tgt := 3) ?_
              exact ih (e + 1) (by omega)
            · exact absurd rfl h3
          | true =>
            rw [show bN true = 1 from rfl]
            refine J.if_eq dX0_hasPhrase_38 (by decide) (tgt := 43) (by unfold inI; omega) (fun h3 => ?_) (fun h3 => ?_)
            · exact absurd h3 (by decide)
            · refine J.iconst dX0_hasPhrase_41 ?_
              refine J.iret .boolean dX0_hasPhrase_42 rfl rfl (by decide) (by decide) ?_
              exact ⟨rfl, rfl⟩
  exact L n 0 (by omega)
set_option maxRecDepth 20000 in
theorem c_X0_goesAhead_n {X : jX} {σ : jS} {i n : Nat} {cd sz : Nat → Nat} {ph : Nat → Int} {e : Nat} (hB : BK σ i n cd sz ph) (h5 : 5 ≤ i) (hn : n ≤ 40) (he : e < n) : JM X mX0_goesAhead rX0_goesAhead [.ref i, vI ((e : Nat) : Int), vI (-1)] σ (jEnd (oI 1) σ) := by
  refine JM.of (lc := [.ref i, vI ((e : Nat) : Int), vI (-1)]) rfl ?_
  refine J.ild_n dX0_goesAhead_0 rfl ?_
  refine J.iconst dX0_goesAhead_1 ?_
  refine J.icmp_eq dX0_goesAhead_2 (by decide) (tgt := 20) (by unfold inI; omega) (by unfold inI; omega) (fun h => ?_) (fun h => ?_)
  · refine J.iconst dX0_goesAhead_20 ?_
    refine J.iret .boolean dX0_goesAhead_21 rfl rfl (by decide) (by decide) ?_
    exact ⟨rfl, rfl⟩
  · omega
set_option maxRecDepth 20000 in
theorem c_X0_goesAhead_s {X : jX} {σ : jS} {i n : Nat} {cd sz : Nat → Nat} {ph : Nat → Int} {e o : Nat} (hB : BK σ i n cd sz ph) (h5 : 5 ≤ i) (hn : n ≤ 40) (hcd : ∀ e, e < n → cd e ≤ 11881375) (hsz : ∀ e, e < n → 1 ≤ sz e ∧ sz e ≤ 6) (he : e < n) (ho : o < n) : JM X mX0_goesAhead rX0_goesAhead [.ref i, vI ((e : Nat) : Int), vI ((o : Nat) : Int)] σ (jEnd (oI (bN (gaB cd sz e o))) σ) := by
  refine JM.of (lc := [.ref i, vI ((e : Nat) : Int), vI ((o : Nat) : Int)]) rfl ?_
  have hse := hsz e (by omega)
  have hso := hsz o (by omega)
  have hce := hcd e (by omega)
  have hco := hcd o (by omega)
  refine J.ild_n dX0_goesAhead_0 rfl ?_
  refine J.iconst dX0_goesAhead_1 ?_
  refine J.icmp_eq dX0_goesAhead_2 (by decide) (tgt := 20) (by unfold inI; omega) (by unfold inI; omega) (fun h => ?_) (fun h => ?_)
  · omega
  · refine J.ald_n dX0_goesAhead_5 rfl ?_
    refine gf_X0_15 rfl dX0_goesAhead_6 hB.1 ?_
    refine J.ild_n dX0_goesAhead_9 rfl ?_
    refine J.iald e dX0_goesAhead_10 hB.2.2.1 rfl (by omega) (by omega) ?_
    refine J.ald_n dX0_goesAhead_11 rfl ?_
    refine gf_X0_15 rfl dX0_goesAhead_12 hB.1 ?_
    refine J.ild_n dX0_goesAhead_15 rfl ?_
    refine J.iald o dX0_goesAhead_16 hB.2.2.1 rfl (by omega) (by omega) ?_
    refine J.icmp_le dX0_goesAhead_17 (by decide) (tgt := 22) (by unfold inI; omega) (by unfold inI; omega) (fun h2 => ?_) (fun h2 => ?_)
    · refine J.ald_n dX0_goesAhead_22 rfl ?_
      refine gf_X0_15 rfl dX0_goesAhead_23 hB.1 ?_
      refine J.ild_n dX0_goesAhead_26 rfl ?_
      refine J.iald e dX0_goesAhead_27 hB.2.2.1 rfl (by omega) (by omega) ?_
      refine J.ald_n dX0_goesAhead_28 rfl ?_
      refine gf_X0_15 rfl dX0_goesAhead_29 hB.1 ?_
      refine J.ild_n dX0_goesAhead_32 rfl ?_
      refine J.iald o dX0_goesAhead_33 hB.2.2.1 rfl (by omega) (by omega) ?_
      refine J.icmp_ne dX0_goesAhead_34 (by decide) (tgt := 56) (by unfold inI; omega) (by unfold inI; omega) (fun h3 => ?_) (fun h3 => ?_)
      · refine J.iconst dX0_goesAhead_56 ?_
        refine J.iret .boolean dX0_goesAhead_57 rfl rfl (by decide) (by decide) ?_
        exact ⟨by rw [show gaB cd sz e o = false from by unfold gaB; rw [decide_eq_false (by omega), decide_eq_false (by omega)]; rfl] <;> rfl, rfl⟩
      · refine J.ald_n dX0_goesAhead_37 rfl ?_
        refine gf_X0_9 rfl dX0_goesAhead_38 hB.1 ?_
        refine J.ild_n dX0_goesAhead_41 rfl ?_
        refine J.iald e dX0_goesAhead_42 hB.2.1 rfl (by omega) (by omega) ?_
        refine J.ald_n dX0_goesAhead_43 rfl ?_
        refine gf_X0_9 rfl dX0_goesAhead_44 hB.1 ?_
        refine J.ild_n dX0_goesAhead_47 rfl ?_
        refine J.iald o dX0_goesAhead_48 hB.2.1 rfl (by omega) (by omega) ?_
        refine J.icmp_ge dX0_goesAhead_49 (by decide) (tgt := 56) (by unfold inI; omega) (by unfold inI; omega) (fun h4 => ?_) (fun h4 => ?_)
        · refine J.iconst dX0_goesAhead_56 ?_
          refine J.iret .boolean dX0_goesAhead_57 rfl rfl (by decide) (by decide) ?_
          exact ⟨by rw [show gaB cd sz e o = false from by unfold gaB; rw [decide_eq_false (by omega), decide_eq_true (by omega), decide_eq_false (by omega)]; rfl] <;> rfl, rfl⟩
        · refine J.iconst dX0_goesAhead_52 ?_
          refine J.goto dX0_goesAhead_53 (by decide) (tgt := 57) ?_
          refine J.iret .boolean dX0_goesAhead_57 rfl rfl (by decide) (by decide) ?_
          exact ⟨by rw [show gaB cd sz e o = true from by unfold gaB; rw [decide_eq_false (by omega), decide_eq_true (by omega), decide_eq_true (by omega)]; rfl] <;> rfl, rfl⟩
    · refine J.iconst dX0_goesAhead_20 ?_
      refine J.iret .boolean dX0_goesAhead_21 rfl rfl (by decide) (by decide) ?_
      exact ⟨by rw [show gaB cd sz e o = true from by unfold gaB; rw [decide_eq_true (by omega)]; rfl] <;> rfl, rfl⟩