/-! ===== the model ===== -/
def MO (σ : jS) (th pr ln kn mn rd pa ps : Int) : Prop := σ.2 37 = jO 6 [vI th, vI pr, .ref 38, vI ln, vI kn, .ref 39, .ref 40, .ref 41, .ref 42, .ref 43, .ref 44, vI mn, .ref 45, vI rd, .ref 46, .ref 47, .ref 48, vI pa, vI ps]
def offT (a b : Nat) : Nat → Nat → Nat
  | 0, _ => 0
  | t + 1, p => offN a b p + offT a b t (p + 1)
theorem offT_eq {a b : Nat} : offT a b 5 0 = offS a b := by
  show offN a b 0 + (offN a b 1 + (offN a b 2 + (offN a b 3 + (offN a b 4 + 0)))) = offS a b
  unfold offS
  omega
theorem offT_le {a b : Nat} : ∀ (t p : Nat), offT a b t p ≤ t
  | 0, _ => Nat.le_refl _
  | t + 1, p => by
    have h1 := offT_le (a := a) (b := b) t (p + 1)
    have h2 : offN a b p ≤ 1 := by unfold offN; split <;> omega
    show offN a b p + offT a b t (p + 1) ≤ t + 1
    omega
def swT (a b : Nat) : Nat → Nat → Bool
  | 0, _ => false
  | t + 1, p => decide (swp a p = b) || swT a b t (p + 1)
theorem swT_eq {a b : Nat} : swT a b 4 0 = true ↔ swB a b := by
  show (decide (swp a 0 = b) || (decide (swp a 1 = b) || (decide (swp a 2 = b) || (decide (swp a 3 = b) || false)))) = true ↔ _
  unfold swB
  simp only [Bool.or_eq_true, decide_eq_true_eq, Bool.or_false]
theorem inI_le {n m : Nat} (h : n ≤ m) (hm : m ≤ 2147483647) : inI ((n : Nat) : Int) := by unfold inI; omega
theorem swpE {c p : Nat} (hc : c ≤ 11881375) (hp : p ≤ 3) : (((c : Nat) : Int) + (((ltr c (p + 1) : Nat) : Int) - ((ltr c p : Nat) : Int)) * ((26 ^ (4 - p) : Nat) : Int)) - (((ltr c (p + 1) : Nat) : Int) - ((ltr c p : Nat) : Int)) * ((26 ^ (4 - (p + 1)) : Nat) : Int) = ((swp c p : Nat) : Int) := by
  obtain ⟨d0, d1, d2, d3, d4, h0, h1, h2, h3, h4, rfl⟩ := dig5 hc
  obtain ⟨l0, l1, l2, l3, l4⟩ := ltr_d h0 h1 h2 h3 h4
  obtain ⟨s0, s1, s2, s3⟩ := swp_d h0 h1 h2 h3 h4
  match p, hp with
  | 0, _ => rw [l1, l0, s0]; show (_ + _ * ((456976 : Nat) : Int)) - _ * ((17576 : Nat) : Int) = _; omega
  | 1, _ => rw [l2, l1, s1]; show (_ + _ * ((17576 : Nat) : Int)) - _ * ((676 : Nat) : Int) = _; omega
  | 2, _ => rw [l3, l2, s2]; show (_ + _ * ((676 : Nat) : Int)) - _ * ((26 : Nat) : Int) = _; omega
  | 3, _ => rw [l4, l3, s3]; show (_ + _ * ((26 : Nat) : Int)) - _ * ((1 : Nat) : Int) = _; omega
/-- how two code words are alike, told as the model tells it -/
theorem lk_same {a : Nat} : lk a a = 2 := if_pos rfl
theorem lk_one {a b : Nat} (ha : a ≤ 11881375) (hb : b ≤ 11881375) (hab : a ≠ b) (h : offT a b 5 0 = 1) : lk a b = 3 := (lk_off ha hb hab).1 (offT_eq ▸ h)
theorem lk_sw {a b : Nat} (ha : a ≤ 11881375) (hb : b ≤ 11881375) (hab : a ≠ b) (h : ¬ offT a b 5 0 = 1) (h2 : swT a b 4 0 = true) : lk a b = 4 := (lk_off ha hb hab).2.1 (fun q => h (offT_eq.trans q)) (swT_eq.mp h2)
theorem lk_no {a b : Nat} (ha : a ≤ 11881375) (hb : b ≤ 11881375) (hab : a ≠ b) (h : ¬ offT a b 5 0 = 1) (h2 : ¬ swT a b 4 0 = true) : lk a b = 0 := (lk_off ha hb hab).2.2 (fun q => h (offT_eq.trans q)) (fun q => h2 (swT_eq.mpr q))
set_option maxRecDepth 20000 in
theorem c_X7_isIn_t {X : jX} {σ : jS} {v l h : Int} (hv : inI v) (hl : inI l) (hh : inI h) (hx : l ≤ v ∧ v ≤ h) : JM X mX7_isIn rX7_isIn [vI v, vI l, vI h] σ (jEnd (oI 1) σ) := by
  refine JM.of (lc := [vI v, vI l, vI h]) rfl ?_
  unfold inI at hv hl hh
  refine J.ild_n dX7_isIn_0 rfl ?_
  refine J.ild_n dX7_isIn_1 rfl ?_
  refine J.icmp_lt dX7_isIn_2 (by decide) (tgt := 14) (by unfold inI; omega) (by unfold inI; omega) (fun hb2 => ?_) (fun hb2 => ?_)
  · first | omega | exact absurd rfl hb2 | exact absurd hb2 (by decide)
  · refine J.ild_n dX7_isIn_5 rfl ?_
    refine J.ild_n dX7_isIn_6 rfl ?_
    refine J.icmp_gt dX7_isIn_7 (by decide) (tgt := 14) (by unfold inI; omega) (by unfold inI; omega) (fun hb7 => ?_) (fun hb7 => ?_)
    · first | omega | exact absurd rfl hb7 | exact absurd hb7 (by decide)
    · refine J.iconst dX7_isIn_10 ?_
      refine J.goto dX7_isIn_11 (by decide) (tgt := 15) ?_
      refine J.iret .boolean dX7_isIn_15 rfl rfl (by decide) (by decide) ?_
      exact ⟨rfl, rfl⟩
set_option maxRecDepth 20000 in
theorem c_X7_isIn_f {X : jX} {σ : jS} {v l h : Int} (hv : inI v) (hl : inI l) (hh : inI h) (hx : ¬ (l ≤ v ∧ v ≤ h)) : JM X mX7_isIn rX7_isIn [vI v, vI l, vI h] σ (jEnd (oI 0) σ) := by
  refine JM.of (lc := [vI v, vI l, vI h]) rfl ?_
  unfold inI at hv hl hh
  refine J.ild_n dX7_isIn_0 rfl ?_
  refine J.ild_n dX7_isIn_1 rfl ?_
  refine J.icmp_lt dX7_isIn_2 (by decide) (tgt := 14) (by unfold inI; omega) (by unfold inI; omega) (fun hb2 => ?_) (fun hb2 => ?_)
  · refine J.iconst dX7_isIn_14 ?_
    refine J.iret .boolean dX7_isIn_15 rfl rfl (by decide) (by decide) ?_
    exact ⟨rfl, rfl⟩
  · refine J.ild_n dX7_isIn_5 rfl ?_
    refine J.ild_n dX7_isIn_6 rfl ?_
    refine J.icmp_gt dX7_isIn_7 (by decide) (tgt := 14) (by unfold inI; omega) (by unfold inI; omega) (fun hb7 => ?_) (fun hb7 => ?_)
    · refine J.iconst dX7_isIn_14 ?_
      refine J.iret .boolean dX7_isIn_15 rfl rfl (by decide) (by decide) ?_
      exact ⟨rfl, rfl⟩
    · first | omega | exact absurd rfl hb7 | exact absurd hb7 (by decide)
set_option maxRecDepth 20000 in
theorem c_X7_isBook_t {X : jX} {σ : jS} {v : Int} (hv : inI v) (hx : 0 ≤ v ∧ v < 3) : JM X mX7_isBook rX7_isBook [vI v] σ (jEnd (oI 1) σ) := by
  refine JM.of (lc := [vI v]) rfl ?_
  refine J.ild_n dX7_isBook_0 rfl ?_
  refine J.iconst dX7_isBook_1 ?_
  refine J.iconst dX7_isBook_2 ?_
  refine J.callS (rm' := rX7_isIn) [vI v, vI 0, vI 2] dX7_isBook_3 (c_X7_isIn_t hv (by unfold inI; omega) (by unfold inI; omega) (by omega)) st_X7_isIn ml_X7_50 sm_X7_isIn rfl (Nat.le_of_ble_eq_true rfl) (by decide) (by decide) (Nat.le_of_ble_eq_true rfl) (by decide) (by decide) (Or.inl rfl) (fun E9 σ9 hq9 _ => nomatch hq9.1) (fun r9 σ9 hq9 hle9 => ?_)
  obtain ⟨h9, h8⟩ := hq9
  rw [h8]
  clear hle9 h8 σ9
  cases h9
  refine J.iret .boolean dX7_isBook_6 rfl rfl (by decide) (by decide) ?_
  exact ⟨rfl, rfl⟩
set_option maxRecDepth 20000 in
theorem c_X7_isBook_f {X : jX} {σ : jS} {v : Int} (hv : inI v) (hx : ¬ (0 ≤ v ∧ v < 3)) : JM X mX7_isBook rX7_isBook [vI v] σ (jEnd (oI 0) σ) := by
  refine JM.of (lc := [vI v]) rfl ?_
  refine J.ild_n dX7_isBook_0 rfl ?_
  refine J.iconst dX7_isBook_1 ?_
  refine J.iconst dX7_isBook_2 ?_
  refine J.callS (rm' := rX7_isIn) [vI v, vI 0, vI 2] dX7_isBook_3 (c_X7_isIn_f hv (by unfold inI; omega) (by unfold inI; omega) (by omega)) st_X7_isIn ml_X7_50 sm_X7_isIn rfl (Nat.le_of_ble_eq_true rfl) (by decide) (by decide) (Nat.le_of_ble_eq_true rfl) (by decide) (by decide) (Or.inl rfl) (fun E9 σ9 hq9 _ => nomatch hq9.1) (fun r9 σ9 hq9 hle9 => ?_)
  obtain ⟨h9, h8⟩ := hq9
  rw [h8]
  clear hle9 h8 σ9
  cases h9
  refine J.iret .boolean dX7_isBook_6 rfl rfl (by decide) (by decide) ?_
  exact ⟨rfl, rfl⟩
set_option maxRecDepth 20000 in
theorem c_X7_isCode_t {X : jX} {σ : jS} {v : Int} (hv : inI v) (hx : 0 ≤ v ∧ v ≤ 11881375) : JM X mX7_isCode rX7_isCode [vI v] σ (jEnd (oI 1) σ) := by
  refine JM.of (lc := [vI v]) rfl ?_
  refine J.ild_n dX7_isCode_0 rfl ?_
  refine J.iconst dX7_isCode_1 ?_
  refine J.ldc (b := 11881375) dX7_isCode_2 kc_X7_54 (by decide) ?_
  refine J.callS (rm' := rX7_isIn) [vI v, vI 0, vI 11881375] dX7_isCode_4 (c_X7_isIn_t hv (by unfold inI; omega) (by unfold inI; omega) (by omega)) st_X7_isIn ml_X7_50 sm_X7_isIn rfl (Nat.le_of_ble_eq_true rfl) (by decide) (by decide) (Nat.le_of_ble_eq_true rfl) (by decide) (by decide) (Or.inl rfl) (fun E9 σ9 hq9 _ => nomatch hq9.1) (fun r9 σ9 hq9 hle9 => ?_)
  obtain ⟨h9, h8⟩ := hq9
  rw [h8]
  clear hle9 h8 σ9
  cases h9
  refine J.iret .boolean dX7_isCode_7 rfl rfl (by decide) (by decide) ?_
  exact ⟨rfl, rfl⟩
set_option maxRecDepth 20000 in
theorem c_X7_isCode_f {X : jX} {σ : jS} {v : Int} (hv : inI v) (hx : ¬ (0 ≤ v ∧ v ≤ 11881375)) : JM X mX7_isCode rX7_isCode [vI v] σ (jEnd (oI 0) σ) := by
  refine JM.of (lc := [vI v]) rfl ?_
  refine J.ild_n dX7_isCode_0 rfl ?_
  refine J.iconst dX7_isCode_1 ?_
  refine J.ldc (b := 11881375) dX7_isCode_2 kc_X7_54 (by decide) ?_
  refine J.callS (rm' := rX7_isIn) [vI v, vI 0, vI 11881375] dX7_isCode_4 (c_X7_isIn_f hv (by unfold inI; omega) (by unfold inI; omega) (by omega)) st_X7_isIn ml_X7_50 sm_X7_isIn rfl (Nat.le_of_ble_eq_true rfl) (by decide) (by decide) (Nat.le_of_ble_eq_true rfl) (by decide) (by decide) (Or.inl rfl) (fun E9 σ9 hq9 _ => nomatch hq9.1) (fun r9 σ9 hq9 hle9 => ?_)
  obtain ⟨h9, h8⟩ := hq9
  rw [h8]
  clear hle9 h8 σ9
  cases h9
  refine J.iret .boolean dX7_isCode_7 rfl rfl (by decide) (by decide) ?_
  exact ⟨rfl, rfl⟩
set_option maxRecDepth 20000 in
theorem c_X7_isGroup_t {X : jX} {σ : jS} {th pr ln kn mn rd pa ps : Int} {v : Int} (hO : MO σ th pr ln kn mn rd pa ps) (hv : inI v) (hm : 0 ≤ mn ∧ mn ≤ 40) (hx : 0 ≤ v ∧ v < mn) : JM X mX7_isGroup rX7_isGroup [.ref 37, vI v] σ (jEnd (oI 1) σ) := by
  refine JM.of (lc := [.ref 37, vI v]) rfl ?_
  refine J.ild_n dX7_isGroup_0 rfl ?_
  refine J.iconst dX7_isGroup_1 ?_
  refine J.ald_n dX7_isGroup_2 rfl ?_
  refine gf_X7_124 rfl dX7_isGroup_3 hO ?_
  refine J.iconst dX7_isGroup_6 ?_
  refine J.isub dX7_isGroup_7 ?_
  refine J.callS (rm' := rX7_isIn) [vI v, vI 0, vI (mn - 1)] dX7_isGroup_8 (c_X7_isIn_t hv (by unfold inI; omega) (by unfold inI; omega) (by omega)) st_X7_isIn ml_X7_50 sm_X7_isIn rfl (Nat.le_of_ble_eq_true rfl) (by decide) (by decide) (Nat.le_of_ble_eq_true rfl) (by decide) (by decide) (Or.inl rfl) (fun E9 σ9 hq9 _ => nomatch hq9.1) (fun r9 σ9 hq9 hle9 => ?_)
  obtain ⟨h9, h8⟩ := hq9
  rw [h8]
  clear hle9 h8 σ9
  cases h9
  refine J.iret .boolean dX7_isGroup_11 rfl rfl (by decide) (by decide) ?_
  exact ⟨rfl, rfl⟩
set_option maxRecDepth 20000 in
theorem c_X7_isGroup_f {X : jX} {σ : jS} {th pr ln kn mn rd pa ps : Int} {v : Int} (hO : MO σ th pr ln kn mn rd pa ps) (hv : inI v) (hm : 0 ≤ mn ∧ mn ≤ 40) (hx : ¬ (0 ≤ v ∧ v < mn)) : JM X mX7_isGroup rX7_isGroup [.ref 37, vI v] σ (jEnd (oI 0) σ) := by
  refine JM.of (lc := [.ref 37, vI v]) rfl ?_
  refine J.ild_n dX7_isGroup_0 rfl ?_
  refine J.iconst dX7_isGroup_1 ?_
  refine J.ald_n dX7_isGroup_2 rfl ?_
  refine gf_X7_124 rfl dX7_isGroup_3 hO ?_
  refine J.iconst dX7_isGroup_6 ?_
  refine J.isub dX7_isGroup_7 ?_
  refine J.callS (rm' := rX7_isIn) [vI v, vI 0, vI (mn - 1)] dX7_isGroup_8 (c_X7_isIn_f hv (by unfold inI; omega) (by unfold inI; omega) (by omega)) st_X7_isIn ml_X7_50 sm_X7_isIn rfl (Nat.le_of_ble_eq_true rfl) (by decide) (by decide) (Nat.le_of_ble_eq_true rfl) (by decide) (by decide) (Or.inl rfl) (fun E9 σ9 hq9 _ => nomatch hq9.1) (fun r9 σ9 hq9 hle9 => ?_)
  obtain ⟨h9, h8⟩ := hq9
  rw [h8]
  clear hle9 h8 σ9
  cases h9
  refine J.iret .boolean dX7_isGroup_11 rfl rfl (by decide) (by decide) ?_
  exact ⟨rfl, rfl⟩
set_option maxRecDepth 20000 in
theorem c_X7_thrown {X : jX} {σ : jS} {th pr ln kn mn rd pa ps : Int} (hO : MO σ th pr ln kn mn rd pa ps) : JM X mX7_thrown rX7_thrown [.ref 37] σ (jEnd (oI th) σ) := by
  refine JM.of (lc := [.ref 37]) rfl ?_
  refine J.ald_n dX7_thrown_0 rfl ?_
  refine gf_X7_47 rfl dX7_thrown_1 hO ?_
  refine J.iret .int dX7_thrown_4 rfl rfl (by decide) (by decide) ?_
  exact ⟨rfl, rfl⟩
set_option maxRecDepth 20000 in
theorem c_X7_no {X : jX} {σ : jS} {th pr ln kn mn rd pa ps : Int} {x : Int} (hO : MO σ th pr ln kn mn rd pa ps) : JM X mX7_no rX7_no [.ref 37, vI x] σ (jEnd (oI 0) (jset σ 37 (jO 6 [vI x, vI pr, .ref 38, vI ln, vI kn, .ref 39, .ref 40, .ref 41, .ref 42, .ref 43, .ref 44, vI mn, .ref 45, vI rd, .ref 46, .ref 47, .ref 48, vI pa, vI ps]))) := by
  refine JM.of (lc := [.ref 37, vI x]) rfl ?_
  refine J.ald_n dX7_no_0 rfl ?_
  refine J.ild_n dX7_no_1 rfl ?_
  refine pf_X7_47 rfl dX7_no_2 hO ?_
  refine J.iconst dX7_no_5 ?_
  refine J.iret .int dX7_no_6 rfl rfl (by decide) (by decide) ?_
  exact ⟨rfl, rfl⟩
set_option maxRecDepth 20000 in
theorem c_X7_isEntry_b {X : jX} {σ : jS} {th pr ln kn mn rd pa ps : Int} {v w : Int} (hO : MO σ th pr ln kn mn rd pa ps) (hv : inI v) (hx : ¬ (0 ≤ v ∧ v < 3)) : JM X mX7_isEntry rX7_isEntry [.ref 37, vI v, vI w] σ (jEnd (oI 0) σ) := by
  refine JM.of (lc := [.ref 37, vI v, vI w]) rfl ?_
  refine J.ild_n dX7_isEntry_0 rfl ?_
  refine J.callS (rm' := rX7_isBook) [vI v] dX7_isEntry_1 (c_X7_isBook_f hv hx) st_X7_isBook ml_X7_55 sm_X7_isBook rfl (Nat.le_of_ble_eq_true rfl) (by decide) (by decide) (Nat.le_of_ble_eq_true rfl) (by decide) (by decide) (Or.inl rfl) (fun E9 σ9 hq9 _ => nomatch hq9.1) (fun r9 σ9 hq9 hle9 => ?_)
  obtain ⟨h9, h8⟩ := hq9
  rw [h8]
  clear hle9 h8 σ9
  cases h9
  refine J.if_eq dX7_isEntry_4 (by decide) (tgt := 27) (by unfold inI; omega) (fun hb4 => ?_) (fun hb4 => ?_)
  · refine J.iconst dX7_isEntry_27 ?_
    refine J.iret .boolean dX7_isEntry_28 rfl rfl (by decide) (by decide) ?_
    exact ⟨rfl, rfl⟩
  · first | omega | exact absurd rfl hb4 | exact absurd hb4 (by decide)
set_option maxRecDepth 20000 in
theorem c_X7_isEntry_f {X : jX} {σ : jS} {th pr ln kn mn rd pa ps : Int} {bn : Nat → Nat} {b : Nat} {w : Int} (hO : MO σ th pr ln kn mn rd pa ps) (h41 : σ.2 41 = jI 3 (fun e => ((bn e : Nat) : Int))) (hb : b < 3) (hn : bn b ≤ 40) (hw : inI w) (hx : ¬ (0 ≤ w ∧ w < ((bn b : Nat) : Int))) : JM X mX7_isEntry rX7_isEntry [.ref 37, vI ((b : Nat) : Int), vI w] σ (jEnd (oI 0) σ) := by
  refine JM.of (lc := [.ref 37, vI ((b : Nat) : Int), vI w]) rfl ?_
  refine J.ild_n dX7_isEntry_0 rfl ?_
  refine J.callS (rm' := rX7_isBook) [vI ((b : Nat) : Int)] dX7_isEntry_1 (c_X7_isBook_t (by unfold inI; omega) (by omega)) st_X7_isBook ml_X7_55 sm_X7_isBook rfl (Nat.le_of_ble_eq_true rfl) (by decide) (by decide) (Nat.le_of_ble_eq_true rfl) (by decide) (by decide) (Or.inl rfl) (fun E9 σ9 hq9 _ => nomatch hq9.1) (fun r9 σ9 hq9 hle9 => ?_)
  obtain ⟨h9, h8⟩ := hq9
  rw [h8]
  clear hle9 h8 σ9
  cases h9
  refine J.if_eq dX7_isEntry_4 (by decide) (tgt := 27) (by unfold inI; omega) (fun hb4 => ?_) (fun hb4 => ?_)
  · first | omega | exact absurd rfl hb4 | exact absurd hb4 (by decide)
  · refine J.ild_n dX7_isEntry_7 rfl ?_
    refine J.iconst dX7_isEntry_8 ?_
    refine J.ald_n dX7_isEntry_9 rfl ?_
    refine gf_X7_23 rfl dX7_isEntry_10 hO ?_
    refine J.ild_n dX7_isEntry_13 rfl ?_
    refine J.iald b dX7_isEntry_14 h41 rfl (by omega) (by omega) ?_
    refine J.iconst dX7_isEntry_15 ?_
    refine J.isub dX7_isEntry_16 ?_
    refine J.callS (rm' := rX7_isIn) [vI w, vI 0, vI (((bn b : Nat) : Int) - 1)] dX7_isEntry_17 (c_X7_isIn_f hw (by unfold inI; omega) (by unfold inI; omega) (by omega)) st_X7_isIn ml_X7_50 sm_X7_isIn rfl (Nat.le_of_ble_eq_true rfl) (by decide) (by decide) (Nat.le_of_ble_eq_true rfl) (by decide) (by decide) (Or.inl rfl) (fun E9 σ9 hq9 _ => nomatch hq9.1) (fun r9 σ9 hq9 hle9 => ?_)
    obtain ⟨h9, h8⟩ := hq9
    rw [h8]
    clear hle9 h8 σ9
    cases h9
    refine J.if_eq dX7_isEntry_20 (by decide) (tgt := 27) (by unfold inI; omega) (fun hb20 => ?_) (fun hb20 => ?_)
    · refine J.iconst dX7_isEntry_27 ?_
      refine J.iret .boolean dX7_isEntry_28 rfl rfl (by decide) (by decide) ?_
      exact ⟨rfl, rfl⟩
    · first | omega | exact absurd rfl hb20 | exact absurd hb20 (by decide)
set_option maxRecDepth 20000 in
theorem c_X7_isEntry_t {X : jX} {σ : jS} {th pr ln kn mn rd pa ps : Int} {bn : Nat → Nat} {b e : Nat} (hO : MO σ th pr ln kn mn rd pa ps) (h41 : σ.2 41 = jI 3 (fun e => ((bn e : Nat) : Int))) (hb : b < 3) (hn : bn b ≤ 40) (hx : e < bn b) : JM X mX7_isEntry rX7_isEntry [.ref 37, vI ((b : Nat) : Int), vI ((e : Nat) : Int)] σ (jEnd (oI 1) σ) := by
  refine JM.of (lc := [.ref 37, vI ((b : Nat) : Int), vI ((e : Nat) : Int)]) rfl ?_
  refine J.ild_n dX7_isEntry_0 rfl ?_
  refine J.callS (rm' := rX7_isBook) [vI ((b : Nat) : Int)] dX7_isEntry_1 (c_X7_isBook_t (by unfold inI; omega) (by omega)) st_X7_isBook ml_X7_55 sm_X7_isBook rfl (Nat.le_of_ble_eq_true rfl) (by decide) (by decide) (Nat.le_of_ble_eq_true rfl) (by decide) (by decide) (Or.inl rfl) (fun E9 σ9 hq9 _ => nomatch hq9.1) (fun r9 σ9 hq9 hle9 => ?_)
  obtain ⟨h9, h8⟩ := hq9
  rw [h8]
  clear hle9 h8 σ9
  cases h9
  refine J.if_eq dX7_isEntry_4 (by decide) (tgt := 27) (by unfold inI; omega) (fun hb4 => ?_) (fun hb4 => ?_)
  · first | omega | exact absurd rfl hb4 | exact absurd hb4 (by decide)
  · refine J.ild_n dX7_isEntry_7 rfl ?_
    refine J.iconst dX7_isEntry_8 ?_
    refine J.ald_n dX7_isEntry_9 rfl ?_
    refine gf_X7_23 rfl dX7_isEntry_10 hO ?_
    refine J.ild_n dX7_isEntry_13 rfl ?_
    refine J.iald b dX7_isEntry_14 h41 rfl (by omega) (by omega) ?_
    refine J.iconst dX7_isEntry_15 ?_
    refine J.isub dX7_isEntry_16 ?_
    refine J.callS (rm' := rX7_isIn) [vI ((e : Nat) : Int), vI 0, vI (((bn b : Nat) : Int) - 1)] dX7_isEntry_17 (c_X7_isIn_t (by unfold inI; omega) (by unfold inI; omega) (by unfold inI; omega) (by omega)) st_X7_isIn ml_X7_50 sm_X7_isIn rfl (Nat.le_of_ble_eq_true rfl) (by decide) (by decide) (Nat.le_of_ble_eq_true rfl) (by decide) (by decide) (Or.inl rfl) (fun E9 σ9 hq9 _ => nomatch hq9.1) (fun r9 σ9 hq9 hle9 => ?_)
    obtain ⟨h9, h8⟩ := hq9
    rw [h8]
    clear hle9 h8 σ9
    cases h9
    refine J.if_eq dX7_isEntry_20 (by decide) (tgt := 27) (by unfold inI; omega) (fun hb20 => ?_) (fun hb20 => ?_)
    · first | omega | exact absurd rfl hb20 | exact absurd hb20 (by decide)
    · refine J.iconst dX7_isEntry_23 ?_
      refine J.goto dX7_isEntry_24 (by decide) (tgt := 28) ?_
      refine J.iret .boolean dX7_isEntry_28 rfl rfl (by decide) (by decide) ?_
      exact ⟨rfl, rfl⟩
set_option maxRecDepth 20000 in
theorem c_X7_power {X : jX} {σ : jS} {p : Nat} (hp : p ≤ 4) : JM X mX7_power rX7_power [vI ((p : Nat) : Int)] σ (jEnd (oI ((26 ^ (4 - p) : Nat) : Int)) σ) := by
  refine JM.of (lc := [vI ((p : Nat) : Int), .null, .null]) rfl ?_
  refine J.iconst dX7_power_0 ?_
  refine J.ist_n dX7_power_1 (by decide) (jnc_of rfl rfl) ?_
  refine J.ild_n dX7_power_2 rfl ?_
  refine J.ist_n dX7_power_3 (by decide) (jnc_of rfl rfl) ?_
  have L : ∀ (t : Nat), ∀ (k : Nat) (x : Int), k + t = 4 → J X mX7_power rX7_power 4 [vI ((p : Nat) : Int), vI x, vI ((k : Nat) : Int)] [] 0 0 σ (jEnd (oI (x * ((26 ^ t : Nat) : Int))) σ) := by
    intro t
    induction t with
    | zero =>
      intro k x hk
      refine J.ild_n dX7_power_4 rfl ?_
      refine J.iconst dX7_power_5 ?_
      refine J.icmp_ge dX7_power_6 (by decide) (tgt := 20) (by unfold inI; omega) (by unfold inI; omega) (fun h => ?_) (fun h => ?_)
      · refine J.ild_n dX7_power_20 rfl ?_
        refine J.iret .int dX7_power_21 rfl rfl (by decide) (by decide) ?_
        exact ⟨by rw [show ((26 ^ 0 : Nat) : Int) = 1 from rfl, Int.mul_one], rfl⟩
      · omega
    | succ t ih =>
      intro k x hk
      refine J.ild_n dX7_power_4 rfl ?_
      refine J.iconst dX7_power_5 ?_
      refine J.icmp_ge dX7_power_6 (by decide) (tgt := 20) (by unfold inI; omega) (by unfold inI; omega) (fun h => ?_) (fun h => ?_)
      · omega
      · refine J.ild_n dX7_power_9 rfl ?_
        refine J.bipush dX7_power_10 (by decide) ?_
        refine J.imul dX7_power_12 ?_
        refine J.ist_n dX7_power_13 (by decide) (jnc_of rfl rfl) ?_
        refine J.iinc (v := ((k + 1 : Nat) : Int)) dX7_power_14 rfl (by first | rfl | omega) (by decide) (jnc_of rfl rfl) ?_
        refine J.goto dX7_power_17 (by decide) (tgt := 4) ?_
        rw [show x * ((26 ^ (t + 1) : Nat) : Int) = (x * 26) * ((26 ^ t : Nat) : Int) from by rw [Nat.pow_succ]; push_cast; rw [Int.mul_assoc, Int.mul_comm 26]]
        exact ih (k + 1) (x * 26) (by omega)
  have := L (4 - p) p 1 (by omega)
  rw [Int.one_mul] at this
  exact this
set_option maxRecDepth 20000 in
theorem c_X7_letterOf {X : jX} {σ : jS} {c p : Nat} (hc : c ≤ 11881375) (hp : p ≤ 4) : JM X mX7_letterOf rX7_letterOf [vI ((c : Nat) : Int), vI ((p : Nat) : Int)] σ (jEnd (oI ((ltr c p : Nat) : Int)) σ) := by
  refine JM.of (lc := [vI ((c : Nat) : Int), vI ((p : Nat) : Int)]) rfl ?_
  have hpb : 1 ≤ 26 ^ (4 - p) ∧ 26 ^ (4 - p) ≤ 456976 := ⟨Nat.pos_of_ne_zero (by simp), Nat.pow_le_pow_right (n := 26) (by omega) (show 4 - p ≤ 4 by omega)⟩
  have hdv : c / 26 ^ (4 - p) ≤ c := Nat.div_le_self _ _
  refine J.ild_n dX7_letterOf_0 rfl ?_
  refine J.ild_n dX7_letterOf_1 rfl ?_
  refine J.callS (rm' := rX7_power) [vI ((p : Nat) : Int)] dX7_letterOf_2 (c_X7_power hp) st_X7_power ml_X7_75 sm_X7_power rfl (Nat.le_of_ble_eq_true rfl) (by decide) (by decide) (Nat.le_of_ble_eq_true rfl) (by decide) (by decide) (Or.inl rfl) (fun E9 σ9 hq9 _ => nomatch hq9.1) (fun r9 σ9 hq9 hle9 => ?_)
  obtain ⟨h9, h8⟩ := hq9
  rw [h8]
  clear hle9 h8 σ9
  cases h9
  refine J.idiv dX7_letterOf_5 (by unfold inI; omega) (by unfold inI; omega) (by omega) ?_
  rw [show Int.tdiv ((c : Nat) : Int) ((26 ^ (4 - p) : Nat) : Int) = ((c / (26 ^ (4 - p)) : Nat) : Int) from by first | rfl | (exact (Int.ofNat_tdiv _ _).symm)]
  refine J.bipush dX7_letterOf_6 (by decide) ?_
  refine J.irem dX7_letterOf_8 (inI_le hdv (by omega)) (by unfold inI; omega) (by omega) ?_
  rw [show Int.tmod ((c / (26 ^ (4 - p)) : Nat) : Int) 26 = ((ltr c p : Nat) : Int) from (Int.ofNat_tmod _ _).symm]
  refine J.iret .int dX7_letterOf_9 rfl rfl (by decide) (by decide) ?_
  exact ⟨rfl, rfl⟩
set_option maxRecDepth 20000 in
theorem c_X7_isOneOff {X : jX} {σ : jS} {a b : Nat} (ha : a ≤ 11881375) (hb : b ≤ 11881375) : JM X mX7_isOneOff rX7_isOneOff [vI ((a : Nat) : Int), vI ((b : Nat) : Int)] σ (jEnd (oI (bN (decide (offT a b 5 0 = 1)))) σ) := by
  refine JM.of (lc := [vI ((a : Nat) : Int), vI ((b : Nat) : Int), .null, .null]) rfl ?_
  refine J.iconst dX7_isOneOff_0 ?_
  refine J.ist_n dX7_isOneOff_1 (by decide) (jnc_of rfl rfl) ?_
  refine J.iconst dX7_isOneOff_2 ?_
  refine J.ist_n dX7_isOneOff_3 (by decide) (jnc_of rfl rfl) ?_
  have L : ∀ (t : Nat), ∀ (p o : Nat), p + t = 5 → o ≤ p → J X mX7_isOneOff rX7_isOneOff 4 [vI ((a : Nat) : Int), vI ((b : Nat) : Int), vI ((o : Nat) : Int), vI ((p : Nat) : Int)] [] 0 0 σ (jEnd (oI (bN (decide (o + offT a b t p = 1)))) σ) := by
    intro t
    induction t with
    | zero =>
      intro p o hp ho
      refine J.ild_n dX7_isOneOff_4 rfl ?_
      refine J.iconst dX7_isOneOff_5 ?_
      refine J.icmp_ge dX7_isOneOff_6 (by decide) (tgt := 36) (by unfold inI; omega) (by unfold inI; omega) (fun h => ?_) (fun h => ?_)
      · refine J.ild_n dX7_isOneOff_36 rfl ?_
        refine J.iconst dX7_isOneOff_37 ?_
        refine J.icmp_ne dX7_isOneOff_38 (by decide) (tgt := 45) (by unfold inI; omega) (by unfold inI; omega) (fun h2 => ?_) (fun h2 => ?_)
        · refine J.iconst dX7_isOneOff_45 ?_
          refine J.iret .boolean dX7_isOneOff_46 rfl rfl (by decide) (by decide) ?_
          exact ⟨by rw [show o + offT a b 0 p = o from rfl, decide_eq_false (by omega)]; rfl, rfl⟩
        · refine J.iconst dX7_isOneOff_41 ?_
          refine J.goto dX7_isOneOff_42 (by decide) (tgt := 46) ?_
          refine J.iret .boolean dX7_isOneOff_46 rfl rfl (by decide) (by decide) ?_
          exact ⟨by rw [show o + offT a b 0 p = o from rfl, decide_eq_true (by omega)]; rfl, rfl⟩
      · omega
    | succ t ih =>
      intro p o hp ho
      refine J.ild_n dX7_isOneOff_4 rfl ?_
      refine J.iconst dX7_isOneOff_5 ?_
      refine J.icmp_ge dX7_isOneOff_6 (by decide) (tgt := 36) (by unfold inI; omega) (by unfold inI; omega) (fun h => ?_) (fun h => ?_)
      · omega
      · have hl1 := ltr_lt a p
        have hl2 := ltr_lt b p
        refine J.ild_n dX7_isOneOff_9 rfl ?_
        refine J.ild_n dX7_isOneOff_10 rfl ?_
        refine J.ild_n dX7_isOneOff_11 rfl ?_
        refine J.callS (rm' := rX7_letterOf) [vI ((a : Nat) : Int), vI ((p : Nat) : Int)] dX7_isOneOff_12 (c_X7_letterOf ha (by omega)) st_X7_letterOf ml_X7_81 sm_X7_letterOf rfl (Nat.le_of_ble_eq_true rfl) (by decide) (by decide) (Nat.le_of_ble_eq_true rfl) (by decide) (by decide) (Or.inl rfl) (fun E9 σ9 hq9 _ => nomatch hq9.1) (fun r9 σ9 hq9 hle9 => ?_)
        obtain ⟨h9, h8⟩ := hq9
        rw [h8]
        clear hle9 h8 σ9
        cases h9
        refine J.ild_n dX7_isOneOff_15 rfl ?_
        refine J.ild_n dX7_isOneOff_16 rfl ?_
        refine J.callS (rm' := rX7_letterOf) [vI ((b : Nat) : Int), vI ((p : Nat) : Int)] dX7_isOneOff_17 (c_X7_letterOf hb (by omega)) st_X7_letterOf ml_X7_81 sm_X7_letterOf rfl (Nat.le_of_ble_eq_true rfl) (by decide) (by decide) (Nat.le_of_ble_eq_true rfl) (by decide) (by decide) (Or.inl rfl) (fun E9 σ9 hq9 _ => nomatch hq9.1) (fun r9 σ9 hq9 hle9 => ?_)
        obtain ⟨h9, h8⟩ := hq9
        rw [h8]
        clear hle9 h8 σ9
        cases h9
        refine J.icmp_ne dX7_isOneOff_20 (by decide) (tgt := 27) (by unfold inI; omega) (by unfold inI; omega) (fun h3 => ?_) (fun h3 => ?_)
        · refine J.iconst dX7_isOneOff_27 ?_
          refine J.iadd dX7_isOneOff_28 ?_
          rw [show (((o : Nat) : Int) : Int) + 1 = ((o + 1 : Nat) : Int) from by push_cast; rfl]
          refine J.ist_n dX7_isOneOff_29 (by decide) (jnc_of rfl rfl) ?_
          refine J.iinc (v := ((p + 1 : Nat) : Int)) dX7_isOneOff_30 rfl (by first | rfl | omega) (by decide) (jnc_of rfl rfl) ?_
          refine J.goto dX7_isOneOff_33 (by decide) (tgt := 4) ?_
          rw [show o + offT a b (t + 1) p = (o + 1) + offT a b t (p + 1) from by rw [show offT a b (t + 1) p = offN a b p + offT a b t (p + 1) from rfl, show offN a b p = 1 from if_neg (by omega)]; omega]
          exact ih (p + 1) (o + 1) (by omega) (by omega)
        · refine J.iconst dX7_isOneOff_23 ?_
          refine J.goto dX7_isOneOff_24 (by decide) (tgt := 28) ?_
          refine J.iadd dX7_isOneOff_28 ?_
          rw [show (((o : Nat) : Int) : Int) + 0 = ((o + 0 : Nat) : Int) from by push_cast; rfl]
          refine J.ist_n dX7_isOneOff_29 (by decide) (jnc_of rfl rfl) ?_
          refine J.iinc (v := ((p + 1 : Nat) : Int)) dX7_isOneOff_30 rfl (by first | rfl | omega) (by decide) (jnc_of rfl rfl) ?_
          refine J.goto dX7_isOneOff_33 (by decide) (tgt := 4) ?_
          rw [show o + offT a b (t + 1) p = (o + 0) + offT a b t (p + 1) from by rw [show offT a b (t + 1) p = offN a b p + offT a b t (p + 1) from rfl, show offN a b p = 0 from if_pos (by omega)]; omega]
          exact ih (p + 1) (o + 0) (by omega) (by omega)
  have := L 5 0 0 (by omega) (by omega)
  rw [Nat.zero_add] at this
  exact this
set_option maxRecDepth 20000 in
theorem c_X7_swapped {X : jX} {σ : jS} {c p : Nat} (hc : c ≤ 11881375) (hp : p ≤ 3) : JM X mX7_swapped rX7_swapped [vI ((c : Nat) : Int), vI ((p : Nat) : Int)] σ (jEnd (oI ((swp c p : Nat) : Int)) σ) := by
  refine JM.of (lc := [vI ((c : Nat) : Int), vI ((p : Nat) : Int), .null]) rfl ?_
  refine J.ild_n dX7_swapped_0 rfl ?_
  refine J.ild_n dX7_swapped_1 rfl ?_
  refine J.iconst dX7_swapped_2 ?_
  refine J.iadd dX7_swapped_3 ?_
  rw [show (((p : Nat) : Int) : Int) + 1 = ((p + 1 : Nat) : Int) from by push_cast; rfl]
  refine J.callS (rm' := rX7_letterOf) [vI ((c : Nat) : Int), vI ((p + 1 : Nat) : Int)] dX7_swapped_4 (c_X7_letterOf hc (by omega)) st_X7_letterOf ml_X7_81 sm_X7_letterOf rfl (Nat.le_of_ble_eq_true rfl) (by decide) (by decide) (Nat.le_of_ble_eq_true rfl) (by decide) (by decide) (Or.inl rfl) (fun E9 σ9 hq9 _ => nomatch hq9.1) (fun r9 σ9 hq9 hle9 => ?_)
  obtain ⟨h9, h8⟩ := hq9
  rw [h8]
  clear hle9 h8 σ9
  cases h9
  refine J.ild_n dX7_swapped_7 rfl ?_
  refine J.ild_n dX7_swapped_8 rfl ?_
  refine J.callS (rm' := rX7_letterOf) [vI ((c : Nat) : Int), vI ((p : Nat) : Int)] dX7_swapped_9 (c_X7_letterOf hc (by omega)) st_X7_letterOf ml_X7_81 sm_X7_letterOf rfl (Nat.le_of_ble_eq_true rfl) (by decide) (by decide) (Nat.le_of_ble_eq_true rfl) (by decide) (by decide) (Or.inl rfl) (fun E9 σ9 hq9 _ => nomatch hq9.1) (fun r9 σ9 hq9 hle9 => ?_)
  obtain ⟨h9, h8⟩ := hq9
  rw [h8]
  clear hle9 h8 σ9
  cases h9
  refine J.isub dX7_swapped_12 ?_
  refine J.ist_n dX7_swapped_13 (by decide) (jnc_of rfl rfl) ?_
  refine J.ild_n dX7_swapped_14 rfl ?_
  refine J.ild_n dX7_swapped_15 rfl ?_
  refine J.ild_n dX7_swapped_16 rfl ?_
  refine J.callS (rm' := rX7_power) [vI ((p : Nat) : Int)] dX7_swapped_17 (c_X7_power (by omega)) st_X7_power ml_X7_75 sm_X7_power rfl (Nat.le_of_ble_eq_true rfl) (by decide) (by decide) (Nat.le_of_ble_eq_true rfl) (by decide) (by decide) (Or.inl rfl) (fun E9 σ9 hq9 _ => nomatch hq9.1) (fun r9 σ9 hq9 hle9 => ?_)
  obtain ⟨h9, h8⟩ := hq9
  rw [h8]
  clear hle9 h8 σ9
  cases h9
  refine J.imul dX7_swapped_20 ?_
  refine J.iadd dX7_swapped_21 ?_
  refine J.ild_n dX7_swapped_22 rfl ?_
  refine J.ild_n dX7_swapped_23 rfl ?_
  refine J.iconst dX7_swapped_24 ?_
  refine J.iadd dX7_swapped_25 ?_
  rw [show (((p : Nat) : Int) : Int) + 1 = ((p + 1 : Nat) : Int) from by push_cast; rfl]
  refine J.callS (rm' := rX7_power) [vI ((p + 1 : Nat) : Int)] dX7_swapped_26 (c_X7_power (by omega)) st_X7_power ml_X7_75 sm_X7_power rfl (Nat.le_of_ble_eq_true rfl) (by decide) (by decide) (Nat.le_of_ble_eq_true rfl) (by decide) (by decide) (Or.inl rfl) (fun E9 σ9 hq9 _ => nomatch hq9.1) (fun r9 σ9 hq9 hle9 => ?_)
  obtain ⟨h9, h8⟩ := hq9
  rw [h8]
  clear hle9 h8 σ9
  cases h9
  refine J.imul dX7_swapped_29 ?_
  refine J.isub dX7_swapped_30 ?_
  rw [show (((c : Nat) : Int) + ((((ltr c (p + 1) : Nat) : Int) - ((ltr c p : Nat) : Int)) * ((26 ^ (4 - p) : Nat) : Int))) - ((((ltr c (p + 1) : Nat) : Int) - ((ltr c p : Nat) : Int)) * ((26 ^ (4 - (p + 1)) : Nat) : Int)) = ((swp c p : Nat) : Int) from swpE hc hp]
  refine J.iret .int dX7_swapped_31 rfl rfl (by decide) (by decide) ?_
  exact ⟨rfl, rfl⟩
set_option maxRecDepth 20000 in
theorem c_X7_isSwapped {X : jX} {σ : jS} {a b : Nat} (ha : a ≤ 11881375) (hb : b ≤ 11881375) (hab : a ≠ b) : JM X mX7_isSwapped rX7_isSwapped [vI ((a : Nat) : Int), vI ((b : Nat) : Int)] σ (jEnd (oI (bN (swT a b 4 0))) σ) := by
  refine JM.of (lc := [vI ((a : Nat) : Int), vI ((b : Nat) : Int), .null, .null]) rfl ?_
  refine J.iconst dX7_isSwapped_0 ?_
  refine J.ist_n dX7_isSwapped_1 (by decide) (jnc_of rfl rfl) ?_
  refine J.iconst dX7_isSwapped_2 ?_
  refine J.ist_n dX7_isSwapped_3 (by decide) (jnc_of rfl rfl) ?_
  have L : ∀ (t : Nat), ∀ (p : Nat) (is : Bool), p + t = 4 → J X mX7_isSwapped rX7_isSwapped 4 [vI ((a : Nat) : Int), vI ((b : Nat) : Int), vI (bN is), vI ((p : Nat) : Int)] [] 0 0 σ (jEnd (oI (bN (is || swT a b t p))) σ) := by
    intro t
    induction t with
    | zero =>
      intro p is hp
      refine J.ild_n dX7_isSwapped_4 rfl ?_
      refine J.iconst dX7_isSwapped_5 ?_
      refine J.icmp_ge dX7_isSwapped_6 (by decide) (tgt := 39) (by unfold inI; omega) (by unfold inI; omega) (fun h => ?_) (fun h => ?_)
      · refine J.ild_n dX7_isSwapped_39 rfl ?_
        cases is with
        | true =>
          rw [show swT a b 0 p = false from rfl, Bool.or_false, show bN true = 1 from rfl]
          refine J.iret .boolean dX7_isSwapped_40 rfl rfl (by decide) (by decide) ?_
          exact ⟨rfl, rfl⟩
        | false =>
          rw [show swT a b 0 p = false from rfl, Bool.or_false, show bN false = 0 from rfl]
          refine J.iret .boolean dX7_isSwapped_40 rfl rfl (by decide) (by decide) ?_
          exact ⟨rfl, rfl⟩
      · omega
    | succ t ih =>
      intro p is hp
      refine J.ild_n dX7_isSwapped_4 rfl ?_
      refine J.iconst dX7_isSwapped_5 ?_
      refine J.icmp_ge dX7_isSwapped_6 (by decide) (tgt := 39) (by unfold inI; omega) (by unfold inI; omega) (fun h => ?_) (fun h => ?_)
      · omega
      · have hsl := swp_le (p := p) ha (by omega)
        rw [show swT a b (t + 1) p = (decide (swp a p = b) || swT a b t (p + 1)) from rfl]
        cases is with
        | true =>
          rw [show bN true = 1 from rfl]
          refine J.ild_n dX7_isSwapped_9 rfl ?_
          refine J.if_ne dX7_isSwapped_10 (by decide) (tgt := 27) (by unfold inI; omega) (fun h4 => ?_) (fun h4 => ?_)
          · refine J.iconst dX7_isSwapped_27 ?_
            refine J.goto dX7_isSwapped_28 (by decide) (tgt := 32) ?_
            refine J.ist_n dX7_isSwapped_32 (by decide) (jnc_of rfl rfl) ?_
            refine J.iinc (v := ((p + 1 : Nat) : Int)) dX7_isSwapped_33 rfl (by first | rfl | omega) (by decide) (jnc_of rfl rfl) ?_
            refine J.goto dX7_isSwapped_36 (by decide) (tgt := 4) ?_
            have := ih (p + 1) true (by omega)
            rw [Bool.true_or] at this ⊢
            exact this
          · exact absurd h4 (by decide)
        | false =>
          rw [show bN false = 0 from rfl]
          refine J.ild_n dX7_isSwapped_9 rfl ?_
          refine J.if_ne dX7_isSwapped_10 (by decide) (tgt := 27) (by unfold inI; omega) (fun h4 => ?_) (fun h4 => ?_)
          · exact absurd rfl h4
          · refine J.ild_n dX7_isSwapped_13 rfl ?_
            refine J.ild_n dX7_isSwapped_14 rfl ?_
            refine J.icmp_eq dX7_isSwapped_15 (by decide) (tgt := 31) (by unfold inI; omega) (by unfold inI; omega) (fun h5 => ?_) (fun h5 => ?_)
            · omega
            · refine J.ild_n dX7_isSwapped_18 rfl ?_
              refine J.ild_n dX7_isSwapped_19 rfl ?_
              refine J.callS (rm' := rX7_swapped) [vI ((a : Nat) : Int), vI ((p : Nat) : Int)] dX7_isSwapped_20 (c_X7_swapped ha (by omega)) st_X7_swapped ml_X7_85 sm_X7_swapped rfl (Nat.le_of_ble_eq_true rfl) (by decide) (by decide) (Nat.le_of_ble_eq_true rfl) (by decide) (by decide) (Or.inl rfl) (fun E9 σ9 hq9 _ => nomatch hq9.1) (fun r9 σ9 hq9 hle9 => ?_)
              obtain ⟨h9, h8⟩ := hq9
              rw [h8]
              clear hle9 h8 σ9
              cases h9
              refine J.ild_n dX7_isSwapped_23 rfl ?_
              refine J.icmp_ne dX7_isSwapped_24 (by decide) (tgt := 31) (by unfold inI; omega) (by unfold inI; omega) (fun h6 => ?_) (fun h6 => ?_)
              · refine J.iconst dX7_isSwapped_31 ?_
                refine J.ist_n dX7_isSwapped_32 (by decide) (jnc_of rfl rfl) ?_
                refine J.iinc (v := ((p + 1 : Nat) : Int)) dX7_isSwapped_33 rfl (by first | rfl | omega) (by decide) (jnc_of rfl rfl) ?_
                refine J.goto dX7_isSwapped_36 (by decide) (tgt := 4) ?_
                rw [decide_eq_false (by omega), Bool.false_or]
                exact ih (p + 1) false (by omega)
              · refine J.iconst dX7_isSwapped_27 ?_
                refine J.goto dX7_isSwapped_28 (by decide) (tgt := 32) ?_
                refine J.ist_n dX7_isSwapped_32 (by decide) (jnc_of rfl rfl) ?_
                refine J.iinc (v := ((p + 1 : Nat) : Int)) dX7_isSwapped_33 rfl (by first | rfl | omega) (by decide) (jnc_of rfl rfl) ?_
                refine J.goto dX7_isSwapped_36 (by decide) (tgt := 4) ?_
                rw [decide_eq_true (by omega)]
                have := ih (p + 1) true (by omega)
                rw [Bool.true_or] at this
                exact this
  have := L 4 0 false (by omega)
  rw [Bool.false_or] at this
  exact this
