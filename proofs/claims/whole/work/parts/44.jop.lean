theorem op_say {X : jX} {σ : jS} {pr : Int} {ln : Nat} {lw : Nat → Int} {bn : Nat → Nat} {cd sz : Nat → Nat → Nat} {ph : Nat → Nat → Int} {mn : Nat} {mg : Nat → Int} {kn : Nat} {kr : Nat → Int} {ks : Nat → Nat} {kt : Nat → Nat → Int} {rd : Nat} {rg : Nat → Int} (hW : CW σ pr ln lw bn cd sz ph mn mg kn kr ks kt rd rg) (hI : CI pr ln lw bn cd sz ph mn mg kn kr ks kt rd rg) {f0 : Nat → Int} {g0 : Nat → UInt64} (e49 : σ.2 49 = jL 1 f0) (e50 : σ.2 50 = jD 1 g0) (a0 : Int) (i0 : inI a0) : ∃ (k : Int) (v : Int) (pr' : Int) (ln' : Nat) (lw' : Nat → Int) (bn' : Nat → Nat) (cd' : Nat → Nat → Nat) (sz' : Nat → Nat → Nat) (ph' : Nat → Nat → Int) (mn' : Nat) (mg' : Nat → Int) (kn' : Nat) (kr' : Nat → Int) (ks' : Nat → Nat) (kt' : Nat → Nat → Int) (rd' : Nat) (rg' : Nat → Int), JM X mL_say rL_say [.ref 5, vI a0, .ref 49] σ (LQ k v σ (fun σ1 => CW σ1 pr' ln' lw' bn' cd' sz' ph' mn' mg' kn' kr' ks' kt' rd' rg')) ∧ (∀ (σ1 : jS) (th : Int), MW σ1 th pr ln lw bn cd sz ph mn mg kn kr ks kt rd rg → JM X mX7_say rX7_say [.ref 37, vI a0] σ1 (MP k v σ1 (fun σ2 => MW σ2 k pr' ln' lw' bn' cd' sz' ph' mn' mg' kn' kr' ks' kt' rd' rg'))) ∧ CI pr' ln' lw' bn' cd' sz' ph' mn' mg' kn' kr' ks' kt' rd' rg' ∧ (0 ≤ k ∧ k ≤ 3) ∧ (k = 0 → inI v) := by
  obtain ⟨hpr, ⟨hln, hlw⟩, hbk, ⟨hmn, hmg⟩, hki, hrd, hrg⟩ := id hI
  have hkn := hki.1
  by_cases h1 : 0 ≤ a0 ∧ a0 ≤ 9999
  · by_cases h2 : ln < 40
    · exact ⟨0, ((ln + 1 : Nat) : Int), _, _, _, _, _, _, _, _, _, _, _, _, _, _, _, l_say_0 (v := ((ln + 1 : Nat) : Int)) (c_say_0 hW hI h1 h2) hW.1.1 e49 e50 (fun _ _ hj h => h.keep hj) (by first | assumption | (unfold inI; omega)), fun σ1 th hM => m_say_0 hM hI h1 h2, ⟨hpr, ⟨by omega, jupB hlw h1⟩, hbk, ⟨hmn, hmg⟩, hki, hrd, hrg⟩, ⟨by decide, by decide⟩, fun _ => (by first | assumption | (unfold inI; omega))⟩
    · exact ⟨2, 0, _, _, _, _, _, _, _, _, _, _, _, _, _, _, _, l_say_2 (v := 0) (c_say_2 hW hI h1 h2) hW.1.1 e49 e50, fun σ1 th hM => m_say_2 hM hI h1 h2, hI, ⟨by decide, by decide⟩, fun q => absurd q (by decide)⟩
  · exact ⟨1, 0, _, _, _, _, _, _, _, _, _, _, _, _, _, _, _, l_say_1 (v := 0) (c_say_1 hW hI i0 h1) hW.1.1 e49 e50, fun σ1 th hM => m_say_1 hM hI i0 h1, hI, ⟨by decide, by decide⟩, fun q => absurd q (by decide)⟩
theorem op_wordAt {X : jX} {σ : jS} {pr : Int} {ln : Nat} {lw : Nat → Int} {bn : Nat → Nat} {cd sz : Nat → Nat → Nat} {ph : Nat → Nat → Int} {mn : Nat} {mg : Nat → Int} {kn : Nat} {kr : Nat → Int} {ks : Nat → Nat} {kt : Nat → Nat → Int} {rd : Nat} {rg : Nat → Int} (hW : CW σ pr ln lw bn cd sz ph mn mg kn kr ks kt rd rg) (hI : CI pr ln lw bn cd sz ph mn mg kn kr ks kt rd rg) {f0 : Nat → Int} {g0 : Nat → UInt64} (e49 : σ.2 49 = jL 1 f0) (e50 : σ.2 50 = jD 1 g0) (a0 : Int) (i0 : inI a0) : ∃ (k : Int) (v : Int) (pr' : Int) (ln' : Nat) (lw' : Nat → Int) (bn' : Nat → Nat) (cd' : Nat → Nat → Nat) (sz' : Nat → Nat → Nat) (ph' : Nat → Nat → Int) (mn' : Nat) (mg' : Nat → Int) (kn' : Nat) (kr' : Nat → Int) (ks' : Nat → Nat) (kt' : Nat → Nat → Int) (rd' : Nat) (rg' : Nat → Int), JM X mL_wordAt rL_wordAt [.ref 5, vI a0, .ref 49] σ (LQ k v σ (fun σ1 => CW σ1 pr' ln' lw' bn' cd' sz' ph' mn' mg' kn' kr' ks' kt' rd' rg')) ∧ (∀ (σ1 : jS) (th : Int), MW σ1 th pr ln lw bn cd sz ph mn mg kn kr ks kt rd rg → JM X mX7_wordAt rX7_wordAt [.ref 37, vI a0] σ1 (MP k v σ1 (fun σ2 => MW σ2 k pr' ln' lw' bn' cd' sz' ph' mn' mg' kn' kr' ks' kt' rd' rg'))) ∧ CI pr' ln' lw' bn' cd' sz' ph' mn' mg' kn' kr' ks' kt' rd' rg' ∧ (0 ≤ k ∧ k ≤ 3) ∧ (k = 0 → inI v) := by
  obtain ⟨hpr, ⟨hln, hlw⟩, hbk, ⟨hmn, hmg⟩, hki, hrd, hrg⟩ := id hI
  have hkn := hki.1
  by_cases h1 : 0 ≤ a0 ∧ a0 < ((ln : Nat) : Int)
  · obtain ⟨p, rfl⟩ : ∃ p : Nat, a0 = ((p : Nat) : Int) := ⟨a0.toNat, by omega⟩
    exact ⟨0, (lw p), _, _, _, _, _, _, _, _, _, _, _, _, _, _, _, l_wordAt_0 (v := (lw p)) (c_wordAt_0 hW hI (by omega)) hW.1.1 e49 e50 (fun _ _ hj h => h.keep hj) (inI_w (hlw p)), fun σ1 th hM => m_wordAt_0 hM hI (by omega), hI, ⟨by decide, by decide⟩, fun _ => inI_w (hlw p)⟩
  · exact ⟨1, 0, _, _, _, _, _, _, _, _, _, _, _, _, _, _, _, l_wordAt_1 (v := 0) (c_wordAt_1 hW hI i0 h1) hW.1.1 e49 e50, fun σ1 th hM => m_wordAt_1 hM hI i0 h1, hI, ⟨by decide, by decide⟩, fun q => absurd q (by decide)⟩
theorem op_keep {X : jX} {σ : jS} {pr : Int} {ln : Nat} {lw : Nat → Int} {bn : Nat → Nat} {cd sz : Nat → Nat → Nat} {ph : Nat → Nat → Int} {mn : Nat} {mg : Nat → Int} {kn : Nat} {kr : Nat → Int} {ks : Nat → Nat} {kt : Nat → Nat → Int} {rd : Nat} {rg : Nat → Int} (hW : CW σ pr ln lw bn cd sz ph mn mg kn kr ks kt rd rg) (hI : CI pr ln lw bn cd sz ph mn mg kn kr ks kt rd rg) {f0 : Nat → Int} {g0 : Nat → UInt64} (e49 : σ.2 49 = jL 1 f0) (e50 : σ.2 50 = jD 1 g0) : ∃ (k : Int) (v : Int) (pr' : Int) (ln' : Nat) (lw' : Nat → Int) (bn' : Nat → Nat) (cd' : Nat → Nat → Nat) (sz' : Nat → Nat → Nat) (ph' : Nat → Nat → Int) (mn' : Nat) (mg' : Nat → Int) (kn' : Nat) (kr' : Nat → Int) (ks' : Nat → Nat) (kt' : Nat → Nat → Int) (rd' : Nat) (rg' : Nat → Int), JM X mL_keep rL_keep [.ref 5, .ref 49] σ (LQ k v σ (fun σ1 => CW σ1 pr' ln' lw' bn' cd' sz' ph' mn' mg' kn' kr' ks' kt' rd' rg')) ∧ (∀ (σ1 : jS) (th : Int), MW σ1 th pr ln lw bn cd sz ph mn mg kn kr ks kt rd rg → JM X mX7_keep rX7_keep [.ref 37] σ1 (MP k v σ1 (fun σ2 => MW σ2 k pr' ln' lw' bn' cd' sz' ph' mn' mg' kn' kr' ks' kt' rd' rg'))) ∧ CI pr' ln' lw' bn' cd' sz' ph' mn' mg' kn' kr' ks' kt' rd' rg' ∧ (0 ≤ k ∧ k ≤ 3) ∧ (k = 0 → inI v) := by
  obtain ⟨hpr, ⟨hln, hlw⟩, hbk, ⟨hmn, hmg⟩, hki, hrd, hrg⟩ := id hI
  have hkn := hki.1
  by_cases h1 : 0 < ln ∧ kn < 12
  · exact ⟨0, ((kn + 1 : Nat) : Int), _, _, _, _, _, _, _, _, _, _, _, _, _, _, _, l_keep_0 (v := ((kn + 1 : Nat) : Int)) (c_keep_0 hW hI h1) hW.1.1 e49 e50 (fun _ _ hj h => h.keep hj) (by first | assumption | (unfold inI; omega)), fun σ1 th hM => m_keep_0 hM hI h1, ⟨hpr, ⟨by omega, hlw⟩, hbk, ⟨hmn, hmg⟩, hki.add h1.2 ⟨by omega, hln⟩ hlw, hrd, hrg⟩, ⟨by decide, by decide⟩, fun _ => (by first | assumption | (unfold inI; omega))⟩
  · exact ⟨1, 0, _, _, _, _, _, _, _, _, _, _, _, _, _, _, _, l_keep_1 (v := 0) (c_keep_1 hW hI h1) hW.1.1 e49 e50, fun σ1 th hM => m_keep_1 hM hI h1, hI, ⟨by decide, by decide⟩, fun q => absurd q (by decide)⟩
theorem op_recall {X : jX} {σ : jS} {pr : Int} {ln : Nat} {lw : Nat → Int} {bn : Nat → Nat} {cd sz : Nat → Nat → Nat} {ph : Nat → Nat → Int} {mn : Nat} {mg : Nat → Int} {kn : Nat} {kr : Nat → Int} {ks : Nat → Nat} {kt : Nat → Nat → Int} {rd : Nat} {rg : Nat → Int} (hW : CW σ pr ln lw bn cd sz ph mn mg kn kr ks kt rd rg) (hI : CI pr ln lw bn cd sz ph mn mg kn kr ks kt rd rg) {f0 : Nat → Int} {g0 : Nat → UInt64} (e49 : σ.2 49 = jL 1 f0) (e50 : σ.2 50 = jD 1 g0) (a0 : Int) (i0 : inI a0) : ∃ (k : Int) (v : Int) (pr' : Int) (ln' : Nat) (lw' : Nat → Int) (bn' : Nat → Nat) (cd' : Nat → Nat → Nat) (sz' : Nat → Nat → Nat) (ph' : Nat → Nat → Int) (mn' : Nat) (mg' : Nat → Int) (kn' : Nat) (kr' : Nat → Int) (ks' : Nat → Nat) (kt' : Nat → Nat → Int) (rd' : Nat) (rg' : Nat → Int), JM X mL_recall rL_recall [.ref 5, vI a0, .ref 49] σ (LQ k v σ (fun σ1 => CW σ1 pr' ln' lw' bn' cd' sz' ph' mn' mg' kn' kr' ks' kt' rd' rg')) ∧ (∀ (σ1 : jS) (th : Int), MW σ1 th pr ln lw bn cd sz ph mn mg kn kr ks kt rd rg → JM X mX7_recall rX7_recall [.ref 37, vI a0] σ1 (MP k v σ1 (fun σ2 => MW σ2 k pr' ln' lw' bn' cd' sz' ph' mn' mg' kn' kr' ks' kt' rd' rg'))) ∧ CI pr' ln' lw' bn' cd' sz' ph' mn' mg' kn' kr' ks' kt' rd' rg' ∧ (0 ≤ k ∧ k ≤ 3) ∧ (k = 0 → inI v) := by
  obtain ⟨hpr, ⟨hln, hlw⟩, hbk, ⟨hmn, hmg⟩, hki, hrd, hrg⟩ := id hI
  have hkn := hki.1
  by_cases h1 : 0 ≤ a0 ∧ a0 < ((kn : Nat) : Int)
  · obtain ⟨p, rfl⟩ : ∃ p : Nat, a0 = ((p : Nat) : Int) := ⟨a0.toNat, by omega⟩
    have hp : p < kn := by omega
    have hkp := hki.2.1 p hp
    exact ⟨0, ((ks p : Nat) : Int), _, _, _, _, _, _, _, _, _, _, _, _, _, _, _, l_recall_0 (v := ((ks p : Nat) : Int)) (c_recall_0 hW hI hp) hW.1.1 e49 e50 (fun _ _ hj h => h.keep hj) (by first | assumption | (unfold inI; omega)), fun σ1 th hM => m_recall_0 hM hI hp, ⟨hpr, ⟨hkp.2, alF_in (P := fun y => 0 ≤ y ∧ y ≤ 9999) _ _ _ _ (fun i hi => hki.pos (z := ks p) ⟨p, 0, hp, by omega, rfl⟩ hi) hlw⟩, hbk, ⟨hmn, hmg⟩, hki, hrd, hrg⟩, ⟨by decide, by decide⟩, fun _ => (by first | assumption | (unfold inI; omega))⟩
  · exact ⟨1, 0, _, _, _, _, _, _, _, _, _, _, _, _, _, _, _, l_recall_1 (v := 0) (c_recall_1 hW hI i0 h1) hW.1.1 e49 e50, fun σ1 th hM => m_recall_1 hM hI i0 h1, hI, ⟨by decide, by decide⟩, fun q => absurd q (by decide)⟩
theorem op_letter {X : jX} {σ : jS} {pr : Int} {ln : Nat} {lw : Nat → Int} {bn : Nat → Nat} {cd sz : Nat → Nat → Nat} {ph : Nat → Nat → Int} {mn : Nat} {mg : Nat → Int} {kn : Nat} {kr : Nat → Int} {ks : Nat → Nat} {kt : Nat → Nat → Int} {rd : Nat} {rg : Nat → Int} (hW : CW σ pr ln lw bn cd sz ph mn mg kn kr ks kt rd rg) (hI : CI pr ln lw bn cd sz ph mn mg kn kr ks kt rd rg) {f0 : Nat → Int} {g0 : Nat → UInt64} (e49 : σ.2 49 = jL 1 f0) (e50 : σ.2 50 = jD 1 g0) (a0 a1 : Int) (i0 : inI a0) (i1 : inI a1) : ∃ (k : Int) (v : Int) (pr' : Int) (ln' : Nat) (lw' : Nat → Int) (bn' : Nat → Nat) (cd' : Nat → Nat → Nat) (sz' : Nat → Nat → Nat) (ph' : Nat → Nat → Int) (mn' : Nat) (mg' : Nat → Int) (kn' : Nat) (kr' : Nat → Int) (ks' : Nat → Nat) (kt' : Nat → Nat → Int) (rd' : Nat) (rg' : Nat → Int), JM X mL_letter rL_letter [.ref 5, vI a0, vI a1, .ref 49] σ (LQ k v σ (fun σ1 => CW σ1 pr' ln' lw' bn' cd' sz' ph' mn' mg' kn' kr' ks' kt' rd' rg')) ∧ (∀ (σ1 : jS) (th : Int), MW σ1 th pr ln lw bn cd sz ph mn mg kn kr ks kt rd rg → JM X mX7_letter rX7_letter [.ref 37, vI a0, vI a1] σ1 (MP k v σ1 (fun σ2 => MW σ2 k pr' ln' lw' bn' cd' sz' ph' mn' mg' kn' kr' ks' kt' rd' rg'))) ∧ CI pr' ln' lw' bn' cd' sz' ph' mn' mg' kn' kr' ks' kt' rd' rg' ∧ (0 ≤ k ∧ k ≤ 3) ∧ (k = 0 → inI v) := by
  obtain ⟨hpr, ⟨hln, hlw⟩, hbk, ⟨hmn, hmg⟩, hki, hrd, hrg⟩ := id hI
  have hkn := hki.1
  by_cases h1 : 0 ≤ a0 ∧ a0 ≤ 11881375
  · obtain ⟨c, rfl⟩ : ∃ c : Nat, a0 = ((c : Nat) : Int) := ⟨a0.toNat, by omega⟩
    have hc : c ≤ 11881375 := by omega
    by_cases h2 : 0 ≤ a1 ∧ a1 < ((5 : Nat) : Int)
    · obtain ⟨p, rfl⟩ : ∃ p : Nat, a1 = ((p : Nat) : Int) := ⟨a1.toNat, by omega⟩
      have hl := ltr_lt c p
      exact ⟨0, ((ltr c p : Nat) : Int), _, _, _, _, _, _, _, _, _, _, _, _, _, _, _, l_letter_0 (v := ((ltr c p : Nat) : Int)) (c_letter_0 hW hI hc (by omega)) hW.1.1 e49 e50 (fun _ _ hj h => h.keep hj) (by first | assumption | (unfold inI; omega)), fun σ1 th hM => m_letter_0 hM hI hc (by omega), hI, ⟨by decide, by decide⟩, fun _ => (by first | assumption | (unfold inI; omega))⟩
    · exact ⟨2, 0, _, _, _, _, _, _, _, _, _, _, _, _, _, _, _, l_letter_2 (v := 0) (c_letter_2 hW hI i1 hc h2) hW.1.1 e49 e50, fun σ1 th hM => m_letter_2 hM hI i1 hc h2, hI, ⟨by decide, by decide⟩, fun q => absurd q (by decide)⟩
  · exact ⟨1, 0, _, _, _, _, _, _, _, _, _, _, _, _, _, _, _, l_letter_1 (v := 0) (c_letter_1 hW hI i0 h1) hW.1.1 e49 e50, fun σ1 th hM => m_letter_1 hM hI i0 h1, hI, ⟨by decide, by decide⟩, fun q => absurd q (by decide)⟩
theorem op_reason {X : jX} {σ : jS} {pr : Int} {ln : Nat} {lw : Nat → Int} {bn : Nat → Nat} {cd sz : Nat → Nat → Nat} {ph : Nat → Nat → Int} {mn : Nat} {mg : Nat → Int} {kn : Nat} {kr : Nat → Int} {ks : Nat → Nat} {kt : Nat → Nat → Int} {rd : Nat} {rg : Nat → Int} (hW : CW σ pr ln lw bn cd sz ph mn mg kn kr ks kt rd rg) (hI : CI pr ln lw bn cd sz ph mn mg kn kr ks kt rd rg) {f0 : Nat → Int} {g0 : Nat → UInt64} (e49 : σ.2 49 = jL 1 f0) (e50 : σ.2 50 = jD 1 g0) (a0 a1 : Int) (i0 : inI a0) (i1 : inI a1) : ∃ (k : Int) (v : Int) (pr' : Int) (ln' : Nat) (lw' : Nat → Int) (bn' : Nat → Nat) (cd' : Nat → Nat → Nat) (sz' : Nat → Nat → Nat) (ph' : Nat → Nat → Int) (mn' : Nat) (mg' : Nat → Int) (kn' : Nat) (kr' : Nat → Int) (ks' : Nat → Nat) (kt' : Nat → Nat → Int) (rd' : Nat) (rg' : Nat → Int), JM X mL_reason rL_reason [.ref 5, vI a0, vI a1, .ref 49] σ (LQ k v σ (fun σ1 => CW σ1 pr' ln' lw' bn' cd' sz' ph' mn' mg' kn' kr' ks' kt' rd' rg')) ∧ (∀ (σ1 : jS) (th : Int), MW σ1 th pr ln lw bn cd sz ph mn mg kn kr ks kt rd rg → JM X mX7_reason rX7_reason [.ref 37, vI a0, vI a1] σ1 (MP k v σ1 (fun σ2 => MW σ2 k pr' ln' lw' bn' cd' sz' ph' mn' mg' kn' kr' ks' kt' rd' rg'))) ∧ CI pr' ln' lw' bn' cd' sz' ph' mn' mg' kn' kr' ks' kt' rd' rg' ∧ (0 ≤ k ∧ k ≤ 3) ∧ (k = 0 → inI v) := by
  obtain ⟨hpr, ⟨hln, hlw⟩, hbk, ⟨hmn, hmg⟩, hki, hrd, hrg⟩ := id hI
  have hkn := hki.1
  by_cases h0 : 0 ≤ a0 ∧ a0 < 3
  · obtain ⟨b, rfl⟩ : ∃ b : Nat, a0 = ((b : Nat) : Int) := ⟨a0.toNat, by omega⟩
    have hb : b < 3 := by omega
    have hbn := (hbk b hb).1
    have hcd := (hbk b hb).2.1
    have hsz := (hbk b hb).2.2.1
    have hph := (hbk b hb).2.2.2
    by_cases h1 : 0 ≤ a1 ∧ a1 ≤ 11881375
    · obtain ⟨c, rfl⟩ : ∃ c : Nat, a1 = ((c : Nat) : Int) := ⟨a1.toNat, by omega⟩
      have hc : c ≤ 11881375 := by omega
      have hr := rsn_le (bn b) (cd b) c
      exact ⟨0, ((rsn (bn b) (cd b) c : Nat) : Int), _, _, _, _, _, _, _, _, _, _, _, _, _, _, _, l_reason_0 (v := ((rsn (bn b) (cd b) c : Nat) : Int)) (c_reason_0 hW hI hb hc) hW.1.1 e49 e50 (fun _ _ hj h => h.keep hj) (by first | assumption | (unfold inI; omega)), fun σ1 th hM => m_reason_0 hM hI hb hc, hI, ⟨by decide, by decide⟩, fun _ => (by first | assumption | (unfold inI; omega))⟩
    · exact ⟨2, 0, _, _, _, _, _, _, _, _, _, _, _, _, _, _, _, l_reason_2 (v := 0) (c_reason_2 hW hI hb i1 h1) hW.1.1 e49 e50, fun σ1 th hM => m_reason_2 hM hI hb i1 h1, hI, ⟨by decide, by decide⟩, fun q => absurd q (by decide)⟩
  · exact ⟨1, 0, _, _, _, _, _, _, _, _, _, _, _, _, _, _, _, l_reason_1 (v := 0) (c_reason_1 hW hI i0 h0) hW.1.1 e49 e50, fun σ1 th hM => m_reason_1 hM hI i0 h0, hI, ⟨by decide, by decide⟩, fun q => absurd q (by decide)⟩
theorem op_firstFit {X : jX} {σ : jS} {pr : Int} {ln : Nat} {lw : Nat → Int} {bn : Nat → Nat} {cd sz : Nat → Nat → Nat} {ph : Nat → Nat → Int} {mn : Nat} {mg : Nat → Int} {kn : Nat} {kr : Nat → Int} {ks : Nat → Nat} {kt : Nat → Nat → Int} {rd : Nat} {rg : Nat → Int} (hW : CW σ pr ln lw bn cd sz ph mn mg kn kr ks kt rd rg) (hI : CI pr ln lw bn cd sz ph mn mg kn kr ks kt rd rg) {f0 : Nat → Int} {g0 : Nat → UInt64} (e49 : σ.2 49 = jL 1 f0) (e50 : σ.2 50 = jD 1 g0) (a0 a1 : Int) (i0 : inI a0) (i1 : inI a1) : ∃ (k : Int) (v : Int) (pr' : Int) (ln' : Nat) (lw' : Nat → Int) (bn' : Nat → Nat) (cd' : Nat → Nat → Nat) (sz' : Nat → Nat → Nat) (ph' : Nat → Nat → Int) (mn' : Nat) (mg' : Nat → Int) (kn' : Nat) (kr' : Nat → Int) (ks' : Nat → Nat) (kt' : Nat → Nat → Int) (rd' : Nat) (rg' : Nat → Int), JM X mL_firstFit rL_firstFit [.ref 5, vI a0, vI a1, .ref 49] σ (LQ k v σ (fun σ1 => CW σ1 pr' ln' lw' bn' cd' sz' ph' mn' mg' kn' kr' ks' kt' rd' rg')) ∧ (∀ (σ1 : jS) (th : Int), MW σ1 th pr ln lw bn cd sz ph mn mg kn kr ks kt rd rg → JM X mX7_firstFit rX7_firstFit [.ref 37, vI a0, vI a1] σ1 (MP k v σ1 (fun σ2 => MW σ2 k pr' ln' lw' bn' cd' sz' ph' mn' mg' kn' kr' ks' kt' rd' rg'))) ∧ CI pr' ln' lw' bn' cd' sz' ph' mn' mg' kn' kr' ks' kt' rd' rg' ∧ (0 ≤ k ∧ k ≤ 3) ∧ (k = 0 → inI v) := by
  obtain ⟨hpr, ⟨hln, hlw⟩, hbk, ⟨hmn, hmg⟩, hki, hrd, hrg⟩ := id hI
  have hkn := hki.1
  by_cases h0 : 0 ≤ a0 ∧ a0 < 3
  · obtain ⟨b, rfl⟩ : ∃ b : Nat, a0 = ((b : Nat) : Int) := ⟨a0.toNat, by omega⟩
    have hb : b < 3 := by omega
    have hbn := (hbk b hb).1
    have hcd := (hbk b hb).2.1
    have hsz := (hbk b hb).2.2.1
    have hph := (hbk b hb).2.2.2
    by_cases h1 : 0 ≤ a1 ∧ a1 ≤ 11881375
    · obtain ⟨c, rfl⟩ : ∃ c : Nat, a1 = ((c : Nat) : Int) := ⟨a1.toNat, by omega⟩
      have hc : c ≤ 11881375 := by omega
      exact ⟨0, (ftt (bn b) (cd b) c), _, _, _, _, _, _, _, _, _, _, _, _, _, _, _, l_firstFit_0 (v := (ftt (bn b) (cd b) c)) (c_firstFit_0 hW hI hb hc) hW.1.1 e49 e50 (fun _ _ hj h => h.keep hj) (ftt_in), fun σ1 th hM => m_firstFit_0 hM hI hb hc, hI, ⟨by decide, by decide⟩, fun _ => ftt_in⟩
    · exact ⟨2, 0, _, _, _, _, _, _, _, _, _, _, _, _, _, _, _, l_firstFit_2 (v := 0) (c_firstFit_2 hW hI hb i1 h1) hW.1.1 e49 e50, fun σ1 th hM => m_firstFit_2 hM hI hb i1 h1, hI, ⟨by decide, by decide⟩, fun q => absurd q (by decide)⟩
  · exact ⟨1, 0, _, _, _, _, _, _, _, _, _, _, _, _, _, _, _, l_firstFit_1 (v := 0) (c_firstFit_1 hW hI i0 h0) hW.1.1 e49 e50, fun σ1 th hM => m_firstFit_1 hM hI i0 h0, hI, ⟨by decide, by decide⟩, fun q => absurd q (by decide)⟩
theorem op_find {X : jX} {σ : jS} {pr : Int} {ln : Nat} {lw : Nat → Int} {bn : Nat → Nat} {cd sz : Nat → Nat → Nat} {ph : Nat → Nat → Int} {mn : Nat} {mg : Nat → Int} {kn : Nat} {kr : Nat → Int} {ks : Nat → Nat} {kt : Nat → Nat → Int} {rd : Nat} {rg : Nat → Int} (hW : CW σ pr ln lw bn cd sz ph mn mg kn kr ks kt rd rg) (hI : CI pr ln lw bn cd sz ph mn mg kn kr ks kt rd rg) {f0 : Nat → Int} {g0 : Nat → UInt64} (e49 : σ.2 49 = jL 1 f0) (e50 : σ.2 50 = jD 1 g0) (a0 a1 : Int) (i0 : inI a0) (i1 : inI a1) : ∃ (k : Int) (v : Int) (pr' : Int) (ln' : Nat) (lw' : Nat → Int) (bn' : Nat → Nat) (cd' : Nat → Nat → Nat) (sz' : Nat → Nat → Nat) (ph' : Nat → Nat → Int) (mn' : Nat) (mg' : Nat → Int) (kn' : Nat) (kr' : Nat → Int) (ks' : Nat → Nat) (kt' : Nat → Nat → Int) (rd' : Nat) (rg' : Nat → Int), JM X mL_find rL_find [.ref 5, vI a0, vI a1, .ref 49] σ (LQ k v σ (fun σ1 => CW σ1 pr' ln' lw' bn' cd' sz' ph' mn' mg' kn' kr' ks' kt' rd' rg')) ∧ (∀ (σ1 : jS) (th : Int), MW σ1 th pr ln lw bn cd sz ph mn mg kn kr ks kt rd rg → JM X mX7_find rX7_find [.ref 37, vI a0, vI a1] σ1 (MP k v σ1 (fun σ2 => MW σ2 k pr' ln' lw' bn' cd' sz' ph' mn' mg' kn' kr' ks' kt' rd' rg'))) ∧ CI pr' ln' lw' bn' cd' sz' ph' mn' mg' kn' kr' ks' kt' rd' rg' ∧ (0 ≤ k ∧ k ≤ 3) ∧ (k = 0 → inI v) := by
  obtain ⟨hpr, ⟨hln, hlw⟩, hbk, ⟨hmn, hmg⟩, hki, hrd, hrg⟩ := id hI
  have hkn := hki.1
  by_cases h0 : 0 ≤ a0 ∧ a0 < 3
  · obtain ⟨b, rfl⟩ : ∃ b : Nat, a0 = ((b : Nat) : Int) := ⟨a0.toNat, by omega⟩
    have hb : b < 3 := by omega
    have hbn := (hbk b hb).1
    have hcd := (hbk b hb).2.1
    have hsz := (hbk b hb).2.2.1
    have hph := (hbk b hb).2.2.2
    by_cases h1 : 0 ≤ a1 ∧ a1 ≤ 11881375
    · obtain ⟨c, rfl⟩ : ∃ c : Nat, a1 = ((c : Nat) : Int) := ⟨a1.toNat, by omega⟩
      have hc : c ≤ 11881375 := by omega
      exact ⟨0, (fnU (cd b) c (bn b) 0), _, _, _, _, _, _, _, _, _, _, _, _, _, _, _, l_find_0 (v := (fnU (cd b) c (bn b) 0)) (c_find_0 hW hI hb hc) hW.1.1 e49 e50 (fun _ _ hj h => h.keep hj) (fnU_in hbn), fun σ1 th hM => m_find_0 hM hI hb hc, hI, ⟨by decide, by decide⟩, fun _ => fnU_in hbn⟩
    · exact ⟨2, 0, _, _, _, _, _, _, _, _, _, _, _, _, _, _, _, l_find_2 (v := 0) (c_find_2 hW hI hb i1 h1) hW.1.1 e49 e50, fun σ1 th hM => m_find_2 hM hI hb i1 h1, hI, ⟨by decide, by decide⟩, fun q => absurd q (by decide)⟩
  · exact ⟨1, 0, _, _, _, _, _, _, _, _, _, _, _, _, _, _, _, l_find_1 (v := 0) (c_find_1 hW hI i0 h0) hW.1.1 e49 e50, fun σ1 th hM => m_find_1 hM hI i0 h0, hI, ⟨by decide, by decide⟩, fun q => absurd q (by decide)⟩
theorem op_define {X : jX} {σ : jS} {pr : Int} {ln : Nat} {lw : Nat → Int} {bn : Nat → Nat} {cd sz : Nat → Nat → Nat} {ph : Nat → Nat → Int} {mn : Nat} {mg : Nat → Int} {kn : Nat} {kr : Nat → Int} {ks : Nat → Nat} {kt : Nat → Nat → Int} {rd : Nat} {rg : Nat → Int} (hW : CW σ pr ln lw bn cd sz ph mn mg kn kr ks kt rd rg) (hI : CI pr ln lw bn cd sz ph mn mg kn kr ks kt rd rg) {f0 : Nat → Int} {g0 : Nat → UInt64} (e49 : σ.2 49 = jL 1 f0) (e50 : σ.2 50 = jD 1 g0) (a0 a1 : Int) (i0 : inI a0) (i1 : inI a1) : ∃ (k : Int) (v : Int) (pr' : Int) (ln' : Nat) (lw' : Nat → Int) (bn' : Nat → Nat) (cd' : Nat → Nat → Nat) (sz' : Nat → Nat → Nat) (ph' : Nat → Nat → Int) (mn' : Nat) (mg' : Nat → Int) (kn' : Nat) (kr' : Nat → Int) (ks' : Nat → Nat) (kt' : Nat → Nat → Int) (rd' : Nat) (rg' : Nat → Int), JM X mL_define rL_define [.ref 5, vI a0, vI a1, .ref 49] σ (LQ k v σ (fun σ1 => CW σ1 pr' ln' lw' bn' cd' sz' ph' mn' mg' kn' kr' ks' kt' rd' rg')) ∧ (∀ (σ1 : jS) (th : Int), MW σ1 th pr ln lw bn cd sz ph mn mg kn kr ks kt rd rg → JM X mX7_define rX7_define [.ref 37, vI a0, vI a1] σ1 (MP k v σ1 (fun σ2 => MW σ2 k pr' ln' lw' bn' cd' sz' ph' mn' mg' kn' kr' ks' kt' rd' rg'))) ∧ CI pr' ln' lw' bn' cd' sz' ph' mn' mg' kn' kr' ks' kt' rd' rg' ∧ (0 ≤ k ∧ k ≤ 3) ∧ (k = 0 → inI v) := by
  obtain ⟨hpr, ⟨hln, hlw⟩, hbk, ⟨hmn, hmg⟩, hki, hrd, hrg⟩ := id hI
  have hkn := hki.1
  by_cases h0 : 0 ≤ a0 ∧ a0 < 3
  · obtain ⟨b, rfl⟩ : ∃ b : Nat, a0 = ((b : Nat) : Int) := ⟨a0.toNat, by omega⟩
    have hb : b < 3 := by omega
    have hbn := (hbk b hb).1
    have hcd := (hbk b hb).2.1
    have hsz := (hbk b hb).2.2.1
    have hph := (hbk b hb).2.2.2
    by_cases h1 : 0 ≤ a1 ∧ a1 ≤ 11881375
    · obtain ⟨c, rfl⟩ : ∃ c : Nat, a1 = ((c : Nat) : Int) := ⟨a1.toNat, by omega⟩
      have hc : c ≤ 11881375 := by omega
      by_cases h2 : rsn (bn b) (cd b) c = 0
      · by_cases h3 : 1 ≤ ln ∧ ln ≤ 6
        · have hlt := rsn_lt h2
          exact ⟨0, ((bn b : Nat) : Int), _, _, _, _, _, _, _, _, _, _, _, _, _, _, _, l_define_0 (v := ((bn b : Nat) : Int)) (c_define_0 hW hI hb hc h2 h3) hW.1.1 e49 e50 (fun _ _ hj h => h.keep hj) (by first | assumption | (unfold inI; omega)), fun σ1 th hM => m_define_0 hM hI hb hc h2 h3, ⟨hpr, ⟨by omega, hlw⟩, bkUp hbk b (by omega) (fun e => by unfold jup; split; exact hc; exact hcd e) (fun e he => by by_cases q : e = bn b; subst q; rw [jup_eq]; exact h3; rw [jup_ne _ _ q]; exact hsz e (by omega)) (fun t => by unfold jcp; split; exact hlw _; exact hph t), ⟨hmn, hmg⟩, hki, hrd, hrg⟩, ⟨by decide, by decide⟩, fun _ => (by first | assumption | (unfold inI; omega))⟩
        · exact ⟨3, 0, _, _, _, _, _, _, _, _, _, _, _, _, _, _, _, l_define_3 (v := 0) (c_define_4 hW hI hb hc h2 h3) hW.1.1 e49 e50, fun σ1 th hM => m_define_4 hM hI hb hc h2 h3, hI, ⟨by decide, by decide⟩, fun q => absurd q (by decide)⟩
      · exact ⟨3, 0, _, _, _, _, _, _, _, _, _, _, _, _, _, _, _, l_define_3 (v := 0) (c_define_3 hW hI hb hc h2) hW.1.1 e49 e50, fun σ1 th hM => m_define_3 hM hI hb hc h2, hI, ⟨by decide, by decide⟩, fun q => absurd q (by decide)⟩
    · exact ⟨2, 0, _, _, _, _, _, _, _, _, _, _, _, _, _, _, _, l_define_2 (v := 0) (c_define_2 hW hI hb i1 h1) hW.1.1 e49 e50, fun σ1 th hM => m_define_2 hM hI hb i1 h1, hI, ⟨by decide, by decide⟩, fun q => absurd q (by decide)⟩
  · exact ⟨1, 0, _, _, _, _, _, _, _, _, _, _, _, _, _, _, _, l_define_1 (v := 0) (c_define_1 hW hI i0 h0) hW.1.1 e49 e50, fun σ1 th hM => m_define_1 hM hI i0 h0, hI, ⟨by decide, by decide⟩, fun q => absurd q (by decide)⟩
theorem op_drop {X : jX} {σ : jS} {pr : Int} {ln : Nat} {lw : Nat → Int} {bn : Nat → Nat} {cd sz : Nat → Nat → Nat} {ph : Nat → Nat → Int} {mn : Nat} {mg : Nat → Int} {kn : Nat} {kr : Nat → Int} {ks : Nat → Nat} {kt : Nat → Nat → Int} {rd : Nat} {rg : Nat → Int} (hW : CW σ pr ln lw bn cd sz ph mn mg kn kr ks kt rd rg) (hI : CI pr ln lw bn cd sz ph mn mg kn kr ks kt rd rg) {f0 : Nat → Int} {g0 : Nat → UInt64} (e49 : σ.2 49 = jL 1 f0) (e50 : σ.2 50 = jD 1 g0) (a0 a1 : Int) (i0 : inI a0) (i1 : inI a1) : ∃ (k : Int) (v : Int) (pr' : Int) (ln' : Nat) (lw' : Nat → Int) (bn' : Nat → Nat) (cd' : Nat → Nat → Nat) (sz' : Nat → Nat → Nat) (ph' : Nat → Nat → Int) (mn' : Nat) (mg' : Nat → Int) (kn' : Nat) (kr' : Nat → Int) (ks' : Nat → Nat) (kt' : Nat → Nat → Int) (rd' : Nat) (rg' : Nat → Int), JM X mL_drop rL_drop [.ref 5, vI a0, vI a1, .ref 49] σ (LQ k v σ (fun σ1 => CW σ1 pr' ln' lw' bn' cd' sz' ph' mn' mg' kn' kr' ks' kt' rd' rg')) ∧ (∀ (σ1 : jS) (th : Int), MW σ1 th pr ln lw bn cd sz ph mn mg kn kr ks kt rd rg → JM X mX7_drop rX7_drop [.ref 37, vI a0, vI a1] σ1 (MP k v σ1 (fun σ2 => MW σ2 k pr' ln' lw' bn' cd' sz' ph' mn' mg' kn' kr' ks' kt' rd' rg'))) ∧ CI pr' ln' lw' bn' cd' sz' ph' mn' mg' kn' kr' ks' kt' rd' rg' ∧ (0 ≤ k ∧ k ≤ 3) ∧ (k = 0 → inI v) := by
  obtain ⟨hpr, ⟨hln, hlw⟩, hbk, ⟨hmn, hmg⟩, hki, hrd, hrg⟩ := id hI
  have hkn := hki.1
  by_cases h0 : 0 ≤ a0 ∧ a0 < 3
  · obtain ⟨b, rfl⟩ : ∃ b : Nat, a0 = ((b : Nat) : Int) := ⟨a0.toNat, by omega⟩
    have hb : b < 3 := by omega
    have hbn := (hbk b hb).1
    have hcd := (hbk b hb).2.1
    have hsz := (hbk b hb).2.2.1
    have hph := (hbk b hb).2.2.2
    by_cases h1 : 0 ≤ a1 ∧ a1 < ((bn b : Nat) : Int)
    · obtain ⟨e, rfl⟩ : ∃ e : Nat, a1 = ((e : Nat) : Int) := ⟨a1.toNat, by omega⟩
      have he : e < bn b := by omega
      exact ⟨0, ((bn b - 1 : Nat) : Int), _, _, _, _, _, _, _, _, _, _, _, _, _, _, _, l_drop_0 (v := ((bn b - 1 : Nat) : Int)) (c_drop_0 hW hI hb he) hW.1.1 e49 e50 (fun _ _ hj h => h.keep hj) (by first | assumption | (unfold inI; omega)), fun σ1 th hM => m_drop_0 hM hI hb he, ⟨hpr, ⟨hln, hlw⟩, bkUp hbk b (by omega) (fun x => by unfold shN jcpN; split; exact hcd _; exact hcd _) (fun x hx => by unfold shN jcpN; split; exact hsz _ (by omega); exact hsz _ (by omega)) (fun t => by unfold jcp; split; exact hph _; exact hph _), ⟨hmn, hmg⟩, hki, hrd, hrg⟩, ⟨by decide, by decide⟩, fun _ => (by first | assumption | (unfold inI; omega))⟩
    · exact ⟨1, 0, _, _, _, _, _, _, _, _, _, _, _, _, _, _, _, l_drop_1 (v := 0) (c_drop_2 hW hI hb i1 h1) hW.1.1 e49 e50, fun σ1 th hM => m_drop_2 hM hI hb i1 h1, hI, ⟨by decide, by decide⟩, fun q => absurd q (by decide)⟩
  · exact ⟨1, 0, _, _, _, _, _, _, _, _, _, _, _, _, _, _, _, l_drop_1 (v := 0) (c_drop_1 hW hI i0 h0) hW.1.1 e49 e50, fun σ1 th hM => m_drop_1 hM hI i0 h0, hI, ⟨by decide, by decide⟩, fun q => absurd q (by decide)⟩
theorem op_entries {X : jX} {σ : jS} {pr : Int} {ln : Nat} {lw : Nat → Int} {bn : Nat → Nat} {cd sz : Nat → Nat → Nat} {ph : Nat → Nat → Int} {mn : Nat} {mg : Nat → Int} {kn : Nat} {kr : Nat → Int} {ks : Nat → Nat} {kt : Nat → Nat → Int} {rd : Nat} {rg : Nat → Int} (hW : CW σ pr ln lw bn cd sz ph mn mg kn kr ks kt rd rg) (hI : CI pr ln lw bn cd sz ph mn mg kn kr ks kt rd rg) {f0 : Nat → Int} {g0 : Nat → UInt64} (e49 : σ.2 49 = jL 1 f0) (e50 : σ.2 50 = jD 1 g0) (a0 : Int) (i0 : inI a0) : ∃ (k : Int) (v : Int) (pr' : Int) (ln' : Nat) (lw' : Nat → Int) (bn' : Nat → Nat) (cd' : Nat → Nat → Nat) (sz' : Nat → Nat → Nat) (ph' : Nat → Nat → Int) (mn' : Nat) (mg' : Nat → Int) (kn' : Nat) (kr' : Nat → Int) (ks' : Nat → Nat) (kt' : Nat → Nat → Int) (rd' : Nat) (rg' : Nat → Int), JM X mL_entries rL_entries [.ref 5, vI a0, .ref 49] σ (LQ k v σ (fun σ1 => CW σ1 pr' ln' lw' bn' cd' sz' ph' mn' mg' kn' kr' ks' kt' rd' rg')) ∧ (∀ (σ1 : jS) (th : Int), MW σ1 th pr ln lw bn cd sz ph mn mg kn kr ks kt rd rg → JM X mX7_entries rX7_entries [.ref 37, vI a0] σ1 (MP k v σ1 (fun σ2 => MW σ2 k pr' ln' lw' bn' cd' sz' ph' mn' mg' kn' kr' ks' kt' rd' rg'))) ∧ CI pr' ln' lw' bn' cd' sz' ph' mn' mg' kn' kr' ks' kt' rd' rg' ∧ (0 ≤ k ∧ k ≤ 3) ∧ (k = 0 → inI v) := by
  obtain ⟨hpr, ⟨hln, hlw⟩, hbk, ⟨hmn, hmg⟩, hki, hrd, hrg⟩ := id hI
  have hkn := hki.1
  by_cases h0 : 0 ≤ a0 ∧ a0 < 3
  · obtain ⟨b, rfl⟩ : ∃ b : Nat, a0 = ((b : Nat) : Int) := ⟨a0.toNat, by omega⟩
    have hb : b < 3 := by omega
    have hbn := (hbk b hb).1
    have hcd := (hbk b hb).2.1
    have hsz := (hbk b hb).2.2.1
    have hph := (hbk b hb).2.2.2
    exact ⟨0, ((bn b : Nat) : Int), _, _, _, _, _, _, _, _, _, _, _, _, _, _, _, l_entries_0 (v := ((bn b : Nat) : Int)) (c_entries_0 hW hI hb) hW.1.1 e49 e50 (fun _ _ hj h => h.keep hj) (by first | assumption | (unfold inI; omega)), fun σ1 th hM => m_entries_0 hM hI hb, hI, ⟨by decide, by decide⟩, fun _ => (by first | assumption | (unfold inI; omega))⟩
  · exact ⟨1, 0, _, _, _, _, _, _, _, _, _, _, _, _, _, _, _, l_entries_1 (v := 0) (c_entries_1 hW hI i0 h0) hW.1.1 e49 e50, fun σ1 th hM => m_entries_1 hM hI i0 h0, hI, ⟨by decide, by decide⟩, fun q => absurd q (by decide)⟩
theorem op_entry {X : jX} {σ : jS} {pr : Int} {ln : Nat} {lw : Nat → Int} {bn : Nat → Nat} {cd sz : Nat → Nat → Nat} {ph : Nat → Nat → Int} {mn : Nat} {mg : Nat → Int} {kn : Nat} {kr : Nat → Int} {ks : Nat → Nat} {kt : Nat → Nat → Int} {rd : Nat} {rg : Nat → Int} (hW : CW σ pr ln lw bn cd sz ph mn mg kn kr ks kt rd rg) (hI : CI pr ln lw bn cd sz ph mn mg kn kr ks kt rd rg) {f0 : Nat → Int} {g0 : Nat → UInt64} (e49 : σ.2 49 = jL 1 f0) (e50 : σ.2 50 = jD 1 g0) (a0 a1 a2 : Int) (i0 : inI a0) (i1 : inI a1) (i2 : inI a2) : ∃ (k : Int) (v : Int) (pr' : Int) (ln' : Nat) (lw' : Nat → Int) (bn' : Nat → Nat) (cd' : Nat → Nat → Nat) (sz' : Nat → Nat → Nat) (ph' : Nat → Nat → Int) (mn' : Nat) (mg' : Nat → Int) (kn' : Nat) (kr' : Nat → Int) (ks' : Nat → Nat) (kt' : Nat → Nat → Int) (rd' : Nat) (rg' : Nat → Int), JM X mL_entry rL_entry [.ref 5, vI a0, vI a1, vI a2, .ref 49] σ (LQ k v σ (fun σ1 => CW σ1 pr' ln' lw' bn' cd' sz' ph' mn' mg' kn' kr' ks' kt' rd' rg')) ∧ (∀ (σ1 : jS) (th : Int), MW σ1 th pr ln lw bn cd sz ph mn mg kn kr ks kt rd rg → JM X mX7_entry rX7_entry [.ref 37, vI a0, vI a1, vI a2] σ1 (MP k v σ1 (fun σ2 => MW σ2 k pr' ln' lw' bn' cd' sz' ph' mn' mg' kn' kr' ks' kt' rd' rg'))) ∧ CI pr' ln' lw' bn' cd' sz' ph' mn' mg' kn' kr' ks' kt' rd' rg' ∧ (0 ≤ k ∧ k ≤ 3) ∧ (k = 0 → inI v) := by
  obtain ⟨hpr, ⟨hln, hlw⟩, hbk, ⟨hmn, hmg⟩, hki, hrd, hrg⟩ := id hI
  have hkn := hki.1
  by_cases h0 : 0 ≤ a0 ∧ a0 < 3
  · obtain ⟨b, rfl⟩ : ∃ b : Nat, a0 = ((b : Nat) : Int) := ⟨a0.toNat, by omega⟩
    have hb : b < 3 := by omega
    have hbn := (hbk b hb).1
    have hcd := (hbk b hb).2.1
    have hsz := (hbk b hb).2.2.1
    have hph := (hbk b hb).2.2.2
    by_cases h1 : 0 ≤ a1 ∧ a1 < ((bn b : Nat) : Int)
    · obtain ⟨e, rfl⟩ : ∃ e : Nat, a1 = ((e : Nat) : Int) := ⟨a1.toNat, by omega⟩
      have he : e < bn b := by omega
      have hse := hsz e he
      have hce := hcd e
      by_cases h2 : -1 ≤ a2 ∧ a2 < ((sz b e : Nat) : Int)
      · by_cases h3 : a2 = -1
        · exact ⟨0, ((cd b e : Nat) : Int), _, _, _, _, _, _, _, _, _, _, _, _, _, _, _, l_entry_0 (v := ((cd b e : Nat) : Int)) (c_entry_4 hW hI hb he h3) hW.1.1 e49 e50 (fun _ _ hj h => h.keep hj) (by first | assumption | (unfold inI; omega)), fun σ1 th hM => m_entry_4 hM hI hb he h3, hI, ⟨by decide, by decide⟩, fun _ => (by first | assumption | (unfold inI; omega))⟩
        · obtain ⟨w, rfl⟩ : ∃ w : Nat, a2 = ((w : Nat) : Int) := ⟨a2.toNat, by omega⟩
          exact ⟨0, (ph b (e * 6 + w)), _, _, _, _, _, _, _, _, _, _, _, _, _, _, _, l_entry_0 (v := (ph b (e * 6 + w))) (c_entry_0 hW hI hb he (by omega)) hW.1.1 e49 e50 (fun _ _ hj h => h.keep hj) (inI_w (hph _)), fun σ1 th hM => m_entry_0 hM hI hb he (by omega), hI, ⟨by decide, by decide⟩, fun _ => inI_w (hph _)⟩
      · exact ⟨1, 0, _, _, _, _, _, _, _, _, _, _, _, _, _, _, _, l_entry_1 (v := 0) (c_entry_3 hW hI hb he i2 h2) hW.1.1 e49 e50, fun σ1 th hM => m_entry_3 hM hI hb he i2 h2, hI, ⟨by decide, by decide⟩, fun q => absurd q (by decide)⟩
    · exact ⟨1, 0, _, _, _, _, _, _, _, _, _, _, _, _, _, _, _, l_entry_1 (v := 0) (c_entry_2 hW hI hb i1 h1) hW.1.1 e49 e50, fun σ1 th hM => m_entry_2 hM hI hb i1 h1, hI, ⟨by decide, by decide⟩, fun q => absurd q (by decide)⟩
  · exact ⟨1, 0, _, _, _, _, _, _, _, _, _, _, _, _, _, _, _, l_entry_1 (v := 0) (c_entry_1 hW hI i0 h0) hW.1.1 e49 e50, fun σ1 th hM => m_entry_1 hM hI i0 h0, hI, ⟨by decide, by decide⟩, fun q => absurd q (by decide)⟩
theorem op_setPrice {X : jX} {σ : jS} {pr : Int} {ln : Nat} {lw : Nat → Int} {bn : Nat → Nat} {cd sz : Nat → Nat → Nat} {ph : Nat → Nat → Int} {mn : Nat} {mg : Nat → Int} {kn : Nat} {kr : Nat → Int} {ks : Nat → Nat} {kt : Nat → Nat → Int} {rd : Nat} {rg : Nat → Int} (hW : CW σ pr ln lw bn cd sz ph mn mg kn kr ks kt rd rg) (hI : CI pr ln lw bn cd sz ph mn mg kn kr ks kt rd rg) {f0 : Nat → Int} {g0 : Nat → UInt64} (e49 : σ.2 49 = jL 1 f0) (e50 : σ.2 50 = jD 1 g0) (a0 : Int) (i0 : inI a0) : ∃ (k : Int) (v : Int) (pr' : Int) (ln' : Nat) (lw' : Nat → Int) (bn' : Nat → Nat) (cd' : Nat → Nat → Nat) (sz' : Nat → Nat → Nat) (ph' : Nat → Nat → Int) (mn' : Nat) (mg' : Nat → Int) (kn' : Nat) (kr' : Nat → Int) (ks' : Nat → Nat) (kt' : Nat → Nat → Int) (rd' : Nat) (rg' : Nat → Int), JM X mL_setPrice rL_setPrice [.ref 5, vI a0, .ref 49] σ (LQ k v σ (fun σ1 => CW σ1 pr' ln' lw' bn' cd' sz' ph' mn' mg' kn' kr' ks' kt' rd' rg')) ∧ (∀ (σ1 : jS) (th : Int), MW σ1 th pr ln lw bn cd sz ph mn mg kn kr ks kt rd rg → JM X mX7_setPrice rX7_setPrice [.ref 37, vI a0] σ1 (MP k v σ1 (fun σ2 => MW σ2 k pr' ln' lw' bn' cd' sz' ph' mn' mg' kn' kr' ks' kt' rd' rg'))) ∧ CI pr' ln' lw' bn' cd' sz' ph' mn' mg' kn' kr' ks' kt' rd' rg' ∧ (0 ≤ k ∧ k ≤ 3) ∧ (k = 0 → inI v) := by
  obtain ⟨hpr, ⟨hln, hlw⟩, hbk, ⟨hmn, hmg⟩, hki, hrd, hrg⟩ := id hI
  have hkn := hki.1
  by_cases h1 : 1 ≤ a0 ∧ a0 ≤ 5
  · exact ⟨0, pr, _, _, _, _, _, _, _, _, _, _, _, _, _, _, _, l_setPrice_0 (v := pr) (c_setPrice_0 hW hI h1) hW.1.1 e49 e50 (fun _ _ hj h => h.keep hj) (by first | assumption | (unfold inI; omega)), fun σ1 th hM => m_setPrice_0 hM hI h1, ⟨h1, ⟨hln, hlw⟩, hbk, ⟨hmn, hmg⟩, hki, hrd, hrg⟩, ⟨by decide, by decide⟩, fun _ => (by first | assumption | (unfold inI; omega))⟩
  · exact ⟨1, 0, _, _, _, _, _, _, _, _, _, _, _, _, _, _, _, l_setPrice_1 (v := 0) (c_setPrice_1 hW hI i0 h1) hW.1.1 e49 e50, fun σ1 th hM => m_setPrice_1 hM hI i0 h1, hI, ⟨by decide, by decide⟩, fun q => absurd q (by decide)⟩
theorem op_encode {X : jX} {σ : jS} {pr : Int} {ln : Nat} {lw : Nat → Int} {bn : Nat → Nat} {cd sz : Nat → Nat → Nat} {ph : Nat → Nat → Int} {mn : Nat} {mg : Nat → Int} {kn : Nat} {kr : Nat → Int} {ks : Nat → Nat} {kt : Nat → Nat → Int} {rd : Nat} {rg : Nat → Int} (hW : CW σ pr ln lw bn cd sz ph mn mg kn kr ks kt rd rg) (hI : CI pr ln lw bn cd sz ph mn mg kn kr ks kt rd rg) {f0 : Nat → Int} {g0 : Nat → UInt64} (e49 : σ.2 49 = jL 1 f0) (e50 : σ.2 50 = jD 1 g0) (a0 : Int) (i0 : inI a0) : ∃ (k : Int) (v : Int) (pr' : Int) (ln' : Nat) (lw' : Nat → Int) (bn' : Nat → Nat) (cd' : Nat → Nat → Nat) (sz' : Nat → Nat → Nat) (ph' : Nat → Nat → Int) (mn' : Nat) (mg' : Nat → Int) (kn' : Nat) (kr' : Nat → Int) (ks' : Nat → Nat) (kt' : Nat → Nat → Int) (rd' : Nat) (rg' : Nat → Int), JM X mL_encode rL_encode [.ref 5, vI a0, .ref 49] σ (LQ k v σ (fun σ1 => CW σ1 pr' ln' lw' bn' cd' sz' ph' mn' mg' kn' kr' ks' kt' rd' rg')) ∧ (∀ (σ1 : jS) (th : Int), MW σ1 th pr ln lw bn cd sz ph mn mg kn kr ks kt rd rg → JM X mX7_encode rX7_encode [.ref 37, vI a0] σ1 (MP k v σ1 (fun σ2 => MW σ2 k pr' ln' lw' bn' cd' sz' ph' mn' mg' kn' kr' ks' kt' rd' rg'))) ∧ CI pr' ln' lw' bn' cd' sz' ph' mn' mg' kn' kr' ks' kt' rd' rg' ∧ (0 ≤ k ∧ k ≤ 3) ∧ (k = 0 → inI v) := by
  obtain ⟨hpr, ⟨hln, hlw⟩, hbk, ⟨hmn, hmg⟩, hki, hrd, hrg⟩ := id hI
  have hkn := hki.1
  by_cases h0 : 0 ≤ a0 ∧ a0 < 3
  · obtain ⟨b, rfl⟩ : ∃ b : Nat, a0 = ((b : Nat) : Int) := ⟨a0.toNat, by omega⟩
    have hb : b < 3 := by omega
    have hbn := (hbk b hb).1
    have hcd := (hbk b hb).2.1
    have hsz := (hbk b hb).2.2.1
    have hph := (hbk b hb).2.2.2
    have hcv := cvC_bd (n := bn b) (sz := sz b) (ph := ph b) (g := lw) (s := 0) hpr hln 0
    exact ⟨0, (cvC (bn b) (sz b) (ph b) lw 0 ln pr 0), _, _, _, _, _, _, _, _, _, _, _, _, _, _, _, l_encode_0 (v := (cvC (bn b) (sz b) (ph b) lw 0 ln pr 0)) (c_encode_0 hW hI hb) hW.1.1 e49 e50 (fun _ _ hj h => h.keep hj) (by first | assumption | (unfold inI; omega)), fun σ1 th hM => m_encode_0 hM hI hb, ⟨hpr, ⟨hln, hlw⟩, hbk, enU_bd hcd hlw 40 0 0 mg (by omega) hmg, hki, hrd, hrg⟩, ⟨by decide, by decide⟩, fun _ => (by first | assumption | (unfold inI; omega))⟩
  · exact ⟨1, 0, _, _, _, _, _, _, _, _, _, _, _, _, _, _, _, l_encode_1 (v := 0) (c_encode_1 hW hI i0 h0) hW.1.1 e49 e50, fun σ1 th hM => m_encode_1 hM hI i0 h0, hI, ⟨by decide, by decide⟩, fun q => absurd q (by decide)⟩
theorem op_group {X : jX} {σ : jS} {pr : Int} {ln : Nat} {lw : Nat → Int} {bn : Nat → Nat} {cd sz : Nat → Nat → Nat} {ph : Nat → Nat → Int} {mn : Nat} {mg : Nat → Int} {kn : Nat} {kr : Nat → Int} {ks : Nat → Nat} {kt : Nat → Nat → Int} {rd : Nat} {rg : Nat → Int} (hW : CW σ pr ln lw bn cd sz ph mn mg kn kr ks kt rd rg) (hI : CI pr ln lw bn cd sz ph mn mg kn kr ks kt rd rg) {f0 : Nat → Int} {g0 : Nat → UInt64} (e49 : σ.2 49 = jL 1 f0) (e50 : σ.2 50 = jD 1 g0) (a0 : Int) (i0 : inI a0) : ∃ (k : Int) (v : Int) (pr' : Int) (ln' : Nat) (lw' : Nat → Int) (bn' : Nat → Nat) (cd' : Nat → Nat → Nat) (sz' : Nat → Nat → Nat) (ph' : Nat → Nat → Int) (mn' : Nat) (mg' : Nat → Int) (kn' : Nat) (kr' : Nat → Int) (ks' : Nat → Nat) (kt' : Nat → Nat → Int) (rd' : Nat) (rg' : Nat → Int), JM X mL_group rL_group [.ref 5, vI a0, .ref 49] σ (LQ k v σ (fun σ1 => CW σ1 pr' ln' lw' bn' cd' sz' ph' mn' mg' kn' kr' ks' kt' rd' rg')) ∧ (∀ (σ1 : jS) (th : Int), MW σ1 th pr ln lw bn cd sz ph mn mg kn kr ks kt rd rg → JM X mX7_group rX7_group [.ref 37, vI a0] σ1 (MP k v σ1 (fun σ2 => MW σ2 k pr' ln' lw' bn' cd' sz' ph' mn' mg' kn' kr' ks' kt' rd' rg'))) ∧ CI pr' ln' lw' bn' cd' sz' ph' mn' mg' kn' kr' ks' kt' rd' rg' ∧ (0 ≤ k ∧ k ≤ 3) ∧ (k = 0 → inI v) := by
  obtain ⟨hpr, ⟨hln, hlw⟩, hbk, ⟨hmn, hmg⟩, hki, hrd, hrg⟩ := id hI
  have hkn := hki.1
  by_cases h0 : 0 ≤ a0 ∧ a0 < ((mn : Nat) : Int)
  · obtain ⟨g, rfl⟩ : ∃ g : Nat, a0 = ((g : Nat) : Int) := ⟨a0.toNat, by omega⟩
    have hg : g < mn := by omega
    have hgg := hmg g
    exact ⟨0, (mg g), _, _, _, _, _, _, _, _, _, _, _, _, _, _, _, l_group_0 (v := (mg g)) (c_group_0 hW hI hg) hW.1.1 e49 e50 (fun _ _ hj h => h.keep hj) (inI_m hgg), fun σ1 th hM => m_group_0 hM hI hg, hI, ⟨by decide, by decide⟩, fun _ => inI_m hgg⟩
  · exact ⟨1, 0, _, _, _, _, _, _, _, _, _, _, _, _, _, _, _, l_group_1 (v := 0) (c_group_1 hW hI i0 h0) hW.1.1 e49 e50, fun σ1 th hM => m_group_1 hM hI i0 h0, hI, ⟨by decide, by decide⟩, fun q => absurd q (by decide)⟩
theorem op_garble {X : jX} {σ : jS} {pr : Int} {ln : Nat} {lw : Nat → Int} {bn : Nat → Nat} {cd sz : Nat → Nat → Nat} {ph : Nat → Nat → Int} {mn : Nat} {mg : Nat → Int} {kn : Nat} {kr : Nat → Int} {ks : Nat → Nat} {kt : Nat → Nat → Int} {rd : Nat} {rg : Nat → Int} (hW : CW σ pr ln lw bn cd sz ph mn mg kn kr ks kt rd rg) (hI : CI pr ln lw bn cd sz ph mn mg kn kr ks kt rd rg) {f0 : Nat → Int} {g0 : Nat → UInt64} (e49 : σ.2 49 = jL 1 f0) (e50 : σ.2 50 = jD 1 g0) (a0 a1 a2 : Int) (i0 : inI a0) (i1 : inI a1) (i2 : inI a2) : ∃ (k : Int) (v : Int) (pr' : Int) (ln' : Nat) (lw' : Nat → Int) (bn' : Nat → Nat) (cd' : Nat → Nat → Nat) (sz' : Nat → Nat → Nat) (ph' : Nat → Nat → Int) (mn' : Nat) (mg' : Nat → Int) (kn' : Nat) (kr' : Nat → Int) (ks' : Nat → Nat) (kt' : Nat → Nat → Int) (rd' : Nat) (rg' : Nat → Int), JM X mL_garble rL_garble [.ref 5, vI a0, vI a1, vI a2, .ref 49] σ (LQ k v σ (fun σ1 => CW σ1 pr' ln' lw' bn' cd' sz' ph' mn' mg' kn' kr' ks' kt' rd' rg')) ∧ (∀ (σ1 : jS) (th : Int), MW σ1 th pr ln lw bn cd sz ph mn mg kn kr ks kt rd rg → JM X mX7_garble rX7_garble [.ref 37, vI a0, vI a1, vI a2] σ1 (MP k v σ1 (fun σ2 => MW σ2 k pr' ln' lw' bn' cd' sz' ph' mn' mg' kn' kr' ks' kt' rd' rg'))) ∧ CI pr' ln' lw' bn' cd' sz' ph' mn' mg' kn' kr' ks' kt' rd' rg' ∧ (0 ≤ k ∧ k ≤ 3) ∧ (k = 0 → inI v) := by
  obtain ⟨hpr, ⟨hln, hlw⟩, hbk, ⟨hmn, hmg⟩, hki, hrd, hrg⟩ := id hI
  have hkn := hki.1
  by_cases h0 : 0 ≤ a0 ∧ a0 < ((mn : Nat) : Int)
  · obtain ⟨g, rfl⟩ : ∃ g : Nat, a0 = ((g : Nat) : Int) := ⟨a0.toNat, by omega⟩
    have hg : g < mn := by omega
    have hgg := hmg g
    by_cases h1 : 0 ≤ a1 ∧ a1 < ((5 : Nat) : Int)
    · obtain ⟨p, rfl⟩ : ∃ p : Nat, a1 = ((p : Nat) : Int) := ⟨a1.toNat, by omega⟩
      have hp : p < 5 := by omega
      by_cases h2 : 0 ≤ a2 ∧ a2 ≤ 25
      · obtain ⟨l, rfl⟩ : ∃ l : Nat, a2 = ((l : Nat) : Int) := ⟨a2.toNat, by omega⟩
        have hl : l < 26 := by omega
        by_cases h3 : mg g < 0
        · exact ⟨3, 0, _, _, _, _, _, _, _, _, _, _, _, _, _, _, _, l_garble_3 (v := 0) (c_garble_4 hW hI hg hp hl h3) hW.1.1 e49 e50, fun σ1 th hM => m_garble_4 hM hI hg hp hl h3, hI, ⟨by decide, by decide⟩, fun q => absurd q (by decide)⟩
        · have hlt := ltr_lt (mg g).toNat p
          have hwl := wlt_le (c := (mg g).toNat) (l := l) (by omega) hl p (by omega)
          exact ⟨0, ((ltr (mg g).toNat p : Nat) : Int), _, _, _, _, _, _, _, _, _, _, _, _, _, _, _, l_garble_0 (v := ((ltr (mg g).toNat p : Nat) : Int)) (c_garble_0 hW hI hg hp hl h3) hW.1.1 e49 e50 (fun _ _ hj h => h.keep hj) (by first | assumption | (unfold inI; omega)), fun σ1 th hM => m_garble_0 hM hI hg hp hl h3, ⟨hpr, ⟨hln, hlw⟩, hbk, ⟨hmn, jupB hmg (by omega)⟩, hki, hrd, hrg⟩, ⟨by decide, by decide⟩, fun _ => (by first | assumption | (unfold inI; omega))⟩
      · exact ⟨2, 0, _, _, _, _, _, _, _, _, _, _, _, _, _, _, _, l_garble_2 (v := 0) (c_garble_3 hW hI hg hp i2 h2) hW.1.1 e49 e50, fun σ1 th hM => m_garble_3 hM hI hg hp i2 h2, hI, ⟨by decide, by decide⟩, fun q => absurd q (by decide)⟩
    · exact ⟨1, 0, _, _, _, _, _, _, _, _, _, _, _, _, _, _, _, l_garble_1 (v := 0) (c_garble_2 hW hI hg i1 h1) hW.1.1 e49 e50, fun σ1 th hM => m_garble_2 hM hI hg i1 h1, hI, ⟨by decide, by decide⟩, fun q => absurd q (by decide)⟩
  · exact ⟨1, 0, _, _, _, _, _, _, _, _, _, _, _, _, _, _, _, l_garble_1 (v := 0) (c_garble_1 hW hI i0 h0) hW.1.1 e49 e50, fun σ1 th hM => m_garble_1 hM hI i0 h0, hI, ⟨by decide, by decide⟩, fun q => absurd q (by decide)⟩
theorem op_swap {X : jX} {σ : jS} {pr : Int} {ln : Nat} {lw : Nat → Int} {bn : Nat → Nat} {cd sz : Nat → Nat → Nat} {ph : Nat → Nat → Int} {mn : Nat} {mg : Nat → Int} {kn : Nat} {kr : Nat → Int} {ks : Nat → Nat} {kt : Nat → Nat → Int} {rd : Nat} {rg : Nat → Int} (hW : CW σ pr ln lw bn cd sz ph mn mg kn kr ks kt rd rg) (hI : CI pr ln lw bn cd sz ph mn mg kn kr ks kt rd rg) {f0 : Nat → Int} {g0 : Nat → UInt64} (e49 : σ.2 49 = jL 1 f0) (e50 : σ.2 50 = jD 1 g0) (a0 a1 : Int) (i0 : inI a0) (i1 : inI a1) : ∃ (k : Int) (v : Int) (pr' : Int) (ln' : Nat) (lw' : Nat → Int) (bn' : Nat → Nat) (cd' : Nat → Nat → Nat) (sz' : Nat → Nat → Nat) (ph' : Nat → Nat → Int) (mn' : Nat) (mg' : Nat → Int) (kn' : Nat) (kr' : Nat → Int) (ks' : Nat → Nat) (kt' : Nat → Nat → Int) (rd' : Nat) (rg' : Nat → Int), JM X mL_swap rL_swap [.ref 5, vI a0, vI a1, .ref 49] σ (LQ k v σ (fun σ1 => CW σ1 pr' ln' lw' bn' cd' sz' ph' mn' mg' kn' kr' ks' kt' rd' rg')) ∧ (∀ (σ1 : jS) (th : Int), MW σ1 th pr ln lw bn cd sz ph mn mg kn kr ks kt rd rg → JM X mX7_swap rX7_swap [.ref 37, vI a0, vI a1] σ1 (MP k v σ1 (fun σ2 => MW σ2 k pr' ln' lw' bn' cd' sz' ph' mn' mg' kn' kr' ks' kt' rd' rg'))) ∧ CI pr' ln' lw' bn' cd' sz' ph' mn' mg' kn' kr' ks' kt' rd' rg' ∧ (0 ≤ k ∧ k ≤ 3) ∧ (k = 0 → inI v) := by
  obtain ⟨hpr, ⟨hln, hlw⟩, hbk, ⟨hmn, hmg⟩, hki, hrd, hrg⟩ := id hI
  have hkn := hki.1
  by_cases h0 : 0 ≤ a0 ∧ a0 < ((mn : Nat) : Int)
  · obtain ⟨g, rfl⟩ : ∃ g : Nat, a0 = ((g : Nat) : Int) := ⟨a0.toNat, by omega⟩
    have hg : g < mn := by omega
    have hgg := hmg g
    by_cases h1 : 0 ≤ a1 ∧ a1 < ((4 : Nat) : Int)
    · obtain ⟨p, rfl⟩ : ∃ p : Nat, a1 = ((p : Nat) : Int) := ⟨a1.toNat, by omega⟩
      have hp : p < 4 := by omega
      by_cases h3 : mg g < 0
      · exact ⟨2, 0, _, _, _, _, _, _, _, _, _, _, _, _, _, _, _, l_swap_2 (v := 0) (c_swap_3 hW hI hg hp h3) hW.1.1 e49 e50, fun σ1 th hM => m_swap_3 hM hI hg hp h3, hI, ⟨by decide, by decide⟩, fun q => absurd q (by decide)⟩
      · have hwl := swp_le (c := (mg g).toNat) (p := p) (by omega) (by omega)
        exact ⟨0, ((swp (mg g).toNat p : Nat) : Int), _, _, _, _, _, _, _, _, _, _, _, _, _, _, _, l_swap_0 (v := ((swp (mg g).toNat p : Nat) : Int)) (c_swap_0 hW hI hg hp h3) hW.1.1 e49 e50 (fun _ _ hj h => h.keep hj) (by first | assumption | (unfold inI; omega)), fun σ1 th hM => m_swap_0 hM hI hg hp h3, ⟨hpr, ⟨hln, hlw⟩, hbk, ⟨hmn, jupB hmg (by omega)⟩, hki, hrd, hrg⟩, ⟨by decide, by decide⟩, fun _ => (by first | assumption | (unfold inI; omega))⟩
    · exact ⟨1, 0, _, _, _, _, _, _, _, _, _, _, _, _, _, _, _, l_swap_1 (v := 0) (c_swap_2 hW hI hg i1 h1) hW.1.1 e49 e50, fun σ1 th hM => m_swap_2 hM hI hg i1 h1, hI, ⟨by decide, by decide⟩, fun q => absurd q (by decide)⟩
  · exact ⟨1, 0, _, _, _, _, _, _, _, _, _, _, _, _, _, _, _, l_swap_1 (v := 0) (c_swap_1 hW hI i0 h0) hW.1.1 e49 e50, fun σ1 th hM => m_swap_1 hM hI i0 h0, hI, ⟨by decide, by decide⟩, fun q => absurd q (by decide)⟩
theorem op_decode {X : jX} {σ : jS} {pr : Int} {ln : Nat} {lw : Nat → Int} {bn : Nat → Nat} {cd sz : Nat → Nat → Nat} {ph : Nat → Nat → Int} {mn : Nat} {mg : Nat → Int} {kn : Nat} {kr : Nat → Int} {ks : Nat → Nat} {kt : Nat → Nat → Int} {rd : Nat} {rg : Nat → Int} (hW : CW σ pr ln lw bn cd sz ph mn mg kn kr ks kt rd rg) (hI : CI pr ln lw bn cd sz ph mn mg kn kr ks kt rd rg) {f0 : Nat → Int} {g0 : Nat → UInt64} (e49 : σ.2 49 = jL 1 f0) (e50 : σ.2 50 = jD 1 g0) (a0 : Int) (i0 : inI a0) : ∃ (k : Int) (v : Int) (pr' : Int) (ln' : Nat) (lw' : Nat → Int) (bn' : Nat → Nat) (cd' : Nat → Nat → Nat) (sz' : Nat → Nat → Nat) (ph' : Nat → Nat → Int) (mn' : Nat) (mg' : Nat → Int) (kn' : Nat) (kr' : Nat → Int) (ks' : Nat → Nat) (kt' : Nat → Nat → Int) (rd' : Nat) (rg' : Nat → Int), JM X mL_decode rL_decode [.ref 5, vI a0, .ref 49] σ (LQ k v σ (fun σ1 => CW σ1 pr' ln' lw' bn' cd' sz' ph' mn' mg' kn' kr' ks' kt' rd' rg')) ∧ (∀ (σ1 : jS) (th : Int), MW σ1 th pr ln lw bn cd sz ph mn mg kn kr ks kt rd rg → JM X mX7_decode rX7_decode [.ref 37, vI a0] σ1 (MP k v σ1 (fun σ2 => MW σ2 k pr' ln' lw' bn' cd' sz' ph' mn' mg' kn' kr' ks' kt' rd' rg'))) ∧ CI pr' ln' lw' bn' cd' sz' ph' mn' mg' kn' kr' ks' kt' rd' rg' ∧ (0 ≤ k ∧ k ≤ 3) ∧ (k = 0 → inI v) := by
  obtain ⟨hpr, ⟨hln, hlw⟩, hbk, ⟨hmn, hmg⟩, hki, hrd, hrg⟩ := id hI
  have hkn := hki.1
  by_cases h0 : 0 ≤ a0 ∧ a0 < 3
  · obtain ⟨b, rfl⟩ : ∃ b : Nat, a0 = ((b : Nat) : Int) := ⟨a0.toNat, by omega⟩
    have hb : b < 3 := by omega
    have hbn := (hbk b hb).1
    have hcd := (hbk b hb).2.1
    have hsz := (hbk b hb).2.2.1
    have hph := (hbk b hb).2.2.2
    obtain ⟨d1, d2, d3, d4, d5⟩ := dcU_bd (n := bn b) (cd := cd b) (sz := sz b) hph hmg mn 0 0 lw rg 0 (by omega) hlw hrg (by omega)
    exact ⟨0, (dcU (bn b) (cd b) (sz b) (ph b) mg mn 0 0 lw rg 0).2.2.2, _, _, _, _, _, _, _, _, _, _, _, _, _, _, _, l_decode_0 (v := (dcU (bn b) (cd b) (sz b) (ph b) mg mn 0 0 lw rg 0).2.2.2) (c_decode_0 hW hI hb) hW.1.1 e49 e50 (fun _ _ hj h => h.keep hj) (by first | assumption | (unfold inI; omega)), fun σ1 th hM => m_decode_0 hM hI hb, ⟨hpr, ⟨d1, d2⟩, hbk, ⟨hmn, hmg⟩, hki, hmn, d3⟩, ⟨by decide, by decide⟩, fun _ => (by first | assumption | (unfold inI; omega))⟩
  · exact ⟨1, 0, _, _, _, _, _, _, _, _, _, _, _, _, _, _, _, l_decode_1 (v := 0) (c_decode_1 hW hI i0 h0) hW.1.1 e49 e50, fun σ1 th hM => m_decode_1 hM hI i0 h0, hI, ⟨by decide, by decide⟩, fun q => absurd q (by decide)⟩
theorem op_how {X : jX} {σ : jS} {pr : Int} {ln : Nat} {lw : Nat → Int} {bn : Nat → Nat} {cd sz : Nat → Nat → Nat} {ph : Nat → Nat → Int} {mn : Nat} {mg : Nat → Int} {kn : Nat} {kr : Nat → Int} {ks : Nat → Nat} {kt : Nat → Nat → Int} {rd : Nat} {rg : Nat → Int} (hW : CW σ pr ln lw bn cd sz ph mn mg kn kr ks kt rd rg) (hI : CI pr ln lw bn cd sz ph mn mg kn kr ks kt rd rg) {f0 : Nat → Int} {g0 : Nat → UInt64} (e49 : σ.2 49 = jL 1 f0) (e50 : σ.2 50 = jD 1 g0) (a0 : Int) (i0 : inI a0) : ∃ (k : Int) (v : Int) (pr' : Int) (ln' : Nat) (lw' : Nat → Int) (bn' : Nat → Nat) (cd' : Nat → Nat → Nat) (sz' : Nat → Nat → Nat) (ph' : Nat → Nat → Int) (mn' : Nat) (mg' : Nat → Int) (kn' : Nat) (kr' : Nat → Int) (ks' : Nat → Nat) (kt' : Nat → Nat → Int) (rd' : Nat) (rg' : Nat → Int), JM X mL_how rL_how [.ref 5, vI a0, .ref 49] σ (LQ k v σ (fun σ1 => CW σ1 pr' ln' lw' bn' cd' sz' ph' mn' mg' kn' kr' ks' kt' rd' rg')) ∧ (∀ (σ1 : jS) (th : Int), MW σ1 th pr ln lw bn cd sz ph mn mg kn kr ks kt rd rg → JM X mX7_how rX7_how [.ref 37, vI a0] σ1 (MP k v σ1 (fun σ2 => MW σ2 k pr' ln' lw' bn' cd' sz' ph' mn' mg' kn' kr' ks' kt' rd' rg'))) ∧ CI pr' ln' lw' bn' cd' sz' ph' mn' mg' kn' kr' ks' kt' rd' rg' ∧ (0 ≤ k ∧ k ≤ 3) ∧ (k = 0 → inI v) := by
  obtain ⟨hpr, ⟨hln, hlw⟩, hbk, ⟨hmn, hmg⟩, hki, hrd, hrg⟩ := id hI
  have hkn := hki.1
  by_cases h1 : 0 ≤ a0 ∧ a0 < ((rd : Nat) : Int)
  · obtain ⟨g, rfl⟩ : ∃ g : Nat, a0 = ((g : Nat) : Int) := ⟨a0.toNat, by omega⟩
    have hgg := hrg g
    exact ⟨0, (rg g), _, _, _, _, _, _, _, _, _, _, _, _, _, _, _, l_how_0 (v := (rg g)) (c_how_0 hW hI (by omega)) hW.1.1 e49 e50 (fun _ _ hj h => h.keep hj) (by first | assumption | (unfold inI; omega)), fun σ1 th hM => m_how_0 hM hI (by omega), hI, ⟨by decide, by decide⟩, fun _ => (by first | assumption | (unfold inI; omega))⟩
  · exact ⟨1, 0, _, _, _, _, _, _, _, _, _, _, _, _, _, _, _, l_how_1 (v := 0) (c_how_1 hW hI i0 h1) hW.1.1 e49 e50, fun σ1 th hM => m_how_1 hM hI i0 h1, hI, ⟨by decide, by decide⟩, fun q => absurd q (by decide)⟩
theorem op_share {X : jX} {σ : jS} {pr : Int} {ln : Nat} {lw : Nat → Int} {bn : Nat → Nat} {cd sz : Nat → Nat → Nat} {ph : Nat → Nat → Int} {mn : Nat} {mg : Nat → Int} {kn : Nat} {kr : Nat → Int} {ks : Nat → Nat} {kt : Nat → Nat → Int} {rd : Nat} {rg : Nat → Int} (hW : CW σ pr ln lw bn cd sz ph mn mg kn kr ks kt rd rg) (hI : CI pr ln lw bn cd sz ph mn mg kn kr ks kt rd rg) {f0 : Nat → Int} {g0 : Nat → UInt64} (e49 : σ.2 49 = jL 1 f0) (e50 : σ.2 50 = jD 1 g0) (a0 : Int) (i0 : inI a0) : ∃ (k : Int) (v : UInt64) (pr' : Int) (ln' : Nat) (lw' : Nat → Int) (bn' : Nat → Nat) (cd' : Nat → Nat → Nat) (sz' : Nat → Nat → Nat) (ph' : Nat → Nat → Int) (mn' : Nat) (mg' : Nat → Int) (kn' : Nat) (kr' : Nat → Int) (ks' : Nat → Nat) (kt' : Nat → Nat → Int) (rd' : Nat) (rg' : Nat → Int), JM X mL_share rL_share [.ref 5, vI a0, .ref 50] σ (LQD k v σ (fun σ1 => CW σ1 pr' ln' lw' bn' cd' sz' ph' mn' mg' kn' kr' ks' kt' rd' rg')) ∧ (∀ (σ1 : jS) (th : Int), MW σ1 th pr ln lw bn cd sz ph mn mg kn kr ks kt rd rg → JM X mX7_share rX7_share [.ref 37, vI a0] σ1 (MPD k v σ1 (fun σ2 => MW σ2 k pr' ln' lw' bn' cd' sz' ph' mn' mg' kn' kr' ks' kt' rd' rg'))) ∧ CI pr' ln' lw' bn' cd' sz' ph' mn' mg' kn' kr' ks' kt' rd' rg' ∧ (0 ≤ k ∧ k ≤ 3) := by
  obtain ⟨hpr, ⟨hln, hlw⟩, hbk, ⟨hmn, hmg⟩, hki, hrd, hrg⟩ := id hI
  have hkn := hki.1
  by_cases h0 : 0 ≤ a0 ∧ a0 < 3
  · obtain ⟨b, rfl⟩ : ∃ b : Nat, a0 = ((b : Nat) : Int) := ⟨a0.toNat, by omega⟩
    have hb : b < 3 := by omega
    have hbn := (hbk b hb).1
    have hcd := (hbk b hb).2.1
    have hsz := (hbk b hb).2.2.1
    have hph := (hbk b hb).2.2.2
    exact ⟨0, (shV (shC (bn b) (sz b) (ph b) kr ks pr kn 0) (pr * ((shA ks kn 0 : Nat) : Int))), _, _, _, _, _, _, _, _, _, _, _, _, _, _, _, l_share_0 (w := (shV (shC (bn b) (sz b) (ph b) kr ks pr kn 0) (pr * ((shA ks kn 0 : Nat) : Int)))) (c_share_0 hW hI hb) hW.1.1 e49 e50 (fun _ _ hj h => h.keep hj), fun σ1 th hM => m_share_0 hM hI hb, hI, ⟨by decide, by decide⟩⟩
  · exact ⟨1, 0, _, _, _, _, _, _, _, _, _, _, _, _, _, _, _, l_share_1 (w := 0) (c_share_1 hW hI i0 h0) hW.1.1 e49 e50, fun σ1 th hM => m_share_1 hM hI i0 h0, hI, ⟨by decide, by decide⟩⟩
theorem op_propose {X : jX} {σ : jS} {pr : Int} {ln : Nat} {lw : Nat → Int} {bn : Nat → Nat} {cd sz : Nat → Nat → Nat} {ph : Nat → Nat → Int} {mn : Nat} {mg : Nat → Int} {kn : Nat} {kr : Nat → Int} {ks : Nat → Nat} {kt : Nat → Nat → Int} {rd : Nat} {rg : Nat → Int} (hW : CW σ pr ln lw bn cd sz ph mn mg kn kr ks kt rd rg) (hI : CI pr ln lw bn cd sz ph mn mg kn kr ks kt rd rg) {f0 : Nat → Int} {g0 : Nat → UInt64} (e49 : σ.2 49 = jL 1 f0) (e50 : σ.2 50 = jD 1 g0) (a0 : Int) (i0 : inI a0) : ∃ (k : Int) (v : Int) (pr' : Int) (ln' : Nat) (lw' : Nat → Int) (bn' : Nat → Nat) (cd' : Nat → Nat → Nat) (sz' : Nat → Nat → Nat) (ph' : Nat → Nat → Int) (mn' : Nat) (mg' : Nat → Int) (kn' : Nat) (kr' : Nat → Int) (ks' : Nat → Nat) (kt' : Nat → Nat → Int) (rd' : Nat) (rg' : Nat → Int), JM X mL_propose rL_propose [.ref 5, vI a0, .ref 49] σ (LQ k v σ (fun σ1 => CW σ1 pr' ln' lw' bn' cd' sz' ph' mn' mg' kn' kr' ks' kt' rd' rg')) ∧ (∀ (σ1 : jS) (th : Int), MW σ1 th pr ln lw bn cd sz ph mn mg kn kr ks kt rd rg → JM X mX7_propose rX7_propose [.ref 37, vI a0] σ1 (MP k v σ1 (fun σ2 => MW σ2 k pr' ln' lw' bn' cd' sz' ph' mn' mg' kn' kr' ks' kt' rd' rg'))) ∧ CI pr' ln' lw' bn' cd' sz' ph' mn' mg' kn' kr' ks' kt' rd' rg' ∧ (0 ≤ k ∧ k ≤ 3) ∧ (k = 0 → inI v) := by
  obtain ⟨hpr, ⟨hln, hlw⟩, hbk, ⟨hmn, hmg⟩, hki, hrd, hrg⟩ := id hI
  have hkn := hki.1
  by_cases h0 : 0 ≤ a0 ∧ a0 < 3
  · obtain ⟨b, rfl⟩ : ∃ b : Nat, a0 = ((b : Nat) : Int) := ⟨a0.toNat, by omega⟩
    have hb : b < 3 := by omega
    have hbn := (hbk b hb).1
    have hcd := (hbk b hb).2.1
    have hsz := (hbk b hb).2.2.1
    have hph := (hbk b hb).2.2.2
    have hpi := hki.pro (B := (proB bn sz ph kn kr kt pr b)) rfl
    have hbd := proB_bd (B := (proB bn sz ph kn kr kt pr b)) hki hpr rfl
    have hl' : proN (proB bn sz ph kn kr kt pr b) ln ≤ 40 := by
      unfold proN; split
      · rename_i q; have := (hpi.2 q).1; omega
      · exact hln
    have hw' : ∀ t, 0 ≤ proF kr (proB bn sz ph kn kr kt pr b) lw t ∧ proF kr (proB bn sz ph kn kr kt pr b) lw t ≤ 9999 := fun t => by
      unfold proF
      by_cases q : 0 < (proB bn sz ph kn kr kt pr b).1
      · rw [if_pos q]; exact alF_in (P := fun y => 0 ≤ y ∧ y ≤ 9999) _ _ _ _ (fun i hi => hki.pos (hpi.2 q).2 hi) hlw t
      · rw [if_neg q]; exact hlw t
    exact ⟨0, (proB bn sz ph kn kr kt pr b).1, _, _, _, _, _, _, _, _, _, _, _, _, _, _, _, l_propose_0 (v := (proB bn sz ph kn kr kt pr b).1) (c_propose_0 hW hI hb) hW.1.1 e49 e50 (fun _ _ hj h => h.keep hj) (hbd), fun σ1 th hM => m_propose_0 hM hI hb, ⟨hpr, ⟨hl', hw'⟩, hbk, ⟨hmn, hmg⟩, hki, hrd, hrg⟩, ⟨by decide, by decide⟩, fun _ => hbd⟩
  · exact ⟨1, 0, _, _, _, _, _, _, _, _, _, _, _, _, _, _, _, l_propose_1 (v := 0) (c_propose_1 hW hI i0 h0) hW.1.1 e49 e50, fun σ1 th hM => m_propose_1 hM hI i0 h0, hI, ⟨by decide, by decide⟩, fun q => absurd q (by decide)⟩
theorem op_learn {X : jX} {σ : jS} {pr : Int} {ln : Nat} {lw : Nat → Int} {bn : Nat → Nat} {cd sz : Nat → Nat → Nat} {ph : Nat → Nat → Int} {mn : Nat} {mg : Nat → Int} {kn : Nat} {kr : Nat → Int} {ks : Nat → Nat} {kt : Nat → Nat → Int} {rd : Nat} {rg : Nat → Int} (hW : CW σ pr ln lw bn cd sz ph mn mg kn kr ks kt rd rg) (hI : CI pr ln lw bn cd sz ph mn mg kn kr ks kt rd rg) {f0 : Nat → Int} {g0 : Nat → UInt64} (e49 : σ.2 49 = jL 1 f0) (e50 : σ.2 50 = jD 1 g0) (a0 a1 : Int) (i0 : inI a0) (i1 : inI a1) : ∃ (k : Int) (v : Int) (pr' : Int) (ln' : Nat) (lw' : Nat → Int) (bn' : Nat → Nat) (cd' : Nat → Nat → Nat) (sz' : Nat → Nat → Nat) (ph' : Nat → Nat → Int) (mn' : Nat) (mg' : Nat → Int) (kn' : Nat) (kr' : Nat → Int) (ks' : Nat → Nat) (kt' : Nat → Nat → Int) (rd' : Nat) (rg' : Nat → Int), JM X mL_learn rL_learn [.ref 5, vI a0, vI a1, .ref 49] σ (LQ k v σ (fun σ1 => CW σ1 pr' ln' lw' bn' cd' sz' ph' mn' mg' kn' kr' ks' kt' rd' rg')) ∧ (∀ (σ1 : jS) (th : Int), MW σ1 th pr ln lw bn cd sz ph mn mg kn kr ks kt rd rg → JM X mX7_learn rX7_learn [.ref 37, vI a0, vI a1] σ1 (MP k v σ1 (fun σ2 => MW σ2 k pr' ln' lw' bn' cd' sz' ph' mn' mg' kn' kr' ks' kt' rd' rg'))) ∧ CI pr' ln' lw' bn' cd' sz' ph' mn' mg' kn' kr' ks' kt' rd' rg' ∧ (0 ≤ k ∧ k ≤ 3) ∧ (k = 0 → inI v) := by
  obtain ⟨hpr, ⟨hln, hlw⟩, hbk, ⟨hmn, hmg⟩, hki, hrd, hrg⟩ := id hI
  have hkn := hki.1
  by_cases h0 : 0 ≤ a0 ∧ a0 < 3
  · obtain ⟨b, rfl⟩ : ∃ b : Nat, a0 = ((b : Nat) : Int) := ⟨a0.toNat, by omega⟩
    have hb : b < 3 := by omega
    have hbn := (hbk b hb).1
    have hcd := (hbk b hb).2.1
    have hsz := (hbk b hb).2.2.1
    have hph := (hbk b hb).2.2.2
    by_cases h1 : 1 ≤ a1 ∧ a1 ≤ 40
    · obtain ⟨m, rfl⟩ : ∃ m : Nat, a1 = ((m : Nat) : Int) := ⟨a1.toNat, by omega⟩
      obtain ⟨d1, d2, d3, d4, d5, d6⟩ := lnU_bd (pr := pr) hki m 0 (bn b) (cd b) (sz b) (ph b) lw hbn hcd hsz hph hlw
      exact ⟨0, (((lnU kn kr kt pr m 0 (bn b) (cd b) (sz b) (ph b) lw).1 : Nat) : Int), _, _, _, _, _, _, _, _, _, _, _, _, _, _, _, l_learn_0 (v := (((lnU kn kr kt pr m 0 (bn b) (cd b) (sz b) (ph b) lw).1 : Nat) : Int)) (c_learn_0 hW hI hb (by omega)) hW.1.1 e49 e50 (fun _ _ hj h => h.keep hj) (by first | assumption | (unfold inI; omega)), fun σ1 th hM => m_learn_0 hM hI hb (by omega), ⟨hpr, ⟨by omega, d6⟩, bkUp hbk b d2 d3 d4 d5, ⟨hmn, hmg⟩, hki, hrd, hrg⟩, ⟨by decide, by decide⟩, fun _ => (by first | assumption | (unfold inI; omega))⟩
    · exact ⟨2, 0, _, _, _, _, _, _, _, _, _, _, _, _, _, _, _, l_learn_2 (v := 0) (c_learn_2 hW hI hb i1 h1) hW.1.1 e49 e50, fun σ1 th hM => m_learn_2 hM hI hb i1 h1, hI, ⟨by decide, by decide⟩, fun q => absurd q (by decide)⟩
  · exact ⟨1, 0, _, _, _, _, _, _, _, _, _, _, _, _, _, _, _, l_learn_1 (v := 0) (c_learn_1 hW hI i0 h0) hW.1.1 e49 e50, fun σ1 th hM => m_learn_1 hM hI i0 h0, hI, ⟨by decide, by decide⟩, fun q => absurd q (by decide)⟩
