section
-- ===== PART A: goes FIRST, ahead of the names: the tables' words, and 'selects' of the private methods out of them =====
/-- a private method of a class that the tables say can be made, by its rows of tables_1 -/
def lw_okq (q : MethodName × Nat) : Prop := (q.1.cls ≠ "java/lang/invoke/MethodHandle" ∧ q.1.cls ≠ "java/lang/invoke/VarHandle") ∧ Cond.instantiable q.1.cls q.2 ∈ tables_1 ∧ Cond.privateMethod q.1 ∈ tables_1 ∧ Cond.instanceMethod q.1 ∈ tables_1
theorem lw_p0 : lw_okq (⟨"java/lang/Throwable", "fillInStackTrace", "(I)Ljava/lang/Throwable;"⟩, 6) := ⟨⟨by decide +kernel, by decide +kernel⟩, List.mem_of_getElem? (i := 288) (by decide +kernel), List.mem_of_getElem? (i := 286) (by decide +kernel), List.mem_of_getElem? (i := 287) (by decide +kernel)⟩
theorem lw_p1 : lw_okq (⟨"WireBook$Kept", "countPhrases", "(III)V"⟩, 5) := ⟨⟨by decide +kernel, by decide +kernel⟩, List.mem_of_getElem? (i := 74) (by decide +kernel), List.mem_of_getElem? (i := 378) (by decide +kernel), List.mem_of_getElem? (i := 379) (by decide +kernel)⟩
theorem lw_p2 : lw_okq (⟨"WireBook$Kept", "firstFinding", "(II)I"⟩, 5) := ⟨⟨by decide +kernel, by decide +kernel⟩, List.mem_of_getElem? (i := 74) (by decide +kernel), List.mem_of_getElem? (i := 382) (by decide +kernel), List.mem_of_getElem? (i := 383) (by decide +kernel)⟩
theorem lw_p3 : lw_okq (⟨"WireBook", "requireBook", "(I)LWireBook$Book;"⟩, 8) := ⟨⟨by decide +kernel, by decide +kernel⟩, List.mem_of_getElem? (i := 19) (by decide +kernel), List.mem_of_getElem? (i := 429) (by decide +kernel), List.mem_of_getElem? (i := 430) (by decide +kernel)⟩
theorem lw_p4 : lw_okq (⟨"WireBook$Division", "bestPiece", "(LWireBook$Book;I[IIII)I"⟩, 2) := ⟨⟨by decide +kernel, by decide +kernel⟩, List.mem_of_getElem? (i := 119) (by decide +kernel), List.mem_of_getElem? (i := 529) (by decide +kernel), List.mem_of_getElem? (i := 530) (by decide +kernel)⟩
theorem lw_p5 : lw_okq (⟨"WireBook", "requireGroup", "(I)V"⟩, 8) := ⟨⟨by decide +kernel, by decide +kernel⟩, List.mem_of_getElem? (i := 19) (by decide +kernel), List.mem_of_getElem? (i := 557) (by decide +kernel), List.mem_of_getElem? (i := 558) (by decide +kernel)⟩
theorem lw_p6 : lw_okq (⟨"WireBook", "requireCodeWord", "(I)V"⟩, 8) := ⟨⟨by decide +kernel, by decide +kernel⟩, List.mem_of_getElem? (i := 19) (by decide +kernel), List.mem_of_getElem? (i := 570) (by decide +kernel), List.mem_of_getElem? (i := 571) (by decide +kernel)⟩
theorem lw_p7 : lw_okq (⟨"WireBook", "read", "(LWireBook$Book;I)I"⟩, 8) := ⟨⟨by decide +kernel, by decide +kernel⟩, List.mem_of_getElem? (i := 19) (by decide +kernel), List.mem_of_getElem? (i := 598) (by decide +kernel), List.mem_of_getElem? (i := 599) (by decide +kernel)⟩
theorem lw_p8 : lw_okq (⟨"WireBook", "learnOne", "(LWireBook$Book;)Z"⟩, 8) := ⟨⟨by decide +kernel, by decide +kernel⟩, List.mem_of_getElem? (i := 19) (by decide +kernel), List.mem_of_getElem? (i := 648) (by decide +kernel), List.mem_of_getElem? (i := 649) (by decide +kernel)⟩
theorem lw_p9 : lw_okq (⟨"WireBookModel", "no", "(I)I"⟩, 19) := ⟨⟨by decide +kernel, by decide +kernel⟩, List.mem_of_getElem? (i := 656) (by decide +kernel), List.mem_of_getElem? (i := 731) (by decide +kernel), List.mem_of_getElem? (i := 732) (by decide +kernel)⟩
theorem lw_p10 : lw_okq (⟨"WireBookModel", "reasonFor", "(II)I"⟩, 19) := ⟨⟨by decide +kernel, by decide +kernel⟩, List.mem_of_getElem? (i := 656) (by decide +kernel), List.mem_of_getElem? (i := 777) (by decide +kernel), List.mem_of_getElem? (i := 778) (by decide +kernel)⟩
theorem lw_p11 : lw_okq (⟨"WireBookModel", "fitFrom", "(II)I"⟩, 19) := ⟨⟨by decide +kernel, by decide +kernel⟩, List.mem_of_getElem? (i := 656) (by decide +kernel), List.mem_of_getElem? (i := 794) (by decide +kernel), List.mem_of_getElem? (i := 795) (by decide +kernel)⟩
theorem lw_p12 : lw_okq (⟨"WireBookModel", "add", "(II[III)V"⟩, 19) := ⟨⟨by decide +kernel, by decide +kernel⟩, List.mem_of_getElem? (i := 656) (by decide +kernel), List.mem_of_getElem? (i := 802) (by decide +kernel), List.mem_of_getElem? (i := 803) (by decide +kernel)⟩
theorem lw_p13 : lw_okq (⟨"WireBookModel", "isEntry", "(II)Z"⟩, 19) := ⟨⟨by decide +kernel, by decide +kernel⟩, List.mem_of_getElem? (i := 656) (by decide +kernel), List.mem_of_getElem? (i := 810) (by decide +kernel), List.mem_of_getElem? (i := 811) (by decide +kernel)⟩
theorem lw_p14 : lw_okq (⟨"WireBookModel", "entryOf", "(II)I"⟩, 19) := ⟨⟨by decide +kernel, by decide +kernel⟩, List.mem_of_getElem? (i := 656) (by decide +kernel), List.mem_of_getElem? (i := 826) (by decide +kernel), List.mem_of_getElem? (i := 827) (by decide +kernel)⟩
theorem lw_p15 : lw_okq (⟨"WireBookModel", "divide", "(I[III)I"⟩, 19) := ⟨⟨by decide +kernel, by decide +kernel⟩, List.mem_of_getElem? (i := 656) (by decide +kernel), List.mem_of_getElem? (i := 838) (by decide +kernel), List.mem_of_getElem? (i := 839) (by decide +kernel)⟩
def lw_privs_1 : List (MethodName × Nat) := [(⟨"java/lang/Throwable", "fillInStackTrace", "(I)Ljava/lang/Throwable;"⟩, 6), (⟨"WireBook$Kept", "countPhrases", "(III)V"⟩, 5), (⟨"WireBook$Kept", "firstFinding", "(II)I"⟩, 5), (⟨"WireBook", "requireBook", "(I)LWireBook$Book;"⟩, 8), (⟨"WireBook$Division", "bestPiece", "(LWireBook$Book;I[IIII)I"⟩, 2), (⟨"WireBook", "requireGroup", "(I)V"⟩, 8), (⟨"WireBook", "requireCodeWord", "(I)V"⟩, 8), (⟨"WireBook", "read", "(LWireBook$Book;I)I"⟩, 8), (⟨"WireBook", "learnOne", "(LWireBook$Book;)Z"⟩, 8), (⟨"WireBookModel", "no", "(I)I"⟩, 19), (⟨"WireBookModel", "reasonFor", "(II)I"⟩, 19), (⟨"WireBookModel", "fitFrom", "(II)I"⟩, 19), (⟨"WireBookModel", "add", "(II[III)V"⟩, 19), (⟨"WireBookModel", "isEntry", "(II)Z"⟩, 19), (⟨"WireBookModel", "entryOf", "(II)I"⟩, 19), (⟨"WireBookModel", "divide", "(I[III)I"⟩, 19)]
theorem lw_r1 : ∀ q ∈ lw_privs_1, lw_okq q := List.forall_mem_cons.mpr ⟨lw_p0, List.forall_mem_cons.mpr ⟨lw_p1, List.forall_mem_cons.mpr ⟨lw_p2, List.forall_mem_cons.mpr ⟨lw_p3, List.forall_mem_cons.mpr ⟨lw_p4, List.forall_mem_cons.mpr ⟨lw_p5, List.forall_mem_cons.mpr ⟨lw_p6, List.forall_mem_cons.mpr ⟨lw_p7, List.forall_mem_cons.mpr ⟨lw_p8, List.forall_mem_cons.mpr ⟨lw_p9, List.forall_mem_cons.mpr ⟨lw_p10, List.forall_mem_cons.mpr ⟨lw_p11, List.forall_mem_cons.mpr ⟨lw_p12, List.forall_mem_cons.mpr ⟨lw_p13, List.forall_mem_cons.mpr ⟨lw_p14, List.forall_mem_cons.mpr ⟨lw_p15, fun _ h => absurd h List.not_mem_nil⟩⟩⟩⟩⟩⟩⟩⟩⟩⟩⟩⟩⟩⟩⟩⟩
theorem lw_p16 : lw_okq (⟨"WireBookModel", "stands", "(I[III)Z"⟩, 19) := ⟨⟨by decide +kernel, by decide +kernel⟩, List.mem_of_getElem? (i := 656) (by decide +kernel), List.mem_of_getElem? (i := 842) (by decide +kernel), List.mem_of_getElem? (i := 843) (by decide +kernel)⟩
theorem lw_p17 : lw_okq (⟨"WireBookModel", "isGroup", "(I)Z"⟩, 19) := ⟨⟨by decide +kernel, by decide +kernel⟩, List.mem_of_getElem? (i := 656) (by decide +kernel), List.mem_of_getElem? (i := 857) (by decide +kernel), List.mem_of_getElem? (i := 858) (by decide +kernel)⟩
theorem lw_p18 : lw_okq (⟨"WireBookModel", "write", "(I)V"⟩, 19) := ⟨⟨by decide +kernel, by decide +kernel⟩, List.mem_of_getElem? (i := 656) (by decide +kernel), List.mem_of_getElem? (i := 873) (by decide +kernel), List.mem_of_getElem? (i := 874) (by decide +kernel)⟩
theorem lw_p19 : lw_okq (⟨"WireBookModel", "meant", "(II)I"⟩, 19) := ⟨⟨by decide +kernel, by decide +kernel⟩, List.mem_of_getElem? (i := 656) (by decide +kernel), List.mem_of_getElem? (i := 877) (by decide +kernel), List.mem_of_getElem? (i := 878) (by decide +kernel)⟩
theorem lw_p20 : lw_okq (⟨"WireBookModel", "proposal", "(I)I"⟩, 19) := ⟨⟨by decide +kernel, by decide +kernel⟩, List.mem_of_getElem? (i := 656) (by decide +kernel), List.mem_of_getElem? (i := 908) (by decide +kernel), List.mem_of_getElem? (i := 909) (by decide +kernel)⟩
theorem lw_p21 : lw_okq (⟨"WireBookModel", "timesOf", "(II)I"⟩, 19) := ⟨⟨by decide +kernel, by decide +kernel⟩, List.mem_of_getElem? (i := 656) (by decide +kernel), List.mem_of_getElem? (i := 912) (by decide +kernel), List.mem_of_getElem? (i := 913) (by decide +kernel)⟩
theorem lw_p22 : lw_okq (⟨"WireBookModel", "isSame", "(III)Z"⟩, 19) := ⟨⟨by decide +kernel, by decide +kernel⟩, List.mem_of_getElem? (i := 656) (by decide +kernel), List.mem_of_getElem? (i := 916) (by decide +kernel), List.mem_of_getElem? (i := 917) (by decide +kernel)⟩
theorem lw_p23 : lw_okq (⟨"WireBookModel", "isInBook", "(III)Z"⟩, 19) := ⟨⟨by decide +kernel, by decide +kernel⟩, List.mem_of_getElem? (i := 656) (by decide +kernel), List.mem_of_getElem? (i := 920) (by decide +kernel), List.mem_of_getElem? (i := 921) (by decide +kernel)⟩
def lw_privs_2 : List (MethodName × Nat) := [(⟨"WireBookModel", "stands", "(I[III)Z"⟩, 19), (⟨"WireBookModel", "isGroup", "(I)Z"⟩, 19), (⟨"WireBookModel", "write", "(I)V"⟩, 19), (⟨"WireBookModel", "meant", "(II)I"⟩, 19), (⟨"WireBookModel", "proposal", "(I)I"⟩, 19), (⟨"WireBookModel", "timesOf", "(II)I"⟩, 19), (⟨"WireBookModel", "isSame", "(III)Z"⟩, 19), (⟨"WireBookModel", "isInBook", "(III)Z"⟩, 19)]
theorem lw_r2 : ∀ q ∈ lw_privs_2, lw_okq q := List.forall_mem_cons.mpr ⟨lw_p16, List.forall_mem_cons.mpr ⟨lw_p17, List.forall_mem_cons.mpr ⟨lw_p18, List.forall_mem_cons.mpr ⟨lw_p19, List.forall_mem_cons.mpr ⟨lw_p20, List.forall_mem_cons.mpr ⟨lw_p21, List.forall_mem_cons.mpr ⟨lw_p22, List.forall_mem_cons.mpr ⟨lw_p23, fun _ h => absurd h List.not_mem_nil⟩⟩⟩⟩⟩⟩⟩⟩
def lw_privs : List (MethodName × Nat) := lw_privs_1 ++ (lw_privs_2)
def lw_tbl : List Cond := k2_sels lw_privs ++ tables_1
theorem lw_privs_ok : ∀ q ∈ lw_privs, lw_okq q := by
  show ∀ q ∈ lw_privs_1 ++ (lw_privs_2), lw_okq q
  exact List.forall_mem_append.mpr ⟨lw_r1, lw_r2⟩
/-- the streams that the claim lets the run draw from -/
abbrev lw_cs : List Choice := [Jvm.Choice.named "NaN.bits"]
theorem lw_bits : nanBits ∈ lw_cs := by first | decide | exact List.mem_cons_self | simp [lw_cs, nanBits]
-- ===== end of PART A; then your names; then what follows =====
/-! ===== BEGIN words of one list among another's, by their places ===== -/
theorem goodIn_r {big : List Cond} (ws : List Cond) (ps : List Nat) (hp : ws = ps.filterMap (fun i => big[i]?)) (h : ws.all goodWord = true) : GoodIn big ws := by
  intro w hw
  have h1 := List.all_eq_true.mp h w hw
  rw [hp] at hw
  obtain ⟨i, -, hi⟩ := List.mem_filterMap.mp hw
  have hm : w ∈ big := by first | exact List.mem_of_getElem? hi | exact List.getElem?_mem hi
  exact ⟨hm, good_of_word h1⟩
theorem goodIn_app {big a b : List Cond} (ha : GoodIn big a) (hb : GoodIn big b) : GoodIn big (a ++ b) := fun w h => (List.mem_append.mp h).elim (ha w) (hb w)
theorem goodIn_ca {big a b : List Cond} {c : Cond} (ha : GoodIn big (c :: a)) (hb : GoodIn big b) : GoodIn big (c :: (a ++ b)) := fun w h => (List.mem_cons.mp h).elim (fun e => ha w (List.mem_cons.mpr (Or.inl e))) (fun h => (List.mem_append.mp h).elim (fun h => ha w (List.mem_cons.mpr (Or.inr h))) (hb w))
theorem goodIn_sub {big ws : List Cond} (hm : ∀ w ∈ ws, w ∈ big) (h : ws.all goodWord = true) : GoodIn big ws := fun w hw => ⟨hm w hw, good_of_word (List.all_eq_true.mp h w hw)⟩
/-! ===== END ===== -/

/-- wanting in the printed names: an array class of arrays, over the tables alone -/
def va_AOA (ty : FieldType) (U : State) : Prop := (Cond.arrayOver (.array ty)).before #[] U = true
theorem va_AOA.use {ty : FieldType} {A : Array Value} {U : State} (h : va_AOA ty U) : (Cond.arrayOver (.array ty)).before A U = true := h
/-! ===== BEGIN new T[n][m]: the outer array a place, the inner ones among the pooled ===== -/
/-- f, but v at every address of l -/
def vr_up {α : Type} (f : Nat → α) (l : List Nat) (v : α) : Nat → α := fun a => if a ∈ l then v else f a
theorem vr_up_in {α : Type} {f : Nat → α} {l : List Nat} {v : α} {a : Nat} (h : a ∈ l) : vr_up f l v a = v := if_pos h
theorem vr_up_ne {α : Type} {f : Nat → α} {l : List Nat} {v : α} {a : Nat} (h : a ∉ l) : vr_up f l v a = f a := if_neg h
theorem vr_rows {L l : List Nat} {f : Nat → va_E} {e : va_E} (h : ∀ a, a ∈ l → a ∉ L) : va_pl L f ++ l.map (fun a => (a, e)) = va_pl (L ++ l) (vr_up f l e) := by
  unfold va_pl
  rw [List.map_append]
  congr 1
  · apply List.map_congr_left
    intro a ha
    rw [vr_up_ne (fun q => h a q ha)]
  · apply List.map_congr_left
    intro a ha
    rw [vr_up_in ha]
theorem vr_lay {X rows : va_W} {x : Nat × va_E} {pl : va_W} {D : va_G} {cl : List vw_C} {H : Heap} (hP : va_P D cl (((X ++ pl) ++ [x]) ++ rows) H) : va_P D cl ((X ++ [x]) ++ (pl ++ rows)) H := by
  rw [List.append_assoc (X ++ pl)] at hP
  have h := va_P.swap hP
  rw [← List.append_assoc X] at h
  have h2 := va_P.swap h
  rw [List.append_assoc (X ++ [x])] at h2
  exact h2
theorem vr_layD {X rows : va_W} {x : Nat × va_E} {pl : va_W} {A : Nat → Prop} (hD : va_D A (((X ++ pl) ++ [x]) ++ rows)) : va_D A ((X ++ [x]) ++ (pl ++ rows)) := by
  rw [List.append_assoc (X ++ pl)] at hD
  have h := va_D.swap hD
  rw [← List.append_assoc X] at h
  have h2 := va_D.swap h
  rw [List.append_assoc (X ++ [x])] at h2
  exact h2
theorem vr_outer (c : ClassId) (N h0 : Nat) : ∀ i : Nat, Jvm.Free.Multi.outerC c N h0 i = arrV c N (fun j => va_rf (if j < i then some (h0 + 1 + j) else none))
  | 0 => by
    show ({ cls := c, slots := Array.replicate N .null, vm := .none } : Cell) = _
    rw [arrV_new]
    refine congrArg (arrV c N) (funext fun j => ?_)
    simp [va_rf]
  | i + 1 => by
    show (Jvm.Free.Multi.outerC c N h0 i).setSlot i (.ref (h0 + 1 + i)) = _
    rw [vr_outer c N h0 i, arrV_store]
    refine congrArg (arrV c N) (funext fun j => ?_)
    by_cases e : j = i
    · subst e
      simp [updV, va_rf]
    · by_cases h : j < i
      · simp [updV, e, h, Nat.lt_succ_of_lt h]
      · simp [updV, e, h, show ¬ j < i + 1 by omega]
section VGM
variable {p : Program} {l : Launch} {e : Env} {R : Room} {s : State} {m : MethodId} {args : Array Value} {below : List Frame} {meth : Method} {c : Code} {H : Heap} {locs : List Loc} {cells slots : Nat} {Q : State → Prop}
variable {cc : ByteArray} {pc : Nat} {ls : Array Slot} {rest : List Value} {D : va_G} {cl : List vw_C} {A : Nat → Prop} {a : Nat} {tys : List (ClassId × FieldType)} {ws : va_W} {H0 : Heap}
theorem va_mna {X : va_W} {L : List Nat} {f : Nat → va_E} {cc : ByteArray} (hexec : p.tables.exec = Jvm.exec) (hb : c.code = cc) {own : String} {index : Nat} {ty : FieldType} {cy : ClassId} (hown : s.vm.findClass own = some m.cls) (hclink : (Cond.classLink own index ("[" ++ (FieldType.array ty).toString)).before args s = true) (hover : va_AOA ty s) (harr : (Cond.arrayClass ty).before args s = true) (hcy : s.vm.findClass (FieldType.array ty).toString = some cy)
    (hK : va_K D cl tys s) (hP : va_P D cl (X ++ va_pl L f) H) (hD : va_D A (X ++ va_pl L f)) (hS : va_S A H0 H locs) (hA : ∀ q, H0.size ≤ q → A q) {n k : Int32} {N' K' : Nat} {z : vp_A} (hn : ¬ n < 0) (hk : ¬ k < 0) (hN : n.toNatClampNeg = N') (hM : k.toNatClampNeg = K')
    (hb1 : N' * 4 ≤ 536870912) (hb2 : K' * componentBytes ty ≤ 536870912) (hb3 : K' ≤ 536870912) (hdf : fits ty (defaultValue ty) = true) (hdd : (defaultValue ty).isDefault = true) (hcells : cells + (1 + N') ≤ R.cells) (hslots : slots + (N' + N' * K') ≤ R.slots) (hz : ∀ c : ClassId, Jvm.Free.Multi.innerC c K' (defaultValue ty) = vp_cell c z) (hdg : decode cc pc = .ok (.multianewarray index 2, 4))
    (kk : ∀ (q : Nat) (r : Nat → Nat) (cA : ClassId) (H1 : Heap), (∀ i j : Nat, i < N' → j < N' → r i = r j → i = j) → (∀ i : Nat, i < N' → r i ∉ L) → va_K D cl (tys ++ [(cA, .array ty)]) s →
      va_P D cl ((X ++ [(q, .inl (cA, N', .inr (.inr (.inr (.inr (fun i => if i < N' then some (r i) else none))))))]) ++ va_pl (L ++ (List.range N').map r) (vr_up f ((List.range N').map r) (.inl (cy, z)))) H1 → va_D A ((X ++ [(q, .inl (cA, N', .inr (.inr (.inr (.inr (fun i => if i < N' then some (r i) else none))))))]) ++ va_pl (L ++ (List.range N').map r) (vr_up f ((List.range N').map r) (.inl (cy, z)))) → va_S A H0 H1 locs →
      W p l e R s m args below meth c H1 locs (cells + 1 + N') (slots + N' + N' * K') Q (F0 m (pc + 4) ls (.ref q :: rest))) : W p l e R s m args below meth c H locs cells slots Q (F0 m pc ls (.int k :: .int n :: rest)) := by
  subst hN
  subst hM
  intro T hT Xs
  obtain ⟨vm₁, cA, comp, -, fA, fC, hO, -, X', step⟩ := Xs.multianewarray2F hexec hown hclink (va_AOA.use hover) harr (g := F0 m pc ls (.int k :: .int n :: rest)) rfl (by rw [hb]; exact hdg) rfl hn hk hb1 hb2 hb3 hdf hdd hcells hslots
  have ec : some cy = some comp := hcy.symm.trans fC
  cases ec
  generalize hF : Jvm.Free.Multi.fill (T.setVm vm₁) cA cy n.toNatClampNeg k.toNatClampNeg (defaultValue ty) n.toNatClampNeg = F at X' step
  have hTh : (T.setVm vm₁).heap = H := hT
  obtain ⟨f1, f2, -, -⟩ := Jvm.Free.Multi.fill_facts (T.setVm vm₁) cA cy n.toNatClampNeg k.toNatClampNeg (defaultValue ty) n.toNatClampNeg
  rw [hF, hTh] at f1 f2
  have hold : ∀ x : Nat, x < H.size → F.heap[x]? = H[x]? := fun x hx => by
    have := Jvm.Free.Multi.fill_old (T.setVm vm₁) cA cy n.toNatClampNeg k.toNatClampNeg (defaultValue ty) (a := x) (by rw [hTh]; exact hx) n.toNatClampNeg
    rw [hF, hTh] at this
    exact this
  have hrow : ∀ j : Nat, j < n.toNatClampNeg → F.heap[H.size + 1 + j]? = some (vp_cell cy z) := fun j hj => by
    have := Jvm.Free.Multi.fill_inner (T.setVm vm₁) cA cy n.toNatClampNeg k.toNatClampNeg (defaultValue ty) n.toNatClampNeg j hj
    rw [hF, hTh, hz] at this
    exact this
  have hout : Jvm.Free.Multi.outerC cA n.toNatClampNeg H.size n.toNatClampNeg = vp_cell cA (n.toNatClampNeg, .inr (.inr (.inr (.inr (fun i => if i < n.toNatClampNeg then some (H.size + 1 + i) else none))))) := by
    rw [vp_cell_q]
    exact vr_outer cA n.toNatClampNeg H.size n.toNatClampNeg
  rw [hout] at f2
  have hlt : ∀ a, a ∈ L → a < H.size := fun a ha => by
    obtain ⟨k9, hk9⟩ := va_pl_get (X := X) (f := f) ha
    exact (hP k9 _ hk9).lt
  have hnl : ∀ i : Nat, i < n.toNatClampNeg → H.size + 1 + i ∉ L := fun i _ h => by
    have := hlt _ h
    omega
  have hnm : ∀ a, a ∈ (List.range n.toNatClampNeg).map (fun i => H.size + 1 + i) → a ∉ L := fun a ha h => by
    obtain ⟨i, -, rfl⟩ := List.mem_map.mp ha
    have := hlt _ h
    omega
  have hP0 : va_P D cl (X ++ va_pl L f) F.heap := hP.kept (fun k9 x hx => hold x.1 ((hP k9 x hx).lt))
  have hP1 : va_P D cl ((X ++ va_pl L f) ++ [(H.size, .inl (cA, n.toNatClampNeg, .inr (.inr (.inr (.inr (fun i => if i < n.toNatClampNeg then some (H.size + 1 + i) else none))))))]) F.heap := hP0.app (fun k9 x hx => by
    have h0 : k9 < 1 := (List.getElem?_eq_some_iff.mp hx).1
    rw [show k9 = 0 by omega] at hx
    cases hx
    exact f2)
  have hP2 : va_P D cl (((X ++ va_pl L f) ++ [(H.size, .inl (cA, n.toNatClampNeg, .inr (.inr (.inr (.inr (fun i => if i < n.toNatClampNeg then some (H.size + 1 + i) else none))))))]) ++ ((List.range n.toNatClampNeg).map (fun i => H.size + 1 + i)).map (fun a => (a, .inl (cy, z)))) F.heap := hP1.app (fun k9 x hx => by
    obtain ⟨a, ha, rfl⟩ := List.mem_map.mp (List.mem_of_getElem? hx)
    obtain ⟨i, hi, rfl⟩ := List.mem_map.mp ha
    exact hrow i (List.mem_range.mp hi))
  have hD2 : va_D A (((X ++ va_pl L f) ++ [(H.size, .inl (cA, n.toNatClampNeg, .inr (.inr (.inr (.inr (fun i => if i < n.toNatClampNeg then some (H.size + 1 + i) else none))))))]) ++ ((List.range n.toNatClampNeg).map (fun i => H.size + 1 + i)).map (fun a => (a, .inl (cy, z)))) := by
    have hD1 := hD.push (e := .inl (cA, n.toNatClampNeg, .inr (.inr (.inr (.inr (fun i => if i < n.toNatClampNeg then some (H.size + 1 + i) else none)))))) hP rfl (hA _ hS.1)
    generalize hW1 : (X ++ va_pl L f) ++ [(H.size, .inl (cA, n.toNatClampNeg, .inr (.inr (.inr (.inr (fun i => if i < n.toNatClampNeg then some (H.size + 1 + i) else none))))))] = W1 at hD1 hP1 ⊢
    have hle : ∀ (k9 : Nat) (x : Nat × va_E), W1[k9]? = some x → x.1 ≤ H.size := fun k9 x hx => by
      rw [← hW1] at hx
      by_cases hl : k9 < (X ++ va_pl L f).length
      · rw [List.getElem?_append_left hl] at hx
        exact Nat.le_of_lt ((hP k9 x hx).lt)
      · rw [List.getElem?_append_right (by omega)] at hx
        have h0 : k9 - (X ++ va_pl L f).length < 1 := (List.getElem?_eq_some_iff.mp hx).1
        rw [show k9 - (X ++ va_pl L f).length = 0 by omega] at hx
        cases hx
        exact Nat.le_refl _
    have hr : ∀ (k9 : Nat) (x : Nat × va_E), (((List.range n.toNatClampNeg).map (fun i => H.size + 1 + i)).map (fun a => ((a, .inl (cy, z)) : Nat × va_E)))[k9]? = some x → x.1 = H.size + 1 + k9 := fun k9 x hx => by
      rw [List.getElem?_map, List.getElem?_map] at hx
      by_cases h9 : k9 < n.toNatClampNeg
      · rw [List.getElem?_range h9] at hx
        cases hx
        rfl
      · have hn0 : (List.range n.toNatClampNeg)[k9]? = none := List.getElem?_eq_none (by rw [List.length_range]; omega)
        rw [hn0] at hx
        cases hx
    refine ⟨fun i j x y hi hj hxy => ?_, fun k9 x hx => ?_⟩
    · by_cases h1 : i < W1.length <;> by_cases h2 : j < W1.length
      · rw [List.getElem?_append_left h1] at hi
        rw [List.getElem?_append_left h2] at hj
        exact hD1.1 i j x y hi hj hxy
      · rw [List.getElem?_append_left h1] at hi
        rw [List.getElem?_append_right (by omega)] at hj
        have := hle _ _ hi
        have := hr _ _ hj
        omega
      · rw [List.getElem?_append_right (by omega)] at hi
        rw [List.getElem?_append_left h2] at hj
        have := hle _ _ hj
        have := hr _ _ hi
        omega
      · rw [List.getElem?_append_right (by omega)] at hi hj
        have := hr _ _ hi
        have := hr _ _ hj
        omega
    · by_cases h1 : k9 < W1.length
      · rw [List.getElem?_append_left h1] at hx
        exact hD1.2 k9 x hx
      · rw [List.getElem?_append_right (by omega)] at hx
        have := hr _ _ hx
        exact hA _ (by have := hS.1; omega)
  have hAr : ArrOfT s cA (.array ty) := fun N9 z9 => by
    obtain ⟨-, k9, hk9, cm9, hkk9⟩ := (hO 0 0 0).1
    exact ⟨(fun q hq => by cases hq), k9, hk9, cm9, hkk9⟩
  have hK2 : va_K D cl (tys ++ [(cA, .array ty)]) s := ⟨hK.1, fun k9 x hx => by
    by_cases hl : k9 < tys.length
    · rw [List.getElem?_append_left hl] at hx
      exact hK.2 k9 x hx
    · rw [List.getElem?_append_right (by omega)] at hx
      have h0 : k9 - tys.length < 1 := (List.getElem?_eq_some_iff.mp hx).1
      rw [show k9 - tys.length = 0 by omega] at hx
      cases hx
      exact ⟨hAr, fA⟩⟩
  obtain ⟨t, a1, b1⟩ := kk H.size (fun i => H.size + 1 + i) cA F.heap (fun i j _ _ h => by have h9 : H.size + 1 + i = H.size + 1 + j := h; omega) hnl hK2 (by rw [← vr_rows hnm]; exact vr_lay hP2) (by rw [← vr_rows hnm]; exact vr_layD hD2) ⟨by rw [f1]; have := hS.1; omega, fun x h1 h2 => (hold x (Nat.lt_of_lt_of_le h1 hS.1)).trans (hS.2.1 x h1 h2), hS.2.2⟩ F rfl X'
  refine ⟨t, step t ?_, b1⟩
  have e : T.heap.size = H.size := by rw [hT]
  rw [e]
  exact a1
end VGM
/-! ===== END ===== -/

/-! ===== BEGIN exceptions that leave a method, and their catching by the caller (launches without stack traces) ===== -/
section VXA
/-! The laws vx_back, vx_callV, vx_callS, vx_callSW, vx_throw0, vx_throwS follow proofs of the library, with one case more: JvmDerived/Free/Laws.lean (Back.of_free), Shelf42/LK1.lean (callV, callS), Shelf/KitTraced.lean (throwNew0V, throwNewS). -/
/-- where a method has thrown q: the class by its name, the cell, what was written, the world -/
def vx_T (XC : String → State → State → Prop) (st : State) (q : Addr) (t : State) (mc ms : Nat) (free : Addr → Prop) : Prop :=
  ∃ (E : String) (ce : Cell) (L : List Loc), XC E st t ∧ t.heap[q]? = some ce ∧ ce.vm = .none ∧ st.vm.findClass E = some ce.cls ∧ st.WarmedH t.vm ∧ st.sameButNew ({ t with vm := st.vm } : State) L mc ms ∧ ∀ z ∈ L, free z.base
def vx_Q (Qc : Array Value → State → Outcome → State → Prop) (XC : String → State → State → Prop) (mc ms : Nat) (free : Addr → Prop) : Array Value → State → Outcome → State → Prop := fun a st o t =>
  (Qc a st o t ∧ ∃ L, FrameEnd st o t L mc ms ∧ ∀ q ∈ L, free q.base) ∨ ∃ q, o = .threw q ∧ vx_T XC st q t mc ms free
/-- a callee that returns or throws -/
def vx_Met (l : Launch) (y : MethodName) (ws : List Cond) (rm : Room) (Pc : Array Value → State → Prop) (Qc : Array Value → State → Outcome → State → Prop) (XC : String → State → State → Prop) (mc ms : Nat) (free : Addr → Prop) : Prop :=
  MetFree l y (headSpec ws rm) Pc (fun _ _ _ _ _ => True) (vx_Q Qc XC mc ms free)
def vx_Post (XC : String → State → State → Prop) (mc ms : Nat) (free : Addr → Prop) : Pt → Array Value → Addr → Pt → Prop := fun A a q B =>
  ∃ (g : JFrame) (mk : MethodId) (t : State) (L : List Loc) (E : String) (ce : Cell), B.U.heap = t.heap ∧ B.U.vm = t.vm ∧ XC E (A.U.calling g mk a) t ∧ t.heap[q]? = some ce ∧ ce.vm = .none ∧ A.U.vm.findClass E = some ce.cls ∧ B.locs = A.locs ++ L ∧ (∀ z ∈ L, free z.base) ∧ B.cells = A.cells + mc ∧ B.slots = A.slots + ms
def vx_Back (l : Launch) (R : Room) (p : Program) (e : Env) (below : List Frame) (s : State) (sargs : Array Value) (y : MethodName) (len W9 : Nat)
    (Pre : Pt → Array Value → Prop) (Post : Pt → Array Value → Option Value → Pt → Prop) (PostX : Pt → Array Value → Addr → Pt → Prop) : Prop :=
  ∀ (m : MethodId) (meth : Method) (c : Code) (A : Pt) (g : JFrame) (ig : Instr) (mk : MethodId) (a : Array Value),
    Stand p l e R s m sargs below meth c A.U A.locs A.cells A.slots → g.method = m → g.locals.size = c.maxLocals → decode c.code g.pc = .ok (ig, len) →
    2 * g.monitorRoom + (g.stack.map fun v => v.category).sum ≤ W9 → A.U.methodNamed? y = some mk → Pre A a →
    (∃ (v : Option Value) (B : Pt), Stand p l e R s m sargs below meth c B.U B.locs B.cells B.slots ∧ Post A a v B ∧
      Steps p.tables e below (doInvoke e (A.U.setTop g) [] mk a).1 (B.U.setTop { g with pc := g.pc + len, stack := v.toList ++ g.stack })) ∨
    (∃ (q : Addr) (B : Pt), Stand p l e R s m sargs below meth c B.U B.locs B.cells B.slots ∧ PostX A a q B ∧
      Steps p.tables e below (doInvoke e (A.U.setTop g) [] mk a).1 ((B.U.setTop g).pushFrame (.throwing q)))
section Payer
variable {l : Launch} {R : Room} {p : Program} {e : Env} {below : List Frame} {s : State} {sargs : Array Value} {y : MethodName} {len W9 : Nat}
theorem vx_back {ws : List Cond} {rm : Room} {Pc : Array Value → State → Prop} {Qc : Array Value → State → Outcome → State → Prop} {XC : String → State → State → Prop} {mc ms : Nat} {free : Addr → Prop} {bytes : ByteArray} {maxL : Nat} {ret : Option FieldType}
    (hM : vx_Met l y ws rm Pc Qc XC mc ms free) (hblind : FrameBlind Pc) (hrc : rm.cells = mc) (hrs : rm.slots = ms)
    (hframes : rm.frames + 1 ≤ R.frames) (hlocals : W9 + (maxL + 11) + rm.locals ≤ R.locals)
    (hws : ∀ w ∈ ws, ∀ a' U, s.WarmedH U.vm → w.before a' U = true) (hcode : Cond.code y bytes maxL ret ∈ ws) (hinit : ∀ a' U, s.WarmedH U.vm → (Cond.initialized y.cls).before a' U = true) :
    vx_Back l R p e below s sargs y len W9 (PreOf R mc ms Pc) (PostOf Qc mc ms free) (vx_Post XC mc ms free) := by
  intro m meth c A g ig mk a X hg hsize hdg hW hn hp
  have h1 : (headSpec ws rm).pre.before a A.U = true := atoms_intro fun w hw => hws w hw _ _ X.warmed
  have h2 : (Cond.code y bytes maxL ret).before a A.U = true := hws _ hcode _ _ X.warmed
  have h3 : (Cond.initialized y.cls).before a A.U = true := hinit _ _ X.warmed
  have h4 : A.cells + (headSpec ws rm).room.cells ≤ R.cells := by rw [show (headSpec ws rm).room.cells = mc from hrc]; exact hp.1
  have h5 : A.slots + (headSpec ws rm).room.slots ≤ R.slots := by rw [show (headSpec ws rm).room.slots = ms from hrs]; exact hp.2.1
  have hPc : Pc a (A.U.calling g mk a) := hblind _ _ _ _ hp.2.2
  obtain ⟨U, Ls, c0, s0⟩ := A
  dsimp only [Pt.U, Pt.locs, Pt.cells, Pt.slots] at h1 h2 h3 h4 h5 X hn hPc ⊢
  obtain ⟨methY, cY, hmY, hcY, -, hlY, -, -, -, -⟩ := Cond.code_spec hn h2
  obtain ⟨kY, hkY, -⟩ := className_of_methodNamed hn
  have hinitY : kY.init = .initialized := Cond.initialized_spec (findClass_of_methodNamed hn) hkY h3
  have h : At U g.method c below := by rw [hg]; exact X.here
  have hlocals9 : W9 + (maxL + 11) + (headSpec ws rm).room.locals ≤ R.locals := hlocals
  have happ : (headSpec ws rm).appliesLoose y e.platform (U.calling g mk a) = true :=
    Spec.appliesLoose_calling (g := g) h hdg hn hkY hinitY
      (X.room_calling (g := g) (R' := (headSpec ws rm).room) hsize hmY hcY hframes (by rw [hlY]; omega) h4 h5) h1
  obtain ⟨mid, hmid⟩ := h.above
  have hfr : (U.setTop g).frames = (.java g :: mid) ++ below := by rw [State.frames_setTop' g h.top, hmid]; rfl
  obtain ⟨o, s₂, hsteps, -, hend, hq⟩ := Steps.callFree hM p X.admits X.cas X.clock (acts := []) hfr happ hPc trivial
  have hq' : vx_Q Qc XC mc ms free a (U.calling g mk a) o s₂ := hq
  rw [State.frames_setTop' g h.top] at hend
  obtain ⟨g₀, hg0⟩ := Option.isSome_iff_exists.mp h.top
  obtain ⟨r, hr⟩ := State.topJava?_eq_some.mp hg0
  have hr' : (({ U with heap := s₂.heap, slotsUsed := s₂.slotsUsed } : State).setVm s₂.vm).frames = .java g₀ :: r := hr
  rcases hq' with ⟨hqc, L, hfe, hL⟩ | ⟨q, rfl, E, ce, L, hx, hce, hcv, hcl, hW₂, hsm, hL⟩
  · obtain ⟨⟨v, rfl⟩, hW₂, e2, q2, q3, q4, q5, q6⟩ := id hfe
    have e3 : s₂ = ({ (U.calling g mk a).setFrames s₂.frames with heap := s₂.heap, slotsUsed := s₂.slotsUsed } : State).setVm s₂.vm := by
      have : s₂ = ({ s₂ with vm := (U.calling g mk a).vm } : State).setVm s₂.vm := rfl
      rw [e2] at this
      exact this
    obtain ⟨c₂, i₂, len₂, hc₂, hd₂, hf₂⟩ := hend
    have hW' : U.WarmedH s₂.vm := hW₂
    have hcc : c₂ = c := by
      have h1 : s₂.code? g.method = U.code? g.method := by
        rw [State.code?_eq, State.code?_eq, hW'.alike.method?]
      exact Option.some.inj (hc₂.symm.trans (h1.trans h.code))
    subst hcc
    have hlen : len₂ = len := by rw [hdg] at hd₂; cases hd₂; rfl
    subst hlen
    have hs₂ : s₂ = (({ U with heap := s₂.heap, slotsUsed := s₂.slotsUsed } : State).setVm s₂.vm).setTop { g with pc := g.pc + len₂, stack := v.toList ++ g.stack } := by
      refine e3.trans ?_
      rw [hf₂, State.calling_eq h.top, State.setFrames_setFrames, State.setTop_of_frames _ hr', hr]
      rfl
    have hsame : U.sameButNew ({ U with heap := s₂.heap, slotsUsed := s₂.slotsUsed } : State) L mc ms := by
      refine ⟨?_, q2, q3, q4, q5, q6⟩
      obtain ⟨t, ht, -⟩ := State.frames_cons hr
      show ({ U with heap := s₂.heap, slotsUsed := s₂.slotsUsed } : State) = { U.setFrames U.frames with heap := s₂.heap, slotsUsed := s₂.slotsUsed }
      rw [State.setFrames_self ht]
    subst hg
    refine Or.inl ⟨v, ⟨(({ U with heap := s₂.heap, slotsUsed := s₂.slotsUsed } : State).setVm s₂.vm), Ls ++ L, c0 + mc, s0 + ms⟩,
      ⟨X.admits, X.cas, X.clock, X.frames, X.room, X.hears, X.method, X.code, (X.here.setHeapUsed s₂.heap s₂.slotsUsed).setVm hW'.alike, X.tail, State.WarmedH.trans X.warmed hW', X.limits, X.bytes, X.same.trans (hsame.setVm s.vm)⟩,
      ⟨g, mk, s₂, L, rfl, rfl, hqc, rfl, hL, rfl, rfl⟩, ?_⟩
    show Steps p.tables e below _ ((({ U with heap := s₂.heap, slotsUsed := s₂.slotsUsed } : State).setVm s₂.vm).setTop { g with pc := g.pc + len₂, stack := v.toList ++ g.stack })
    rw [← hs₂]
    exact hsteps
  · obtain ⟨e2, q2, q3, q4, q5, q6⟩ := id hsm
    have e3 : s₂ = ({ (U.calling g mk a).setFrames s₂.frames with heap := s₂.heap, slotsUsed := s₂.slotsUsed } : State).setVm s₂.vm := by
      have : s₂ = ({ s₂ with vm := (U.calling g mk a).vm } : State).setVm s₂.vm := rfl
      rw [e2] at this
      exact this
    have hf₂ : s₂.frames = .throwing q :: .java g :: U.frames.tail := hend
    have hW' : U.WarmedH s₂.vm := hW₂
    have hs₂ : s₂ = ((({ U with heap := s₂.heap, slotsUsed := s₂.slotsUsed } : State).setVm s₂.vm).setTop g).pushFrame (.throwing q) := by
      refine e3.trans ?_
      rw [hf₂, State.calling_eq h.top, State.setFrames_setFrames, State.pushFrame, State.frames_setTop _ hr', State.setTop_of_frames _ hr', State.setFrames_setFrames, hr]
      rfl
    have hsame : U.sameButNew ({ U with heap := s₂.heap, slotsUsed := s₂.slotsUsed } : State) L mc ms := by
      refine ⟨?_, q2, q3, q4, q5, q6⟩
      obtain ⟨t, ht, -⟩ := State.frames_cons hr
      show ({ U with heap := s₂.heap, slotsUsed := s₂.slotsUsed } : State) = { U.setFrames U.frames with heap := s₂.heap, slotsUsed := s₂.slotsUsed }
      rw [State.setFrames_self ht]
    subst hg
    refine Or.inr ⟨q, ⟨(({ U with heap := s₂.heap, slotsUsed := s₂.slotsUsed } : State).setVm s₂.vm), Ls ++ L, c0 + mc, s0 + ms⟩,
      ⟨X.admits, X.cas, X.clock, X.frames, X.room, X.hears, X.method, X.code, (X.here.setHeapUsed s₂.heap s₂.slotsUsed).setVm hW'.alike, X.tail, State.WarmedH.trans X.warmed hW', X.limits, X.bytes, X.same.trans (hsame.setVm s.vm)⟩,
      ⟨g, mk, s₂, L, E, ce, rfl, rfl, hx, hce, hcv, hcl, rfl, hL, rfl, rfl⟩, ?_⟩
    show Steps p.tables e below _ (((({ U with heap := s₂.heap, slotsUsed := s₂.slotsUsed } : State).setVm s₂.vm).setTop g).pushFrame (.throwing q))
    rw [← hs₂]
    exact hsteps
end Payer
section Calls
variable {p : Program} {l : Launch} {e : Env} {R : Room} {s : State} {m : MethodId} {args : Array Value} {below : List Frame} {meth : Method} {c : Code} {T : State} {locs : List Loc} {cells slots : Nat}
theorem vx_callV (X : Stand p l e R s m args below meth c T locs cells slots) (hexec : p.tables.exec = Jvm.exec) {own C : String} {index : Nat} {y : MethodName} {bytes : ByteArray} {maxL : Nat} {ret : Option FieldType}
    (hown : s.vm.findClass own = some m.cls) (hlink : (Cond.methodLink own index y).before args s = true) (hinst : (Cond.instanceMethod y).before args s = true) (hsel : (Cond.selects C y y).before args s = true)
    (hcode : (Cond.code y bytes maxL ret).before args s = true) (hy : y.cls ≠ "java/lang/invoke/MethodHandle" ∧ y.cls ≠ "java/lang/invoke/VarHandle")
    {W9 : Nat} {Pre : Pt → Array Value → Prop} {Post : Pt → Array Value → Option Value → Pt → Prop} {PostX : Pt → Array Value → Addr → Pt → Prop} (hK : vx_Back l R p e below s args y 3 W9 Pre Post PostX)
    {b : Addr} {cellB : Cell} (hcell : T.heap[b]? = some cellB) (hobj : cellB.vm.isStatics = false) (hcls : s.vm.findClass C = some cellB.cls)
    {g : JFrame} (hg : g.method = m) (hsize : g.locals.size = c.maxLocals) {argsL rest : List Value} (hlen : ∀ sig, parseMethodDescriptor y.desc = some sig → argsL.length = sig.parameters.length)
    (hstack : g.stack = argsL.reverse ++ .ref b :: rest) (hW : 2 * g.monitorRoom + (rest.map fun v => v.category).sum ≤ W9) (hdg : decode c.code g.pc = .ok (.invokevirtual index, 3))
    (hpre : ∀ vm₁, s.WarmedH vm₁ → Pre ⟨T.setVm vm₁, locs, cells, slots⟩ (Value.ref b :: argsL).toArray) :
    (∃ (v : Option Value) (vm₁ : Vm) (B : Pt), s.WarmedH vm₁ ∧ Stand p l e R s m args below meth c B.U B.locs B.cells B.slots ∧ Post ⟨T.setVm vm₁, locs, cells, slots⟩ (Value.ref b :: argsL).toArray v B ∧
      ∀ target, Steps p.tables e below (B.U.setTop { g with pc := g.pc + 3, stack := v.toList ++ rest }) target → Steps p.tables e below (T.setTop g) target) ∨
    (∃ (q : Addr) (vm₁ : Vm) (B : Pt), s.WarmedH vm₁ ∧ Stand p l e R s m args below meth c B.U B.locs B.cells B.slots ∧ PostX ⟨T.setVm vm₁, locs, cells, slots⟩ (Value.ref b :: argsL).toArray q B ∧
      Steps p.tables e below (T.setTop g) ((B.U.setTop { g with stack := rest }).pushFrame (.throwing q))) := by
  obtain ⟨mk, methM, hnamed, hmethM, hstM, habM⟩ := Cond.instanceMethod_spec hinst
  obtain ⟨methM', cM, hmethM', -, -, -, -, -, -, hsigM⟩ := Cond.code_spec hnamed hcode
  cases hmethM.symm.trans hmethM'
  obtain ⟨c2, r2, m2, q1, q2, q3, q4, kP, hkP, hkPi⟩ := Cond.selects_spec hsel
  cases hcls.symm.trans q1
  cases (State.methodFound?_of_named hnamed hy).symm.trans q2
  cases hnamed.symm.trans q3
  have hselP : selectMethod e.platform s.vm cellB.cls mk = .method mk := by rw [Launch.admits_selectMethod X.admits]; exact q4
  obtain ⟨vm₁, X₁, hstep₁⟩ := X.invokevirtual hexec hown hlink hnamed hmethM hstM hkP hkPi hy (a := b) (cell := cellB) hcell
    (fun z h => by rw [h] at hobj; cases hobj) hselP hmethM habM hkP hkPi (g := g) hg (argsL := argsL) (rest := rest) (hlen _ hsigM) hstack hdg
  rcases hK m meth c ⟨T.setVm vm₁, locs, cells, slots⟩ { g with stack := rest } (.invokevirtual index) mk (Value.ref b :: argsL).toArray X₁ hg hsize hdg hW (X₁.named hnamed) (hpre vm₁ X₁.warmed) with ⟨v, B, X', hpost, hsteps⟩ | ⟨q, B, X', hpost, hsteps⟩
  · exact Or.inl ⟨v, vm₁, B, X₁.warmed, X', hpost, fun target h => hstep₁ _ fun acts => by rw [doInvoke_state]; exact hsteps.trans h⟩
  · exact Or.inr ⟨q, vm₁, B, X₁.warmed, X', hpost, hstep₁ _ fun acts => by rw [doInvoke_state]; exact hsteps⟩
theorem vx_callS (X : Stand p l e R s m args below meth c T locs cells slots) (hexec : p.tables.exec = Jvm.exec) {own : String} {index : Nat} {y : MethodName} {bytes : ByteArray} {maxL : Nat} {ret : Option FieldType}
    (hown : s.vm.findClass own = some m.cls) (hlink : (Cond.methodLink own index y).before args s = true) (hstat : (Cond.static y).before args s = true) (hinit : (Cond.initialized y.cls).before args s = true)
    (hcode : (Cond.code y bytes maxL ret).before args s = true) (hy : y.cls ≠ "java/lang/invoke/MethodHandle" ∧ y.cls ≠ "java/lang/invoke/VarHandle")
    {W9 : Nat} {Pre : Pt → Array Value → Prop} {Post : Pt → Array Value → Option Value → Pt → Prop} {PostX : Pt → Array Value → Addr → Pt → Prop} (hK : vx_Back l R p e below s args y 3 W9 Pre Post PostX)
    {g : JFrame} (hg : g.method = m) (hsize : g.locals.size = c.maxLocals) {argsL rest : List Value} (hlen : ∀ sig, parseMethodDescriptor y.desc = some sig → argsL.length = sig.parameters.length)
    (hstack : g.stack = argsL.reverse ++ rest) (hW : 2 * g.monitorRoom + (rest.map fun v => v.category).sum ≤ W9) (hdg : decode c.code g.pc = .ok (.invokestatic index, 3))
    (hpre : ∀ vm₁, s.WarmedH vm₁ → Pre ⟨T.setVm vm₁, locs, cells, slots⟩ argsL.toArray) :
    (∃ (v : Option Value) (vm₁ : Vm) (B : Pt), s.WarmedH vm₁ ∧ Stand p l e R s m args below meth c B.U B.locs B.cells B.slots ∧ Post ⟨T.setVm vm₁, locs, cells, slots⟩ argsL.toArray v B ∧
      ∀ target, Steps p.tables e below (B.U.setTop { g with pc := g.pc + 3, stack := v.toList ++ rest }) target → Steps p.tables e below (T.setTop g) target) ∨
    (∃ (q : Addr) (vm₁ : Vm) (B : Pt), s.WarmedH vm₁ ∧ Stand p l e R s m args below meth c B.U B.locs B.cells B.slots ∧ PostX ⟨T.setVm vm₁, locs, cells, slots⟩ argsL.toArray q B ∧
      Steps p.tables e below (T.setTop g) ((B.U.setTop { g with stack := rest }).pushFrame (.throwing q))) := by
  obtain ⟨mk, hnamed⟩ := Cond.code_named hcode
  obtain ⟨methM, cM, hmethM, -, -, -, -, -, -, hsigM⟩ := Cond.code_spec hnamed hcode
  have hstatic : methM.isStatic = true := Cond.static_spec hnamed hmethM hstat
  obtain ⟨kP, hkP, -⟩ := className_of_methodNamed hnamed
  have hinitP : kP.init = .initialized := Cond.initialized_spec (findClass_of_methodNamed hnamed) hkP hinit
  obtain ⟨vm₁, X₁, hstep₁⟩ := X.invokestatic hexec hown hlink hnamed hmethM hstatic hkP hinitP hy (g := g) hg (argsL := argsL) (rest := rest) (hlen _ hsigM) hstack hdg
  rcases hK m meth c ⟨T.setVm vm₁, locs, cells, slots⟩ { g with stack := rest } (.invokestatic index) mk argsL.toArray X₁ hg hsize hdg hW (X₁.named hnamed) (hpre vm₁ X₁.warmed) with ⟨v, B, X', hpost, hsteps⟩ | ⟨q, B, X', hpost, hsteps⟩
  · exact Or.inl ⟨v, vm₁, B, X₁.warmed, X', hpost, fun target h => hstep₁ _ fun acts => by rw [doInvoke_state]; exact hsteps.trans h⟩
  · exact Or.inr ⟨q, vm₁, B, X₁.warmed, X', hpost, hstep₁ _ fun acts => by rw [doInvoke_state]; exact hsteps⟩
end Calls
theorem vx_cls {s : State} {T : State} {vm₁ : Vm} {E : String} {k : ClassId} (hW : s.WarmedH vm₁) (h : (T.setVm vm₁).vm.findClass E = some k) : s.vm.findClass E = some k := by
  have h1 : vm₁.findClass E = some k := h
  rw [hW.alike.findClass] at h1
  exact h1
/-- the method's frame g, with q thrown over it -/
def vx_W (p : Program) (l : Launch) (e : Env) (R : Room) (s : State) (m : MethodId) (args : Array Value) (below : List Frame) (meth : Method) (c : Code) (H : Heap) (locs : List Loc) (cells slots : Nat) (Q : State → Prop) (g : JFrame) (q : Addr) : Prop :=
  ∀ T : State, T.heap = H → Stand p l e R s m args below meth c T locs cells slots → ∃ t, Steps p.tables e below ((T.setTop g).pushFrame (.throwing q)) t ∧ Q t
def vx_Run (p : Program) (l : Launch) (e : Env) (R : Room) (s : State) (m : MethodId) (args : Array Value) (below : List Frame) (meth : Method) (c : Code) (H : Heap) (locs : List Loc) (cells slots mc ms : Nat) (g : JFrame) (rest : List Value) (Qa : State → Outcome → State → Prop) (XC : String → State → State → Prop) (free : Addr → Prop) : Prop :=
  ∀ T : State, T.heap = H → Stand p l e R s m args below meth c T locs cells slots →
    (∃ (v : Option Value) (st₀ t T' : State) (L : List Loc), st₀.heap = H ∧ Stand p l e R s m args below meth c T' (locs ++ L) (cells + mc) (slots + ms) ∧ (∀ q ∈ L, free q.base) ∧ T'.heap = t.heap ∧ T'.vm = t.vm ∧ Qa st₀ (.returned v) t ∧
      Goes p e below T g T' { g with pc := g.pc + 3, stack := v.toList ++ rest }) ∨
    (∃ (q : Addr) (st₀ t T' : State) (L : List Loc) (E : String) (ce : Cell), st₀.heap = H ∧ Stand p l e R s m args below meth c T' (locs ++ L) (cells + mc) (slots + ms) ∧ (∀ z ∈ L, free z.base) ∧ T'.heap = t.heap ∧ T'.vm = t.vm ∧ XC E st₀ t ∧ t.heap[q]? = some ce ∧ ce.vm = .none ∧ s.vm.findClass E = some ce.cls ∧
      Steps p.tables e below (T.setTop g) ((T'.setTop { g with stack := rest }).pushFrame (.throwing q)))
def vx_X {S : Type} (px : S → Prop) (B : String → S → State → Prop) (A : Nat → Prop) : String → State → State → Prop := fun E st t => ∃ u : S, px u ∧ B E u t ∧ va_F A st t
section Runs
variable {p : Program} {l : Launch} {e : Env} {R : Room} {s : State} {m : MethodId} {args : Array Value} {below : List Frame} {meth : Method} {c : Code} {H : Heap} {locs : List Loc} {cells slots : Nat}
variable {y : MethodName} {bytes cc : ByteArray} {maxL nL mc ms n index : Nat} {ret : Option FieldType} {ws : List Cond} {rm : Room} {Pc : Array Value → State → Prop} {Qc : Array Value → State → Outcome → State → Prop} {XC : String → State → State → Prop} {free : Addr → Prop} {Ts : List Cond} {own C : String} {b : Addr} {As rest : List Value} {g : JFrame}
theorem vx_callBack (cb : CallB R s args own index y bytes maxL ret ws rm mc ms n) (hM : vx_Met l y ws rm Pc Qc XC mc ms free) (hbl : FrameBlind Pc) : vx_Back l R p e below s args y 3 8 (PreOf R mc ms Pc) (PostOf Qc mc ms free) (vx_Post XC mc ms free) := by
  obtain ⟨hrc, hrs, hfr, hlo, hws, hcw, -, hini, -⟩ := cb
  exact vx_back (bytes := bytes) (maxL := maxL) (ret := ret) hM hbl hrc hrs hfr hlo hws hcw (fun a' U hW => word_at hW (Or.inl (by first | rfl | simp [Cond.onTables, Cond.keeps, Cond.steady])) hini)
theorem vx_runV (S : CallFix p m c cc nL s args Ts own) (hM : vx_Met l y ws rm Pc Qc XC mc ms free) (cw : CallW R s args own C index y bytes maxL ret ws rm mc ms n) (hp : PreV s H C b Pc As)
    (hg : g.method = m) (hn : As.length = n) (hsize : g.locals.size = nL) (hstack : g.stack = As.reverse ++ .ref b :: rest) (hW : 2 * g.monitorRoom + (rest.map fun v => v.category).sum ≤ 8) (hdg : decode cc g.pc = .ok (.invokevirtual index, 3)) (hf : cells + mc ≤ R.cells ∧ slots + ms ≤ R.slots) :
    vx_Run p l e R s m args below meth c H locs cells slots mc ms g rest (Qc (Value.ref b :: As).toArray) XC free := by
  have hK : vx_Back l R p e below s args y 3 8 (PreOf R mc ms Pc) (PostOf Qc mc ms free) (vx_Post XC mc ms free) := vx_callBack cw.1 hM hp.1
  obtain ⟨⟨-, -, -, -, -, -, hcode, -, hy, hlen, hl⟩, hin, hse⟩ := cw
  obtain ⟨hx, hb, hml, ho, -⟩ := S
  obtain ⟨-, ⟨cellB, hcB, hoB, hclB⟩, hPc⟩ := hp
  intro T hT X
  rcases vx_callV X hx (C := C) (bytes := bytes) (maxL := maxL) (ret := ret) ho hl hin hse hcode hy hK (by rw [hT]; exact hcB) hoB hclB hg (hsize.trans hml.symm) (argsL := As) (rest := rest) (fun sig h => hn.trans (hlen sig h)) hstack hW (by rw [hb]; exact hdg)
    (fun vm₁ hW₁ => ⟨hf.1, hf.2, hPc (T.setVm vm₁) hT hW₁⟩) with ⟨v, vm₁, ⟨U', l2, c2, s2⟩, hW₁, X', ⟨g', mk, t, L, e1, e2, hq, h1, hL, h2, h3⟩, st⟩ | ⟨q, vm₁, ⟨U', l2, c2, s2⟩, hW₁, X', ⟨g', mk, t, L, E, ce, e1, e2, hq, hce, hcv, hcl, h1, hL, h2, h3⟩, st⟩
  · dsimp only [Pt.U, Pt.locs, Pt.cells, Pt.slots] at X' e1 e2 h1 h2 h3 st
    subst h1; subst h2; subst h3
    exact Or.inl ⟨v, (T.setVm vm₁).calling g' mk (Value.ref b :: As).toArray, t, U', L, hT, X', hL, e1, e2, hq, st⟩
  · dsimp only [Pt.U, Pt.locs, Pt.cells, Pt.slots] at X' e1 e2 h1 h2 h3 st hcl
    subst h1; subst h2; subst h3
    exact Or.inr ⟨q, (T.setVm vm₁).calling g' mk (Value.ref b :: As).toArray, t, U', L, E, ce, hT, X', hL, e1, e2, hq, hce, hcv, vx_cls hW₁ hcl, st⟩
theorem vx_runS (S : CallFix p m c cc nL s args Ts own) (hM : vx_Met l y ws rm Pc Qc XC mc ms free) (cw : CallB R s args own index y bytes maxL ret ws rm mc ms n ∧ (Cond.static y).before args s = true) (hp : PreS s H Pc As)
    (hg : g.method = m) (hn : As.length = n) (hsize : g.locals.size = nL) (hstack : g.stack = As.reverse ++ rest) (hW : 2 * g.monitorRoom + (rest.map fun v => v.category).sum ≤ 8) (hdg : decode cc g.pc = .ok (.invokestatic index, 3)) (hf : cells + mc ≤ R.cells ∧ slots + ms ≤ R.slots) :
    vx_Run p l e R s m args below meth c H locs cells slots mc ms g rest (Qc As.toArray) XC free := by
  have hK : vx_Back l R p e below s args y 3 8 (PreOf R mc ms Pc) (PostOf Qc mc ms free) (vx_Post XC mc ms free) := vx_callBack cw.1 hM hp.1
  obtain ⟨⟨-, -, -, -, -, -, hcode, hini, hy, hlen, hl⟩, hstt⟩ := cw
  obtain ⟨hx, hb, hml, ho, -⟩ := S
  intro T hT X
  rcases vx_callS X hx (bytes := bytes) (maxL := maxL) (ret := ret) ho hl hstt hini hcode hy hK hg (hsize.trans hml.symm) (argsL := As) (rest := rest) (fun sig h => hn.trans (hlen sig h)) hstack hW (by rw [hb]; exact hdg)
    (fun vm₁ hW₁ => ⟨hf.1, hf.2, hp.2 (T.setVm vm₁) hT hW₁⟩) with ⟨v, vm₁, ⟨U', l2, c2, s2⟩, hW₁, X', ⟨g', mk, t, L, e1, e2, hq, h1, hL, h2, h3⟩, st⟩ | ⟨q, vm₁, ⟨U', l2, c2, s2⟩, hW₁, X', ⟨g', mk, t, L, E, ce, e1, e2, hq, hce, hcv, hcl, h1, hL, h2, h3⟩, st⟩
  · dsimp only [Pt.U, Pt.locs, Pt.cells, Pt.slots] at X' e1 e2 h1 h2 h3 st
    subst h1; subst h2; subst h3
    exact Or.inl ⟨v, (T.setVm vm₁).calling g' mk As.toArray, t, U', L, hT, X', hL, e1, e2, hq, st⟩
  · dsimp only [Pt.U, Pt.locs, Pt.cells, Pt.slots] at X' e1 e2 h1 h2 h3 st hcl
    subst h1; subst h2; subst h3
    exact Or.inr ⟨q, (T.setVm vm₁).calling g' mk As.toArray, t, U', L, E, ce, hT, X', hL, e1, e2, hq, hce, hcv, vx_cls hW₁ hcl, st⟩
end Runs
section Rows
variable {p : Program} {l : Launch} {e : Env} {R : Room} {s : State} {m : MethodId} {args : Array Value} {below : List Frame} {meth : Method} {c : Code} {H : Heap} {locs : List Loc} {cells slots : Nat} {Q : State → Prop}
variable {mc ms : Nat} {free : Addr → Prop} {A0 A1 : Nat → Prop} {H0 : Heap} {a : Array Value} {pc : Nat} {ls : Array Slot} {st0 rest : List Value}
theorem vx_keep {st₀ t T' : State} {L : List Loc} (h0 : st₀.heap = H) (e1 : T'.heap = t.heap) (hS : va_S A0 H0 H locs) (hA : ∀ q, q < H.size → A1 q → A0 q) (hf : ∀ q, free q → A0 q) (hL : ∀ q ∈ L, free q.base) (hF : va_F A1 st₀ t) :
    H.size ≤ T'.heap.size ∧ (∀ q : Nat, q < H.size → ¬ A1 q → T'.heap[q]? = H[q]?) ∧ va_S A0 H0 T'.heap (locs ++ L) := by
  obtain ⟨hz, hk⟩ := hF
  rw [h0] at hz hk
  exact ⟨by rw [e1]; exact hz, fun q h1 h2 => by rw [e1]; exact hk q h1 h2,
    ⟨Nat.le_trans hS.1 (by rw [e1]; exact hz), fun q h1 h2 => by rw [e1, hk q (Nat.lt_of_lt_of_le h1 hS.1) (fun z => h2 (hA q (Nat.lt_of_lt_of_le h1 hS.1) z))]; exact hS.2.1 q h1 h2, fun q hq => by
      rcases List.mem_append.mp hq with h | h
      · exact hS.2.2 q h
      · exact hf _ (hL q h)⟩⟩
theorem vx_calli {S SX : Type} {post : Int32 → S → Prop} {px : SX → Prop} {B : S → State → Prop} {BX : String → SX → State → Prop} {AX : Nat → Prop} (hr : vx_Run p l e R s m args below meth c H locs cells slots mc ms (F0 m pc ls st0) rest (va_Qi post B A1 a) (vx_X px BX AX) free) (hS : va_S A0 H0 H locs) (hA : ∀ q, q < H.size → A1 q → A0 q) (hf : ∀ q, free q → A0 q) (hAX : ∀ q, q < H.size → AX q → A0 q)
    (kx : ∀ (E : String) (ce : Cell) (q9 : Addr) (u : SX) (t : State) (H1 : Heap) (locs1 : List Loc), t.heap = H1 → s.vm.Alike t.vm → px u → BX E u t → H.size ≤ H1.size → (∀ q : Nat, q < H.size → ¬ AX q → H1[q]? = H[q]?) → va_S A0 H0 H1 locs1 → H1[q9]? = some ce → ce.vm = .none → s.vm.findClass E = some ce.cls → vx_W p l e R s m args below meth c H1 locs1 (cells + mc) (slots + ms) Q (F0 m pc ls rest) q9)
    (kk : ∀ (r : Int32) (u : S) (t : State) (H1 : Heap) (locs1 : List Loc), t.heap = H1 → s.vm.Alike t.vm → post r u → B u t → H.size ≤ H1.size → (∀ q : Nat, q < H.size → ¬ A1 q → H1[q]? = H[q]?) → va_S A0 H0 H1 locs1 → W p l e R s m args below meth c H1 locs1 (cells + mc) (slots + ms) Q (F0 m (pc + 3) ls (.int r :: rest))) : W p l e R s m args below meth c H locs cells slots Q (F0 m pc ls st0) := by
  intro T hT X
  rcases hr T hT X with ⟨v, st₀, t, T', L, h0, X', hL, e1, e2, ⟨⟨r, u, hv, hp, hb⟩, hF⟩, st⟩ | ⟨q, st₀, t, T', L, E, ce, h0, X', hL, e1, e2, ⟨u, hp, hb, hF⟩, hce, hcv, hcl, st⟩
  · cases hv
    obtain ⟨k1, k2, k3⟩ := vx_keep h0 e1 hS hA hf hL hF
    obtain ⟨t2, a1, b1⟩ := kk r u t T'.heap (locs ++ L) e1.symm (by rw [← e2]; exact X'.warmed.alike) hp hb k1 k2 k3 T' rfl X'
    exact ⟨t2, st t2 a1, b1⟩
  · obtain ⟨k1, k2, k3⟩ := vx_keep h0 e1 hS hAX hf hL hF
    obtain ⟨t2, a1, b1⟩ := kx E ce q u t T'.heap (locs ++ L) e1.symm (by rw [← e2]; exact X'.warmed.alike) hp hb k1 k2 k3 (by rw [e1]; exact hce) hcv hcl T' rfl X'
    exact ⟨t2, st.trans a1, b1⟩
theorem vx_calll {S SX : Type} {post : Int64 → S → Prop} {px : SX → Prop} {B : S → State → Prop} {BX : String → SX → State → Prop} {AX : Nat → Prop} (hr : vx_Run p l e R s m args below meth c H locs cells slots mc ms (F0 m pc ls st0) rest (va_Ql post B A1 a) (vx_X px BX AX) free) (hS : va_S A0 H0 H locs) (hA : ∀ q, q < H.size → A1 q → A0 q) (hf : ∀ q, free q → A0 q) (hAX : ∀ q, q < H.size → AX q → A0 q)
    (kx : ∀ (E : String) (ce : Cell) (q9 : Addr) (u : SX) (t : State) (H1 : Heap) (locs1 : List Loc), t.heap = H1 → s.vm.Alike t.vm → px u → BX E u t → H.size ≤ H1.size → (∀ q : Nat, q < H.size → ¬ AX q → H1[q]? = H[q]?) → va_S A0 H0 H1 locs1 → H1[q9]? = some ce → ce.vm = .none → s.vm.findClass E = some ce.cls → vx_W p l e R s m args below meth c H1 locs1 (cells + mc) (slots + ms) Q (F0 m pc ls rest) q9)
    (kk : ∀ (r : Int64) (u : S) (t : State) (H1 : Heap) (locs1 : List Loc), t.heap = H1 → s.vm.Alike t.vm → post r u → B u t → H.size ≤ H1.size → (∀ q : Nat, q < H.size → ¬ A1 q → H1[q]? = H[q]?) → va_S A0 H0 H1 locs1 → W p l e R s m args below meth c H1 locs1 (cells + mc) (slots + ms) Q (F0 m (pc + 3) ls (.long r :: rest))) : W p l e R s m args below meth c H locs cells slots Q (F0 m pc ls st0) := by
  intro T hT X
  rcases hr T hT X with ⟨v, st₀, t, T', L, h0, X', hL, e1, e2, ⟨⟨r, u, hv, hp, hb⟩, hF⟩, st⟩ | ⟨q, st₀, t, T', L, E, ce, h0, X', hL, e1, e2, ⟨u, hp, hb, hF⟩, hce, hcv, hcl, st⟩
  · cases hv
    obtain ⟨k1, k2, k3⟩ := vx_keep h0 e1 hS hA hf hL hF
    obtain ⟨t2, a1, b1⟩ := kk r u t T'.heap (locs ++ L) e1.symm (by rw [← e2]; exact X'.warmed.alike) hp hb k1 k2 k3 T' rfl X'
    exact ⟨t2, st t2 a1, b1⟩
  · obtain ⟨k1, k2, k3⟩ := vx_keep h0 e1 hS hAX hf hL hF
    obtain ⟨t2, a1, b1⟩ := kx E ce q u t T'.heap (locs ++ L) e1.symm (by rw [← e2]; exact X'.warmed.alike) hp hb k1 k2 k3 (by rw [e1]; exact hce) hcv hcl T' rfl X'
    exact ⟨t2, st.trans a1, b1⟩
theorem vx_callf {S SX : Type} {post : UInt32 → S → Prop} {px : SX → Prop} {B : S → State → Prop} {BX : String → SX → State → Prop} {AX : Nat → Prop} (hr : vx_Run p l e R s m args below meth c H locs cells slots mc ms (F0 m pc ls st0) rest (va_Qf post B A1 a) (vx_X px BX AX) free) (hS : va_S A0 H0 H locs) (hA : ∀ q, q < H.size → A1 q → A0 q) (hf : ∀ q, free q → A0 q) (hAX : ∀ q, q < H.size → AX q → A0 q)
    (kx : ∀ (E : String) (ce : Cell) (q9 : Addr) (u : SX) (t : State) (H1 : Heap) (locs1 : List Loc), t.heap = H1 → s.vm.Alike t.vm → px u → BX E u t → H.size ≤ H1.size → (∀ q : Nat, q < H.size → ¬ AX q → H1[q]? = H[q]?) → va_S A0 H0 H1 locs1 → H1[q9]? = some ce → ce.vm = .none → s.vm.findClass E = some ce.cls → vx_W p l e R s m args below meth c H1 locs1 (cells + mc) (slots + ms) Q (F0 m pc ls rest) q9)
    (kk : ∀ (r : UInt32) (u : S) (t : State) (H1 : Heap) (locs1 : List Loc), t.heap = H1 → s.vm.Alike t.vm → post r u → B u t → H.size ≤ H1.size → (∀ q : Nat, q < H.size → ¬ A1 q → H1[q]? = H[q]?) → va_S A0 H0 H1 locs1 → W p l e R s m args below meth c H1 locs1 (cells + mc) (slots + ms) Q (F0 m (pc + 3) ls (.float r :: rest))) : W p l e R s m args below meth c H locs cells slots Q (F0 m pc ls st0) := by
  intro T hT X
  rcases hr T hT X with ⟨v, st₀, t, T', L, h0, X', hL, e1, e2, ⟨⟨r, u, hv, hp, hb⟩, hF⟩, st⟩ | ⟨q, st₀, t, T', L, E, ce, h0, X', hL, e1, e2, ⟨u, hp, hb, hF⟩, hce, hcv, hcl, st⟩
  · cases hv
    obtain ⟨k1, k2, k3⟩ := vx_keep h0 e1 hS hA hf hL hF
    obtain ⟨t2, a1, b1⟩ := kk r u t T'.heap (locs ++ L) e1.symm (by rw [← e2]; exact X'.warmed.alike) hp hb k1 k2 k3 T' rfl X'
    exact ⟨t2, st t2 a1, b1⟩
  · obtain ⟨k1, k2, k3⟩ := vx_keep h0 e1 hS hAX hf hL hF
    obtain ⟨t2, a1, b1⟩ := kx E ce q u t T'.heap (locs ++ L) e1.symm (by rw [← e2]; exact X'.warmed.alike) hp hb k1 k2 k3 (by rw [e1]; exact hce) hcv hcl T' rfl X'
    exact ⟨t2, st.trans a1, b1⟩
theorem vx_calld {S SX : Type} {post : UInt64 → S → Prop} {px : SX → Prop} {B : S → State → Prop} {BX : String → SX → State → Prop} {AX : Nat → Prop} (hr : vx_Run p l e R s m args below meth c H locs cells slots mc ms (F0 m pc ls st0) rest (va_Qd post B A1 a) (vx_X px BX AX) free) (hS : va_S A0 H0 H locs) (hA : ∀ q, q < H.size → A1 q → A0 q) (hf : ∀ q, free q → A0 q) (hAX : ∀ q, q < H.size → AX q → A0 q)
    (kx : ∀ (E : String) (ce : Cell) (q9 : Addr) (u : SX) (t : State) (H1 : Heap) (locs1 : List Loc), t.heap = H1 → s.vm.Alike t.vm → px u → BX E u t → H.size ≤ H1.size → (∀ q : Nat, q < H.size → ¬ AX q → H1[q]? = H[q]?) → va_S A0 H0 H1 locs1 → H1[q9]? = some ce → ce.vm = .none → s.vm.findClass E = some ce.cls → vx_W p l e R s m args below meth c H1 locs1 (cells + mc) (slots + ms) Q (F0 m pc ls rest) q9)
    (kk : ∀ (r : UInt64) (u : S) (t : State) (H1 : Heap) (locs1 : List Loc), t.heap = H1 → s.vm.Alike t.vm → post r u → B u t → H.size ≤ H1.size → (∀ q : Nat, q < H.size → ¬ A1 q → H1[q]? = H[q]?) → va_S A0 H0 H1 locs1 → W p l e R s m args below meth c H1 locs1 (cells + mc) (slots + ms) Q (F0 m (pc + 3) ls (.double r :: rest))) : W p l e R s m args below meth c H locs cells slots Q (F0 m pc ls st0) := by
  intro T hT X
  rcases hr T hT X with ⟨v, st₀, t, T', L, h0, X', hL, e1, e2, ⟨⟨r, u, hv, hp, hb⟩, hF⟩, st⟩ | ⟨q, st₀, t, T', L, E, ce, h0, X', hL, e1, e2, ⟨u, hp, hb, hF⟩, hce, hcv, hcl, st⟩
  · cases hv
    obtain ⟨k1, k2, k3⟩ := vx_keep h0 e1 hS hA hf hL hF
    obtain ⟨t2, a1, b1⟩ := kk r u t T'.heap (locs ++ L) e1.symm (by rw [← e2]; exact X'.warmed.alike) hp hb k1 k2 k3 T' rfl X'
    exact ⟨t2, st t2 a1, b1⟩
  · obtain ⟨k1, k2, k3⟩ := vx_keep h0 e1 hS hAX hf hL hF
    obtain ⟨t2, a1, b1⟩ := kx E ce q u t T'.heap (locs ++ L) e1.symm (by rw [← e2]; exact X'.warmed.alike) hp hb k1 k2 k3 (by rw [e1]; exact hce) hcv hcl T' rfl X'
    exact ⟨t2, st.trans a1, b1⟩
theorem vx_callv {S SX : Type} {post : S → Prop} {px : SX → Prop} {B : S → State → Prop} {BX : String → SX → State → Prop} {AX : Nat → Prop} (hr : vx_Run p l e R s m args below meth c H locs cells slots mc ms (F0 m pc ls st0) rest (va_Qv post B A1 a) (vx_X px BX AX) free) (hS : va_S A0 H0 H locs) (hA : ∀ q, q < H.size → A1 q → A0 q) (hf : ∀ q, free q → A0 q) (hAX : ∀ q, q < H.size → AX q → A0 q)
    (kx : ∀ (E : String) (ce : Cell) (q9 : Addr) (u : SX) (t : State) (H1 : Heap) (locs1 : List Loc), t.heap = H1 → s.vm.Alike t.vm → px u → BX E u t → H.size ≤ H1.size → (∀ q : Nat, q < H.size → ¬ AX q → H1[q]? = H[q]?) → va_S A0 H0 H1 locs1 → H1[q9]? = some ce → ce.vm = .none → s.vm.findClass E = some ce.cls → vx_W p l e R s m args below meth c H1 locs1 (cells + mc) (slots + ms) Q (F0 m pc ls rest) q9)
    (kk : ∀ (u : S) (t : State) (H1 : Heap) (locs1 : List Loc), t.heap = H1 → s.vm.Alike t.vm → post u → B u t → H.size ≤ H1.size → (∀ q : Nat, q < H.size → ¬ A1 q → H1[q]? = H[q]?) → va_S A0 H0 H1 locs1 → W p l e R s m args below meth c H1 locs1 (cells + mc) (slots + ms) Q (F0 m (pc + 3) ls (rest))) : W p l e R s m args below meth c H locs cells slots Q (F0 m pc ls st0) := by
  intro T hT X
  rcases hr T hT X with ⟨v, st₀, t, T', L, h0, X', hL, e1, e2, ⟨⟨u, hv, hp, hb⟩, hF⟩, st⟩ | ⟨q, st₀, t, T', L, E, ce, h0, X', hL, e1, e2, ⟨u, hp, hb, hF⟩, hce, hcv, hcl, st⟩
  · cases hv
    obtain ⟨k1, k2, k3⟩ := vx_keep h0 e1 hS hA hf hL hF
    obtain ⟨t2, a1, b1⟩ := kk u t T'.heap (locs ++ L) e1.symm (by rw [← e2]; exact X'.warmed.alike) hp hb k1 k2 k3 T' rfl X'
    exact ⟨t2, st t2 a1, b1⟩
  · obtain ⟨k1, k2, k3⟩ := vx_keep h0 e1 hS hAX hf hL hF
    obtain ⟨t2, a1, b1⟩ := kx E ce q u t T'.heap (locs ++ L) e1.symm (by rw [← e2]; exact X'.warmed.alike) hp hb k1 k2 k3 (by rw [e1]; exact hce) hcv hcl T' rfl X'
    exact ⟨t2, st.trans a1, b1⟩
/-- caught by the row x of this method's table; the rows ahead don't take it -/
theorem vx_catch {own name : String} {E : String} {ce : Cell} {q : Addr} (hown : s.vm.findClass own = some m.cls) (pre : List ExceptionTableEntry) (x : ExceptionTableEntry) (suf : List ExceptionTableEntry) (hsplit : c.exceptionTable.toList = pre ++ x :: suf)
    (hpass : ∀ z ∈ pre, covers z pc = false ∨ (z.catchType ≠ 0 ∧ ∃ nm : String, (Cond.classLink own z.catchType nm).before args s = true ∧ va_Nc E nm s)) (hx : covers x pc = true) (h0 : x.catchType ≠ 0)
    (hlink : (Cond.classLink own x.catchType name).before args s = true) (hcast : (Cond.castable E name).before args s = true) (hcell : H[q]? = some ce) (hv : ce.vm = .none) (hcl : s.vm.findClass E = some ce.cls)
    (kk : W p l e R s m args below meth c H locs cells slots Q (F0 m x.handlerPc ls [.ref q])) : vx_W p l e R s m args below meth c H locs cells slots Q (F0 m pc ls rest) q := by
  intro T hT X
  have hpl : e.platform.magicAccessors = ({} : Platform).magicAccessors := by rw [X.admits.platform]
  obtain ⟨c3, c4, hc3, hc4, hasg⟩ := Cond.castable_spec hcast
  cases Option.some.inj (hc3.symm.trans hcl)
  obtain ⟨c5, hc5, hcl5⟩ := Cond.classLink_spec hown hlink e.platform hpl
  cases Option.some.inj (hc4.symm.trans hc5)
  obtain ⟨vm', X', st⟩ := X.thenCaughtThrough q (g := F0 m pc ls rest) rfl (Steps.refl _) (by rw [hT]; exact hcell) (by rw [hv]; rfl) (by obtain ⟨k9, h9, -⟩ := Vm.findClass_spec hcl; exact ⟨k9, h9⟩) pre x suf hsplit
    (fun z hz => by
      rcases hpass z hz with h | ⟨hz0, nm, hl1, hn1⟩
      · exact Or.inl h
      · obtain ⟨c6, hc6, hcl6⟩ := Cond.classLink_spec hown hl1 e.platform hpl
        obtain ⟨a8, b8, h1, h2, h3⟩ := hn1
        cases Option.some.inj (h1.symm.trans hcl)
        cases Option.some.inj (h2.symm.trans hc6)
        exact Or.inr ⟨hz0, _, hcl6, h3⟩) hx (Or.inr ⟨h0, c4, hcl5, hasg⟩)
  obtain ⟨t, a1, b1⟩ := kk (T.setVm vm') hT X'
  exact ⟨t, st.trans a1, b1⟩
end Rows
section Ends
variable {p : Program} {l : Launch} {e : Env} {R : Room} {s : State} {m : MethodId} {args : Array Value} {below : List Frame} {meth : Method} {c : Code} {H : Heap} {locs : List Loc} {cells slots : Nat} {Q : State → Prop}
variable {mc ms : Nat} {free : Addr → Prop} {A0 A1 : Nat → Prop} {H0 : Heap} {a : Array Value} {ls : Array Slot} {st0 rest : List Value}
variable {Qc : Array Value → State → Outcome → State → Prop} {XC : String → State → State → Prop}
/-- what a body that may throw owes at its end -/
def vx_MQ (below : List Frame) (Qc : Array Value → State → Outcome → State → Prop) (XC : String → State → State → Prop) (a : Array Value) (s : State) (mc ms : Nat) (free : Addr → Prop) : State → Prop := fun t =>
  ∃ o, t.status = .running ∧ Ended t below o ∧ vx_Q Qc XC mc ms free a s o t
theorem vx_ret {g : JFrame} {mc ms : Nat} (k : W p l e R s m args below meth c H locs cells slots (MQ below Qc args s mc ms free) g) : W p l e R s m args below meth c H locs cells slots (vx_MQ below Qc XC args s mc ms free) g := by
  intro T hT X
  obtain ⟨t, a1, o, b1, b2, b3, b4⟩ := k T hT X
  exact ⟨t, a1, o, b1, b2, Or.inl ⟨b3, b4⟩⟩
/-- not caught here: it goes on to the caller -/
theorem vx_widen {g : JFrame} {q : Addr} {k n : Nat} (h1 : cells ≤ k) (h2 : slots ≤ n) (kk : vx_W p l e R s m args below meth c H locs k n Q g q) : vx_W p l e R s m args below meth c H locs cells slots Q g q := fun T hT X => kk T hT (stand_widen X h1 h2)
theorem vx_out {pc : Nat} {E : String} {ce : Cell} {q : Addr} {mc ms : Nat} (hout : ∀ x ∈ c.exceptionTable.toList, covers x pc = false) (hlocks : meth.locks = false) (hcell : H[q]? = some ce) (hv : ce.vm = .none) (hcl : s.vm.findClass E = some ce.cls)
    (hx : ∀ t : State, t.heap = H → s.vm.Alike t.vm → XC E s t) (hf : ∀ z ∈ locs, free z.base) (hc : cells ≤ mc) (hs : slots ≤ ms) :
    vx_W p l e R s m args below meth c H locs cells slots (vx_MQ below Qc XC args s mc ms free) (F0 m pc ls rest) q := by
  intro T hT X
  obtain ⟨st1, hrun, hend, hW, hsm⟩ := X.leaveThrown q (g := F0 m pc ls rest) rfl rfl rfl hout hlocks
  have hcell9 : (T.setFrames (.throwing q :: below)).heap[q]? = some ce := by
    show T.heap[q]? = some ce
    rw [hT]; exact hcell
  exact ⟨_, st1, .threw q, hrun, hend, Or.inr ⟨q, rfl, E, ce, locs, hx _ hT hW.alike, hcell9, hv, hcl, hW, hsm.mono hc hs, hf⟩⟩
theorem vx_frame {U : State} {k n : Nat} (h : s.sameButNew ({ U with vm := s.vm } : State) locs k n) : s.heap.size ≤ U.heap.size ∧ ∀ q : Nat, q < s.heap.size → (∀ z ∈ locs, z.base ≠ q) → U.heap[q]? = s.heap[q]? := by
  obtain ⟨-, h2, -, -, -, h6⟩ := h
  refine ⟨h2, fun q hq hz => ?_⟩
  obtain ⟨c9, e1, e2, e3, e4⟩ := h6 q _ (Array.getElem?_eq_getElem hq)
  have hs : c9.slots = (s.heap[q]).slots := Array.ext_getElem? fun i => e4 i fun hm => hz _ hm rfl
  have h9 : c9 = s.heap[q] := by
    rw [hs] at e2
    exact e2
  have e5 : U.heap[q]? = some c9 := e1
  rw [e5, h9, Array.getElem?_eq_getElem hq]
/-- the words of a throw but the four that speak of the heap -/
def vx_no (w : Cond) : Bool := decide (w ≠ .isRef (.static Bundle.tN "UNASSIGNED_STACK" Bundle.steD)) && decide (w ≠ .isRef (.static Bundle.tN "SUPPRESSED_SENTINEL" Bundle.listD)) && decide (w ≠ .laysStatic Bundle.tN "UNASSIGNED_STACK" Bundle.steD) && decide (w ≠ .laysStatic Bundle.tN "SUPPRESSED_SENTINEL" Bundle.listD)
def vx_at0 (own : String) (ic : Nat) (X : String) (names : List String) : List Cond := (Bundle.ownAtoms0 own ic X names).filter vx_no
def vx_atS (own : String) (ic : Nat) (X : String) (names : List String) : List Cond := (Bundle.ownAtoms own ic X names).filter vx_no
/-- a word that the tables alone decide, or a good one -/
def vx_ot (w : Cond) : Bool := w.onTables || goodWord w
theorem vx_ot_at {args a' : Array Value} {s U : State} {w : Cond} (hW : s.WarmedH U.vm) (hvm : s.vm = U.vm) (hg : vx_ot w = true) (h : w.before args s = true) : w.before a' U = true := by
  simp only [vx_ot, Bool.or_eq_true] at hg
  rcases hg with hg | hg
  · exact va_tabs hg hvm h
  · exact word_at hW (good_of_word hg) h
/-- a list's words: the good ones out of the method's own list, the others by premises of their own -/
theorem vx_hat {args : Array Value} {s : State} {L B : List Cond} (h1 : ∀ w ∈ L.filter goodWord, w.before args s = true) (h2 : ∀ w ∈ L.filter (fun w => !goodWord w), w ∈ B) (h3 : ∀ w ∈ B, w.before args s = true) : ∀ w ∈ L, w.before args s = true := by
  intro w hw
  by_cases g : goodWord w = true
  · exact h1 w (List.mem_filter.mpr ⟨hw, g⟩)
  · refine h3 w (h2 w (List.mem_filter.mpr ⟨hw, ?_⟩))
    show (!goodWord w) = true
    cases hgw : goodWord w
    · rfl
    · exact absurd hgw g
theorem vx_c {args : Array Value} {s : State} {w : Cond} {B : List Cond} (h : w.before args s = true) (t : ∀ w ∈ B, w.before args s = true) : ∀ w' ∈ w :: B, w'.before args s = true := fun w' h' => (List.mem_cons.mp h').elim (fun e => by rw [e]; exact h) (t w')
theorem vx_n {args : Array Value} {s : State} : ∀ w ∈ ([] : List Cond), w.before args s = true := fun _ h => nomatch h
theorem vx_own {args : Array Value} {s : State} {L : List Cond} (h1 : ∀ w ∈ L.filter vx_no, w.before args s = true)
    (hU : (Cond.isRef (.static Bundle.tN "UNASSIGNED_STACK" Bundle.steD)).before args s = true) (hN : (Cond.isRef (.static Bundle.tN "SUPPRESSED_SENTINEL" Bundle.listD)).before args s = true)
    (lU : (Cond.laysStatic Bundle.tN "UNASSIGNED_STACK" Bundle.steD).before args s = true) (lN : (Cond.laysStatic Bundle.tN "SUPPRESSED_SENTINEL" Bundle.listD).before args s = true) : ∀ w ∈ L, w.before args s = true := by
  intro w hw
  by_cases e1 : w = .isRef (.static Bundle.tN "UNASSIGNED_STACK" Bundle.steD)
  · rw [e1]; exact hU
  · by_cases e2 : w = .isRef (.static Bundle.tN "SUPPRESSED_SENTINEL" Bundle.listD)
    · rw [e2]; exact hN
    · by_cases e3 : w = .laysStatic Bundle.tN "UNASSIGNED_STACK" Bundle.steD
      · rw [e3]; exact lU
      · by_cases e4 : w = .laysStatic Bundle.tN "SUPPRESSED_SENTINEL" Bundle.listD
        · rw [e4]; exact lN
        · exact h1 w (List.mem_filter.mpr ⟨hw, by unfold vx_no; rw [decide_eq_true e1, decide_eq_true e2, decide_eq_true e3, decide_eq_true e4]; rfl⟩)
/-- where a static field lies, its class's statics cell in H -/
def vx_L (C n d : String) (A : Nat → Prop) (U : State) (H : Heap) : Prop := ∃ (c : ClassId) (k : Class) (i : Nat) (f : Field) (a : Nat) (cell : Cell), U.vm.findClass C = some c ∧ U.fieldFound? C n d = some (c, k, i, f) ∧ f.isStatic = true ∧ k.statics = some a ∧ H[a]? = some cell ∧ cell.vm.isStatics = true ∧ cell.cls = c ∧ f.slot < cell.slots.size ∧ k.staticTypes[f.slot]? = some f.type ∧ ¬ A a
theorem vx_L.moved {C n d : String} {A : Nat → Prop} {u U : State} {H : Heap} (hvm : u.vm.Alike U.vm) (h : vx_L C n d A u H) : vx_L C n d A U H := by
  obtain ⟨c, k, i, f, a, cell, h1, h2, h3, h4, h5, h6, h7, h8, h9, h10⟩ := h
  obtain ⟨k', hi', he⟩ := State.fieldFound?_setVm hvm h2
  exact ⟨c, k', i, f, a, cell, by rw [hvm.findClass]; exact h1, hi', h3, by rw [he]; exact h4, h5, h6, h7, h8, by rw [he]; exact h9, h10⟩
theorem vx_L.kept {C n d : String} {A : Nat → Prop} {U : State} {H H1 : Heap} (h : vx_L C n d A U H) (hq : ∀ a : Nat, a < H.size → ¬ A a → H1[a]? = H[a]?) : vx_L C n d A U H1 := by
  obtain ⟨c, k, i, f, a, cell, h1, h2, h3, h4, h5, h6, h7, h8, h9, h10⟩ := h
  exact ⟨c, k, i, f, a, cell, h1, h2, h3, h4, by rw [hq a (Array.getElem?_eq_some_iff.mp h5).1 h10]; exact h5, h6, h7, h8, h9, h10⟩
theorem vx_L.narrow {C n d : String} {A B : Nat → Prop} {U : State} {H : Heap} (h : vx_L C n d A U H) (hAB : ∀ q, B q → A q) : vx_L C n d B U H := by
  obtain ⟨c, k, i, f, a, cell, h1, h2, h3, h4, h5, h6, h7, h8, h9, h10⟩ := h
  exact ⟨c, k, i, f, a, cell, h1, h2, h3, h4, h5, h6, h7, h8, h9, fun z => h10 (hAB _ z)⟩
theorem vx_L.word {C n d : String} {A : Nat → Prop} {s : State} {args : Array Value} (h : vx_L C n d A s s.heap) : (Cond.laysStatic C n d).before args s = true := by
  obtain ⟨c, k, i, f, a, cell, h1, h2, h3, h4, h5, h6, h7, h8, h9, -⟩ := h
  show (Cond.laysStatic C n d).holds args s none s [] = true
  exact Cond.laysStatic_of h1 h2 h3 h4 h5 h6 h7 h8 h9
/-- .. and what it holds: null or some reference -/
def vx_Zq (C n d : String) (A : Nat → Prop) (U : State) (H : Heap) : Prop := va_Zq C n d A U H ∧ vx_L C n d A U H
theorem vx_Zq.moved {C n d : String} {A : Nat → Prop} {u U : State} {H : Heap} (hvm : u.vm.Alike U.vm) (h : vx_Zq C n d A u H) : vx_Zq C n d A U H := ⟨va_Zq.moved hvm h.1, vx_L.moved hvm h.2⟩
theorem vx_Zq.kept {C n d : String} {A : Nat → Prop} {U : State} {H H1 : Heap} (h : vx_Zq C n d A U H) (hq : ∀ a : Nat, a < H.size → ¬ A a → H1[a]? = H[a]?) : vx_Zq C n d A U H1 := ⟨va_Zq.kept h.1 hq, vx_L.kept h.2 hq⟩
theorem vx_Zq.narrow {C n d : String} {A B : Nat → Prop} {U : State} {H : Heap} (h : vx_Zq C n d A U H) (hAB : ∀ q, B q → A q) : vx_Zq C n d B U H := ⟨va_Zq.narrow h.1 hAB, vx_L.narrow h.2 hAB⟩
theorem vx_Zqof {args : Array Value} {s : State} {C n d : String} {A : Nat → Prop} (hl : (Cond.laysStatic C n d).before args s = true) (hini : (Cond.initialized C).before args s = true) (h : (Cond.isRef (.static C n d)).before args s = true) (hA : ∀ a : Nat, a < s.heap.size → ¬ A a) : vx_Zq C n d A s s.heap := by
  refine ⟨va_Zqof hl hini h hA, ?_⟩
  obtain ⟨c, k, i, f, a, cell, h1, h2, h3, h4, h5, h6, h7, h8, h9⟩ := Cond.laysStatic_spec hl
  exact ⟨c, k, i, f, a, cell, h1, h2, h3, h4, h5, h6, h7, h8, h9, hA a (Array.getElem?_eq_some_iff.mp h5).1⟩
theorem vx_isRef {C n d : String} {v : Value} {A : Nat → Prop} {s : State} {args : Array Value} (h : va_Z C n d v A s s.heap) (hv : v.isRef = true) : (Cond.isRef (.static C n d)).before args s = true := by
  obtain ⟨cf, kf, fi, f, a, cell, h1, h2, h3, h4, h5, h6, h7, -⟩ := h
  have he : (Term.static C n d).eval args s none [] s = some v := by
    simp [Term.eval, State.fieldNamed?, h1, h2, h4, h5, h6, h7]
  simp only [Cond.before, Cond.holds, Cond.value, he]
  cases v <;> simp_all [Value.isRef]
theorem vx_isRefq {C n d : String} {A : Nat → Prop} {s : State} {args : Array Value} (h : va_Zq C n d A s s.heap) : (Cond.isRef (.static C n d)).before args s = true := by
  rcases h with h | ⟨t, h⟩
  · exact vx_isRef h rfl
  · exact vx_isRef h rfl
/-- the same frame, seen from here: as if the method were called anew in this heap -/
theorem vx_rebase {T : State} (X : Stand p l e R s m args below meth c T locs cells slots) {R' : Room} (hf : R'.frames ≤ R.frames) (hl : R'.locals ≤ R.locals) (hc : cells + R'.cells ≤ R.cells) (hs : slots + R'.slots ≤ R.slots) :
    Stand p l e R' ((T.setVm s.vm).setFrames (.invoking m args :: below)) m args below meth c T [] 0 0 := by
  have htop : (T.setVm s.vm).topJava?.isSome := X.here.top
  have hF : ((T.setVm s.vm).setFrames (.invoking m args :: below)).frames = .invoking m args :: below := State.frames_setFrames _ (State.cur_lt_of_top htop)
  obtain ⟨g₀, hg0⟩ := Option.isSome_iff_exists.mp htop
  obtain ⟨r, hr⟩ := State.topJava?_eq_some.mp hg0
  have hl9 : e.platform.stackLimits (T.setVm s.vm).me = e.platform.stackLimits s.me := X.limits
  have hb9 : (T.setVm s.vm).me.stackBytes = s.me.stackBytes := X.bytes
  refine ⟨X.admits, X.cas, X.clock, hF, ?_, X.hears, X.method, X.code, X.here, X.tail, X.warmed, ?_, ?_, ?_⟩
  · have h := X.room
    have hU : ((T.setVm s.vm).setFrames (.invoking m args :: below)).localsInUse = s.localsInUse := by
      rw [State.localsInUse_invoking hF (meth := meth) (c := c) X.method X.code, State.localsInUse_invoking X.frames X.method X.code]
    simp only [State.hasRoom, Bool.and_eq_true, decide_eq_true_eq] at h ⊢
    obtain ⟨⟨⟨⟨h1, h2, h3, h4, h5, h6⟩, h7⟩, h8⟩, h9⟩ := h
    rw [X.frames, List.length_cons] at h2 h3
    have q1 := X.heapSize
    have q2 := X.used
    simp only [hF, hU, List.length_cons, State.stackLimits_setFrames, State.stackBytes_setFrames, hl9, hb9]
    refine ⟨⟨⟨⟨by omega, by omega, by omega, by omega, by omega, h6⟩, ?_⟩, ?_⟩, X.book⟩
    · show T.heap.size + R'.cells ≤ e.platform.maxCells
      omega
    · show T.slotsUsed + R'.slots ≤ e.platform.maxSlots
      omega
  · rw [State.stackLimits_setFrames]; rfl
  · rw [State.stackBytes_setFrames]; rfl
  · refine ⟨?_, Nat.le_refl _, Nat.le_refl _, ?_, ?_, fun a c9 h9 => ⟨c9, h9, rfl, rfl, fun _ _ => rfl⟩⟩
    · obtain ⟨t, ht, -⟩ := State.frames_cons hr
      show T.setVm s.vm = { ((T.setVm s.vm).setFrames (.invoking m args :: below)).setFrames (T.setVm s.vm).frames with heap := T.heap, slotsUsed := T.slotsUsed }
      rw [State.setFrames_setFrames, State.setFrames_self ht]
      rfl
    · show T.slotsUsed = T.slotsUsed + ((T.heap.toList.drop T.heap.size).map (·.slots.size)).sum
      rw [List.drop_eq_nil_of_le (Nat.le_of_eq Array.length_toList)]
      rfl
    · show ((T.heap.toList.drop T.heap.size).map (·.slots.size)).sum ≤ 0
      rw [List.drop_eq_nil_of_le (Nat.le_of_eq Array.length_toList)]
      exact Nat.le_refl _
/-- 'throw new E()': new; dup; invokespecial; athrow -/
theorem vx_throw0 {cc : ByteArray} {pc : Nat} (hexec : p.tables.exec = Jvm.exec) (hb : c.code = cc) (hl : l.stackTraces = false) {own cls : String} {names : List String} {ik ic mc ms : Nat} {A : Nat → Prop}
    (hown : s.vm.findClass own = some m.cls) (hcls : Bundle.fit cls = true) (hnames : ∀ n ∈ names, Bundle.fit n = true)
    (hk : (Cond.classLink own ik cls).before args s = true) (hini : (Cond.initialized cls).before args s = true) (hat : ∀ w ∈ vx_at0 own ic cls names, w.before args s = true)
    (hgood : ∀ w ∈ Cond.classLink own ik cls :: Cond.initialized cls :: vx_at0 own ic cls names, vx_ot w = true)
    (hU : vx_Zq Bundle.tN "UNASSIGNED_STACK" Bundle.steD A s s.heap) (hN : vx_Zq Bundle.tN "SUPPRESSED_SENTINEL" Bundle.listD A s s.heap) (hS : va_S A s.heap H locs) (hsize : ls.size = c.maxLocals)
    (d0 : decode cc pc = .ok (.new ik, 3)) (d3 : decode cc (pc + 3) = .ok (.dup, 1)) (d4 : decode cc (pc + 4) = .ok (.invokespecial ic, 3)) (d7 : decode cc (pc + 7) = .ok (.athrow, 1))
    (hout : ∀ x ∈ c.exceptionTable.toList, covers x (pc + 7) = false)
    (hRframes : names.length + 3 < R.frames) (hRlocals : (rest.map fun v => v.category).sum + (13 * (names.length + 1) + 42) ≤ R.locals) (hRcells : cells + 1 ≤ R.cells) (hRslots : slots + 6 ≤ R.slots) (hlocks : meth.locks = false)
    (hx : ∀ t : State, s.vm.Alike t.vm → H.size ≤ t.heap.size → (∀ q : Nat, q < H.size → t.heap[q]? = H[q]?) → XC cls s t)
    (hf : ∀ z ∈ locs, free z.base) (hc : cells + 1 ≤ mc) (hs : slots + 6 ≤ ms) :
    W p l e R s m args below meth c H locs cells slots (vx_MQ below Qc XC args s mc ms free) (F0 m pc ls rest) := by
  intro T hT X
  have htr : e.platform.stackTraces = false := (show e.platform.stackTraces = l.stackTraces by rw [X.admits.platform]).trans hl
  have Y := vx_rebase X (R' := { frames := R.frames, locals := R.locals, cells := 1, slots := 6 }) (Nat.le_refl _) (Nat.le_refl _) hRcells hRslots
  obtain ⟨s', hA⟩ : ∃ z, z = (T.setVm s.vm).setFrames (.invoking m args :: below) := ⟨_, rfl⟩
  rw [← hA] at Y
  have hvm : s'.vm = s.vm := by rw [hA]; rfl
  have hhp : s'.heap = H := by rw [hA]; exact hT
  have hW0 : s.WarmedH s'.vm := by rw [hvm]; exact State.WarmedH.refl s
  have hat' : ∀ w ∈ vx_at0 own ic cls names, w.before args s' = true := fun w hw => vx_ot_at hW0 hvm.symm (hgood w (List.mem_cons_of_mem _ (List.mem_cons_of_mem _ hw))) (hat w hw)
  have hk' : (Cond.classLink own ik cls).before args s' = true := vx_ot_at hW0 hvm.symm (hgood _ List.mem_cons_self) hk
  have hini' : (Cond.initialized cls).before args s' = true := vx_ot_at hW0 hvm.symm (hgood _ (List.mem_cons_of_mem _ List.mem_cons_self)) hini
  have hU' : vx_Zq Bundle.tN "UNASSIGNED_STACK" Bundle.steD A s' s'.heap := by rw [hhp]; exact vx_Zq.moved hW0.alike (hU.kept hS.2.1)
  have hN' : vx_Zq Bundle.tN "SUPPRESSED_SENTINEL" Bundle.listD A s' s'.heap := by rw [hhp]; exact vx_Zq.moved hW0.alike (hN.kept hS.2.1)
  have h : ∀ w ∈ Bundle.ownAtoms0 own ic cls names, w.before args s' = true := vx_own hat' (vx_isRefq hU'.1) (vx_isRefq hN'.1) hU'.2.word hN'.2.word
  have hown' : s'.vm.findClass own = some m.cls := by rw [hvm]; exact hown
  have hins : (Cond.instantiable cls 6).before args s' = true := h _ (by simp [Bundle.ownAtoms0])
  obtain ⟨vm₁, cX, kX, hfX, hkX, -, -, X₁, st1⟩ := Y.newCold hexec (own := own) (C := cls) (index := ik) (n := 6) hown' hk' hins hini'
    (g := F0 m pc ls rest) rfl (by rw [hb]; exact d0) (Nat.le_refl _) (Nat.le_refl _)
  generalize hT1 : (T.setVm vm₁).pushCell { cls := cX, slots := kX.instanceTypes.map defaultValue, vm := .none } = T1 at X₁ st1
  have hcat : (Value.ref T.heap.size).category = 1 := rfl
  have hcellA : T1.heap[T.heap.size]? = some (freshCell cX kX) := by rw [← hT1]; exact State.heap_pushCell_size _ _
  have d3' : decode c.code (pc + 3) = .ok (.dup, 1) := by rw [hb]; exact d3
  obtain ⟨U, hsteps, hrun, hend, hW, hsame, ce, hce, hO⟩ := X₁.ctorThrow0 hexec htr (own := own) (cls := cls) (names := names) (ic := ic) hown' hcls hnames h (fun x hx => nomatch hx) hfX hkX hcellA (by rw [hhp, hT]; exact Nat.le_refl _)
    (g := { method := m, pc := pc + 4, locals := ls, stack := .ref T.heap.size :: .ref T.heap.size :: rest, locked := none }) rfl hsize rfl rfl (rest := rest) rfl
    (by rw [hb]; exact d4) (by rw [hb]; exact d7) hout hRframes (by simp only [List.map_cons, List.sum_cons, hcat]; omega) hlocks
  obtain ⟨f1, f2⟩ := vx_frame hsame
  rw [hhp] at f1 f2
  have hWs : s.WarmedH U.vm := State.WarmedH.trans hW0 hW
  have hcl : s.vm.findClass cls = some ce.cls := by
    have h9 := hO.cls
    rw [hvm] at h9
    exact h9
  have hall : s.sameButNew ({ U with vm := s.vm } : State) locs mc ms := by
    subst hA
    obtain ⟨e1, e2⟩ := hsame
    rw [State.setFrames_setFrames] at e1
    have h2 : (T.setVm s.vm).sameButNew ({ U with vm := s.vm } : State) [] (0 + 1) (0 + 6) := ⟨e1, e2⟩
    have h3 := X.same.trans h2
    rw [List.append_nil] at h3
    exact h3.mono hc hs
  refine ⟨U, ?_, .threw T.heap.size, hrun, hend, Or.inr ⟨T.heap.size, rfl, cls, ce, locs, hx U hWs.alike f1 (fun q hq => f2 q hq (fun z hz => nomatch hz)), hce, hO.vm, hcl, hWs, hall, hf⟩⟩
  refine st1 _ ?_
  show Steps p.tables e below (T1.setTop { method := m, pc := pc + 3, locals := ls, stack := .ref T.heap.size :: rest, locked := none }) _
  jvm_step X₁.here [X₁.here.top, hexec, d3', Value.category]
  exact hsteps
/-- 'throw new E("text")': new; dup; ldc; invokespecial; athrow -/
theorem vx_throwS {cc : ByteArray} {pc : Nat} (hexec : p.tables.exec = Jvm.exec) (hb : c.code = cc) (hl : l.stackTraces = false) {own cls text : String} {names : List String} {ik is ic mc ms sa : Nat} {A : Nat → Prop}
    (hown : s.vm.findClass own = some m.cls) (hcls : Bundle.fit cls = true) (hnames : ∀ n ∈ names, Bundle.fit n = true)
    (hk : (Cond.classLink own ik cls).before args s = true) (hini : (Cond.initialized cls).before args s = true) (hstr : vk_R own is text sa s) (hat : ∀ w ∈ vx_atS own ic cls names, w.before args s = true)
    (hgood : ∀ w ∈ Cond.classLink own ik cls :: Cond.initialized cls :: vx_atS own ic cls names, vx_ot w = true)
    (hU : vx_Zq Bundle.tN "UNASSIGNED_STACK" Bundle.steD A s s.heap) (hN : vx_Zq Bundle.tN "SUPPRESSED_SENTINEL" Bundle.listD A s s.heap) (hS : va_S A s.heap H locs) (hsize : ls.size = c.maxLocals)
    (d0 : decode cc pc = .ok (.new ik, 3)) (d3 : decode cc (pc + 3) = .ok (.dup, 1)) (d4 : decode cc (pc + 4) = .ok (.ldc is, 2)) (d6 : decode cc (pc + 6) = .ok (.invokespecial ic, 3)) (d9 : decode cc (pc + 9) = .ok (.athrow, 1))
    (hout : ∀ x ∈ c.exceptionTable.toList, covers x (pc + 9) = false)
    (hRframes : names.length + 3 < R.frames) (hRlocals : (rest.map fun v => v.category).sum + (13 * (names.length + 1) + 43) ≤ R.locals) (hRcells : cells + 1 ≤ R.cells) (hRslots : slots + 6 ≤ R.slots) (hlocks : meth.locks = false)
    (hx : ∀ t : State, s.vm.Alike t.vm → H.size ≤ t.heap.size → (∀ q : Nat, q < H.size → t.heap[q]? = H[q]?) → XC cls s t)
    (hf : ∀ z ∈ locs, free z.base) (hc : cells + 1 ≤ mc) (hs : slots + 6 ≤ ms) :
    W p l e R s m args below meth c H locs cells slots (vx_MQ below Qc XC args s mc ms free) (F0 m pc ls rest) := by
  intro T hT X
  have htr : e.platform.stackTraces = false := (show e.platform.stackTraces = l.stackTraces by rw [X.admits.platform]).trans hl
  have Y := vx_rebase X (R' := { frames := R.frames, locals := R.locals, cells := 1, slots := 6 }) (Nat.le_refl _) (Nat.le_refl _) hRcells hRslots
  obtain ⟨s', hA⟩ : ∃ z, z = (T.setVm s.vm).setFrames (.invoking m args :: below) := ⟨_, rfl⟩
  rw [← hA] at Y
  have hvm : s'.vm = s.vm := by rw [hA]; rfl
  have hhp : s'.heap = H := by rw [hA]; exact hT
  have hW0 : s.WarmedH s'.vm := by rw [hvm]; exact State.WarmedH.refl s
  have hat' : ∀ w ∈ vx_atS own ic cls names, w.before args s' = true := fun w hw => vx_ot_at hW0 hvm.symm (hgood w (List.mem_cons_of_mem _ (List.mem_cons_of_mem _ hw))) (hat w hw)
  have hk' : (Cond.classLink own ik cls).before args s' = true := vx_ot_at hW0 hvm.symm (hgood _ List.mem_cons_self) hk
  have hini' : (Cond.initialized cls).before args s' = true := vx_ot_at hW0 hvm.symm (hgood _ (List.mem_cons_of_mem _ List.mem_cons_self)) hini
  have hU' : vx_Zq Bundle.tN "UNASSIGNED_STACK" Bundle.steD A s' s'.heap := by rw [hhp]; exact vx_Zq.moved hW0.alike (hU.kept hS.2.1)
  have hN' : vx_Zq Bundle.tN "SUPPRESSED_SENTINEL" Bundle.listD A s' s'.heap := by rw [hhp]; exact vx_Zq.moved hW0.alike (hN.kept hS.2.1)
  have h : ∀ w ∈ Bundle.ownAtoms own ic cls names, w.before args s' = true := vx_own hat' (vx_isRefq hU'.1) (vx_isRefq hN'.1) hU'.2.word hN'.2.word
  have hown' : s'.vm.findClass own = some m.cls := by rw [hvm]; exact hown
  have hins : (Cond.instantiable cls 6).before args s' = true := h _ (by simp [Bundle.ownAtoms])
  obtain ⟨vm₁, cX, kX, hfX, hkX, -, -, X₁, st1⟩ := Y.newCold hexec (own := own) (C := cls) (index := ik) (n := 6) hown' hk' hins hini'
    (g := F0 m pc ls rest) rfl (by rw [hb]; exact d0) (Nat.le_refl _) (Nat.le_refl _)
  generalize hT1 : (T.setVm vm₁).pushCell { cls := cX, slots := kX.instanceTypes.map defaultValue, vm := .none } = T1 at X₁ st1
  have hcat : (Value.ref T.heap.size).category = 1 := rfl
  have hcellA : T1.heap[T.heap.size]? = some (freshCell cX kX) := by rw [← hT1]; exact State.heap_pushCell_size _ _
  have d3' : decode c.code (pc + 3) = .ok (.dup, 1) := by rw [hb]; exact d3
  have d4' : decode c.code (pc + 4) = .ok (.ldc is, 2) := by rw [hb]; exact d4
  have hstr' : vk_R own is text sa s' := vk_R.warm hW0 hstr
  obtain ⟨U, hsteps, hrun, hend, hW, hsame, ce, hce, hO⟩ := X₁.ctorThrowS hexec htr (own := own) (cls := cls) (names := names) (ic := ic) hown' hcls hnames h (fun x hx => nomatch hx) hfX hkX hcellA (by rw [hhp, hT]; exact Nat.le_refl _) (msg := .ref sa) rfl
    (g := { method := m, pc := pc + 6, locals := ls, stack := .ref sa :: .ref T.heap.size :: .ref T.heap.size :: rest, locked := none }) rfl hsize rfl rfl (rest := rest) rfl
    (by rw [hb]; exact d6) (by rw [hb]; exact d9) hout hRframes (by simp only [List.map_cons, List.sum_cons, hcat]; omega) hlocks
  obtain ⟨f1, f2⟩ := vx_frame hsame
  rw [hhp] at f1 f2
  have hWs : s.WarmedH U.vm := State.WarmedH.trans hW0 hW
  have hcl : s.vm.findClass cls = some ce.cls := by
    have h9 := hO.cls
    rw [hvm] at h9
    exact h9
  have hall : s.sameButNew ({ U with vm := s.vm } : State) locs mc ms := by
    subst hA
    obtain ⟨e1, e2⟩ := hsame
    rw [State.setFrames_setFrames] at e1
    have h2 : (T.setVm s.vm).sameButNew ({ U with vm := s.vm } : State) [] (0 + 1) (0 + 6) := ⟨e1, e2⟩
    have h3 := X.same.trans h2
    rw [List.append_nil] at h3
    exact h3.mono hc hs
  refine ⟨U, ?_, .threw T.heap.size, hrun, hend, Or.inr ⟨T.heap.size, rfl, cls, ce, locs, hx U hWs.alike f1 (fun q hq => f2 q hq (fun z hz => nomatch hz)), hce, hO.vm, hcl, hWs, hall, hf⟩⟩
  refine st1 _ ?_
  show Steps p.tables e below (T1.setTop { method := m, pc := pc + 3, locals := ls, stack := .ref T.heap.size :: rest, locked := none }) _
  jvm_step X₁.here [X₁.here.top, hexec, d3', Value.category]
  exact X₁.ldcString hexec (own := own) (text := text) (index := is) (a := sa) hown' hstr'.1 hstr'.2
    (g := { method := m, pc := pc + 4, locals := ls, stack := .ref T.heap.size :: .ref T.heap.size :: rest, locked := none }) rfl d4' _ hsteps
/-- 'throw new E("text")', the text by a wide index -/
theorem vx_throwSW {cc : ByteArray} {pc : Nat} (hexec : p.tables.exec = Jvm.exec) (hb : c.code = cc) (hl : l.stackTraces = false) {own cls text : String} {names : List String} {ik is ic mc ms sa : Nat} {A : Nat → Prop}
    (hown : s.vm.findClass own = some m.cls) (hcls : Bundle.fit cls = true) (hnames : ∀ n ∈ names, Bundle.fit n = true)
    (hk : (Cond.classLink own ik cls).before args s = true) (hini : (Cond.initialized cls).before args s = true) (hstr : vk_R own is text sa s) (hat : ∀ w ∈ vx_atS own ic cls names, w.before args s = true)
    (hgood : ∀ w ∈ Cond.classLink own ik cls :: Cond.initialized cls :: vx_atS own ic cls names, vx_ot w = true)
    (hU : vx_Zq Bundle.tN "UNASSIGNED_STACK" Bundle.steD A s s.heap) (hN : vx_Zq Bundle.tN "SUPPRESSED_SENTINEL" Bundle.listD A s s.heap) (hS : va_S A s.heap H locs) (hsize : ls.size = c.maxLocals)
    (d0 : decode cc pc = .ok (.new ik, 3)) (d3 : decode cc (pc + 3) = .ok (.dup, 1)) (d4 : decode cc (pc + 4) = .ok (.ldc_w is, 3)) (d7 : decode cc (pc + 7) = .ok (.invokespecial ic, 3)) (d10 : decode cc (pc + 10) = .ok (.athrow, 1))
    (hout : ∀ x ∈ c.exceptionTable.toList, covers x (pc + 10) = false)
    (hRframes : names.length + 3 < R.frames) (hRlocals : (rest.map fun v => v.category).sum + (13 * (names.length + 1) + 43) ≤ R.locals) (hRcells : cells + 1 ≤ R.cells) (hRslots : slots + 6 ≤ R.slots) (hlocks : meth.locks = false)
    (hx : ∀ t : State, s.vm.Alike t.vm → H.size ≤ t.heap.size → (∀ q : Nat, q < H.size → t.heap[q]? = H[q]?) → XC cls s t)
    (hf : ∀ z ∈ locs, free z.base) (hc : cells + 1 ≤ mc) (hs : slots + 6 ≤ ms) :
    W p l e R s m args below meth c H locs cells slots (vx_MQ below Qc XC args s mc ms free) (F0 m pc ls rest) := by
  intro T hT X
  have htr : e.platform.stackTraces = false := (show e.platform.stackTraces = l.stackTraces by rw [X.admits.platform]).trans hl
  have Y := vx_rebase X (R' := { frames := R.frames, locals := R.locals, cells := 1, slots := 6 }) (Nat.le_refl _) (Nat.le_refl _) hRcells hRslots
  obtain ⟨s', hA⟩ : ∃ z, z = (T.setVm s.vm).setFrames (.invoking m args :: below) := ⟨_, rfl⟩
  rw [← hA] at Y
  have hvm : s'.vm = s.vm := by rw [hA]; rfl
  have hhp : s'.heap = H := by rw [hA]; exact hT
  have hW0 : s.WarmedH s'.vm := by rw [hvm]; exact State.WarmedH.refl s
  have hat' : ∀ w ∈ vx_atS own ic cls names, w.before args s' = true := fun w hw => vx_ot_at hW0 hvm.symm (hgood w (List.mem_cons_of_mem _ (List.mem_cons_of_mem _ hw))) (hat w hw)
  have hk' : (Cond.classLink own ik cls).before args s' = true := vx_ot_at hW0 hvm.symm (hgood _ List.mem_cons_self) hk
  have hini' : (Cond.initialized cls).before args s' = true := vx_ot_at hW0 hvm.symm (hgood _ (List.mem_cons_of_mem _ List.mem_cons_self)) hini
  have hU' : vx_Zq Bundle.tN "UNASSIGNED_STACK" Bundle.steD A s' s'.heap := by rw [hhp]; exact vx_Zq.moved hW0.alike (hU.kept hS.2.1)
  have hN' : vx_Zq Bundle.tN "SUPPRESSED_SENTINEL" Bundle.listD A s' s'.heap := by rw [hhp]; exact vx_Zq.moved hW0.alike (hN.kept hS.2.1)
  have h : ∀ w ∈ Bundle.ownAtoms own ic cls names, w.before args s' = true := vx_own hat' (vx_isRefq hU'.1) (vx_isRefq hN'.1) hU'.2.word hN'.2.word
  have hown' : s'.vm.findClass own = some m.cls := by rw [hvm]; exact hown
  have hins : (Cond.instantiable cls 6).before args s' = true := h _ (by simp [Bundle.ownAtoms])
  obtain ⟨vm₁, cX, kX, hfX, hkX, -, -, X₁, st1⟩ := Y.newCold hexec (own := own) (C := cls) (index := ik) (n := 6) hown' hk' hins hini'
    (g := F0 m pc ls rest) rfl (by rw [hb]; exact d0) (Nat.le_refl _) (Nat.le_refl _)
  generalize hT1 : (T.setVm vm₁).pushCell { cls := cX, slots := kX.instanceTypes.map defaultValue, vm := .none } = T1 at X₁ st1
  have hcat : (Value.ref T.heap.size).category = 1 := rfl
  have hcellA : T1.heap[T.heap.size]? = some (freshCell cX kX) := by rw [← hT1]; exact State.heap_pushCell_size _ _
  have d3' : decode c.code (pc + 3) = .ok (.dup, 1) := by rw [hb]; exact d3
  have d4' : decode c.code (pc + 4) = .ok (.ldc_w is, 3) := by rw [hb]; exact d4
  have hstr' : vk_R own is text sa s' := vk_R.warm hW0 hstr
  obtain ⟨U, hsteps, hrun, hend, hW, hsame, ce, hce, hO⟩ := X₁.ctorThrowS hexec htr (own := own) (cls := cls) (names := names) (ic := ic) hown' hcls hnames h (fun x hx => nomatch hx) hfX hkX hcellA (by rw [hhp, hT]; exact Nat.le_refl _) (msg := .ref sa) rfl
    (g := { method := m, pc := pc + 7, locals := ls, stack := .ref sa :: .ref T.heap.size :: .ref T.heap.size :: rest, locked := none }) rfl hsize rfl rfl (rest := rest) rfl
    (by rw [hb]; exact d7) (by rw [hb]; exact d10) hout hRframes (by simp only [List.map_cons, List.sum_cons, hcat]; omega) hlocks
  obtain ⟨f1, f2⟩ := vx_frame hsame
  rw [hhp] at f1 f2
  have hWs : s.WarmedH U.vm := State.WarmedH.trans hW0 hW
  have hcl : s.vm.findClass cls = some ce.cls := by
    have h9 := hO.cls
    rw [hvm] at h9
    exact h9
  have hall : s.sameButNew ({ U with vm := s.vm } : State) locs mc ms := by
    subst hA
    obtain ⟨e1, e2⟩ := hsame
    rw [State.setFrames_setFrames] at e1
    have h2 : (T.setVm s.vm).sameButNew ({ U with vm := s.vm } : State) [] (0 + 1) (0 + 6) := ⟨e1, e2⟩
    have h3 := X.same.trans h2
    rw [List.append_nil] at h3
    exact h3.mono hc hs
  refine ⟨U, ?_, .threw T.heap.size, hrun, hend, Or.inr ⟨T.heap.size, rfl, cls, ce, locs, hx U hWs.alike f1 (fun q hq => f2 q hq (fun z hz => nomatch hz)), hce, hO.vm, hcl, hWs, hall, hf⟩⟩
  refine st1 _ ?_
  show Steps p.tables e below (T1.setTop { method := m, pc := pc + 3, locals := ls, stack := .ref T.heap.size :: rest, locked := none }) _
  jvm_step X₁.here [X₁.here.top, hexec, d3', Value.category]
  exact X₁.ldcStringW hexec (own := own) (text := text) (index := is) (a := sa) hown' hstr'.1 hstr'.2
    (g := { method := m, pc := pc + 4, locals := ls, stack := .ref T.heap.size :: .ref T.heap.size :: rest, locked := none }) rfl d4' _ hsteps
end Ends
section Bodies
variable {l : Launch}
theorem vx_ofW {y : MethodName} {ws ws' : List Cond} {rm : Room} {Pc : Array Value → State → Prop} {Qc : Array Value → State → Outcome → State → Prop} {XC : String → State → State → Prop} {mc ms : Nat} {free : Addr → Prop} {cc : ByteArray} {maxL : Nat} {ret : Option FieldType}
    (hy : plainName y.cls = true) (hw : ws = Cond.code y cc maxL ret :: ws')
    (body : ∀ p e s m args below meth c s₁, BodyLoose p l y (headSpec ws rm) cc maxL ret e s m args below meth c s₁ → c.maxLocals = maxL → (∀ x ∈ c.exceptionTable.toList, False) → Pc args s →
      W p l e (headSpec ws rm).room s m args below meth c s.heap [] 0 0 (vx_MQ below Qc XC args s mc ms free) (entryFrame m args maxL)) : vx_Met l y ws rm Pc Qc XC mc ms free := by
  refine MetFree.of_bodyS (code := cc) (maxLocals := maxL) (ret := ret) hy ?_ ?_
  · intro args s m h hn
    obtain ⟨meth, c, h1, h2, h3, h4, h5, h6, -, -⟩ := Cond.code_spec hn (atoms_spec (ws := ws) h _ (by rw [hw]; exact List.mem_cons_self))
    exact ⟨meth, c, h1, h2, h3, h4, h5, h6⟩
  · intro p e s m args below meth c s₁ B hml hP _
    have hh0 : s₁.heap = s.heap := by rw [B.state]; rfl
    have ht : ∀ x ∈ c.exceptionTable.toList, False := by
      obtain ⟨meth9, c9, h1, h2, -, -, -, -, h7, -⟩ := Cond.code_spec B.named (atoms_spec (ws := ws) B.pre _ (by rw [hw]; exact List.mem_cons_self))
      cases Option.some.inj (h1.symm.trans B.method)
      cases Option.some.inj (h2.symm.trans (Stand.of_body B).code)
      intro x hx
      rw [Array.isEmpty_iff.mp h7] at hx
      cases hx
    obtain ⟨t, a1, o, b1, b2, b3⟩ := body p e s m args below meth c s₁ B hml ht hP s₁ hh0 (Stand.of_body B)
    exact ⟨t, o, a1, b1, b2, b3⟩
/-- the table of a body with handlers -/
theorem vx_table {p : Program} {x y : MethodName} {S : Spec} {cc bytes : ByteArray} {maxL maxL' : Nat} {ret ret' : Option FieldType} {e : Env} {s s₁ : State} {m : MethodId} {args : Array Value} {below : List Frame} {meth : Method} {c : Code} {hh : List (Nat × Nat × Nat × Nat)}
    (B : BodyLoose p l y S cc maxL ret e s m args below meth c s₁) (h : (Cond.codeWith y bytes maxL' ret' hh).before args s = true) : c.exceptionTable.toList = tableOf hh := by
  obtain ⟨m9, meth9, c9, hn9, h1, h2, -, -, h6, -⟩ := Cond.codeWith_spec h
  cases Option.some.inj (hn9.symm.trans B.named)
  cases Option.some.inj (h1.symm.trans B.method)
  cases Option.some.inj (h2.symm.trans (Stand.of_body B).code)
  rw [← h6, table_eq]
end Bodies
end VXA
/-! ===== END ===== -/
/-! ===== BEGIN a static call of a method with an exception table ===== -/
section VXS
variable {p : Program} {l : Launch} {e : Env} {R : Room} {s : State} {m : MethodId} {args : Array Value} {below : List Frame} {meth : Method} {c : Code} {T : State} {H : Heap} {locs : List Loc} {cells slots : Nat}
abbrev vx_CSW (R : Room) (s : State) (args : Array Value) (own : String) (index : Nat) (y : MethodName) (bytes : ByteArray) (maxL : Nat) (ret : Option FieldType) (hh : List (Nat × Nat × Nat × Nat)) (ws : List Cond) (rm : Room) (mc ms n : Nat) : Prop :=
  (rm.cells = mc ∧ rm.slots = ms ∧ rm.frames + 1 ≤ R.frames ∧ 8 + (maxL + 11) + rm.locals ≤ R.locals ∧ (∀ w ∈ ws, ∀ (a' : Array Value) (U : State), s.WarmedH U.vm → w.before a' U = true) ∧ Cond.codeWith y bytes maxL ret hh ∈ ws) ∧
  (Cond.codeWith y bytes maxL ret hh).before args s = true ∧ (Cond.initialized y.cls).before args s = true ∧ (y.cls ≠ "java/lang/invoke/MethodHandle" ∧ y.cls ≠ "java/lang/invoke/VarHandle") ∧
  (∀ sig, parseMethodDescriptor y.desc = some sig → n = sig.parameters.length) ∧ (Cond.methodLink own index y).before args s = true ∧ (Cond.static y).before args s = true
theorem vx_cwSW {own : String} {index maxL mc ms : Nat} {y : MethodName} {bytes : ByteArray} {ret : Option FieldType} {hh : List (Nat × Nat × Nat × Nat)} {Ts ws ws' : List Cond} {rm : Room} (n : Nat) (ht : ∀ w ∈ Ts, w.before args s = true) (hT : GoodIn Ts (va_wsS own index y ws)) (hw : ws = Cond.codeWith y bytes maxL ret hh :: ws') (hrc : rm.cells = mc) (hrs : rm.slots = ms)
    (hd : y.cls ≠ "java/lang/invoke/MethodHandle" ∧ y.cls ≠ "java/lang/invoke/VarHandle" ∧ (parseMethodDescriptor y.desc).map (fun d => d.parameters.length) = some n) (hR : rm.frames + 1 ≤ R.frames ∧ 8 + (maxL + 11) + rm.locals ≤ R.locals) :
    vx_CSW R s args own index y bytes maxL ret hh ws rm mc ms n := by
  have ok : ∀ w ∈ va_wsS own index y ws, w.before args s = true := fun w h => ht w (hT w h).1
  have hG : GoodIn Ts ws := fun w h => hT w (by unfold va_wsS; exact List.mem_append_right _ h)
  have hc : Cond.codeWith y bytes maxL ret hh ∈ ws := by rw [hw]; exact List.mem_cons_self
  refine ⟨⟨hrc, hrs, hR.1, hR.2, pay_in ht hG, hc⟩, ht _ (hG _ hc).1, ok _ (by simp [va_wsS]), ⟨hd.1, hd.2.1⟩, fun sig h => ?_, ok _ (by simp [va_wsS]), ok _ (by simp [va_wsS])⟩
  have h2 := hd.2.2
  rw [h] at h2
  exact (Option.some.inj h2).symm
theorem vx_callSW (X : Stand p l e R s m args below meth c T locs cells slots) (hexec : p.tables.exec = Jvm.exec) {own : String} {index : Nat} {y : MethodName} {bytes : ByteArray} {maxL : Nat} {ret : Option FieldType} {hh : List (Nat × Nat × Nat × Nat)}
    (hown : s.vm.findClass own = some m.cls) (hlink : (Cond.methodLink own index y).before args s = true) (hstat : (Cond.static y).before args s = true) (hinit : (Cond.initialized y.cls).before args s = true)
    (hcode : (Cond.codeWith y bytes maxL ret hh).before args s = true) (hy : y.cls ≠ "java/lang/invoke/MethodHandle" ∧ y.cls ≠ "java/lang/invoke/VarHandle")
    {W9 : Nat} {Pre : Pt → Array Value → Prop} {Post : Pt → Array Value → Option Value → Pt → Prop} (hK : Back l R p e below s args y 3 W9 Pre Post)
    {g : JFrame} (hg : g.method = m) (hsize : g.locals.size = c.maxLocals) {argsL rest : List Value} (hlen : ∀ sig, parseMethodDescriptor y.desc = some sig → argsL.length = sig.parameters.length)
    (hstack : g.stack = argsL.reverse ++ rest) (hW : 2 * g.monitorRoom + (rest.map fun v => v.category).sum ≤ W9) (hdg : decode c.code g.pc = .ok (.invokestatic index, 3))
    (hpre : ∀ vm₁, s.WarmedH vm₁ → Pre ⟨T.setVm vm₁, locs, cells, slots⟩ argsL.toArray) :
    ∃ (v : Option Value) (vm₁ : Vm) (B : Pt), s.WarmedH vm₁ ∧ Stand p l e R s m args below meth c B.U B.locs B.cells B.slots ∧ Post ⟨T.setVm vm₁, locs, cells, slots⟩ argsL.toArray v B ∧
      ∀ target, Steps p.tables e below (B.U.setTop { g with pc := g.pc + 3, stack := v.toList ++ rest }) target → Steps p.tables e below (T.setTop g) target := by
  obtain ⟨mk, methM, cM, hnamed, hmethM, -, -, -, -, -, -, hsigM⟩ := Cond.codeWith_spec hcode
  have hstatic : methM.isStatic = true := Cond.static_spec hnamed hmethM hstat
  obtain ⟨kP, hkP, -⟩ := className_of_methodNamed hnamed
  have hinitP : kP.init = .initialized := Cond.initialized_spec (findClass_of_methodNamed hnamed) hkP hinit
  obtain ⟨vm₁, X₁, hstep₁⟩ := X.invokestatic hexec hown hlink hnamed hmethM hstatic hkP hinitP hy (g := g) hg (argsL := argsL) (rest := rest) (hlen _ hsigM) hstack hdg
  obtain ⟨v, B, X', hpost, hsteps⟩ := hK m meth c ⟨T.setVm vm₁, locs, cells, slots⟩ { g with stack := rest } (.invokestatic index) mk argsL.toArray X₁ hg hsize hdg hW (X₁.named hnamed) (hpre vm₁ X₁.warmed)
  exact ⟨v, vm₁, B, X₁.warmed, X', hpost, fun target h => hstep₁ _ fun acts => by rw [doInvoke_state]; exact hsteps.trans h⟩
theorem vx_runSW {y : MethodName} {bytes cc : ByteArray} {maxL nL mc ms n index : Nat} {ret : Option FieldType} {hh : List (Nat × Nat × Nat × Nat)} {ws : List Cond} {rm : Room} {Pc : Array Value → State → Prop} {Qc : Array Value → State → Outcome → State → Prop} {free : Addr → Prop} {Ts : List Cond} {own : String} {As rest : List Value} {g : JFrame}
    (S : CallFix p m c cc nL s args Ts own) (hM : Met l y ws rm Pc Qc mc ms free) (cw : vx_CSW R s args own index y bytes maxL ret hh ws rm mc ms n) (hp : PreS s H Pc As)
    (hg : g.method = m) (hn : As.length = n) (hsize : g.locals.size = nL) (hstack : g.stack = As.reverse ++ rest) (hW : 2 * g.monitorRoom + (rest.map fun v => v.category).sum ≤ 8) (hdg : decode cc g.pc = .ok (.invokestatic index, 3)) (hf : cells + mc ≤ R.cells ∧ slots + ms ≤ R.slots) :
    va_Run p l e R s m args below meth c H locs cells slots mc ms g rest (Qc As.toArray) (free) := by
  obtain ⟨⟨hrc, hrs, hfr, hlo, hws, hcw⟩, hcode, hini, hy, hlen, hl, hstt⟩ := cw
  have hK : Back l R p e below s args y 3 8 (PreOf R mc ms Pc) (PostOf Qc mc ms free) := va_backW (hh := hh) (bytes := bytes) (maxL := maxL) (ret := ret) hM hp.1 hrc hrs hfr hlo hws hcw (fun a' U hW => word_at hW (Or.inl (by first | rfl | simp [Cond.onTables, Cond.keeps, Cond.steady])) hini)
  obtain ⟨hx, hb, hml, ho, -⟩ := S
  intro T hT X
  obtain ⟨v, vm₁, ⟨U', l2, c2, s2⟩, hW₁, X', ⟨g', mk, t, L, e1, e2, hq, h1, hL, h2, h3⟩, st⟩ := vx_callSW X hx (hh := hh) (bytes := bytes) (maxL := maxL) (ret := ret) ho hl hstt hini hcode hy hK hg (hsize.trans hml.symm) (argsL := As) (rest := rest) (fun sig h => hn.trans (hlen sig h)) hstack hW (by rw [hb]; exact hdg)
    (fun vm₁ hW₁ => ⟨hf.1, hf.2, hp.2 (T.setVm vm₁) hT hW₁⟩)
  dsimp only [Pt.U, Pt.locs, Pt.cells, Pt.slots] at X' e1 e2 h1 h2 h3 st
  subst h1; subst h2; subst h3
  exact ⟨v, (T.setVm vm₁).calling g' mk As.toArray, t, U', L, hT, X', hL, e1, e2, hq, st⟩
/-- not caught here, past rows that name other classes: it goes on to the caller -/
theorem vx_outP {p : Program} {l : Launch} {e : Env} {R : Room} {s : State} {m : MethodId} {args : Array Value} {below : List Frame} {meth : Method} {c : Code} {H : Heap} {locs : List Loc} {cells slots : Nat} {free : Addr → Prop} {ls : Array Slot} {rest : List Value} {Qc : Array Value → State → Outcome → State → Prop} {XC : String → State → State → Prop}
    {pc : Nat} {own E : String} {ce : Cell} {q : Addr} {mc ms : Nat} (hown : s.vm.findClass own = some m.cls) (hlocks : meth.locks = false)
    (hpass : ∀ z ∈ c.exceptionTable.toList, covers z pc = false ∨ (z.catchType ≠ 0 ∧ ∃ nm : String, (Cond.classLink own z.catchType nm).before args s = true ∧ va_Nc E nm s)) (hcell : H[q]? = some ce) (hv : ce.vm = .none) (hcl : s.vm.findClass E = some ce.cls)
    (hx : ∀ t : State, t.heap = H → s.vm.Alike t.vm → XC E s t) (hf : ∀ z ∈ locs, free z.base) (hc : cells ≤ mc) (hs : slots ≤ ms) :
    vx_W p l e R s m args below meth c H locs cells slots (vx_MQ below Qc XC args s mc ms free) (F0 m pc ls rest) q := by
  intro T hT X
  have hpl : e.platform.magicAccessors = ({} : Platform).magicAccessors := by rw [X.admits.platform]
  obtain ⟨vm', hW', X', st⟩ := X.outThrough hlocks q (g := F0 m pc ls rest) rfl rfl rfl (cell := ce) (by rw [hT]; exact hcell) (by rw [hv]; rfl)
    (by obtain ⟨k9, h9, -⟩ := Vm.findClass_spec hcl; exact ⟨k9, h9⟩) (fun z hz => by
      rcases hpass z hz with h | ⟨hz0, nm, hl1, hn1⟩
      · exact Or.inl h
      · obtain ⟨c6, hc6, hcl6⟩ := Cond.classLink_spec hown hl1 e.platform hpl
        obtain ⟨a8, b8, h1, h2, h3⟩ := hn1
        cases Option.some.inj (h1.symm.trans hcl)
        cases Option.some.inj (h2.symm.trans hc6)
        exact Or.inr ⟨hz0, _, hcl6, h3⟩)
  obtain ⟨g₀, hfr⟩ := X'.frames_eq
  have hcell9 : ((T.setVm vm').setFrames (.throwing q :: below)).heap[q]? = some ce := by
    show T.heap[q]? = some ce
    rw [hT]; exact hcell
  have hend : Ended ((T.setVm vm').setFrames (.throwing q :: below)) below (.threw q) := State.frames_setFrames _ (State.cur_lt_of_frames hfr)
  refine ⟨(T.setVm vm').setFrames (.throwing q :: below), ?_, .threw q, X'.here.running, hend, Or.inr ⟨q, rfl, E, ce, locs, hx _ hT (X'.ends _).1.alike, hcell9, hv, hcl, (X'.ends _).1, (X'.ends _).2.mono hc hs, hf⟩⟩
  rw [X.pushThrowing_eq]
  exact st
/-- a thing of a world lies in the heap -/
theorem vx_lt {D : va_G} {cl : List vw_C} {ws : va_W} {H1 : Heap} (h : va_P D cl ws H1) {k : Nat} {q : Nat × va_E} (hk : ws[k]? = some q) : q.1 < H1.size := (h k q hk).lt
end VXS
/-! ===== END ===== -/
/-! ===== BEGIN methods with a table of their own: called by a name, returning or throwing ===== -/
section VXH
/-! vx_backW, vx_callVX, vx_callSX, vx_callVW, vx_runVW, vx_runVX, vx_runSX, vx_ofWH follow the same proofs as their sisters above (Free/Laws.lean, Shelf42/LK1.lean); vx_outP calls Shelf42/NT130.lean (outThrough). -/
section
variable {l : Launch} {R : Room} {p : Program} {e : Env} {below : List Frame} {s : State} {sargs : Array Value} {y : MethodName} {len W9 : Nat}
theorem vx_backW {ws : List Cond} {rm : Room} {Pc : Array Value → State → Prop} {Qc : Array Value → State → Outcome → State → Prop} {XC : String → State → State → Prop} {mc ms : Nat} {free : Addr → Prop} {bytes : ByteArray} {maxL : Nat} {ret : Option FieldType} {hh : List (Nat × Nat × Nat × Nat)}
    (hM : vx_Met l y ws rm Pc Qc XC mc ms free) (hblind : FrameBlind Pc) (hrc : rm.cells = mc) (hrs : rm.slots = ms)
    (hframes : rm.frames + 1 ≤ R.frames) (hlocals : W9 + (maxL + 11) + rm.locals ≤ R.locals)
    (hws : ∀ w ∈ ws, ∀ a' U, s.WarmedH U.vm → w.before a' U = true) (hcode : Cond.codeWith y bytes maxL ret hh ∈ ws) (hinit : ∀ a' U, s.WarmedH U.vm → (Cond.initialized y.cls).before a' U = true) :
    vx_Back l R p e below s sargs y len W9 (PreOf R mc ms Pc) (PostOf Qc mc ms free) (vx_Post XC mc ms free) := by
  intro m meth c A g ig mk a X hg hsize hdg hW hn hp
  have h1 : (headSpec ws rm).pre.before a A.U = true := atoms_intro fun w hw => hws w hw _ _ X.warmed
  have h2 : (Cond.codeWith y bytes maxL ret hh).before a A.U = true := hws _ hcode _ _ X.warmed
  have h3 : (Cond.initialized y.cls).before a A.U = true := hinit _ _ X.warmed
  have h4 : A.cells + (headSpec ws rm).room.cells ≤ R.cells := by rw [show (headSpec ws rm).room.cells = mc from hrc]; exact hp.1
  have h5 : A.slots + (headSpec ws rm).room.slots ≤ R.slots := by rw [show (headSpec ws rm).room.slots = ms from hrs]; exact hp.2.1
  have hPc : Pc a (A.U.calling g mk a) := hblind _ _ _ _ hp.2.2
  obtain ⟨U, Ls, c0, s0⟩ := A
  dsimp only [Pt.U, Pt.locs, Pt.cells, Pt.slots] at h1 h2 h3 h4 h5 X hn hPc ⊢
  obtain ⟨m9, methY, cY, hn9, hmY, hcY, -, hlY, -⟩ := Cond.codeWith_spec h2
  cases Option.some.inj (hn9.symm.trans hn)
  obtain ⟨kY, hkY, -⟩ := className_of_methodNamed hn
  have hinitY : kY.init = .initialized := Cond.initialized_spec (findClass_of_methodNamed hn) hkY h3
  have h : At U g.method c below := by rw [hg]; exact X.here
  have hlocals9 : W9 + (maxL + 11) + (headSpec ws rm).room.locals ≤ R.locals := hlocals
  have happ : (headSpec ws rm).appliesLoose y e.platform (U.calling g mk a) = true :=
    Spec.appliesLoose_calling (g := g) h hdg hn hkY hinitY
      (X.room_calling (g := g) (R' := (headSpec ws rm).room) hsize hmY hcY hframes (by rw [hlY]; omega) h4 h5) h1
  obtain ⟨mid, hmid⟩ := h.above
  have hfr : (U.setTop g).frames = (.java g :: mid) ++ below := by rw [State.frames_setTop' g h.top, hmid]; rfl
  obtain ⟨o, s₂, hsteps, -, hend, hq⟩ := Steps.callFree hM p X.admits X.cas X.clock (acts := []) hfr happ hPc trivial
  have hq' : vx_Q Qc XC mc ms free a (U.calling g mk a) o s₂ := hq
  rw [State.frames_setTop' g h.top] at hend
  obtain ⟨g₀, hg0⟩ := Option.isSome_iff_exists.mp h.top
  obtain ⟨r, hr⟩ := State.topJava?_eq_some.mp hg0
  have hr' : (({ U with heap := s₂.heap, slotsUsed := s₂.slotsUsed } : State).setVm s₂.vm).frames = .java g₀ :: r := hr
  rcases hq' with ⟨hqc, L, hfe, hL⟩ | ⟨q, rfl, E, ce, L, hx, hce, hcv, hcl, hW₂, hsm, hL⟩
  · obtain ⟨⟨v, rfl⟩, hW₂, e2, q2, q3, q4, q5, q6⟩ := id hfe
    have e3 : s₂ = ({ (U.calling g mk a).setFrames s₂.frames with heap := s₂.heap, slotsUsed := s₂.slotsUsed } : State).setVm s₂.vm := by
      have : s₂ = ({ s₂ with vm := (U.calling g mk a).vm } : State).setVm s₂.vm := rfl
      rw [e2] at this
      exact this
    obtain ⟨c₂, i₂, len₂, hc₂, hd₂, hf₂⟩ := hend
    have hW' : U.WarmedH s₂.vm := hW₂
    have hcc : c₂ = c := by
      have h1 : s₂.code? g.method = U.code? g.method := by
        rw [State.code?_eq, State.code?_eq, hW'.alike.method?]
      exact Option.some.inj (hc₂.symm.trans (h1.trans h.code))
    subst hcc
    have hlen : len₂ = len := by rw [hdg] at hd₂; cases hd₂; rfl
    subst hlen
    have hs₂ : s₂ = (({ U with heap := s₂.heap, slotsUsed := s₂.slotsUsed } : State).setVm s₂.vm).setTop { g with pc := g.pc + len₂, stack := v.toList ++ g.stack } := by
      refine e3.trans ?_
      rw [hf₂, State.calling_eq h.top, State.setFrames_setFrames, State.setTop_of_frames _ hr', hr]
      rfl
    have hsame : U.sameButNew ({ U with heap := s₂.heap, slotsUsed := s₂.slotsUsed } : State) L mc ms := by
      refine ⟨?_, q2, q3, q4, q5, q6⟩
      obtain ⟨t, ht, -⟩ := State.frames_cons hr
      show ({ U with heap := s₂.heap, slotsUsed := s₂.slotsUsed } : State) = { U.setFrames U.frames with heap := s₂.heap, slotsUsed := s₂.slotsUsed }
      rw [State.setFrames_self ht]
    subst hg
    refine Or.inl ⟨v, ⟨(({ U with heap := s₂.heap, slotsUsed := s₂.slotsUsed } : State).setVm s₂.vm), Ls ++ L, c0 + mc, s0 + ms⟩,
      ⟨X.admits, X.cas, X.clock, X.frames, X.room, X.hears, X.method, X.code, (X.here.setHeapUsed s₂.heap s₂.slotsUsed).setVm hW'.alike, X.tail, State.WarmedH.trans X.warmed hW', X.limits, X.bytes, X.same.trans (hsame.setVm s.vm)⟩,
      ⟨g, mk, s₂, L, rfl, rfl, hqc, rfl, hL, rfl, rfl⟩, ?_⟩
    show Steps p.tables e below _ ((({ U with heap := s₂.heap, slotsUsed := s₂.slotsUsed } : State).setVm s₂.vm).setTop { g with pc := g.pc + len₂, stack := v.toList ++ g.stack })
    rw [← hs₂]
    exact hsteps
  · obtain ⟨e2, q2, q3, q4, q5, q6⟩ := id hsm
    have e3 : s₂ = ({ (U.calling g mk a).setFrames s₂.frames with heap := s₂.heap, slotsUsed := s₂.slotsUsed } : State).setVm s₂.vm := by
      have : s₂ = ({ s₂ with vm := (U.calling g mk a).vm } : State).setVm s₂.vm := rfl
      rw [e2] at this
      exact this
    have hf₂ : s₂.frames = .throwing q :: .java g :: U.frames.tail := hend
    have hW' : U.WarmedH s₂.vm := hW₂
    have hs₂ : s₂ = ((({ U with heap := s₂.heap, slotsUsed := s₂.slotsUsed } : State).setVm s₂.vm).setTop g).pushFrame (.throwing q) := by
      refine e3.trans ?_
      rw [hf₂, State.calling_eq h.top, State.setFrames_setFrames, State.pushFrame, State.frames_setTop _ hr', State.setTop_of_frames _ hr', State.setFrames_setFrames, hr]
      rfl
    have hsame : U.sameButNew ({ U with heap := s₂.heap, slotsUsed := s₂.slotsUsed } : State) L mc ms := by
      refine ⟨?_, q2, q3, q4, q5, q6⟩
      obtain ⟨t, ht, -⟩ := State.frames_cons hr
      show ({ U with heap := s₂.heap, slotsUsed := s₂.slotsUsed } : State) = { U.setFrames U.frames with heap := s₂.heap, slotsUsed := s₂.slotsUsed }
      rw [State.setFrames_self ht]
    subst hg
    refine Or.inr ⟨q, ⟨(({ U with heap := s₂.heap, slotsUsed := s₂.slotsUsed } : State).setVm s₂.vm), Ls ++ L, c0 + mc, s0 + ms⟩,
      ⟨X.admits, X.cas, X.clock, X.frames, X.room, X.hears, X.method, X.code, (X.here.setHeapUsed s₂.heap s₂.slotsUsed).setVm hW'.alike, X.tail, State.WarmedH.trans X.warmed hW', X.limits, X.bytes, X.same.trans (hsame.setVm s.vm)⟩,
      ⟨g, mk, s₂, L, E, ce, rfl, rfl, hx, hce, hcv, hcl, rfl, hL, rfl, rfl⟩, ?_⟩
    show Steps p.tables e below _ (((({ U with heap := s₂.heap, slotsUsed := s₂.slotsUsed } : State).setVm s₂.vm).setTop g).pushFrame (.throwing q))
    rw [← hs₂]
    exact hsteps
end
variable {p : Program} {l : Launch} {e : Env} {R : Room} {s : State} {m : MethodId} {args : Array Value} {below : List Frame} {meth : Method} {c : Code} {T : State} {H : Heap} {locs : List Loc} {cells slots : Nat}
theorem vx_callVX (X : Stand p l e R s m args below meth c T locs cells slots) (hexec : p.tables.exec = Jvm.exec) {own C : String} {index : Nat} {y : MethodName} {bytes : ByteArray} {maxL : Nat} {ret : Option FieldType} {hh : List (Nat × Nat × Nat × Nat)}
    (hown : s.vm.findClass own = some m.cls) (hlink : (Cond.methodLink own index y).before args s = true) (hinst : (Cond.instanceMethod y).before args s = true) (hsel : (Cond.selects C y y).before args s = true)
    (hcode : (Cond.codeWith y bytes maxL ret hh).before args s = true) (hy : y.cls ≠ "java/lang/invoke/MethodHandle" ∧ y.cls ≠ "java/lang/invoke/VarHandle")
    {W9 : Nat} {Pre : Pt → Array Value → Prop} {Post : Pt → Array Value → Option Value → Pt → Prop} {PostX : Pt → Array Value → Addr → Pt → Prop} (hK : vx_Back l R p e below s args y 3 W9 Pre Post PostX)
    {b : Addr} {cellB : Cell} (hcell : T.heap[b]? = some cellB) (hobj : cellB.vm.isStatics = false) (hcls : s.vm.findClass C = some cellB.cls)
    {g : JFrame} (hg : g.method = m) (hsize : g.locals.size = c.maxLocals) {argsL rest : List Value} (hlen : ∀ sig, parseMethodDescriptor y.desc = some sig → argsL.length = sig.parameters.length)
    (hstack : g.stack = argsL.reverse ++ .ref b :: rest) (hW : 2 * g.monitorRoom + (rest.map fun v => v.category).sum ≤ W9) (hdg : decode c.code g.pc = .ok (.invokevirtual index, 3))
    (hpre : ∀ vm₁, s.WarmedH vm₁ → Pre ⟨T.setVm vm₁, locs, cells, slots⟩ (Value.ref b :: argsL).toArray) :
    (∃ (v : Option Value) (vm₁ : Vm) (B : Pt), s.WarmedH vm₁ ∧ Stand p l e R s m args below meth c B.U B.locs B.cells B.slots ∧ Post ⟨T.setVm vm₁, locs, cells, slots⟩ (Value.ref b :: argsL).toArray v B ∧
      ∀ target, Steps p.tables e below (B.U.setTop { g with pc := g.pc + 3, stack := v.toList ++ rest }) target → Steps p.tables e below (T.setTop g) target) ∨
    (∃ (q : Addr) (vm₁ : Vm) (B : Pt), s.WarmedH vm₁ ∧ Stand p l e R s m args below meth c B.U B.locs B.cells B.slots ∧ PostX ⟨T.setVm vm₁, locs, cells, slots⟩ (Value.ref b :: argsL).toArray q B ∧
      Steps p.tables e below (T.setTop g) ((B.U.setTop { g with stack := rest }).pushFrame (.throwing q))) := by
  obtain ⟨mk, methM, hnamed, hmethM, hstM, habM⟩ := Cond.instanceMethod_spec hinst
  obtain ⟨m8, methM', cM, hn8, hmethM', -, -, -, -, -, -, hsigM⟩ := Cond.codeWith_spec hcode
  cases Option.some.inj (hn8.symm.trans hnamed)
  cases hmethM.symm.trans hmethM'
  obtain ⟨c2, r2, m2, q1, q2, q3, q4, kP, hkP, hkPi⟩ := Cond.selects_spec hsel
  cases hcls.symm.trans q1
  cases (State.methodFound?_of_named hnamed hy).symm.trans q2
  cases hnamed.symm.trans q3
  have hselP : selectMethod e.platform s.vm cellB.cls mk = .method mk := by rw [Launch.admits_selectMethod X.admits]; exact q4
  obtain ⟨vm₁, X₁, hstep₁⟩ := X.invokevirtual hexec hown hlink hnamed hmethM hstM hkP hkPi hy (a := b) (cell := cellB) hcell
    (fun z h => by rw [h] at hobj; cases hobj) hselP hmethM habM hkP hkPi (g := g) hg (argsL := argsL) (rest := rest) (hlen _ hsigM) hstack hdg
  rcases hK m meth c ⟨T.setVm vm₁, locs, cells, slots⟩ { g with stack := rest } (.invokevirtual index) mk (Value.ref b :: argsL).toArray X₁ hg hsize hdg hW (X₁.named hnamed) (hpre vm₁ X₁.warmed) with ⟨v, B, X', hpost, hsteps⟩ | ⟨q, B, X', hpost, hsteps⟩
  · exact Or.inl ⟨v, vm₁, B, X₁.warmed, X', hpost, fun target h => hstep₁ _ fun acts => by rw [doInvoke_state]; exact hsteps.trans h⟩
  · exact Or.inr ⟨q, vm₁, B, X₁.warmed, X', hpost, hstep₁ _ fun acts => by rw [doInvoke_state]; exact hsteps⟩
theorem vx_callSX (X : Stand p l e R s m args below meth c T locs cells slots) (hexec : p.tables.exec = Jvm.exec) {own : String} {index : Nat} {y : MethodName} {bytes : ByteArray} {maxL : Nat} {ret : Option FieldType} {hh : List (Nat × Nat × Nat × Nat)}
    (hown : s.vm.findClass own = some m.cls) (hlink : (Cond.methodLink own index y).before args s = true) (hstat : (Cond.static y).before args s = true) (hinit : (Cond.initialized y.cls).before args s = true)
    (hcode : (Cond.codeWith y bytes maxL ret hh).before args s = true) (hy : y.cls ≠ "java/lang/invoke/MethodHandle" ∧ y.cls ≠ "java/lang/invoke/VarHandle")
    {W9 : Nat} {Pre : Pt → Array Value → Prop} {Post : Pt → Array Value → Option Value → Pt → Prop} {PostX : Pt → Array Value → Addr → Pt → Prop} (hK : vx_Back l R p e below s args y 3 W9 Pre Post PostX)
    {g : JFrame} (hg : g.method = m) (hsize : g.locals.size = c.maxLocals) {argsL rest : List Value} (hlen : ∀ sig, parseMethodDescriptor y.desc = some sig → argsL.length = sig.parameters.length)
    (hstack : g.stack = argsL.reverse ++ rest) (hW : 2 * g.monitorRoom + (rest.map fun v => v.category).sum ≤ W9) (hdg : decode c.code g.pc = .ok (.invokestatic index, 3))
    (hpre : ∀ vm₁, s.WarmedH vm₁ → Pre ⟨T.setVm vm₁, locs, cells, slots⟩ argsL.toArray) :
    (∃ (v : Option Value) (vm₁ : Vm) (B : Pt), s.WarmedH vm₁ ∧ Stand p l e R s m args below meth c B.U B.locs B.cells B.slots ∧ Post ⟨T.setVm vm₁, locs, cells, slots⟩ argsL.toArray v B ∧
      ∀ target, Steps p.tables e below (B.U.setTop { g with pc := g.pc + 3, stack := v.toList ++ rest }) target → Steps p.tables e below (T.setTop g) target) ∨
    (∃ (q : Addr) (vm₁ : Vm) (B : Pt), s.WarmedH vm₁ ∧ Stand p l e R s m args below meth c B.U B.locs B.cells B.slots ∧ PostX ⟨T.setVm vm₁, locs, cells, slots⟩ argsL.toArray q B ∧
      Steps p.tables e below (T.setTop g) ((B.U.setTop { g with stack := rest }).pushFrame (.throwing q))) := by
  obtain ⟨mk, methM, cM, hnamed, hmethM, -, -, -, -, -, -, hsigM⟩ := Cond.codeWith_spec hcode
  have hstatic : methM.isStatic = true := Cond.static_spec hnamed hmethM hstat
  obtain ⟨kP, hkP, -⟩ := className_of_methodNamed hnamed
  have hinitP : kP.init = .initialized := Cond.initialized_spec (findClass_of_methodNamed hnamed) hkP hinit
  obtain ⟨vm₁, X₁, hstep₁⟩ := X.invokestatic hexec hown hlink hnamed hmethM hstatic hkP hinitP hy (g := g) hg (argsL := argsL) (rest := rest) (hlen _ hsigM) hstack hdg
  rcases hK m meth c ⟨T.setVm vm₁, locs, cells, slots⟩ { g with stack := rest } (.invokestatic index) mk argsL.toArray X₁ hg hsize hdg hW (X₁.named hnamed) (hpre vm₁ X₁.warmed) with ⟨v, B, X', hpost, hsteps⟩ | ⟨q, B, X', hpost, hsteps⟩
  · exact Or.inl ⟨v, vm₁, B, X₁.warmed, X', hpost, fun target h => hstep₁ _ fun acts => by rw [doInvoke_state]; exact hsteps.trans h⟩
  · exact Or.inr ⟨q, vm₁, B, X₁.warmed, X', hpost, hstep₁ _ fun acts => by rw [doInvoke_state]; exact hsteps⟩
theorem vx_callVW (X : Stand p l e R s m args below meth c T locs cells slots) (hexec : p.tables.exec = Jvm.exec) {own C : String} {index : Nat} {y : MethodName} {bytes : ByteArray} {maxL : Nat} {ret : Option FieldType} {hh : List (Nat × Nat × Nat × Nat)}
    (hown : s.vm.findClass own = some m.cls) (hlink : (Cond.methodLink own index y).before args s = true) (hinst : (Cond.instanceMethod y).before args s = true) (hsel : (Cond.selects C y y).before args s = true)
    (hcode : (Cond.codeWith y bytes maxL ret hh).before args s = true) (hy : y.cls ≠ "java/lang/invoke/MethodHandle" ∧ y.cls ≠ "java/lang/invoke/VarHandle")
    {W9 : Nat} {Pre : Pt → Array Value → Prop} {Post : Pt → Array Value → Option Value → Pt → Prop} (hK : Back l R p e below s args y 3 W9 Pre Post)
    {b : Addr} {cellB : Cell} (hcell : T.heap[b]? = some cellB) (hobj : cellB.vm.isStatics = false) (hcls : s.vm.findClass C = some cellB.cls)
    {g : JFrame} (hg : g.method = m) (hsize : g.locals.size = c.maxLocals) {argsL rest : List Value} (hlen : ∀ sig, parseMethodDescriptor y.desc = some sig → argsL.length = sig.parameters.length)
    (hstack : g.stack = argsL.reverse ++ .ref b :: rest) (hW : 2 * g.monitorRoom + (rest.map fun v => v.category).sum ≤ W9) (hdg : decode c.code g.pc = .ok (.invokevirtual index, 3))
    (hpre : ∀ vm₁, s.WarmedH vm₁ → Pre ⟨T.setVm vm₁, locs, cells, slots⟩ (Value.ref b :: argsL).toArray) :
    ∃ (v : Option Value) (vm₁ : Vm) (B : Pt), s.WarmedH vm₁ ∧ Stand p l e R s m args below meth c B.U B.locs B.cells B.slots ∧ Post ⟨T.setVm vm₁, locs, cells, slots⟩ (Value.ref b :: argsL).toArray v B ∧
      ∀ target, Steps p.tables e below (B.U.setTop { g with pc := g.pc + 3, stack := v.toList ++ rest }) target → Steps p.tables e below (T.setTop g) target := by
  obtain ⟨mk, methM, hnamed, hmethM, hstM, habM⟩ := Cond.instanceMethod_spec hinst
  obtain ⟨m8, methM', cM, hn8, hmethM', -, -, -, -, -, -, hsigM⟩ := Cond.codeWith_spec hcode
  cases Option.some.inj (hn8.symm.trans hnamed)
  cases hmethM.symm.trans hmethM'
  obtain ⟨c2, r2, m2, q1, q2, q3, q4, kP, hkP, hkPi⟩ := Cond.selects_spec hsel
  cases hcls.symm.trans q1
  cases (State.methodFound?_of_named hnamed hy).symm.trans q2
  cases hnamed.symm.trans q3
  have hselP : selectMethod e.platform s.vm cellB.cls mk = .method mk := by rw [Launch.admits_selectMethod X.admits]; exact q4
  obtain ⟨vm₁, X₁, hstep₁⟩ := X.invokevirtual hexec hown hlink hnamed hmethM hstM hkP hkPi hy (a := b) (cell := cellB) hcell
    (fun z h => by rw [h] at hobj; cases hobj) hselP hmethM habM hkP hkPi (g := g) hg (argsL := argsL) (rest := rest) (hlen _ hsigM) hstack hdg
  obtain ⟨v, B, X', hpost, hsteps⟩ := hK m meth c ⟨T.setVm vm₁, locs, cells, slots⟩ { g with stack := rest } (.invokevirtual index) mk (Value.ref b :: argsL).toArray X₁ hg hsize hdg hW (X₁.named hnamed) (hpre vm₁ X₁.warmed)
  exact ⟨v, vm₁, B, X₁.warmed, X', hpost, fun target h => hstep₁ _ fun acts => by rw [doInvoke_state]; exact hsteps.trans h⟩
abbrev vx_CVW (R : Room) (s : State) (args : Array Value) (own C : String) (index : Nat) (y : MethodName) (bytes : ByteArray) (maxL : Nat) (ret : Option FieldType) (hh : List (Nat × Nat × Nat × Nat)) (ws : List Cond) (rm : Room) (mc ms n : Nat) : Prop :=
  (rm.cells = mc ∧ rm.slots = ms ∧ rm.frames + 1 ≤ R.frames ∧ 8 + (maxL + 11) + rm.locals ≤ R.locals ∧ (∀ w ∈ ws, ∀ (a' : Array Value) (U : State), s.WarmedH U.vm → w.before a' U = true) ∧ Cond.codeWith y bytes maxL ret hh ∈ ws) ∧
  (Cond.codeWith y bytes maxL ret hh).before args s = true ∧ (Cond.initialized y.cls).before args s = true ∧ (y.cls ≠ "java/lang/invoke/MethodHandle" ∧ y.cls ≠ "java/lang/invoke/VarHandle") ∧
  (∀ sig, parseMethodDescriptor y.desc = some sig → n = sig.parameters.length) ∧ (Cond.methodLink own index y).before args s = true ∧ (Cond.instanceMethod y).before args s = true ∧ (Cond.selects C y y).before args s = true
theorem vx_cwVW {own C : String} {index maxL mc ms : Nat} {y : MethodName} {bytes : ByteArray} {ret : Option FieldType} {hh : List (Nat × Nat × Nat × Nat)} {Ts ws ws' : List Cond} {rm : Room} (n : Nat) (ht : ∀ w ∈ Ts, w.before args s = true) (hT : GoodIn Ts (wsV own index C y ws)) (hw : ws = Cond.codeWith y bytes maxL ret hh :: ws') (hrc : rm.cells = mc) (hrs : rm.slots = ms)
    (hd : y.cls = C ∧ y.cls ≠ "java/lang/invoke/MethodHandle" ∧ y.cls ≠ "java/lang/invoke/VarHandle" ∧ (parseMethodDescriptor y.desc).map (fun d => d.parameters.length) = some n) (hR : rm.frames + 1 ≤ R.frames ∧ 8 + (maxL + 11) + rm.locals ≤ R.locals) :
    vx_CVW R s args own C index y bytes maxL ret hh ws rm mc ms n := by
  obtain ⟨hC, hd⟩ := hd
  subst hC
  have ok : ∀ w ∈ wsV own index y.cls y ws, w.before args s = true := fun w h => ht w (hT w h).1
  have hG : GoodIn Ts ws := fun w h => hT w (by unfold wsV; exact List.mem_append_right _ h)
  have hc : Cond.codeWith y bytes maxL ret hh ∈ ws := by rw [hw]; exact List.mem_cons_self
  refine ⟨⟨hrc, hrs, hR.1, hR.2, pay_in ht hG, hc⟩, ht _ (hG _ hc).1, ok _ (by simp [wsV]), ⟨hd.1, hd.2.1⟩, fun sig h => ?_, ok _ (by simp [wsV]), ok _ (by simp [wsV]), ok _ (by simp [wsV])⟩
  have h2 := hd.2.2
  rw [h] at h2
  exact (Option.some.inj h2).symm
theorem vx_runVW {y : MethodName} {bytes cc : ByteArray} {maxL nL mc ms n index : Nat} {ret : Option FieldType} {hh : List (Nat × Nat × Nat × Nat)} {ws : List Cond} {rm : Room} {Pc : Array Value → State → Prop} {Qc : Array Value → State → Outcome → State → Prop} {free : Addr → Prop} {Ts : List Cond} {own C : String} {b : Addr} {As rest : List Value} {g : JFrame}
    (S : CallFix p m c cc nL s args Ts own) (hM : Met l y ws rm Pc Qc mc ms free) (cw : vx_CVW R s args own C index y bytes maxL ret hh ws rm mc ms n) (hp : PreV s H C b Pc As)
    (hg : g.method = m) (hn : As.length = n) (hsize : g.locals.size = nL) (hstack : g.stack = As.reverse ++ .ref b :: rest) (hW : 2 * g.monitorRoom + (rest.map fun v => v.category).sum ≤ 8) (hdg : decode cc g.pc = .ok (.invokevirtual index, 3)) (hf : cells + mc ≤ R.cells ∧ slots + ms ≤ R.slots) :
    va_Run p l e R s m args below meth c H locs cells slots mc ms g rest (Qc (Value.ref b :: As).toArray) free := by
  obtain ⟨⟨hrc, hrs, hfr, hlo, hws, hcw⟩, hcode, hini, hy, hlen, hl, hin, hse⟩ := cw
  have hK : Back l R p e below s args y 3 8 (PreOf R mc ms Pc) (PostOf Qc mc ms free) := va_backW (hh := hh) (bytes := bytes) (maxL := maxL) (ret := ret) hM hp.1 hrc hrs hfr hlo hws hcw (fun a' U hW => word_at hW (Or.inl (by first | rfl | simp [Cond.onTables, Cond.keeps, Cond.steady])) hini)
  obtain ⟨hx, hb, hml, ho, -⟩ := S
  obtain ⟨-, ⟨cellB, hcB, hoB, hclB⟩, hPc⟩ := hp
  intro T hT X
  obtain ⟨v, vm₁, ⟨U', l2, c2, s2⟩, hW₁, X', ⟨g', mk, t, L, e1, e2, hq, h1, hL, h2, h3⟩, st⟩ := vx_callVW X hx (C := C) (hh := hh) (bytes := bytes) (maxL := maxL) (ret := ret) ho hl hin hse hcode hy hK (by rw [hT]; exact hcB) hoB hclB hg (hsize.trans hml.symm) (argsL := As) (rest := rest) (fun sig h => hn.trans (hlen sig h)) hstack hW (by rw [hb]; exact hdg)
    (fun vm₁ hW₁ => ⟨hf.1, hf.2, hPc (T.setVm vm₁) hT hW₁⟩)
  dsimp only [Pt.U, Pt.locs, Pt.cells, Pt.slots] at X' e1 e2 h1 h2 h3 st
  subst h1; subst h2; subst h3
  exact ⟨v, (T.setVm vm₁).calling g' mk (Value.ref b :: As).toArray, t, U', L, hT, X', hL, e1, e2, hq, st⟩
section
variable {y : MethodName} {bytes cc : ByteArray} {maxL nL mc ms n index : Nat} {ret : Option FieldType} {ws : List Cond} {rm : Room} {Pc : Array Value → State → Prop} {Qc : Array Value → State → Outcome → State → Prop} {XC : String → State → State → Prop} {free : Addr → Prop} {Ts : List Cond} {own C : String} {b : Addr} {As rest : List Value} {g : JFrame}
theorem vx_runVX {hh : List (Nat × Nat × Nat × Nat)} (S : CallFix p m c cc nL s args Ts own) (hM : vx_Met l y ws rm Pc Qc XC mc ms free) (cw : vx_CVW R s args own C index y bytes maxL ret hh ws rm mc ms n) (hp : PreV s H C b Pc As)
    (hg : g.method = m) (hn : As.length = n) (hsize : g.locals.size = nL) (hstack : g.stack = As.reverse ++ .ref b :: rest) (hW : 2 * g.monitorRoom + (rest.map fun v => v.category).sum ≤ 8) (hdg : decode cc g.pc = .ok (.invokevirtual index, 3)) (hf : cells + mc ≤ R.cells ∧ slots + ms ≤ R.slots) :
    vx_Run p l e R s m args below meth c H locs cells slots mc ms g rest (Qc (Value.ref b :: As).toArray) XC free := by
  obtain ⟨⟨hrc, hrs, hfr, hlo, hws, hcw⟩, hcode, hini, hy, hlen, hl, hin, hse⟩ := cw
  have hK : vx_Back l R p e below s args y 3 8 (PreOf R mc ms Pc) (PostOf Qc mc ms free) (vx_Post XC mc ms free) := vx_backW (hh := hh) (bytes := bytes) (maxL := maxL) (ret := ret) hM hp.1 hrc hrs hfr hlo hws hcw (fun a' U hW => word_at hW (Or.inl (by first | rfl | simp [Cond.onTables, Cond.keeps, Cond.steady])) hini)
  obtain ⟨hx, hb, hml, ho, -⟩ := S
  obtain ⟨-, ⟨cellB, hcB, hoB, hclB⟩, hPc⟩ := hp
  intro T hT X
  rcases vx_callVX X hx (C := C) (hh := hh) (bytes := bytes) (maxL := maxL) (ret := ret) ho hl hin hse hcode hy hK (by rw [hT]; exact hcB) hoB hclB hg (hsize.trans hml.symm) (argsL := As) (rest := rest) (fun sig h => hn.trans (hlen sig h)) hstack hW (by rw [hb]; exact hdg)
    (fun vm₁ hW₁ => ⟨hf.1, hf.2, hPc (T.setVm vm₁) hT hW₁⟩) with ⟨v, vm₁, ⟨U', l2, c2, s2⟩, hW₁, X', ⟨g', mk, t, L, e1, e2, hq, h1, hL, h2, h3⟩, st⟩ | ⟨q, vm₁, ⟨U', l2, c2, s2⟩, hW₁, X', ⟨g', mk, t, L, E, ce, e1, e2, hq, hce, hcv, hcl, h1, hL, h2, h3⟩, st⟩
  · dsimp only [Pt.U, Pt.locs, Pt.cells, Pt.slots] at X' e1 e2 h1 h2 h3 st
    subst h1; subst h2; subst h3
    exact Or.inl ⟨v, (T.setVm vm₁).calling g' mk (Value.ref b :: As).toArray, t, U', L, hT, X', hL, e1, e2, hq, st⟩
  · dsimp only [Pt.U, Pt.locs, Pt.cells, Pt.slots] at X' e1 e2 h1 h2 h3 st hcl
    subst h1; subst h2; subst h3
    exact Or.inr ⟨q, (T.setVm vm₁).calling g' mk (Value.ref b :: As).toArray, t, U', L, E, ce, hT, X', hL, e1, e2, hq, hce, hcv, vx_cls hW₁ hcl, st⟩
theorem vx_runSX {hh : List (Nat × Nat × Nat × Nat)} (S : CallFix p m c cc nL s args Ts own) (hM : vx_Met l y ws rm Pc Qc XC mc ms free) (cw : vx_CSW R s args own index y bytes maxL ret hh ws rm mc ms n) (hp : PreS s H Pc As)
    (hg : g.method = m) (hn : As.length = n) (hsize : g.locals.size = nL) (hstack : g.stack = As.reverse ++ rest) (hW : 2 * g.monitorRoom + (rest.map fun v => v.category).sum ≤ 8) (hdg : decode cc g.pc = .ok (.invokestatic index, 3)) (hf : cells + mc ≤ R.cells ∧ slots + ms ≤ R.slots) :
    vx_Run p l e R s m args below meth c H locs cells slots mc ms g rest (Qc As.toArray) XC free := by
  obtain ⟨⟨hrc, hrs, hfr, hlo, hws, hcw⟩, hcode, hini, hy, hlen, hl, hstt⟩ := cw
  have hK : vx_Back l R p e below s args y 3 8 (PreOf R mc ms Pc) (PostOf Qc mc ms free) (vx_Post XC mc ms free) := vx_backW (hh := hh) (bytes := bytes) (maxL := maxL) (ret := ret) hM hp.1 hrc hrs hfr hlo hws hcw (fun a' U hW => word_at hW (Or.inl (by first | rfl | simp [Cond.onTables, Cond.keeps, Cond.steady])) hini)
  obtain ⟨hx, hb, hml, ho, -⟩ := S
  intro T hT X
  rcases vx_callSX X hx (hh := hh) (bytes := bytes) (maxL := maxL) (ret := ret) ho hl hstt hini hcode hy hK hg (hsize.trans hml.symm) (argsL := As) (rest := rest) (fun sig h => hn.trans (hlen sig h)) hstack hW (by rw [hb]; exact hdg)
    (fun vm₁ hW₁ => ⟨hf.1, hf.2, hp.2 (T.setVm vm₁) hT hW₁⟩) with ⟨v, vm₁, ⟨U', l2, c2, s2⟩, hW₁, X', ⟨g', mk, t, L, e1, e2, hq, h1, hL, h2, h3⟩, st⟩ | ⟨q, vm₁, ⟨U', l2, c2, s2⟩, hW₁, X', ⟨g', mk, t, L, E, ce, e1, e2, hq, hce, hcv, hcl, h1, hL, h2, h3⟩, st⟩
  · dsimp only [Pt.U, Pt.locs, Pt.cells, Pt.slots] at X' e1 e2 h1 h2 h3 st
    subst h1; subst h2; subst h3
    exact Or.inl ⟨v, (T.setVm vm₁).calling g' mk As.toArray, t, U', L, hT, X', hL, e1, e2, hq, st⟩
  · dsimp only [Pt.U, Pt.locs, Pt.cells, Pt.slots] at X' e1 e2 h1 h2 h3 st hcl
    subst h1; subst h2; subst h3
    exact Or.inr ⟨q, (T.setVm vm₁).calling g' mk As.toArray, t, U', L, E, ce, hT, X', hL, e1, e2, hq, hce, hcv, vx_cls hW₁ hcl, st⟩
end
end VXH
theorem vx_ofWH {l : Launch} {y : MethodName} {ws ws' : List Cond} {rm : Room} {Pc : Array Value → State → Prop} {Qc : Array Value → State → Outcome → State → Prop} {XC : String → State → State → Prop} {mc ms : Nat} {free : Addr → Prop} {cc : ByteArray} {maxL : Nat} {ret : Option FieldType} {hh : List (Nat × Nat × Nat × Nat)}
    (hy : plainName y.cls = true) (hw : ws = Cond.codeWith y cc maxL ret hh :: ws')
    (body : ∀ p e s m args below meth c s₁, BodyLoose p l y (headSpec ws rm) cc maxL ret e s m args below meth c s₁ → c.maxLocals = maxL → Pc args s →
      W p l e (headSpec ws rm).room s m args below meth c s.heap [] 0 0 (vx_MQ below Qc XC args s mc ms free) (entryFrame m args maxL)) : vx_Met l y ws rm Pc Qc XC mc ms free := by
  refine MetFree.of_bodyS (code := cc) (maxLocals := maxL) (ret := ret) hy ?_ ?_
  · intro args s m h hn
    obtain ⟨m9, meth, c, hn9, h1, h2, h3, h4, -, h5, h6, -⟩ := Cond.codeWith_spec (atoms_spec (ws := ws) h _ (by rw [hw]; exact List.mem_cons_self))
    cases hn.symm.trans hn9
    exact ⟨meth, c, h1, h2, h3, h4, h5, h6⟩
  · intro p e s m args below meth c s₁ B hml hP _
    have hh0 : s₁.heap = s.heap := by rw [B.state]; rfl
    obtain ⟨t, a1, o, b1, b2, b3⟩ := body p e s m args below meth c s₁ B hml hP s₁ hh0 (Stand.of_body B)
    exact ⟨t, o, a1, b1, b2, b3⟩
/-! ===== END ===== -/

def RX0 : String := "WireBook$Book"
def TX0 : u_T := fun k => match k with
  | 0 => ("WireBook$Book", "codes", "[I", true)
  | 1 => ("WireBook$Book", "sizes", "[I", true)
  | 2 => ("WireBook$Book", "phrases", "[I", true)
  | _ => ("WireBook$Book", "count", "I", false)
def tyX0 : Nat → FieldType := fun k => match k with
  | 0 => .array .int
  | 1 => .array .int
  | 2 => .array .int
  | _ => .int
abbrev wsX00 : List Cond := u_ws RX0 TX0 4
theorem nmX0 : ∀ a, a < 4 → ∀ b, b < 4 → a ≠ b → (TX0 a).2.1 ≠ (TX0 b).2.1 := by decide +kernel
theorem tyX0_ok : ∀ k, k < 4 → parseFieldDescriptor (TX0 k).2.2.1 = some (tyX0 k) := by decide +kernel
abbrev cX0_init : ByteArray := prog_2_method_1_code
def yX0_init : MethodName := ⟨RX0, "<init>", "()V"⟩
abbrev cX0_startOf : ByteArray := prog_2_method_2_code
def yX0_startOf : MethodName := ⟨RX0, "startOf", "(I)I"⟩
abbrev cX0_add : ByteArray := prog_2_method_3_code
def yX0_add : MethodName := ⟨RX0, "add", "(ILWireBook$Line;)V"⟩
abbrev cX0_remove : ByteArray := prog_2_method_4_code
def yX0_remove : MethodName := ⟨RX0, "remove", "(I)V"⟩
abbrev cX0_latestCode : ByteArray := prog_2_method_5_code
def yX0_latestCode : MethodName := ⟨RX0, "latestCode", "()I"⟩
abbrev cX0_entryWith : ByteArray := prog_2_method_6_code
def yX0_entryWith : MethodName := ⟨RX0, "entryWith", "(I)I"⟩
abbrev cX0_reasonAgainst : ByteArray := prog_2_method_7_code
def yX0_reasonAgainst : MethodName := ⟨RX0, "reasonAgainst", "(I)I"⟩
abbrev cX0_fitFrom : ByteArray := prog_2_method_8_code
def yX0_fitFrom : MethodName := ⟨RX0, "fitFrom", "(I)I"⟩
abbrev cX0_onlyEntryLike : ByteArray := prog_2_method_9_code
def yX0_onlyEntryLike : MethodName := ⟨RX0, "onlyEntryLike", "(I)I"⟩
abbrev cX0_hasPhrase : ByteArray := prog_2_method_10_code
def yX0_hasPhrase : MethodName := ⟨RX0, "hasPhrase", "([III)Z"⟩
abbrev cX0_goesAhead : ByteArray := prog_2_method_11_code
def yX0_goesAhead : MethodName := ⟨RX0, "goesAhead", "(II)Z"⟩
abbrev cX0_mixInto : ByteArray := prog_2_method_12_code
def yX0_mixInto : MethodName := ⟨RX0, "mixInto", "(J)J"⟩
def RX1 : String := "WireBook$Code"
def TX1 : u_T := fun k => match k with
  | _ => ("", "", "", false)
def tyX1 : Nat → FieldType := fun k => match k with
  | _ => .int
abbrev wsX10 : List Cond := u_ws RX1 TX1 0
theorem nmX1 : ∀ a, a < 0 → ∀ b, b < 0 → a ≠ b → (TX1 a).2.1 ≠ (TX1 b).2.1 := by decide +kernel
theorem tyX1_ok : ∀ k, k < 0 → parseFieldDescriptor (TX1 k).2.2.1 = some (tyX1 k) := by decide +kernel
abbrev cX1_letterAt : ByteArray := prog_3_method_2_code
def yX1_letterAt : MethodName := ⟨RX1, "letterAt", "(II)I"⟩
abbrev cX1_withLetter : ByteArray := prog_3_method_3_code
def yX1_withLetter : MethodName := ⟨RX1, "withLetter", "(III)I"⟩
abbrev cX1_swapped : ByteArray := prog_3_method_4_code
def yX1_swapped : MethodName := ⟨RX1, "swapped", "(II)I"⟩
abbrev cX1_likeness : ByteArray := prog_3_method_5_code
def yX1_likeness : MethodName := ⟨RX1, "likeness", "(II)I"⟩
abbrev cX1_units : ByteArray := prog_3_method_6_code
def yX1_units : MethodName := ⟨RX1, "units", "(I)I"⟩
def RX2 : String := "WireBook$Division"
def TX2 : u_T := fun k => match k with
  | 0 => ("WireBook$Division", "least", "[I", true)
  | _ => ("WireBook$Division", "pieces", "[I", true)
def tyX2 : Nat → FieldType := fun k => match k with
  | 0 => .array .int
  | _ => .array .int
abbrev wsX20 : List Cond := u_ws RX2 TX2 2
theorem nmX2 : ∀ a, a < 2 → ∀ b, b < 2 → a ≠ b → (TX2 a).2.1 ≠ (TX2 b).2.1 := by decide +kernel
theorem tyX2_ok : ∀ k, k < 2 → parseFieldDescriptor (TX2 k).2.2.1 = some (tyX2 k) := by decide +kernel
abbrev cX2_init : ByteArray := prog_4_method_1_code
def yX2_init : MethodName := ⟨RX2, "<init>", "()V"⟩
abbrev cX2_divide : ByteArray := prog_4_method_2_code
def yX2_divide : MethodName := ⟨RX2, "divide", "(LWireBook$Book;I[III)I"⟩
abbrev cX2_bestPiece : ByteArray := prog_4_method_3_code
def yX2_bestPiece : MethodName := ⟨RX2, "bestPiece", "(LWireBook$Book;I[IIII)I"⟩
def RX3 : String := "WireBook$Kept"
def TX3 : u_T := fun k => match k with
  | 0 => ("WireBook$Kept", "row", "[I", true)
  | 1 => ("WireBook$Kept", "sizes", "[I", true)
  | 2 => ("WireBook$Kept", "times", "[[I", true)
  | 3 => ("WireBook$Kept", "freeFrom", "[I", true)
  | _ => ("WireBook$Kept", "count", "I", false)
def tyX3 : Nat → FieldType := fun k => match k with
  | 0 => .array .int
  | 1 => .array .int
  | 2 => .array (.array .int)
  | 3 => .array .int
  | _ => .int
abbrev wsX30 : List Cond := u_ws RX3 TX3 5
theorem nmX3 : ∀ a, a < 5 → ∀ b, b < 5 → a ≠ b → (TX3 a).2.1 ≠ (TX3 b).2.1 := by decide +kernel
theorem tyX3_ok : ∀ k, k < 5 → parseFieldDescriptor (TX3 k).2.2.1 = some (tyX3 k) := by decide +kernel
abbrev cX3_init : ByteArray := prog_5_method_1_code
def yX3_init : MethodName := ⟨RX3, "<init>", "()V"⟩
abbrev cX3_startOf : ByteArray := prog_5_method_2_code
def yX3_startOf : MethodName := ⟨RX3, "startOf", "(I)I"⟩
abbrev cX3_add : ByteArray := prog_5_method_3_code
def yX3_add : MethodName := ⟨RX3, "add", "(LWireBook$Line;)V"⟩
abbrev cX3_countPhrases : ByteArray := prog_5_method_4_code
def yX3_countPhrases : MethodName := ⟨RX3, "countPhrases", "(III)V"⟩
abbrev cX3_firstFinding : ByteArray := prog_5_method_5_code
def yX3_firstFinding : MethodName := ⟨RX3, "firstFinding", "(II)I"⟩
abbrev cX3_proposeOn : ByteArray := prog_5_method_6_code
def yX3_proposeOn : MethodName := ⟨RX3, "proposeOn", "(LWireBook$Line;LWireBook$Book;I)I"⟩
abbrev cX3_mixInto : ByteArray := prog_5_method_7_code
def yX3_mixInto : MethodName := ⟨RX3, "mixInto", "(J)J"⟩
def RX4 : String := "WireBook$Line"
def TX4 : u_T := fun k => match k with
  | 0 => ("WireBook$Line", "row", "[I", true)
  | _ => ("WireBook$Line", "count", "I", false)
def tyX4 : Nat → FieldType := fun k => match k with
  | 0 => .array .int
  | _ => .int
abbrev wsX40 : List Cond := u_ws RX4 TX4 2
theorem nmX4 : ∀ a, a < 2 → ∀ b, b < 2 → a ≠ b → (TX4 a).2.1 ≠ (TX4 b).2.1 := by decide +kernel
theorem tyX4_ok : ∀ k, k < 2 → parseFieldDescriptor (TX4 k).2.2.1 = some (tyX4 k) := by decide +kernel
abbrev cX4_init : ByteArray := prog_6_method_1_code
def yX4_init : MethodName := ⟨RX4, "<init>", "()V"⟩
abbrev cX4_clear : ByteArray := prog_6_method_2_code
def yX4_clear : MethodName := ⟨RX4, "clear", "()V"⟩
abbrev cX4_append : ByteArray := prog_6_method_3_code
def yX4_append : MethodName := ⟨RX4, "append", "(I)V"⟩
abbrev cX4_appendAll : ByteArray := prog_6_method_4_code
def yX4_appendAll : MethodName := ⟨RX4, "appendAll", "([III)V"⟩
def RX5 : String := "WireBook$Message"
def TX5 : u_T := fun k => match k with
  | 0 => ("WireBook$Message", "row", "[I", true)
  | _ => ("WireBook$Message", "count", "I", false)
def tyX5 : Nat → FieldType := fun k => match k with
  | 0 => .array .int
  | _ => .int
abbrev wsX50 : List Cond := u_ws RX5 TX5 2
theorem nmX5 : ∀ a, a < 2 → ∀ b, b < 2 → a ≠ b → (TX5 a).2.1 ≠ (TX5 b).2.1 := by decide +kernel
theorem tyX5_ok : ∀ k, k < 2 → parseFieldDescriptor (TX5 k).2.2.1 = some (tyX5 k) := by decide +kernel
abbrev cX5_init : ByteArray := prog_7_method_1_code
def yX5_init : MethodName := ⟨RX5, "<init>", "()V"⟩
abbrev cX5_plain : ByteArray := prog_7_method_2_code
def yX5_plain : MethodName := ⟨RX5, "plain", "(I)I"⟩
abbrev cX5_isPlain : ByteArray := prog_7_method_3_code
def yX5_isPlain : MethodName := ⟨RX5, "isPlain", "(I)Z"⟩
abbrev cX5_wordOf : ByteArray := prog_7_method_4_code
def yX5_wordOf : MethodName := ⟨RX5, "wordOf", "(I)I"⟩
abbrev cX5_clear : ByteArray := prog_7_method_5_code
def yX5_clear : MethodName := ⟨RX5, "clear", "()V"⟩
abbrev cX5_append : ByteArray := prog_7_method_6_code
def yX5_append : MethodName := ⟨RX5, "append", "(I)V"⟩
abbrev cX5_costAt : ByteArray := prog_7_method_7_code
def yX5_costAt : MethodName := ⟨RX5, "costAt", "(I)I"⟩
abbrev cX5_units : ByteArray := prog_7_method_8_code
def yX5_units : MethodName := ⟨RX5, "units", "()I"⟩
abbrev cX5_wordUnits : ByteArray := prog_7_method_9_code
def yX5_wordUnits : MethodName := ⟨RX5, "wordUnits", "(I)I"⟩
def RX6 : String := "WireBook"
def TX6 : u_T := fun k => match k with
  | 0 => ("WireBook", "books", "[LWireBook$Book;", true)
  | 1 => ("WireBook", "line", "LWireBook$Line;", true)
  | 2 => ("WireBook", "kept", "LWireBook$Kept;", true)
  | 3 => ("WireBook", "message", "LWireBook$Message;", true)
  | 4 => ("WireBook", "division", "LWireBook$Division;", true)
  | 5 => ("WireBook", "readings", "[I", true)
  | 6 => ("WireBook", "readGroups", "I", false)
  | _ => ("WireBook", "price", "I", false)
def tyX6 : Nat → FieldType := fun k => match k with
  | 0 => .array (.object "WireBook$Book")
  | 1 => .object "WireBook$Line"
  | 2 => .object "WireBook$Kept"
  | 3 => .object "WireBook$Message"
  | 4 => .object "WireBook$Division"
  | 5 => .array .int
  | 6 => .int
  | _ => .int
abbrev wsX60 : List Cond := u_ws RX6 TX6 8
theorem nmX6 : ∀ a, a < 8 → ∀ b, b < 8 → a ≠ b → (TX6 a).2.1 ≠ (TX6 b).2.1 := by decide +kernel
theorem tyX6_ok : ∀ k, k < 8 → parseFieldDescriptor (TX6 k).2.2.1 = some (tyX6 k) := by decide +kernel
abbrev cX6_init : ByteArray := prog_1_method_1_code
def yX6_init : MethodName := ⟨RX6, "<init>", "()V"⟩
abbrev cX6_say : ByteArray := prog_1_method_2_code
def yX6_say : MethodName := ⟨RX6, "say", "(I)I"⟩
abbrev cX6_empty : ByteArray := prog_1_method_3_code
def yX6_empty : MethodName := ⟨RX6, "empty", "()I"⟩
abbrev cX6_words : ByteArray := prog_1_method_4_code
def yX6_words : MethodName := ⟨RX6, "words", "()I"⟩
abbrev cX6_wordAt : ByteArray := prog_1_method_5_code
def yX6_wordAt : MethodName := ⟨RX6, "wordAt", "(I)I"⟩
abbrev cX6_keep : ByteArray := prog_1_method_6_code
def yX6_keep : MethodName := ⟨RX6, "keep", "()I"⟩
abbrev cX6_recall : ByteArray := prog_1_method_7_code
def yX6_recall : MethodName := ⟨RX6, "recall", "(I)I"⟩
abbrev cX6_letter : ByteArray := prog_1_method_8_code
def yX6_letter : MethodName := ⟨RX6, "letter", "(II)I"⟩
abbrev cX6_reason : ByteArray := prog_1_method_9_code
def yX6_reason : MethodName := ⟨RX6, "reason", "(II)I"⟩
abbrev cX6_firstFit : ByteArray := prog_1_method_10_code
def yX6_firstFit : MethodName := ⟨RX6, "firstFit", "(II)I"⟩
abbrev cX6_define : ByteArray := prog_1_method_11_code
def yX6_define : MethodName := ⟨RX6, "define", "(II)I"⟩
abbrev cX6_drop : ByteArray := prog_1_method_12_code
def yX6_drop : MethodName := ⟨RX6, "drop", "(II)I"⟩
abbrev cX6_entries : ByteArray := prog_1_method_13_code
def yX6_entries : MethodName := ⟨RX6, "entries", "(I)I"⟩
abbrev cX6_entry : ByteArray := prog_1_method_14_code
def yX6_entry : MethodName := ⟨RX6, "entry", "(III)I"⟩
abbrev cX6_find : ByteArray := prog_1_method_15_code
def yX6_find : MethodName := ⟨RX6, "find", "(II)I"⟩
abbrev cX6_setPrice : ByteArray := prog_1_method_16_code
def yX6_setPrice : MethodName := ⟨RX6, "setPrice", "(I)I"⟩
abbrev cX6_encode : ByteArray := prog_1_method_17_code
def yX6_encode : MethodName := ⟨RX6, "encode", "(I)I"⟩
abbrev cX6_groups : ByteArray := prog_1_method_18_code
def yX6_groups : MethodName := ⟨RX6, "groups", "()I"⟩
abbrev cX6_group : ByteArray := prog_1_method_19_code
def yX6_group : MethodName := ⟨RX6, "group", "(I)I"⟩
abbrev cX6_garble : ByteArray := prog_1_method_20_code
def yX6_garble : MethodName := ⟨RX6, "garble", "(III)I"⟩
abbrev cX6_swap : ByteArray := prog_1_method_21_code
def yX6_swap : MethodName := ⟨RX6, "swap", "(II)I"⟩
abbrev cX6_decode : ByteArray := prog_1_method_22_code
def yX6_decode : MethodName := ⟨RX6, "decode", "(I)I"⟩
abbrev cX6_how : ByteArray := prog_1_method_23_code
def yX6_how : MethodName := ⟨RX6, "how", "(I)I"⟩
abbrev cX6_cost : ByteArray := prog_1_method_24_code
def yX6_cost : MethodName := ⟨RX6, "cost", "()I"⟩
abbrev cX6_time : ByteArray := prog_1_method_25_code
def yX6_time : MethodName := ⟨RX6, "time", "()I"⟩
abbrev cX6_share : ByteArray := prog_1_method_26_code
def yX6_share : MethodName := ⟨RX6, "share", "(I)D"⟩
abbrev cX6_propose : ByteArray := prog_1_method_27_code
def yX6_propose : MethodName := ⟨RX6, "propose", "(I)I"⟩
abbrev cX6_learn : ByteArray := prog_1_method_28_code
def yX6_learn : MethodName := ⟨RX6, "learn", "(II)I"⟩
abbrev cX6_digest : ByteArray := prog_1_method_29_code
def yX6_digest : MethodName := ⟨RX6, "digest", "()J"⟩
abbrev cX6_requireBook : ByteArray := prog_1_method_30_code
def yX6_requireBook : MethodName := ⟨RX6, "requireBook", "(I)LWireBook$Book;"⟩
abbrev cX6_requireCode : ByteArray := prog_1_method_31_code
def yX6_requireCode : MethodName := ⟨RX6, "requireCode", "(I)V"⟩
abbrev cX6_requirePlace : ByteArray := prog_1_method_32_code
def yX6_requirePlace : MethodName := ⟨RX6, "requirePlace", "(II)V"⟩
abbrev cX6_requireEntry : ByteArray := prog_1_method_33_code
def yX6_requireEntry : MethodName := ⟨RX6, "requireEntry", "(LWireBook$Book;I)V"⟩
abbrev cX6_requireGroup : ByteArray := prog_1_method_34_code
def yX6_requireGroup : MethodName := ⟨RX6, "requireGroup", "(I)V"⟩
abbrev cX6_requireCodeWord : ByteArray := prog_1_method_35_code
def yX6_requireCodeWord : MethodName := ⟨RX6, "requireCodeWord", "(I)V"⟩
abbrev cX6_read : ByteArray := prog_1_method_36_code
def yX6_read : MethodName := ⟨RX6, "read", "(LWireBook$Book;I)I"⟩
abbrev cX6_learnOne : ByteArray := prog_1_method_37_code
def yX6_learnOne : MethodName := ⟨RX6, "learnOne", "(LWireBook$Book;)Z"⟩
abbrev cX6_sameWords : ByteArray := prog_1_method_38_code
def yX6_sameWords : MethodName := ⟨RX6, "sameWords", "([II[III)Z"⟩
abbrev cX6_mix : ByteArray := prog_1_method_39_code
def yX6_mix : MethodName := ⟨RX6, "mix", "(JI)J"⟩
abbrev cX6_mixRow : ByteArray := prog_1_method_40_code
def yX6_mixRow : MethodName := ⟨RX6, "mixRow", "(J[III)J"⟩
def RX7 : String := "WireBookModel"
def TX7 : u_T := fun k => match k with
  | 0 => ("WireBookModel", "thrown", "I", false)
  | 1 => ("WireBookModel", "price", "I", false)
  | 2 => ("WireBookModel", "line", "[I", true)
  | 3 => ("WireBookModel", "words", "I", false)
  | 4 => ("WireBookModel", "kept", "I", false)
  | 5 => ("WireBookModel", "keptSizes", "[I", true)
  | 6 => ("WireBookModel", "keptWords", "[I", true)
  | 7 => ("WireBookModel", "many", "[I", true)
  | 8 => ("WireBookModel", "codes", "[I", true)
  | 9 => ("WireBookModel", "sizes", "[I", true)
  | 10 => ("WireBookModel", "phrases", "[I", true)
  | 11 => ("WireBookModel", "groups", "I", false)
  | 12 => ("WireBookModel", "message", "[I", true)
  | 13 => ("WireBookModel", "read", "I", false)
  | 14 => ("WireBookModel", "hows", "[I", true)
  | 15 => ("WireBookModel", "left", "[I", true)
  | 16 => ("WireBookModel", "pieces", "[I", true)
  | 17 => ("WireBookModel", "proposedAt", "I", false)
  | _ => ("WireBookModel", "proposedSize", "I", false)
def tyX7 : Nat → FieldType := fun k => match k with
  | 0 => .int
  | 1 => .int
  | 2 => .array .int
  | 3 => .int
  | 4 => .int
  | 5 => .array .int
  | 6 => .array .int
  | 7 => .array .int
  | 8 => .array .int
  | 9 => .array .int
  | 10 => .array .int
  | 11 => .int
  | 12 => .array .int
  | 13 => .int
  | 14 => .array .int
  | 15 => .array .int
  | 16 => .array .int
  | 17 => .int
  | _ => .int
abbrev wsX70 : List Cond := u_ws RX7 TX7 19
theorem nmX7 : ∀ a, a < 19 → ∀ b, b < 19 → a ≠ b → (TX7 a).2.1 ≠ (TX7 b).2.1 := by decide +kernel
theorem tyX7_ok : ∀ k, k < 19 → parseFieldDescriptor (TX7 k).2.2.1 = some (tyX7 k) := by decide +kernel
abbrev cX7_init : ByteArray := prog_9_method_1_code
def yX7_init : MethodName := ⟨RX7, "<init>", "()V"⟩
abbrev cX7_thrown : ByteArray := prog_9_method_2_code
def yX7_thrown : MethodName := ⟨RX7, "thrown", "()I"⟩
abbrev cX7_no : ByteArray := prog_9_method_3_code
def yX7_no : MethodName := ⟨RX7, "no", "(I)I"⟩
abbrev cX7_isIn : ByteArray := prog_9_method_4_code
def yX7_isIn : MethodName := ⟨RX7, "isIn", "(III)Z"⟩
abbrev cX7_isBook : ByteArray := prog_9_method_5_code
def yX7_isBook : MethodName := ⟨RX7, "isBook", "(I)Z"⟩
abbrev cX7_isCode : ByteArray := prog_9_method_6_code
def yX7_isCode : MethodName := ⟨RX7, "isCode", "(I)Z"⟩
abbrev cX7_isEntry : ByteArray := prog_9_method_7_code
def yX7_isEntry : MethodName := ⟨RX7, "isEntry", "(II)Z"⟩
abbrev cX7_say : ByteArray := prog_9_method_8_code
def yX7_say : MethodName := ⟨RX7, "say", "(I)I"⟩
abbrev cX7_empty : ByteArray := prog_9_method_9_code
def yX7_empty : MethodName := ⟨RX7, "empty", "()I"⟩
abbrev cX7_words : ByteArray := prog_9_method_10_code
def yX7_words : MethodName := ⟨RX7, "words", "()I"⟩
abbrev cX7_wordAt : ByteArray := prog_9_method_11_code
def yX7_wordAt : MethodName := ⟨RX7, "wordAt", "(I)I"⟩
abbrev cX7_keep : ByteArray := prog_9_method_12_code
def yX7_keep : MethodName := ⟨RX7, "keep", "()I"⟩
abbrev cX7_recall : ByteArray := prog_9_method_13_code
def yX7_recall : MethodName := ⟨RX7, "recall", "(I)I"⟩
abbrev cX7_power : ByteArray := prog_9_method_14_code
def yX7_power : MethodName := ⟨RX7, "power", "(I)I"⟩
abbrev cX7_letterOf : ByteArray := prog_9_method_15_code
def yX7_letterOf : MethodName := ⟨RX7, "letterOf", "(II)I"⟩
abbrev cX7_letter : ByteArray := prog_9_method_16_code
def yX7_letter : MethodName := ⟨RX7, "letter", "(II)I"⟩
abbrev cX7_isOneOff : ByteArray := prog_9_method_17_code
def yX7_isOneOff : MethodName := ⟨RX7, "isOneOff", "(II)Z"⟩
abbrev cX7_swapped : ByteArray := prog_9_method_18_code
def yX7_swapped : MethodName := ⟨RX7, "swapped", "(II)I"⟩
abbrev cX7_isSwapped : ByteArray := prog_9_method_19_code
def yX7_isSwapped : MethodName := ⟨RX7, "isSwapped", "(II)Z"⟩
abbrev cX7_reasonFor : ByteArray := prog_9_method_20_code
def yX7_reasonFor : MethodName := ⟨RX7, "reasonFor", "(II)I"⟩
abbrev cX7_reason : ByteArray := prog_9_method_21_code
def yX7_reason : MethodName := ⟨RX7, "reason", "(II)I"⟩
abbrev cX7_fitFrom : ByteArray := prog_9_method_22_code
def yX7_fitFrom : MethodName := ⟨RX7, "fitFrom", "(II)I"⟩
abbrev cX7_firstFit : ByteArray := prog_9_method_23_code
def yX7_firstFit : MethodName := ⟨RX7, "firstFit", "(II)I"⟩
abbrev cX7_add : ByteArray := prog_9_method_24_code
def yX7_add : MethodName := ⟨RX7, "add", "(II[III)V"⟩
abbrev cX7_define : ByteArray := prog_9_method_25_code
def yX7_define : MethodName := ⟨RX7, "define", "(II)I"⟩
abbrev cX7_drop : ByteArray := prog_9_method_26_code
def yX7_drop : MethodName := ⟨RX7, "drop", "(II)I"⟩
abbrev cX7_entries : ByteArray := prog_9_method_27_code
def yX7_entries : MethodName := ⟨RX7, "entries", "(I)I"⟩
abbrev cX7_entry : ByteArray := prog_9_method_28_code
def yX7_entry : MethodName := ⟨RX7, "entry", "(III)I"⟩
abbrev cX7_entryOf : ByteArray := prog_9_method_29_code
def yX7_entryOf : MethodName := ⟨RX7, "entryOf", "(II)I"⟩
abbrev cX7_find : ByteArray := prog_9_method_30_code
def yX7_find : MethodName := ⟨RX7, "find", "(II)I"⟩
abbrev cX7_setPrice : ByteArray := prog_9_method_31_code
def yX7_setPrice : MethodName := ⟨RX7, "setPrice", "(I)I"⟩
abbrev cX7_stands : ByteArray := prog_9_method_32_code
def yX7_stands : MethodName := ⟨RX7, "stands", "(I[III)Z"⟩
abbrev cX7_divide : ByteArray := prog_9_method_33_code
def yX7_divide : MethodName := ⟨RX7, "divide", "(I[III)I"⟩
abbrev cX7_encode : ByteArray := prog_9_method_34_code
def yX7_encode : MethodName := ⟨RX7, "encode", "(I)I"⟩
abbrev cX7_groups : ByteArray := prog_9_method_35_code
def yX7_groups : MethodName := ⟨RX7, "groups", "()I"⟩
abbrev cX7_isGroup : ByteArray := prog_9_method_36_code
def yX7_isGroup : MethodName := ⟨RX7, "isGroup", "(I)Z"⟩
abbrev cX7_group : ByteArray := prog_9_method_37_code
def yX7_group : MethodName := ⟨RX7, "group", "(I)I"⟩
abbrev cX7_garble : ByteArray := prog_9_method_38_code
def yX7_garble : MethodName := ⟨RX7, "garble", "(III)I"⟩
abbrev cX7_swap : ByteArray := prog_9_method_39_code
def yX7_swap : MethodName := ⟨RX7, "swap", "(II)I"⟩
abbrev cX7_meant : ByteArray := prog_9_method_40_code
def yX7_meant : MethodName := ⟨RX7, "meant", "(II)I"⟩
abbrev cX7_write : ByteArray := prog_9_method_41_code
def yX7_write : MethodName := ⟨RX7, "write", "(I)V"⟩
abbrev cX7_decode : ByteArray := prog_9_method_42_code
def yX7_decode : MethodName := ⟨RX7, "decode", "(I)I"⟩
abbrev cX7_how : ByteArray := prog_9_method_43_code
def yX7_how : MethodName := ⟨RX7, "how", "(I)I"⟩
abbrev cX7_cost : ByteArray := prog_9_method_44_code
def yX7_cost : MethodName := ⟨RX7, "cost", "()I"⟩
abbrev cX7_unitsOf : ByteArray := prog_9_method_45_code
def yX7_unitsOf : MethodName := ⟨RX7, "unitsOf", "(I)I"⟩
abbrev cX7_time : ByteArray := prog_9_method_46_code
def yX7_time : MethodName := ⟨RX7, "time", "()I"⟩
abbrev cX7_share : ByteArray := prog_9_method_47_code
def yX7_share : MethodName := ⟨RX7, "share", "(I)D"⟩
abbrev cX7_isSame : ByteArray := prog_9_method_48_code
def yX7_isSame : MethodName := ⟨RX7, "isSame", "(III)Z"⟩
abbrev cX7_timesOf : ByteArray := prog_9_method_49_code
def yX7_timesOf : MethodName := ⟨RX7, "timesOf", "(II)I"⟩
abbrev cX7_isInBook : ByteArray := prog_9_method_50_code
def yX7_isInBook : MethodName := ⟨RX7, "isInBook", "(III)Z"⟩
abbrev cX7_proposal : ByteArray := prog_9_method_51_code
def yX7_proposal : MethodName := ⟨RX7, "proposal", "(I)I"⟩
abbrev cX7_propose : ByteArray := prog_9_method_52_code
def yX7_propose : MethodName := ⟨RX7, "propose", "(I)I"⟩
abbrev cX7_learn : ByteArray := prog_9_method_53_code
def yX7_learn : MethodName := ⟨RX7, "learn", "(II)I"⟩
abbrev cX7_digest : ByteArray := prog_9_method_54_code
def yX7_digest : MethodName := ⟨RX7, "digest", "()J"⟩
def RJx145de : String := "java/io/Serializable"
def RJ9 : String := "java/lang/Math"
abbrev cJ9_floorMod_7cf53 : ByteArray := prog_14_method_50_code
def yJ9_floorMod_7cf53 : MethodName := ⟨RJ9, "floorMod", "(II)I"⟩
abbrev cJ9_min_7cf53 : ByteArray := prog_14_method_69_code
def yJ9_min_7cf53 : MethodName := ⟨RJ9, "min", "(II)I"⟩
def RJ0 : String := "java/lang/String"
def RJ10 : String := "java/lang/System"
def RJ7 : String := "java/util/Arrays"
abbrev cJ7_fill_53178 : ByteArray := prog_19_method_103_code
def yJ7_fill_53178 : MethodName := ⟨RJ7, "fill", "([II)V"⟩
def RL : String := "WireBookLaw"
abbrev cL_say : ByteArray := method_3_code
def yL_say : MethodName := ⟨RL, "say", "(LWireBook;I[J)I"⟩
abbrev cL_wordAt : ByteArray := method_4_code
def yL_wordAt : MethodName := ⟨RL, "wordAt", "(LWireBook;I[J)I"⟩
abbrev cL_keep : ByteArray := method_5_code
def yL_keep : MethodName := ⟨RL, "keep", "(LWireBook;[J)I"⟩
abbrev cL_recall : ByteArray := method_6_code
def yL_recall : MethodName := ⟨RL, "recall", "(LWireBook;I[J)I"⟩
abbrev cL_letter : ByteArray := method_7_code
def yL_letter : MethodName := ⟨RL, "letter", "(LWireBook;II[J)I"⟩
abbrev cL_reason : ByteArray := method_8_code
def yL_reason : MethodName := ⟨RL, "reason", "(LWireBook;II[J)I"⟩
abbrev cL_firstFit : ByteArray := method_9_code
def yL_firstFit : MethodName := ⟨RL, "firstFit", "(LWireBook;II[J)I"⟩
abbrev cL_define : ByteArray := method_10_code
def yL_define : MethodName := ⟨RL, "define", "(LWireBook;II[J)I"⟩
abbrev cL_drop : ByteArray := method_11_code
def yL_drop : MethodName := ⟨RL, "drop", "(LWireBook;II[J)I"⟩
abbrev cL_entries : ByteArray := method_12_code
def yL_entries : MethodName := ⟨RL, "entries", "(LWireBook;I[J)I"⟩
abbrev cL_entry : ByteArray := method_13_code
def yL_entry : MethodName := ⟨RL, "entry", "(LWireBook;III[J)I"⟩
abbrev cL_find : ByteArray := method_14_code
def yL_find : MethodName := ⟨RL, "find", "(LWireBook;II[J)I"⟩
abbrev cL_setPrice : ByteArray := method_15_code
def yL_setPrice : MethodName := ⟨RL, "setPrice", "(LWireBook;I[J)I"⟩
abbrev cL_encode : ByteArray := method_16_code
def yL_encode : MethodName := ⟨RL, "encode", "(LWireBook;I[J)I"⟩
abbrev cL_group : ByteArray := method_17_code
def yL_group : MethodName := ⟨RL, "group", "(LWireBook;I[J)I"⟩
abbrev cL_garble : ByteArray := method_18_code
def yL_garble : MethodName := ⟨RL, "garble", "(LWireBook;III[J)I"⟩
abbrev cL_swap : ByteArray := method_19_code
def yL_swap : MethodName := ⟨RL, "swap", "(LWireBook;II[J)I"⟩
abbrev cL_decode : ByteArray := method_20_code
def yL_decode : MethodName := ⟨RL, "decode", "(LWireBook;I[J)I"⟩
abbrev cL_how : ByteArray := method_21_code
def yL_how : MethodName := ⟨RL, "how", "(LWireBook;I[J)I"⟩
abbrev cL_share : ByteArray := method_22_code
def yL_share : MethodName := ⟨RL, "share", "(LWireBook;I[D)I"⟩
abbrev cL_propose : ByteArray := method_23_code
def yL_propose : MethodName := ⟨RL, "propose", "(LWireBook;I[J)I"⟩
abbrev cL_learn : ByteArray := method_24_code
def yL_learn : MethodName := ⟨RL, "learn", "(LWireBook;II[J)I"⟩
abbrev cL_law : ByteArray := code
def yL_law : MethodName := ⟨RL, "law", "([I)Z"⟩
abbrev vwCl : List vw_C := [(RX0, TX0, 4), (RX2, TX2, 2), (RX3, TX3, 5), (RX4, TX4, 2), (RX5, TX5, 2), (RX6, TX6, 8), (RX7, TX7, 19)]
end
section
theorem dX0_init_0 : decode cX0_init 0 = .ok (.aload_n 0, 1) := by decide +kernel
theorem dX0_init_1 : decode cX0_init 1 = .ok (.invokespecial 3, 3) := by decide +kernel
theorem dX0_init_4 : decode cX0_init 4 = .ok (.aload_n 0, 1) := by decide +kernel
theorem dX0_init_5 : decode cX0_init 5 = .ok (.bipush 40, 2) := by decide +kernel
theorem dX0_init_7 : decode cX0_init 7 = .ok (.newarray .int, 2) := by decide +kernel
theorem dX0_init_9 : decode cX0_init 9 = .ok (.putfield 9, 3) := by decide +kernel
theorem dX0_init_12 : decode cX0_init 12 = .ok (.aload_n 0, 1) := by decide +kernel
theorem dX0_init_13 : decode cX0_init 13 = .ok (.bipush 40, 2) := by decide +kernel
theorem dX0_init_15 : decode cX0_init 15 = .ok (.newarray .int, 2) := by decide +kernel
theorem dX0_init_17 : decode cX0_init 17 = .ok (.putfield 15, 3) := by decide +kernel
theorem dX0_init_20 : decode cX0_init 20 = .ok (.aload_n 0, 1) := by decide +kernel
theorem dX0_init_21 : decode cX0_init 21 = .ok (.sipush 240, 3) := by decide +kernel
theorem dX0_init_24 : decode cX0_init 24 = .ok (.newarray .int, 2) := by decide +kernel
theorem dX0_init_26 : decode cX0_init 26 = .ok (.putfield 18, 3) := by decide +kernel
theorem dX0_init_29 : decode cX0_init 29 = .ok (.return_, 1) := by decide +kernel
theorem dX0_startOf_0 : decode cX0_startOf 0 = .ok (.iload_n 0, 1) := by decide +kernel
theorem dX0_startOf_1 : decode cX0_startOf 1 = .ok (.bipush 6, 2) := by decide +kernel
theorem dX0_startOf_3 : decode cX0_startOf 3 = .ok (.imul, 1) := by decide +kernel
theorem dX0_startOf_4 : decode cX0_startOf 4 = .ok (.ireturn, 1) := by decide +kernel
theorem dX0_add_0 : decode cX0_add 0 = .ok (.aload_n 0, 1) := by decide +kernel
theorem dX0_add_1 : decode cX0_add 1 = .ok (.getfield 21, 3) := by decide +kernel
theorem dX0_add_4 : decode cX0_add 4 = .ok (.bipush 40, 2) := by decide +kernel
theorem dX0_add_6 : decode cX0_add 6 = .ok (.if_icmp .ge 12, 3) := by decide +kernel
theorem dX0_add_9 : decode cX0_add 9 = .ok (.aload_n 2, 1) := by decide +kernel
theorem dX0_add_10 : decode cX0_add 10 = .ok (.getfield 25, 3) := by decide +kernel
theorem dX0_add_13 : decode cX0_add 13 = .ok (.bipush 6, 2) := by decide +kernel
theorem dX0_add_15 : decode cX0_add 15 = .ok (.if_icmp .le 4, 3) := by decide +kernel
theorem dX0_add_18 : decode cX0_add 18 = .ok (.return_, 1) := by decide +kernel
theorem dX0_add_19 : decode cX0_add 19 = .ok (.aload_n 0, 1) := by decide +kernel
theorem dX0_add_20 : decode cX0_add 20 = .ok (.getfield 9, 3) := by decide +kernel
theorem dX0_add_23 : decode cX0_add 23 = .ok (.aload_n 0, 1) := by decide +kernel
theorem dX0_add_24 : decode cX0_add 24 = .ok (.getfield 21, 3) := by decide +kernel
theorem dX0_add_27 : decode cX0_add 27 = .ok (.iload_n 1, 1) := by decide +kernel
theorem dX0_add_28 : decode cX0_add 28 = .ok (.iastore, 1) := by decide +kernel
theorem dX0_add_29 : decode cX0_add 29 = .ok (.aload_n 0, 1) := by decide +kernel
theorem dX0_add_30 : decode cX0_add 30 = .ok (.getfield 15, 3) := by decide +kernel
theorem dX0_add_33 : decode cX0_add 33 = .ok (.aload_n 0, 1) := by decide +kernel
theorem dX0_add_34 : decode cX0_add 34 = .ok (.getfield 21, 3) := by decide +kernel
theorem dX0_add_37 : decode cX0_add 37 = .ok (.aload_n 2, 1) := by decide +kernel
theorem dX0_add_38 : decode cX0_add 38 = .ok (.getfield 25, 3) := by decide +kernel
theorem dX0_add_41 : decode cX0_add 41 = .ok (.iastore, 1) := by decide +kernel
theorem dX0_add_42 : decode cX0_add 42 = .ok (.aload_n 2, 1) := by decide +kernel
theorem dX0_add_43 : decode cX0_add 43 = .ok (.getfield 28, 3) := by decide +kernel
theorem dX0_add_46 : decode cX0_add 46 = .ok (.iconst 0, 1) := by decide +kernel
theorem dX0_add_47 : decode cX0_add 47 = .ok (.aload_n 0, 1) := by decide +kernel
theorem dX0_add_48 : decode cX0_add 48 = .ok (.getfield 18, 3) := by decide +kernel
theorem dX0_add_51 : decode cX0_add 51 = .ok (.aload_n 0, 1) := by decide +kernel
theorem dX0_add_52 : decode cX0_add 52 = .ok (.getfield 21, 3) := by decide +kernel
theorem dX0_add_55 : decode cX0_add 55 = .ok (.invokestatic 31, 3) := by decide +kernel
theorem dX0_add_58 : decode cX0_add 58 = .ok (.aload_n 2, 1) := by decide +kernel
theorem dX0_add_59 : decode cX0_add 59 = .ok (.getfield 25, 3) := by decide +kernel
theorem dX0_add_62 : decode cX0_add 62 = .ok (.invokestatic 35, 3) := by decide +kernel
theorem dX0_add_65 : decode cX0_add 65 = .ok (.aload_n 0, 1) := by decide +kernel
theorem dX0_add_66 : decode cX0_add 66 = .ok (.dup, 1) := by decide +kernel
theorem dX0_add_67 : decode cX0_add 67 = .ok (.getfield 21, 3) := by decide +kernel
theorem dX0_add_70 : decode cX0_add 70 = .ok (.iconst 1, 1) := by decide +kernel
theorem dX0_add_71 : decode cX0_add 71 = .ok (.iadd, 1) := by decide +kernel
theorem dX0_add_72 : decode cX0_add 72 = .ok (.putfield 21, 3) := by decide +kernel
theorem dX0_add_75 : decode cX0_add 75 = .ok (.return_, 1) := by decide +kernel
theorem dX0_remove_0 : decode cX0_remove 0 = .ok (.iload_n 1, 1) := by decide +kernel
theorem dX0_remove_1 : decode cX0_remove 1 = .ok (.iconst 1, 1) := by decide +kernel
theorem dX0_remove_2 : decode cX0_remove 2 = .ok (.iadd, 1) := by decide +kernel
theorem dX0_remove_3 : decode cX0_remove 3 = .ok (.istore_n 2, 1) := by decide +kernel
theorem dX0_remove_4 : decode cX0_remove 4 = .ok (.aload_n 0, 1) := by decide +kernel
theorem dX0_remove_5 : decode cX0_remove 5 = .ok (.getfield 21, 3) := by decide +kernel
theorem dX0_remove_8 : decode cX0_remove 8 = .ok (.iload_n 2, 1) := by decide +kernel
theorem dX0_remove_9 : decode cX0_remove 9 = .ok (.isub, 1) := by decide +kernel
theorem dX0_remove_10 : decode cX0_remove 10 = .ok (.istore_n 3, 1) := by decide +kernel
theorem dX0_remove_11 : decode cX0_remove 11 = .ok (.iload_n 1, 1) := by decide +kernel
theorem dX0_remove_12 : decode cX0_remove 12 = .ok (.ifCond .lt 7, 3) := by decide +kernel
theorem dX0_remove_15 : decode cX0_remove 15 = .ok (.iload_n 3, 1) := by decide +kernel
theorem dX0_remove_16 : decode cX0_remove 16 = .ok (.ifCond .ge 4, 3) := by decide +kernel
theorem dX0_remove_19 : decode cX0_remove 19 = .ok (.return_, 1) := by decide +kernel
theorem dX0_remove_20 : decode cX0_remove 20 = .ok (.aload_n 0, 1) := by decide +kernel
theorem dX0_remove_21 : decode cX0_remove 21 = .ok (.getfield 9, 3) := by decide +kernel
theorem dX0_remove_24 : decode cX0_remove 24 = .ok (.iload_n 2, 1) := by decide +kernel
theorem dX0_remove_25 : decode cX0_remove 25 = .ok (.aload_n 0, 1) := by decide +kernel
theorem dX0_remove_26 : decode cX0_remove 26 = .ok (.getfield 9, 3) := by decide +kernel
theorem dX0_remove_29 : decode cX0_remove 29 = .ok (.iload_n 1, 1) := by decide +kernel
theorem dX0_remove_30 : decode cX0_remove 30 = .ok (.iload_n 3, 1) := by decide +kernel
theorem dX0_remove_31 : decode cX0_remove 31 = .ok (.invokestatic 35, 3) := by decide +kernel
theorem dX0_remove_34 : decode cX0_remove 34 = .ok (.aload_n 0, 1) := by decide +kernel
theorem dX0_remove_35 : decode cX0_remove 35 = .ok (.getfield 15, 3) := by decide +kernel
theorem dX0_remove_38 : decode cX0_remove 38 = .ok (.iload_n 2, 1) := by decide +kernel
theorem dX0_remove_39 : decode cX0_remove 39 = .ok (.aload_n 0, 1) := by decide +kernel
theorem dX0_remove_40 : decode cX0_remove 40 = .ok (.getfield 15, 3) := by decide +kernel
theorem dX0_remove_43 : decode cX0_remove 43 = .ok (.iload_n 1, 1) := by decide +kernel
theorem dX0_remove_44 : decode cX0_remove 44 = .ok (.iload_n 3, 1) := by decide +kernel
theorem dX0_remove_45 : decode cX0_remove 45 = .ok (.invokestatic 35, 3) := by decide +kernel
theorem dX0_remove_48 : decode cX0_remove 48 = .ok (.aload_n 0, 1) := by decide +kernel
theorem dX0_remove_49 : decode cX0_remove 49 = .ok (.getfield 18, 3) := by decide +kernel
theorem dX0_remove_52 : decode cX0_remove 52 = .ok (.iload_n 2, 1) := by decide +kernel
theorem dX0_remove_53 : decode cX0_remove 53 = .ok (.invokestatic 31, 3) := by decide +kernel
theorem dX0_remove_56 : decode cX0_remove 56 = .ok (.aload_n 0, 1) := by decide +kernel
theorem dX0_remove_57 : decode cX0_remove 57 = .ok (.getfield 18, 3) := by decide +kernel
theorem dX0_remove_60 : decode cX0_remove 60 = .ok (.iload_n 1, 1) := by decide +kernel
theorem dX0_remove_61 : decode cX0_remove 61 = .ok (.invokestatic 31, 3) := by decide +kernel
theorem dX0_remove_64 : decode cX0_remove 64 = .ok (.iload_n 3, 1) := by decide +kernel
theorem dX0_remove_65 : decode cX0_remove 65 = .ok (.invokestatic 31, 3) := by decide +kernel
theorem dX0_remove_68 : decode cX0_remove 68 = .ok (.invokestatic 35, 3) := by decide +kernel
theorem dX0_remove_71 : decode cX0_remove 71 = .ok (.aload_n 0, 1) := by decide +kernel
theorem dX0_remove_72 : decode cX0_remove 72 = .ok (.dup, 1) := by decide +kernel
theorem dX0_remove_73 : decode cX0_remove 73 = .ok (.getfield 21, 3) := by decide +kernel
theorem dX0_remove_76 : decode cX0_remove 76 = .ok (.iconst 1, 1) := by decide +kernel
theorem dX0_remove_77 : decode cX0_remove 77 = .ok (.isub, 1) := by decide +kernel
theorem dX0_remove_78 : decode cX0_remove 78 = .ok (.putfield 21, 3) := by decide +kernel
theorem dX0_remove_81 : decode cX0_remove 81 = .ok (.return_, 1) := by decide +kernel
theorem dX0_latestCode_0 : decode cX0_latestCode 0 = .ok (.aload_n 0, 1) := by decide +kernel
theorem dX0_latestCode_1 : decode cX0_latestCode 1 = .ok (.getfield 21, 3) := by decide +kernel
theorem dX0_latestCode_4 : decode cX0_latestCode 4 = .ok (.ifCond .ne 7, 3) := by decide +kernel
theorem dX0_latestCode_7 : decode cX0_latestCode 7 = .ok (.iconst 0, 1) := by decide +kernel
theorem dX0_latestCode_8 : decode cX0_latestCode 8 = .ok (.goto 14, 3) := by decide +kernel
theorem dX0_latestCode_11 : decode cX0_latestCode 11 = .ok (.aload_n 0, 1) := by decide +kernel
theorem dX0_latestCode_12 : decode cX0_latestCode 12 = .ok (.getfield 9, 3) := by decide +kernel
theorem dX0_latestCode_15 : decode cX0_latestCode 15 = .ok (.aload_n 0, 1) := by decide +kernel
theorem dX0_latestCode_16 : decode cX0_latestCode 16 = .ok (.getfield 21, 3) := by decide +kernel
theorem dX0_latestCode_19 : decode cX0_latestCode 19 = .ok (.iconst 1, 1) := by decide +kernel
theorem dX0_latestCode_20 : decode cX0_latestCode 20 = .ok (.isub, 1) := by decide +kernel
theorem dX0_latestCode_21 : decode cX0_latestCode 21 = .ok (.iaload, 1) := by decide +kernel
theorem dX0_latestCode_22 : decode cX0_latestCode 22 = .ok (.ireturn, 1) := by decide +kernel
theorem dX0_entryWith_0 : decode cX0_entryWith 0 = .ok (.iconst 0, 1) := by decide +kernel
theorem dX0_entryWith_1 : decode cX0_entryWith 1 = .ok (.istore_n 2, 1) := by decide +kernel
theorem dX0_entryWith_2 : decode cX0_entryWith 2 = .ok (.iload_n 2, 1) := by decide +kernel
theorem dX0_entryWith_3 : decode cX0_entryWith 3 = .ok (.aload_n 0, 1) := by decide +kernel
theorem dX0_entryWith_4 : decode cX0_entryWith 4 = .ok (.getfield 21, 3) := by decide +kernel
theorem dX0_entryWith_7 : decode cX0_entryWith 7 = .ok (.if_icmp .ge 21, 3) := by decide +kernel
theorem dX0_entryWith_10 : decode cX0_entryWith 10 = .ok (.aload_n 0, 1) := by decide +kernel
theorem dX0_entryWith_11 : decode cX0_entryWith 11 = .ok (.getfield 9, 3) := by decide +kernel
theorem dX0_entryWith_14 : decode cX0_entryWith 14 = .ok (.iload_n 2, 1) := by decide +kernel
theorem dX0_entryWith_15 : decode cX0_entryWith 15 = .ok (.iaload, 1) := by decide +kernel
theorem dX0_entryWith_16 : decode cX0_entryWith 16 = .ok (.iload_n 1, 1) := by decide +kernel
theorem dX0_entryWith_17 : decode cX0_entryWith 17 = .ok (.if_icmp .ne 5, 3) := by decide +kernel
theorem dX0_entryWith_20 : decode cX0_entryWith 20 = .ok (.iload_n 2, 1) := by decide +kernel
theorem dX0_entryWith_21 : decode cX0_entryWith 21 = .ok (.ireturn, 1) := by decide +kernel
theorem dX0_entryWith_22 : decode cX0_entryWith 22 = .ok (.iinc 2 1, 3) := by decide +kernel
theorem dX0_entryWith_25 : decode cX0_entryWith 25 = .ok (.goto (-23), 3) := by decide +kernel
theorem dX0_entryWith_28 : decode cX0_entryWith 28 = .ok (.iconst (-1), 1) := by decide +kernel
theorem dX0_entryWith_29 : decode cX0_entryWith 29 = .ok (.ireturn, 1) := by decide +kernel
theorem dX0_reasonAgainst_0 : decode cX0_reasonAgainst 0 = .ok (.aload_n 0, 1) := by decide +kernel
theorem dX0_reasonAgainst_1 : decode cX0_reasonAgainst 1 = .ok (.getfield 21, 3) := by decide +kernel
theorem dX0_reasonAgainst_4 : decode cX0_reasonAgainst 4 = .ok (.bipush 40, 2) := by decide +kernel
theorem dX0_reasonAgainst_6 : decode cX0_reasonAgainst 6 = .ok (.if_icmp .lt 5, 3) := by decide +kernel
theorem dX0_reasonAgainst_9 : decode cX0_reasonAgainst 9 = .ok (.iconst 1, 1) := by decide +kernel
theorem dX0_reasonAgainst_10 : decode cX0_reasonAgainst 10 = .ok (.ireturn, 1) := by decide +kernel
theorem dX0_reasonAgainst_11 : decode cX0_reasonAgainst 11 = .ok (.iconst 0, 1) := by decide +kernel
theorem dX0_reasonAgainst_12 : decode cX0_reasonAgainst 12 = .ok (.istore_n 2, 1) := by decide +kernel
theorem dX0_reasonAgainst_13 : decode cX0_reasonAgainst 13 = .ok (.iconst 0, 1) := by decide +kernel
theorem dX0_reasonAgainst_14 : decode cX0_reasonAgainst 14 = .ok (.istore_n 3, 1) := by decide +kernel
theorem dX0_reasonAgainst_15 : decode cX0_reasonAgainst 15 = .ok (.iload_n 3, 1) := by decide +kernel
theorem dX0_reasonAgainst_16 : decode cX0_reasonAgainst 16 = .ok (.aload_n 0, 1) := by decide +kernel
theorem dX0_reasonAgainst_17 : decode cX0_reasonAgainst 17 = .ok (.getfield 21, 3) := by decide +kernel
theorem dX0_reasonAgainst_20 : decode cX0_reasonAgainst 20 = .ok (.if_icmp .ge 39, 3) := by decide +kernel
theorem dX0_reasonAgainst_23 : decode cX0_reasonAgainst 23 = .ok (.aload_n 0, 1) := by decide +kernel
theorem dX0_reasonAgainst_24 : decode cX0_reasonAgainst 24 = .ok (.getfield 9, 3) := by decide +kernel
theorem dX0_reasonAgainst_27 : decode cX0_reasonAgainst 27 = .ok (.iload_n 3, 1) := by decide +kernel
theorem dX0_reasonAgainst_28 : decode cX0_reasonAgainst 28 = .ok (.iaload, 1) := by decide +kernel
theorem dX0_reasonAgainst_29 : decode cX0_reasonAgainst 29 = .ok (.iload_n 1, 1) := by decide +kernel
theorem dX0_reasonAgainst_30 : decode cX0_reasonAgainst 30 = .ok (.invokestatic 41, 3) := by decide +kernel
theorem dX0_reasonAgainst_33 : decode cX0_reasonAgainst 33 = .ok (.istore 4, 2) := by decide +kernel
theorem dX0_reasonAgainst_35 : decode cX0_reasonAgainst 35 = .ok (.iload 4, 2) := by decide +kernel
theorem dX0_reasonAgainst_37 : decode cX0_reasonAgainst 37 = .ok (.ifCond .eq 16, 3) := by decide +kernel
theorem dX0_reasonAgainst_40 : decode cX0_reasonAgainst 40 = .ok (.iload_n 2, 1) := by decide +kernel
theorem dX0_reasonAgainst_41 : decode cX0_reasonAgainst 41 = .ok (.ifCond .eq 9, 3) := by decide +kernel
theorem dX0_reasonAgainst_44 : decode cX0_reasonAgainst 44 = .ok (.iload 4, 2) := by decide +kernel
theorem dX0_reasonAgainst_46 : decode cX0_reasonAgainst 46 = .ok (.iload_n 2, 1) := by decide +kernel
theorem dX0_reasonAgainst_47 : decode cX0_reasonAgainst 47 = .ok (.if_icmp .ge 6, 3) := by decide +kernel
theorem dX0_reasonAgainst_50 : decode cX0_reasonAgainst 50 = .ok (.iload 4, 2) := by decide +kernel
theorem dX0_reasonAgainst_52 : decode cX0_reasonAgainst 52 = .ok (.istore_n 2, 1) := by decide +kernel
theorem dX0_reasonAgainst_53 : decode cX0_reasonAgainst 53 = .ok (.iinc 3 1, 3) := by decide +kernel
theorem dX0_reasonAgainst_56 : decode cX0_reasonAgainst 56 = .ok (.goto (-41), 3) := by decide +kernel
theorem dX0_reasonAgainst_59 : decode cX0_reasonAgainst 59 = .ok (.iload_n 2, 1) := by decide +kernel
theorem dX0_reasonAgainst_60 : decode cX0_reasonAgainst 60 = .ok (.ireturn, 1) := by decide +kernel
theorem dX0_fitFrom_0 : decode cX0_fitFrom 0 = .ok (.aload_n 0, 1) := by decide +kernel
theorem dX0_fitFrom_1 : decode cX0_fitFrom 1 = .ok (.getfield 21, 3) := by decide +kernel
theorem dX0_fitFrom_4 : decode cX0_fitFrom 4 = .ok (.bipush 40, 2) := by decide +kernel
theorem dX0_fitFrom_6 : decode cX0_fitFrom 6 = .ok (.if_icmp .lt 5, 3) := by decide +kernel
theorem dX0_fitFrom_9 : decode cX0_fitFrom 9 = .ok (.iconst (-1), 1) := by decide +kernel
theorem dX0_fitFrom_10 : decode cX0_fitFrom 10 = .ok (.ireturn, 1) := by decide +kernel
theorem dX0_fitFrom_11 : decode cX0_fitFrom 11 = .ok (.iload_n 1, 1) := by decide +kernel
theorem dX0_fitFrom_12 : decode cX0_fitFrom 12 = .ok (.istore_n 2, 1) := by decide +kernel
theorem dX0_fitFrom_13 : decode cX0_fitFrom 13 = .ok (.iload_n 2, 1) := by decide +kernel
theorem dX0_fitFrom_14 : decode cX0_fitFrom 14 = .ok (.iload_n 1, 1) := by decide +kernel
theorem dX0_fitFrom_15 : decode cX0_fitFrom 15 = .ok (.sipush 2000, 3) := by decide +kernel
theorem dX0_fitFrom_18 : decode cX0_fitFrom 18 = .ok (.iadd, 1) := by decide +kernel
theorem dX0_fitFrom_19 : decode cX0_fitFrom 19 = .ok (.if_icmp .gt 25, 3) := by decide +kernel
theorem dX0_fitFrom_22 : decode cX0_fitFrom 22 = .ok (.iload_n 2, 1) := by decide +kernel
theorem dX0_fitFrom_23 : decode cX0_fitFrom 23 = .ok (.ldc 47, 2) := by decide +kernel
theorem dX0_fitFrom_25 : decode cX0_fitFrom 25 = .ok (.if_icmp .gt 19, 3) := by decide +kernel
theorem dX0_fitFrom_28 : decode cX0_fitFrom 28 = .ok (.aload_n 0, 1) := by decide +kernel
theorem dX0_fitFrom_29 : decode cX0_fitFrom 29 = .ok (.iload_n 2, 1) := by decide +kernel
theorem dX0_fitFrom_30 : decode cX0_fitFrom 30 = .ok (.invokevirtual 48, 3) := by decide +kernel
theorem dX0_fitFrom_33 : decode cX0_fitFrom 33 = .ok (.ifCond .ne 5, 3) := by decide +kernel
theorem dX0_fitFrom_36 : decode cX0_fitFrom 36 = .ok (.iload_n 2, 1) := by decide +kernel
theorem dX0_fitFrom_37 : decode cX0_fitFrom 37 = .ok (.ireturn, 1) := by decide +kernel
theorem dX0_fitFrom_38 : decode cX0_fitFrom 38 = .ok (.iinc 2 1, 3) := by decide +kernel
theorem dX0_fitFrom_41 : decode cX0_fitFrom 41 = .ok (.goto (-28), 3) := by decide +kernel
theorem dX0_fitFrom_44 : decode cX0_fitFrom 44 = .ok (.iconst (-1), 1) := by decide +kernel
theorem dX0_fitFrom_45 : decode cX0_fitFrom 45 = .ok (.ireturn, 1) := by decide +kernel
theorem dX0_onlyEntryLike_0 : decode cX0_onlyEntryLike 0 = .ok (.iconst (-1), 1) := by decide +kernel
theorem dX0_onlyEntryLike_1 : decode cX0_onlyEntryLike 1 = .ok (.istore_n 2, 1) := by decide +kernel
theorem dX0_onlyEntryLike_2 : decode cX0_onlyEntryLike 2 = .ok (.iconst 0, 1) := by decide +kernel
theorem dX0_onlyEntryLike_3 : decode cX0_onlyEntryLike 3 = .ok (.istore_n 3, 1) := by decide +kernel
theorem dX0_onlyEntryLike_4 : decode cX0_onlyEntryLike 4 = .ok (.iload_n 3, 1) := by decide +kernel
theorem dX0_onlyEntryLike_5 : decode cX0_onlyEntryLike 5 = .ok (.aload_n 0, 1) := by decide +kernel
theorem dX0_onlyEntryLike_6 : decode cX0_onlyEntryLike 6 = .ok (.getfield 21, 3) := by decide +kernel
theorem dX0_onlyEntryLike_9 : decode cX0_onlyEntryLike 9 = .ok (.if_icmp .ge 31, 3) := by decide +kernel
theorem dX0_onlyEntryLike_12 : decode cX0_onlyEntryLike 12 = .ok (.aload_n 0, 1) := by decide +kernel
theorem dX0_onlyEntryLike_13 : decode cX0_onlyEntryLike 13 = .ok (.getfield 9, 3) := by decide +kernel
theorem dX0_onlyEntryLike_16 : decode cX0_onlyEntryLike 16 = .ok (.iload_n 3, 1) := by decide +kernel
theorem dX0_onlyEntryLike_17 : decode cX0_onlyEntryLike 17 = .ok (.iaload, 1) := by decide +kernel
theorem dX0_onlyEntryLike_18 : decode cX0_onlyEntryLike 18 = .ok (.iload_n 1, 1) := by decide +kernel
theorem dX0_onlyEntryLike_19 : decode cX0_onlyEntryLike 19 = .ok (.invokestatic 41, 3) := by decide +kernel
theorem dX0_onlyEntryLike_22 : decode cX0_onlyEntryLike 22 = .ok (.ifCond .eq 12, 3) := by decide +kernel
theorem dX0_onlyEntryLike_25 : decode cX0_onlyEntryLike 25 = .ok (.iload_n 2, 1) := by decide +kernel
theorem dX0_onlyEntryLike_26 : decode cX0_onlyEntryLike 26 = .ok (.iconst (-1), 1) := by decide +kernel
theorem dX0_onlyEntryLike_27 : decode cX0_onlyEntryLike 27 = .ok (.if_icmp .eq 5, 3) := by decide +kernel
theorem dX0_onlyEntryLike_30 : decode cX0_onlyEntryLike 30 = .ok (.iconst (-1), 1) := by decide +kernel
theorem dX0_onlyEntryLike_31 : decode cX0_onlyEntryLike 31 = .ok (.ireturn, 1) := by decide +kernel
theorem dX0_onlyEntryLike_32 : decode cX0_onlyEntryLike 32 = .ok (.iload_n 3, 1) := by decide +kernel
theorem dX0_onlyEntryLike_33 : decode cX0_onlyEntryLike 33 = .ok (.istore_n 2, 1) := by decide +kernel
theorem dX0_onlyEntryLike_34 : decode cX0_onlyEntryLike 34 = .ok (.iinc 3 1, 3) := by decide +kernel
theorem dX0_onlyEntryLike_37 : decode cX0_onlyEntryLike 37 = .ok (.goto (-33), 3) := by decide +kernel
theorem dX0_onlyEntryLike_40 : decode cX0_onlyEntryLike 40 = .ok (.iload_n 2, 1) := by decide +kernel
theorem dX0_onlyEntryLike_41 : decode cX0_onlyEntryLike 41 = .ok (.ireturn, 1) := by decide +kernel
theorem dX0_hasPhrase_0 : decode cX0_hasPhrase 0 = .ok (.iconst 0, 1) := by decide +kernel
theorem dX0_hasPhrase_1 : decode cX0_hasPhrase 1 = .ok (.istore 4, 2) := by decide +kernel
theorem dX0_hasPhrase_3 : decode cX0_hasPhrase 3 = .ok (.iload 4, 2) := by decide +kernel
theorem dX0_hasPhrase_5 : decode cX0_hasPhrase 5 = .ok (.aload_n 0, 1) := by decide +kernel
theorem dX0_hasPhrase_6 : decode cX0_hasPhrase 6 = .ok (.getfield 21, 3) := by decide +kernel
theorem dX0_hasPhrase_9 : decode cX0_hasPhrase 9 = .ok (.if_icmp .ge 40, 3) := by decide +kernel
theorem dX0_hasPhrase_12 : decode cX0_hasPhrase 12 = .ok (.aload_n 0, 1) := by decide +kernel
theorem dX0_hasPhrase_13 : decode cX0_hasPhrase 13 = .ok (.getfield 15, 3) := by decide +kernel
theorem dX0_hasPhrase_16 : decode cX0_hasPhrase 16 = .ok (.iload 4, 2) := by decide +kernel
theorem dX0_hasPhrase_18 : decode cX0_hasPhrase 18 = .ok (.iaload, 1) := by decide +kernel
theorem dX0_hasPhrase_19 : decode cX0_hasPhrase 19 = .ok (.iload_n 3, 1) := by decide +kernel
theorem dX0_hasPhrase_20 : decode cX0_hasPhrase 20 = .ok (.if_icmp .ne 23, 3) := by decide +kernel
theorem dX0_hasPhrase_23 : decode cX0_hasPhrase 23 = .ok (.aload_n 0, 1) := by decide +kernel
theorem dX0_hasPhrase_24 : decode cX0_hasPhrase 24 = .ok (.getfield 18, 3) := by decide +kernel
theorem dX0_hasPhrase_27 : decode cX0_hasPhrase 27 = .ok (.iload 4, 2) := by decide +kernel
theorem dX0_hasPhrase_29 : decode cX0_hasPhrase 29 = .ok (.invokestatic 31, 3) := by decide +kernel
theorem dX0_hasPhrase_32 : decode cX0_hasPhrase 32 = .ok (.aload_n 1, 1) := by decide +kernel
theorem dX0_hasPhrase_33 : decode cX0_hasPhrase 33 = .ok (.iload_n 2, 1) := by decide +kernel
theorem dX0_hasPhrase_34 : decode cX0_hasPhrase 34 = .ok (.iload_n 3, 1) := by decide +kernel
theorem dX0_hasPhrase_35 : decode cX0_hasPhrase 35 = .ok (.invokestatic 51, 3) := by decide +kernel
theorem dX0_hasPhrase_38 : decode cX0_hasPhrase 38 = .ok (.ifCond .eq 5, 3) := by decide +kernel
theorem dX0_hasPhrase_41 : decode cX0_hasPhrase 41 = .ok (.iconst 1, 1) := by decide +kernel
theorem dX0_hasPhrase_42 : decode cX0_hasPhrase 42 = .ok (.ireturn, 1) := by decide +kernel
theorem dX0_hasPhrase_43 : decode cX0_hasPhrase 43 = .ok (.iinc 4 1, 3) := by decide +kernel
theorem dX0_hasPhrase_46 : decode cX0_hasPhrase 46 = .ok (.goto (-43), 3) := by decide +kernel
theorem dX0_hasPhrase_49 : decode cX0_hasPhrase 49 = .ok (.iconst 0, 1) := by decide +kernel
theorem dX0_hasPhrase_50 : decode cX0_hasPhrase 50 = .ok (.ireturn, 1) := by decide +kernel
theorem dX0_goesAhead_0 : decode cX0_goesAhead 0 = .ok (.iload_n 2, 1) := by decide +kernel
theorem dX0_goesAhead_1 : decode cX0_goesAhead 1 = .ok (.iconst (-1), 1) := by decide +kernel
theorem dX0_goesAhead_2 : decode cX0_goesAhead 2 = .ok (.if_icmp .eq 18, 3) := by decide +kernel
theorem dX0_goesAhead_5 : decode cX0_goesAhead 5 = .ok (.aload_n 0, 1) := by decide +kernel
theorem dX0_goesAhead_6 : decode cX0_goesAhead 6 = .ok (.getfield 15, 3) := by decide +kernel
theorem dX0_goesAhead_9 : decode cX0_goesAhead 9 = .ok (.iload_n 1, 1) := by decide +kernel
theorem dX0_goesAhead_10 : decode cX0_goesAhead 10 = .ok (.iaload, 1) := by decide +kernel
theorem dX0_goesAhead_11 : decode cX0_goesAhead 11 = .ok (.aload_n 0, 1) := by decide +kernel
theorem dX0_goesAhead_12 : decode cX0_goesAhead 12 = .ok (.getfield 15, 3) := by decide +kernel
theorem dX0_goesAhead_15 : decode cX0_goesAhead 15 = .ok (.iload_n 2, 1) := by decide +kernel
theorem dX0_goesAhead_16 : decode cX0_goesAhead 16 = .ok (.iaload, 1) := by decide +kernel
theorem dX0_goesAhead_17 : decode cX0_goesAhead 17 = .ok (.if_icmp .le 5, 3) := by decide +kernel
theorem dX0_goesAhead_20 : decode cX0_goesAhead 20 = .ok (.iconst 1, 1) := by decide +kernel
theorem dX0_goesAhead_21 : decode cX0_goesAhead 21 = .ok (.ireturn, 1) := by decide +kernel
theorem dX0_goesAhead_22 : decode cX0_goesAhead 22 = .ok (.aload_n 0, 1) := by decide +kernel
theorem dX0_goesAhead_23 : decode cX0_goesAhead 23 = .ok (.getfield 15, 3) := by decide +kernel
theorem dX0_goesAhead_26 : decode cX0_goesAhead 26 = .ok (.iload_n 1, 1) := by decide +kernel
theorem dX0_goesAhead_27 : decode cX0_goesAhead 27 = .ok (.iaload, 1) := by decide +kernel
theorem dX0_goesAhead_28 : decode cX0_goesAhead 28 = .ok (.aload_n 0, 1) := by decide +kernel
theorem dX0_goesAhead_29 : decode cX0_goesAhead 29 = .ok (.getfield 15, 3) := by decide +kernel
theorem dX0_goesAhead_32 : decode cX0_goesAhead 32 = .ok (.iload_n 2, 1) := by decide +kernel
theorem dX0_goesAhead_33 : decode cX0_goesAhead 33 = .ok (.iaload, 1) := by decide +kernel
theorem dX0_goesAhead_34 : decode cX0_goesAhead 34 = .ok (.if_icmp .ne 22, 3) := by decide +kernel
theorem dX0_goesAhead_37 : decode cX0_goesAhead 37 = .ok (.aload_n 0, 1) := by decide +kernel
theorem dX0_goesAhead_38 : decode cX0_goesAhead 38 = .ok (.getfield 9, 3) := by decide +kernel
theorem dX0_goesAhead_41 : decode cX0_goesAhead 41 = .ok (.iload_n 1, 1) := by decide +kernel
theorem dX0_goesAhead_42 : decode cX0_goesAhead 42 = .ok (.iaload, 1) := by decide +kernel
theorem dX0_goesAhead_43 : decode cX0_goesAhead 43 = .ok (.aload_n 0, 1) := by decide +kernel
theorem dX0_goesAhead_44 : decode cX0_goesAhead 44 = .ok (.getfield 9, 3) := by decide +kernel
theorem dX0_goesAhead_47 : decode cX0_goesAhead 47 = .ok (.iload_n 2, 1) := by decide +kernel
theorem dX0_goesAhead_48 : decode cX0_goesAhead 48 = .ok (.iaload, 1) := by decide +kernel
theorem dX0_goesAhead_49 : decode cX0_goesAhead 49 = .ok (.if_icmp .ge 7, 3) := by decide +kernel
theorem dX0_goesAhead_52 : decode cX0_goesAhead 52 = .ok (.iconst 1, 1) := by decide +kernel
theorem dX0_goesAhead_53 : decode cX0_goesAhead 53 = .ok (.goto 4, 3) := by decide +kernel
theorem dX0_goesAhead_56 : decode cX0_goesAhead 56 = .ok (.iconst 0, 1) := by decide +kernel
theorem dX0_goesAhead_57 : decode cX0_goesAhead 57 = .ok (.ireturn, 1) := by decide +kernel
theorem dX0_mixInto_0 : decode cX0_mixInto 0 = .ok (.lload_n 1, 1) := by decide +kernel
theorem dX0_mixInto_1 : decode cX0_mixInto 1 = .ok (.aload_n 0, 1) := by decide +kernel
theorem dX0_mixInto_2 : decode cX0_mixInto 2 = .ok (.getfield 21, 3) := by decide +kernel
theorem dX0_mixInto_5 : decode cX0_mixInto 5 = .ok (.invokestatic 55, 3) := by decide +kernel
theorem dX0_mixInto_8 : decode cX0_mixInto 8 = .ok (.lstore_n 3, 1) := by decide +kernel
theorem dX0_mixInto_9 : decode cX0_mixInto 9 = .ok (.iconst 0, 1) := by decide +kernel
theorem dX0_mixInto_10 : decode cX0_mixInto 10 = .ok (.istore 5, 2) := by decide +kernel
theorem dX0_mixInto_12 : decode cX0_mixInto 12 = .ok (.iload 5, 2) := by decide +kernel
theorem dX0_mixInto_14 : decode cX0_mixInto 14 = .ok (.aload_n 0, 1) := by decide +kernel
theorem dX0_mixInto_15 : decode cX0_mixInto 15 = .ok (.getfield 21, 3) := by decide +kernel
theorem dX0_mixInto_18 : decode cX0_mixInto 18 = .ok (.if_icmp .ge 42, 3) := by decide +kernel
theorem dX0_mixInto_21 : decode cX0_mixInto 21 = .ok (.lload_n 3, 1) := by decide +kernel
theorem dX0_mixInto_22 : decode cX0_mixInto 22 = .ok (.aload_n 0, 1) := by decide +kernel
theorem dX0_mixInto_23 : decode cX0_mixInto 23 = .ok (.getfield 9, 3) := by decide +kernel
theorem dX0_mixInto_26 : decode cX0_mixInto 26 = .ok (.iload 5, 2) := by decide +kernel
theorem dX0_mixInto_28 : decode cX0_mixInto 28 = .ok (.iaload, 1) := by decide +kernel
theorem dX0_mixInto_29 : decode cX0_mixInto 29 = .ok (.invokestatic 55, 3) := by decide +kernel
theorem dX0_mixInto_32 : decode cX0_mixInto 32 = .ok (.lstore_n 3, 1) := by decide +kernel
theorem dX0_mixInto_33 : decode cX0_mixInto 33 = .ok (.lload_n 3, 1) := by decide +kernel
theorem dX0_mixInto_34 : decode cX0_mixInto 34 = .ok (.aload_n 0, 1) := by decide +kernel
theorem dX0_mixInto_35 : decode cX0_mixInto 35 = .ok (.getfield 18, 3) := by decide +kernel
theorem dX0_mixInto_38 : decode cX0_mixInto 38 = .ok (.iload 5, 2) := by decide +kernel
theorem dX0_mixInto_40 : decode cX0_mixInto 40 = .ok (.invokestatic 31, 3) := by decide +kernel
theorem dX0_mixInto_43 : decode cX0_mixInto 43 = .ok (.aload_n 0, 1) := by decide +kernel
theorem dX0_mixInto_44 : decode cX0_mixInto 44 = .ok (.getfield 15, 3) := by decide +kernel
theorem dX0_mixInto_47 : decode cX0_mixInto 47 = .ok (.iload 5, 2) := by decide +kernel
theorem dX0_mixInto_49 : decode cX0_mixInto 49 = .ok (.iaload, 1) := by decide +kernel
theorem dX0_mixInto_50 : decode cX0_mixInto 50 = .ok (.invokestatic 59, 3) := by decide +kernel
theorem dX0_mixInto_53 : decode cX0_mixInto 53 = .ok (.lstore_n 3, 1) := by decide +kernel
theorem dX0_mixInto_54 : decode cX0_mixInto 54 = .ok (.iinc 5 1, 3) := by decide +kernel
theorem dX0_mixInto_57 : decode cX0_mixInto 57 = .ok (.goto (-45), 3) := by decide +kernel
theorem dX0_mixInto_60 : decode cX0_mixInto 60 = .ok (.lload_n 3, 1) := by decide +kernel
theorem dX0_mixInto_61 : decode cX0_mixInto 61 = .ok (.lreturn, 1) := by decide +kernel
theorem dX1_letterAt_0 : decode cX1_letterAt 0 = .ok (.iload_n 0, 1) := by decide +kernel
theorem dX1_letterAt_1 : decode cX1_letterAt 1 = .ok (.istore_n 2, 1) := by decide +kernel
theorem dX1_letterAt_2 : decode cX1_letterAt 2 = .ok (.iconst 4, 1) := by decide +kernel
theorem dX1_letterAt_3 : decode cX1_letterAt 3 = .ok (.istore_n 3, 1) := by decide +kernel
theorem dX1_letterAt_4 : decode cX1_letterAt 4 = .ok (.iload_n 3, 1) := by decide +kernel
theorem dX1_letterAt_5 : decode cX1_letterAt 5 = .ok (.iload_n 1, 1) := by decide +kernel
theorem dX1_letterAt_6 : decode cX1_letterAt 6 = .ok (.if_icmp .le 14, 3) := by decide +kernel
theorem dX1_letterAt_9 : decode cX1_letterAt 9 = .ok (.iload_n 2, 1) := by decide +kernel
theorem dX1_letterAt_10 : decode cX1_letterAt 10 = .ok (.bipush 26, 2) := by decide +kernel
theorem dX1_letterAt_12 : decode cX1_letterAt 12 = .ok (.idiv, 1) := by decide +kernel
theorem dX1_letterAt_13 : decode cX1_letterAt 13 = .ok (.istore_n 2, 1) := by decide +kernel
theorem dX1_letterAt_14 : decode cX1_letterAt 14 = .ok (.iinc 3 (-1), 3) := by decide +kernel
theorem dX1_letterAt_17 : decode cX1_letterAt 17 = .ok (.goto (-13), 3) := by decide +kernel
theorem dX1_letterAt_20 : decode cX1_letterAt 20 = .ok (.iload_n 2, 1) := by decide +kernel
theorem dX1_letterAt_21 : decode cX1_letterAt 21 = .ok (.bipush 26, 2) := by decide +kernel
theorem dX1_letterAt_23 : decode cX1_letterAt 23 = .ok (.irem, 1) := by decide +kernel
theorem dX1_letterAt_24 : decode cX1_letterAt 24 = .ok (.ireturn, 1) := by decide +kernel
theorem dX1_withLetter_0 : decode cX1_withLetter 0 = .ok (.iconst 1, 1) := by decide +kernel
theorem dX1_withLetter_1 : decode cX1_withLetter 1 = .ok (.istore_n 3, 1) := by decide +kernel
theorem dX1_withLetter_2 : decode cX1_withLetter 2 = .ok (.iconst 4, 1) := by decide +kernel
theorem dX1_withLetter_3 : decode cX1_withLetter 3 = .ok (.istore 4, 2) := by decide +kernel
theorem dX1_withLetter_5 : decode cX1_withLetter 5 = .ok (.iload 4, 2) := by decide +kernel
theorem dX1_withLetter_7 : decode cX1_withLetter 7 = .ok (.iload_n 1, 1) := by decide +kernel
theorem dX1_withLetter_8 : decode cX1_withLetter 8 = .ok (.if_icmp .le 14, 3) := by decide +kernel
theorem dX1_withLetter_11 : decode cX1_withLetter 11 = .ok (.iload_n 3, 1) := by decide +kernel
theorem dX1_withLetter_12 : decode cX1_withLetter 12 = .ok (.bipush 26, 2) := by decide +kernel
theorem dX1_withLetter_14 : decode cX1_withLetter 14 = .ok (.imul, 1) := by decide +kernel
theorem dX1_withLetter_15 : decode cX1_withLetter 15 = .ok (.istore_n 3, 1) := by decide +kernel
theorem dX1_withLetter_16 : decode cX1_withLetter 16 = .ok (.iinc 4 (-1), 3) := by decide +kernel
theorem dX1_withLetter_19 : decode cX1_withLetter 19 = .ok (.goto (-14), 3) := by decide +kernel
theorem dX1_withLetter_22 : decode cX1_withLetter 22 = .ok (.iload_n 0, 1) := by decide +kernel
theorem dX1_withLetter_23 : decode cX1_withLetter 23 = .ok (.iload_n 2, 1) := by decide +kernel
theorem dX1_withLetter_24 : decode cX1_withLetter 24 = .ok (.iload_n 0, 1) := by decide +kernel
theorem dX1_withLetter_25 : decode cX1_withLetter 25 = .ok (.iload_n 1, 1) := by decide +kernel
theorem dX1_withLetter_26 : decode cX1_withLetter 26 = .ok (.invokestatic 9, 3) := by decide +kernel
theorem dX1_withLetter_29 : decode cX1_withLetter 29 = .ok (.isub, 1) := by decide +kernel
theorem dX1_withLetter_30 : decode cX1_withLetter 30 = .ok (.iload_n 3, 1) := by decide +kernel
theorem dX1_withLetter_31 : decode cX1_withLetter 31 = .ok (.imul, 1) := by decide +kernel
theorem dX1_withLetter_32 : decode cX1_withLetter 32 = .ok (.iadd, 1) := by decide +kernel
theorem dX1_withLetter_33 : decode cX1_withLetter 33 = .ok (.ireturn, 1) := by decide +kernel
theorem dX1_swapped_0 : decode cX1_swapped 0 = .ok (.iload_n 0, 1) := by decide +kernel
theorem dX1_swapped_1 : decode cX1_swapped 1 = .ok (.iload_n 1, 1) := by decide +kernel
theorem dX1_swapped_2 : decode cX1_swapped 2 = .ok (.invokestatic 9, 3) := by decide +kernel
theorem dX1_swapped_5 : decode cX1_swapped 5 = .ok (.istore_n 2, 1) := by decide +kernel
theorem dX1_swapped_6 : decode cX1_swapped 6 = .ok (.iload_n 0, 1) := by decide +kernel
theorem dX1_swapped_7 : decode cX1_swapped 7 = .ok (.iload_n 1, 1) := by decide +kernel
theorem dX1_swapped_8 : decode cX1_swapped 8 = .ok (.iconst 1, 1) := by decide +kernel
theorem dX1_swapped_9 : decode cX1_swapped 9 = .ok (.iadd, 1) := by decide +kernel
theorem dX1_swapped_10 : decode cX1_swapped 10 = .ok (.invokestatic 9, 3) := by decide +kernel
theorem dX1_swapped_13 : decode cX1_swapped 13 = .ok (.istore_n 3, 1) := by decide +kernel
theorem dX1_swapped_14 : decode cX1_swapped 14 = .ok (.iload_n 0, 1) := by decide +kernel
theorem dX1_swapped_15 : decode cX1_swapped 15 = .ok (.iload_n 1, 1) := by decide +kernel
theorem dX1_swapped_16 : decode cX1_swapped 16 = .ok (.iload_n 3, 1) := by decide +kernel
theorem dX1_swapped_17 : decode cX1_swapped 17 = .ok (.invokestatic 15, 3) := by decide +kernel
theorem dX1_swapped_20 : decode cX1_swapped 20 = .ok (.iload_n 1, 1) := by decide +kernel
theorem dX1_swapped_21 : decode cX1_swapped 21 = .ok (.iconst 1, 1) := by decide +kernel
theorem dX1_swapped_22 : decode cX1_swapped 22 = .ok (.iadd, 1) := by decide +kernel
theorem dX1_swapped_23 : decode cX1_swapped 23 = .ok (.iload_n 2, 1) := by decide +kernel
theorem dX1_swapped_24 : decode cX1_swapped 24 = .ok (.invokestatic 15, 3) := by decide +kernel
theorem dX1_swapped_27 : decode cX1_swapped 27 = .ok (.ireturn, 1) := by decide +kernel
theorem dX1_likeness_0 : decode cX1_likeness 0 = .ok (.iload_n 0, 1) := by decide +kernel
theorem dX1_likeness_1 : decode cX1_likeness 1 = .ok (.iload_n 1, 1) := by decide +kernel
theorem dX1_likeness_2 : decode cX1_likeness 2 = .ok (.if_icmp .ne 5, 3) := by decide +kernel
theorem dX1_likeness_5 : decode cX1_likeness 5 = .ok (.iconst 2, 1) := by decide +kernel
theorem dX1_likeness_6 : decode cX1_likeness 6 = .ok (.ireturn, 1) := by decide +kernel
theorem dX1_likeness_7 : decode cX1_likeness 7 = .ok (.iload_n 0, 1) := by decide +kernel
theorem dX1_likeness_8 : decode cX1_likeness 8 = .ok (.istore_n 2, 1) := by decide +kernel
theorem dX1_likeness_9 : decode cX1_likeness 9 = .ok (.iload_n 1, 1) := by decide +kernel
theorem dX1_likeness_10 : decode cX1_likeness 10 = .ok (.istore_n 3, 1) := by decide +kernel
theorem dX1_likeness_11 : decode cX1_likeness 11 = .ok (.iconst 4, 1) := by decide +kernel
theorem dX1_likeness_12 : decode cX1_likeness 12 = .ok (.istore 4, 2) := by decide +kernel
theorem dX1_likeness_14 : decode cX1_likeness 14 = .ok (.iload 4, 2) := by decide +kernel
theorem dX1_likeness_16 : decode cX1_likeness 16 = .ok (.ifCond .le 30, 3) := by decide +kernel
theorem dX1_likeness_19 : decode cX1_likeness 19 = .ok (.iload_n 2, 1) := by decide +kernel
theorem dX1_likeness_20 : decode cX1_likeness 20 = .ok (.bipush 26, 2) := by decide +kernel
theorem dX1_likeness_22 : decode cX1_likeness 22 = .ok (.irem, 1) := by decide +kernel
theorem dX1_likeness_23 : decode cX1_likeness 23 = .ok (.iload_n 3, 1) := by decide +kernel
theorem dX1_likeness_24 : decode cX1_likeness 24 = .ok (.bipush 26, 2) := by decide +kernel
theorem dX1_likeness_26 : decode cX1_likeness 26 = .ok (.irem, 1) := by decide +kernel
theorem dX1_likeness_27 : decode cX1_likeness 27 = .ok (.if_icmp .ne 19, 3) := by decide +kernel
theorem dX1_likeness_30 : decode cX1_likeness 30 = .ok (.iload_n 2, 1) := by decide +kernel
theorem dX1_likeness_31 : decode cX1_likeness 31 = .ok (.bipush 26, 2) := by decide +kernel
theorem dX1_likeness_33 : decode cX1_likeness 33 = .ok (.idiv, 1) := by decide +kernel
theorem dX1_likeness_34 : decode cX1_likeness 34 = .ok (.istore_n 2, 1) := by decide +kernel
theorem dX1_likeness_35 : decode cX1_likeness 35 = .ok (.iload_n 3, 1) := by decide +kernel
theorem dX1_likeness_36 : decode cX1_likeness 36 = .ok (.bipush 26, 2) := by decide +kernel
theorem dX1_likeness_38 : decode cX1_likeness 38 = .ok (.idiv, 1) := by decide +kernel
theorem dX1_likeness_39 : decode cX1_likeness 39 = .ok (.istore_n 3, 1) := by decide +kernel
theorem dX1_likeness_40 : decode cX1_likeness 40 = .ok (.iinc 4 (-1), 3) := by decide +kernel
theorem dX1_likeness_43 : decode cX1_likeness 43 = .ok (.goto (-29), 3) := by decide +kernel
theorem dX1_likeness_46 : decode cX1_likeness 46 = .ok (.iload_n 2, 1) := by decide +kernel
theorem dX1_likeness_47 : decode cX1_likeness 47 = .ok (.bipush 26, 2) := by decide +kernel
theorem dX1_likeness_49 : decode cX1_likeness 49 = .ok (.idiv, 1) := by decide +kernel
theorem dX1_likeness_50 : decode cX1_likeness 50 = .ok (.istore 4, 2) := by decide +kernel
theorem dX1_likeness_52 : decode cX1_likeness 52 = .ok (.iload_n 3, 1) := by decide +kernel
theorem dX1_likeness_53 : decode cX1_likeness 53 = .ok (.bipush 26, 2) := by decide +kernel
theorem dX1_likeness_55 : decode cX1_likeness 55 = .ok (.idiv, 1) := by decide +kernel
theorem dX1_likeness_56 : decode cX1_likeness 56 = .ok (.istore 5, 2) := by decide +kernel
theorem dX1_likeness_58 : decode cX1_likeness 58 = .ok (.iload 4, 2) := by decide +kernel
theorem dX1_likeness_60 : decode cX1_likeness 60 = .ok (.iload 5, 2) := by decide +kernel
theorem dX1_likeness_62 : decode cX1_likeness 62 = .ok (.if_icmp .ne 5, 3) := by decide +kernel
theorem dX1_likeness_65 : decode cX1_likeness 65 = .ok (.iconst 3, 1) := by decide +kernel
theorem dX1_likeness_66 : decode cX1_likeness 66 = .ok (.ireturn, 1) := by decide +kernel
theorem dX1_likeness_67 : decode cX1_likeness 67 = .ok (.iload_n 2, 1) := by decide +kernel
theorem dX1_likeness_68 : decode cX1_likeness 68 = .ok (.bipush 26, 2) := by decide +kernel
theorem dX1_likeness_70 : decode cX1_likeness 70 = .ok (.irem, 1) := by decide +kernel
theorem dX1_likeness_71 : decode cX1_likeness 71 = .ok (.iload 5, 2) := by decide +kernel
theorem dX1_likeness_73 : decode cX1_likeness 73 = .ok (.bipush 26, 2) := by decide +kernel
theorem dX1_likeness_75 : decode cX1_likeness 75 = .ok (.irem, 1) := by decide +kernel
theorem dX1_likeness_76 : decode cX1_likeness 76 = .ok (.if_icmp .ne 19, 3) := by decide +kernel
theorem dX1_likeness_79 : decode cX1_likeness 79 = .ok (.iload_n 3, 1) := by decide +kernel
theorem dX1_likeness_80 : decode cX1_likeness 80 = .ok (.bipush 26, 2) := by decide +kernel
theorem dX1_likeness_82 : decode cX1_likeness 82 = .ok (.irem, 1) := by decide +kernel
theorem dX1_likeness_83 : decode cX1_likeness 83 = .ok (.iload 4, 2) := by decide +kernel
theorem dX1_likeness_85 : decode cX1_likeness 85 = .ok (.bipush 26, 2) := by decide +kernel
theorem dX1_likeness_87 : decode cX1_likeness 87 = .ok (.irem, 1) := by decide +kernel
theorem dX1_likeness_88 : decode cX1_likeness 88 = .ok (.if_icmp .ne 7, 3) := by decide +kernel
theorem dX1_likeness_91 : decode cX1_likeness 91 = .ok (.iconst 1, 1) := by decide +kernel
theorem dX1_likeness_92 : decode cX1_likeness 92 = .ok (.goto 4, 3) := by decide +kernel
theorem dX1_likeness_95 : decode cX1_likeness 95 = .ok (.iconst 0, 1) := by decide +kernel
theorem dX1_likeness_96 : decode cX1_likeness 96 = .ok (.istore 6, 2) := by decide +kernel
theorem dX1_likeness_98 : decode cX1_likeness 98 = .ok (.iload 6, 2) := by decide +kernel
theorem dX1_likeness_100 : decode cX1_likeness 100 = .ok (.ifCond .eq 20, 3) := by decide +kernel
theorem dX1_likeness_103 : decode cX1_likeness 103 = .ok (.iload 4, 2) := by decide +kernel
theorem dX1_likeness_105 : decode cX1_likeness 105 = .ok (.bipush 26, 2) := by decide +kernel
theorem dX1_likeness_107 : decode cX1_likeness 107 = .ok (.idiv, 1) := by decide +kernel
theorem dX1_likeness_108 : decode cX1_likeness 108 = .ok (.iload 5, 2) := by decide +kernel
theorem dX1_likeness_110 : decode cX1_likeness 110 = .ok (.bipush 26, 2) := by decide +kernel
theorem dX1_likeness_112 : decode cX1_likeness 112 = .ok (.idiv, 1) := by decide +kernel
theorem dX1_likeness_113 : decode cX1_likeness 113 = .ok (.if_icmp .ne 7, 3) := by decide +kernel
theorem dX1_likeness_116 : decode cX1_likeness 116 = .ok (.iconst 4, 1) := by decide +kernel
theorem dX1_likeness_117 : decode cX1_likeness 117 = .ok (.goto 4, 3) := by decide +kernel
theorem dX1_likeness_120 : decode cX1_likeness 120 = .ok (.iconst 0, 1) := by decide +kernel
theorem dX1_likeness_121 : decode cX1_likeness 121 = .ok (.ireturn, 1) := by decide +kernel
theorem dX1_units_0 : decode cX1_units 0 = .ok (.bipush 12, 2) := by decide +kernel
theorem dX1_units_2 : decode cX1_units 2 = .ok (.istore_n 1, 1) := by decide +kernel
theorem dX1_units_3 : decode cX1_units 3 = .ok (.iload_n 0, 1) := by decide +kernel
theorem dX1_units_4 : decode cX1_units 4 = .ok (.istore_n 2, 1) := by decide +kernel
theorem dX1_units_5 : decode cX1_units 5 = .ok (.iconst 0, 1) := by decide +kernel
theorem dX1_units_6 : decode cX1_units 6 = .ok (.istore_n 3, 1) := by decide +kernel
theorem dX1_units_7 : decode cX1_units 7 = .ok (.iload_n 3, 1) := by decide +kernel
theorem dX1_units_8 : decode cX1_units 8 = .ok (.iconst 5, 1) := by decide +kernel
theorem dX1_units_9 : decode cX1_units 9 = .ok (.if_icmp .ge 27, 3) := by decide +kernel
theorem dX1_units_12 : decode cX1_units 12 = .ok (.iload_n 1, 1) := by decide +kernel
theorem dX1_units_13 : decode cX1_units 13 = .ok (.getstatic 19, 3) := by decide +kernel
theorem dX1_units_16 : decode cX1_units 16 = .ok (.iload_n 2, 1) := by decide +kernel
theorem dX1_units_17 : decode cX1_units 17 = .ok (.bipush 26, 2) := by decide +kernel
theorem dX1_units_19 : decode cX1_units 19 = .ok (.invokestatic 23, 3) := by decide +kernel
theorem dX1_units_22 : decode cX1_units 22 = .ok (.iaload, 1) := by decide +kernel
theorem dX1_units_23 : decode cX1_units 23 = .ok (.iadd, 1) := by decide +kernel
theorem dX1_units_24 : decode cX1_units 24 = .ok (.istore_n 1, 1) := by decide +kernel
theorem dX1_units_25 : decode cX1_units 25 = .ok (.iload_n 2, 1) := by decide +kernel
theorem dX1_units_26 : decode cX1_units 26 = .ok (.bipush 26, 2) := by decide +kernel
theorem dX1_units_28 : decode cX1_units 28 = .ok (.idiv, 1) := by decide +kernel
theorem dX1_units_29 : decode cX1_units 29 = .ok (.istore_n 2, 1) := by decide +kernel
theorem dX1_units_30 : decode cX1_units 30 = .ok (.iinc 3 1, 3) := by decide +kernel
theorem dX1_units_33 : decode cX1_units 33 = .ok (.goto (-26), 3) := by decide +kernel
theorem dX1_units_36 : decode cX1_units 36 = .ok (.iload_n 1, 1) := by decide +kernel
theorem dX1_units_37 : decode cX1_units 37 = .ok (.ireturn, 1) := by decide +kernel
theorem dX2_init_0 : decode cX2_init 0 = .ok (.aload_n 0, 1) := by decide +kernel
theorem dX2_init_1 : decode cX2_init 1 = .ok (.invokespecial 3, 3) := by decide +kernel
theorem dX2_init_4 : decode cX2_init 4 = .ok (.aload_n 0, 1) := by decide +kernel
theorem dX2_init_5 : decode cX2_init 5 = .ok (.bipush 41, 2) := by decide +kernel
theorem dX2_init_7 : decode cX2_init 7 = .ok (.newarray .int, 2) := by decide +kernel
theorem dX2_init_9 : decode cX2_init 9 = .ok (.putfield 9, 3) := by decide +kernel
theorem dX2_init_12 : decode cX2_init 12 = .ok (.aload_n 0, 1) := by decide +kernel
theorem dX2_init_13 : decode cX2_init 13 = .ok (.bipush 40, 2) := by decide +kernel
theorem dX2_init_15 : decode cX2_init 15 = .ok (.newarray .int, 2) := by decide +kernel
theorem dX2_init_17 : decode cX2_init 17 = .ok (.putfield 15, 3) := by decide +kernel
theorem dX2_init_20 : decode cX2_init 20 = .ok (.return_, 1) := by decide +kernel
theorem dX2_divide_0 : decode cX2_divide 0 = .ok (.iload 5, 2) := by decide +kernel
theorem dX2_divide_2 : decode cX2_divide 2 = .ok (.ifCond .lt 10, 3) := by decide +kernel
theorem dX2_divide_5 : decode cX2_divide 5 = .ok (.iload 5, 2) := by decide +kernel
theorem dX2_divide_7 : decode cX2_divide 7 = .ok (.bipush 40, 2) := by decide +kernel
theorem dX2_divide_9 : decode cX2_divide 9 = .ok (.if_icmp .le 5, 3) := by decide +kernel
theorem dX2_divide_12 : decode cX2_divide 12 = .ok (.iconst 0, 1) := by decide +kernel
theorem dX2_divide_13 : decode cX2_divide 13 = .ok (.ireturn, 1) := by decide +kernel
theorem dX2_divide_14 : decode cX2_divide 14 = .ok (.aload_n 0, 1) := by decide +kernel
theorem dX2_divide_15 : decode cX2_divide 15 = .ok (.getfield 9, 3) := by decide +kernel
theorem dX2_divide_18 : decode cX2_divide 18 = .ok (.iload 5, 2) := by decide +kernel
theorem dX2_divide_20 : decode cX2_divide 20 = .ok (.iconst 0, 1) := by decide +kernel
theorem dX2_divide_21 : decode cX2_divide 21 = .ok (.iastore, 1) := by decide +kernel
theorem dX2_divide_22 : decode cX2_divide 22 = .ok (.iload 5, 2) := by decide +kernel
theorem dX2_divide_24 : decode cX2_divide 24 = .ok (.iconst 1, 1) := by decide +kernel
theorem dX2_divide_25 : decode cX2_divide 25 = .ok (.isub, 1) := by decide +kernel
theorem dX2_divide_26 : decode cX2_divide 26 = .ok (.istore 6, 2) := by decide +kernel
theorem dX2_divide_28 : decode cX2_divide 28 = .ok (.iload 6, 2) := by decide +kernel
theorem dX2_divide_30 : decode cX2_divide 30 = .ok (.ifCond .lt 96, 3) := by decide +kernel
theorem dX2_divide_33 : decode cX2_divide 33 = .ok (.aload_n 0, 1) := by decide +kernel
theorem dX2_divide_34 : decode cX2_divide 34 = .ok (.getfield 15, 3) := by decide +kernel
theorem dX2_divide_37 : decode cX2_divide 37 = .ok (.iload 6, 2) := by decide +kernel
theorem dX2_divide_39 : decode cX2_divide 39 = .ok (.aload_n 0, 1) := by decide +kernel
theorem dX2_divide_40 : decode cX2_divide 40 = .ok (.aload_n 1, 1) := by decide +kernel
theorem dX2_divide_41 : decode cX2_divide 41 = .ok (.iload_n 2, 1) := by decide +kernel
theorem dX2_divide_42 : decode cX2_divide 42 = .ok (.aload_n 0, 1) := by decide +kernel
theorem dX2_divide_43 : decode cX2_divide 43 = .ok (.getfield 9, 3) := by decide +kernel
theorem dX2_divide_46 : decode cX2_divide 46 = .ok (.iload 6, 2) := by decide +kernel
theorem dX2_divide_48 : decode cX2_divide 48 = .ok (.iconst 1, 1) := by decide +kernel
theorem dX2_divide_49 : decode cX2_divide 49 = .ok (.iadd, 1) := by decide +kernel
theorem dX2_divide_50 : decode cX2_divide 50 = .ok (.iaload, 1) := by decide +kernel
theorem dX2_divide_51 : decode cX2_divide 51 = .ok (.iadd, 1) := by decide +kernel
theorem dX2_divide_52 : decode cX2_divide 52 = .ok (.aload_n 3, 1) := by decide +kernel
theorem dX2_divide_53 : decode cX2_divide 53 = .ok (.iload 4, 2) := by decide +kernel
theorem dX2_divide_55 : decode cX2_divide 55 = .ok (.iload 6, 2) := by decide +kernel
theorem dX2_divide_57 : decode cX2_divide 57 = .ok (.iadd, 1) := by decide +kernel
theorem dX2_divide_58 : decode cX2_divide 58 = .ok (.iload 6, 2) := by decide +kernel
theorem dX2_divide_60 : decode cX2_divide 60 = .ok (.iload 5, 2) := by decide +kernel
theorem dX2_divide_62 : decode cX2_divide 62 = .ok (.invokevirtual 18, 3) := by decide +kernel
theorem dX2_divide_65 : decode cX2_divide 65 = .ok (.iastore, 1) := by decide +kernel
theorem dX2_divide_66 : decode cX2_divide 66 = .ok (.aload_n 0, 1) := by decide +kernel
theorem dX2_divide_67 : decode cX2_divide 67 = .ok (.getfield 9, 3) := by decide +kernel
theorem dX2_divide_70 : decode cX2_divide 70 = .ok (.iload 6, 2) := by decide +kernel
theorem dX2_divide_72 : decode cX2_divide 72 = .ok (.aload_n 0, 1) := by decide +kernel
theorem dX2_divide_73 : decode cX2_divide 73 = .ok (.getfield 15, 3) := by decide +kernel
theorem dX2_divide_76 : decode cX2_divide 76 = .ok (.iload 6, 2) := by decide +kernel
theorem dX2_divide_78 : decode cX2_divide 78 = .ok (.iaload, 1) := by decide +kernel
theorem dX2_divide_79 : decode cX2_divide 79 = .ok (.iconst (-1), 1) := by decide +kernel
theorem dX2_divide_80 : decode cX2_divide 80 = .ok (.if_icmp .ne 17, 3) := by decide +kernel
theorem dX2_divide_83 : decode cX2_divide 83 = .ok (.iload_n 2, 1) := by decide +kernel
theorem dX2_divide_84 : decode cX2_divide 84 = .ok (.aload_n 0, 1) := by decide +kernel
theorem dX2_divide_85 : decode cX2_divide 85 = .ok (.getfield 9, 3) := by decide +kernel
theorem dX2_divide_88 : decode cX2_divide 88 = .ok (.iload 6, 2) := by decide +kernel
theorem dX2_divide_90 : decode cX2_divide 90 = .ok (.iconst 1, 1) := by decide +kernel
theorem dX2_divide_91 : decode cX2_divide 91 = .ok (.iadd, 1) := by decide +kernel
theorem dX2_divide_92 : decode cX2_divide 92 = .ok (.iaload, 1) := by decide +kernel
theorem dX2_divide_93 : decode cX2_divide 93 = .ok (.iadd, 1) := by decide +kernel
theorem dX2_divide_94 : decode cX2_divide 94 = .ok (.goto 25, 3) := by decide +kernel
theorem dX2_divide_97 : decode cX2_divide 97 = .ok (.iconst 1, 1) := by decide +kernel
theorem dX2_divide_98 : decode cX2_divide 98 = .ok (.aload_n 0, 1) := by decide +kernel
theorem dX2_divide_99 : decode cX2_divide 99 = .ok (.getfield 9, 3) := by decide +kernel
theorem dX2_divide_102 : decode cX2_divide 102 = .ok (.iload 6, 2) := by decide +kernel
theorem dX2_divide_104 : decode cX2_divide 104 = .ok (.aload_n 1, 1) := by decide +kernel
theorem dX2_divide_105 : decode cX2_divide 105 = .ok (.getfield 22, 3) := by decide +kernel
theorem dX2_divide_108 : decode cX2_divide 108 = .ok (.aload_n 0, 1) := by decide +kernel
theorem dX2_divide_109 : decode cX2_divide 109 = .ok (.getfield 15, 3) := by decide +kernel
theorem dX2_divide_112 : decode cX2_divide 112 = .ok (.iload 6, 2) := by decide +kernel
theorem dX2_divide_114 : decode cX2_divide 114 = .ok (.iaload, 1) := by decide +kernel
theorem dX2_divide_115 : decode cX2_divide 115 = .ok (.iaload, 1) := by decide +kernel
theorem dX2_divide_116 : decode cX2_divide 116 = .ok (.iadd, 1) := by decide +kernel
theorem dX2_divide_117 : decode cX2_divide 117 = .ok (.iaload, 1) := by decide +kernel
theorem dX2_divide_118 : decode cX2_divide 118 = .ok (.iadd, 1) := by decide +kernel
theorem dX2_divide_119 : decode cX2_divide 119 = .ok (.iastore, 1) := by decide +kernel
theorem dX2_divide_120 : decode cX2_divide 120 = .ok (.iinc 6 (-1), 3) := by decide +kernel
theorem dX2_divide_123 : decode cX2_divide 123 = .ok (.goto (-95), 3) := by decide +kernel
theorem dX2_divide_126 : decode cX2_divide 126 = .ok (.aload_n 0, 1) := by decide +kernel
theorem dX2_divide_127 : decode cX2_divide 127 = .ok (.getfield 9, 3) := by decide +kernel
theorem dX2_divide_130 : decode cX2_divide 130 = .ok (.iconst 0, 1) := by decide +kernel
theorem dX2_divide_131 : decode cX2_divide 131 = .ok (.iaload, 1) := by decide +kernel
theorem dX2_divide_132 : decode cX2_divide 132 = .ok (.ireturn, 1) := by decide +kernel
theorem dX2_bestPiece_0 : decode cX2_bestPiece 0 = .ok (.iconst (-1), 1) := by decide +kernel
theorem dX2_bestPiece_1 : decode cX2_bestPiece 1 = .ok (.istore 7, 2) := by decide +kernel
theorem dX2_bestPiece_3 : decode cX2_bestPiece 3 = .ok (.iload_n 2, 1) := by decide +kernel
theorem dX2_bestPiece_4 : decode cX2_bestPiece 4 = .ok (.istore 8, 2) := by decide +kernel
theorem dX2_bestPiece_6 : decode cX2_bestPiece 6 = .ok (.iconst 0, 1) := by decide +kernel
theorem dX2_bestPiece_7 : decode cX2_bestPiece 7 = .ok (.istore 9, 2) := by decide +kernel
theorem dX2_bestPiece_9 : decode cX2_bestPiece 9 = .ok (.iload 9, 2) := by decide +kernel
theorem dX2_bestPiece_11 : decode cX2_bestPiece 11 = .ok (.aload_n 1, 1) := by decide +kernel
theorem dX2_bestPiece_12 : decode cX2_bestPiece 12 = .ok (.getfield 27, 3) := by decide +kernel
theorem dX2_bestPiece_15 : decode cX2_bestPiece 15 = .ok (.if_icmp .ge 98, 3) := by decide +kernel
theorem dX2_bestPiece_18 : decode cX2_bestPiece 18 = .ok (.iload 5, 2) := by decide +kernel
theorem dX2_bestPiece_20 : decode cX2_bestPiece 20 = .ok (.aload_n 1, 1) := by decide +kernel
theorem dX2_bestPiece_21 : decode cX2_bestPiece 21 = .ok (.getfield 22, 3) := by decide +kernel
theorem dX2_bestPiece_24 : decode cX2_bestPiece 24 = .ok (.iload 9, 2) := by decide +kernel
theorem dX2_bestPiece_26 : decode cX2_bestPiece 26 = .ok (.iaload, 1) := by decide +kernel
theorem dX2_bestPiece_27 : decode cX2_bestPiece 27 = .ok (.iadd, 1) := by decide +kernel
theorem dX2_bestPiece_28 : decode cX2_bestPiece 28 = .ok (.istore 10, 2) := by decide +kernel
theorem dX2_bestPiece_30 : decode cX2_bestPiece 30 = .ok (.iload 10, 2) := by decide +kernel
theorem dX2_bestPiece_32 : decode cX2_bestPiece 32 = .ok (.iload 6, 2) := by decide +kernel
theorem dX2_bestPiece_34 : decode cX2_bestPiece 34 = .ok (.if_icmp .gt 73, 3) := by decide +kernel
theorem dX2_bestPiece_37 : decode cX2_bestPiece 37 = .ok (.aload_n 1, 1) := by decide +kernel
theorem dX2_bestPiece_38 : decode cX2_bestPiece 38 = .ok (.getfield 31, 3) := by decide +kernel
theorem dX2_bestPiece_41 : decode cX2_bestPiece 41 = .ok (.iload 9, 2) := by decide +kernel
theorem dX2_bestPiece_43 : decode cX2_bestPiece 43 = .ok (.invokestatic 34, 3) := by decide +kernel
theorem dX2_bestPiece_46 : decode cX2_bestPiece 46 = .ok (.aload_n 3, 1) := by decide +kernel
theorem dX2_bestPiece_47 : decode cX2_bestPiece 47 = .ok (.iload 4, 2) := by decide +kernel
theorem dX2_bestPiece_49 : decode cX2_bestPiece 49 = .ok (.iload 10, 2) := by decide +kernel
theorem dX2_bestPiece_51 : decode cX2_bestPiece 51 = .ok (.iload 5, 2) := by decide +kernel
theorem dX2_bestPiece_53 : decode cX2_bestPiece 53 = .ok (.isub, 1) := by decide +kernel
theorem dX2_bestPiece_54 : decode cX2_bestPiece 54 = .ok (.invokestatic 38, 3) := by decide +kernel
theorem dX2_bestPiece_57 : decode cX2_bestPiece 57 = .ok (.ifCond .ne 6, 3) := by decide +kernel
theorem dX2_bestPiece_60 : decode cX2_bestPiece 60 = .ok (.goto 47, 3) := by decide +kernel
theorem dX2_bestPiece_63 : decode cX2_bestPiece 63 = .ok (.iconst 1, 1) := by decide +kernel
theorem dX2_bestPiece_64 : decode cX2_bestPiece 64 = .ok (.aload_n 0, 1) := by decide +kernel
theorem dX2_bestPiece_65 : decode cX2_bestPiece 65 = .ok (.getfield 9, 3) := by decide +kernel
theorem dX2_bestPiece_68 : decode cX2_bestPiece 68 = .ok (.iload 10, 2) := by decide +kernel
theorem dX2_bestPiece_70 : decode cX2_bestPiece 70 = .ok (.iaload, 1) := by decide +kernel
theorem dX2_bestPiece_71 : decode cX2_bestPiece 71 = .ok (.iadd, 1) := by decide +kernel
theorem dX2_bestPiece_72 : decode cX2_bestPiece 72 = .ok (.istore 11, 2) := by decide +kernel
theorem dX2_bestPiece_74 : decode cX2_bestPiece 74 = .ok (.iload 11, 2) := by decide +kernel
theorem dX2_bestPiece_76 : decode cX2_bestPiece 76 = .ok (.iload 8, 2) := by decide +kernel
theorem dX2_bestPiece_78 : decode cX2_bestPiece 78 = .ok (.if_icmp .lt 21, 3) := by decide +kernel
theorem dX2_bestPiece_81 : decode cX2_bestPiece 81 = .ok (.iload 11, 2) := by decide +kernel
theorem dX2_bestPiece_83 : decode cX2_bestPiece 83 = .ok (.iload 8, 2) := by decide +kernel
theorem dX2_bestPiece_85 : decode cX2_bestPiece 85 = .ok (.if_icmp .ne 22, 3) := by decide +kernel
theorem dX2_bestPiece_88 : decode cX2_bestPiece 88 = .ok (.aload_n 1, 1) := by decide +kernel
theorem dX2_bestPiece_89 : decode cX2_bestPiece 89 = .ok (.iload 9, 2) := by decide +kernel
theorem dX2_bestPiece_91 : decode cX2_bestPiece 91 = .ok (.iload 7, 2) := by decide +kernel
theorem dX2_bestPiece_93 : decode cX2_bestPiece 93 = .ok (.invokevirtual 42, 3) := by decide +kernel
theorem dX2_bestPiece_96 : decode cX2_bestPiece 96 = .ok (.ifCond .eq 11, 3) := by decide +kernel
theorem dX2_bestPiece_99 : decode cX2_bestPiece 99 = .ok (.iload 9, 2) := by decide +kernel
theorem dX2_bestPiece_101 : decode cX2_bestPiece 101 = .ok (.istore 7, 2) := by decide +kernel
theorem dX2_bestPiece_103 : decode cX2_bestPiece 103 = .ok (.iload 11, 2) := by decide +kernel
theorem dX2_bestPiece_105 : decode cX2_bestPiece 105 = .ok (.istore 8, 2) := by decide +kernel
theorem dX2_bestPiece_107 : decode cX2_bestPiece 107 = .ok (.iinc 9 1, 3) := by decide +kernel
theorem dX2_bestPiece_110 : decode cX2_bestPiece 110 = .ok (.goto (-101), 3) := by decide +kernel
theorem dX2_bestPiece_113 : decode cX2_bestPiece 113 = .ok (.iload 7, 2) := by decide +kernel
theorem dX2_bestPiece_115 : decode cX2_bestPiece 115 = .ok (.ireturn, 1) := by decide +kernel
theorem dX3_init_0 : decode cX3_init 0 = .ok (.aload_n 0, 1) := by decide +kernel
theorem dX3_init_1 : decode cX3_init 1 = .ok (.invokespecial 5, 3) := by decide +kernel
theorem dX3_init_4 : decode cX3_init 4 = .ok (.aload_n 0, 1) := by decide +kernel
theorem dX3_init_5 : decode cX3_init 5 = .ok (.sipush 492, 3) := by decide +kernel
theorem dX3_init_8 : decode cX3_init 8 = .ok (.newarray .int, 2) := by decide +kernel
theorem dX3_init_10 : decode cX3_init 10 = .ok (.putfield 11, 3) := by decide +kernel
theorem dX3_init_13 : decode cX3_init 13 = .ok (.aload_n 0, 1) := by decide +kernel
theorem dX3_init_14 : decode cX3_init 14 = .ok (.bipush 12, 2) := by decide +kernel
theorem dX3_init_16 : decode cX3_init 16 = .ok (.newarray .int, 2) := by decide +kernel
theorem dX3_init_18 : decode cX3_init 18 = .ok (.putfield 15, 3) := by decide +kernel
theorem dX3_init_21 : decode cX3_init 21 = .ok (.aload_n 0, 1) := by decide +kernel
theorem dX3_init_22 : decode cX3_init 22 = .ok (.iconst 5, 1) := by decide +kernel
theorem dX3_init_23 : decode cX3_init 23 = .ok (.sipush 492, 3) := by decide +kernel
theorem dX3_init_26 : decode cX3_init 26 = .ok (.multianewarray 18 2, 4) := by decide +kernel
theorem dX3_init_30 : decode cX3_init 30 = .ok (.putfield 20, 3) := by decide +kernel
theorem dX3_init_33 : decode cX3_init 33 = .ok (.aload_n 0, 1) := by decide +kernel
theorem dX3_init_34 : decode cX3_init 34 = .ok (.sipush 492, 3) := by decide +kernel
theorem dX3_init_37 : decode cX3_init 37 = .ok (.newarray .int, 2) := by decide +kernel
theorem dX3_init_39 : decode cX3_init 39 = .ok (.putfield 23, 3) := by decide +kernel
theorem dX3_init_42 : decode cX3_init 42 = .ok (.aload_n 0, 1) := by decide +kernel
theorem dX3_init_43 : decode cX3_init 43 = .ok (.getfield 11, 3) := by decide +kernel
theorem dX3_init_46 : decode cX3_init 46 = .ok (.iconst (-1), 1) := by decide +kernel
theorem dX3_init_47 : decode cX3_init 47 = .ok (.invokestatic 26, 3) := by decide +kernel
theorem dX3_init_50 : decode cX3_init 50 = .ok (.return_, 1) := by decide +kernel
theorem dX3_startOf_0 : decode cX3_startOf 0 = .ok (.iload_n 1, 1) := by decide +kernel
theorem dX3_startOf_1 : decode cX3_startOf 1 = .ok (.bipush 41, 2) := by decide +kernel
theorem dX3_startOf_3 : decode cX3_startOf 3 = .ok (.imul, 1) := by decide +kernel
theorem dX3_startOf_4 : decode cX3_startOf 4 = .ok (.ireturn, 1) := by decide +kernel
theorem dX3_add_0 : decode cX3_add 0 = .ok (.aload_n 0, 1) := by decide +kernel
theorem dX3_add_1 : decode cX3_add 1 = .ok (.getfield 32, 3) := by decide +kernel
theorem dX3_add_4 : decode cX3_add 4 = .ok (.bipush 12, 2) := by decide +kernel
theorem dX3_add_6 : decode cX3_add 6 = .ok (.if_icmp .lt 4, 3) := by decide +kernel
theorem dX3_add_9 : decode cX3_add 9 = .ok (.return_, 1) := by decide +kernel
theorem dX3_add_10 : decode cX3_add 10 = .ok (.aload_n 0, 1) := by decide +kernel
theorem dX3_add_11 : decode cX3_add 11 = .ok (.aload_n 0, 1) := by decide +kernel
theorem dX3_add_12 : decode cX3_add 12 = .ok (.getfield 32, 3) := by decide +kernel
theorem dX3_add_15 : decode cX3_add 15 = .ok (.invokevirtual 36, 3) := by decide +kernel
theorem dX3_add_18 : decode cX3_add 18 = .ok (.istore_n 2, 1) := by decide +kernel
theorem dX3_add_19 : decode cX3_add 19 = .ok (.aload_n 1, 1) := by decide +kernel
theorem dX3_add_20 : decode cX3_add 20 = .ok (.getfield 40, 3) := by decide +kernel
theorem dX3_add_23 : decode cX3_add 23 = .ok (.iconst 0, 1) := by decide +kernel
theorem dX3_add_24 : decode cX3_add 24 = .ok (.aload_n 0, 1) := by decide +kernel
theorem dX3_add_25 : decode cX3_add 25 = .ok (.getfield 11, 3) := by decide +kernel
theorem dX3_add_28 : decode cX3_add 28 = .ok (.iload_n 2, 1) := by decide +kernel
theorem dX3_add_29 : decode cX3_add 29 = .ok (.aload_n 1, 1) := by decide +kernel
theorem dX3_add_30 : decode cX3_add 30 = .ok (.getfield 43, 3) := by decide +kernel
theorem dX3_add_33 : decode cX3_add 33 = .ok (.invokestatic 44, 3) := by decide +kernel
theorem dX3_add_36 : decode cX3_add 36 = .ok (.aload_n 0, 1) := by decide +kernel
theorem dX3_add_37 : decode cX3_add 37 = .ok (.getfield 15, 3) := by decide +kernel
theorem dX3_add_40 : decode cX3_add 40 = .ok (.aload_n 0, 1) := by decide +kernel
theorem dX3_add_41 : decode cX3_add 41 = .ok (.getfield 32, 3) := by decide +kernel
theorem dX3_add_44 : decode cX3_add 44 = .ok (.aload_n 1, 1) := by decide +kernel
theorem dX3_add_45 : decode cX3_add 45 = .ok (.getfield 43, 3) := by decide +kernel
theorem dX3_add_48 : decode cX3_add 48 = .ok (.iastore, 1) := by decide +kernel
theorem dX3_add_49 : decode cX3_add 49 = .ok (.aload_n 0, 1) := by decide +kernel
theorem dX3_add_50 : decode cX3_add 50 = .ok (.dup, 1) := by decide +kernel
theorem dX3_add_51 : decode cX3_add 51 = .ok (.getfield 32, 3) := by decide +kernel
theorem dX3_add_54 : decode cX3_add 54 = .ok (.iconst 1, 1) := by decide +kernel
theorem dX3_add_55 : decode cX3_add 55 = .ok (.iadd, 1) := by decide +kernel
theorem dX3_add_56 : decode cX3_add 56 = .ok (.putfield 32, 3) := by decide +kernel
theorem dX3_add_59 : decode cX3_add 59 = .ok (.iconst 2, 1) := by decide +kernel
theorem dX3_add_60 : decode cX3_add 60 = .ok (.istore_n 3, 1) := by decide +kernel
theorem dX3_add_61 : decode cX3_add 61 = .ok (.iload_n 3, 1) := by decide +kernel
theorem dX3_add_62 : decode cX3_add 62 = .ok (.bipush 6, 2) := by decide +kernel
theorem dX3_add_64 : decode cX3_add 64 = .ok (.if_icmp .gt 21, 3) := by decide +kernel
theorem dX3_add_67 : decode cX3_add 67 = .ok (.aload_n 0, 1) := by decide +kernel
theorem dX3_add_68 : decode cX3_add 68 = .ok (.iload_n 3, 1) := by decide +kernel
theorem dX3_add_69 : decode cX3_add 69 = .ok (.iload_n 2, 1) := by decide +kernel
theorem dX3_add_70 : decode cX3_add 70 = .ok (.iload_n 2, 1) := by decide +kernel
theorem dX3_add_71 : decode cX3_add 71 = .ok (.aload_n 1, 1) := by decide +kernel
theorem dX3_add_72 : decode cX3_add 72 = .ok (.getfield 43, 3) := by decide +kernel
theorem dX3_add_75 : decode cX3_add 75 = .ok (.iadd, 1) := by decide +kernel
theorem dX3_add_76 : decode cX3_add 76 = .ok (.invokevirtual 50, 3) := by decide +kernel
theorem dX3_add_79 : decode cX3_add 79 = .ok (.iinc 3 1, 3) := by decide +kernel
theorem dX3_add_82 : decode cX3_add 82 = .ok (.goto (-21), 3) := by decide +kernel
theorem dX3_add_85 : decode cX3_add 85 = .ok (.return_, 1) := by decide +kernel
theorem dX3_countPhrases_0 : decode cX3_countPhrases 0 = .ok (.aload_n 0, 1) := by decide +kernel
theorem dX3_countPhrases_1 : decode cX3_countPhrases 1 = .ok (.getfield 20, 3) := by decide +kernel
theorem dX3_countPhrases_4 : decode cX3_countPhrases 4 = .ok (.iload_n 1, 1) := by decide +kernel
theorem dX3_countPhrases_5 : decode cX3_countPhrases 5 = .ok (.iconst 2, 1) := by decide +kernel
theorem dX3_countPhrases_6 : decode cX3_countPhrases 6 = .ok (.isub, 1) := by decide +kernel
theorem dX3_countPhrases_7 : decode cX3_countPhrases 7 = .ok (.aaload, 1) := by decide +kernel
theorem dX3_countPhrases_8 : decode cX3_countPhrases 8 = .ok (.astore 4, 2) := by decide +kernel
theorem dX3_countPhrases_10 : decode cX3_countPhrases 10 = .ok (.aload_n 0, 1) := by decide +kernel
theorem dX3_countPhrases_11 : decode cX3_countPhrases 11 = .ok (.getfield 23, 3) := by decide +kernel
theorem dX3_countPhrases_14 : decode cX3_countPhrases 14 = .ok (.iconst 0, 1) := by decide +kernel
theorem dX3_countPhrases_15 : decode cX3_countPhrases 15 = .ok (.invokestatic 26, 3) := by decide +kernel
theorem dX3_countPhrases_18 : decode cX3_countPhrases 18 = .ok (.iload_n 2, 1) := by decide +kernel
theorem dX3_countPhrases_19 : decode cX3_countPhrases 19 = .ok (.istore 5, 2) := by decide +kernel
theorem dX3_countPhrases_21 : decode cX3_countPhrases 21 = .ok (.iload 5, 2) := by decide +kernel
theorem dX3_countPhrases_23 : decode cX3_countPhrases 23 = .ok (.iload_n 1, 1) := by decide +kernel
theorem dX3_countPhrases_24 : decode cX3_countPhrases 24 = .ok (.iadd, 1) := by decide +kernel
theorem dX3_countPhrases_25 : decode cX3_countPhrases 25 = .ok (.iload_n 3, 1) := by decide +kernel
theorem dX3_countPhrases_26 : decode cX3_countPhrases 26 = .ok (.if_icmp .gt 50, 3) := by decide +kernel
theorem dX3_countPhrases_29 : decode cX3_countPhrases 29 = .ok (.aload_n 0, 1) := by decide +kernel
theorem dX3_countPhrases_30 : decode cX3_countPhrases 30 = .ok (.iload 5, 2) := by decide +kernel
theorem dX3_countPhrases_32 : decode cX3_countPhrases 32 = .ok (.iload_n 1, 1) := by decide +kernel
theorem dX3_countPhrases_33 : decode cX3_countPhrases 33 = .ok (.invokevirtual 54, 3) := by decide +kernel
theorem dX3_countPhrases_36 : decode cX3_countPhrases 36 = .ok (.istore 6, 2) := by decide +kernel
theorem dX3_countPhrases_38 : decode cX3_countPhrases 38 = .ok (.iload 5, 2) := by decide +kernel
theorem dX3_countPhrases_40 : decode cX3_countPhrases 40 = .ok (.aload_n 0, 1) := by decide +kernel
theorem dX3_countPhrases_41 : decode cX3_countPhrases 41 = .ok (.getfield 23, 3) := by decide +kernel
theorem dX3_countPhrases_44 : decode cX3_countPhrases 44 = .ok (.iload 6, 2) := by decide +kernel
theorem dX3_countPhrases_46 : decode cX3_countPhrases 46 = .ok (.iaload, 1) := by decide +kernel
theorem dX3_countPhrases_47 : decode cX3_countPhrases 47 = .ok (.if_icmp .lt 23, 3) := by decide +kernel
theorem dX3_countPhrases_50 : decode cX3_countPhrases 50 = .ok (.aload 4, 2) := by decide +kernel
theorem dX3_countPhrases_52 : decode cX3_countPhrases 52 = .ok (.iload 6, 2) := by decide +kernel
theorem dX3_countPhrases_54 : decode cX3_countPhrases 54 = .ok (.dup2, 1) := by decide +kernel
theorem dX3_countPhrases_55 : decode cX3_countPhrases 55 = .ok (.iaload, 1) := by decide +kernel
theorem dX3_countPhrases_56 : decode cX3_countPhrases 56 = .ok (.iconst 1, 1) := by decide +kernel
theorem dX3_countPhrases_57 : decode cX3_countPhrases 57 = .ok (.iadd, 1) := by decide +kernel
theorem dX3_countPhrases_58 : decode cX3_countPhrases 58 = .ok (.iastore, 1) := by decide +kernel
theorem dX3_countPhrases_59 : decode cX3_countPhrases 59 = .ok (.aload_n 0, 1) := by decide +kernel
theorem dX3_countPhrases_60 : decode cX3_countPhrases 60 = .ok (.getfield 23, 3) := by decide +kernel
theorem dX3_countPhrases_63 : decode cX3_countPhrases 63 = .ok (.iload 6, 2) := by decide +kernel
theorem dX3_countPhrases_65 : decode cX3_countPhrases 65 = .ok (.iload 5, 2) := by decide +kernel
theorem dX3_countPhrases_67 : decode cX3_countPhrases 67 = .ok (.iload_n 1, 1) := by decide +kernel
theorem dX3_countPhrases_68 : decode cX3_countPhrases 68 = .ok (.iadd, 1) := by decide +kernel
theorem dX3_countPhrases_69 : decode cX3_countPhrases 69 = .ok (.iastore, 1) := by decide +kernel
theorem dX3_countPhrases_70 : decode cX3_countPhrases 70 = .ok (.iinc 5 1, 3) := by decide +kernel
theorem dX3_countPhrases_73 : decode cX3_countPhrases 73 = .ok (.goto (-52), 3) := by decide +kernel
theorem dX3_countPhrases_76 : decode cX3_countPhrases 76 = .ok (.return_, 1) := by decide +kernel
theorem dX3_firstFinding_0 : decode cX3_firstFinding 0 = .ok (.iconst 0, 1) := by decide +kernel
theorem dX3_firstFinding_1 : decode cX3_firstFinding 1 = .ok (.istore_n 3, 1) := by decide +kernel
theorem dX3_firstFinding_2 : decode cX3_firstFinding 2 = .ok (.iload_n 3, 1) := by decide +kernel
theorem dX3_firstFinding_3 : decode cX3_firstFinding 3 = .ok (.iload_n 1, 1) := by decide +kernel
theorem dX3_firstFinding_4 : decode cX3_firstFinding 4 = .ok (.if_icmp .ge 28, 3) := by decide +kernel
theorem dX3_firstFinding_7 : decode cX3_firstFinding 7 = .ok (.aload_n 0, 1) := by decide +kernel
theorem dX3_firstFinding_8 : decode cX3_firstFinding 8 = .ok (.getfield 11, 3) := by decide +kernel
theorem dX3_firstFinding_11 : decode cX3_firstFinding 11 = .ok (.iload_n 3, 1) := by decide +kernel
theorem dX3_firstFinding_12 : decode cX3_firstFinding 12 = .ok (.aload_n 0, 1) := by decide +kernel
theorem dX3_firstFinding_13 : decode cX3_firstFinding 13 = .ok (.getfield 11, 3) := by decide +kernel
theorem dX3_firstFinding_16 : decode cX3_firstFinding 16 = .ok (.iload_n 1, 1) := by decide +kernel
theorem dX3_firstFinding_17 : decode cX3_firstFinding 17 = .ok (.iload_n 2, 1) := by decide +kernel
theorem dX3_firstFinding_18 : decode cX3_firstFinding 18 = .ok (.invokestatic 58, 3) := by decide +kernel
theorem dX3_firstFinding_21 : decode cX3_firstFinding 21 = .ok (.ifCond .eq 5, 3) := by decide +kernel
theorem dX3_firstFinding_24 : decode cX3_firstFinding 24 = .ok (.iload_n 3, 1) := by decide +kernel
theorem dX3_firstFinding_25 : decode cX3_firstFinding 25 = .ok (.ireturn, 1) := by decide +kernel
theorem dX3_firstFinding_26 : decode cX3_firstFinding 26 = .ok (.iinc 3 1, 3) := by decide +kernel
theorem dX3_firstFinding_29 : decode cX3_firstFinding 29 = .ok (.goto (-27), 3) := by decide +kernel
theorem dX3_firstFinding_32 : decode cX3_firstFinding 32 = .ok (.iload_n 1, 1) := by decide +kernel
theorem dX3_firstFinding_33 : decode cX3_firstFinding 33 = .ok (.ireturn, 1) := by decide +kernel
theorem dX3_proposeOn_0 : decode cX3_proposeOn 0 = .ok (.iconst 0, 1) := by decide +kernel
theorem dX3_proposeOn_1 : decode cX3_proposeOn 1 = .ok (.istore 4, 2) := by decide +kernel
theorem dX3_proposeOn_3 : decode cX3_proposeOn 3 = .ok (.iconst 0, 1) := by decide +kernel
theorem dX3_proposeOn_4 : decode cX3_proposeOn 4 = .ok (.istore 5, 2) := by decide +kernel
theorem dX3_proposeOn_6 : decode cX3_proposeOn 6 = .ok (.iconst 0, 1) := by decide +kernel
theorem dX3_proposeOn_7 : decode cX3_proposeOn 7 = .ok (.istore 6, 2) := by decide +kernel
theorem dX3_proposeOn_9 : decode cX3_proposeOn 9 = .ok (.iconst 2, 1) := by decide +kernel
theorem dX3_proposeOn_10 : decode cX3_proposeOn 10 = .ok (.istore 7, 2) := by decide +kernel
theorem dX3_proposeOn_12 : decode cX3_proposeOn 12 = .ok (.iload 7, 2) := by decide +kernel
theorem dX3_proposeOn_14 : decode cX3_proposeOn 14 = .ok (.bipush 6, 2) := by decide +kernel
theorem dX3_proposeOn_16 : decode cX3_proposeOn 16 = .ok (.if_icmp .gt 99, 3) := by decide +kernel
theorem dX3_proposeOn_19 : decode cX3_proposeOn 19 = .ok (.aload_n 0, 1) := by decide +kernel
theorem dX3_proposeOn_20 : decode cX3_proposeOn 20 = .ok (.getfield 20, 3) := by decide +kernel
theorem dX3_proposeOn_23 : decode cX3_proposeOn 23 = .ok (.iload 7, 2) := by decide +kernel
theorem dX3_proposeOn_25 : decode cX3_proposeOn 25 = .ok (.iconst 2, 1) := by decide +kernel
theorem dX3_proposeOn_26 : decode cX3_proposeOn 26 = .ok (.isub, 1) := by decide +kernel
theorem dX3_proposeOn_27 : decode cX3_proposeOn 27 = .ok (.aaload, 1) := by decide +kernel
theorem dX3_proposeOn_28 : decode cX3_proposeOn 28 = .ok (.astore 8, 2) := by decide +kernel
theorem dX3_proposeOn_30 : decode cX3_proposeOn 30 = .ok (.iconst 0, 1) := by decide +kernel
theorem dX3_proposeOn_31 : decode cX3_proposeOn 31 = .ok (.istore 9, 2) := by decide +kernel
theorem dX3_proposeOn_33 : decode cX3_proposeOn 33 = .ok (.iload 9, 2) := by decide +kernel
theorem dX3_proposeOn_35 : decode cX3_proposeOn 35 = .ok (.aload_n 0, 1) := by decide +kernel
theorem dX3_proposeOn_36 : decode cX3_proposeOn 36 = .ok (.aload_n 0, 1) := by decide +kernel
theorem dX3_proposeOn_37 : decode cX3_proposeOn 37 = .ok (.getfield 32, 3) := by decide +kernel
theorem dX3_proposeOn_40 : decode cX3_proposeOn 40 = .ok (.invokevirtual 36, 3) := by decide +kernel
theorem dX3_proposeOn_43 : decode cX3_proposeOn 43 = .ok (.if_icmp .ge 66, 3) := by decide +kernel
theorem dX3_proposeOn_46 : decode cX3_proposeOn 46 = .ok (.aload 8, 2) := by decide +kernel
theorem dX3_proposeOn_48 : decode cX3_proposeOn 48 = .ok (.iload 9, 2) := by decide +kernel
theorem dX3_proposeOn_50 : decode cX3_proposeOn 50 = .ok (.iaload, 1) := by decide +kernel
theorem dX3_proposeOn_51 : decode cX3_proposeOn 51 = .ok (.iload 7, 2) := by decide +kernel
theorem dX3_proposeOn_53 : decode cX3_proposeOn 53 = .ok (.iload_n 3, 1) := by decide +kernel
theorem dX3_proposeOn_54 : decode cX3_proposeOn 54 = .ok (.imul, 1) := by decide +kernel
theorem dX3_proposeOn_55 : decode cX3_proposeOn 55 = .ok (.iconst 1, 1) := by decide +kernel
theorem dX3_proposeOn_56 : decode cX3_proposeOn 56 = .ok (.isub, 1) := by decide +kernel
theorem dX3_proposeOn_57 : decode cX3_proposeOn 57 = .ok (.imul, 1) := by decide +kernel
theorem dX3_proposeOn_58 : decode cX3_proposeOn 58 = .ok (.istore 10, 2) := by decide +kernel
theorem dX3_proposeOn_60 : decode cX3_proposeOn 60 = .ok (.aload 8, 2) := by decide +kernel
theorem dX3_proposeOn_62 : decode cX3_proposeOn 62 = .ok (.iload 9, 2) := by decide +kernel
theorem dX3_proposeOn_64 : decode cX3_proposeOn 64 = .ok (.iaload, 1) := by decide +kernel
theorem dX3_proposeOn_65 : decode cX3_proposeOn 65 = .ok (.iconst 2, 1) := by decide +kernel
theorem dX3_proposeOn_66 : decode cX3_proposeOn 66 = .ok (.if_icmp .lt 37, 3) := by decide +kernel
theorem dX3_proposeOn_69 : decode cX3_proposeOn 69 = .ok (.iload 10, 2) := by decide +kernel
theorem dX3_proposeOn_71 : decode cX3_proposeOn 71 = .ok (.iload 4, 2) := by decide +kernel
theorem dX3_proposeOn_73 : decode cX3_proposeOn 73 = .ok (.if_icmp .le 30, 3) := by decide +kernel
theorem dX3_proposeOn_76 : decode cX3_proposeOn 76 = .ok (.aload_n 2, 1) := by decide +kernel
theorem dX3_proposeOn_77 : decode cX3_proposeOn 77 = .ok (.aload_n 0, 1) := by decide +kernel
theorem dX3_proposeOn_78 : decode cX3_proposeOn 78 = .ok (.getfield 11, 3) := by decide +kernel
theorem dX3_proposeOn_81 : decode cX3_proposeOn 81 = .ok (.iload 9, 2) := by decide +kernel
theorem dX3_proposeOn_83 : decode cX3_proposeOn 83 = .ok (.iload 7, 2) := by decide +kernel
theorem dX3_proposeOn_85 : decode cX3_proposeOn 85 = .ok (.invokevirtual 62, 3) := by decide +kernel
theorem dX3_proposeOn_88 : decode cX3_proposeOn 88 = .ok (.ifCond .ne 15, 3) := by decide +kernel
theorem dX3_proposeOn_91 : decode cX3_proposeOn 91 = .ok (.iload 10, 2) := by decide +kernel
theorem dX3_proposeOn_93 : decode cX3_proposeOn 93 = .ok (.istore 4, 2) := by decide +kernel
theorem dX3_proposeOn_95 : decode cX3_proposeOn 95 = .ok (.iload 9, 2) := by decide +kernel
theorem dX3_proposeOn_97 : decode cX3_proposeOn 97 = .ok (.istore 5, 2) := by decide +kernel
theorem dX3_proposeOn_99 : decode cX3_proposeOn 99 = .ok (.iload 7, 2) := by decide +kernel
theorem dX3_proposeOn_101 : decode cX3_proposeOn 101 = .ok (.istore 6, 2) := by decide +kernel
theorem dX3_proposeOn_103 : decode cX3_proposeOn 103 = .ok (.iinc 9 1, 3) := by decide +kernel
theorem dX3_proposeOn_106 : decode cX3_proposeOn 106 = .ok (.goto (-73), 3) := by decide +kernel
theorem dX3_proposeOn_109 : decode cX3_proposeOn 109 = .ok (.iinc 7 1, 3) := by decide +kernel
theorem dX3_proposeOn_112 : decode cX3_proposeOn 112 = .ok (.goto (-100), 3) := by decide +kernel
theorem dX3_proposeOn_115 : decode cX3_proposeOn 115 = .ok (.iload 4, 2) := by decide +kernel
theorem dX3_proposeOn_117 : decode cX3_proposeOn 117 = .ok (.ifCond .le 19, 3) := by decide +kernel
theorem dX3_proposeOn_120 : decode cX3_proposeOn 120 = .ok (.aload_n 1, 1) := by decide +kernel
theorem dX3_proposeOn_121 : decode cX3_proposeOn 121 = .ok (.invokevirtual 68, 3) := by decide +kernel
theorem dX3_proposeOn_124 : decode cX3_proposeOn 124 = .ok (.aload_n 1, 1) := by decide +kernel
theorem dX3_proposeOn_125 : decode cX3_proposeOn 125 = .ok (.aload_n 0, 1) := by decide +kernel
theorem dX3_proposeOn_126 : decode cX3_proposeOn 126 = .ok (.getfield 11, 3) := by decide +kernel
theorem dX3_proposeOn_129 : decode cX3_proposeOn 129 = .ok (.iload 5, 2) := by decide +kernel
theorem dX3_proposeOn_131 : decode cX3_proposeOn 131 = .ok (.iload 6, 2) := by decide +kernel
theorem dX3_proposeOn_133 : decode cX3_proposeOn 133 = .ok (.invokevirtual 71, 3) := by decide +kernel
theorem dX3_proposeOn_136 : decode cX3_proposeOn 136 = .ok (.iload 4, 2) := by decide +kernel
theorem dX3_proposeOn_138 : decode cX3_proposeOn 138 = .ok (.ireturn, 1) := by decide +kernel
theorem dX3_mixInto_0 : decode cX3_mixInto 0 = .ok (.lload_n 1, 1) := by decide +kernel
theorem dX3_mixInto_1 : decode cX3_mixInto 1 = .ok (.aload_n 0, 1) := by decide +kernel
theorem dX3_mixInto_2 : decode cX3_mixInto 2 = .ok (.getfield 32, 3) := by decide +kernel
theorem dX3_mixInto_5 : decode cX3_mixInto 5 = .ok (.invokestatic 75, 3) := by decide +kernel
theorem dX3_mixInto_8 : decode cX3_mixInto 8 = .ok (.lstore_n 3, 1) := by decide +kernel
theorem dX3_mixInto_9 : decode cX3_mixInto 9 = .ok (.iconst 0, 1) := by decide +kernel
theorem dX3_mixInto_10 : decode cX3_mixInto 10 = .ok (.istore 5, 2) := by decide +kernel
theorem dX3_mixInto_12 : decode cX3_mixInto 12 = .ok (.iload 5, 2) := by decide +kernel
theorem dX3_mixInto_14 : decode cX3_mixInto 14 = .ok (.aload_n 0, 1) := by decide +kernel
theorem dX3_mixInto_15 : decode cX3_mixInto 15 = .ok (.getfield 32, 3) := by decide +kernel
theorem dX3_mixInto_18 : decode cX3_mixInto 18 = .ok (.if_icmp .ge 31, 3) := by decide +kernel
theorem dX3_mixInto_21 : decode cX3_mixInto 21 = .ok (.lload_n 3, 1) := by decide +kernel
theorem dX3_mixInto_22 : decode cX3_mixInto 22 = .ok (.aload_n 0, 1) := by decide +kernel
theorem dX3_mixInto_23 : decode cX3_mixInto 23 = .ok (.getfield 11, 3) := by decide +kernel
theorem dX3_mixInto_26 : decode cX3_mixInto 26 = .ok (.aload_n 0, 1) := by decide +kernel
theorem dX3_mixInto_27 : decode cX3_mixInto 27 = .ok (.iload 5, 2) := by decide +kernel
theorem dX3_mixInto_29 : decode cX3_mixInto 29 = .ok (.invokevirtual 36, 3) := by decide +kernel
theorem dX3_mixInto_32 : decode cX3_mixInto 32 = .ok (.aload_n 0, 1) := by decide +kernel
theorem dX3_mixInto_33 : decode cX3_mixInto 33 = .ok (.getfield 15, 3) := by decide +kernel
theorem dX3_mixInto_36 : decode cX3_mixInto 36 = .ok (.iload 5, 2) := by decide +kernel
theorem dX3_mixInto_38 : decode cX3_mixInto 38 = .ok (.iaload, 1) := by decide +kernel
theorem dX3_mixInto_39 : decode cX3_mixInto 39 = .ok (.invokestatic 79, 3) := by decide +kernel
theorem dX3_mixInto_42 : decode cX3_mixInto 42 = .ok (.lstore_n 3, 1) := by decide +kernel
theorem dX3_mixInto_43 : decode cX3_mixInto 43 = .ok (.iinc 5 1, 3) := by decide +kernel
theorem dX3_mixInto_46 : decode cX3_mixInto 46 = .ok (.goto (-34), 3) := by decide +kernel
theorem dX3_mixInto_49 : decode cX3_mixInto 49 = .ok (.lload_n 3, 1) := by decide +kernel
theorem dX3_mixInto_50 : decode cX3_mixInto 50 = .ok (.lreturn, 1) := by decide +kernel
theorem dX4_init_0 : decode cX4_init 0 = .ok (.aload_n 0, 1) := by decide +kernel
theorem dX4_init_1 : decode cX4_init 1 = .ok (.invokespecial 3, 3) := by decide +kernel
theorem dX4_init_4 : decode cX4_init 4 = .ok (.aload_n 0, 1) := by decide +kernel
theorem dX4_init_5 : decode cX4_init 5 = .ok (.bipush 40, 2) := by decide +kernel
theorem dX4_init_7 : decode cX4_init 7 = .ok (.newarray .int, 2) := by decide +kernel
theorem dX4_init_9 : decode cX4_init 9 = .ok (.putfield 9, 3) := by decide +kernel
theorem dX4_init_12 : decode cX4_init 12 = .ok (.return_, 1) := by decide +kernel
theorem dX4_clear_0 : decode cX4_clear 0 = .ok (.aload_n 0, 1) := by decide +kernel
theorem dX4_clear_1 : decode cX4_clear 1 = .ok (.iconst 0, 1) := by decide +kernel
theorem dX4_clear_2 : decode cX4_clear 2 = .ok (.putfield 15, 3) := by decide +kernel
theorem dX4_clear_5 : decode cX4_clear 5 = .ok (.return_, 1) := by decide +kernel
theorem dX4_append_0 : decode cX4_append 0 = .ok (.aload_n 0, 1) := by decide +kernel
theorem dX4_append_1 : decode cX4_append 1 = .ok (.getfield 15, 3) := by decide +kernel
theorem dX4_append_4 : decode cX4_append 4 = .ok (.aload_n 0, 1) := by decide +kernel
theorem dX4_append_5 : decode cX4_append 5 = .ok (.getfield 9, 3) := by decide +kernel
theorem dX4_append_8 : decode cX4_append 8 = .ok (.arraylength, 1) := by decide +kernel
theorem dX4_append_9 : decode cX4_append 9 = .ok (.if_icmp .ge 23, 3) := by decide +kernel
theorem dX4_append_12 : decode cX4_append 12 = .ok (.aload_n 0, 1) := by decide +kernel
theorem dX4_append_13 : decode cX4_append 13 = .ok (.getfield 9, 3) := by decide +kernel
theorem dX4_append_16 : decode cX4_append 16 = .ok (.aload_n 0, 1) := by decide +kernel
theorem dX4_append_17 : decode cX4_append 17 = .ok (.getfield 15, 3) := by decide +kernel
theorem dX4_append_20 : decode cX4_append 20 = .ok (.iload_n 1, 1) := by decide +kernel
theorem dX4_append_21 : decode cX4_append 21 = .ok (.iastore, 1) := by decide +kernel
theorem dX4_append_22 : decode cX4_append 22 = .ok (.aload_n 0, 1) := by decide +kernel
theorem dX4_append_23 : decode cX4_append 23 = .ok (.dup, 1) := by decide +kernel
theorem dX4_append_24 : decode cX4_append 24 = .ok (.getfield 15, 3) := by decide +kernel
theorem dX4_append_27 : decode cX4_append 27 = .ok (.iconst 1, 1) := by decide +kernel
theorem dX4_append_28 : decode cX4_append 28 = .ok (.iadd, 1) := by decide +kernel
theorem dX4_append_29 : decode cX4_append 29 = .ok (.putfield 15, 3) := by decide +kernel
theorem dX4_append_32 : decode cX4_append 32 = .ok (.return_, 1) := by decide +kernel
theorem dX4_appendAll_0 : decode cX4_appendAll 0 = .ok (.iload_n 2, 1) := by decide +kernel
theorem dX4_appendAll_1 : decode cX4_appendAll 1 = .ok (.istore 4, 2) := by decide +kernel
theorem dX4_appendAll_3 : decode cX4_appendAll 3 = .ok (.iload 4, 2) := by decide +kernel
theorem dX4_appendAll_5 : decode cX4_appendAll 5 = .ok (.iload_n 2, 1) := by decide +kernel
theorem dX4_appendAll_6 : decode cX4_appendAll 6 = .ok (.iload_n 3, 1) := by decide +kernel
theorem dX4_appendAll_7 : decode cX4_appendAll 7 = .ok (.iadd, 1) := by decide +kernel
theorem dX4_appendAll_8 : decode cX4_appendAll 8 = .ok (.if_icmp .ge 24, 3) := by decide +kernel
theorem dX4_appendAll_11 : decode cX4_appendAll 11 = .ok (.iload 4, 2) := by decide +kernel
theorem dX4_appendAll_13 : decode cX4_appendAll 13 = .ok (.aload_n 1, 1) := by decide +kernel
theorem dX4_appendAll_14 : decode cX4_appendAll 14 = .ok (.arraylength, 1) := by decide +kernel
theorem dX4_appendAll_15 : decode cX4_appendAll 15 = .ok (.if_icmp .ge 17, 3) := by decide +kernel
theorem dX4_appendAll_18 : decode cX4_appendAll 18 = .ok (.aload_n 0, 1) := by decide +kernel
theorem dX4_appendAll_19 : decode cX4_appendAll 19 = .ok (.aload_n 1, 1) := by decide +kernel
theorem dX4_appendAll_20 : decode cX4_appendAll 20 = .ok (.iload 4, 2) := by decide +kernel
theorem dX4_appendAll_22 : decode cX4_appendAll 22 = .ok (.iaload, 1) := by decide +kernel
theorem dX4_appendAll_23 : decode cX4_appendAll 23 = .ok (.invokevirtual 19, 3) := by decide +kernel
theorem dX4_appendAll_26 : decode cX4_appendAll 26 = .ok (.iinc 4 1, 3) := by decide +kernel
theorem dX4_appendAll_29 : decode cX4_appendAll 29 = .ok (.goto (-26), 3) := by decide +kernel
theorem dX4_appendAll_32 : decode cX4_appendAll 32 = .ok (.return_, 1) := by decide +kernel
theorem dX5_init_0 : decode cX5_init 0 = .ok (.aload_n 0, 1) := by decide +kernel
theorem dX5_init_1 : decode cX5_init 1 = .ok (.invokespecial 3, 3) := by decide +kernel
theorem dX5_init_4 : decode cX5_init 4 = .ok (.aload_n 0, 1) := by decide +kernel
theorem dX5_init_5 : decode cX5_init 5 = .ok (.bipush 40, 2) := by decide +kernel
theorem dX5_init_7 : decode cX5_init 7 = .ok (.newarray .int, 2) := by decide +kernel
theorem dX5_init_9 : decode cX5_init 9 = .ok (.putfield 9, 3) := by decide +kernel
theorem dX5_init_12 : decode cX5_init 12 = .ok (.return_, 1) := by decide +kernel
theorem dX5_plain_0 : decode cX5_plain 0 = .ok (.iconst (-1), 1) := by decide +kernel
theorem dX5_plain_1 : decode cX5_plain 1 = .ok (.iload_n 0, 1) := by decide +kernel
theorem dX5_plain_2 : decode cX5_plain 2 = .ok (.isub, 1) := by decide +kernel
theorem dX5_plain_3 : decode cX5_plain 3 = .ok (.ireturn, 1) := by decide +kernel
theorem dX5_isPlain_0 : decode cX5_isPlain 0 = .ok (.iload_n 0, 1) := by decide +kernel
theorem dX5_isPlain_1 : decode cX5_isPlain 1 = .ok (.ifCond .ge 7, 3) := by decide +kernel
theorem dX5_isPlain_4 : decode cX5_isPlain 4 = .ok (.iconst 1, 1) := by decide +kernel
theorem dX5_isPlain_5 : decode cX5_isPlain 5 = .ok (.goto 4, 3) := by decide +kernel
theorem dX5_isPlain_8 : decode cX5_isPlain 8 = .ok (.iconst 0, 1) := by decide +kernel
theorem dX5_isPlain_9 : decode cX5_isPlain 9 = .ok (.ireturn, 1) := by decide +kernel
theorem dX5_wordOf_0 : decode cX5_wordOf 0 = .ok (.iconst (-1), 1) := by decide +kernel
theorem dX5_wordOf_1 : decode cX5_wordOf 1 = .ok (.iload_n 0, 1) := by decide +kernel
theorem dX5_wordOf_2 : decode cX5_wordOf 2 = .ok (.isub, 1) := by decide +kernel
theorem dX5_wordOf_3 : decode cX5_wordOf 3 = .ok (.ireturn, 1) := by decide +kernel
theorem dX5_clear_0 : decode cX5_clear 0 = .ok (.aload_n 0, 1) := by decide +kernel
theorem dX5_clear_1 : decode cX5_clear 1 = .ok (.iconst 0, 1) := by decide +kernel
theorem dX5_clear_2 : decode cX5_clear 2 = .ok (.putfield 15, 3) := by decide +kernel
theorem dX5_clear_5 : decode cX5_clear 5 = .ok (.return_, 1) := by decide +kernel
theorem dX5_append_0 : decode cX5_append 0 = .ok (.aload_n 0, 1) := by decide +kernel
theorem dX5_append_1 : decode cX5_append 1 = .ok (.getfield 15, 3) := by decide +kernel
theorem dX5_append_4 : decode cX5_append 4 = .ok (.aload_n 0, 1) := by decide +kernel
theorem dX5_append_5 : decode cX5_append 5 = .ok (.getfield 9, 3) := by decide +kernel
theorem dX5_append_8 : decode cX5_append 8 = .ok (.arraylength, 1) := by decide +kernel
theorem dX5_append_9 : decode cX5_append 9 = .ok (.if_icmp .ge 23, 3) := by decide +kernel
theorem dX5_append_12 : decode cX5_append 12 = .ok (.aload_n 0, 1) := by decide +kernel
theorem dX5_append_13 : decode cX5_append 13 = .ok (.getfield 9, 3) := by decide +kernel
theorem dX5_append_16 : decode cX5_append 16 = .ok (.aload_n 0, 1) := by decide +kernel
theorem dX5_append_17 : decode cX5_append 17 = .ok (.getfield 15, 3) := by decide +kernel
theorem dX5_append_20 : decode cX5_append 20 = .ok (.iload_n 1, 1) := by decide +kernel
theorem dX5_append_21 : decode cX5_append 21 = .ok (.iastore, 1) := by decide +kernel
theorem dX5_append_22 : decode cX5_append 22 = .ok (.aload_n 0, 1) := by decide +kernel
theorem dX5_append_23 : decode cX5_append 23 = .ok (.dup, 1) := by decide +kernel
theorem dX5_append_24 : decode cX5_append 24 = .ok (.getfield 15, 3) := by decide +kernel
theorem dX5_append_27 : decode cX5_append 27 = .ok (.iconst 1, 1) := by decide +kernel
theorem dX5_append_28 : decode cX5_append 28 = .ok (.iadd, 1) := by decide +kernel
theorem dX5_append_29 : decode cX5_append 29 = .ok (.putfield 15, 3) := by decide +kernel
theorem dX5_append_32 : decode cX5_append 32 = .ok (.return_, 1) := by decide +kernel
theorem dX5_costAt_0 : decode cX5_costAt 0 = .ok (.iconst 0, 1) := by decide +kernel
theorem dX5_costAt_1 : decode cX5_costAt 1 = .ok (.istore_n 2, 1) := by decide +kernel
theorem dX5_costAt_2 : decode cX5_costAt 2 = .ok (.iconst 0, 1) := by decide +kernel
theorem dX5_costAt_3 : decode cX5_costAt 3 = .ok (.istore_n 3, 1) := by decide +kernel
theorem dX5_costAt_4 : decode cX5_costAt 4 = .ok (.iload_n 3, 1) := by decide +kernel
theorem dX5_costAt_5 : decode cX5_costAt 5 = .ok (.aload_n 0, 1) := by decide +kernel
theorem dX5_costAt_6 : decode cX5_costAt 6 = .ok (.getfield 15, 3) := by decide +kernel
theorem dX5_costAt_9 : decode cX5_costAt 9 = .ok (.if_icmp .ge 29, 3) := by decide +kernel
theorem dX5_costAt_12 : decode cX5_costAt 12 = .ok (.iload_n 2, 1) := by decide +kernel
theorem dX5_costAt_13 : decode cX5_costAt 13 = .ok (.aload_n 0, 1) := by decide +kernel
theorem dX5_costAt_14 : decode cX5_costAt 14 = .ok (.getfield 9, 3) := by decide +kernel
theorem dX5_costAt_17 : decode cX5_costAt 17 = .ok (.iload_n 3, 1) := by decide +kernel
theorem dX5_costAt_18 : decode cX5_costAt 18 = .ok (.iaload, 1) := by decide +kernel
theorem dX5_costAt_19 : decode cX5_costAt 19 = .ok (.invokestatic 19, 3) := by decide +kernel
theorem dX5_costAt_22 : decode cX5_costAt 22 = .ok (.ifCond .eq 7, 3) := by decide +kernel
theorem dX5_costAt_25 : decode cX5_costAt 25 = .ok (.iload_n 1, 1) := by decide +kernel
theorem dX5_costAt_26 : decode cX5_costAt 26 = .ok (.goto 4, 3) := by decide +kernel
theorem dX5_costAt_29 : decode cX5_costAt 29 = .ok (.iconst 1, 1) := by decide +kernel
theorem dX5_costAt_30 : decode cX5_costAt 30 = .ok (.iadd, 1) := by decide +kernel
theorem dX5_costAt_31 : decode cX5_costAt 31 = .ok (.istore_n 2, 1) := by decide +kernel
theorem dX5_costAt_32 : decode cX5_costAt 32 = .ok (.iinc 3 1, 3) := by decide +kernel
theorem dX5_costAt_35 : decode cX5_costAt 35 = .ok (.goto (-31), 3) := by decide +kernel
theorem dX5_costAt_38 : decode cX5_costAt 38 = .ok (.iload_n 2, 1) := by decide +kernel
theorem dX5_costAt_39 : decode cX5_costAt 39 = .ok (.ireturn, 1) := by decide +kernel
theorem dX5_units_0 : decode cX5_units 0 = .ok (.iconst 0, 1) := by decide +kernel
theorem dX5_units_1 : decode cX5_units 1 = .ok (.istore_n 1, 1) := by decide +kernel
theorem dX5_units_2 : decode cX5_units 2 = .ok (.iconst 0, 1) := by decide +kernel
theorem dX5_units_3 : decode cX5_units 3 = .ok (.istore_n 2, 1) := by decide +kernel
theorem dX5_units_4 : decode cX5_units 4 = .ok (.iload_n 2, 1) := by decide +kernel
theorem dX5_units_5 : decode cX5_units 5 = .ok (.aload_n 0, 1) := by decide +kernel
theorem dX5_units_6 : decode cX5_units 6 = .ok (.getfield 15, 3) := by decide +kernel
theorem dX5_units_9 : decode cX5_units 9 = .ok (.if_icmp .ge 61, 3) := by decide +kernel
theorem dX5_units_12 : decode cX5_units 12 = .ok (.iload_n 1, 1) := by decide +kernel
theorem dX5_units_13 : decode cX5_units 13 = .ok (.iload_n 2, 1) := by decide +kernel
theorem dX5_units_14 : decode cX5_units 14 = .ok (.ifCond .ne 7, 3) := by decide +kernel
theorem dX5_units_17 : decode cX5_units 17 = .ok (.iconst 0, 1) := by decide +kernel
theorem dX5_units_18 : decode cX5_units 18 = .ok (.goto 5, 3) := by decide +kernel
theorem dX5_units_21 : decode cX5_units 21 = .ok (.bipush 7, 2) := by decide +kernel
theorem dX5_units_23 : decode cX5_units 23 = .ok (.iadd, 1) := by decide +kernel
theorem dX5_units_24 : decode cX5_units 24 = .ok (.istore_n 1, 1) := by decide +kernel
theorem dX5_units_25 : decode cX5_units 25 = .ok (.iload_n 1, 1) := by decide +kernel
theorem dX5_units_26 : decode cX5_units 26 = .ok (.aload_n 0, 1) := by decide +kernel
theorem dX5_units_27 : decode cX5_units 27 = .ok (.getfield 9, 3) := by decide +kernel
theorem dX5_units_30 : decode cX5_units 30 = .ok (.iload_n 2, 1) := by decide +kernel
theorem dX5_units_31 : decode cX5_units 31 = .ok (.iaload, 1) := by decide +kernel
theorem dX5_units_32 : decode cX5_units 32 = .ok (.invokestatic 19, 3) := by decide +kernel
theorem dX5_units_35 : decode cX5_units 35 = .ok (.ifCond .eq 18, 3) := by decide +kernel
theorem dX5_units_38 : decode cX5_units 38 = .ok (.aload_n 0, 1) := by decide +kernel
theorem dX5_units_39 : decode cX5_units 39 = .ok (.getfield 9, 3) := by decide +kernel
theorem dX5_units_42 : decode cX5_units 42 = .ok (.iload_n 2, 1) := by decide +kernel
theorem dX5_units_43 : decode cX5_units 43 = .ok (.iaload, 1) := by decide +kernel
theorem dX5_units_44 : decode cX5_units 44 = .ok (.invokestatic 23, 3) := by decide +kernel
theorem dX5_units_47 : decode cX5_units 47 = .ok (.invokestatic 27, 3) := by decide +kernel
theorem dX5_units_50 : decode cX5_units 50 = .ok (.goto 12, 3) := by decide +kernel
theorem dX5_units_53 : decode cX5_units 53 = .ok (.aload_n 0, 1) := by decide +kernel
theorem dX5_units_54 : decode cX5_units 54 = .ok (.getfield 9, 3) := by decide +kernel
theorem dX5_units_57 : decode cX5_units 57 = .ok (.iload_n 2, 1) := by decide +kernel
theorem dX5_units_58 : decode cX5_units 58 = .ok (.iaload, 1) := by decide +kernel
theorem dX5_units_59 : decode cX5_units 59 = .ok (.invokestatic 30, 3) := by decide +kernel
theorem dX5_units_62 : decode cX5_units 62 = .ok (.iadd, 1) := by decide +kernel
theorem dX5_units_63 : decode cX5_units 63 = .ok (.istore_n 1, 1) := by decide +kernel
theorem dX5_units_64 : decode cX5_units 64 = .ok (.iinc 2 1, 3) := by decide +kernel
theorem dX5_units_67 : decode cX5_units 67 = .ok (.goto (-63), 3) := by decide +kernel
theorem dX5_units_70 : decode cX5_units 70 = .ok (.iload_n 1, 1) := by decide +kernel
theorem dX5_units_71 : decode cX5_units 71 = .ok (.ireturn, 1) := by decide +kernel
theorem dX5_wordUnits_0 : decode cX5_wordUnits 0 = .ok (.bipush 9, 2) := by decide +kernel
theorem dX5_wordUnits_2 : decode cX5_wordUnits 2 = .ok (.istore_n 1, 1) := by decide +kernel
theorem dX5_wordUnits_3 : decode cX5_wordUnits 3 = .ok (.iload_n 0, 1) := by decide +kernel
theorem dX5_wordUnits_4 : decode cX5_wordUnits 4 = .ok (.istore_n 2, 1) := by decide +kernel
theorem dX5_wordUnits_5 : decode cX5_wordUnits 5 = .ok (.iconst 0, 1) := by decide +kernel
theorem dX5_wordUnits_6 : decode cX5_wordUnits 6 = .ok (.istore_n 3, 1) := by decide +kernel
theorem dX5_wordUnits_7 : decode cX5_wordUnits 7 = .ok (.iload_n 3, 1) := by decide +kernel
theorem dX5_wordUnits_8 : decode cX5_wordUnits 8 = .ok (.iconst 4, 1) := by decide +kernel
theorem dX5_wordUnits_9 : decode cX5_wordUnits 9 = .ok (.if_icmp .ge 27, 3) := by decide +kernel
theorem dX5_wordUnits_12 : decode cX5_wordUnits 12 = .ok (.iload_n 1, 1) := by decide +kernel
theorem dX5_wordUnits_13 : decode cX5_wordUnits 13 = .ok (.getstatic 35, 3) := by decide +kernel
theorem dX5_wordUnits_16 : decode cX5_wordUnits 16 = .ok (.iload_n 2, 1) := by decide +kernel
theorem dX5_wordUnits_17 : decode cX5_wordUnits 17 = .ok (.bipush 10, 2) := by decide +kernel
theorem dX5_wordUnits_19 : decode cX5_wordUnits 19 = .ok (.invokestatic 38, 3) := by decide +kernel
theorem dX5_wordUnits_22 : decode cX5_wordUnits 22 = .ok (.iaload, 1) := by decide +kernel
theorem dX5_wordUnits_23 : decode cX5_wordUnits 23 = .ok (.iadd, 1) := by decide +kernel
theorem dX5_wordUnits_24 : decode cX5_wordUnits 24 = .ok (.istore_n 1, 1) := by decide +kernel
theorem dX5_wordUnits_25 : decode cX5_wordUnits 25 = .ok (.iload_n 2, 1) := by decide +kernel
theorem dX5_wordUnits_26 : decode cX5_wordUnits 26 = .ok (.bipush 10, 2) := by decide +kernel
theorem dX5_wordUnits_28 : decode cX5_wordUnits 28 = .ok (.idiv, 1) := by decide +kernel
theorem dX5_wordUnits_29 : decode cX5_wordUnits 29 = .ok (.istore_n 2, 1) := by decide +kernel
theorem dX5_wordUnits_30 : decode cX5_wordUnits 30 = .ok (.iinc 3 1, 3) := by decide +kernel
theorem dX5_wordUnits_33 : decode cX5_wordUnits 33 = .ok (.goto (-26), 3) := by decide +kernel
theorem dX5_wordUnits_36 : decode cX5_wordUnits 36 = .ok (.iload_n 1, 1) := by decide +kernel
theorem dX5_wordUnits_37 : decode cX5_wordUnits 37 = .ok (.ireturn, 1) := by decide +kernel
theorem dX6_init_0 : decode cX6_init 0 = .ok (.aload_n 0, 1) := by decide +kernel
theorem dX6_init_1 : decode cX6_init 1 = .ok (.invokespecial 1, 3) := by decide +kernel
theorem dX6_init_4 : decode cX6_init 4 = .ok (.aload_n 0, 1) := by decide +kernel
theorem dX6_init_5 : decode cX6_init 5 = .ok (.iconst 3, 1) := by decide +kernel
theorem dX6_init_6 : decode cX6_init 6 = .ok (.anewarray 9, 3) := by decide +kernel
theorem dX6_init_9 : decode cX6_init 9 = .ok (.putfield 11, 3) := by decide +kernel
theorem dX6_init_12 : decode cX6_init 12 = .ok (.iconst 0, 1) := by decide +kernel
theorem dX6_init_13 : decode cX6_init 13 = .ok (.istore_n 1, 1) := by decide +kernel
theorem dX6_init_14 : decode cX6_init 14 = .ok (.iload_n 1, 1) := by decide +kernel
theorem dX6_init_15 : decode cX6_init 15 = .ok (.iconst 3, 1) := by decide +kernel
theorem dX6_init_16 : decode cX6_init 16 = .ok (.if_icmp .ge 22, 3) := by decide +kernel
theorem dX6_init_19 : decode cX6_init 19 = .ok (.aload_n 0, 1) := by decide +kernel
theorem dX6_init_20 : decode cX6_init 20 = .ok (.getfield 11, 3) := by decide +kernel
theorem dX6_init_23 : decode cX6_init 23 = .ok (.iload_n 1, 1) := by decide +kernel
theorem dX6_init_24 : decode cX6_init 24 = .ok (.new 9, 3) := by decide +kernel
theorem dX6_init_27 : decode cX6_init 27 = .ok (.dup, 1) := by decide +kernel
theorem dX6_init_28 : decode cX6_init 28 = .ok (.invokespecial 15, 3) := by decide +kernel
theorem dX6_init_31 : decode cX6_init 31 = .ok (.aastore, 1) := by decide +kernel
theorem dX6_init_32 : decode cX6_init 32 = .ok (.iinc 1 1, 3) := by decide +kernel
theorem dX6_init_35 : decode cX6_init 35 = .ok (.goto (-21), 3) := by decide +kernel
theorem dX6_init_38 : decode cX6_init 38 = .ok (.aload_n 0, 1) := by decide +kernel
theorem dX6_init_39 : decode cX6_init 39 = .ok (.new 16, 3) := by decide +kernel
theorem dX6_init_42 : decode cX6_init 42 = .ok (.dup, 1) := by decide +kernel
theorem dX6_init_43 : decode cX6_init 43 = .ok (.invokespecial 18, 3) := by decide +kernel
theorem dX6_init_46 : decode cX6_init 46 = .ok (.putfield 19, 3) := by decide +kernel
theorem dX6_init_49 : decode cX6_init 49 = .ok (.aload_n 0, 1) := by decide +kernel
theorem dX6_init_50 : decode cX6_init 50 = .ok (.new 23, 3) := by decide +kernel
theorem dX6_init_53 : decode cX6_init 53 = .ok (.dup, 1) := by decide +kernel
theorem dX6_init_54 : decode cX6_init 54 = .ok (.invokespecial 25, 3) := by decide +kernel
theorem dX6_init_57 : decode cX6_init 57 = .ok (.putfield 26, 3) := by decide +kernel
theorem dX6_init_60 : decode cX6_init 60 = .ok (.aload_n 0, 1) := by decide +kernel
theorem dX6_init_61 : decode cX6_init 61 = .ok (.new 30, 3) := by decide +kernel
theorem dX6_init_64 : decode cX6_init 64 = .ok (.dup, 1) := by decide +kernel
theorem dX6_init_65 : decode cX6_init 65 = .ok (.invokespecial 32, 3) := by decide +kernel
theorem dX6_init_68 : decode cX6_init 68 = .ok (.putfield 33, 3) := by decide +kernel
theorem dX6_init_71 : decode cX6_init 71 = .ok (.aload_n 0, 1) := by decide +kernel
theorem dX6_init_72 : decode cX6_init 72 = .ok (.new 37, 3) := by decide +kernel
theorem dX6_init_75 : decode cX6_init 75 = .ok (.dup, 1) := by decide +kernel
theorem dX6_init_76 : decode cX6_init 76 = .ok (.invokespecial 39, 3) := by decide +kernel
theorem dX6_init_79 : decode cX6_init 79 = .ok (.putfield 40, 3) := by decide +kernel
theorem dX6_init_82 : decode cX6_init 82 = .ok (.aload_n 0, 1) := by decide +kernel
theorem dX6_init_83 : decode cX6_init 83 = .ok (.bipush 40, 2) := by decide +kernel
theorem dX6_init_85 : decode cX6_init 85 = .ok (.newarray .int, 2) := by decide +kernel
theorem dX6_init_87 : decode cX6_init 87 = .ok (.putfield 44, 3) := by decide +kernel
theorem dX6_init_90 : decode cX6_init 90 = .ok (.aload_n 0, 1) := by decide +kernel
theorem dX6_init_91 : decode cX6_init 91 = .ok (.iconst 2, 1) := by decide +kernel
theorem dX6_init_92 : decode cX6_init 92 = .ok (.putfield 48, 3) := by decide +kernel
theorem dX6_init_95 : decode cX6_init 95 = .ok (.return_, 1) := by decide +kernel
theorem dX6_say_0 : decode cX6_say 0 = .ok (.iload_n 1, 1) := by decide +kernel
theorem dX6_say_1 : decode cX6_say 1 = .ok (.ifCond .lt 10, 3) := by decide +kernel
theorem dX6_say_4 : decode cX6_say 4 = .ok (.iload_n 1, 1) := by decide +kernel
theorem dX6_say_5 : decode cX6_say 5 = .ok (.sipush 9999, 3) := by decide +kernel
theorem dX6_say_8 : decode cX6_say 8 = .ok (.if_icmp .le 13, 3) := by decide +kernel
theorem dX6_say_11 : decode cX6_say 11 = .ok (.new 52, 3) := by decide +kernel
theorem dX6_say_14 : decode cX6_say 14 = .ok (.dup, 1) := by decide +kernel
theorem dX6_say_15 : decode cX6_say 15 = .ok (.ldc 54, 2) := by decide +kernel
theorem dX6_say_17 : decode cX6_say 17 = .ok (.invokespecial 56, 3) := by decide +kernel
theorem dX6_say_20 : decode cX6_say 20 = .ok (.athrow, 1) := by decide +kernel
theorem dX6_say_21 : decode cX6_say 21 = .ok (.aload_n 0, 1) := by decide +kernel
theorem dX6_say_22 : decode cX6_say 22 = .ok (.getfield 19, 3) := by decide +kernel
theorem dX6_say_25 : decode cX6_say 25 = .ok (.getfield 59, 3) := by decide +kernel
theorem dX6_say_28 : decode cX6_say 28 = .ok (.bipush 40, 2) := by decide +kernel
theorem dX6_say_30 : decode cX6_say 30 = .ok (.if_icmp .lt 13, 3) := by decide +kernel
theorem dX6_say_33 : decode cX6_say 33 = .ok (.new 62, 3) := by decide +kernel
theorem dX6_say_36 : decode cX6_say 36 = .ok (.dup, 1) := by decide +kernel
theorem dX6_say_37 : decode cX6_say 37 = .ok (.ldc 64, 2) := by decide +kernel
theorem dX6_say_39 : decode cX6_say 39 = .ok (.invokespecial 66, 3) := by decide +kernel
theorem dX6_say_42 : decode cX6_say 42 = .ok (.athrow, 1) := by decide +kernel
theorem dX6_say_43 : decode cX6_say 43 = .ok (.aload_n 0, 1) := by decide +kernel
theorem dX6_say_44 : decode cX6_say 44 = .ok (.getfield 19, 3) := by decide +kernel
theorem dX6_say_47 : decode cX6_say 47 = .ok (.iload_n 1, 1) := by decide +kernel
theorem dX6_say_48 : decode cX6_say 48 = .ok (.invokevirtual 67, 3) := by decide +kernel
theorem dX6_say_51 : decode cX6_say 51 = .ok (.aload_n 0, 1) := by decide +kernel
theorem dX6_say_52 : decode cX6_say 52 = .ok (.getfield 19, 3) := by decide +kernel
theorem dX6_say_55 : decode cX6_say 55 = .ok (.getfield 59, 3) := by decide +kernel
theorem dX6_say_58 : decode cX6_say 58 = .ok (.ireturn, 1) := by decide +kernel
theorem dX6_empty_0 : decode cX6_empty 0 = .ok (.aload_n 0, 1) := by decide +kernel
theorem dX6_empty_1 : decode cX6_empty 1 = .ok (.getfield 19, 3) := by decide +kernel
theorem dX6_empty_4 : decode cX6_empty 4 = .ok (.getfield 59, 3) := by decide +kernel
theorem dX6_empty_7 : decode cX6_empty 7 = .ok (.istore_n 1, 1) := by decide +kernel
theorem dX6_empty_8 : decode cX6_empty 8 = .ok (.aload_n 0, 1) := by decide +kernel
theorem dX6_empty_9 : decode cX6_empty 9 = .ok (.getfield 19, 3) := by decide +kernel
theorem dX6_empty_12 : decode cX6_empty 12 = .ok (.invokevirtual 71, 3) := by decide +kernel
theorem dX6_empty_15 : decode cX6_empty 15 = .ok (.iload_n 1, 1) := by decide +kernel
theorem dX6_empty_16 : decode cX6_empty 16 = .ok (.ireturn, 1) := by decide +kernel
theorem dX6_words_0 : decode cX6_words 0 = .ok (.aload_n 0, 1) := by decide +kernel
theorem dX6_words_1 : decode cX6_words 1 = .ok (.getfield 19, 3) := by decide +kernel
theorem dX6_words_4 : decode cX6_words 4 = .ok (.getfield 59, 3) := by decide +kernel
theorem dX6_words_7 : decode cX6_words 7 = .ok (.ireturn, 1) := by decide +kernel
theorem dX6_wordAt_0 : decode cX6_wordAt 0 = .ok (.iload_n 1, 1) := by decide +kernel
theorem dX6_wordAt_1 : decode cX6_wordAt 1 = .ok (.ifCond .lt 14, 3) := by decide +kernel
theorem dX6_wordAt_4 : decode cX6_wordAt 4 = .ok (.iload_n 1, 1) := by decide +kernel
theorem dX6_wordAt_5 : decode cX6_wordAt 5 = .ok (.aload_n 0, 1) := by decide +kernel
theorem dX6_wordAt_6 : decode cX6_wordAt 6 = .ok (.getfield 19, 3) := by decide +kernel
theorem dX6_wordAt_9 : decode cX6_wordAt 9 = .ok (.getfield 59, 3) := by decide +kernel
theorem dX6_wordAt_12 : decode cX6_wordAt 12 = .ok (.if_icmp .lt 13, 3) := by decide +kernel
theorem dX6_wordAt_15 : decode cX6_wordAt 15 = .ok (.new 74, 3) := by decide +kernel
theorem dX6_wordAt_18 : decode cX6_wordAt 18 = .ok (.dup, 1) := by decide +kernel
theorem dX6_wordAt_19 : decode cX6_wordAt 19 = .ok (.ldc 76, 2) := by decide +kernel
theorem dX6_wordAt_21 : decode cX6_wordAt 21 = .ok (.invokespecial 78, 3) := by decide +kernel
theorem dX6_wordAt_24 : decode cX6_wordAt 24 = .ok (.athrow, 1) := by decide +kernel
theorem dX6_wordAt_25 : decode cX6_wordAt 25 = .ok (.aload_n 0, 1) := by decide +kernel
theorem dX6_wordAt_26 : decode cX6_wordAt 26 = .ok (.getfield 19, 3) := by decide +kernel
theorem dX6_wordAt_29 : decode cX6_wordAt 29 = .ok (.getfield 79, 3) := by decide +kernel
theorem dX6_wordAt_32 : decode cX6_wordAt 32 = .ok (.iload_n 1, 1) := by decide +kernel
theorem dX6_wordAt_33 : decode cX6_wordAt 33 = .ok (.iaload, 1) := by decide +kernel
theorem dX6_wordAt_34 : decode cX6_wordAt 34 = .ok (.ireturn, 1) := by decide +kernel
theorem dX6_keep_0 : decode cX6_keep 0 = .ok (.aload_n 0, 1) := by decide +kernel
theorem dX6_keep_1 : decode cX6_keep 1 = .ok (.getfield 19, 3) := by decide +kernel
theorem dX6_keep_4 : decode cX6_keep 4 = .ok (.getfield 59, 3) := by decide +kernel
theorem dX6_keep_7 : decode cX6_keep 7 = .ok (.ifCond .ne 13, 3) := by decide +kernel
theorem dX6_keep_10 : decode cX6_keep 10 = .ok (.new 62, 3) := by decide +kernel
theorem dX6_keep_13 : decode cX6_keep 13 = .ok (.dup, 1) := by decide +kernel
theorem dX6_keep_14 : decode cX6_keep 14 = .ok (.ldc 82, 2) := by decide +kernel
theorem dX6_keep_16 : decode cX6_keep 16 = .ok (.invokespecial 66, 3) := by decide +kernel
theorem dX6_keep_19 : decode cX6_keep 19 = .ok (.athrow, 1) := by decide +kernel
theorem dX6_keep_20 : decode cX6_keep 20 = .ok (.aload_n 0, 1) := by decide +kernel
theorem dX6_keep_21 : decode cX6_keep 21 = .ok (.getfield 26, 3) := by decide +kernel
theorem dX6_keep_24 : decode cX6_keep 24 = .ok (.getfield 84, 3) := by decide +kernel
theorem dX6_keep_27 : decode cX6_keep 27 = .ok (.bipush 12, 2) := by decide +kernel
theorem dX6_keep_29 : decode cX6_keep 29 = .ok (.if_icmp .lt 13, 3) := by decide +kernel
theorem dX6_keep_32 : decode cX6_keep 32 = .ok (.new 62, 3) := by decide +kernel
theorem dX6_keep_35 : decode cX6_keep 35 = .ok (.dup, 1) := by decide +kernel
theorem dX6_keep_36 : decode cX6_keep 36 = .ok (.ldc 85, 2) := by decide +kernel
theorem dX6_keep_38 : decode cX6_keep 38 = .ok (.invokespecial 66, 3) := by decide +kernel
theorem dX6_keep_41 : decode cX6_keep 41 = .ok (.athrow, 1) := by decide +kernel
theorem dX6_keep_42 : decode cX6_keep 42 = .ok (.aload_n 0, 1) := by decide +kernel
theorem dX6_keep_43 : decode cX6_keep 43 = .ok (.getfield 26, 3) := by decide +kernel
theorem dX6_keep_46 : decode cX6_keep 46 = .ok (.aload_n 0, 1) := by decide +kernel
theorem dX6_keep_47 : decode cX6_keep 47 = .ok (.getfield 19, 3) := by decide +kernel
theorem dX6_keep_50 : decode cX6_keep 50 = .ok (.invokevirtual 87, 3) := by decide +kernel
theorem dX6_keep_53 : decode cX6_keep 53 = .ok (.aload_n 0, 1) := by decide +kernel
theorem dX6_keep_54 : decode cX6_keep 54 = .ok (.getfield 19, 3) := by decide +kernel
theorem dX6_keep_57 : decode cX6_keep 57 = .ok (.invokevirtual 71, 3) := by decide +kernel
theorem dX6_keep_60 : decode cX6_keep 60 = .ok (.aload_n 0, 1) := by decide +kernel
theorem dX6_keep_61 : decode cX6_keep 61 = .ok (.getfield 26, 3) := by decide +kernel
theorem dX6_keep_64 : decode cX6_keep 64 = .ok (.getfield 84, 3) := by decide +kernel
theorem dX6_keep_67 : decode cX6_keep 67 = .ok (.ireturn, 1) := by decide +kernel
theorem dX6_recall_0 : decode cX6_recall 0 = .ok (.iload_n 1, 1) := by decide +kernel
theorem dX6_recall_1 : decode cX6_recall 1 = .ok (.ifCond .lt 14, 3) := by decide +kernel
theorem dX6_recall_4 : decode cX6_recall 4 = .ok (.iload_n 1, 1) := by decide +kernel
theorem dX6_recall_5 : decode cX6_recall 5 = .ok (.aload_n 0, 1) := by decide +kernel
theorem dX6_recall_6 : decode cX6_recall 6 = .ok (.getfield 26, 3) := by decide +kernel
theorem dX6_recall_9 : decode cX6_recall 9 = .ok (.getfield 84, 3) := by decide +kernel
theorem dX6_recall_12 : decode cX6_recall 12 = .ok (.if_icmp .lt 13, 3) := by decide +kernel
theorem dX6_recall_15 : decode cX6_recall 15 = .ok (.new 74, 3) := by decide +kernel
theorem dX6_recall_18 : decode cX6_recall 18 = .ok (.dup, 1) := by decide +kernel
theorem dX6_recall_19 : decode cX6_recall 19 = .ok (.ldc 91, 2) := by decide +kernel
theorem dX6_recall_21 : decode cX6_recall 21 = .ok (.invokespecial 78, 3) := by decide +kernel
theorem dX6_recall_24 : decode cX6_recall 24 = .ok (.athrow, 1) := by decide +kernel
theorem dX6_recall_25 : decode cX6_recall 25 = .ok (.aload_n 0, 1) := by decide +kernel
theorem dX6_recall_26 : decode cX6_recall 26 = .ok (.getfield 19, 3) := by decide +kernel
theorem dX6_recall_29 : decode cX6_recall 29 = .ok (.invokevirtual 71, 3) := by decide +kernel
theorem dX6_recall_32 : decode cX6_recall 32 = .ok (.aload_n 0, 1) := by decide +kernel
theorem dX6_recall_33 : decode cX6_recall 33 = .ok (.getfield 19, 3) := by decide +kernel
theorem dX6_recall_36 : decode cX6_recall 36 = .ok (.aload_n 0, 1) := by decide +kernel
theorem dX6_recall_37 : decode cX6_recall 37 = .ok (.getfield 26, 3) := by decide +kernel
theorem dX6_recall_40 : decode cX6_recall 40 = .ok (.getfield 93, 3) := by decide +kernel
theorem dX6_recall_43 : decode cX6_recall 43 = .ok (.aload_n 0, 1) := by decide +kernel
theorem dX6_recall_44 : decode cX6_recall 44 = .ok (.getfield 26, 3) := by decide +kernel
theorem dX6_recall_47 : decode cX6_recall 47 = .ok (.iload_n 1, 1) := by decide +kernel
theorem dX6_recall_48 : decode cX6_recall 48 = .ok (.invokevirtual 94, 3) := by decide +kernel
theorem dX6_recall_51 : decode cX6_recall 51 = .ok (.aload_n 0, 1) := by decide +kernel
theorem dX6_recall_52 : decode cX6_recall 52 = .ok (.getfield 26, 3) := by decide +kernel
theorem dX6_recall_55 : decode cX6_recall 55 = .ok (.getfield 98, 3) := by decide +kernel
theorem dX6_recall_58 : decode cX6_recall 58 = .ok (.iload_n 1, 1) := by decide +kernel
theorem dX6_recall_59 : decode cX6_recall 59 = .ok (.iaload, 1) := by decide +kernel
theorem dX6_recall_60 : decode cX6_recall 60 = .ok (.invokevirtual 101, 3) := by decide +kernel
theorem dX6_recall_63 : decode cX6_recall 63 = .ok (.aload_n 0, 1) := by decide +kernel
theorem dX6_recall_64 : decode cX6_recall 64 = .ok (.getfield 19, 3) := by decide +kernel
theorem dX6_recall_67 : decode cX6_recall 67 = .ok (.getfield 59, 3) := by decide +kernel
theorem dX6_recall_70 : decode cX6_recall 70 = .ok (.ireturn, 1) := by decide +kernel
theorem dX6_letter_0 : decode cX6_letter 0 = .ok (.iload_n 1, 1) := by decide +kernel
theorem dX6_letter_1 : decode cX6_letter 1 = .ok (.invokestatic 105, 3) := by decide +kernel
theorem dX6_letter_4 : decode cX6_letter 4 = .ok (.iload_n 2, 1) := by decide +kernel
theorem dX6_letter_5 : decode cX6_letter 5 = .ok (.iconst 5, 1) := by decide +kernel
theorem dX6_letter_6 : decode cX6_letter 6 = .ok (.invokestatic 108, 3) := by decide +kernel
theorem dX6_letter_9 : decode cX6_letter 9 = .ok (.iload_n 1, 1) := by decide +kernel
theorem dX6_letter_10 : decode cX6_letter 10 = .ok (.iload_n 2, 1) := by decide +kernel
theorem dX6_letter_11 : decode cX6_letter 11 = .ok (.invokestatic 112, 3) := by decide +kernel
theorem dX6_letter_14 : decode cX6_letter 14 = .ok (.ireturn, 1) := by decide +kernel
theorem dX6_reason_0 : decode cX6_reason 0 = .ok (.aload_n 0, 1) := by decide +kernel
theorem dX6_reason_1 : decode cX6_reason 1 = .ok (.iload_n 1, 1) := by decide +kernel
theorem dX6_reason_2 : decode cX6_reason 2 = .ok (.invokevirtual 118, 3) := by decide +kernel
theorem dX6_reason_5 : decode cX6_reason 5 = .ok (.astore_n 3, 1) := by decide +kernel
theorem dX6_reason_6 : decode cX6_reason 6 = .ok (.iload_n 2, 1) := by decide +kernel
theorem dX6_reason_7 : decode cX6_reason 7 = .ok (.invokestatic 105, 3) := by decide +kernel
theorem dX6_reason_10 : decode cX6_reason 10 = .ok (.aload_n 3, 1) := by decide +kernel
theorem dX6_reason_11 : decode cX6_reason 11 = .ok (.iload_n 2, 1) := by decide +kernel
theorem dX6_reason_12 : decode cX6_reason 12 = .ok (.invokevirtual 122, 3) := by decide +kernel
theorem dX6_reason_15 : decode cX6_reason 15 = .ok (.ireturn, 1) := by decide +kernel
theorem dX6_firstFit_0 : decode cX6_firstFit 0 = .ok (.aload_n 0, 1) := by decide +kernel
theorem dX6_firstFit_1 : decode cX6_firstFit 1 = .ok (.iload_n 1, 1) := by decide +kernel
theorem dX6_firstFit_2 : decode cX6_firstFit 2 = .ok (.invokevirtual 118, 3) := by decide +kernel
theorem dX6_firstFit_5 : decode cX6_firstFit 5 = .ok (.astore_n 3, 1) := by decide +kernel
theorem dX6_firstFit_6 : decode cX6_firstFit 6 = .ok (.iload_n 2, 1) := by decide +kernel
theorem dX6_firstFit_7 : decode cX6_firstFit 7 = .ok (.invokestatic 105, 3) := by decide +kernel
theorem dX6_firstFit_10 : decode cX6_firstFit 10 = .ok (.aload_n 3, 1) := by decide +kernel
theorem dX6_firstFit_11 : decode cX6_firstFit 11 = .ok (.iload_n 2, 1) := by decide +kernel
theorem dX6_firstFit_12 : decode cX6_firstFit 12 = .ok (.invokevirtual 125, 3) := by decide +kernel
theorem dX6_firstFit_15 : decode cX6_firstFit 15 = .ok (.ireturn, 1) := by decide +kernel
theorem dX6_define_0 : decode cX6_define 0 = .ok (.aload_n 0, 1) := by decide +kernel
theorem dX6_define_1 : decode cX6_define 1 = .ok (.iload_n 1, 1) := by decide +kernel
theorem dX6_define_2 : decode cX6_define 2 = .ok (.invokevirtual 118, 3) := by decide +kernel
theorem dX6_define_5 : decode cX6_define 5 = .ok (.astore_n 3, 1) := by decide +kernel
theorem dX6_define_6 : decode cX6_define 6 = .ok (.iload_n 2, 1) := by decide +kernel
theorem dX6_define_7 : decode cX6_define 7 = .ok (.invokestatic 105, 3) := by decide +kernel
theorem dX6_define_10 : decode cX6_define 10 = .ok (.aload_n 3, 1) := by decide +kernel
theorem dX6_define_11 : decode cX6_define 11 = .ok (.iload_n 2, 1) := by decide +kernel
theorem dX6_define_12 : decode cX6_define 12 = .ok (.invokevirtual 122, 3) := by decide +kernel
theorem dX6_define_15 : decode cX6_define 15 = .ok (.ifCond .eq 13, 3) := by decide +kernel
theorem dX6_define_18 : decode cX6_define 18 = .ok (.new 62, 3) := by decide +kernel
theorem dX6_define_21 : decode cX6_define 21 = .ok (.dup, 1) := by decide +kernel
theorem dX6_define_22 : decode cX6_define 22 = .ok (.ldc 128, 2) := by decide +kernel
theorem dX6_define_24 : decode cX6_define 24 = .ok (.invokespecial 66, 3) := by decide +kernel
theorem dX6_define_27 : decode cX6_define 27 = .ok (.athrow, 1) := by decide +kernel
theorem dX6_define_28 : decode cX6_define 28 = .ok (.aload_n 0, 1) := by decide +kernel
theorem dX6_define_29 : decode cX6_define 29 = .ok (.getfield 19, 3) := by decide +kernel
theorem dX6_define_32 : decode cX6_define 32 = .ok (.getfield 59, 3) := by decide +kernel
theorem dX6_define_35 : decode cX6_define 35 = .ok (.iconst 1, 1) := by decide +kernel
theorem dX6_define_36 : decode cX6_define 36 = .ok (.if_icmp .lt 15, 3) := by decide +kernel
theorem dX6_define_39 : decode cX6_define 39 = .ok (.aload_n 0, 1) := by decide +kernel
theorem dX6_define_40 : decode cX6_define 40 = .ok (.getfield 19, 3) := by decide +kernel
theorem dX6_define_43 : decode cX6_define 43 = .ok (.getfield 59, 3) := by decide +kernel
theorem dX6_define_46 : decode cX6_define 46 = .ok (.bipush 6, 2) := by decide +kernel
theorem dX6_define_48 : decode cX6_define 48 = .ok (.if_icmp .le 13, 3) := by decide +kernel
theorem dX6_define_51 : decode cX6_define 51 = .ok (.new 62, 3) := by decide +kernel
theorem dX6_define_54 : decode cX6_define 54 = .ok (.dup, 1) := by decide +kernel
theorem dX6_define_55 : decode cX6_define 55 = .ok (.ldc 130, 2) := by decide +kernel
theorem dX6_define_57 : decode cX6_define 57 = .ok (.invokespecial 66, 3) := by decide +kernel
theorem dX6_define_60 : decode cX6_define 60 = .ok (.athrow, 1) := by decide +kernel
theorem dX6_define_61 : decode cX6_define 61 = .ok (.aload_n 3, 1) := by decide +kernel
theorem dX6_define_62 : decode cX6_define 62 = .ok (.iload_n 2, 1) := by decide +kernel
theorem dX6_define_63 : decode cX6_define 63 = .ok (.aload_n 0, 1) := by decide +kernel
theorem dX6_define_64 : decode cX6_define 64 = .ok (.getfield 19, 3) := by decide +kernel
theorem dX6_define_67 : decode cX6_define 67 = .ok (.invokevirtual 132, 3) := by decide +kernel
theorem dX6_define_70 : decode cX6_define 70 = .ok (.aload_n 0, 1) := by decide +kernel
theorem dX6_define_71 : decode cX6_define 71 = .ok (.getfield 19, 3) := by decide +kernel
theorem dX6_define_74 : decode cX6_define 74 = .ok (.invokevirtual 71, 3) := by decide +kernel
theorem dX6_define_77 : decode cX6_define 77 = .ok (.aload_n 3, 1) := by decide +kernel
theorem dX6_define_78 : decode cX6_define 78 = .ok (.getfield 135, 3) := by decide +kernel
theorem dX6_define_81 : decode cX6_define 81 = .ok (.iconst 1, 1) := by decide +kernel
theorem dX6_define_82 : decode cX6_define 82 = .ok (.isub, 1) := by decide +kernel
theorem dX6_define_83 : decode cX6_define 83 = .ok (.ireturn, 1) := by decide +kernel
theorem dX6_drop_0 : decode cX6_drop 0 = .ok (.aload_n 0, 1) := by decide +kernel
theorem dX6_drop_1 : decode cX6_drop 1 = .ok (.iload_n 1, 1) := by decide +kernel
theorem dX6_drop_2 : decode cX6_drop 2 = .ok (.invokevirtual 118, 3) := by decide +kernel
theorem dX6_drop_5 : decode cX6_drop 5 = .ok (.astore_n 3, 1) := by decide +kernel
theorem dX6_drop_6 : decode cX6_drop 6 = .ok (.aload_n 3, 1) := by decide +kernel
theorem dX6_drop_7 : decode cX6_drop 7 = .ok (.iload_n 2, 1) := by decide +kernel
theorem dX6_drop_8 : decode cX6_drop 8 = .ok (.invokestatic 136, 3) := by decide +kernel
theorem dX6_drop_11 : decode cX6_drop 11 = .ok (.aload_n 3, 1) := by decide +kernel
theorem dX6_drop_12 : decode cX6_drop 12 = .ok (.iload_n 2, 1) := by decide +kernel
theorem dX6_drop_13 : decode cX6_drop 13 = .ok (.invokevirtual 140, 3) := by decide +kernel
theorem dX6_drop_16 : decode cX6_drop 16 = .ok (.aload_n 3, 1) := by decide +kernel
theorem dX6_drop_17 : decode cX6_drop 17 = .ok (.getfield 135, 3) := by decide +kernel
theorem dX6_drop_20 : decode cX6_drop 20 = .ok (.ireturn, 1) := by decide +kernel
theorem dX6_entries_0 : decode cX6_entries 0 = .ok (.aload_n 0, 1) := by decide +kernel
theorem dX6_entries_1 : decode cX6_entries 1 = .ok (.iload_n 1, 1) := by decide +kernel
theorem dX6_entries_2 : decode cX6_entries 2 = .ok (.invokevirtual 118, 3) := by decide +kernel
theorem dX6_entries_5 : decode cX6_entries 5 = .ok (.getfield 135, 3) := by decide +kernel
theorem dX6_entries_8 : decode cX6_entries 8 = .ok (.ireturn, 1) := by decide +kernel
theorem dX6_entry_0 : decode cX6_entry 0 = .ok (.aload_n 0, 1) := by decide +kernel
theorem dX6_entry_1 : decode cX6_entry 1 = .ok (.iload_n 1, 1) := by decide +kernel
theorem dX6_entry_2 : decode cX6_entry 2 = .ok (.invokevirtual 118, 3) := by decide +kernel
theorem dX6_entry_5 : decode cX6_entry 5 = .ok (.astore 4, 2) := by decide +kernel
theorem dX6_entry_7 : decode cX6_entry 7 = .ok (.aload 4, 2) := by decide +kernel
theorem dX6_entry_9 : decode cX6_entry 9 = .ok (.iload_n 2, 1) := by decide +kernel
theorem dX6_entry_10 : decode cX6_entry 10 = .ok (.invokestatic 136, 3) := by decide +kernel
theorem dX6_entry_13 : decode cX6_entry 13 = .ok (.iload_n 3, 1) := by decide +kernel
theorem dX6_entry_14 : decode cX6_entry 14 = .ok (.iconst (-1), 1) := by decide +kernel
theorem dX6_entry_15 : decode cX6_entry 15 = .ok (.if_icmp .ne 11, 3) := by decide +kernel
theorem dX6_entry_18 : decode cX6_entry 18 = .ok (.aload 4, 2) := by decide +kernel
theorem dX6_entry_20 : decode cX6_entry 20 = .ok (.getfield 143, 3) := by decide +kernel
theorem dX6_entry_23 : decode cX6_entry 23 = .ok (.iload_n 2, 1) := by decide +kernel
theorem dX6_entry_24 : decode cX6_entry 24 = .ok (.iaload, 1) := by decide +kernel
theorem dX6_entry_25 : decode cX6_entry 25 = .ok (.ireturn, 1) := by decide +kernel
theorem dX6_entry_26 : decode cX6_entry 26 = .ok (.iload_n 3, 1) := by decide +kernel
theorem dX6_entry_27 : decode cX6_entry 27 = .ok (.ifCond .lt 14, 3) := by decide +kernel
theorem dX6_entry_30 : decode cX6_entry 30 = .ok (.iload_n 3, 1) := by decide +kernel
theorem dX6_entry_31 : decode cX6_entry 31 = .ok (.aload 4, 2) := by decide +kernel
theorem dX6_entry_33 : decode cX6_entry 33 = .ok (.getfield 146, 3) := by decide +kernel
theorem dX6_entry_36 : decode cX6_entry 36 = .ok (.iload_n 2, 1) := by decide +kernel
theorem dX6_entry_37 : decode cX6_entry 37 = .ok (.iaload, 1) := by decide +kernel
theorem dX6_entry_38 : decode cX6_entry 38 = .ok (.if_icmp .lt 13, 3) := by decide +kernel
theorem dX6_entry_41 : decode cX6_entry 41 = .ok (.new 74, 3) := by decide +kernel
theorem dX6_entry_44 : decode cX6_entry 44 = .ok (.dup, 1) := by decide +kernel
theorem dX6_entry_45 : decode cX6_entry 45 = .ok (.ldc 147, 2) := by decide +kernel
theorem dX6_entry_47 : decode cX6_entry 47 = .ok (.invokespecial 78, 3) := by decide +kernel
theorem dX6_entry_50 : decode cX6_entry 50 = .ok (.athrow, 1) := by decide +kernel
theorem dX6_entry_51 : decode cX6_entry 51 = .ok (.aload 4, 2) := by decide +kernel
theorem dX6_entry_53 : decode cX6_entry 53 = .ok (.getfield 149, 3) := by decide +kernel
theorem dX6_entry_56 : decode cX6_entry 56 = .ok (.iload_n 2, 1) := by decide +kernel
theorem dX6_entry_57 : decode cX6_entry 57 = .ok (.invokestatic 152, 3) := by decide +kernel
theorem dX6_entry_60 : decode cX6_entry 60 = .ok (.iload_n 3, 1) := by decide +kernel
theorem dX6_entry_61 : decode cX6_entry 61 = .ok (.iadd, 1) := by decide +kernel
theorem dX6_entry_62 : decode cX6_entry 62 = .ok (.iaload, 1) := by decide +kernel
theorem dX6_entry_63 : decode cX6_entry 63 = .ok (.ireturn, 1) := by decide +kernel
theorem dX6_find_0 : decode cX6_find 0 = .ok (.aload_n 0, 1) := by decide +kernel
theorem dX6_find_1 : decode cX6_find 1 = .ok (.iload_n 1, 1) := by decide +kernel
theorem dX6_find_2 : decode cX6_find 2 = .ok (.invokevirtual 118, 3) := by decide +kernel
theorem dX6_find_5 : decode cX6_find 5 = .ok (.astore_n 3, 1) := by decide +kernel
theorem dX6_find_6 : decode cX6_find 6 = .ok (.iload_n 2, 1) := by decide +kernel
theorem dX6_find_7 : decode cX6_find 7 = .ok (.invokestatic 105, 3) := by decide +kernel
theorem dX6_find_10 : decode cX6_find 10 = .ok (.aload_n 3, 1) := by decide +kernel
theorem dX6_find_11 : decode cX6_find 11 = .ok (.iload_n 2, 1) := by decide +kernel
theorem dX6_find_12 : decode cX6_find 12 = .ok (.invokevirtual 153, 3) := by decide +kernel
theorem dX6_find_15 : decode cX6_find 15 = .ok (.ireturn, 1) := by decide +kernel
theorem dX6_setPrice_0 : decode cX6_setPrice 0 = .ok (.iload_n 1, 1) := by decide +kernel
theorem dX6_setPrice_1 : decode cX6_setPrice 1 = .ok (.iconst 1, 1) := by decide +kernel
theorem dX6_setPrice_2 : decode cX6_setPrice 2 = .ok (.if_icmp .lt 8, 3) := by decide +kernel
theorem dX6_setPrice_5 : decode cX6_setPrice 5 = .ok (.iload_n 1, 1) := by decide +kernel
theorem dX6_setPrice_6 : decode cX6_setPrice 6 = .ok (.iconst 5, 1) := by decide +kernel
theorem dX6_setPrice_7 : decode cX6_setPrice 7 = .ok (.if_icmp .le 13, 3) := by decide +kernel
theorem dX6_setPrice_10 : decode cX6_setPrice 10 = .ok (.new 52, 3) := by decide +kernel
theorem dX6_setPrice_13 : decode cX6_setPrice 13 = .ok (.dup, 1) := by decide +kernel
theorem dX6_setPrice_14 : decode cX6_setPrice 14 = .ok (.ldc 156, 2) := by decide +kernel
theorem dX6_setPrice_16 : decode cX6_setPrice 16 = .ok (.invokespecial 56, 3) := by decide +kernel
theorem dX6_setPrice_19 : decode cX6_setPrice 19 = .ok (.athrow, 1) := by decide +kernel
theorem dX6_setPrice_20 : decode cX6_setPrice 20 = .ok (.aload_n 0, 1) := by decide +kernel
theorem dX6_setPrice_21 : decode cX6_setPrice 21 = .ok (.getfield 48, 3) := by decide +kernel
theorem dX6_setPrice_24 : decode cX6_setPrice 24 = .ok (.istore_n 2, 1) := by decide +kernel
theorem dX6_setPrice_25 : decode cX6_setPrice 25 = .ok (.aload_n 0, 1) := by decide +kernel
theorem dX6_setPrice_26 : decode cX6_setPrice 26 = .ok (.iload_n 1, 1) := by decide +kernel
theorem dX6_setPrice_27 : decode cX6_setPrice 27 = .ok (.putfield 48, 3) := by decide +kernel
theorem dX6_setPrice_30 : decode cX6_setPrice 30 = .ok (.iload_n 2, 1) := by decide +kernel
theorem dX6_setPrice_31 : decode cX6_setPrice 31 = .ok (.ireturn, 1) := by decide +kernel
theorem dX6_encode_0 : decode cX6_encode 0 = .ok (.aload_n 0, 1) := by decide +kernel
theorem dX6_encode_1 : decode cX6_encode 1 = .ok (.iload_n 1, 1) := by decide +kernel
theorem dX6_encode_2 : decode cX6_encode 2 = .ok (.invokevirtual 118, 3) := by decide +kernel
theorem dX6_encode_5 : decode cX6_encode 5 = .ok (.astore_n 2, 1) := by decide +kernel
theorem dX6_encode_6 : decode cX6_encode 6 = .ok (.aload_n 0, 1) := by decide +kernel
theorem dX6_encode_7 : decode cX6_encode 7 = .ok (.getfield 40, 3) := by decide +kernel
theorem dX6_encode_10 : decode cX6_encode 10 = .ok (.aload_n 2, 1) := by decide +kernel
theorem dX6_encode_11 : decode cX6_encode 11 = .ok (.aload_n 0, 1) := by decide +kernel
theorem dX6_encode_12 : decode cX6_encode 12 = .ok (.getfield 48, 3) := by decide +kernel
theorem dX6_encode_15 : decode cX6_encode 15 = .ok (.aload_n 0, 1) := by decide +kernel
theorem dX6_encode_16 : decode cX6_encode 16 = .ok (.getfield 19, 3) := by decide +kernel
theorem dX6_encode_19 : decode cX6_encode 19 = .ok (.getfield 79, 3) := by decide +kernel
theorem dX6_encode_22 : decode cX6_encode 22 = .ok (.iconst 0, 1) := by decide +kernel
theorem dX6_encode_23 : decode cX6_encode 23 = .ok (.aload_n 0, 1) := by decide +kernel
theorem dX6_encode_24 : decode cX6_encode 24 = .ok (.getfield 19, 3) := by decide +kernel
theorem dX6_encode_27 : decode cX6_encode 27 = .ok (.getfield 59, 3) := by decide +kernel
theorem dX6_encode_30 : decode cX6_encode 30 = .ok (.invokevirtual 158, 3) := by decide +kernel
theorem dX6_encode_33 : decode cX6_encode 33 = .ok (.istore_n 3, 1) := by decide +kernel
theorem dX6_encode_34 : decode cX6_encode 34 = .ok (.aload_n 0, 1) := by decide +kernel
theorem dX6_encode_35 : decode cX6_encode 35 = .ok (.getfield 33, 3) := by decide +kernel
theorem dX6_encode_38 : decode cX6_encode 38 = .ok (.invokevirtual 162, 3) := by decide +kernel
theorem dX6_encode_41 : decode cX6_encode 41 = .ok (.iconst 0, 1) := by decide +kernel
theorem dX6_encode_42 : decode cX6_encode 42 = .ok (.istore 4, 2) := by decide +kernel
theorem dX6_encode_44 : decode cX6_encode 44 = .ok (.iconst 0, 1) := by decide +kernel
theorem dX6_encode_45 : decode cX6_encode 45 = .ok (.istore 5, 2) := by decide +kernel
theorem dX6_encode_47 : decode cX6_encode 47 = .ok (.iload 5, 2) := by decide +kernel
theorem dX6_encode_49 : decode cX6_encode 49 = .ok (.bipush 40, 2) := by decide +kernel
theorem dX6_encode_51 : decode cX6_encode 51 = .ok (.if_icmp .ge 91, 3) := by decide +kernel
theorem dX6_encode_54 : decode cX6_encode 54 = .ok (.iload 4, 2) := by decide +kernel
theorem dX6_encode_56 : decode cX6_encode 56 = .ok (.aload_n 0, 1) := by decide +kernel
theorem dX6_encode_57 : decode cX6_encode 57 = .ok (.getfield 19, 3) := by decide +kernel
theorem dX6_encode_60 : decode cX6_encode 60 = .ok (.getfield 59, 3) := by decide +kernel
theorem dX6_encode_63 : decode cX6_encode 63 = .ok (.if_icmp .ge 79, 3) := by decide +kernel
theorem dX6_encode_66 : decode cX6_encode 66 = .ok (.aload_n 0, 1) := by decide +kernel
theorem dX6_encode_67 : decode cX6_encode 67 = .ok (.getfield 40, 3) := by decide +kernel
theorem dX6_encode_70 : decode cX6_encode 70 = .ok (.getfield 163, 3) := by decide +kernel
theorem dX6_encode_73 : decode cX6_encode 73 = .ok (.iload 4, 2) := by decide +kernel
theorem dX6_encode_75 : decode cX6_encode 75 = .ok (.iaload, 1) := by decide +kernel
theorem dX6_encode_76 : decode cX6_encode 76 = .ok (.istore 6, 2) := by decide +kernel
theorem dX6_encode_78 : decode cX6_encode 78 = .ok (.aload_n 0, 1) := by decide +kernel
theorem dX6_encode_79 : decode cX6_encode 79 = .ok (.getfield 33, 3) := by decide +kernel
theorem dX6_encode_82 : decode cX6_encode 82 = .ok (.iload 6, 2) := by decide +kernel
theorem dX6_encode_84 : decode cX6_encode 84 = .ok (.iconst (-1), 1) := by decide +kernel
theorem dX6_encode_85 : decode cX6_encode 85 = .ok (.if_icmp .ne 19, 3) := by decide +kernel
theorem dX6_encode_88 : decode cX6_encode 88 = .ok (.aload_n 0, 1) := by decide +kernel
theorem dX6_encode_89 : decode cX6_encode 89 = .ok (.getfield 19, 3) := by decide +kernel
theorem dX6_encode_92 : decode cX6_encode 92 = .ok (.getfield 79, 3) := by decide +kernel
theorem dX6_encode_95 : decode cX6_encode 95 = .ok (.iload 4, 2) := by decide +kernel
theorem dX6_encode_97 : decode cX6_encode 97 = .ok (.iaload, 1) := by decide +kernel
theorem dX6_encode_98 : decode cX6_encode 98 = .ok (.invokestatic 166, 3) := by decide +kernel
theorem dX6_encode_101 : decode cX6_encode 101 = .ok (.goto 10, 3) := by decide +kernel
theorem dX6_encode_104 : decode cX6_encode 104 = .ok (.aload_n 2, 1) := by decide +kernel
theorem dX6_encode_105 : decode cX6_encode 105 = .ok (.getfield 143, 3) := by decide +kernel
theorem dX6_encode_108 : decode cX6_encode 108 = .ok (.iload 6, 2) := by decide +kernel
theorem dX6_encode_110 : decode cX6_encode 110 = .ok (.iaload, 1) := by decide +kernel
theorem dX6_encode_111 : decode cX6_encode 111 = .ok (.invokevirtual 169, 3) := by decide +kernel
theorem dX6_encode_114 : decode cX6_encode 114 = .ok (.iload 4, 2) := by decide +kernel
theorem dX6_encode_116 : decode cX6_encode 116 = .ok (.iload 6, 2) := by decide +kernel
theorem dX6_encode_118 : decode cX6_encode 118 = .ok (.iconst (-1), 1) := by decide +kernel
theorem dX6_encode_119 : decode cX6_encode 119 = .ok (.if_icmp .ne 7, 3) := by decide +kernel
theorem dX6_encode_122 : decode cX6_encode 122 = .ok (.iconst 1, 1) := by decide +kernel
theorem dX6_encode_123 : decode cX6_encode 123 = .ok (.goto 10, 3) := by decide +kernel
theorem dX6_encode_126 : decode cX6_encode 126 = .ok (.aload_n 2, 1) := by decide +kernel
theorem dX6_encode_127 : decode cX6_encode 127 = .ok (.getfield 146, 3) := by decide +kernel
theorem dX6_encode_130 : decode cX6_encode 130 = .ok (.iload 6, 2) := by decide +kernel
theorem dX6_encode_132 : decode cX6_encode 132 = .ok (.iaload, 1) := by decide +kernel
theorem dX6_encode_133 : decode cX6_encode 133 = .ok (.iadd, 1) := by decide +kernel
theorem dX6_encode_134 : decode cX6_encode 134 = .ok (.istore 4, 2) := by decide +kernel
theorem dX6_encode_136 : decode cX6_encode 136 = .ok (.iinc 5 1, 3) := by decide +kernel
theorem dX6_encode_139 : decode cX6_encode 139 = .ok (.goto (-92), 3) := by decide +kernel
theorem dX6_encode_142 : decode cX6_encode 142 = .ok (.iload_n 3, 1) := by decide +kernel
theorem dX6_encode_143 : decode cX6_encode 143 = .ok (.ireturn, 1) := by decide +kernel
theorem dX6_groups_0 : decode cX6_groups 0 = .ok (.aload_n 0, 1) := by decide +kernel
theorem dX6_groups_1 : decode cX6_groups 1 = .ok (.getfield 33, 3) := by decide +kernel
theorem dX6_groups_4 : decode cX6_groups 4 = .ok (.getfield 170, 3) := by decide +kernel
theorem dX6_groups_7 : decode cX6_groups 7 = .ok (.ireturn, 1) := by decide +kernel
theorem dX6_group_0 : decode cX6_group 0 = .ok (.aload_n 0, 1) := by decide +kernel
theorem dX6_group_1 : decode cX6_group 1 = .ok (.iload_n 1, 1) := by decide +kernel
theorem dX6_group_2 : decode cX6_group 2 = .ok (.invokevirtual 171, 3) := by decide +kernel
theorem dX6_group_5 : decode cX6_group 5 = .ok (.aload_n 0, 1) := by decide +kernel
theorem dX6_group_6 : decode cX6_group 6 = .ok (.getfield 33, 3) := by decide +kernel
theorem dX6_group_9 : decode cX6_group 9 = .ok (.getfield 174, 3) := by decide +kernel
theorem dX6_group_12 : decode cX6_group 12 = .ok (.iload_n 1, 1) := by decide +kernel
theorem dX6_group_13 : decode cX6_group 13 = .ok (.iaload, 1) := by decide +kernel
theorem dX6_group_14 : decode cX6_group 14 = .ok (.ireturn, 1) := by decide +kernel
theorem dX6_garble_0 : decode cX6_garble 0 = .ok (.aload_n 0, 1) := by decide +kernel
theorem dX6_garble_1 : decode cX6_garble 1 = .ok (.iload_n 1, 1) := by decide +kernel
theorem dX6_garble_2 : decode cX6_garble 2 = .ok (.invokevirtual 171, 3) := by decide +kernel
theorem dX6_garble_5 : decode cX6_garble 5 = .ok (.iload_n 2, 1) := by decide +kernel
theorem dX6_garble_6 : decode cX6_garble 6 = .ok (.iconst 5, 1) := by decide +kernel
theorem dX6_garble_7 : decode cX6_garble 7 = .ok (.invokestatic 108, 3) := by decide +kernel
theorem dX6_garble_10 : decode cX6_garble 10 = .ok (.iload_n 3, 1) := by decide +kernel
theorem dX6_garble_11 : decode cX6_garble 11 = .ok (.ifCond .lt 9, 3) := by decide +kernel
theorem dX6_garble_14 : decode cX6_garble 14 = .ok (.iload_n 3, 1) := by decide +kernel
theorem dX6_garble_15 : decode cX6_garble 15 = .ok (.bipush 26, 2) := by decide +kernel
theorem dX6_garble_17 : decode cX6_garble 17 = .ok (.if_icmp .lt 13, 3) := by decide +kernel
theorem dX6_garble_20 : decode cX6_garble 20 = .ok (.new 52, 3) := by decide +kernel
theorem dX6_garble_23 : decode cX6_garble 23 = .ok (.dup, 1) := by decide +kernel
theorem dX6_garble_24 : decode cX6_garble 24 = .ok (.ldc 175, 2) := by decide +kernel
theorem dX6_garble_26 : decode cX6_garble 26 = .ok (.invokespecial 56, 3) := by decide +kernel
theorem dX6_garble_29 : decode cX6_garble 29 = .ok (.athrow, 1) := by decide +kernel
theorem dX6_garble_30 : decode cX6_garble 30 = .ok (.aload_n 0, 1) := by decide +kernel
theorem dX6_garble_31 : decode cX6_garble 31 = .ok (.iload_n 1, 1) := by decide +kernel
theorem dX6_garble_32 : decode cX6_garble 32 = .ok (.invokevirtual 177, 3) := by decide +kernel
theorem dX6_garble_35 : decode cX6_garble 35 = .ok (.aload_n 0, 1) := by decide +kernel
theorem dX6_garble_36 : decode cX6_garble 36 = .ok (.getfield 33, 3) := by decide +kernel
theorem dX6_garble_39 : decode cX6_garble 39 = .ok (.getfield 174, 3) := by decide +kernel
theorem dX6_garble_42 : decode cX6_garble 42 = .ok (.iload_n 1, 1) := by decide +kernel
theorem dX6_garble_43 : decode cX6_garble 43 = .ok (.iaload, 1) := by decide +kernel
theorem dX6_garble_44 : decode cX6_garble 44 = .ok (.istore 4, 2) := by decide +kernel
theorem dX6_garble_46 : decode cX6_garble 46 = .ok (.aload_n 0, 1) := by decide +kernel
theorem dX6_garble_47 : decode cX6_garble 47 = .ok (.getfield 33, 3) := by decide +kernel
theorem dX6_garble_50 : decode cX6_garble 50 = .ok (.getfield 174, 3) := by decide +kernel
theorem dX6_garble_53 : decode cX6_garble 53 = .ok (.iload_n 1, 1) := by decide +kernel
theorem dX6_garble_54 : decode cX6_garble 54 = .ok (.iload 4, 2) := by decide +kernel
theorem dX6_garble_56 : decode cX6_garble 56 = .ok (.iload_n 2, 1) := by decide +kernel
theorem dX6_garble_57 : decode cX6_garble 57 = .ok (.iload_n 3, 1) := by decide +kernel
theorem dX6_garble_58 : decode cX6_garble 58 = .ok (.invokestatic 180, 3) := by decide +kernel
theorem dX6_garble_61 : decode cX6_garble 61 = .ok (.iastore, 1) := by decide +kernel
theorem dX6_garble_62 : decode cX6_garble 62 = .ok (.iload 4, 2) := by decide +kernel
theorem dX6_garble_64 : decode cX6_garble 64 = .ok (.iload_n 2, 1) := by decide +kernel
theorem dX6_garble_65 : decode cX6_garble 65 = .ok (.invokestatic 112, 3) := by decide +kernel
theorem dX6_garble_68 : decode cX6_garble 68 = .ok (.ireturn, 1) := by decide +kernel
theorem dX6_swap_0 : decode cX6_swap 0 = .ok (.aload_n 0, 1) := by decide +kernel
theorem dX6_swap_1 : decode cX6_swap 1 = .ok (.iload_n 1, 1) := by decide +kernel
theorem dX6_swap_2 : decode cX6_swap 2 = .ok (.invokevirtual 171, 3) := by decide +kernel
theorem dX6_swap_5 : decode cX6_swap 5 = .ok (.iload_n 2, 1) := by decide +kernel
theorem dX6_swap_6 : decode cX6_swap 6 = .ok (.iconst 4, 1) := by decide +kernel
theorem dX6_swap_7 : decode cX6_swap 7 = .ok (.invokestatic 108, 3) := by decide +kernel
theorem dX6_swap_10 : decode cX6_swap 10 = .ok (.aload_n 0, 1) := by decide +kernel
theorem dX6_swap_11 : decode cX6_swap 11 = .ok (.iload_n 1, 1) := by decide +kernel
theorem dX6_swap_12 : decode cX6_swap 12 = .ok (.invokevirtual 177, 3) := by decide +kernel
theorem dX6_swap_15 : decode cX6_swap 15 = .ok (.aload_n 0, 1) := by decide +kernel
theorem dX6_swap_16 : decode cX6_swap 16 = .ok (.getfield 33, 3) := by decide +kernel
theorem dX6_swap_19 : decode cX6_swap 19 = .ok (.getfield 174, 3) := by decide +kernel
theorem dX6_swap_22 : decode cX6_swap 22 = .ok (.iload_n 1, 1) := by decide +kernel
theorem dX6_swap_23 : decode cX6_swap 23 = .ok (.aload_n 0, 1) := by decide +kernel
theorem dX6_swap_24 : decode cX6_swap 24 = .ok (.getfield 33, 3) := by decide +kernel
theorem dX6_swap_27 : decode cX6_swap 27 = .ok (.getfield 174, 3) := by decide +kernel
theorem dX6_swap_30 : decode cX6_swap 30 = .ok (.iload_n 1, 1) := by decide +kernel
theorem dX6_swap_31 : decode cX6_swap 31 = .ok (.iaload, 1) := by decide +kernel
theorem dX6_swap_32 : decode cX6_swap 32 = .ok (.iload_n 2, 1) := by decide +kernel
theorem dX6_swap_33 : decode cX6_swap 33 = .ok (.invokestatic 184, 3) := by decide +kernel
theorem dX6_swap_36 : decode cX6_swap 36 = .ok (.iastore, 1) := by decide +kernel
theorem dX6_swap_37 : decode cX6_swap 37 = .ok (.aload_n 0, 1) := by decide +kernel
theorem dX6_swap_38 : decode cX6_swap 38 = .ok (.getfield 33, 3) := by decide +kernel
theorem dX6_swap_41 : decode cX6_swap 41 = .ok (.getfield 174, 3) := by decide +kernel
theorem dX6_swap_44 : decode cX6_swap 44 = .ok (.iload_n 1, 1) := by decide +kernel
theorem dX6_swap_45 : decode cX6_swap 45 = .ok (.iaload, 1) := by decide +kernel
theorem dX6_swap_46 : decode cX6_swap 46 = .ok (.ireturn, 1) := by decide +kernel
theorem dX6_decode_0 : decode cX6_decode 0 = .ok (.aload_n 0, 1) := by decide +kernel
theorem dX6_decode_1 : decode cX6_decode 1 = .ok (.iload_n 1, 1) := by decide +kernel
theorem dX6_decode_2 : decode cX6_decode 2 = .ok (.invokevirtual 118, 3) := by decide +kernel
theorem dX6_decode_5 : decode cX6_decode 5 = .ok (.astore_n 2, 1) := by decide +kernel
theorem dX6_decode_6 : decode cX6_decode 6 = .ok (.aload_n 0, 1) := by decide +kernel
theorem dX6_decode_7 : decode cX6_decode 7 = .ok (.getfield 19, 3) := by decide +kernel
theorem dX6_decode_10 : decode cX6_decode 10 = .ok (.invokevirtual 71, 3) := by decide +kernel
theorem dX6_decode_13 : decode cX6_decode 13 = .ok (.aload_n 0, 1) := by decide +kernel
theorem dX6_decode_14 : decode cX6_decode 14 = .ok (.aload_n 0, 1) := by decide +kernel
theorem dX6_decode_15 : decode cX6_decode 15 = .ok (.getfield 33, 3) := by decide +kernel
theorem dX6_decode_18 : decode cX6_decode 18 = .ok (.getfield 170, 3) := by decide +kernel
theorem dX6_decode_21 : decode cX6_decode 21 = .ok (.putfield 187, 3) := by decide +kernel
theorem dX6_decode_24 : decode cX6_decode 24 = .ok (.iconst 0, 1) := by decide +kernel
theorem dX6_decode_25 : decode cX6_decode 25 = .ok (.istore_n 3, 1) := by decide +kernel
theorem dX6_decode_26 : decode cX6_decode 26 = .ok (.iconst 0, 1) := by decide +kernel
theorem dX6_decode_27 : decode cX6_decode 27 = .ok (.istore 4, 2) := by decide +kernel
theorem dX6_decode_29 : decode cX6_decode 29 = .ok (.iload 4, 2) := by decide +kernel
theorem dX6_decode_31 : decode cX6_decode 31 = .ok (.aload_n 0, 1) := by decide +kernel
theorem dX6_decode_32 : decode cX6_decode 32 = .ok (.getfield 187, 3) := by decide +kernel
theorem dX6_decode_35 : decode cX6_decode 35 = .ok (.if_icmp .ge 45, 3) := by decide +kernel
theorem dX6_decode_38 : decode cX6_decode 38 = .ok (.aload_n 0, 1) := by decide +kernel
theorem dX6_decode_39 : decode cX6_decode 39 = .ok (.getfield 44, 3) := by decide +kernel
theorem dX6_decode_42 : decode cX6_decode 42 = .ok (.iload 4, 2) := by decide +kernel
theorem dX6_decode_44 : decode cX6_decode 44 = .ok (.aload_n 0, 1) := by decide +kernel
theorem dX6_decode_45 : decode cX6_decode 45 = .ok (.aload_n 2, 1) := by decide +kernel
theorem dX6_decode_46 : decode cX6_decode 46 = .ok (.aload_n 0, 1) := by decide +kernel
theorem dX6_decode_47 : decode cX6_decode 47 = .ok (.getfield 33, 3) := by decide +kernel
theorem dX6_decode_50 : decode cX6_decode 50 = .ok (.getfield 174, 3) := by decide +kernel
theorem dX6_decode_53 : decode cX6_decode 53 = .ok (.iload 4, 2) := by decide +kernel
theorem dX6_decode_55 : decode cX6_decode 55 = .ok (.iaload, 1) := by decide +kernel
theorem dX6_decode_56 : decode cX6_decode 56 = .ok (.invokevirtual 190, 3) := by decide +kernel
theorem dX6_decode_59 : decode cX6_decode 59 = .ok (.iastore, 1) := by decide +kernel
theorem dX6_decode_60 : decode cX6_decode 60 = .ok (.aload_n 0, 1) := by decide +kernel
theorem dX6_decode_61 : decode cX6_decode 61 = .ok (.getfield 44, 3) := by decide +kernel
theorem dX6_decode_64 : decode cX6_decode 64 = .ok (.iload 4, 2) := by decide +kernel
theorem dX6_decode_66 : decode cX6_decode 66 = .ok (.iaload, 1) := by decide +kernel
theorem dX6_decode_67 : decode cX6_decode 67 = .ok (.iconst 3, 1) := by decide +kernel
theorem dX6_decode_68 : decode cX6_decode 68 = .ok (.if_icmp .ne 6, 3) := by decide +kernel
theorem dX6_decode_71 : decode cX6_decode 71 = .ok (.iinc 3 1, 3) := by decide +kernel
theorem dX6_decode_74 : decode cX6_decode 74 = .ok (.iinc 4 1, 3) := by decide +kernel
theorem dX6_decode_77 : decode cX6_decode 77 = .ok (.goto (-48), 3) := by decide +kernel
theorem dX6_decode_80 : decode cX6_decode 80 = .ok (.iload_n 3, 1) := by decide +kernel
theorem dX6_decode_81 : decode cX6_decode 81 = .ok (.ireturn, 1) := by decide +kernel
theorem dX6_how_0 : decode cX6_how 0 = .ok (.iload_n 1, 1) := by decide +kernel
theorem dX6_how_1 : decode cX6_how 1 = .ok (.ifCond .lt 11, 3) := by decide +kernel
theorem dX6_how_4 : decode cX6_how 4 = .ok (.iload_n 1, 1) := by decide +kernel
theorem dX6_how_5 : decode cX6_how 5 = .ok (.aload_n 0, 1) := by decide +kernel
theorem dX6_how_6 : decode cX6_how 6 = .ok (.getfield 187, 3) := by decide +kernel
theorem dX6_how_9 : decode cX6_how 9 = .ok (.if_icmp .lt 13, 3) := by decide +kernel
theorem dX6_how_12 : decode cX6_how 12 = .ok (.new 74, 3) := by decide +kernel
theorem dX6_how_15 : decode cX6_how 15 = .ok (.dup, 1) := by decide +kernel
theorem dX6_how_16 : decode cX6_how 16 = .ok (.ldc 194, 2) := by decide +kernel
theorem dX6_how_18 : decode cX6_how 18 = .ok (.invokespecial 78, 3) := by decide +kernel
theorem dX6_how_21 : decode cX6_how 21 = .ok (.athrow, 1) := by decide +kernel
theorem dX6_how_22 : decode cX6_how 22 = .ok (.aload_n 0, 1) := by decide +kernel
theorem dX6_how_23 : decode cX6_how 23 = .ok (.getfield 44, 3) := by decide +kernel
theorem dX6_how_26 : decode cX6_how 26 = .ok (.iload_n 1, 1) := by decide +kernel
theorem dX6_how_27 : decode cX6_how 27 = .ok (.iaload, 1) := by decide +kernel
theorem dX6_how_28 : decode cX6_how 28 = .ok (.ireturn, 1) := by decide +kernel
theorem dX6_cost_0 : decode cX6_cost 0 = .ok (.aload_n 0, 1) := by decide +kernel
theorem dX6_cost_1 : decode cX6_cost 1 = .ok (.getfield 33, 3) := by decide +kernel
theorem dX6_cost_4 : decode cX6_cost 4 = .ok (.aload_n 0, 1) := by decide +kernel
theorem dX6_cost_5 : decode cX6_cost 5 = .ok (.getfield 48, 3) := by decide +kernel
theorem dX6_cost_8 : decode cX6_cost 8 = .ok (.invokevirtual 196, 3) := by decide +kernel
theorem dX6_cost_11 : decode cX6_cost 11 = .ok (.ireturn, 1) := by decide +kernel
theorem dX6_time_0 : decode cX6_time 0 = .ok (.aload_n 0, 1) := by decide +kernel
theorem dX6_time_1 : decode cX6_time 1 = .ok (.getfield 33, 3) := by decide +kernel
theorem dX6_time_4 : decode cX6_time 4 = .ok (.invokevirtual 199, 3) := by decide +kernel
theorem dX6_time_7 : decode cX6_time 7 = .ok (.ireturn, 1) := by decide +kernel
theorem dX6_share_0 : decode cX6_share 0 = .ok (.aload_n 0, 1) := by decide +kernel
theorem dX6_share_1 : decode cX6_share 1 = .ok (.iload_n 1, 1) := by decide +kernel
theorem dX6_share_2 : decode cX6_share 2 = .ok (.invokevirtual 118, 3) := by decide +kernel
theorem dX6_share_5 : decode cX6_share 5 = .ok (.astore_n 2, 1) := by decide +kernel
theorem dX6_share_6 : decode cX6_share 6 = .ok (.iconst 0, 1) := by decide +kernel
theorem dX6_share_7 : decode cX6_share 7 = .ok (.istore_n 3, 1) := by decide +kernel
theorem dX6_share_8 : decode cX6_share 8 = .ok (.iconst 0, 1) := by decide +kernel
theorem dX6_share_9 : decode cX6_share 9 = .ok (.istore 4, 2) := by decide +kernel
theorem dX6_share_11 : decode cX6_share 11 = .ok (.iconst 0, 1) := by decide +kernel
theorem dX6_share_12 : decode cX6_share 12 = .ok (.istore 5, 2) := by decide +kernel
theorem dX6_share_14 : decode cX6_share 14 = .ok (.iload 5, 2) := by decide +kernel
theorem dX6_share_16 : decode cX6_share 16 = .ok (.aload_n 0, 1) := by decide +kernel
theorem dX6_share_17 : decode cX6_share 17 = .ok (.getfield 26, 3) := by decide +kernel
theorem dX6_share_20 : decode cX6_share 20 = .ok (.getfield 84, 3) := by decide +kernel
theorem dX6_share_23 : decode cX6_share 23 = .ok (.if_icmp .ge 65, 3) := by decide +kernel
theorem dX6_share_26 : decode cX6_share 26 = .ok (.iload_n 3, 1) := by decide +kernel
theorem dX6_share_27 : decode cX6_share 27 = .ok (.aload_n 0, 1) := by decide +kernel
theorem dX6_share_28 : decode cX6_share 28 = .ok (.getfield 40, 3) := by decide +kernel
theorem dX6_share_31 : decode cX6_share 31 = .ok (.aload_n 2, 1) := by decide +kernel
theorem dX6_share_32 : decode cX6_share 32 = .ok (.aload_n 0, 1) := by decide +kernel
theorem dX6_share_33 : decode cX6_share 33 = .ok (.getfield 48, 3) := by decide +kernel
theorem dX6_share_36 : decode cX6_share 36 = .ok (.aload_n 0, 1) := by decide +kernel
theorem dX6_share_37 : decode cX6_share 37 = .ok (.getfield 26, 3) := by decide +kernel
theorem dX6_share_40 : decode cX6_share 40 = .ok (.getfield 93, 3) := by decide +kernel
theorem dX6_share_43 : decode cX6_share 43 = .ok (.aload_n 0, 1) := by decide +kernel
theorem dX6_share_44 : decode cX6_share 44 = .ok (.getfield 26, 3) := by decide +kernel
theorem dX6_share_47 : decode cX6_share 47 = .ok (.iload 5, 2) := by decide +kernel
theorem dX6_share_49 : decode cX6_share 49 = .ok (.invokevirtual 94, 3) := by decide +kernel
theorem dX6_share_52 : decode cX6_share 52 = .ok (.aload_n 0, 1) := by decide +kernel
theorem dX6_share_53 : decode cX6_share 53 = .ok (.getfield 26, 3) := by decide +kernel
theorem dX6_share_56 : decode cX6_share 56 = .ok (.getfield 98, 3) := by decide +kernel
theorem dX6_share_59 : decode cX6_share 59 = .ok (.iload 5, 2) := by decide +kernel
theorem dX6_share_61 : decode cX6_share 61 = .ok (.iaload, 1) := by decide +kernel
theorem dX6_share_62 : decode cX6_share 62 = .ok (.invokevirtual 158, 3) := by decide +kernel
theorem dX6_share_65 : decode cX6_share 65 = .ok (.iadd, 1) := by decide +kernel
theorem dX6_share_66 : decode cX6_share 66 = .ok (.istore_n 3, 1) := by decide +kernel
theorem dX6_share_67 : decode cX6_share 67 = .ok (.iload 4, 2) := by decide +kernel
theorem dX6_share_69 : decode cX6_share 69 = .ok (.aload_n 0, 1) := by decide +kernel
theorem dX6_share_70 : decode cX6_share 70 = .ok (.getfield 26, 3) := by decide +kernel
theorem dX6_share_73 : decode cX6_share 73 = .ok (.getfield 98, 3) := by decide +kernel
theorem dX6_share_76 : decode cX6_share 76 = .ok (.iload 5, 2) := by decide +kernel
theorem dX6_share_78 : decode cX6_share 78 = .ok (.iaload, 1) := by decide +kernel
theorem dX6_share_79 : decode cX6_share 79 = .ok (.iadd, 1) := by decide +kernel
theorem dX6_share_80 : decode cX6_share 80 = .ok (.istore 4, 2) := by decide +kernel
theorem dX6_share_82 : decode cX6_share 82 = .ok (.iinc 5 1, 3) := by decide +kernel
theorem dX6_share_85 : decode cX6_share 85 = .ok (.goto (-71), 3) := by decide +kernel
theorem dX6_share_88 : decode cX6_share 88 = .ok (.aload_n 0, 1) := by decide +kernel
theorem dX6_share_89 : decode cX6_share 89 = .ok (.getfield 48, 3) := by decide +kernel
theorem dX6_share_92 : decode cX6_share 92 = .ok (.iload 4, 2) := by decide +kernel
theorem dX6_share_94 : decode cX6_share 94 = .ok (.imul, 1) := by decide +kernel
theorem dX6_share_95 : decode cX6_share 95 = .ok (.istore 5, 2) := by decide +kernel
theorem dX6_share_97 : decode cX6_share 97 = .ok (.iload 5, 2) := by decide +kernel
theorem dX6_share_99 : decode cX6_share 99 = .ok (.ifCond .ne 7, 3) := by decide +kernel
theorem dX6_share_102 : decode cX6_share 102 = .ok (.dconst 1, 1) := by decide +kernel
theorem dX6_share_103 : decode cX6_share 103 = .ok (.goto 9, 3) := by decide +kernel
theorem dX6_share_106 : decode cX6_share 106 = .ok (.iload_n 3, 1) := by decide +kernel
theorem dX6_share_107 : decode cX6_share 107 = .ok (.i2d, 1) := by decide +kernel
theorem dX6_share_108 : decode cX6_share 108 = .ok (.iload 5, 2) := by decide +kernel
theorem dX6_share_110 : decode cX6_share 110 = .ok (.i2d, 1) := by decide +kernel
theorem dX6_share_111 : decode cX6_share 111 = .ok (.ddiv, 1) := by decide +kernel
theorem dX6_share_112 : decode cX6_share 112 = .ok (.dreturn, 1) := by decide +kernel
theorem dX6_propose_0 : decode cX6_propose 0 = .ok (.aload_n 0, 1) := by decide +kernel
theorem dX6_propose_1 : decode cX6_propose 1 = .ok (.getfield 26, 3) := by decide +kernel
theorem dX6_propose_4 : decode cX6_propose 4 = .ok (.aload_n 0, 1) := by decide +kernel
theorem dX6_propose_5 : decode cX6_propose 5 = .ok (.getfield 19, 3) := by decide +kernel
theorem dX6_propose_8 : decode cX6_propose 8 = .ok (.aload_n 0, 1) := by decide +kernel
theorem dX6_propose_9 : decode cX6_propose 9 = .ok (.iload_n 1, 1) := by decide +kernel
theorem dX6_propose_10 : decode cX6_propose 10 = .ok (.invokevirtual 118, 3) := by decide +kernel
theorem dX6_propose_13 : decode cX6_propose 13 = .ok (.aload_n 0, 1) := by decide +kernel
theorem dX6_propose_14 : decode cX6_propose 14 = .ok (.getfield 48, 3) := by decide +kernel
theorem dX6_propose_17 : decode cX6_propose 17 = .ok (.invokevirtual 203, 3) := by decide +kernel
theorem dX6_propose_20 : decode cX6_propose 20 = .ok (.ireturn, 1) := by decide +kernel
theorem dX6_learn_0 : decode cX6_learn 0 = .ok (.aload_n 0, 1) := by decide +kernel
theorem dX6_learn_1 : decode cX6_learn 1 = .ok (.iload_n 1, 1) := by decide +kernel
theorem dX6_learn_2 : decode cX6_learn 2 = .ok (.invokevirtual 118, 3) := by decide +kernel
theorem dX6_learn_5 : decode cX6_learn 5 = .ok (.astore_n 3, 1) := by decide +kernel
theorem dX6_learn_6 : decode cX6_learn 6 = .ok (.iload_n 2, 1) := by decide +kernel
theorem dX6_learn_7 : decode cX6_learn 7 = .ok (.iconst 1, 1) := by decide +kernel
theorem dX6_learn_8 : decode cX6_learn 8 = .ok (.if_icmp .lt 9, 3) := by decide +kernel
theorem dX6_learn_11 : decode cX6_learn 11 = .ok (.iload_n 2, 1) := by decide +kernel
theorem dX6_learn_12 : decode cX6_learn 12 = .ok (.bipush 40, 2) := by decide +kernel
theorem dX6_learn_14 : decode cX6_learn 14 = .ok (.if_icmp .le 13, 3) := by decide +kernel
theorem dX6_learn_17 : decode cX6_learn 17 = .ok (.new 52, 3) := by decide +kernel
theorem dX6_learn_20 : decode cX6_learn 20 = .ok (.dup, 1) := by decide +kernel
theorem dX6_learn_21 : decode cX6_learn 21 = .ok (.ldc 207, 2) := by decide +kernel
theorem dX6_learn_23 : decode cX6_learn 23 = .ok (.invokespecial 56, 3) := by decide +kernel
theorem dX6_learn_26 : decode cX6_learn 26 = .ok (.athrow, 1) := by decide +kernel
theorem dX6_learn_27 : decode cX6_learn 27 = .ok (.iconst 0, 1) := by decide +kernel
theorem dX6_learn_28 : decode cX6_learn 28 = .ok (.istore 4, 2) := by decide +kernel
theorem dX6_learn_30 : decode cX6_learn 30 = .ok (.iload 4, 2) := by decide +kernel
theorem dX6_learn_32 : decode cX6_learn 32 = .ok (.iload_n 2, 1) := by decide +kernel
theorem dX6_learn_33 : decode cX6_learn 33 = .ok (.if_icmp .ge 17, 3) := by decide +kernel
theorem dX6_learn_36 : decode cX6_learn 36 = .ok (.aload_n 0, 1) := by decide +kernel
theorem dX6_learn_37 : decode cX6_learn 37 = .ok (.aload_n 3, 1) := by decide +kernel
theorem dX6_learn_38 : decode cX6_learn 38 = .ok (.invokevirtual 209, 3) := by decide +kernel
theorem dX6_learn_41 : decode cX6_learn 41 = .ok (.ifCond .eq 9, 3) := by decide +kernel
theorem dX6_learn_44 : decode cX6_learn 44 = .ok (.iinc 4 1, 3) := by decide +kernel
theorem dX6_learn_47 : decode cX6_learn 47 = .ok (.goto (-17), 3) := by decide +kernel
theorem dX6_learn_50 : decode cX6_learn 50 = .ok (.aload_n 0, 1) := by decide +kernel
theorem dX6_learn_51 : decode cX6_learn 51 = .ok (.getfield 19, 3) := by decide +kernel
theorem dX6_learn_54 : decode cX6_learn 54 = .ok (.invokevirtual 71, 3) := by decide +kernel
theorem dX6_learn_57 : decode cX6_learn 57 = .ok (.iload 4, 2) := by decide +kernel
theorem dX6_learn_59 : decode cX6_learn 59 = .ok (.ireturn, 1) := by decide +kernel
theorem dX6_digest_0 : decode cX6_digest 0 = .ok (.ldc2_w 213, 3) := by decide +kernel
theorem dX6_digest_3 : decode cX6_digest 3 = .ok (.aload_n 0, 1) := by decide +kernel
theorem dX6_digest_4 : decode cX6_digest 4 = .ok (.getfield 48, 3) := by decide +kernel
theorem dX6_digest_7 : decode cX6_digest 7 = .ok (.invokestatic 215, 3) := by decide +kernel
theorem dX6_digest_10 : decode cX6_digest 10 = .ok (.lstore_n 1, 1) := by decide +kernel
theorem dX6_digest_11 : decode cX6_digest 11 = .ok (.lload_n 1, 1) := by decide +kernel
theorem dX6_digest_12 : decode cX6_digest 12 = .ok (.aload_n 0, 1) := by decide +kernel
theorem dX6_digest_13 : decode cX6_digest 13 = .ok (.getfield 19, 3) := by decide +kernel
theorem dX6_digest_16 : decode cX6_digest 16 = .ok (.getfield 79, 3) := by decide +kernel
theorem dX6_digest_19 : decode cX6_digest 19 = .ok (.iconst 0, 1) := by decide +kernel
theorem dX6_digest_20 : decode cX6_digest 20 = .ok (.aload_n 0, 1) := by decide +kernel
theorem dX6_digest_21 : decode cX6_digest 21 = .ok (.getfield 19, 3) := by decide +kernel
theorem dX6_digest_24 : decode cX6_digest 24 = .ok (.getfield 59, 3) := by decide +kernel
theorem dX6_digest_27 : decode cX6_digest 27 = .ok (.invokestatic 219, 3) := by decide +kernel
theorem dX6_digest_30 : decode cX6_digest 30 = .ok (.lstore_n 1, 1) := by decide +kernel
theorem dX6_digest_31 : decode cX6_digest 31 = .ok (.iconst 0, 1) := by decide +kernel
theorem dX6_digest_32 : decode cX6_digest 32 = .ok (.istore_n 3, 1) := by decide +kernel
theorem dX6_digest_33 : decode cX6_digest 33 = .ok (.iload_n 3, 1) := by decide +kernel
theorem dX6_digest_34 : decode cX6_digest 34 = .ok (.iconst 3, 1) := by decide +kernel
theorem dX6_digest_35 : decode cX6_digest 35 = .ok (.if_icmp .ge 20, 3) := by decide +kernel
theorem dX6_digest_38 : decode cX6_digest 38 = .ok (.aload_n 0, 1) := by decide +kernel
theorem dX6_digest_39 : decode cX6_digest 39 = .ok (.getfield 11, 3) := by decide +kernel
theorem dX6_digest_42 : decode cX6_digest 42 = .ok (.iload_n 3, 1) := by decide +kernel
theorem dX6_digest_43 : decode cX6_digest 43 = .ok (.aaload, 1) := by decide +kernel
theorem dX6_digest_44 : decode cX6_digest 44 = .ok (.lload_n 1, 1) := by decide +kernel
theorem dX6_digest_45 : decode cX6_digest 45 = .ok (.invokevirtual 223, 3) := by decide +kernel
theorem dX6_digest_48 : decode cX6_digest 48 = .ok (.lstore_n 1, 1) := by decide +kernel
theorem dX6_digest_49 : decode cX6_digest 49 = .ok (.iinc 3 1, 3) := by decide +kernel
theorem dX6_digest_52 : decode cX6_digest 52 = .ok (.goto (-19), 3) := by decide +kernel
theorem dX6_digest_55 : decode cX6_digest 55 = .ok (.lload_n 1, 1) := by decide +kernel
theorem dX6_digest_56 : decode cX6_digest 56 = .ok (.aload_n 0, 1) := by decide +kernel
theorem dX6_digest_57 : decode cX6_digest 57 = .ok (.getfield 33, 3) := by decide +kernel
theorem dX6_digest_60 : decode cX6_digest 60 = .ok (.getfield 174, 3) := by decide +kernel
theorem dX6_digest_63 : decode cX6_digest 63 = .ok (.iconst 0, 1) := by decide +kernel
theorem dX6_digest_64 : decode cX6_digest 64 = .ok (.aload_n 0, 1) := by decide +kernel
theorem dX6_digest_65 : decode cX6_digest 65 = .ok (.getfield 33, 3) := by decide +kernel
theorem dX6_digest_68 : decode cX6_digest 68 = .ok (.getfield 170, 3) := by decide +kernel
theorem dX6_digest_71 : decode cX6_digest 71 = .ok (.invokestatic 219, 3) := by decide +kernel
theorem dX6_digest_74 : decode cX6_digest 74 = .ok (.lstore_n 1, 1) := by decide +kernel
theorem dX6_digest_75 : decode cX6_digest 75 = .ok (.aload_n 0, 1) := by decide +kernel
theorem dX6_digest_76 : decode cX6_digest 76 = .ok (.getfield 26, 3) := by decide +kernel
theorem dX6_digest_79 : decode cX6_digest 79 = .ok (.lload_n 1, 1) := by decide +kernel
theorem dX6_digest_80 : decode cX6_digest 80 = .ok (.invokevirtual 227, 3) := by decide +kernel
theorem dX6_digest_83 : decode cX6_digest 83 = .ok (.lreturn, 1) := by decide +kernel
theorem dX6_requireBook_0 : decode cX6_requireBook 0 = .ok (.iload_n 1, 1) := by decide +kernel
theorem dX6_requireBook_1 : decode cX6_requireBook 1 = .ok (.ifCond .lt 8, 3) := by decide +kernel
theorem dX6_requireBook_4 : decode cX6_requireBook 4 = .ok (.iload_n 1, 1) := by decide +kernel
theorem dX6_requireBook_5 : decode cX6_requireBook 5 = .ok (.iconst 3, 1) := by decide +kernel
theorem dX6_requireBook_6 : decode cX6_requireBook 6 = .ok (.if_icmp .lt 13, 3) := by decide +kernel
theorem dX6_requireBook_9 : decode cX6_requireBook 9 = .ok (.new 74, 3) := by decide +kernel
theorem dX6_requireBook_12 : decode cX6_requireBook 12 = .ok (.dup, 1) := by decide +kernel
theorem dX6_requireBook_13 : decode cX6_requireBook 13 = .ok (.ldc 228, 2) := by decide +kernel
theorem dX6_requireBook_15 : decode cX6_requireBook 15 = .ok (.invokespecial 78, 3) := by decide +kernel
theorem dX6_requireBook_18 : decode cX6_requireBook 18 = .ok (.athrow, 1) := by decide +kernel
theorem dX6_requireBook_19 : decode cX6_requireBook 19 = .ok (.aload_n 0, 1) := by decide +kernel
theorem dX6_requireBook_20 : decode cX6_requireBook 20 = .ok (.getfield 11, 3) := by decide +kernel
theorem dX6_requireBook_23 : decode cX6_requireBook 23 = .ok (.iload_n 1, 1) := by decide +kernel
theorem dX6_requireBook_24 : decode cX6_requireBook 24 = .ok (.aaload, 1) := by decide +kernel
theorem dX6_requireBook_25 : decode cX6_requireBook 25 = .ok (.areturn, 1) := by decide +kernel
theorem dX6_requireCode_0 : decode cX6_requireCode 0 = .ok (.iload_n 0, 1) := by decide +kernel
theorem dX6_requireCode_1 : decode cX6_requireCode 1 = .ok (.ifCond .lt 9, 3) := by decide +kernel
theorem dX6_requireCode_4 : decode cX6_requireCode 4 = .ok (.iload_n 0, 1) := by decide +kernel
theorem dX6_requireCode_5 : decode cX6_requireCode 5 = .ok (.ldc 230, 2) := by decide +kernel
theorem dX6_requireCode_7 : decode cX6_requireCode 7 = .ok (.if_icmp .le 13, 3) := by decide +kernel
theorem dX6_requireCode_10 : decode cX6_requireCode 10 = .ok (.new 52, 3) := by decide +kernel
theorem dX6_requireCode_13 : decode cX6_requireCode 13 = .ok (.dup, 1) := by decide +kernel
theorem dX6_requireCode_14 : decode cX6_requireCode 14 = .ok (.ldc 231, 2) := by decide +kernel
theorem dX6_requireCode_16 : decode cX6_requireCode 16 = .ok (.invokespecial 56, 3) := by decide +kernel
theorem dX6_requireCode_19 : decode cX6_requireCode 19 = .ok (.athrow, 1) := by decide +kernel
theorem dX6_requireCode_20 : decode cX6_requireCode 20 = .ok (.return_, 1) := by decide +kernel
theorem dX6_requirePlace_0 : decode cX6_requirePlace 0 = .ok (.iload_n 0, 1) := by decide +kernel
theorem dX6_requirePlace_1 : decode cX6_requirePlace 1 = .ok (.ifCond .lt 8, 3) := by decide +kernel
theorem dX6_requirePlace_4 : decode cX6_requirePlace 4 = .ok (.iload_n 0, 1) := by decide +kernel
theorem dX6_requirePlace_5 : decode cX6_requirePlace 5 = .ok (.iload_n 1, 1) := by decide +kernel
theorem dX6_requirePlace_6 : decode cX6_requirePlace 6 = .ok (.if_icmp .lt 13, 3) := by decide +kernel
theorem dX6_requirePlace_9 : decode cX6_requirePlace 9 = .ok (.new 74, 3) := by decide +kernel
theorem dX6_requirePlace_12 : decode cX6_requirePlace 12 = .ok (.dup, 1) := by decide +kernel
theorem dX6_requirePlace_13 : decode cX6_requirePlace 13 = .ok (.ldc 233, 2) := by decide +kernel
theorem dX6_requirePlace_15 : decode cX6_requirePlace 15 = .ok (.invokespecial 78, 3) := by decide +kernel
theorem dX6_requirePlace_18 : decode cX6_requirePlace 18 = .ok (.athrow, 1) := by decide +kernel
theorem dX6_requirePlace_19 : decode cX6_requirePlace 19 = .ok (.return_, 1) := by decide +kernel
theorem dX6_requireEntry_0 : decode cX6_requireEntry 0 = .ok (.iload_n 1, 1) := by decide +kernel
theorem dX6_requireEntry_1 : decode cX6_requireEntry 1 = .ok (.ifCond .lt 11, 3) := by decide +kernel
theorem dX6_requireEntry_4 : decode cX6_requireEntry 4 = .ok (.iload_n 1, 1) := by decide +kernel
theorem dX6_requireEntry_5 : decode cX6_requireEntry 5 = .ok (.aload_n 0, 1) := by decide +kernel
theorem dX6_requireEntry_6 : decode cX6_requireEntry 6 = .ok (.getfield 135, 3) := by decide +kernel
theorem dX6_requireEntry_9 : decode cX6_requireEntry 9 = .ok (.if_icmp .lt 13, 3) := by decide +kernel
theorem dX6_requireEntry_12 : decode cX6_requireEntry 12 = .ok (.new 74, 3) := by decide +kernel
theorem dX6_requireEntry_15 : decode cX6_requireEntry 15 = .ok (.dup, 1) := by decide +kernel
theorem dX6_requireEntry_16 : decode cX6_requireEntry 16 = .ok (.ldc 235, 2) := by decide +kernel
theorem dX6_requireEntry_18 : decode cX6_requireEntry 18 = .ok (.invokespecial 78, 3) := by decide +kernel
theorem dX6_requireEntry_21 : decode cX6_requireEntry 21 = .ok (.athrow, 1) := by decide +kernel
theorem dX6_requireEntry_22 : decode cX6_requireEntry 22 = .ok (.return_, 1) := by decide +kernel
theorem dX6_requireGroup_0 : decode cX6_requireGroup 0 = .ok (.iload_n 1, 1) := by decide +kernel
theorem dX6_requireGroup_1 : decode cX6_requireGroup 1 = .ok (.ifCond .lt 14, 3) := by decide +kernel
theorem dX6_requireGroup_4 : decode cX6_requireGroup 4 = .ok (.iload_n 1, 1) := by decide +kernel
theorem dX6_requireGroup_5 : decode cX6_requireGroup 5 = .ok (.aload_n 0, 1) := by decide +kernel
theorem dX6_requireGroup_6 : decode cX6_requireGroup 6 = .ok (.getfield 33, 3) := by decide +kernel
theorem dX6_requireGroup_9 : decode cX6_requireGroup 9 = .ok (.getfield 170, 3) := by decide +kernel
theorem dX6_requireGroup_12 : decode cX6_requireGroup 12 = .ok (.if_icmp .lt 13, 3) := by decide +kernel
theorem dX6_requireGroup_15 : decode cX6_requireGroup 15 = .ok (.new 74, 3) := by decide +kernel
theorem dX6_requireGroup_18 : decode cX6_requireGroup 18 = .ok (.dup, 1) := by decide +kernel
theorem dX6_requireGroup_19 : decode cX6_requireGroup 19 = .ok (.ldc 237, 2) := by decide +kernel
theorem dX6_requireGroup_21 : decode cX6_requireGroup 21 = .ok (.invokespecial 78, 3) := by decide +kernel
theorem dX6_requireGroup_24 : decode cX6_requireGroup 24 = .ok (.athrow, 1) := by decide +kernel
theorem dX6_requireGroup_25 : decode cX6_requireGroup 25 = .ok (.return_, 1) := by decide +kernel
theorem dX6_requireCodeWord_0 : decode cX6_requireCodeWord 0 = .ok (.aload_n 0, 1) := by decide +kernel
theorem dX6_requireCodeWord_1 : decode cX6_requireCodeWord 1 = .ok (.getfield 33, 3) := by decide +kernel
theorem dX6_requireCodeWord_4 : decode cX6_requireCodeWord 4 = .ok (.getfield 174, 3) := by decide +kernel
theorem dX6_requireCodeWord_7 : decode cX6_requireCodeWord 7 = .ok (.iload_n 1, 1) := by decide +kernel
theorem dX6_requireCodeWord_8 : decode cX6_requireCodeWord 8 = .ok (.iaload, 1) := by decide +kernel
theorem dX6_requireCodeWord_9 : decode cX6_requireCodeWord 9 = .ok (.invokestatic 239, 3) := by decide +kernel
theorem dX6_requireCodeWord_12 : decode cX6_requireCodeWord 12 = .ok (.ifCond .eq 13, 3) := by decide +kernel
theorem dX6_requireCodeWord_15 : decode cX6_requireCodeWord 15 = .ok (.new 62, 3) := by decide +kernel
theorem dX6_requireCodeWord_18 : decode cX6_requireCodeWord 18 = .ok (.dup, 1) := by decide +kernel
theorem dX6_requireCodeWord_19 : decode cX6_requireCodeWord 19 = .ok (.ldc 243, 2) := by decide +kernel
theorem dX6_requireCodeWord_21 : decode cX6_requireCodeWord 21 = .ok (.invokespecial 66, 3) := by decide +kernel
theorem dX6_requireCodeWord_24 : decode cX6_requireCodeWord 24 = .ok (.athrow, 1) := by decide +kernel
theorem dX6_requireCodeWord_25 : decode cX6_requireCodeWord 25 = .ok (.return_, 1) := by decide +kernel
theorem dX6_read_0 : decode cX6_read 0 = .ok (.iload_n 2, 1) := by decide +kernel
theorem dX6_read_1 : decode cX6_read 1 = .ok (.invokestatic 239, 3) := by decide +kernel
theorem dX6_read_4 : decode cX6_read 4 = .ok (.ifCond .eq 16, 3) := by decide +kernel
theorem dX6_read_7 : decode cX6_read 7 = .ok (.aload_n 0, 1) := by decide +kernel
theorem dX6_read_8 : decode cX6_read 8 = .ok (.getfield 19, 3) := by decide +kernel
theorem dX6_read_11 : decode cX6_read 11 = .ok (.iload_n 2, 1) := by decide +kernel
theorem dX6_read_12 : decode cX6_read 12 = .ok (.invokestatic 245, 3) := by decide +kernel
theorem dX6_read_15 : decode cX6_read 15 = .ok (.invokevirtual 67, 3) := by decide +kernel
theorem dX6_read_18 : decode cX6_read 18 = .ok (.iconst 0, 1) := by decide +kernel
theorem dX6_read_19 : decode cX6_read 19 = .ok (.ireturn, 1) := by decide +kernel
theorem dX6_read_20 : decode cX6_read 20 = .ok (.iconst 1, 1) := by decide +kernel
theorem dX6_read_21 : decode cX6_read 21 = .ok (.istore_n 3, 1) := by decide +kernel
theorem dX6_read_22 : decode cX6_read 22 = .ok (.aload_n 1, 1) := by decide +kernel
theorem dX6_read_23 : decode cX6_read 23 = .ok (.iload_n 2, 1) := by decide +kernel
theorem dX6_read_24 : decode cX6_read 24 = .ok (.invokevirtual 153, 3) := by decide +kernel
theorem dX6_read_27 : decode cX6_read 27 = .ok (.istore 4, 2) := by decide +kernel
theorem dX6_read_29 : decode cX6_read 29 = .ok (.iload 4, 2) := by decide +kernel
theorem dX6_read_31 : decode cX6_read 31 = .ok (.iconst (-1), 1) := by decide +kernel
theorem dX6_read_32 : decode cX6_read 32 = .ok (.if_icmp .ne 12, 3) := by decide +kernel
theorem dX6_read_35 : decode cX6_read 35 = .ok (.iconst 2, 1) := by decide +kernel
theorem dX6_read_36 : decode cX6_read 36 = .ok (.istore_n 3, 1) := by decide +kernel
theorem dX6_read_37 : decode cX6_read 37 = .ok (.aload_n 1, 1) := by decide +kernel
theorem dX6_read_38 : decode cX6_read 38 = .ok (.iload_n 2, 1) := by decide +kernel
theorem dX6_read_39 : decode cX6_read 39 = .ok (.invokevirtual 248, 3) := by decide +kernel
theorem dX6_read_42 : decode cX6_read 42 = .ok (.istore 4, 2) := by decide +kernel
theorem dX6_read_44 : decode cX6_read 44 = .ok (.iload 4, 2) := by decide +kernel
theorem dX6_read_46 : decode cX6_read 46 = .ok (.iconst (-1), 1) := by decide +kernel
theorem dX6_read_47 : decode cX6_read 47 = .ok (.if_icmp .ne 5, 3) := by decide +kernel
theorem dX6_read_50 : decode cX6_read 50 = .ok (.iconst 3, 1) := by decide +kernel
theorem dX6_read_51 : decode cX6_read 51 = .ok (.ireturn, 1) := by decide +kernel
theorem dX6_read_52 : decode cX6_read 52 = .ok (.aload_n 0, 1) := by decide +kernel
theorem dX6_read_53 : decode cX6_read 53 = .ok (.getfield 19, 3) := by decide +kernel
theorem dX6_read_56 : decode cX6_read 56 = .ok (.aload_n 1, 1) := by decide +kernel
theorem dX6_read_57 : decode cX6_read 57 = .ok (.getfield 149, 3) := by decide +kernel
theorem dX6_read_60 : decode cX6_read 60 = .ok (.iload 4, 2) := by decide +kernel
theorem dX6_read_62 : decode cX6_read 62 = .ok (.invokestatic 152, 3) := by decide +kernel
theorem dX6_read_65 : decode cX6_read 65 = .ok (.aload_n 1, 1) := by decide +kernel
theorem dX6_read_66 : decode cX6_read 66 = .ok (.getfield 146, 3) := by decide +kernel
theorem dX6_read_69 : decode cX6_read 69 = .ok (.iload 4, 2) := by decide +kernel
theorem dX6_read_71 : decode cX6_read 71 = .ok (.iaload, 1) := by decide +kernel
theorem dX6_read_72 : decode cX6_read 72 = .ok (.invokevirtual 101, 3) := by decide +kernel
theorem dX6_read_75 : decode cX6_read 75 = .ok (.iload_n 3, 1) := by decide +kernel
theorem dX6_read_76 : decode cX6_read 76 = .ok (.ireturn, 1) := by decide +kernel
theorem dX6_learnOne_0 : decode cX6_learnOne 0 = .ok (.aload_n 0, 1) := by decide +kernel
theorem dX6_learnOne_1 : decode cX6_learnOne 1 = .ok (.getfield 26, 3) := by decide +kernel
theorem dX6_learnOne_4 : decode cX6_learnOne 4 = .ok (.aload_n 0, 1) := by decide +kernel
theorem dX6_learnOne_5 : decode cX6_learnOne 5 = .ok (.getfield 19, 3) := by decide +kernel
theorem dX6_learnOne_8 : decode cX6_learnOne 8 = .ok (.aload_n 1, 1) := by decide +kernel
theorem dX6_learnOne_9 : decode cX6_learnOne 9 = .ok (.aload_n 0, 1) := by decide +kernel
theorem dX6_learnOne_10 : decode cX6_learnOne 10 = .ok (.getfield 48, 3) := by decide +kernel
theorem dX6_learnOne_13 : decode cX6_learnOne 13 = .ok (.invokevirtual 203, 3) := by decide +kernel
theorem dX6_learnOne_16 : decode cX6_learnOne 16 = .ok (.ifCond .ne 5, 3) := by decide +kernel
theorem dX6_learnOne_19 : decode cX6_learnOne 19 = .ok (.iconst 0, 1) := by decide +kernel
theorem dX6_learnOne_20 : decode cX6_learnOne 20 = .ok (.ireturn, 1) := by decide +kernel
theorem dX6_learnOne_21 : decode cX6_learnOne 21 = .ok (.aload_n 1, 1) := by decide +kernel
theorem dX6_learnOne_22 : decode cX6_learnOne 22 = .ok (.aload_n 1, 1) := by decide +kernel
theorem dX6_learnOne_23 : decode cX6_learnOne 23 = .ok (.invokevirtual 251, 3) := by decide +kernel
theorem dX6_learnOne_26 : decode cX6_learnOne 26 = .ok (.invokevirtual 125, 3) := by decide +kernel
theorem dX6_learnOne_29 : decode cX6_learnOne 29 = .ok (.istore_n 2, 1) := by decide +kernel
theorem dX6_learnOne_30 : decode cX6_learnOne 30 = .ok (.iload_n 2, 1) := by decide +kernel
theorem dX6_learnOne_31 : decode cX6_learnOne 31 = .ok (.iconst (-1), 1) := by decide +kernel
theorem dX6_learnOne_32 : decode cX6_learnOne 32 = .ok (.if_icmp .ne 5, 3) := by decide +kernel
theorem dX6_learnOne_35 : decode cX6_learnOne 35 = .ok (.iconst 0, 1) := by decide +kernel
theorem dX6_learnOne_36 : decode cX6_learnOne 36 = .ok (.ireturn, 1) := by decide +kernel
theorem dX6_learnOne_37 : decode cX6_learnOne 37 = .ok (.aload_n 1, 1) := by decide +kernel
theorem dX6_learnOne_38 : decode cX6_learnOne 38 = .ok (.iload_n 2, 1) := by decide +kernel
theorem dX6_learnOne_39 : decode cX6_learnOne 39 = .ok (.aload_n 0, 1) := by decide +kernel
theorem dX6_learnOne_40 : decode cX6_learnOne 40 = .ok (.getfield 19, 3) := by decide +kernel
theorem dX6_learnOne_43 : decode cX6_learnOne 43 = .ok (.invokevirtual 132, 3) := by decide +kernel
theorem dX6_learnOne_46 : decode cX6_learnOne 46 = .ok (.iconst 1, 1) := by decide +kernel
theorem dX6_learnOne_47 : decode cX6_learnOne 47 = .ok (.ireturn, 1) := by decide +kernel
theorem dX6_sameWords_0 : decode cX6_sameWords 0 = .ok (.iload_n 1, 1) := by decide +kernel
theorem dX6_sameWords_1 : decode cX6_sameWords 1 = .ok (.ifCond .lt 25, 3) := by decide +kernel
theorem dX6_sameWords_4 : decode cX6_sameWords 4 = .ok (.iload_n 1, 1) := by decide +kernel
theorem dX6_sameWords_5 : decode cX6_sameWords 5 = .ok (.iload 4, 2) := by decide +kernel
theorem dX6_sameWords_7 : decode cX6_sameWords 7 = .ok (.iadd, 1) := by decide +kernel
theorem dX6_sameWords_8 : decode cX6_sameWords 8 = .ok (.aload_n 0, 1) := by decide +kernel
theorem dX6_sameWords_9 : decode cX6_sameWords 9 = .ok (.arraylength, 1) := by decide +kernel
theorem dX6_sameWords_10 : decode cX6_sameWords 10 = .ok (.if_icmp .gt 16, 3) := by decide +kernel
theorem dX6_sameWords_13 : decode cX6_sameWords 13 = .ok (.iload_n 3, 1) := by decide +kernel
theorem dX6_sameWords_14 : decode cX6_sameWords 14 = .ok (.ifCond .lt 12, 3) := by decide +kernel
theorem dX6_sameWords_17 : decode cX6_sameWords 17 = .ok (.iload_n 3, 1) := by decide +kernel
theorem dX6_sameWords_18 : decode cX6_sameWords 18 = .ok (.iload 4, 2) := by decide +kernel
theorem dX6_sameWords_20 : decode cX6_sameWords 20 = .ok (.iadd, 1) := by decide +kernel
theorem dX6_sameWords_21 : decode cX6_sameWords 21 = .ok (.aload_n 2, 1) := by decide +kernel
theorem dX6_sameWords_22 : decode cX6_sameWords 22 = .ok (.arraylength, 1) := by decide +kernel
theorem dX6_sameWords_23 : decode cX6_sameWords 23 = .ok (.if_icmp .le 5, 3) := by decide +kernel
theorem dX6_sameWords_26 : decode cX6_sameWords 26 = .ok (.iconst 0, 1) := by decide +kernel
theorem dX6_sameWords_27 : decode cX6_sameWords 27 = .ok (.ireturn, 1) := by decide +kernel
theorem dX6_sameWords_28 : decode cX6_sameWords 28 = .ok (.iconst 0, 1) := by decide +kernel
theorem dX6_sameWords_29 : decode cX6_sameWords 29 = .ok (.istore 5, 2) := by decide +kernel
theorem dX6_sameWords_31 : decode cX6_sameWords 31 = .ok (.iload 5, 2) := by decide +kernel
theorem dX6_sameWords_33 : decode cX6_sameWords 33 = .ok (.iload 4, 2) := by decide +kernel
theorem dX6_sameWords_35 : decode cX6_sameWords 35 = .ok (.if_icmp .ge 26, 3) := by decide +kernel
theorem dX6_sameWords_38 : decode cX6_sameWords 38 = .ok (.aload_n 0, 1) := by decide +kernel
theorem dX6_sameWords_39 : decode cX6_sameWords 39 = .ok (.iload_n 1, 1) := by decide +kernel
theorem dX6_sameWords_40 : decode cX6_sameWords 40 = .ok (.iload 5, 2) := by decide +kernel
theorem dX6_sameWords_42 : decode cX6_sameWords 42 = .ok (.iadd, 1) := by decide +kernel
theorem dX6_sameWords_43 : decode cX6_sameWords 43 = .ok (.iaload, 1) := by decide +kernel
theorem dX6_sameWords_44 : decode cX6_sameWords 44 = .ok (.aload_n 2, 1) := by decide +kernel
theorem dX6_sameWords_45 : decode cX6_sameWords 45 = .ok (.iload_n 3, 1) := by decide +kernel
theorem dX6_sameWords_46 : decode cX6_sameWords 46 = .ok (.iload 5, 2) := by decide +kernel
theorem dX6_sameWords_48 : decode cX6_sameWords 48 = .ok (.iadd, 1) := by decide +kernel
theorem dX6_sameWords_49 : decode cX6_sameWords 49 = .ok (.iaload, 1) := by decide +kernel
theorem dX6_sameWords_50 : decode cX6_sameWords 50 = .ok (.if_icmp .eq 5, 3) := by decide +kernel
theorem dX6_sameWords_53 : decode cX6_sameWords 53 = .ok (.iconst 0, 1) := by decide +kernel
theorem dX6_sameWords_54 : decode cX6_sameWords 54 = .ok (.ireturn, 1) := by decide +kernel
theorem dX6_sameWords_55 : decode cX6_sameWords 55 = .ok (.iinc 5 1, 3) := by decide +kernel
theorem dX6_sameWords_58 : decode cX6_sameWords 58 = .ok (.goto (-27), 3) := by decide +kernel
theorem dX6_sameWords_61 : decode cX6_sameWords 61 = .ok (.iconst 1, 1) := by decide +kernel
theorem dX6_sameWords_62 : decode cX6_sameWords 62 = .ok (.ireturn, 1) := by decide +kernel
theorem dX6_mix_0 : decode cX6_mix 0 = .ok (.lload_n 0, 1) := by decide +kernel
theorem dX6_mix_1 : decode cX6_mix 1 = .ok (.ldc2_w 254, 3) := by decide +kernel
theorem dX6_mix_4 : decode cX6_mix 4 = .ok (.lmul, 1) := by decide +kernel
theorem dX6_mix_5 : decode cX6_mix 5 = .ok (.iload_n 2, 1) := by decide +kernel
theorem dX6_mix_6 : decode cX6_mix 6 = .ok (.i2l, 1) := by decide +kernel
theorem dX6_mix_7 : decode cX6_mix 7 = .ok (.ladd, 1) := by decide +kernel
theorem dX6_mix_8 : decode cX6_mix 8 = .ok (.lreturn, 1) := by decide +kernel
theorem dX6_mixRow_0 : decode cX6_mixRow 0 = .ok (.lload_n 0, 1) := by decide +kernel
theorem dX6_mixRow_1 : decode cX6_mixRow 1 = .ok (.iload 4, 2) := by decide +kernel
theorem dX6_mixRow_3 : decode cX6_mixRow 3 = .ok (.invokestatic 215, 3) := by decide +kernel
theorem dX6_mixRow_6 : decode cX6_mixRow 6 = .ok (.lstore 5, 2) := by decide +kernel
theorem dX6_mixRow_8 : decode cX6_mixRow 8 = .ok (.iload_n 3, 1) := by decide +kernel
theorem dX6_mixRow_9 : decode cX6_mixRow 9 = .ok (.istore 7, 2) := by decide +kernel
theorem dX6_mixRow_11 : decode cX6_mixRow 11 = .ok (.iload 7, 2) := by decide +kernel
theorem dX6_mixRow_13 : decode cX6_mixRow 13 = .ok (.iload_n 3, 1) := by decide +kernel
theorem dX6_mixRow_14 : decode cX6_mixRow 14 = .ok (.iload 4, 2) := by decide +kernel
theorem dX6_mixRow_16 : decode cX6_mixRow 16 = .ok (.iadd, 1) := by decide +kernel
theorem dX6_mixRow_17 : decode cX6_mixRow 17 = .ok (.if_icmp .ge 27, 3) := by decide +kernel
theorem dX6_mixRow_20 : decode cX6_mixRow 20 = .ok (.iload 7, 2) := by decide +kernel
theorem dX6_mixRow_22 : decode cX6_mixRow 22 = .ok (.aload_n 2, 1) := by decide +kernel
theorem dX6_mixRow_23 : decode cX6_mixRow 23 = .ok (.arraylength, 1) := by decide +kernel
theorem dX6_mixRow_24 : decode cX6_mixRow 24 = .ok (.if_icmp .ge 20, 3) := by decide +kernel
theorem dX6_mixRow_27 : decode cX6_mixRow 27 = .ok (.lload 5, 2) := by decide +kernel
theorem dX6_mixRow_29 : decode cX6_mixRow 29 = .ok (.aload_n 2, 1) := by decide +kernel
theorem dX6_mixRow_30 : decode cX6_mixRow 30 = .ok (.iload 7, 2) := by decide +kernel
theorem dX6_mixRow_32 : decode cX6_mixRow 32 = .ok (.iaload, 1) := by decide +kernel
theorem dX6_mixRow_33 : decode cX6_mixRow 33 = .ok (.invokestatic 215, 3) := by decide +kernel
theorem dX6_mixRow_36 : decode cX6_mixRow 36 = .ok (.lstore 5, 2) := by decide +kernel
theorem dX6_mixRow_38 : decode cX6_mixRow 38 = .ok (.iinc 7 1, 3) := by decide +kernel
theorem dX6_mixRow_41 : decode cX6_mixRow 41 = .ok (.goto (-30), 3) := by decide +kernel
theorem dX6_mixRow_44 : decode cX6_mixRow 44 = .ok (.lload 5, 2) := by decide +kernel
theorem dX6_mixRow_46 : decode cX6_mixRow 46 = .ok (.lreturn, 1) := by decide +kernel
theorem dX7_init_0 : decode cX7_init 0 = .ok (.aload_n 0, 1) := by decide +kernel
theorem dX7_init_1 : decode cX7_init 1 = .ok (.invokespecial 1, 3) := by decide +kernel
theorem dX7_init_4 : decode cX7_init 4 = .ok (.aload_n 0, 1) := by decide +kernel
theorem dX7_init_5 : decode cX7_init 5 = .ok (.iconst 2, 1) := by decide +kernel
theorem dX7_init_6 : decode cX7_init 6 = .ok (.putfield 7, 3) := by decide +kernel
theorem dX7_init_9 : decode cX7_init 9 = .ok (.aload_n 0, 1) := by decide +kernel
theorem dX7_init_10 : decode cX7_init 10 = .ok (.bipush 40, 2) := by decide +kernel
theorem dX7_init_12 : decode cX7_init 12 = .ok (.newarray .int, 2) := by decide +kernel
theorem dX7_init_14 : decode cX7_init 14 = .ok (.putfield 13, 3) := by decide +kernel
theorem dX7_init_17 : decode cX7_init 17 = .ok (.aload_n 0, 1) := by decide +kernel
theorem dX7_init_18 : decode cX7_init 18 = .ok (.bipush 12, 2) := by decide +kernel
theorem dX7_init_20 : decode cX7_init 20 = .ok (.newarray .int, 2) := by decide +kernel
theorem dX7_init_22 : decode cX7_init 22 = .ok (.putfield 17, 3) := by decide +kernel
theorem dX7_init_25 : decode cX7_init 25 = .ok (.aload_n 0, 1) := by decide +kernel
theorem dX7_init_26 : decode cX7_init 26 = .ok (.sipush 480, 3) := by decide +kernel
theorem dX7_init_29 : decode cX7_init 29 = .ok (.newarray .int, 2) := by decide +kernel
theorem dX7_init_31 : decode cX7_init 31 = .ok (.putfield 20, 3) := by decide +kernel
theorem dX7_init_34 : decode cX7_init 34 = .ok (.aload_n 0, 1) := by decide +kernel
theorem dX7_init_35 : decode cX7_init 35 = .ok (.iconst 3, 1) := by decide +kernel
theorem dX7_init_36 : decode cX7_init 36 = .ok (.newarray .int, 2) := by decide +kernel
theorem dX7_init_38 : decode cX7_init 38 = .ok (.putfield 23, 3) := by decide +kernel
theorem dX7_init_41 : decode cX7_init 41 = .ok (.aload_n 0, 1) := by decide +kernel
theorem dX7_init_42 : decode cX7_init 42 = .ok (.bipush 120, 2) := by decide +kernel
theorem dX7_init_44 : decode cX7_init 44 = .ok (.newarray .int, 2) := by decide +kernel
theorem dX7_init_46 : decode cX7_init 46 = .ok (.putfield 26, 3) := by decide +kernel
theorem dX7_init_49 : decode cX7_init 49 = .ok (.aload_n 0, 1) := by decide +kernel
theorem dX7_init_50 : decode cX7_init 50 = .ok (.bipush 120, 2) := by decide +kernel
theorem dX7_init_52 : decode cX7_init 52 = .ok (.newarray .int, 2) := by decide +kernel
theorem dX7_init_54 : decode cX7_init 54 = .ok (.putfield 29, 3) := by decide +kernel
theorem dX7_init_57 : decode cX7_init 57 = .ok (.aload_n 0, 1) := by decide +kernel
theorem dX7_init_58 : decode cX7_init 58 = .ok (.sipush 720, 3) := by decide +kernel
theorem dX7_init_61 : decode cX7_init 61 = .ok (.newarray .int, 2) := by decide +kernel
theorem dX7_init_63 : decode cX7_init 63 = .ok (.putfield 32, 3) := by decide +kernel
theorem dX7_init_66 : decode cX7_init 66 = .ok (.aload_n 0, 1) := by decide +kernel
theorem dX7_init_67 : decode cX7_init 67 = .ok (.bipush 40, 2) := by decide +kernel
theorem dX7_init_69 : decode cX7_init 69 = .ok (.newarray .int, 2) := by decide +kernel
theorem dX7_init_71 : decode cX7_init 71 = .ok (.putfield 35, 3) := by decide +kernel
theorem dX7_init_74 : decode cX7_init 74 = .ok (.aload_n 0, 1) := by decide +kernel
theorem dX7_init_75 : decode cX7_init 75 = .ok (.bipush 40, 2) := by decide +kernel
theorem dX7_init_77 : decode cX7_init 77 = .ok (.newarray .int, 2) := by decide +kernel
theorem dX7_init_79 : decode cX7_init 79 = .ok (.putfield 38, 3) := by decide +kernel
theorem dX7_init_82 : decode cX7_init 82 = .ok (.aload_n 0, 1) := by decide +kernel
theorem dX7_init_83 : decode cX7_init 83 = .ok (.bipush 41, 2) := by decide +kernel
theorem dX7_init_85 : decode cX7_init 85 = .ok (.newarray .int, 2) := by decide +kernel
theorem dX7_init_87 : decode cX7_init 87 = .ok (.putfield 41, 3) := by decide +kernel
theorem dX7_init_90 : decode cX7_init 90 = .ok (.aload_n 0, 1) := by decide +kernel
theorem dX7_init_91 : decode cX7_init 91 = .ok (.bipush 40, 2) := by decide +kernel
theorem dX7_init_93 : decode cX7_init 93 = .ok (.newarray .int, 2) := by decide +kernel
theorem dX7_init_95 : decode cX7_init 95 = .ok (.putfield 44, 3) := by decide +kernel
theorem dX7_init_98 : decode cX7_init 98 = .ok (.return_, 1) := by decide +kernel
theorem dX7_thrown_0 : decode cX7_thrown 0 = .ok (.aload_n 0, 1) := by decide +kernel
theorem dX7_thrown_1 : decode cX7_thrown 1 = .ok (.getfield 47, 3) := by decide +kernel
theorem dX7_thrown_4 : decode cX7_thrown 4 = .ok (.ireturn, 1) := by decide +kernel
theorem dX7_no_0 : decode cX7_no 0 = .ok (.aload_n 0, 1) := by decide +kernel
theorem dX7_no_1 : decode cX7_no 1 = .ok (.iload_n 1, 1) := by decide +kernel
theorem dX7_no_2 : decode cX7_no 2 = .ok (.putfield 47, 3) := by decide +kernel
theorem dX7_no_5 : decode cX7_no 5 = .ok (.iconst 0, 1) := by decide +kernel
theorem dX7_no_6 : decode cX7_no 6 = .ok (.ireturn, 1) := by decide +kernel
theorem dX7_isIn_0 : decode cX7_isIn 0 = .ok (.iload_n 0, 1) := by decide +kernel
theorem dX7_isIn_1 : decode cX7_isIn 1 = .ok (.iload_n 1, 1) := by decide +kernel
theorem dX7_isIn_2 : decode cX7_isIn 2 = .ok (.if_icmp .lt 12, 3) := by decide +kernel
theorem dX7_isIn_5 : decode cX7_isIn 5 = .ok (.iload_n 0, 1) := by decide +kernel
theorem dX7_isIn_6 : decode cX7_isIn 6 = .ok (.iload_n 2, 1) := by decide +kernel
theorem dX7_isIn_7 : decode cX7_isIn 7 = .ok (.if_icmp .gt 7, 3) := by decide +kernel
theorem dX7_isIn_10 : decode cX7_isIn 10 = .ok (.iconst 1, 1) := by decide +kernel
theorem dX7_isIn_11 : decode cX7_isIn 11 = .ok (.goto 4, 3) := by decide +kernel
theorem dX7_isIn_14 : decode cX7_isIn 14 = .ok (.iconst 0, 1) := by decide +kernel
theorem dX7_isIn_15 : decode cX7_isIn 15 = .ok (.ireturn, 1) := by decide +kernel
theorem dX7_isBook_0 : decode cX7_isBook 0 = .ok (.iload_n 0, 1) := by decide +kernel
theorem dX7_isBook_1 : decode cX7_isBook 1 = .ok (.iconst 0, 1) := by decide +kernel
theorem dX7_isBook_2 : decode cX7_isBook 2 = .ok (.iconst 2, 1) := by decide +kernel
theorem dX7_isBook_3 : decode cX7_isBook 3 = .ok (.invokestatic 50, 3) := by decide +kernel
theorem dX7_isBook_6 : decode cX7_isBook 6 = .ok (.ireturn, 1) := by decide +kernel
theorem dX7_isCode_0 : decode cX7_isCode 0 = .ok (.iload_n 0, 1) := by decide +kernel
theorem dX7_isCode_1 : decode cX7_isCode 1 = .ok (.iconst 0, 1) := by decide +kernel
theorem dX7_isCode_2 : decode cX7_isCode 2 = .ok (.ldc 54, 2) := by decide +kernel
theorem dX7_isCode_4 : decode cX7_isCode 4 = .ok (.invokestatic 50, 3) := by decide +kernel
theorem dX7_isCode_7 : decode cX7_isCode 7 = .ok (.ireturn, 1) := by decide +kernel
theorem dX7_isEntry_0 : decode cX7_isEntry 0 = .ok (.iload_n 1, 1) := by decide +kernel
theorem dX7_isEntry_1 : decode cX7_isEntry 1 = .ok (.invokestatic 55, 3) := by decide +kernel
theorem dX7_isEntry_4 : decode cX7_isEntry 4 = .ok (.ifCond .eq 23, 3) := by decide +kernel
theorem dX7_isEntry_7 : decode cX7_isEntry 7 = .ok (.iload_n 2, 1) := by decide +kernel
theorem dX7_isEntry_8 : decode cX7_isEntry 8 = .ok (.iconst 0, 1) := by decide +kernel
theorem dX7_isEntry_9 : decode cX7_isEntry 9 = .ok (.aload_n 0, 1) := by decide +kernel
theorem dX7_isEntry_10 : decode cX7_isEntry 10 = .ok (.getfield 23, 3) := by decide +kernel
theorem dX7_isEntry_13 : decode cX7_isEntry 13 = .ok (.iload_n 1, 1) := by decide +kernel
theorem dX7_isEntry_14 : decode cX7_isEntry 14 = .ok (.iaload, 1) := by decide +kernel
theorem dX7_isEntry_15 : decode cX7_isEntry 15 = .ok (.iconst 1, 1) := by decide +kernel
theorem dX7_isEntry_16 : decode cX7_isEntry 16 = .ok (.isub, 1) := by decide +kernel
theorem dX7_isEntry_17 : decode cX7_isEntry 17 = .ok (.invokestatic 50, 3) := by decide +kernel
theorem dX7_isEntry_20 : decode cX7_isEntry 20 = .ok (.ifCond .eq 7, 3) := by decide +kernel
theorem dX7_isEntry_23 : decode cX7_isEntry 23 = .ok (.iconst 1, 1) := by decide +kernel
theorem dX7_isEntry_24 : decode cX7_isEntry 24 = .ok (.goto 4, 3) := by decide +kernel
theorem dX7_isEntry_27 : decode cX7_isEntry 27 = .ok (.iconst 0, 1) := by decide +kernel
theorem dX7_isEntry_28 : decode cX7_isEntry 28 = .ok (.ireturn, 1) := by decide +kernel
theorem dX7_say_0 : decode cX7_say 0 = .ok (.aload_n 0, 1) := by decide +kernel
theorem dX7_say_1 : decode cX7_say 1 = .ok (.iconst 0, 1) := by decide +kernel
theorem dX7_say_2 : decode cX7_say 2 = .ok (.putfield 47, 3) := by decide +kernel
theorem dX7_say_5 : decode cX7_say 5 = .ok (.iload_n 1, 1) := by decide +kernel
theorem dX7_say_6 : decode cX7_say 6 = .ok (.iconst 0, 1) := by decide +kernel
theorem dX7_say_7 : decode cX7_say 7 = .ok (.sipush 9999, 3) := by decide +kernel
theorem dX7_say_10 : decode cX7_say 10 = .ok (.invokestatic 50, 3) := by decide +kernel
theorem dX7_say_13 : decode cX7_say 13 = .ok (.ifCond .ne 9, 3) := by decide +kernel
theorem dX7_say_16 : decode cX7_say 16 = .ok (.aload_n 0, 1) := by decide +kernel
theorem dX7_say_17 : decode cX7_say 17 = .ok (.iconst 1, 1) := by decide +kernel
theorem dX7_say_18 : decode cX7_say 18 = .ok (.invokevirtual 59, 3) := by decide +kernel
theorem dX7_say_21 : decode cX7_say 21 = .ok (.ireturn, 1) := by decide +kernel
theorem dX7_say_22 : decode cX7_say 22 = .ok (.aload_n 0, 1) := by decide +kernel
theorem dX7_say_23 : decode cX7_say 23 = .ok (.getfield 63, 3) := by decide +kernel
theorem dX7_say_26 : decode cX7_say 26 = .ok (.bipush 40, 2) := by decide +kernel
theorem dX7_say_28 : decode cX7_say 28 = .ok (.if_icmp .ne 9, 3) := by decide +kernel
theorem dX7_say_31 : decode cX7_say 31 = .ok (.aload_n 0, 1) := by decide +kernel
theorem dX7_say_32 : decode cX7_say 32 = .ok (.iconst 2, 1) := by decide +kernel
theorem dX7_say_33 : decode cX7_say 33 = .ok (.invokevirtual 59, 3) := by decide +kernel
theorem dX7_say_36 : decode cX7_say 36 = .ok (.ireturn, 1) := by decide +kernel
theorem dX7_say_37 : decode cX7_say 37 = .ok (.aload_n 0, 1) := by decide +kernel
theorem dX7_say_38 : decode cX7_say 38 = .ok (.getfield 13, 3) := by decide +kernel
theorem dX7_say_41 : decode cX7_say 41 = .ok (.aload_n 0, 1) := by decide +kernel
theorem dX7_say_42 : decode cX7_say 42 = .ok (.getfield 63, 3) := by decide +kernel
theorem dX7_say_45 : decode cX7_say 45 = .ok (.iload_n 1, 1) := by decide +kernel
theorem dX7_say_46 : decode cX7_say 46 = .ok (.iastore, 1) := by decide +kernel
theorem dX7_say_47 : decode cX7_say 47 = .ok (.aload_n 0, 1) := by decide +kernel
theorem dX7_say_48 : decode cX7_say 48 = .ok (.dup, 1) := by decide +kernel
theorem dX7_say_49 : decode cX7_say 49 = .ok (.getfield 63, 3) := by decide +kernel
theorem dX7_say_52 : decode cX7_say 52 = .ok (.iconst 1, 1) := by decide +kernel
theorem dX7_say_53 : decode cX7_say 53 = .ok (.iadd, 1) := by decide +kernel
theorem dX7_say_54 : decode cX7_say 54 = .ok (.putfield 63, 3) := by decide +kernel
theorem dX7_say_57 : decode cX7_say 57 = .ok (.aload_n 0, 1) := by decide +kernel
theorem dX7_say_58 : decode cX7_say 58 = .ok (.getfield 63, 3) := by decide +kernel
theorem dX7_say_61 : decode cX7_say 61 = .ok (.ireturn, 1) := by decide +kernel
theorem dX7_empty_0 : decode cX7_empty 0 = .ok (.aload_n 0, 1) := by decide +kernel
theorem dX7_empty_1 : decode cX7_empty 1 = .ok (.iconst 0, 1) := by decide +kernel
theorem dX7_empty_2 : decode cX7_empty 2 = .ok (.putfield 47, 3) := by decide +kernel
theorem dX7_empty_5 : decode cX7_empty 5 = .ok (.aload_n 0, 1) := by decide +kernel
theorem dX7_empty_6 : decode cX7_empty 6 = .ok (.getfield 63, 3) := by decide +kernel
theorem dX7_empty_9 : decode cX7_empty 9 = .ok (.istore_n 1, 1) := by decide +kernel
theorem dX7_empty_10 : decode cX7_empty 10 = .ok (.aload_n 0, 1) := by decide +kernel
theorem dX7_empty_11 : decode cX7_empty 11 = .ok (.iconst 0, 1) := by decide +kernel
theorem dX7_empty_12 : decode cX7_empty 12 = .ok (.putfield 63, 3) := by decide +kernel
theorem dX7_empty_15 : decode cX7_empty 15 = .ok (.iload_n 1, 1) := by decide +kernel
theorem dX7_empty_16 : decode cX7_empty 16 = .ok (.ireturn, 1) := by decide +kernel
theorem dX7_words_0 : decode cX7_words 0 = .ok (.aload_n 0, 1) := by decide +kernel
theorem dX7_words_1 : decode cX7_words 1 = .ok (.iconst 0, 1) := by decide +kernel
theorem dX7_words_2 : decode cX7_words 2 = .ok (.putfield 47, 3) := by decide +kernel
theorem dX7_words_5 : decode cX7_words 5 = .ok (.aload_n 0, 1) := by decide +kernel
theorem dX7_words_6 : decode cX7_words 6 = .ok (.getfield 63, 3) := by decide +kernel
theorem dX7_words_9 : decode cX7_words 9 = .ok (.ireturn, 1) := by decide +kernel
theorem dX7_wordAt_0 : decode cX7_wordAt 0 = .ok (.aload_n 0, 1) := by decide +kernel
theorem dX7_wordAt_1 : decode cX7_wordAt 1 = .ok (.iconst 0, 1) := by decide +kernel
theorem dX7_wordAt_2 : decode cX7_wordAt 2 = .ok (.putfield 47, 3) := by decide +kernel
theorem dX7_wordAt_5 : decode cX7_wordAt 5 = .ok (.iload_n 1, 1) := by decide +kernel
theorem dX7_wordAt_6 : decode cX7_wordAt 6 = .ok (.iconst 0, 1) := by decide +kernel
theorem dX7_wordAt_7 : decode cX7_wordAt 7 = .ok (.aload_n 0, 1) := by decide +kernel
theorem dX7_wordAt_8 : decode cX7_wordAt 8 = .ok (.getfield 63, 3) := by decide +kernel
theorem dX7_wordAt_11 : decode cX7_wordAt 11 = .ok (.iconst 1, 1) := by decide +kernel
theorem dX7_wordAt_12 : decode cX7_wordAt 12 = .ok (.isub, 1) := by decide +kernel
theorem dX7_wordAt_13 : decode cX7_wordAt 13 = .ok (.invokestatic 50, 3) := by decide +kernel
theorem dX7_wordAt_16 : decode cX7_wordAt 16 = .ok (.ifCond .eq 12, 3) := by decide +kernel
theorem dX7_wordAt_19 : decode cX7_wordAt 19 = .ok (.aload_n 0, 1) := by decide +kernel
theorem dX7_wordAt_20 : decode cX7_wordAt 20 = .ok (.getfield 13, 3) := by decide +kernel
theorem dX7_wordAt_23 : decode cX7_wordAt 23 = .ok (.iload_n 1, 1) := by decide +kernel
theorem dX7_wordAt_24 : decode cX7_wordAt 24 = .ok (.iaload, 1) := by decide +kernel
theorem dX7_wordAt_25 : decode cX7_wordAt 25 = .ok (.goto 8, 3) := by decide +kernel
theorem dX7_wordAt_28 : decode cX7_wordAt 28 = .ok (.aload_n 0, 1) := by decide +kernel
theorem dX7_wordAt_29 : decode cX7_wordAt 29 = .ok (.iconst 1, 1) := by decide +kernel
theorem dX7_wordAt_30 : decode cX7_wordAt 30 = .ok (.invokevirtual 59, 3) := by decide +kernel
theorem dX7_wordAt_33 : decode cX7_wordAt 33 = .ok (.ireturn, 1) := by decide +kernel
theorem dX7_keep_0 : decode cX7_keep 0 = .ok (.aload_n 0, 1) := by decide +kernel
theorem dX7_keep_1 : decode cX7_keep 1 = .ok (.iconst 0, 1) := by decide +kernel
theorem dX7_keep_2 : decode cX7_keep 2 = .ok (.putfield 47, 3) := by decide +kernel
theorem dX7_keep_5 : decode cX7_keep 5 = .ok (.aload_n 0, 1) := by decide +kernel
theorem dX7_keep_6 : decode cX7_keep 6 = .ok (.getfield 63, 3) := by decide +kernel
theorem dX7_keep_9 : decode cX7_keep 9 = .ok (.ifCond .eq 12, 3) := by decide +kernel
theorem dX7_keep_12 : decode cX7_keep 12 = .ok (.aload_n 0, 1) := by decide +kernel
theorem dX7_keep_13 : decode cX7_keep 13 = .ok (.getfield 66, 3) := by decide +kernel
theorem dX7_keep_16 : decode cX7_keep 16 = .ok (.bipush 12, 2) := by decide +kernel
theorem dX7_keep_18 : decode cX7_keep 18 = .ok (.if_icmp .ne 9, 3) := by decide +kernel
theorem dX7_keep_21 : decode cX7_keep 21 = .ok (.aload_n 0, 1) := by decide +kernel
theorem dX7_keep_22 : decode cX7_keep 22 = .ok (.iconst 1, 1) := by decide +kernel
theorem dX7_keep_23 : decode cX7_keep 23 = .ok (.invokevirtual 59, 3) := by decide +kernel
theorem dX7_keep_26 : decode cX7_keep 26 = .ok (.ireturn, 1) := by decide +kernel
theorem dX7_keep_27 : decode cX7_keep 27 = .ok (.aload_n 0, 1) := by decide +kernel
theorem dX7_keep_28 : decode cX7_keep 28 = .ok (.getfield 13, 3) := by decide +kernel
theorem dX7_keep_31 : decode cX7_keep 31 = .ok (.iconst 0, 1) := by decide +kernel
theorem dX7_keep_32 : decode cX7_keep 32 = .ok (.aload_n 0, 1) := by decide +kernel
theorem dX7_keep_33 : decode cX7_keep 33 = .ok (.getfield 20, 3) := by decide +kernel
theorem dX7_keep_36 : decode cX7_keep 36 = .ok (.bipush 40, 2) := by decide +kernel
theorem dX7_keep_38 : decode cX7_keep 38 = .ok (.aload_n 0, 1) := by decide +kernel
theorem dX7_keep_39 : decode cX7_keep 39 = .ok (.getfield 66, 3) := by decide +kernel
theorem dX7_keep_42 : decode cX7_keep 42 = .ok (.imul, 1) := by decide +kernel
theorem dX7_keep_43 : decode cX7_keep 43 = .ok (.aload_n 0, 1) := by decide +kernel
theorem dX7_keep_44 : decode cX7_keep 44 = .ok (.getfield 63, 3) := by decide +kernel
theorem dX7_keep_47 : decode cX7_keep 47 = .ok (.invokestatic 69, 3) := by decide +kernel
theorem dX7_keep_50 : decode cX7_keep 50 = .ok (.aload_n 0, 1) := by decide +kernel
theorem dX7_keep_51 : decode cX7_keep 51 = .ok (.getfield 17, 3) := by decide +kernel
theorem dX7_keep_54 : decode cX7_keep 54 = .ok (.aload_n 0, 1) := by decide +kernel
theorem dX7_keep_55 : decode cX7_keep 55 = .ok (.getfield 66, 3) := by decide +kernel
theorem dX7_keep_58 : decode cX7_keep 58 = .ok (.aload_n 0, 1) := by decide +kernel
theorem dX7_keep_59 : decode cX7_keep 59 = .ok (.getfield 63, 3) := by decide +kernel
theorem dX7_keep_62 : decode cX7_keep 62 = .ok (.iastore, 1) := by decide +kernel
theorem dX7_keep_63 : decode cX7_keep 63 = .ok (.aload_n 0, 1) := by decide +kernel
theorem dX7_keep_64 : decode cX7_keep 64 = .ok (.dup, 1) := by decide +kernel
theorem dX7_keep_65 : decode cX7_keep 65 = .ok (.getfield 66, 3) := by decide +kernel
theorem dX7_keep_68 : decode cX7_keep 68 = .ok (.iconst 1, 1) := by decide +kernel
theorem dX7_keep_69 : decode cX7_keep 69 = .ok (.iadd, 1) := by decide +kernel
theorem dX7_keep_70 : decode cX7_keep 70 = .ok (.putfield 66, 3) := by decide +kernel
theorem dX7_keep_73 : decode cX7_keep 73 = .ok (.aload_n 0, 1) := by decide +kernel
theorem dX7_keep_74 : decode cX7_keep 74 = .ok (.iconst 0, 1) := by decide +kernel
theorem dX7_keep_75 : decode cX7_keep 75 = .ok (.putfield 63, 3) := by decide +kernel
theorem dX7_keep_78 : decode cX7_keep 78 = .ok (.aload_n 0, 1) := by decide +kernel
theorem dX7_keep_79 : decode cX7_keep 79 = .ok (.getfield 66, 3) := by decide +kernel
theorem dX7_keep_82 : decode cX7_keep 82 = .ok (.ireturn, 1) := by decide +kernel
theorem dX7_recall_0 : decode cX7_recall 0 = .ok (.aload_n 0, 1) := by decide +kernel
theorem dX7_recall_1 : decode cX7_recall 1 = .ok (.iconst 0, 1) := by decide +kernel
theorem dX7_recall_2 : decode cX7_recall 2 = .ok (.putfield 47, 3) := by decide +kernel
theorem dX7_recall_5 : decode cX7_recall 5 = .ok (.iload_n 1, 1) := by decide +kernel
theorem dX7_recall_6 : decode cX7_recall 6 = .ok (.iconst 0, 1) := by decide +kernel
theorem dX7_recall_7 : decode cX7_recall 7 = .ok (.aload_n 0, 1) := by decide +kernel
theorem dX7_recall_8 : decode cX7_recall 8 = .ok (.getfield 66, 3) := by decide +kernel
theorem dX7_recall_11 : decode cX7_recall 11 = .ok (.iconst 1, 1) := by decide +kernel
theorem dX7_recall_12 : decode cX7_recall 12 = .ok (.isub, 1) := by decide +kernel
theorem dX7_recall_13 : decode cX7_recall 13 = .ok (.invokestatic 50, 3) := by decide +kernel
theorem dX7_recall_16 : decode cX7_recall 16 = .ok (.ifCond .ne 9, 3) := by decide +kernel
theorem dX7_recall_19 : decode cX7_recall 19 = .ok (.aload_n 0, 1) := by decide +kernel
theorem dX7_recall_20 : decode cX7_recall 20 = .ok (.iconst 1, 1) := by decide +kernel
theorem dX7_recall_21 : decode cX7_recall 21 = .ok (.invokevirtual 59, 3) := by decide +kernel
theorem dX7_recall_24 : decode cX7_recall 24 = .ok (.ireturn, 1) := by decide +kernel
theorem dX7_recall_25 : decode cX7_recall 25 = .ok (.aload_n 0, 1) := by decide +kernel
theorem dX7_recall_26 : decode cX7_recall 26 = .ok (.aload_n 0, 1) := by decide +kernel
theorem dX7_recall_27 : decode cX7_recall 27 = .ok (.getfield 17, 3) := by decide +kernel
theorem dX7_recall_30 : decode cX7_recall 30 = .ok (.iload_n 1, 1) := by decide +kernel
theorem dX7_recall_31 : decode cX7_recall 31 = .ok (.iaload, 1) := by decide +kernel
theorem dX7_recall_32 : decode cX7_recall 32 = .ok (.putfield 63, 3) := by decide +kernel
theorem dX7_recall_35 : decode cX7_recall 35 = .ok (.aload_n 0, 1) := by decide +kernel
theorem dX7_recall_36 : decode cX7_recall 36 = .ok (.getfield 20, 3) := by decide +kernel
theorem dX7_recall_39 : decode cX7_recall 39 = .ok (.bipush 40, 2) := by decide +kernel
theorem dX7_recall_41 : decode cX7_recall 41 = .ok (.iload_n 1, 1) := by decide +kernel
theorem dX7_recall_42 : decode cX7_recall 42 = .ok (.imul, 1) := by decide +kernel
theorem dX7_recall_43 : decode cX7_recall 43 = .ok (.aload_n 0, 1) := by decide +kernel
theorem dX7_recall_44 : decode cX7_recall 44 = .ok (.getfield 13, 3) := by decide +kernel
theorem dX7_recall_47 : decode cX7_recall 47 = .ok (.iconst 0, 1) := by decide +kernel
theorem dX7_recall_48 : decode cX7_recall 48 = .ok (.aload_n 0, 1) := by decide +kernel
theorem dX7_recall_49 : decode cX7_recall 49 = .ok (.getfield 63, 3) := by decide +kernel
theorem dX7_recall_52 : decode cX7_recall 52 = .ok (.invokestatic 69, 3) := by decide +kernel
theorem dX7_recall_55 : decode cX7_recall 55 = .ok (.aload_n 0, 1) := by decide +kernel
theorem dX7_recall_56 : decode cX7_recall 56 = .ok (.getfield 63, 3) := by decide +kernel
theorem dX7_recall_59 : decode cX7_recall 59 = .ok (.ireturn, 1) := by decide +kernel
theorem dX7_power_0 : decode cX7_power 0 = .ok (.iconst 1, 1) := by decide +kernel
theorem dX7_power_1 : decode cX7_power 1 = .ok (.istore_n 1, 1) := by decide +kernel
theorem dX7_power_2 : decode cX7_power 2 = .ok (.iload_n 0, 1) := by decide +kernel
theorem dX7_power_3 : decode cX7_power 3 = .ok (.istore_n 2, 1) := by decide +kernel
theorem dX7_power_4 : decode cX7_power 4 = .ok (.iload_n 2, 1) := by decide +kernel
theorem dX7_power_5 : decode cX7_power 5 = .ok (.iconst 4, 1) := by decide +kernel
theorem dX7_power_6 : decode cX7_power 6 = .ok (.if_icmp .ge 14, 3) := by decide +kernel
theorem dX7_power_9 : decode cX7_power 9 = .ok (.iload_n 1, 1) := by decide +kernel
theorem dX7_power_10 : decode cX7_power 10 = .ok (.bipush 26, 2) := by decide +kernel
theorem dX7_power_12 : decode cX7_power 12 = .ok (.imul, 1) := by decide +kernel
theorem dX7_power_13 : decode cX7_power 13 = .ok (.istore_n 1, 1) := by decide +kernel
theorem dX7_power_14 : decode cX7_power 14 = .ok (.iinc 2 1, 3) := by decide +kernel
theorem dX7_power_17 : decode cX7_power 17 = .ok (.goto (-13), 3) := by decide +kernel
theorem dX7_power_20 : decode cX7_power 20 = .ok (.iload_n 1, 1) := by decide +kernel
theorem dX7_power_21 : decode cX7_power 21 = .ok (.ireturn, 1) := by decide +kernel
theorem dX7_letterOf_0 : decode cX7_letterOf 0 = .ok (.iload_n 0, 1) := by decide +kernel
theorem dX7_letterOf_1 : decode cX7_letterOf 1 = .ok (.iload_n 1, 1) := by decide +kernel
theorem dX7_letterOf_2 : decode cX7_letterOf 2 = .ok (.invokestatic 75, 3) := by decide +kernel
theorem dX7_letterOf_5 : decode cX7_letterOf 5 = .ok (.idiv, 1) := by decide +kernel
theorem dX7_letterOf_6 : decode cX7_letterOf 6 = .ok (.bipush 26, 2) := by decide +kernel
theorem dX7_letterOf_8 : decode cX7_letterOf 8 = .ok (.irem, 1) := by decide +kernel
theorem dX7_letterOf_9 : decode cX7_letterOf 9 = .ok (.ireturn, 1) := by decide +kernel
theorem dX7_letter_0 : decode cX7_letter 0 = .ok (.aload_n 0, 1) := by decide +kernel
theorem dX7_letter_1 : decode cX7_letter 1 = .ok (.iconst 0, 1) := by decide +kernel
theorem dX7_letter_2 : decode cX7_letter 2 = .ok (.putfield 47, 3) := by decide +kernel
theorem dX7_letter_5 : decode cX7_letter 5 = .ok (.iload_n 1, 1) := by decide +kernel
theorem dX7_letter_6 : decode cX7_letter 6 = .ok (.invokestatic 78, 3) := by decide +kernel
theorem dX7_letter_9 : decode cX7_letter 9 = .ok (.ifCond .ne 9, 3) := by decide +kernel
theorem dX7_letter_12 : decode cX7_letter 12 = .ok (.aload_n 0, 1) := by decide +kernel
theorem dX7_letter_13 : decode cX7_letter 13 = .ok (.iconst 1, 1) := by decide +kernel
theorem dX7_letter_14 : decode cX7_letter 14 = .ok (.invokevirtual 59, 3) := by decide +kernel
theorem dX7_letter_17 : decode cX7_letter 17 = .ok (.ireturn, 1) := by decide +kernel
theorem dX7_letter_18 : decode cX7_letter 18 = .ok (.iload_n 2, 1) := by decide +kernel
theorem dX7_letter_19 : decode cX7_letter 19 = .ok (.iconst 0, 1) := by decide +kernel
theorem dX7_letter_20 : decode cX7_letter 20 = .ok (.iconst 4, 1) := by decide +kernel
theorem dX7_letter_21 : decode cX7_letter 21 = .ok (.invokestatic 50, 3) := by decide +kernel
theorem dX7_letter_24 : decode cX7_letter 24 = .ok (.ifCond .eq 11, 3) := by decide +kernel
theorem dX7_letter_27 : decode cX7_letter 27 = .ok (.iload_n 1, 1) := by decide +kernel
theorem dX7_letter_28 : decode cX7_letter 28 = .ok (.iload_n 2, 1) := by decide +kernel
theorem dX7_letter_29 : decode cX7_letter 29 = .ok (.invokestatic 81, 3) := by decide +kernel
theorem dX7_letter_32 : decode cX7_letter 32 = .ok (.goto 8, 3) := by decide +kernel
theorem dX7_letter_35 : decode cX7_letter 35 = .ok (.aload_n 0, 1) := by decide +kernel
theorem dX7_letter_36 : decode cX7_letter 36 = .ok (.iconst 2, 1) := by decide +kernel
theorem dX7_letter_37 : decode cX7_letter 37 = .ok (.invokevirtual 59, 3) := by decide +kernel
theorem dX7_letter_40 : decode cX7_letter 40 = .ok (.ireturn, 1) := by decide +kernel
theorem dX7_isOneOff_0 : decode cX7_isOneOff 0 = .ok (.iconst 0, 1) := by decide +kernel
theorem dX7_isOneOff_1 : decode cX7_isOneOff 1 = .ok (.istore_n 2, 1) := by decide +kernel
theorem dX7_isOneOff_2 : decode cX7_isOneOff 2 = .ok (.iconst 0, 1) := by decide +kernel
theorem dX7_isOneOff_3 : decode cX7_isOneOff 3 = .ok (.istore_n 3, 1) := by decide +kernel
theorem dX7_isOneOff_4 : decode cX7_isOneOff 4 = .ok (.iload_n 3, 1) := by decide +kernel
theorem dX7_isOneOff_5 : decode cX7_isOneOff 5 = .ok (.iconst 5, 1) := by decide +kernel
theorem dX7_isOneOff_6 : decode cX7_isOneOff 6 = .ok (.if_icmp .ge 30, 3) := by decide +kernel
theorem dX7_isOneOff_9 : decode cX7_isOneOff 9 = .ok (.iload_n 2, 1) := by decide +kernel
theorem dX7_isOneOff_10 : decode cX7_isOneOff 10 = .ok (.iload_n 0, 1) := by decide +kernel
theorem dX7_isOneOff_11 : decode cX7_isOneOff 11 = .ok (.iload_n 3, 1) := by decide +kernel
theorem dX7_isOneOff_12 : decode cX7_isOneOff 12 = .ok (.invokestatic 81, 3) := by decide +kernel
theorem dX7_isOneOff_15 : decode cX7_isOneOff 15 = .ok (.iload_n 1, 1) := by decide +kernel
theorem dX7_isOneOff_16 : decode cX7_isOneOff 16 = .ok (.iload_n 3, 1) := by decide +kernel
theorem dX7_isOneOff_17 : decode cX7_isOneOff 17 = .ok (.invokestatic 81, 3) := by decide +kernel
theorem dX7_isOneOff_20 : decode cX7_isOneOff 20 = .ok (.if_icmp .ne 7, 3) := by decide +kernel
theorem dX7_isOneOff_23 : decode cX7_isOneOff 23 = .ok (.iconst 0, 1) := by decide +kernel
theorem dX7_isOneOff_24 : decode cX7_isOneOff 24 = .ok (.goto 4, 3) := by decide +kernel
theorem dX7_isOneOff_27 : decode cX7_isOneOff 27 = .ok (.iconst 1, 1) := by decide +kernel
theorem dX7_isOneOff_28 : decode cX7_isOneOff 28 = .ok (.iadd, 1) := by decide +kernel
theorem dX7_isOneOff_29 : decode cX7_isOneOff 29 = .ok (.istore_n 2, 1) := by decide +kernel
theorem dX7_isOneOff_30 : decode cX7_isOneOff 30 = .ok (.iinc 3 1, 3) := by decide +kernel
theorem dX7_isOneOff_33 : decode cX7_isOneOff 33 = .ok (.goto (-29), 3) := by decide +kernel
theorem dX7_isOneOff_36 : decode cX7_isOneOff 36 = .ok (.iload_n 2, 1) := by decide +kernel
theorem dX7_isOneOff_37 : decode cX7_isOneOff 37 = .ok (.iconst 1, 1) := by decide +kernel
theorem dX7_isOneOff_38 : decode cX7_isOneOff 38 = .ok (.if_icmp .ne 7, 3) := by decide +kernel
theorem dX7_isOneOff_41 : decode cX7_isOneOff 41 = .ok (.iconst 1, 1) := by decide +kernel
theorem dX7_isOneOff_42 : decode cX7_isOneOff 42 = .ok (.goto 4, 3) := by decide +kernel
theorem dX7_isOneOff_45 : decode cX7_isOneOff 45 = .ok (.iconst 0, 1) := by decide +kernel
theorem dX7_isOneOff_46 : decode cX7_isOneOff 46 = .ok (.ireturn, 1) := by decide +kernel
theorem dX7_swapped_0 : decode cX7_swapped 0 = .ok (.iload_n 0, 1) := by decide +kernel
theorem dX7_swapped_1 : decode cX7_swapped 1 = .ok (.iload_n 1, 1) := by decide +kernel
theorem dX7_swapped_2 : decode cX7_swapped 2 = .ok (.iconst 1, 1) := by decide +kernel
theorem dX7_swapped_3 : decode cX7_swapped 3 = .ok (.iadd, 1) := by decide +kernel
theorem dX7_swapped_4 : decode cX7_swapped 4 = .ok (.invokestatic 81, 3) := by decide +kernel
theorem dX7_swapped_7 : decode cX7_swapped 7 = .ok (.iload_n 0, 1) := by decide +kernel
theorem dX7_swapped_8 : decode cX7_swapped 8 = .ok (.iload_n 1, 1) := by decide +kernel
theorem dX7_swapped_9 : decode cX7_swapped 9 = .ok (.invokestatic 81, 3) := by decide +kernel
theorem dX7_swapped_12 : decode cX7_swapped 12 = .ok (.isub, 1) := by decide +kernel
theorem dX7_swapped_13 : decode cX7_swapped 13 = .ok (.istore_n 2, 1) := by decide +kernel
theorem dX7_swapped_14 : decode cX7_swapped 14 = .ok (.iload_n 0, 1) := by decide +kernel
theorem dX7_swapped_15 : decode cX7_swapped 15 = .ok (.iload_n 2, 1) := by decide +kernel
theorem dX7_swapped_16 : decode cX7_swapped 16 = .ok (.iload_n 1, 1) := by decide +kernel
theorem dX7_swapped_17 : decode cX7_swapped 17 = .ok (.invokestatic 75, 3) := by decide +kernel
theorem dX7_swapped_20 : decode cX7_swapped 20 = .ok (.imul, 1) := by decide +kernel
theorem dX7_swapped_21 : decode cX7_swapped 21 = .ok (.iadd, 1) := by decide +kernel
theorem dX7_swapped_22 : decode cX7_swapped 22 = .ok (.iload_n 2, 1) := by decide +kernel
theorem dX7_swapped_23 : decode cX7_swapped 23 = .ok (.iload_n 1, 1) := by decide +kernel
theorem dX7_swapped_24 : decode cX7_swapped 24 = .ok (.iconst 1, 1) := by decide +kernel
theorem dX7_swapped_25 : decode cX7_swapped 25 = .ok (.iadd, 1) := by decide +kernel
theorem dX7_swapped_26 : decode cX7_swapped 26 = .ok (.invokestatic 75, 3) := by decide +kernel
theorem dX7_swapped_29 : decode cX7_swapped 29 = .ok (.imul, 1) := by decide +kernel
theorem dX7_swapped_30 : decode cX7_swapped 30 = .ok (.isub, 1) := by decide +kernel
theorem dX7_swapped_31 : decode cX7_swapped 31 = .ok (.ireturn, 1) := by decide +kernel
theorem dX7_isSwapped_0 : decode cX7_isSwapped 0 = .ok (.iconst 0, 1) := by decide +kernel
theorem dX7_isSwapped_1 : decode cX7_isSwapped 1 = .ok (.istore_n 2, 1) := by decide +kernel
theorem dX7_isSwapped_2 : decode cX7_isSwapped 2 = .ok (.iconst 0, 1) := by decide +kernel
theorem dX7_isSwapped_3 : decode cX7_isSwapped 3 = .ok (.istore_n 3, 1) := by decide +kernel
theorem dX7_isSwapped_4 : decode cX7_isSwapped 4 = .ok (.iload_n 3, 1) := by decide +kernel
theorem dX7_isSwapped_5 : decode cX7_isSwapped 5 = .ok (.iconst 4, 1) := by decide +kernel
theorem dX7_isSwapped_6 : decode cX7_isSwapped 6 = .ok (.if_icmp .ge 33, 3) := by decide +kernel
theorem dX7_isSwapped_9 : decode cX7_isSwapped 9 = .ok (.iload_n 2, 1) := by decide +kernel
theorem dX7_isSwapped_10 : decode cX7_isSwapped 10 = .ok (.ifCond .ne 17, 3) := by decide +kernel
theorem dX7_isSwapped_13 : decode cX7_isSwapped 13 = .ok (.iload_n 0, 1) := by decide +kernel
theorem dX7_isSwapped_14 : decode cX7_isSwapped 14 = .ok (.iload_n 1, 1) := by decide +kernel
theorem dX7_isSwapped_15 : decode cX7_isSwapped 15 = .ok (.if_icmp .eq 16, 3) := by decide +kernel
theorem dX7_isSwapped_18 : decode cX7_isSwapped 18 = .ok (.iload_n 0, 1) := by decide +kernel
theorem dX7_isSwapped_19 : decode cX7_isSwapped 19 = .ok (.iload_n 3, 1) := by decide +kernel
theorem dX7_isSwapped_20 : decode cX7_isSwapped 20 = .ok (.invokestatic 85, 3) := by decide +kernel
theorem dX7_isSwapped_23 : decode cX7_isSwapped 23 = .ok (.iload_n 1, 1) := by decide +kernel
theorem dX7_isSwapped_24 : decode cX7_isSwapped 24 = .ok (.if_icmp .ne 7, 3) := by decide +kernel
theorem dX7_isSwapped_27 : decode cX7_isSwapped 27 = .ok (.iconst 1, 1) := by decide +kernel
theorem dX7_isSwapped_28 : decode cX7_isSwapped 28 = .ok (.goto 4, 3) := by decide +kernel
theorem dX7_isSwapped_31 : decode cX7_isSwapped 31 = .ok (.iconst 0, 1) := by decide +kernel
theorem dX7_isSwapped_32 : decode cX7_isSwapped 32 = .ok (.istore_n 2, 1) := by decide +kernel
theorem dX7_isSwapped_33 : decode cX7_isSwapped 33 = .ok (.iinc 3 1, 3) := by decide +kernel
theorem dX7_isSwapped_36 : decode cX7_isSwapped 36 = .ok (.goto (-32), 3) := by decide +kernel
theorem dX7_isSwapped_39 : decode cX7_isSwapped 39 = .ok (.iload_n 2, 1) := by decide +kernel
theorem dX7_isSwapped_40 : decode cX7_isSwapped 40 = .ok (.ireturn, 1) := by decide +kernel
theorem dX7_reasonFor_0 : decode cX7_reasonFor 0 = .ok (.aload_n 0, 1) := by decide +kernel
theorem dX7_reasonFor_1 : decode cX7_reasonFor 1 = .ok (.getfield 23, 3) := by decide +kernel
theorem dX7_reasonFor_4 : decode cX7_reasonFor 4 = .ok (.iload_n 1, 1) := by decide +kernel
theorem dX7_reasonFor_5 : decode cX7_reasonFor 5 = .ok (.iaload, 1) := by decide +kernel
theorem dX7_reasonFor_6 : decode cX7_reasonFor 6 = .ok (.bipush 40, 2) := by decide +kernel
theorem dX7_reasonFor_8 : decode cX7_reasonFor 8 = .ok (.if_icmp .ne 5, 3) := by decide +kernel
theorem dX7_reasonFor_11 : decode cX7_reasonFor 11 = .ok (.iconst 1, 1) := by decide +kernel
theorem dX7_reasonFor_12 : decode cX7_reasonFor 12 = .ok (.ireturn, 1) := by decide +kernel
theorem dX7_reasonFor_13 : decode cX7_reasonFor 13 = .ok (.iconst 0, 1) := by decide +kernel
theorem dX7_reasonFor_14 : decode cX7_reasonFor 14 = .ok (.istore_n 3, 1) := by decide +kernel
theorem dX7_reasonFor_15 : decode cX7_reasonFor 15 = .ok (.iconst 0, 1) := by decide +kernel
theorem dX7_reasonFor_16 : decode cX7_reasonFor 16 = .ok (.istore 4, 2) := by decide +kernel
theorem dX7_reasonFor_18 : decode cX7_reasonFor 18 = .ok (.iload 4, 2) := by decide +kernel
theorem dX7_reasonFor_20 : decode cX7_reasonFor 20 = .ok (.aload_n 0, 1) := by decide +kernel
theorem dX7_reasonFor_21 : decode cX7_reasonFor 21 = .ok (.getfield 23, 3) := by decide +kernel
theorem dX7_reasonFor_24 : decode cX7_reasonFor 24 = .ok (.iload_n 1, 1) := by decide +kernel
theorem dX7_reasonFor_25 : decode cX7_reasonFor 25 = .ok (.iaload, 1) := by decide +kernel
theorem dX7_reasonFor_26 : decode cX7_reasonFor 26 = .ok (.if_icmp .ge 80, 3) := by decide +kernel
theorem dX7_reasonFor_29 : decode cX7_reasonFor 29 = .ok (.aload_n 0, 1) := by decide +kernel
theorem dX7_reasonFor_30 : decode cX7_reasonFor 30 = .ok (.getfield 26, 3) := by decide +kernel
theorem dX7_reasonFor_33 : decode cX7_reasonFor 33 = .ok (.bipush 40, 2) := by decide +kernel
theorem dX7_reasonFor_35 : decode cX7_reasonFor 35 = .ok (.iload_n 1, 1) := by decide +kernel
theorem dX7_reasonFor_36 : decode cX7_reasonFor 36 = .ok (.imul, 1) := by decide +kernel
theorem dX7_reasonFor_37 : decode cX7_reasonFor 37 = .ok (.iload 4, 2) := by decide +kernel
theorem dX7_reasonFor_39 : decode cX7_reasonFor 39 = .ok (.iadd, 1) := by decide +kernel
theorem dX7_reasonFor_40 : decode cX7_reasonFor 40 = .ok (.iaload, 1) := by decide +kernel
theorem dX7_reasonFor_41 : decode cX7_reasonFor 41 = .ok (.istore 5, 2) := by decide +kernel
theorem dX7_reasonFor_43 : decode cX7_reasonFor 43 = .ok (.iload 5, 2) := by decide +kernel
theorem dX7_reasonFor_45 : decode cX7_reasonFor 45 = .ok (.iload_n 2, 1) := by decide +kernel
theorem dX7_reasonFor_46 : decode cX7_reasonFor 46 = .ok (.if_icmp .ne 7, 3) := by decide +kernel
theorem dX7_reasonFor_49 : decode cX7_reasonFor 49 = .ok (.iconst 2, 1) := by decide +kernel
theorem dX7_reasonFor_50 : decode cX7_reasonFor 50 = .ok (.goto 30, 3) := by decide +kernel
theorem dX7_reasonFor_53 : decode cX7_reasonFor 53 = .ok (.iload 5, 2) := by decide +kernel
theorem dX7_reasonFor_55 : decode cX7_reasonFor 55 = .ok (.iload_n 2, 1) := by decide +kernel
theorem dX7_reasonFor_56 : decode cX7_reasonFor 56 = .ok (.invokestatic 88, 3) := by decide +kernel
theorem dX7_reasonFor_59 : decode cX7_reasonFor 59 = .ok (.ifCond .eq 7, 3) := by decide +kernel
theorem dX7_reasonFor_62 : decode cX7_reasonFor 62 = .ok (.iconst 3, 1) := by decide +kernel
theorem dX7_reasonFor_63 : decode cX7_reasonFor 63 = .ok (.goto 17, 3) := by decide +kernel
theorem dX7_reasonFor_66 : decode cX7_reasonFor 66 = .ok (.iload 5, 2) := by decide +kernel
theorem dX7_reasonFor_68 : decode cX7_reasonFor 68 = .ok (.iload_n 2, 1) := by decide +kernel
theorem dX7_reasonFor_69 : decode cX7_reasonFor 69 = .ok (.invokestatic 92, 3) := by decide +kernel
theorem dX7_reasonFor_72 : decode cX7_reasonFor 72 = .ok (.ifCond .eq 7, 3) := by decide +kernel
theorem dX7_reasonFor_75 : decode cX7_reasonFor 75 = .ok (.iconst 4, 1) := by decide +kernel
theorem dX7_reasonFor_76 : decode cX7_reasonFor 76 = .ok (.goto 4, 3) := by decide +kernel
theorem dX7_reasonFor_79 : decode cX7_reasonFor 79 = .ok (.iconst 0, 1) := by decide +kernel
theorem dX7_reasonFor_80 : decode cX7_reasonFor 80 = .ok (.istore 6, 2) := by decide +kernel
theorem dX7_reasonFor_82 : decode cX7_reasonFor 82 = .ok (.iload 6, 2) := by decide +kernel
theorem dX7_reasonFor_84 : decode cX7_reasonFor 84 = .ok (.ifCond .eq 16, 3) := by decide +kernel
theorem dX7_reasonFor_87 : decode cX7_reasonFor 87 = .ok (.iload_n 3, 1) := by decide +kernel
theorem dX7_reasonFor_88 : decode cX7_reasonFor 88 = .ok (.ifCond .eq 9, 3) := by decide +kernel
theorem dX7_reasonFor_91 : decode cX7_reasonFor 91 = .ok (.iload 6, 2) := by decide +kernel
theorem dX7_reasonFor_93 : decode cX7_reasonFor 93 = .ok (.iload_n 3, 1) := by decide +kernel
theorem dX7_reasonFor_94 : decode cX7_reasonFor 94 = .ok (.if_icmp .ge 6, 3) := by decide +kernel
theorem dX7_reasonFor_97 : decode cX7_reasonFor 97 = .ok (.iload 6, 2) := by decide +kernel
theorem dX7_reasonFor_99 : decode cX7_reasonFor 99 = .ok (.istore_n 3, 1) := by decide +kernel
theorem dX7_reasonFor_100 : decode cX7_reasonFor 100 = .ok (.iinc 4 1, 3) := by decide +kernel
theorem dX7_reasonFor_103 : decode cX7_reasonFor 103 = .ok (.goto (-85), 3) := by decide +kernel
theorem dX7_reasonFor_106 : decode cX7_reasonFor 106 = .ok (.iload_n 3, 1) := by decide +kernel
theorem dX7_reasonFor_107 : decode cX7_reasonFor 107 = .ok (.ireturn, 1) := by decide +kernel
theorem dX7_reason_0 : decode cX7_reason 0 = .ok (.aload_n 0, 1) := by decide +kernel
theorem dX7_reason_1 : decode cX7_reason 1 = .ok (.iconst 0, 1) := by decide +kernel
theorem dX7_reason_2 : decode cX7_reason 2 = .ok (.putfield 47, 3) := by decide +kernel
theorem dX7_reason_5 : decode cX7_reason 5 = .ok (.iload_n 1, 1) := by decide +kernel
theorem dX7_reason_6 : decode cX7_reason 6 = .ok (.invokestatic 55, 3) := by decide +kernel
theorem dX7_reason_9 : decode cX7_reason 9 = .ok (.ifCond .ne 9, 3) := by decide +kernel
theorem dX7_reason_12 : decode cX7_reason 12 = .ok (.aload_n 0, 1) := by decide +kernel
theorem dX7_reason_13 : decode cX7_reason 13 = .ok (.iconst 1, 1) := by decide +kernel
theorem dX7_reason_14 : decode cX7_reason 14 = .ok (.invokevirtual 59, 3) := by decide +kernel
theorem dX7_reason_17 : decode cX7_reason 17 = .ok (.ireturn, 1) := by decide +kernel
theorem dX7_reason_18 : decode cX7_reason 18 = .ok (.iload_n 2, 1) := by decide +kernel
theorem dX7_reason_19 : decode cX7_reason 19 = .ok (.invokestatic 78, 3) := by decide +kernel
theorem dX7_reason_22 : decode cX7_reason 22 = .ok (.ifCond .eq 12, 3) := by decide +kernel
theorem dX7_reason_25 : decode cX7_reason 25 = .ok (.aload_n 0, 1) := by decide +kernel
theorem dX7_reason_26 : decode cX7_reason 26 = .ok (.iload_n 1, 1) := by decide +kernel
theorem dX7_reason_27 : decode cX7_reason 27 = .ok (.iload_n 2, 1) := by decide +kernel
theorem dX7_reason_28 : decode cX7_reason 28 = .ok (.invokevirtual 95, 3) := by decide +kernel
theorem dX7_reason_31 : decode cX7_reason 31 = .ok (.goto 8, 3) := by decide +kernel
theorem dX7_reason_34 : decode cX7_reason 34 = .ok (.aload_n 0, 1) := by decide +kernel
theorem dX7_reason_35 : decode cX7_reason 35 = .ok (.iconst 2, 1) := by decide +kernel
theorem dX7_reason_36 : decode cX7_reason 36 = .ok (.invokevirtual 59, 3) := by decide +kernel
theorem dX7_reason_39 : decode cX7_reason 39 = .ok (.ireturn, 1) := by decide +kernel
theorem dX7_fitFrom_0 : decode cX7_fitFrom 0 = .ok (.iload_n 2, 1) := by decide +kernel
theorem dX7_fitFrom_1 : decode cX7_fitFrom 1 = .ok (.istore_n 3, 1) := by decide +kernel
theorem dX7_fitFrom_2 : decode cX7_fitFrom 2 = .ok (.iload_n 3, 1) := by decide +kernel
theorem dX7_fitFrom_3 : decode cX7_fitFrom 3 = .ok (.iload_n 2, 1) := by decide +kernel
theorem dX7_fitFrom_4 : decode cX7_fitFrom 4 = .ok (.sipush 2000, 3) := by decide +kernel
theorem dX7_fitFrom_7 : decode cX7_fitFrom 7 = .ok (.iadd, 1) := by decide +kernel
theorem dX7_fitFrom_8 : decode cX7_fitFrom 8 = .ok (.if_icmp .gt 26, 3) := by decide +kernel
theorem dX7_fitFrom_11 : decode cX7_fitFrom 11 = .ok (.iload_n 3, 1) := by decide +kernel
theorem dX7_fitFrom_12 : decode cX7_fitFrom 12 = .ok (.ldc 54, 2) := by decide +kernel
theorem dX7_fitFrom_14 : decode cX7_fitFrom 14 = .ok (.if_icmp .gt 20, 3) := by decide +kernel
theorem dX7_fitFrom_17 : decode cX7_fitFrom 17 = .ok (.aload_n 0, 1) := by decide +kernel
theorem dX7_fitFrom_18 : decode cX7_fitFrom 18 = .ok (.iload_n 1, 1) := by decide +kernel
theorem dX7_fitFrom_19 : decode cX7_fitFrom 19 = .ok (.iload_n 3, 1) := by decide +kernel
theorem dX7_fitFrom_20 : decode cX7_fitFrom 20 = .ok (.invokevirtual 95, 3) := by decide +kernel
theorem dX7_fitFrom_23 : decode cX7_fitFrom 23 = .ok (.ifCond .ne 5, 3) := by decide +kernel
theorem dX7_fitFrom_26 : decode cX7_fitFrom 26 = .ok (.iload_n 3, 1) := by decide +kernel
theorem dX7_fitFrom_27 : decode cX7_fitFrom 27 = .ok (.ireturn, 1) := by decide +kernel
theorem dX7_fitFrom_28 : decode cX7_fitFrom 28 = .ok (.iinc 3 1, 3) := by decide +kernel
theorem dX7_fitFrom_31 : decode cX7_fitFrom 31 = .ok (.goto (-29), 3) := by decide +kernel
theorem dX7_fitFrom_34 : decode cX7_fitFrom 34 = .ok (.iconst (-1), 1) := by decide +kernel
theorem dX7_fitFrom_35 : decode cX7_fitFrom 35 = .ok (.ireturn, 1) := by decide +kernel
theorem dX7_firstFit_0 : decode cX7_firstFit 0 = .ok (.aload_n 0, 1) := by decide +kernel
theorem dX7_firstFit_1 : decode cX7_firstFit 1 = .ok (.iconst 0, 1) := by decide +kernel
theorem dX7_firstFit_2 : decode cX7_firstFit 2 = .ok (.putfield 47, 3) := by decide +kernel
theorem dX7_firstFit_5 : decode cX7_firstFit 5 = .ok (.iload_n 1, 1) := by decide +kernel
theorem dX7_firstFit_6 : decode cX7_firstFit 6 = .ok (.invokestatic 55, 3) := by decide +kernel
theorem dX7_firstFit_9 : decode cX7_firstFit 9 = .ok (.ifCond .ne 9, 3) := by decide +kernel
theorem dX7_firstFit_12 : decode cX7_firstFit 12 = .ok (.aload_n 0, 1) := by decide +kernel
theorem dX7_firstFit_13 : decode cX7_firstFit 13 = .ok (.iconst 1, 1) := by decide +kernel
theorem dX7_firstFit_14 : decode cX7_firstFit 14 = .ok (.invokevirtual 59, 3) := by decide +kernel
theorem dX7_firstFit_17 : decode cX7_firstFit 17 = .ok (.ireturn, 1) := by decide +kernel
theorem dX7_firstFit_18 : decode cX7_firstFit 18 = .ok (.iload_n 2, 1) := by decide +kernel
theorem dX7_firstFit_19 : decode cX7_firstFit 19 = .ok (.invokestatic 78, 3) := by decide +kernel
theorem dX7_firstFit_22 : decode cX7_firstFit 22 = .ok (.ifCond .eq 12, 3) := by decide +kernel
theorem dX7_firstFit_25 : decode cX7_firstFit 25 = .ok (.aload_n 0, 1) := by decide +kernel
theorem dX7_firstFit_26 : decode cX7_firstFit 26 = .ok (.iload_n 1, 1) := by decide +kernel
theorem dX7_firstFit_27 : decode cX7_firstFit 27 = .ok (.iload_n 2, 1) := by decide +kernel
theorem dX7_firstFit_28 : decode cX7_firstFit 28 = .ok (.invokevirtual 98, 3) := by decide +kernel
theorem dX7_firstFit_31 : decode cX7_firstFit 31 = .ok (.goto 8, 3) := by decide +kernel
theorem dX7_firstFit_34 : decode cX7_firstFit 34 = .ok (.aload_n 0, 1) := by decide +kernel
theorem dX7_firstFit_35 : decode cX7_firstFit 35 = .ok (.iconst 2, 1) := by decide +kernel
theorem dX7_firstFit_36 : decode cX7_firstFit 36 = .ok (.invokevirtual 59, 3) := by decide +kernel
theorem dX7_firstFit_39 : decode cX7_firstFit 39 = .ok (.ireturn, 1) := by decide +kernel
theorem dX7_add_0 : decode cX7_add 0 = .ok (.bipush 40, 2) := by decide +kernel
theorem dX7_add_2 : decode cX7_add 2 = .ok (.iload_n 1, 1) := by decide +kernel
theorem dX7_add_3 : decode cX7_add 3 = .ok (.imul, 1) := by decide +kernel
theorem dX7_add_4 : decode cX7_add 4 = .ok (.aload_n 0, 1) := by decide +kernel
theorem dX7_add_5 : decode cX7_add 5 = .ok (.getfield 23, 3) := by decide +kernel
theorem dX7_add_8 : decode cX7_add 8 = .ok (.iload_n 1, 1) := by decide +kernel
theorem dX7_add_9 : decode cX7_add 9 = .ok (.iaload, 1) := by decide +kernel
theorem dX7_add_10 : decode cX7_add 10 = .ok (.iadd, 1) := by decide +kernel
theorem dX7_add_11 : decode cX7_add 11 = .ok (.istore 6, 2) := by decide +kernel
theorem dX7_add_13 : decode cX7_add 13 = .ok (.aload_n 0, 1) := by decide +kernel
theorem dX7_add_14 : decode cX7_add 14 = .ok (.getfield 26, 3) := by decide +kernel
theorem dX7_add_17 : decode cX7_add 17 = .ok (.iload 6, 2) := by decide +kernel
theorem dX7_add_19 : decode cX7_add 19 = .ok (.iload_n 2, 1) := by decide +kernel
theorem dX7_add_20 : decode cX7_add 20 = .ok (.iastore, 1) := by decide +kernel
theorem dX7_add_21 : decode cX7_add 21 = .ok (.aload_n 0, 1) := by decide +kernel
theorem dX7_add_22 : decode cX7_add 22 = .ok (.getfield 29, 3) := by decide +kernel
theorem dX7_add_25 : decode cX7_add 25 = .ok (.iload 6, 2) := by decide +kernel
theorem dX7_add_27 : decode cX7_add 27 = .ok (.iload 5, 2) := by decide +kernel
theorem dX7_add_29 : decode cX7_add 29 = .ok (.iastore, 1) := by decide +kernel
theorem dX7_add_30 : decode cX7_add 30 = .ok (.aload_n 3, 1) := by decide +kernel
theorem dX7_add_31 : decode cX7_add 31 = .ok (.iload 4, 2) := by decide +kernel
theorem dX7_add_33 : decode cX7_add 33 = .ok (.aload_n 0, 1) := by decide +kernel
theorem dX7_add_34 : decode cX7_add 34 = .ok (.getfield 32, 3) := by decide +kernel
theorem dX7_add_37 : decode cX7_add 37 = .ok (.bipush 6, 2) := by decide +kernel
theorem dX7_add_39 : decode cX7_add 39 = .ok (.iload 6, 2) := by decide +kernel
theorem dX7_add_41 : decode cX7_add 41 = .ok (.imul, 1) := by decide +kernel
theorem dX7_add_42 : decode cX7_add 42 = .ok (.iload 5, 2) := by decide +kernel
theorem dX7_add_44 : decode cX7_add 44 = .ok (.invokestatic 69, 3) := by decide +kernel
theorem dX7_add_47 : decode cX7_add 47 = .ok (.aload_n 0, 1) := by decide +kernel
theorem dX7_add_48 : decode cX7_add 48 = .ok (.getfield 23, 3) := by decide +kernel
theorem dX7_add_51 : decode cX7_add 51 = .ok (.iload_n 1, 1) := by decide +kernel
theorem dX7_add_52 : decode cX7_add 52 = .ok (.dup2, 1) := by decide +kernel
theorem dX7_add_53 : decode cX7_add 53 = .ok (.iaload, 1) := by decide +kernel
theorem dX7_add_54 : decode cX7_add 54 = .ok (.iconst 1, 1) := by decide +kernel
theorem dX7_add_55 : decode cX7_add 55 = .ok (.iadd, 1) := by decide +kernel
theorem dX7_add_56 : decode cX7_add 56 = .ok (.iastore, 1) := by decide +kernel
theorem dX7_add_57 : decode cX7_add 57 = .ok (.return_, 1) := by decide +kernel
theorem dX7_define_0 : decode cX7_define 0 = .ok (.aload_n 0, 1) := by decide +kernel
theorem dX7_define_1 : decode cX7_define 1 = .ok (.iconst 0, 1) := by decide +kernel
theorem dX7_define_2 : decode cX7_define 2 = .ok (.putfield 47, 3) := by decide +kernel
theorem dX7_define_5 : decode cX7_define 5 = .ok (.iload_n 1, 1) := by decide +kernel
theorem dX7_define_6 : decode cX7_define 6 = .ok (.invokestatic 55, 3) := by decide +kernel
theorem dX7_define_9 : decode cX7_define 9 = .ok (.ifCond .ne 9, 3) := by decide +kernel
theorem dX7_define_12 : decode cX7_define 12 = .ok (.aload_n 0, 1) := by decide +kernel
theorem dX7_define_13 : decode cX7_define 13 = .ok (.iconst 1, 1) := by decide +kernel
theorem dX7_define_14 : decode cX7_define 14 = .ok (.invokevirtual 59, 3) := by decide +kernel
theorem dX7_define_17 : decode cX7_define 17 = .ok (.ireturn, 1) := by decide +kernel
theorem dX7_define_18 : decode cX7_define 18 = .ok (.iload_n 2, 1) := by decide +kernel
theorem dX7_define_19 : decode cX7_define 19 = .ok (.invokestatic 78, 3) := by decide +kernel
theorem dX7_define_22 : decode cX7_define 22 = .ok (.ifCond .ne 9, 3) := by decide +kernel
theorem dX7_define_25 : decode cX7_define 25 = .ok (.aload_n 0, 1) := by decide +kernel
theorem dX7_define_26 : decode cX7_define 26 = .ok (.iconst 2, 1) := by decide +kernel
theorem dX7_define_27 : decode cX7_define 27 = .ok (.invokevirtual 59, 3) := by decide +kernel
theorem dX7_define_30 : decode cX7_define 30 = .ok (.ireturn, 1) := by decide +kernel
theorem dX7_define_31 : decode cX7_define 31 = .ok (.aload_n 0, 1) := by decide +kernel
theorem dX7_define_32 : decode cX7_define 32 = .ok (.iload_n 1, 1) := by decide +kernel
theorem dX7_define_33 : decode cX7_define 33 = .ok (.iload_n 2, 1) := by decide +kernel
theorem dX7_define_34 : decode cX7_define 34 = .ok (.invokevirtual 95, 3) := by decide +kernel
theorem dX7_define_37 : decode cX7_define 37 = .ok (.ifCond .ne 16, 3) := by decide +kernel
theorem dX7_define_40 : decode cX7_define 40 = .ok (.aload_n 0, 1) := by decide +kernel
theorem dX7_define_41 : decode cX7_define 41 = .ok (.getfield 63, 3) := by decide +kernel
theorem dX7_define_44 : decode cX7_define 44 = .ok (.iconst 1, 1) := by decide +kernel
theorem dX7_define_45 : decode cX7_define 45 = .ok (.bipush 6, 2) := by decide +kernel
theorem dX7_define_47 : decode cX7_define 47 = .ok (.invokestatic 50, 3) := by decide +kernel
theorem dX7_define_50 : decode cX7_define 50 = .ok (.ifCond .ne 9, 3) := by decide +kernel
theorem dX7_define_53 : decode cX7_define 53 = .ok (.aload_n 0, 1) := by decide +kernel
theorem dX7_define_54 : decode cX7_define 54 = .ok (.iconst 3, 1) := by decide +kernel
theorem dX7_define_55 : decode cX7_define 55 = .ok (.invokevirtual 59, 3) := by decide +kernel
theorem dX7_define_58 : decode cX7_define 58 = .ok (.ireturn, 1) := by decide +kernel
theorem dX7_define_59 : decode cX7_define 59 = .ok (.aload_n 0, 1) := by decide +kernel
theorem dX7_define_60 : decode cX7_define 60 = .ok (.iload_n 1, 1) := by decide +kernel
theorem dX7_define_61 : decode cX7_define 61 = .ok (.iload_n 2, 1) := by decide +kernel
theorem dX7_define_62 : decode cX7_define 62 = .ok (.aload_n 0, 1) := by decide +kernel
theorem dX7_define_63 : decode cX7_define 63 = .ok (.getfield 13, 3) := by decide +kernel
theorem dX7_define_66 : decode cX7_define 66 = .ok (.iconst 0, 1) := by decide +kernel
theorem dX7_define_67 : decode cX7_define 67 = .ok (.aload_n 0, 1) := by decide +kernel
theorem dX7_define_68 : decode cX7_define 68 = .ok (.getfield 63, 3) := by decide +kernel
theorem dX7_define_71 : decode cX7_define 71 = .ok (.invokevirtual 101, 3) := by decide +kernel
theorem dX7_define_74 : decode cX7_define 74 = .ok (.aload_n 0, 1) := by decide +kernel
theorem dX7_define_75 : decode cX7_define 75 = .ok (.iconst 0, 1) := by decide +kernel
theorem dX7_define_76 : decode cX7_define 76 = .ok (.putfield 63, 3) := by decide +kernel
theorem dX7_define_79 : decode cX7_define 79 = .ok (.aload_n 0, 1) := by decide +kernel
theorem dX7_define_80 : decode cX7_define 80 = .ok (.getfield 23, 3) := by decide +kernel
theorem dX7_define_83 : decode cX7_define 83 = .ok (.iload_n 1, 1) := by decide +kernel
theorem dX7_define_84 : decode cX7_define 84 = .ok (.iaload, 1) := by decide +kernel
theorem dX7_define_85 : decode cX7_define 85 = .ok (.iconst 1, 1) := by decide +kernel
theorem dX7_define_86 : decode cX7_define 86 = .ok (.isub, 1) := by decide +kernel
theorem dX7_define_87 : decode cX7_define 87 = .ok (.ireturn, 1) := by decide +kernel
theorem dX7_drop_0 : decode cX7_drop 0 = .ok (.aload_n 0, 1) := by decide +kernel
theorem dX7_drop_1 : decode cX7_drop 1 = .ok (.iconst 0, 1) := by decide +kernel
theorem dX7_drop_2 : decode cX7_drop 2 = .ok (.putfield 47, 3) := by decide +kernel
theorem dX7_drop_5 : decode cX7_drop 5 = .ok (.aload_n 0, 1) := by decide +kernel
theorem dX7_drop_6 : decode cX7_drop 6 = .ok (.iload_n 1, 1) := by decide +kernel
theorem dX7_drop_7 : decode cX7_drop 7 = .ok (.iload_n 2, 1) := by decide +kernel
theorem dX7_drop_8 : decode cX7_drop 8 = .ok (.invokevirtual 105, 3) := by decide +kernel
theorem dX7_drop_11 : decode cX7_drop 11 = .ok (.ifCond .ne 9, 3) := by decide +kernel
theorem dX7_drop_14 : decode cX7_drop 14 = .ok (.aload_n 0, 1) := by decide +kernel
theorem dX7_drop_15 : decode cX7_drop 15 = .ok (.iconst 1, 1) := by decide +kernel
theorem dX7_drop_16 : decode cX7_drop 16 = .ok (.invokevirtual 59, 3) := by decide +kernel
theorem dX7_drop_19 : decode cX7_drop 19 = .ok (.ireturn, 1) := by decide +kernel
theorem dX7_drop_20 : decode cX7_drop 20 = .ok (.bipush 40, 2) := by decide +kernel
theorem dX7_drop_22 : decode cX7_drop 22 = .ok (.iload_n 1, 1) := by decide +kernel
theorem dX7_drop_23 : decode cX7_drop 23 = .ok (.imul, 1) := by decide +kernel
theorem dX7_drop_24 : decode cX7_drop 24 = .ok (.iload_n 2, 1) := by decide +kernel
theorem dX7_drop_25 : decode cX7_drop 25 = .ok (.iadd, 1) := by decide +kernel
theorem dX7_drop_26 : decode cX7_drop 26 = .ok (.istore_n 3, 1) := by decide +kernel
theorem dX7_drop_27 : decode cX7_drop 27 = .ok (.iload_n 3, 1) := by decide +kernel
theorem dX7_drop_28 : decode cX7_drop 28 = .ok (.iconst 1, 1) := by decide +kernel
theorem dX7_drop_29 : decode cX7_drop 29 = .ok (.iadd, 1) := by decide +kernel
theorem dX7_drop_30 : decode cX7_drop 30 = .ok (.bipush 40, 2) := by decide +kernel
theorem dX7_drop_32 : decode cX7_drop 32 = .ok (.iload_n 1, 1) := by decide +kernel
theorem dX7_drop_33 : decode cX7_drop 33 = .ok (.imul, 1) := by decide +kernel
theorem dX7_drop_34 : decode cX7_drop 34 = .ok (.aload_n 0, 1) := by decide +kernel
theorem dX7_drop_35 : decode cX7_drop 35 = .ok (.getfield 23, 3) := by decide +kernel
theorem dX7_drop_38 : decode cX7_drop 38 = .ok (.iload_n 1, 1) := by decide +kernel
theorem dX7_drop_39 : decode cX7_drop 39 = .ok (.iaload, 1) := by decide +kernel
theorem dX7_drop_40 : decode cX7_drop 40 = .ok (.iadd, 1) := by decide +kernel
theorem dX7_drop_41 : decode cX7_drop 41 = .ok (.if_icmp .ge 80, 3) := by decide +kernel
theorem dX7_drop_44 : decode cX7_drop 44 = .ok (.aload_n 0, 1) := by decide +kernel
theorem dX7_drop_45 : decode cX7_drop 45 = .ok (.getfield 26, 3) := by decide +kernel
theorem dX7_drop_48 : decode cX7_drop 48 = .ok (.iload_n 3, 1) := by decide +kernel
theorem dX7_drop_49 : decode cX7_drop 49 = .ok (.aload_n 0, 1) := by decide +kernel
theorem dX7_drop_50 : decode cX7_drop 50 = .ok (.getfield 26, 3) := by decide +kernel
theorem dX7_drop_53 : decode cX7_drop 53 = .ok (.iload_n 3, 1) := by decide +kernel
theorem dX7_drop_54 : decode cX7_drop 54 = .ok (.iconst 1, 1) := by decide +kernel
theorem dX7_drop_55 : decode cX7_drop 55 = .ok (.iadd, 1) := by decide +kernel
theorem dX7_drop_56 : decode cX7_drop 56 = .ok (.iaload, 1) := by decide +kernel
theorem dX7_drop_57 : decode cX7_drop 57 = .ok (.iastore, 1) := by decide +kernel
theorem dX7_drop_58 : decode cX7_drop 58 = .ok (.aload_n 0, 1) := by decide +kernel
theorem dX7_drop_59 : decode cX7_drop 59 = .ok (.getfield 29, 3) := by decide +kernel
theorem dX7_drop_62 : decode cX7_drop 62 = .ok (.iload_n 3, 1) := by decide +kernel
theorem dX7_drop_63 : decode cX7_drop 63 = .ok (.aload_n 0, 1) := by decide +kernel
theorem dX7_drop_64 : decode cX7_drop 64 = .ok (.getfield 29, 3) := by decide +kernel
theorem dX7_drop_67 : decode cX7_drop 67 = .ok (.iload_n 3, 1) := by decide +kernel
theorem dX7_drop_68 : decode cX7_drop 68 = .ok (.iconst 1, 1) := by decide +kernel
theorem dX7_drop_69 : decode cX7_drop 69 = .ok (.iadd, 1) := by decide +kernel
theorem dX7_drop_70 : decode cX7_drop 70 = .ok (.iaload, 1) := by decide +kernel
theorem dX7_drop_71 : decode cX7_drop 71 = .ok (.iastore, 1) := by decide +kernel
theorem dX7_drop_72 : decode cX7_drop 72 = .ok (.iconst 0, 1) := by decide +kernel
theorem dX7_drop_73 : decode cX7_drop 73 = .ok (.istore 4, 2) := by decide +kernel
theorem dX7_drop_75 : decode cX7_drop 75 = .ok (.iload 4, 2) := by decide +kernel
theorem dX7_drop_77 : decode cX7_drop 77 = .ok (.bipush 6, 2) := by decide +kernel
theorem dX7_drop_79 : decode cX7_drop 79 = .ok (.if_icmp .ge 36, 3) := by decide +kernel
theorem dX7_drop_82 : decode cX7_drop 82 = .ok (.aload_n 0, 1) := by decide +kernel
theorem dX7_drop_83 : decode cX7_drop 83 = .ok (.getfield 32, 3) := by decide +kernel
theorem dX7_drop_86 : decode cX7_drop 86 = .ok (.bipush 6, 2) := by decide +kernel
theorem dX7_drop_88 : decode cX7_drop 88 = .ok (.iload_n 3, 1) := by decide +kernel
theorem dX7_drop_89 : decode cX7_drop 89 = .ok (.imul, 1) := by decide +kernel
theorem dX7_drop_90 : decode cX7_drop 90 = .ok (.iload 4, 2) := by decide +kernel
theorem dX7_drop_92 : decode cX7_drop 92 = .ok (.iadd, 1) := by decide +kernel
theorem dX7_drop_93 : decode cX7_drop 93 = .ok (.aload_n 0, 1) := by decide +kernel
theorem dX7_drop_94 : decode cX7_drop 94 = .ok (.getfield 32, 3) := by decide +kernel
theorem dX7_drop_97 : decode cX7_drop 97 = .ok (.bipush 6, 2) := by decide +kernel
theorem dX7_drop_99 : decode cX7_drop 99 = .ok (.iload_n 3, 1) := by decide +kernel
theorem dX7_drop_100 : decode cX7_drop 100 = .ok (.imul, 1) := by decide +kernel
theorem dX7_drop_101 : decode cX7_drop 101 = .ok (.bipush 6, 2) := by decide +kernel
theorem dX7_drop_103 : decode cX7_drop 103 = .ok (.iadd, 1) := by decide +kernel
theorem dX7_drop_104 : decode cX7_drop 104 = .ok (.iload 4, 2) := by decide +kernel
theorem dX7_drop_106 : decode cX7_drop 106 = .ok (.iadd, 1) := by decide +kernel
theorem dX7_drop_107 : decode cX7_drop 107 = .ok (.iaload, 1) := by decide +kernel
theorem dX7_drop_108 : decode cX7_drop 108 = .ok (.iastore, 1) := by decide +kernel
theorem dX7_drop_109 : decode cX7_drop 109 = .ok (.iinc 4 1, 3) := by decide +kernel
theorem dX7_drop_112 : decode cX7_drop 112 = .ok (.goto (-37), 3) := by decide +kernel
theorem dX7_drop_115 : decode cX7_drop 115 = .ok (.iinc 3 1, 3) := by decide +kernel
theorem dX7_drop_118 : decode cX7_drop 118 = .ok (.goto (-91), 3) := by decide +kernel
theorem dX7_drop_121 : decode cX7_drop 121 = .ok (.aload_n 0, 1) := by decide +kernel
theorem dX7_drop_122 : decode cX7_drop 122 = .ok (.getfield 23, 3) := by decide +kernel
theorem dX7_drop_125 : decode cX7_drop 125 = .ok (.iload_n 1, 1) := by decide +kernel
theorem dX7_drop_126 : decode cX7_drop 126 = .ok (.dup2, 1) := by decide +kernel
theorem dX7_drop_127 : decode cX7_drop 127 = .ok (.iaload, 1) := by decide +kernel
theorem dX7_drop_128 : decode cX7_drop 128 = .ok (.iconst 1, 1) := by decide +kernel
theorem dX7_drop_129 : decode cX7_drop 129 = .ok (.isub, 1) := by decide +kernel
theorem dX7_drop_130 : decode cX7_drop 130 = .ok (.iastore, 1) := by decide +kernel
theorem dX7_drop_131 : decode cX7_drop 131 = .ok (.aload_n 0, 1) := by decide +kernel
theorem dX7_drop_132 : decode cX7_drop 132 = .ok (.getfield 23, 3) := by decide +kernel
theorem dX7_drop_135 : decode cX7_drop 135 = .ok (.iload_n 1, 1) := by decide +kernel
theorem dX7_drop_136 : decode cX7_drop 136 = .ok (.iaload, 1) := by decide +kernel
theorem dX7_drop_137 : decode cX7_drop 137 = .ok (.ireturn, 1) := by decide +kernel
theorem dX7_entries_0 : decode cX7_entries 0 = .ok (.aload_n 0, 1) := by decide +kernel
theorem dX7_entries_1 : decode cX7_entries 1 = .ok (.iconst 0, 1) := by decide +kernel
theorem dX7_entries_2 : decode cX7_entries 2 = .ok (.putfield 47, 3) := by decide +kernel
theorem dX7_entries_5 : decode cX7_entries 5 = .ok (.iload_n 1, 1) := by decide +kernel
theorem dX7_entries_6 : decode cX7_entries 6 = .ok (.invokestatic 55, 3) := by decide +kernel
theorem dX7_entries_9 : decode cX7_entries 9 = .ok (.ifCond .eq 12, 3) := by decide +kernel
theorem dX7_entries_12 : decode cX7_entries 12 = .ok (.aload_n 0, 1) := by decide +kernel
theorem dX7_entries_13 : decode cX7_entries 13 = .ok (.getfield 23, 3) := by decide +kernel
theorem dX7_entries_16 : decode cX7_entries 16 = .ok (.iload_n 1, 1) := by decide +kernel
theorem dX7_entries_17 : decode cX7_entries 17 = .ok (.iaload, 1) := by decide +kernel
theorem dX7_entries_18 : decode cX7_entries 18 = .ok (.goto 8, 3) := by decide +kernel
theorem dX7_entries_21 : decode cX7_entries 21 = .ok (.aload_n 0, 1) := by decide +kernel
theorem dX7_entries_22 : decode cX7_entries 22 = .ok (.iconst 1, 1) := by decide +kernel
theorem dX7_entries_23 : decode cX7_entries 23 = .ok (.invokevirtual 59, 3) := by decide +kernel
theorem dX7_entries_26 : decode cX7_entries 26 = .ok (.ireturn, 1) := by decide +kernel
theorem dX7_entry_0 : decode cX7_entry 0 = .ok (.aload_n 0, 1) := by decide +kernel
theorem dX7_entry_1 : decode cX7_entry 1 = .ok (.iconst 0, 1) := by decide +kernel
theorem dX7_entry_2 : decode cX7_entry 2 = .ok (.putfield 47, 3) := by decide +kernel
theorem dX7_entry_5 : decode cX7_entry 5 = .ok (.aload_n 0, 1) := by decide +kernel
theorem dX7_entry_6 : decode cX7_entry 6 = .ok (.iload_n 1, 1) := by decide +kernel
theorem dX7_entry_7 : decode cX7_entry 7 = .ok (.iload_n 2, 1) := by decide +kernel
theorem dX7_entry_8 : decode cX7_entry 8 = .ok (.invokevirtual 105, 3) := by decide +kernel
theorem dX7_entry_11 : decode cX7_entry 11 = .ok (.ifCond .ne 9, 3) := by decide +kernel
theorem dX7_entry_14 : decode cX7_entry 14 = .ok (.aload_n 0, 1) := by decide +kernel
theorem dX7_entry_15 : decode cX7_entry 15 = .ok (.iconst 1, 1) := by decide +kernel
theorem dX7_entry_16 : decode cX7_entry 16 = .ok (.invokevirtual 59, 3) := by decide +kernel
theorem dX7_entry_19 : decode cX7_entry 19 = .ok (.ireturn, 1) := by decide +kernel
theorem dX7_entry_20 : decode cX7_entry 20 = .ok (.bipush 40, 2) := by decide +kernel
theorem dX7_entry_22 : decode cX7_entry 22 = .ok (.iload_n 1, 1) := by decide +kernel
theorem dX7_entry_23 : decode cX7_entry 23 = .ok (.imul, 1) := by decide +kernel
theorem dX7_entry_24 : decode cX7_entry 24 = .ok (.iload_n 2, 1) := by decide +kernel
theorem dX7_entry_25 : decode cX7_entry 25 = .ok (.iadd, 1) := by decide +kernel
theorem dX7_entry_26 : decode cX7_entry 26 = .ok (.istore 4, 2) := by decide +kernel
theorem dX7_entry_28 : decode cX7_entry 28 = .ok (.iload_n 3, 1) := by decide +kernel
theorem dX7_entry_29 : decode cX7_entry 29 = .ok (.iconst (-1), 1) := by decide +kernel
theorem dX7_entry_30 : decode cX7_entry 30 = .ok (.aload_n 0, 1) := by decide +kernel
theorem dX7_entry_31 : decode cX7_entry 31 = .ok (.getfield 29, 3) := by decide +kernel
theorem dX7_entry_34 : decode cX7_entry 34 = .ok (.iload 4, 2) := by decide +kernel
theorem dX7_entry_36 : decode cX7_entry 36 = .ok (.iaload, 1) := by decide +kernel
theorem dX7_entry_37 : decode cX7_entry 37 = .ok (.iconst 1, 1) := by decide +kernel
theorem dX7_entry_38 : decode cX7_entry 38 = .ok (.isub, 1) := by decide +kernel
theorem dX7_entry_39 : decode cX7_entry 39 = .ok (.invokestatic 50, 3) := by decide +kernel
theorem dX7_entry_42 : decode cX7_entry 42 = .ok (.ifCond .ne 9, 3) := by decide +kernel
theorem dX7_entry_45 : decode cX7_entry 45 = .ok (.aload_n 0, 1) := by decide +kernel
theorem dX7_entry_46 : decode cX7_entry 46 = .ok (.iconst 1, 1) := by decide +kernel
theorem dX7_entry_47 : decode cX7_entry 47 = .ok (.invokevirtual 59, 3) := by decide +kernel
theorem dX7_entry_50 : decode cX7_entry 50 = .ok (.ireturn, 1) := by decide +kernel
theorem dX7_entry_51 : decode cX7_entry 51 = .ok (.iload_n 3, 1) := by decide +kernel
theorem dX7_entry_52 : decode cX7_entry 52 = .ok (.iconst (-1), 1) := by decide +kernel
theorem dX7_entry_53 : decode cX7_entry 53 = .ok (.if_icmp .ne 13, 3) := by decide +kernel
theorem dX7_entry_56 : decode cX7_entry 56 = .ok (.aload_n 0, 1) := by decide +kernel
theorem dX7_entry_57 : decode cX7_entry 57 = .ok (.getfield 26, 3) := by decide +kernel
theorem dX7_entry_60 : decode cX7_entry 60 = .ok (.iload 4, 2) := by decide +kernel
theorem dX7_entry_62 : decode cX7_entry 62 = .ok (.iaload, 1) := by decide +kernel
theorem dX7_entry_63 : decode cX7_entry 63 = .ok (.goto 15, 3) := by decide +kernel
theorem dX7_entry_66 : decode cX7_entry 66 = .ok (.aload_n 0, 1) := by decide +kernel
theorem dX7_entry_67 : decode cX7_entry 67 = .ok (.getfield 32, 3) := by decide +kernel
theorem dX7_entry_70 : decode cX7_entry 70 = .ok (.bipush 6, 2) := by decide +kernel
theorem dX7_entry_72 : decode cX7_entry 72 = .ok (.iload 4, 2) := by decide +kernel
theorem dX7_entry_74 : decode cX7_entry 74 = .ok (.imul, 1) := by decide +kernel
theorem dX7_entry_75 : decode cX7_entry 75 = .ok (.iload_n 3, 1) := by decide +kernel
theorem dX7_entry_76 : decode cX7_entry 76 = .ok (.iadd, 1) := by decide +kernel
theorem dX7_entry_77 : decode cX7_entry 77 = .ok (.iaload, 1) := by decide +kernel
theorem dX7_entry_78 : decode cX7_entry 78 = .ok (.ireturn, 1) := by decide +kernel
theorem dX7_entryOf_0 : decode cX7_entryOf 0 = .ok (.iconst (-1), 1) := by decide +kernel
theorem dX7_entryOf_1 : decode cX7_entryOf 1 = .ok (.istore_n 3, 1) := by decide +kernel
theorem dX7_entryOf_2 : decode cX7_entryOf 2 = .ok (.aload_n 0, 1) := by decide +kernel
theorem dX7_entryOf_3 : decode cX7_entryOf 3 = .ok (.getfield 23, 3) := by decide +kernel
theorem dX7_entryOf_6 : decode cX7_entryOf 6 = .ok (.iload_n 1, 1) := by decide +kernel
theorem dX7_entryOf_7 : decode cX7_entryOf 7 = .ok (.iaload, 1) := by decide +kernel
theorem dX7_entryOf_8 : decode cX7_entryOf 8 = .ok (.iconst 1, 1) := by decide +kernel
theorem dX7_entryOf_9 : decode cX7_entryOf 9 = .ok (.isub, 1) := by decide +kernel
theorem dX7_entryOf_10 : decode cX7_entryOf 10 = .ok (.istore 4, 2) := by decide +kernel
theorem dX7_entryOf_12 : decode cX7_entryOf 12 = .ok (.iload 4, 2) := by decide +kernel
theorem dX7_entryOf_14 : decode cX7_entryOf 14 = .ok (.ifCond .lt 28, 3) := by decide +kernel
theorem dX7_entryOf_17 : decode cX7_entryOf 17 = .ok (.aload_n 0, 1) := by decide +kernel
theorem dX7_entryOf_18 : decode cX7_entryOf 18 = .ok (.getfield 26, 3) := by decide +kernel
theorem dX7_entryOf_21 : decode cX7_entryOf 21 = .ok (.bipush 40, 2) := by decide +kernel
theorem dX7_entryOf_23 : decode cX7_entryOf 23 = .ok (.iload_n 1, 1) := by decide +kernel
theorem dX7_entryOf_24 : decode cX7_entryOf 24 = .ok (.imul, 1) := by decide +kernel
theorem dX7_entryOf_25 : decode cX7_entryOf 25 = .ok (.iload 4, 2) := by decide +kernel
theorem dX7_entryOf_27 : decode cX7_entryOf 27 = .ok (.iadd, 1) := by decide +kernel
theorem dX7_entryOf_28 : decode cX7_entryOf 28 = .ok (.iaload, 1) := by decide +kernel
theorem dX7_entryOf_29 : decode cX7_entryOf 29 = .ok (.iload_n 2, 1) := by decide +kernel
theorem dX7_entryOf_30 : decode cX7_entryOf 30 = .ok (.if_icmp .ne 6, 3) := by decide +kernel
theorem dX7_entryOf_33 : decode cX7_entryOf 33 = .ok (.iload 4, 2) := by decide +kernel
theorem dX7_entryOf_35 : decode cX7_entryOf 35 = .ok (.istore_n 3, 1) := by decide +kernel
theorem dX7_entryOf_36 : decode cX7_entryOf 36 = .ok (.iinc 4 (-1), 3) := by decide +kernel
theorem dX7_entryOf_39 : decode cX7_entryOf 39 = .ok (.goto (-27), 3) := by decide +kernel
theorem dX7_entryOf_42 : decode cX7_entryOf 42 = .ok (.iload_n 3, 1) := by decide +kernel
theorem dX7_entryOf_43 : decode cX7_entryOf 43 = .ok (.ireturn, 1) := by decide +kernel
theorem dX7_find_0 : decode cX7_find 0 = .ok (.aload_n 0, 1) := by decide +kernel
theorem dX7_find_1 : decode cX7_find 1 = .ok (.iconst 0, 1) := by decide +kernel
theorem dX7_find_2 : decode cX7_find 2 = .ok (.putfield 47, 3) := by decide +kernel
theorem dX7_find_5 : decode cX7_find 5 = .ok (.iload_n 1, 1) := by decide +kernel
theorem dX7_find_6 : decode cX7_find 6 = .ok (.invokestatic 55, 3) := by decide +kernel
theorem dX7_find_9 : decode cX7_find 9 = .ok (.ifCond .ne 9, 3) := by decide +kernel
theorem dX7_find_12 : decode cX7_find 12 = .ok (.aload_n 0, 1) := by decide +kernel
theorem dX7_find_13 : decode cX7_find 13 = .ok (.iconst 1, 1) := by decide +kernel
theorem dX7_find_14 : decode cX7_find 14 = .ok (.invokevirtual 59, 3) := by decide +kernel
theorem dX7_find_17 : decode cX7_find 17 = .ok (.ireturn, 1) := by decide +kernel
theorem dX7_find_18 : decode cX7_find 18 = .ok (.iload_n 2, 1) := by decide +kernel
theorem dX7_find_19 : decode cX7_find 19 = .ok (.invokestatic 78, 3) := by decide +kernel
theorem dX7_find_22 : decode cX7_find 22 = .ok (.ifCond .eq 12, 3) := by decide +kernel
theorem dX7_find_25 : decode cX7_find 25 = .ok (.aload_n 0, 1) := by decide +kernel
theorem dX7_find_26 : decode cX7_find 26 = .ok (.iload_n 1, 1) := by decide +kernel
theorem dX7_find_27 : decode cX7_find 27 = .ok (.iload_n 2, 1) := by decide +kernel
theorem dX7_find_28 : decode cX7_find 28 = .ok (.invokevirtual 108, 3) := by decide +kernel
theorem dX7_find_31 : decode cX7_find 31 = .ok (.goto 8, 3) := by decide +kernel
theorem dX7_find_34 : decode cX7_find 34 = .ok (.aload_n 0, 1) := by decide +kernel
theorem dX7_find_35 : decode cX7_find 35 = .ok (.iconst 2, 1) := by decide +kernel
theorem dX7_find_36 : decode cX7_find 36 = .ok (.invokevirtual 59, 3) := by decide +kernel
theorem dX7_find_39 : decode cX7_find 39 = .ok (.ireturn, 1) := by decide +kernel
theorem dX7_setPrice_0 : decode cX7_setPrice 0 = .ok (.aload_n 0, 1) := by decide +kernel
theorem dX7_setPrice_1 : decode cX7_setPrice 1 = .ok (.iconst 0, 1) := by decide +kernel
theorem dX7_setPrice_2 : decode cX7_setPrice 2 = .ok (.putfield 47, 3) := by decide +kernel
theorem dX7_setPrice_5 : decode cX7_setPrice 5 = .ok (.iload_n 1, 1) := by decide +kernel
theorem dX7_setPrice_6 : decode cX7_setPrice 6 = .ok (.iconst 1, 1) := by decide +kernel
theorem dX7_setPrice_7 : decode cX7_setPrice 7 = .ok (.iconst 5, 1) := by decide +kernel
theorem dX7_setPrice_8 : decode cX7_setPrice 8 = .ok (.invokestatic 50, 3) := by decide +kernel
theorem dX7_setPrice_11 : decode cX7_setPrice 11 = .ok (.ifCond .ne 9, 3) := by decide +kernel
theorem dX7_setPrice_14 : decode cX7_setPrice 14 = .ok (.aload_n 0, 1) := by decide +kernel
theorem dX7_setPrice_15 : decode cX7_setPrice 15 = .ok (.iconst 1, 1) := by decide +kernel
theorem dX7_setPrice_16 : decode cX7_setPrice 16 = .ok (.invokevirtual 59, 3) := by decide +kernel
theorem dX7_setPrice_19 : decode cX7_setPrice 19 = .ok (.ireturn, 1) := by decide +kernel
theorem dX7_setPrice_20 : decode cX7_setPrice 20 = .ok (.aload_n 0, 1) := by decide +kernel
theorem dX7_setPrice_21 : decode cX7_setPrice 21 = .ok (.getfield 7, 3) := by decide +kernel
theorem dX7_setPrice_24 : decode cX7_setPrice 24 = .ok (.istore_n 2, 1) := by decide +kernel
theorem dX7_setPrice_25 : decode cX7_setPrice 25 = .ok (.aload_n 0, 1) := by decide +kernel
theorem dX7_setPrice_26 : decode cX7_setPrice 26 = .ok (.iload_n 1, 1) := by decide +kernel
theorem dX7_setPrice_27 : decode cX7_setPrice 27 = .ok (.putfield 7, 3) := by decide +kernel
theorem dX7_setPrice_30 : decode cX7_setPrice 30 = .ok (.iload_n 2, 1) := by decide +kernel
theorem dX7_setPrice_31 : decode cX7_setPrice 31 = .ok (.ireturn, 1) := by decide +kernel
theorem dX7_stands_0 : decode cX7_stands 0 = .ok (.iload_n 3, 1) := by decide +kernel
theorem dX7_stands_1 : decode cX7_stands 1 = .ok (.aload_n 0, 1) := by decide +kernel
theorem dX7_stands_2 : decode cX7_stands 2 = .ok (.getfield 29, 3) := by decide +kernel
theorem dX7_stands_5 : decode cX7_stands 5 = .ok (.iload_n 1, 1) := by decide +kernel
theorem dX7_stands_6 : decode cX7_stands 6 = .ok (.iaload, 1) := by decide +kernel
theorem dX7_stands_7 : decode cX7_stands 7 = .ok (.iadd, 1) := by decide +kernel
theorem dX7_stands_8 : decode cX7_stands 8 = .ok (.iload 4, 2) := by decide +kernel
theorem dX7_stands_10 : decode cX7_stands 10 = .ok (.if_icmp .gt 7, 3) := by decide +kernel
theorem dX7_stands_13 : decode cX7_stands 13 = .ok (.iconst 1, 1) := by decide +kernel
theorem dX7_stands_14 : decode cX7_stands 14 = .ok (.goto 4, 3) := by decide +kernel
theorem dX7_stands_17 : decode cX7_stands 17 = .ok (.iconst 0, 1) := by decide +kernel
theorem dX7_stands_18 : decode cX7_stands 18 = .ok (.istore 5, 2) := by decide +kernel
theorem dX7_stands_20 : decode cX7_stands 20 = .ok (.iconst 0, 1) := by decide +kernel
theorem dX7_stands_21 : decode cX7_stands 21 = .ok (.istore 6, 2) := by decide +kernel
theorem dX7_stands_23 : decode cX7_stands 23 = .ok (.iload 6, 2) := by decide +kernel
theorem dX7_stands_25 : decode cX7_stands 25 = .ok (.aload_n 0, 1) := by decide +kernel
theorem dX7_stands_26 : decode cX7_stands 26 = .ok (.getfield 29, 3) := by decide +kernel
theorem dX7_stands_29 : decode cX7_stands 29 = .ok (.iload_n 1, 1) := by decide +kernel
theorem dX7_stands_30 : decode cX7_stands 30 = .ok (.iaload, 1) := by decide +kernel
theorem dX7_stands_31 : decode cX7_stands 31 = .ok (.if_icmp .ge 42, 3) := by decide +kernel
theorem dX7_stands_34 : decode cX7_stands 34 = .ok (.iload 5, 2) := by decide +kernel
theorem dX7_stands_36 : decode cX7_stands 36 = .ok (.ifCond .eq 37, 3) := by decide +kernel
theorem dX7_stands_39 : decode cX7_stands 39 = .ok (.aload_n 2, 1) := by decide +kernel
theorem dX7_stands_40 : decode cX7_stands 40 = .ok (.iload_n 3, 1) := by decide +kernel
theorem dX7_stands_41 : decode cX7_stands 41 = .ok (.iload 6, 2) := by decide +kernel
theorem dX7_stands_43 : decode cX7_stands 43 = .ok (.iadd, 1) := by decide +kernel
theorem dX7_stands_44 : decode cX7_stands 44 = .ok (.iaload, 1) := by decide +kernel
theorem dX7_stands_45 : decode cX7_stands 45 = .ok (.aload_n 0, 1) := by decide +kernel
theorem dX7_stands_46 : decode cX7_stands 46 = .ok (.getfield 32, 3) := by decide +kernel
theorem dX7_stands_49 : decode cX7_stands 49 = .ok (.bipush 6, 2) := by decide +kernel
theorem dX7_stands_51 : decode cX7_stands 51 = .ok (.iload_n 1, 1) := by decide +kernel
theorem dX7_stands_52 : decode cX7_stands 52 = .ok (.imul, 1) := by decide +kernel
theorem dX7_stands_53 : decode cX7_stands 53 = .ok (.iload 6, 2) := by decide +kernel
theorem dX7_stands_55 : decode cX7_stands 55 = .ok (.iadd, 1) := by decide +kernel
theorem dX7_stands_56 : decode cX7_stands 56 = .ok (.iaload, 1) := by decide +kernel
theorem dX7_stands_57 : decode cX7_stands 57 = .ok (.if_icmp .ne 7, 3) := by decide +kernel
theorem dX7_stands_60 : decode cX7_stands 60 = .ok (.iconst 1, 1) := by decide +kernel
theorem dX7_stands_61 : decode cX7_stands 61 = .ok (.goto 4, 3) := by decide +kernel
theorem dX7_stands_64 : decode cX7_stands 64 = .ok (.iconst 0, 1) := by decide +kernel
theorem dX7_stands_65 : decode cX7_stands 65 = .ok (.istore 5, 2) := by decide +kernel
theorem dX7_stands_67 : decode cX7_stands 67 = .ok (.iinc 6 1, 3) := by decide +kernel
theorem dX7_stands_70 : decode cX7_stands 70 = .ok (.goto (-47), 3) := by decide +kernel
theorem dX7_stands_73 : decode cX7_stands 73 = .ok (.iload 5, 2) := by decide +kernel
theorem dX7_stands_75 : decode cX7_stands 75 = .ok (.ireturn, 1) := by decide +kernel
theorem dX7_divide_0 : decode cX7_divide 0 = .ok (.aload_n 0, 1) := by decide +kernel
theorem dX7_divide_1 : decode cX7_divide 1 = .ok (.getfield 41, 3) := by decide +kernel
theorem dX7_divide_4 : decode cX7_divide 4 = .ok (.iload 4, 2) := by decide +kernel
theorem dX7_divide_6 : decode cX7_divide 6 = .ok (.iconst 0, 1) := by decide +kernel
theorem dX7_divide_7 : decode cX7_divide 7 = .ok (.iastore, 1) := by decide +kernel
theorem dX7_divide_8 : decode cX7_divide 8 = .ok (.iload 4, 2) := by decide +kernel
theorem dX7_divide_10 : decode cX7_divide 10 = .ok (.iconst 1, 1) := by decide +kernel
theorem dX7_divide_11 : decode cX7_divide 11 = .ok (.isub, 1) := by decide +kernel
theorem dX7_divide_12 : decode cX7_divide 12 = .ok (.istore 5, 2) := by decide +kernel
theorem dX7_divide_14 : decode cX7_divide 14 = .ok (.iload 5, 2) := by decide +kernel
theorem dX7_divide_16 : decode cX7_divide 16 = .ok (.ifCond .lt 269, 3) := by decide +kernel
theorem dX7_divide_19 : decode cX7_divide 19 = .ok (.aload_n 0, 1) := by decide +kernel
theorem dX7_divide_20 : decode cX7_divide 20 = .ok (.getfield 41, 3) := by decide +kernel
theorem dX7_divide_23 : decode cX7_divide 23 = .ok (.iload 5, 2) := by decide +kernel
theorem dX7_divide_25 : decode cX7_divide 25 = .ok (.aload_n 0, 1) := by decide +kernel
theorem dX7_divide_26 : decode cX7_divide 26 = .ok (.getfield 7, 3) := by decide +kernel
theorem dX7_divide_29 : decode cX7_divide 29 = .ok (.aload_n 0, 1) := by decide +kernel
theorem dX7_divide_30 : decode cX7_divide 30 = .ok (.getfield 41, 3) := by decide +kernel
theorem dX7_divide_33 : decode cX7_divide 33 = .ok (.iload 5, 2) := by decide +kernel
theorem dX7_divide_35 : decode cX7_divide 35 = .ok (.iconst 1, 1) := by decide +kernel
theorem dX7_divide_36 : decode cX7_divide 36 = .ok (.iadd, 1) := by decide +kernel
theorem dX7_divide_37 : decode cX7_divide 37 = .ok (.iaload, 1) := by decide +kernel
theorem dX7_divide_38 : decode cX7_divide 38 = .ok (.iadd, 1) := by decide +kernel
theorem dX7_divide_39 : decode cX7_divide 39 = .ok (.iastore, 1) := by decide +kernel
theorem dX7_divide_40 : decode cX7_divide 40 = .ok (.aload_n 0, 1) := by decide +kernel
theorem dX7_divide_41 : decode cX7_divide 41 = .ok (.getfield 44, 3) := by decide +kernel
theorem dX7_divide_44 : decode cX7_divide 44 = .ok (.iload 5, 2) := by decide +kernel
theorem dX7_divide_46 : decode cX7_divide 46 = .ok (.iconst (-1), 1) := by decide +kernel
theorem dX7_divide_47 : decode cX7_divide 47 = .ok (.iastore, 1) := by decide +kernel
theorem dX7_divide_48 : decode cX7_divide 48 = .ok (.bipush 40, 2) := by decide +kernel
theorem dX7_divide_50 : decode cX7_divide 50 = .ok (.iload_n 1, 1) := by decide +kernel
theorem dX7_divide_51 : decode cX7_divide 51 = .ok (.imul, 1) := by decide +kernel
theorem dX7_divide_52 : decode cX7_divide 52 = .ok (.istore 6, 2) := by decide +kernel
theorem dX7_divide_54 : decode cX7_divide 54 = .ok (.iload 6, 2) := by decide +kernel
theorem dX7_divide_56 : decode cX7_divide 56 = .ok (.bipush 40, 2) := by decide +kernel
theorem dX7_divide_58 : decode cX7_divide 58 = .ok (.iload_n 1, 1) := by decide +kernel
theorem dX7_divide_59 : decode cX7_divide 59 = .ok (.imul, 1) := by decide +kernel
theorem dX7_divide_60 : decode cX7_divide 60 = .ok (.aload_n 0, 1) := by decide +kernel
theorem dX7_divide_61 : decode cX7_divide 61 = .ok (.getfield 23, 3) := by decide +kernel
theorem dX7_divide_64 : decode cX7_divide 64 = .ok (.iload_n 1, 1) := by decide +kernel
theorem dX7_divide_65 : decode cX7_divide 65 = .ok (.iaload, 1) := by decide +kernel
theorem dX7_divide_66 : decode cX7_divide 66 = .ok (.iadd, 1) := by decide +kernel
theorem dX7_divide_67 : decode cX7_divide 67 = .ok (.if_icmp .ge 61, 3) := by decide +kernel
theorem dX7_divide_70 : decode cX7_divide 70 = .ok (.aload_n 0, 1) := by decide +kernel
theorem dX7_divide_71 : decode cX7_divide 71 = .ok (.iload 6, 2) := by decide +kernel
theorem dX7_divide_73 : decode cX7_divide 73 = .ok (.aload_n 2, 1) := by decide +kernel
theorem dX7_divide_74 : decode cX7_divide 74 = .ok (.iload_n 3, 1) := by decide +kernel
theorem dX7_divide_75 : decode cX7_divide 75 = .ok (.iload 5, 2) := by decide +kernel
theorem dX7_divide_77 : decode cX7_divide 77 = .ok (.iadd, 1) := by decide +kernel
theorem dX7_divide_78 : decode cX7_divide 78 = .ok (.iload_n 3, 1) := by decide +kernel
theorem dX7_divide_79 : decode cX7_divide 79 = .ok (.iload 4, 2) := by decide +kernel
theorem dX7_divide_81 : decode cX7_divide 81 = .ok (.iadd, 1) := by decide +kernel
theorem dX7_divide_82 : decode cX7_divide 82 = .ok (.invokevirtual 111, 3) := by decide +kernel
theorem dX7_divide_85 : decode cX7_divide 85 = .ok (.ifCond .eq 37, 3) := by decide +kernel
theorem dX7_divide_88 : decode cX7_divide 88 = .ok (.aload_n 0, 1) := by decide +kernel
theorem dX7_divide_89 : decode cX7_divide 89 = .ok (.getfield 41, 3) := by decide +kernel
theorem dX7_divide_92 : decode cX7_divide 92 = .ok (.iload 5, 2) := by decide +kernel
theorem dX7_divide_94 : decode cX7_divide 94 = .ok (.aload_n 0, 1) := by decide +kernel
theorem dX7_divide_95 : decode cX7_divide 95 = .ok (.getfield 41, 3) := by decide +kernel
theorem dX7_divide_98 : decode cX7_divide 98 = .ok (.iload 5, 2) := by decide +kernel
theorem dX7_divide_100 : decode cX7_divide 100 = .ok (.iaload, 1) := by decide +kernel
theorem dX7_divide_101 : decode cX7_divide 101 = .ok (.iconst 1, 1) := by decide +kernel
theorem dX7_divide_102 : decode cX7_divide 102 = .ok (.aload_n 0, 1) := by decide +kernel
theorem dX7_divide_103 : decode cX7_divide 103 = .ok (.getfield 41, 3) := by decide +kernel
theorem dX7_divide_106 : decode cX7_divide 106 = .ok (.iload 5, 2) := by decide +kernel
theorem dX7_divide_108 : decode cX7_divide 108 = .ok (.aload_n 0, 1) := by decide +kernel
theorem dX7_divide_109 : decode cX7_divide 109 = .ok (.getfield 29, 3) := by decide +kernel
theorem dX7_divide_112 : decode cX7_divide 112 = .ok (.iload 6, 2) := by decide +kernel
theorem dX7_divide_114 : decode cX7_divide 114 = .ok (.iaload, 1) := by decide +kernel
theorem dX7_divide_115 : decode cX7_divide 115 = .ok (.iadd, 1) := by decide +kernel
theorem dX7_divide_116 : decode cX7_divide 116 = .ok (.iaload, 1) := by decide +kernel
theorem dX7_divide_117 : decode cX7_divide 117 = .ok (.iadd, 1) := by decide +kernel
theorem dX7_divide_118 : decode cX7_divide 118 = .ok (.invokestatic 115, 3) := by decide +kernel
theorem dX7_divide_121 : decode cX7_divide 121 = .ok (.iastore, 1) := by decide +kernel
theorem dX7_divide_122 : decode cX7_divide 122 = .ok (.iinc 6 1, 3) := by decide +kernel
theorem dX7_divide_125 : decode cX7_divide 125 = .ok (.goto (-71), 3) := by decide +kernel
theorem dX7_divide_128 : decode cX7_divide 128 = .ok (.bipush 40, 2) := by decide +kernel
theorem dX7_divide_130 : decode cX7_divide 130 = .ok (.iload_n 1, 1) := by decide +kernel
theorem dX7_divide_131 : decode cX7_divide 131 = .ok (.imul, 1) := by decide +kernel
theorem dX7_divide_132 : decode cX7_divide 132 = .ok (.istore 6, 2) := by decide +kernel
theorem dX7_divide_134 : decode cX7_divide 134 = .ok (.iload 6, 2) := by decide +kernel
theorem dX7_divide_136 : decode cX7_divide 136 = .ok (.bipush 40, 2) := by decide +kernel
theorem dX7_divide_138 : decode cX7_divide 138 = .ok (.iload_n 1, 1) := by decide +kernel
theorem dX7_divide_139 : decode cX7_divide 139 = .ok (.imul, 1) := by decide +kernel
theorem dX7_divide_140 : decode cX7_divide 140 = .ok (.aload_n 0, 1) := by decide +kernel
theorem dX7_divide_141 : decode cX7_divide 141 = .ok (.getfield 23, 3) := by decide +kernel
theorem dX7_divide_144 : decode cX7_divide 144 = .ok (.iload_n 1, 1) := by decide +kernel
theorem dX7_divide_145 : decode cX7_divide 145 = .ok (.iaload, 1) := by decide +kernel
theorem dX7_divide_146 : decode cX7_divide 146 = .ok (.iadd, 1) := by decide +kernel
theorem dX7_divide_147 : decode cX7_divide 147 = .ok (.if_icmp .ge 132, 3) := by decide +kernel
theorem dX7_divide_150 : decode cX7_divide 150 = .ok (.aload_n 0, 1) := by decide +kernel
theorem dX7_divide_151 : decode cX7_divide 151 = .ok (.iload 6, 2) := by decide +kernel
theorem dX7_divide_153 : decode cX7_divide 153 = .ok (.aload_n 2, 1) := by decide +kernel
theorem dX7_divide_154 : decode cX7_divide 154 = .ok (.iload_n 3, 1) := by decide +kernel
theorem dX7_divide_155 : decode cX7_divide 155 = .ok (.iload 5, 2) := by decide +kernel
theorem dX7_divide_157 : decode cX7_divide 157 = .ok (.iadd, 1) := by decide +kernel
theorem dX7_divide_158 : decode cX7_divide 158 = .ok (.iload_n 3, 1) := by decide +kernel
theorem dX7_divide_159 : decode cX7_divide 159 = .ok (.iload 4, 2) := by decide +kernel
theorem dX7_divide_161 : decode cX7_divide 161 = .ok (.iadd, 1) := by decide +kernel
theorem dX7_divide_162 : decode cX7_divide 162 = .ok (.invokevirtual 111, 3) := by decide +kernel
theorem dX7_divide_165 : decode cX7_divide 165 = .ok (.ifCond .eq 108, 3) := by decide +kernel
theorem dX7_divide_168 : decode cX7_divide 168 = .ok (.iconst 1, 1) := by decide +kernel
theorem dX7_divide_169 : decode cX7_divide 169 = .ok (.aload_n 0, 1) := by decide +kernel
theorem dX7_divide_170 : decode cX7_divide 170 = .ok (.getfield 41, 3) := by decide +kernel
theorem dX7_divide_173 : decode cX7_divide 173 = .ok (.iload 5, 2) := by decide +kernel
theorem dX7_divide_175 : decode cX7_divide 175 = .ok (.aload_n 0, 1) := by decide +kernel
theorem dX7_divide_176 : decode cX7_divide 176 = .ok (.getfield 29, 3) := by decide +kernel
theorem dX7_divide_179 : decode cX7_divide 179 = .ok (.iload 6, 2) := by decide +kernel
theorem dX7_divide_181 : decode cX7_divide 181 = .ok (.iaload, 1) := by decide +kernel
theorem dX7_divide_182 : decode cX7_divide 182 = .ok (.iadd, 1) := by decide +kernel
theorem dX7_divide_183 : decode cX7_divide 183 = .ok (.iaload, 1) := by decide +kernel
theorem dX7_divide_184 : decode cX7_divide 184 = .ok (.iadd, 1) := by decide +kernel
theorem dX7_divide_185 : decode cX7_divide 185 = .ok (.aload_n 0, 1) := by decide +kernel
theorem dX7_divide_186 : decode cX7_divide 186 = .ok (.getfield 41, 3) := by decide +kernel
theorem dX7_divide_189 : decode cX7_divide 189 = .ok (.iload 5, 2) := by decide +kernel
theorem dX7_divide_191 : decode cX7_divide 191 = .ok (.iaload, 1) := by decide +kernel
theorem dX7_divide_192 : decode cX7_divide 192 = .ok (.if_icmp .eq 6, 3) := by decide +kernel
theorem dX7_divide_195 : decode cX7_divide 195 = .ok (.goto 78, 3) := by decide +kernel
theorem dX7_divide_198 : decode cX7_divide 198 = .ok (.aload_n 0, 1) := by decide +kernel
theorem dX7_divide_199 : decode cX7_divide 199 = .ok (.getfield 44, 3) := by decide +kernel
theorem dX7_divide_202 : decode cX7_divide 202 = .ok (.iload 5, 2) := by decide +kernel
theorem dX7_divide_204 : decode cX7_divide 204 = .ok (.iaload, 1) := by decide +kernel
theorem dX7_divide_205 : decode cX7_divide 205 = .ok (.istore 7, 2) := by decide +kernel
theorem dX7_divide_207 : decode cX7_divide 207 = .ok (.iload 7, 2) := by decide +kernel
theorem dX7_divide_209 : decode cX7_divide 209 = .ok (.iconst (-1), 1) := by decide +kernel
theorem dX7_divide_210 : decode cX7_divide 210 = .ok (.if_icmp .eq 54, 3) := by decide +kernel
theorem dX7_divide_213 : decode cX7_divide 213 = .ok (.aload_n 0, 1) := by decide +kernel
theorem dX7_divide_214 : decode cX7_divide 214 = .ok (.getfield 29, 3) := by decide +kernel
theorem dX7_divide_217 : decode cX7_divide 217 = .ok (.iload 6, 2) := by decide +kernel
theorem dX7_divide_219 : decode cX7_divide 219 = .ok (.iaload, 1) := by decide +kernel
theorem dX7_divide_220 : decode cX7_divide 220 = .ok (.aload_n 0, 1) := by decide +kernel
theorem dX7_divide_221 : decode cX7_divide 221 = .ok (.getfield 29, 3) := by decide +kernel
theorem dX7_divide_224 : decode cX7_divide 224 = .ok (.iload 7, 2) := by decide +kernel
theorem dX7_divide_226 : decode cX7_divide 226 = .ok (.iaload, 1) := by decide +kernel
theorem dX7_divide_227 : decode cX7_divide 227 = .ok (.if_icmp .gt 37, 3) := by decide +kernel
theorem dX7_divide_230 : decode cX7_divide 230 = .ok (.aload_n 0, 1) := by decide +kernel
theorem dX7_divide_231 : decode cX7_divide 231 = .ok (.getfield 29, 3) := by decide +kernel
theorem dX7_divide_234 : decode cX7_divide 234 = .ok (.iload 6, 2) := by decide +kernel
theorem dX7_divide_236 : decode cX7_divide 236 = .ok (.iaload, 1) := by decide +kernel
theorem dX7_divide_237 : decode cX7_divide 237 = .ok (.aload_n 0, 1) := by decide +kernel
theorem dX7_divide_238 : decode cX7_divide 238 = .ok (.getfield 29, 3) := by decide +kernel
theorem dX7_divide_241 : decode cX7_divide 241 = .ok (.iload 7, 2) := by decide +kernel
theorem dX7_divide_243 : decode cX7_divide 243 = .ok (.iaload, 1) := by decide +kernel
theorem dX7_divide_244 : decode cX7_divide 244 = .ok (.if_icmp .ne 29, 3) := by decide +kernel
theorem dX7_divide_247 : decode cX7_divide 247 = .ok (.aload_n 0, 1) := by decide +kernel
theorem dX7_divide_248 : decode cX7_divide 248 = .ok (.getfield 26, 3) := by decide +kernel
theorem dX7_divide_251 : decode cX7_divide 251 = .ok (.iload 6, 2) := by decide +kernel
theorem dX7_divide_253 : decode cX7_divide 253 = .ok (.iaload, 1) := by decide +kernel
theorem dX7_divide_254 : decode cX7_divide 254 = .ok (.aload_n 0, 1) := by decide +kernel
theorem dX7_divide_255 : decode cX7_divide 255 = .ok (.getfield 26, 3) := by decide +kernel
theorem dX7_divide_258 : decode cX7_divide 258 = .ok (.iload 7, 2) := by decide +kernel
theorem dX7_divide_260 : decode cX7_divide 260 = .ok (.iaload, 1) := by decide +kernel
theorem dX7_divide_261 : decode cX7_divide 261 = .ok (.if_icmp .ge 12, 3) := by decide +kernel
theorem dX7_divide_264 : decode cX7_divide 264 = .ok (.aload_n 0, 1) := by decide +kernel
theorem dX7_divide_265 : decode cX7_divide 265 = .ok (.getfield 44, 3) := by decide +kernel
theorem dX7_divide_268 : decode cX7_divide 268 = .ok (.iload 5, 2) := by decide +kernel
theorem dX7_divide_270 : decode cX7_divide 270 = .ok (.iload 6, 2) := by decide +kernel
theorem dX7_divide_272 : decode cX7_divide 272 = .ok (.iastore, 1) := by decide +kernel
theorem dX7_divide_273 : decode cX7_divide 273 = .ok (.iinc 6 1, 3) := by decide +kernel
theorem dX7_divide_276 : decode cX7_divide 276 = .ok (.goto (-142), 3) := by decide +kernel
theorem dX7_divide_279 : decode cX7_divide 279 = .ok (.iinc 5 (-1), 3) := by decide +kernel
theorem dX7_divide_282 : decode cX7_divide 282 = .ok (.goto (-268), 3) := by decide +kernel
theorem dX7_divide_285 : decode cX7_divide 285 = .ok (.aload_n 0, 1) := by decide +kernel
theorem dX7_divide_286 : decode cX7_divide 286 = .ok (.getfield 41, 3) := by decide +kernel
theorem dX7_divide_289 : decode cX7_divide 289 = .ok (.iconst 0, 1) := by decide +kernel
theorem dX7_divide_290 : decode cX7_divide 290 = .ok (.iaload, 1) := by decide +kernel
theorem dX7_divide_291 : decode cX7_divide 291 = .ok (.ireturn, 1) := by decide +kernel
theorem dX7_encode_0 : decode cX7_encode 0 = .ok (.aload_n 0, 1) := by decide +kernel
theorem dX7_encode_1 : decode cX7_encode 1 = .ok (.iconst 0, 1) := by decide +kernel
theorem dX7_encode_2 : decode cX7_encode 2 = .ok (.putfield 47, 3) := by decide +kernel
theorem dX7_encode_5 : decode cX7_encode 5 = .ok (.iload_n 1, 1) := by decide +kernel
theorem dX7_encode_6 : decode cX7_encode 6 = .ok (.invokestatic 55, 3) := by decide +kernel
theorem dX7_encode_9 : decode cX7_encode 9 = .ok (.ifCond .ne 9, 3) := by decide +kernel
theorem dX7_encode_12 : decode cX7_encode 12 = .ok (.aload_n 0, 1) := by decide +kernel
theorem dX7_encode_13 : decode cX7_encode 13 = .ok (.iconst 1, 1) := by decide +kernel
theorem dX7_encode_14 : decode cX7_encode 14 = .ok (.invokevirtual 59, 3) := by decide +kernel
theorem dX7_encode_17 : decode cX7_encode 17 = .ok (.ireturn, 1) := by decide +kernel
theorem dX7_encode_18 : decode cX7_encode 18 = .ok (.aload_n 0, 1) := by decide +kernel
theorem dX7_encode_19 : decode cX7_encode 19 = .ok (.iload_n 1, 1) := by decide +kernel
theorem dX7_encode_20 : decode cX7_encode 20 = .ok (.aload_n 0, 1) := by decide +kernel
theorem dX7_encode_21 : decode cX7_encode 21 = .ok (.getfield 13, 3) := by decide +kernel
theorem dX7_encode_24 : decode cX7_encode 24 = .ok (.iconst 0, 1) := by decide +kernel
theorem dX7_encode_25 : decode cX7_encode 25 = .ok (.aload_n 0, 1) := by decide +kernel
theorem dX7_encode_26 : decode cX7_encode 26 = .ok (.getfield 63, 3) := by decide +kernel
theorem dX7_encode_29 : decode cX7_encode 29 = .ok (.invokevirtual 120, 3) := by decide +kernel
theorem dX7_encode_32 : decode cX7_encode 32 = .ok (.istore_n 2, 1) := by decide +kernel
theorem dX7_encode_33 : decode cX7_encode 33 = .ok (.aload_n 0, 1) := by decide +kernel
theorem dX7_encode_34 : decode cX7_encode 34 = .ok (.iconst 0, 1) := by decide +kernel
theorem dX7_encode_35 : decode cX7_encode 35 = .ok (.putfield 124, 3) := by decide +kernel
theorem dX7_encode_38 : decode cX7_encode 38 = .ok (.iconst 0, 1) := by decide +kernel
theorem dX7_encode_39 : decode cX7_encode 39 = .ok (.istore_n 3, 1) := by decide +kernel
theorem dX7_encode_40 : decode cX7_encode 40 = .ok (.iload_n 3, 1) := by decide +kernel
theorem dX7_encode_41 : decode cX7_encode 41 = .ok (.aload_n 0, 1) := by decide +kernel
theorem dX7_encode_42 : decode cX7_encode 42 = .ok (.getfield 63, 3) := by decide +kernel
theorem dX7_encode_45 : decode cX7_encode 45 = .ok (.if_icmp .ge 77, 3) := by decide +kernel
theorem dX7_encode_48 : decode cX7_encode 48 = .ok (.aload_n 0, 1) := by decide +kernel
theorem dX7_encode_49 : decode cX7_encode 49 = .ok (.getfield 44, 3) := by decide +kernel
theorem dX7_encode_52 : decode cX7_encode 52 = .ok (.iload_n 3, 1) := by decide +kernel
theorem dX7_encode_53 : decode cX7_encode 53 = .ok (.iaload, 1) := by decide +kernel
theorem dX7_encode_54 : decode cX7_encode 54 = .ok (.istore 4, 2) := by decide +kernel
theorem dX7_encode_56 : decode cX7_encode 56 = .ok (.aload_n 0, 1) := by decide +kernel
theorem dX7_encode_57 : decode cX7_encode 57 = .ok (.getfield 35, 3) := by decide +kernel
theorem dX7_encode_60 : decode cX7_encode 60 = .ok (.aload_n 0, 1) := by decide +kernel
theorem dX7_encode_61 : decode cX7_encode 61 = .ok (.getfield 124, 3) := by decide +kernel
theorem dX7_encode_64 : decode cX7_encode 64 = .ok (.iload 4, 2) := by decide +kernel
theorem dX7_encode_66 : decode cX7_encode 66 = .ok (.iconst (-1), 1) := by decide +kernel
theorem dX7_encode_67 : decode cX7_encode 67 = .ok (.if_icmp .ne 14, 3) := by decide +kernel
theorem dX7_encode_70 : decode cX7_encode 70 = .ok (.iconst (-1), 1) := by decide +kernel
theorem dX7_encode_71 : decode cX7_encode 71 = .ok (.aload_n 0, 1) := by decide +kernel
theorem dX7_encode_72 : decode cX7_encode 72 = .ok (.getfield 13, 3) := by decide +kernel
theorem dX7_encode_75 : decode cX7_encode 75 = .ok (.iload_n 3, 1) := by decide +kernel
theorem dX7_encode_76 : decode cX7_encode 76 = .ok (.iaload, 1) := by decide +kernel
theorem dX7_encode_77 : decode cX7_encode 77 = .ok (.isub, 1) := by decide +kernel
theorem dX7_encode_78 : decode cX7_encode 78 = .ok (.goto 10, 3) := by decide +kernel
theorem dX7_encode_81 : decode cX7_encode 81 = .ok (.aload_n 0, 1) := by decide +kernel
theorem dX7_encode_82 : decode cX7_encode 82 = .ok (.getfield 26, 3) := by decide +kernel
theorem dX7_encode_85 : decode cX7_encode 85 = .ok (.iload 4, 2) := by decide +kernel
theorem dX7_encode_87 : decode cX7_encode 87 = .ok (.iaload, 1) := by decide +kernel
theorem dX7_encode_88 : decode cX7_encode 88 = .ok (.iastore, 1) := by decide +kernel
theorem dX7_encode_89 : decode cX7_encode 89 = .ok (.iload_n 3, 1) := by decide +kernel
theorem dX7_encode_90 : decode cX7_encode 90 = .ok (.iload 4, 2) := by decide +kernel
theorem dX7_encode_92 : decode cX7_encode 92 = .ok (.iconst (-1), 1) := by decide +kernel
theorem dX7_encode_93 : decode cX7_encode 93 = .ok (.if_icmp .ne 7, 3) := by decide +kernel
theorem dX7_encode_96 : decode cX7_encode 96 = .ok (.iconst 1, 1) := by decide +kernel
theorem dX7_encode_97 : decode cX7_encode 97 = .ok (.goto 10, 3) := by decide +kernel
theorem dX7_encode_100 : decode cX7_encode 100 = .ok (.aload_n 0, 1) := by decide +kernel
theorem dX7_encode_101 : decode cX7_encode 101 = .ok (.getfield 29, 3) := by decide +kernel
theorem dX7_encode_104 : decode cX7_encode 104 = .ok (.iload 4, 2) := by decide +kernel
theorem dX7_encode_106 : decode cX7_encode 106 = .ok (.iaload, 1) := by decide +kernel
theorem dX7_encode_107 : decode cX7_encode 107 = .ok (.iadd, 1) := by decide +kernel
theorem dX7_encode_108 : decode cX7_encode 108 = .ok (.istore_n 3, 1) := by decide +kernel
theorem dX7_encode_109 : decode cX7_encode 109 = .ok (.aload_n 0, 1) := by decide +kernel
theorem dX7_encode_110 : decode cX7_encode 110 = .ok (.dup, 1) := by decide +kernel
theorem dX7_encode_111 : decode cX7_encode 111 = .ok (.getfield 124, 3) := by decide +kernel
theorem dX7_encode_114 : decode cX7_encode 114 = .ok (.iconst 1, 1) := by decide +kernel
theorem dX7_encode_115 : decode cX7_encode 115 = .ok (.iadd, 1) := by decide +kernel
theorem dX7_encode_116 : decode cX7_encode 116 = .ok (.putfield 124, 3) := by decide +kernel
theorem dX7_encode_119 : decode cX7_encode 119 = .ok (.goto (-79), 3) := by decide +kernel
theorem dX7_encode_122 : decode cX7_encode 122 = .ok (.iload_n 2, 1) := by decide +kernel
theorem dX7_encode_123 : decode cX7_encode 123 = .ok (.ireturn, 1) := by decide +kernel
theorem dX7_groups_0 : decode cX7_groups 0 = .ok (.aload_n 0, 1) := by decide +kernel
theorem dX7_groups_1 : decode cX7_groups 1 = .ok (.iconst 0, 1) := by decide +kernel
theorem dX7_groups_2 : decode cX7_groups 2 = .ok (.putfield 47, 3) := by decide +kernel
theorem dX7_groups_5 : decode cX7_groups 5 = .ok (.aload_n 0, 1) := by decide +kernel
theorem dX7_groups_6 : decode cX7_groups 6 = .ok (.getfield 124, 3) := by decide +kernel
theorem dX7_groups_9 : decode cX7_groups 9 = .ok (.ireturn, 1) := by decide +kernel
theorem dX7_isGroup_0 : decode cX7_isGroup 0 = .ok (.iload_n 1, 1) := by decide +kernel
theorem dX7_isGroup_1 : decode cX7_isGroup 1 = .ok (.iconst 0, 1) := by decide +kernel
theorem dX7_isGroup_2 : decode cX7_isGroup 2 = .ok (.aload_n 0, 1) := by decide +kernel
theorem dX7_isGroup_3 : decode cX7_isGroup 3 = .ok (.getfield 124, 3) := by decide +kernel
theorem dX7_isGroup_6 : decode cX7_isGroup 6 = .ok (.iconst 1, 1) := by decide +kernel
theorem dX7_isGroup_7 : decode cX7_isGroup 7 = .ok (.isub, 1) := by decide +kernel
theorem dX7_isGroup_8 : decode cX7_isGroup 8 = .ok (.invokestatic 50, 3) := by decide +kernel
theorem dX7_isGroup_11 : decode cX7_isGroup 11 = .ok (.ireturn, 1) := by decide +kernel
theorem dX7_group_0 : decode cX7_group 0 = .ok (.aload_n 0, 1) := by decide +kernel
theorem dX7_group_1 : decode cX7_group 1 = .ok (.iconst 0, 1) := by decide +kernel
theorem dX7_group_2 : decode cX7_group 2 = .ok (.putfield 47, 3) := by decide +kernel
theorem dX7_group_5 : decode cX7_group 5 = .ok (.aload_n 0, 1) := by decide +kernel
theorem dX7_group_6 : decode cX7_group 6 = .ok (.iload_n 1, 1) := by decide +kernel
theorem dX7_group_7 : decode cX7_group 7 = .ok (.invokevirtual 127, 3) := by decide +kernel
theorem dX7_group_10 : decode cX7_group 10 = .ok (.ifCond .eq 12, 3) := by decide +kernel
theorem dX7_group_13 : decode cX7_group 13 = .ok (.aload_n 0, 1) := by decide +kernel
theorem dX7_group_14 : decode cX7_group 14 = .ok (.getfield 35, 3) := by decide +kernel
theorem dX7_group_17 : decode cX7_group 17 = .ok (.iload_n 1, 1) := by decide +kernel
theorem dX7_group_18 : decode cX7_group 18 = .ok (.iaload, 1) := by decide +kernel
theorem dX7_group_19 : decode cX7_group 19 = .ok (.goto 8, 3) := by decide +kernel
theorem dX7_group_22 : decode cX7_group 22 = .ok (.aload_n 0, 1) := by decide +kernel
theorem dX7_group_23 : decode cX7_group 23 = .ok (.iconst 1, 1) := by decide +kernel
theorem dX7_group_24 : decode cX7_group 24 = .ok (.invokevirtual 59, 3) := by decide +kernel
theorem dX7_group_27 : decode cX7_group 27 = .ok (.ireturn, 1) := by decide +kernel
theorem dX7_garble_0 : decode cX7_garble 0 = .ok (.aload_n 0, 1) := by decide +kernel
theorem dX7_garble_1 : decode cX7_garble 1 = .ok (.iconst 0, 1) := by decide +kernel
theorem dX7_garble_2 : decode cX7_garble 2 = .ok (.putfield 47, 3) := by decide +kernel
theorem dX7_garble_5 : decode cX7_garble 5 = .ok (.aload_n 0, 1) := by decide +kernel
theorem dX7_garble_6 : decode cX7_garble 6 = .ok (.iload_n 1, 1) := by decide +kernel
theorem dX7_garble_7 : decode cX7_garble 7 = .ok (.invokevirtual 127, 3) := by decide +kernel
theorem dX7_garble_10 : decode cX7_garble 10 = .ok (.ifCond .eq 12, 3) := by decide +kernel
theorem dX7_garble_13 : decode cX7_garble 13 = .ok (.iload_n 2, 1) := by decide +kernel
theorem dX7_garble_14 : decode cX7_garble 14 = .ok (.iconst 0, 1) := by decide +kernel
theorem dX7_garble_15 : decode cX7_garble 15 = .ok (.iconst 4, 1) := by decide +kernel
theorem dX7_garble_16 : decode cX7_garble 16 = .ok (.invokestatic 50, 3) := by decide +kernel
theorem dX7_garble_19 : decode cX7_garble 19 = .ok (.ifCond .ne 9, 3) := by decide +kernel
theorem dX7_garble_22 : decode cX7_garble 22 = .ok (.aload_n 0, 1) := by decide +kernel
theorem dX7_garble_23 : decode cX7_garble 23 = .ok (.iconst 1, 1) := by decide +kernel
theorem dX7_garble_24 : decode cX7_garble 24 = .ok (.invokevirtual 59, 3) := by decide +kernel
theorem dX7_garble_27 : decode cX7_garble 27 = .ok (.ireturn, 1) := by decide +kernel
theorem dX7_garble_28 : decode cX7_garble 28 = .ok (.iload_n 3, 1) := by decide +kernel
theorem dX7_garble_29 : decode cX7_garble 29 = .ok (.iconst 0, 1) := by decide +kernel
theorem dX7_garble_30 : decode cX7_garble 30 = .ok (.bipush 25, 2) := by decide +kernel
theorem dX7_garble_32 : decode cX7_garble 32 = .ok (.invokestatic 50, 3) := by decide +kernel
theorem dX7_garble_35 : decode cX7_garble 35 = .ok (.ifCond .ne 9, 3) := by decide +kernel
theorem dX7_garble_38 : decode cX7_garble 38 = .ok (.aload_n 0, 1) := by decide +kernel
theorem dX7_garble_39 : decode cX7_garble 39 = .ok (.iconst 2, 1) := by decide +kernel
theorem dX7_garble_40 : decode cX7_garble 40 = .ok (.invokevirtual 59, 3) := by decide +kernel
theorem dX7_garble_43 : decode cX7_garble 43 = .ok (.ireturn, 1) := by decide +kernel
theorem dX7_garble_44 : decode cX7_garble 44 = .ok (.aload_n 0, 1) := by decide +kernel
theorem dX7_garble_45 : decode cX7_garble 45 = .ok (.getfield 35, 3) := by decide +kernel
theorem dX7_garble_48 : decode cX7_garble 48 = .ok (.iload_n 1, 1) := by decide +kernel
theorem dX7_garble_49 : decode cX7_garble 49 = .ok (.iaload, 1) := by decide +kernel
theorem dX7_garble_50 : decode cX7_garble 50 = .ok (.ifCond .ge 9, 3) := by decide +kernel
theorem dX7_garble_53 : decode cX7_garble 53 = .ok (.aload_n 0, 1) := by decide +kernel
theorem dX7_garble_54 : decode cX7_garble 54 = .ok (.iconst 3, 1) := by decide +kernel
theorem dX7_garble_55 : decode cX7_garble 55 = .ok (.invokevirtual 59, 3) := by decide +kernel
theorem dX7_garble_58 : decode cX7_garble 58 = .ok (.ireturn, 1) := by decide +kernel
theorem dX7_garble_59 : decode cX7_garble 59 = .ok (.aload_n 0, 1) := by decide +kernel
theorem dX7_garble_60 : decode cX7_garble 60 = .ok (.getfield 35, 3) := by decide +kernel
theorem dX7_garble_63 : decode cX7_garble 63 = .ok (.iload_n 1, 1) := by decide +kernel
theorem dX7_garble_64 : decode cX7_garble 64 = .ok (.iaload, 1) := by decide +kernel
theorem dX7_garble_65 : decode cX7_garble 65 = .ok (.iload_n 2, 1) := by decide +kernel
theorem dX7_garble_66 : decode cX7_garble 66 = .ok (.invokestatic 81, 3) := by decide +kernel
theorem dX7_garble_69 : decode cX7_garble 69 = .ok (.istore 4, 2) := by decide +kernel
theorem dX7_garble_71 : decode cX7_garble 71 = .ok (.aload_n 0, 1) := by decide +kernel
theorem dX7_garble_72 : decode cX7_garble 72 = .ok (.getfield 35, 3) := by decide +kernel
theorem dX7_garble_75 : decode cX7_garble 75 = .ok (.iload_n 1, 1) := by decide +kernel
theorem dX7_garble_76 : decode cX7_garble 76 = .ok (.dup2, 1) := by decide +kernel
theorem dX7_garble_77 : decode cX7_garble 77 = .ok (.iaload, 1) := by decide +kernel
theorem dX7_garble_78 : decode cX7_garble 78 = .ok (.iload_n 3, 1) := by decide +kernel
theorem dX7_garble_79 : decode cX7_garble 79 = .ok (.iload 4, 2) := by decide +kernel
theorem dX7_garble_81 : decode cX7_garble 81 = .ok (.isub, 1) := by decide +kernel
theorem dX7_garble_82 : decode cX7_garble 82 = .ok (.iload_n 2, 1) := by decide +kernel
theorem dX7_garble_83 : decode cX7_garble 83 = .ok (.invokestatic 75, 3) := by decide +kernel
theorem dX7_garble_86 : decode cX7_garble 86 = .ok (.imul, 1) := by decide +kernel
theorem dX7_garble_87 : decode cX7_garble 87 = .ok (.iadd, 1) := by decide +kernel
theorem dX7_garble_88 : decode cX7_garble 88 = .ok (.iastore, 1) := by decide +kernel
theorem dX7_garble_89 : decode cX7_garble 89 = .ok (.iload 4, 2) := by decide +kernel
theorem dX7_garble_91 : decode cX7_garble 91 = .ok (.ireturn, 1) := by decide +kernel
theorem dX7_swap_0 : decode cX7_swap 0 = .ok (.aload_n 0, 1) := by decide +kernel
theorem dX7_swap_1 : decode cX7_swap 1 = .ok (.iconst 0, 1) := by decide +kernel
theorem dX7_swap_2 : decode cX7_swap 2 = .ok (.putfield 47, 3) := by decide +kernel
theorem dX7_swap_5 : decode cX7_swap 5 = .ok (.aload_n 0, 1) := by decide +kernel
theorem dX7_swap_6 : decode cX7_swap 6 = .ok (.iload_n 1, 1) := by decide +kernel
theorem dX7_swap_7 : decode cX7_swap 7 = .ok (.invokevirtual 127, 3) := by decide +kernel
theorem dX7_swap_10 : decode cX7_swap 10 = .ok (.ifCond .eq 12, 3) := by decide +kernel
theorem dX7_swap_13 : decode cX7_swap 13 = .ok (.iload_n 2, 1) := by decide +kernel
theorem dX7_swap_14 : decode cX7_swap 14 = .ok (.iconst 0, 1) := by decide +kernel
theorem dX7_swap_15 : decode cX7_swap 15 = .ok (.iconst 3, 1) := by decide +kernel
theorem dX7_swap_16 : decode cX7_swap 16 = .ok (.invokestatic 50, 3) := by decide +kernel
theorem dX7_swap_19 : decode cX7_swap 19 = .ok (.ifCond .ne 9, 3) := by decide +kernel
theorem dX7_swap_22 : decode cX7_swap 22 = .ok (.aload_n 0, 1) := by decide +kernel
theorem dX7_swap_23 : decode cX7_swap 23 = .ok (.iconst 1, 1) := by decide +kernel
theorem dX7_swap_24 : decode cX7_swap 24 = .ok (.invokevirtual 59, 3) := by decide +kernel
theorem dX7_swap_27 : decode cX7_swap 27 = .ok (.ireturn, 1) := by decide +kernel
theorem dX7_swap_28 : decode cX7_swap 28 = .ok (.aload_n 0, 1) := by decide +kernel
theorem dX7_swap_29 : decode cX7_swap 29 = .ok (.getfield 35, 3) := by decide +kernel
theorem dX7_swap_32 : decode cX7_swap 32 = .ok (.iload_n 1, 1) := by decide +kernel
theorem dX7_swap_33 : decode cX7_swap 33 = .ok (.iaload, 1) := by decide +kernel
theorem dX7_swap_34 : decode cX7_swap 34 = .ok (.ifCond .ge 9, 3) := by decide +kernel
theorem dX7_swap_37 : decode cX7_swap 37 = .ok (.aload_n 0, 1) := by decide +kernel
theorem dX7_swap_38 : decode cX7_swap 38 = .ok (.iconst 2, 1) := by decide +kernel
theorem dX7_swap_39 : decode cX7_swap 39 = .ok (.invokevirtual 59, 3) := by decide +kernel
theorem dX7_swap_42 : decode cX7_swap 42 = .ok (.ireturn, 1) := by decide +kernel
theorem dX7_swap_43 : decode cX7_swap 43 = .ok (.aload_n 0, 1) := by decide +kernel
theorem dX7_swap_44 : decode cX7_swap 44 = .ok (.getfield 35, 3) := by decide +kernel
theorem dX7_swap_47 : decode cX7_swap 47 = .ok (.iload_n 1, 1) := by decide +kernel
theorem dX7_swap_48 : decode cX7_swap 48 = .ok (.aload_n 0, 1) := by decide +kernel
theorem dX7_swap_49 : decode cX7_swap 49 = .ok (.getfield 35, 3) := by decide +kernel
theorem dX7_swap_52 : decode cX7_swap 52 = .ok (.iload_n 1, 1) := by decide +kernel
theorem dX7_swap_53 : decode cX7_swap 53 = .ok (.iaload, 1) := by decide +kernel
theorem dX7_swap_54 : decode cX7_swap 54 = .ok (.iload_n 2, 1) := by decide +kernel
theorem dX7_swap_55 : decode cX7_swap 55 = .ok (.invokestatic 85, 3) := by decide +kernel
theorem dX7_swap_58 : decode cX7_swap 58 = .ok (.iastore, 1) := by decide +kernel
theorem dX7_swap_59 : decode cX7_swap 59 = .ok (.aload_n 0, 1) := by decide +kernel
theorem dX7_swap_60 : decode cX7_swap 60 = .ok (.getfield 35, 3) := by decide +kernel
theorem dX7_swap_63 : decode cX7_swap 63 = .ok (.iload_n 1, 1) := by decide +kernel
theorem dX7_swap_64 : decode cX7_swap 64 = .ok (.iaload, 1) := by decide +kernel
theorem dX7_swap_65 : decode cX7_swap 65 = .ok (.ireturn, 1) := by decide +kernel
theorem dX7_meant_0 : decode cX7_meant 0 = .ok (.iconst (-1), 1) := by decide +kernel
theorem dX7_meant_1 : decode cX7_meant 1 = .ok (.istore_n 3, 1) := by decide +kernel
theorem dX7_meant_2 : decode cX7_meant 2 = .ok (.iconst 0, 1) := by decide +kernel
theorem dX7_meant_3 : decode cX7_meant 3 = .ok (.istore 4, 2) := by decide +kernel
theorem dX7_meant_5 : decode cX7_meant 5 = .ok (.iconst 0, 1) := by decide +kernel
theorem dX7_meant_6 : decode cX7_meant 6 = .ok (.istore 5, 2) := by decide +kernel
theorem dX7_meant_8 : decode cX7_meant 8 = .ok (.iload 5, 2) := by decide +kernel
theorem dX7_meant_10 : decode cX7_meant 10 = .ok (.aload_n 0, 1) := by decide +kernel
theorem dX7_meant_11 : decode cX7_meant 11 = .ok (.getfield 23, 3) := by decide +kernel
theorem dX7_meant_14 : decode cX7_meant 14 = .ok (.iload_n 1, 1) := by decide +kernel
theorem dX7_meant_15 : decode cX7_meant 15 = .ok (.iaload, 1) := by decide +kernel
theorem dX7_meant_16 : decode cX7_meant 16 = .ok (.if_icmp .ge 50, 3) := by decide +kernel
theorem dX7_meant_19 : decode cX7_meant 19 = .ok (.aload_n 0, 1) := by decide +kernel
theorem dX7_meant_20 : decode cX7_meant 20 = .ok (.getfield 26, 3) := by decide +kernel
theorem dX7_meant_23 : decode cX7_meant 23 = .ok (.bipush 40, 2) := by decide +kernel
theorem dX7_meant_25 : decode cX7_meant 25 = .ok (.iload_n 1, 1) := by decide +kernel
theorem dX7_meant_26 : decode cX7_meant 26 = .ok (.imul, 1) := by decide +kernel
theorem dX7_meant_27 : decode cX7_meant 27 = .ok (.iload 5, 2) := by decide +kernel
theorem dX7_meant_29 : decode cX7_meant 29 = .ok (.iadd, 1) := by decide +kernel
theorem dX7_meant_30 : decode cX7_meant 30 = .ok (.iaload, 1) := by decide +kernel
theorem dX7_meant_31 : decode cX7_meant 31 = .ok (.istore 6, 2) := by decide +kernel
theorem dX7_meant_33 : decode cX7_meant 33 = .ok (.iload 6, 2) := by decide +kernel
theorem dX7_meant_35 : decode cX7_meant 35 = .ok (.iload_n 2, 1) := by decide +kernel
theorem dX7_meant_36 : decode cX7_meant 36 = .ok (.invokestatic 88, 3) := by decide +kernel
theorem dX7_meant_39 : decode cX7_meant 39 = .ok (.ifCond .ne 15, 3) := by decide +kernel
theorem dX7_meant_42 : decode cX7_meant 42 = .ok (.iload 6, 2) := by decide +kernel
theorem dX7_meant_44 : decode cX7_meant 44 = .ok (.iload_n 2, 1) := by decide +kernel
theorem dX7_meant_45 : decode cX7_meant 45 = .ok (.invokestatic 92, 3) := by decide +kernel
theorem dX7_meant_48 : decode cX7_meant 48 = .ok (.ifCond .ne 6, 3) := by decide +kernel
theorem dX7_meant_51 : decode cX7_meant 51 = .ok (.goto 9, 3) := by decide +kernel
theorem dX7_meant_54 : decode cX7_meant 54 = .ok (.iload 5, 2) := by decide +kernel
theorem dX7_meant_56 : decode cX7_meant 56 = .ok (.istore_n 3, 1) := by decide +kernel
theorem dX7_meant_57 : decode cX7_meant 57 = .ok (.iinc 4 1, 3) := by decide +kernel
theorem dX7_meant_60 : decode cX7_meant 60 = .ok (.iinc 5 1, 3) := by decide +kernel
theorem dX7_meant_63 : decode cX7_meant 63 = .ok (.goto (-55), 3) := by decide +kernel
theorem dX7_meant_66 : decode cX7_meant 66 = .ok (.iload 4, 2) := by decide +kernel
theorem dX7_meant_68 : decode cX7_meant 68 = .ok (.iconst 1, 1) := by decide +kernel
theorem dX7_meant_69 : decode cX7_meant 69 = .ok (.if_icmp .ne 7, 3) := by decide +kernel
theorem dX7_meant_72 : decode cX7_meant 72 = .ok (.iload_n 3, 1) := by decide +kernel
theorem dX7_meant_73 : decode cX7_meant 73 = .ok (.goto 4, 3) := by decide +kernel
theorem dX7_meant_76 : decode cX7_meant 76 = .ok (.iconst (-1), 1) := by decide +kernel
theorem dX7_meant_77 : decode cX7_meant 77 = .ok (.ireturn, 1) := by decide +kernel
theorem dX7_write_0 : decode cX7_write 0 = .ok (.aload_n 0, 1) := by decide +kernel
theorem dX7_write_1 : decode cX7_write 1 = .ok (.getfield 63, 3) := by decide +kernel
theorem dX7_write_4 : decode cX7_write 4 = .ok (.bipush 40, 2) := by decide +kernel
theorem dX7_write_6 : decode cX7_write 6 = .ok (.if_icmp .ne 4, 3) := by decide +kernel
theorem dX7_write_9 : decode cX7_write 9 = .ok (.return_, 1) := by decide +kernel
theorem dX7_write_10 : decode cX7_write 10 = .ok (.aload_n 0, 1) := by decide +kernel
theorem dX7_write_11 : decode cX7_write 11 = .ok (.getfield 13, 3) := by decide +kernel
theorem dX7_write_14 : decode cX7_write 14 = .ok (.aload_n 0, 1) := by decide +kernel
theorem dX7_write_15 : decode cX7_write 15 = .ok (.getfield 63, 3) := by decide +kernel
theorem dX7_write_18 : decode cX7_write 18 = .ok (.iload_n 1, 1) := by decide +kernel
theorem dX7_write_19 : decode cX7_write 19 = .ok (.iastore, 1) := by decide +kernel
theorem dX7_write_20 : decode cX7_write 20 = .ok (.aload_n 0, 1) := by decide +kernel
theorem dX7_write_21 : decode cX7_write 21 = .ok (.dup, 1) := by decide +kernel
theorem dX7_write_22 : decode cX7_write 22 = .ok (.getfield 63, 3) := by decide +kernel
theorem dX7_write_25 : decode cX7_write 25 = .ok (.iconst 1, 1) := by decide +kernel
theorem dX7_write_26 : decode cX7_write 26 = .ok (.iadd, 1) := by decide +kernel
theorem dX7_write_27 : decode cX7_write 27 = .ok (.putfield 63, 3) := by decide +kernel
theorem dX7_write_30 : decode cX7_write 30 = .ok (.return_, 1) := by decide +kernel
theorem dX7_decode_0 : decode cX7_decode 0 = .ok (.aload_n 0, 1) := by decide +kernel
theorem dX7_decode_1 : decode cX7_decode 1 = .ok (.iconst 0, 1) := by decide +kernel
theorem dX7_decode_2 : decode cX7_decode 2 = .ok (.putfield 47, 3) := by decide +kernel
theorem dX7_decode_5 : decode cX7_decode 5 = .ok (.iload_n 1, 1) := by decide +kernel
theorem dX7_decode_6 : decode cX7_decode 6 = .ok (.invokestatic 55, 3) := by decide +kernel
theorem dX7_decode_9 : decode cX7_decode 9 = .ok (.ifCond .ne 9, 3) := by decide +kernel
theorem dX7_decode_12 : decode cX7_decode 12 = .ok (.aload_n 0, 1) := by decide +kernel
theorem dX7_decode_13 : decode cX7_decode 13 = .ok (.iconst 1, 1) := by decide +kernel
theorem dX7_decode_14 : decode cX7_decode 14 = .ok (.invokevirtual 59, 3) := by decide +kernel
theorem dX7_decode_17 : decode cX7_decode 17 = .ok (.ireturn, 1) := by decide +kernel
theorem dX7_decode_18 : decode cX7_decode 18 = .ok (.aload_n 0, 1) := by decide +kernel
theorem dX7_decode_19 : decode cX7_decode 19 = .ok (.iconst 0, 1) := by decide +kernel
theorem dX7_decode_20 : decode cX7_decode 20 = .ok (.putfield 63, 3) := by decide +kernel
theorem dX7_decode_23 : decode cX7_decode 23 = .ok (.aload_n 0, 1) := by decide +kernel
theorem dX7_decode_24 : decode cX7_decode 24 = .ok (.aload_n 0, 1) := by decide +kernel
theorem dX7_decode_25 : decode cX7_decode 25 = .ok (.getfield 124, 3) := by decide +kernel
theorem dX7_decode_28 : decode cX7_decode 28 = .ok (.putfield 130, 3) := by decide +kernel
theorem dX7_decode_31 : decode cX7_decode 31 = .ok (.iconst 0, 1) := by decide +kernel
theorem dX7_decode_32 : decode cX7_decode 32 = .ok (.istore_n 2, 1) := by decide +kernel
theorem dX7_decode_33 : decode cX7_decode 33 = .ok (.iconst 0, 1) := by decide +kernel
theorem dX7_decode_34 : decode cX7_decode 34 = .ok (.istore_n 3, 1) := by decide +kernel
theorem dX7_decode_35 : decode cX7_decode 35 = .ok (.iload_n 3, 1) := by decide +kernel
theorem dX7_decode_36 : decode cX7_decode 36 = .ok (.aload_n 0, 1) := by decide +kernel
theorem dX7_decode_37 : decode cX7_decode 37 = .ok (.getfield 124, 3) := by decide +kernel
theorem dX7_decode_40 : decode cX7_decode 40 = .ok (.if_icmp .ge 177, 3) := by decide +kernel
theorem dX7_decode_43 : decode cX7_decode 43 = .ok (.aload_n 0, 1) := by decide +kernel
theorem dX7_decode_44 : decode cX7_decode 44 = .ok (.getfield 35, 3) := by decide +kernel
theorem dX7_decode_47 : decode cX7_decode 47 = .ok (.iload_n 3, 1) := by decide +kernel
theorem dX7_decode_48 : decode cX7_decode 48 = .ok (.iaload, 1) := by decide +kernel
theorem dX7_decode_49 : decode cX7_decode 49 = .ok (.istore 4, 2) := by decide +kernel
theorem dX7_decode_51 : decode cX7_decode 51 = .ok (.iload 4, 2) := by decide +kernel
theorem dX7_decode_53 : decode cX7_decode 53 = .ok (.ifCond .ge 7, 3) := by decide +kernel
theorem dX7_decode_56 : decode cX7_decode 56 = .ok (.iconst (-1), 1) := by decide +kernel
theorem dX7_decode_57 : decode cX7_decode 57 = .ok (.goto 10, 3) := by decide +kernel
theorem dX7_decode_60 : decode cX7_decode 60 = .ok (.aload_n 0, 1) := by decide +kernel
theorem dX7_decode_61 : decode cX7_decode 61 = .ok (.iload_n 1, 1) := by decide +kernel
theorem dX7_decode_62 : decode cX7_decode 62 = .ok (.iload 4, 2) := by decide +kernel
theorem dX7_decode_64 : decode cX7_decode 64 = .ok (.invokevirtual 108, 3) := by decide +kernel
theorem dX7_decode_67 : decode cX7_decode 67 = .ok (.istore 5, 2) := by decide +kernel
theorem dX7_decode_69 : decode cX7_decode 69 = .ok (.aload_n 0, 1) := by decide +kernel
theorem dX7_decode_70 : decode cX7_decode 70 = .ok (.getfield 38, 3) := by decide +kernel
theorem dX7_decode_73 : decode cX7_decode 73 = .ok (.iload_n 3, 1) := by decide +kernel
theorem dX7_decode_74 : decode cX7_decode 74 = .ok (.iload 4, 2) := by decide +kernel
theorem dX7_decode_76 : decode cX7_decode 76 = .ok (.ifCond .ge 7, 3) := by decide +kernel
theorem dX7_decode_79 : decode cX7_decode 79 = .ok (.iconst 0, 1) := by decide +kernel
theorem dX7_decode_80 : decode cX7_decode 80 = .ok (.goto 14, 3) := by decide +kernel
theorem dX7_decode_83 : decode cX7_decode 83 = .ok (.iload 5, 2) := by decide +kernel
theorem dX7_decode_85 : decode cX7_decode 85 = .ok (.iconst (-1), 1) := by decide +kernel
theorem dX7_decode_86 : decode cX7_decode 86 = .ok (.if_icmp .eq 7, 3) := by decide +kernel
theorem dX7_decode_89 : decode cX7_decode 89 = .ok (.iconst 1, 1) := by decide +kernel
theorem dX7_decode_90 : decode cX7_decode 90 = .ok (.goto 4, 3) := by decide +kernel
theorem dX7_decode_93 : decode cX7_decode 93 = .ok (.iconst 3, 1) := by decide +kernel
theorem dX7_decode_94 : decode cX7_decode 94 = .ok (.iastore, 1) := by decide +kernel
theorem dX7_decode_95 : decode cX7_decode 95 = .ok (.iload 4, 2) := by decide +kernel
theorem dX7_decode_97 : decode cX7_decode 97 = .ok (.ifCond .ge 11, 3) := by decide +kernel
theorem dX7_decode_100 : decode cX7_decode 100 = .ok (.aload_n 0, 1) := by decide +kernel
theorem dX7_decode_101 : decode cX7_decode 101 = .ok (.iconst (-1), 1) := by decide +kernel
theorem dX7_decode_102 : decode cX7_decode 102 = .ok (.iload 4, 2) := by decide +kernel
theorem dX7_decode_104 : decode cX7_decode 104 = .ok (.isub, 1) := by decide +kernel
theorem dX7_decode_105 : decode cX7_decode 105 = .ok (.invokevirtual 133, 3) := by decide +kernel
theorem dX7_decode_108 : decode cX7_decode 108 = .ok (.aload_n 0, 1) := by decide +kernel
theorem dX7_decode_109 : decode cX7_decode 109 = .ok (.getfield 38, 3) := by decide +kernel
theorem dX7_decode_112 : decode cX7_decode 112 = .ok (.iload_n 3, 1) := by decide +kernel
theorem dX7_decode_113 : decode cX7_decode 113 = .ok (.iaload, 1) := by decide +kernel
theorem dX7_decode_114 : decode cX7_decode 114 = .ok (.iconst 3, 1) := by decide +kernel
theorem dX7_decode_115 : decode cX7_decode 115 = .ok (.if_icmp .ne 43, 3) := by decide +kernel
theorem dX7_decode_118 : decode cX7_decode 118 = .ok (.aload_n 0, 1) := by decide +kernel
theorem dX7_decode_119 : decode cX7_decode 119 = .ok (.iload_n 1, 1) := by decide +kernel
theorem dX7_decode_120 : decode cX7_decode 120 = .ok (.iload 4, 2) := by decide +kernel
theorem dX7_decode_122 : decode cX7_decode 122 = .ok (.invokevirtual 137, 3) := by decide +kernel
theorem dX7_decode_125 : decode cX7_decode 125 = .ok (.istore 5, 2) := by decide +kernel
theorem dX7_decode_127 : decode cX7_decode 127 = .ok (.aload_n 0, 1) := by decide +kernel
theorem dX7_decode_128 : decode cX7_decode 128 = .ok (.getfield 38, 3) := by decide +kernel
theorem dX7_decode_131 : decode cX7_decode 131 = .ok (.iload_n 3, 1) := by decide +kernel
theorem dX7_decode_132 : decode cX7_decode 132 = .ok (.iload 5, 2) := by decide +kernel
theorem dX7_decode_134 : decode cX7_decode 134 = .ok (.iconst (-1), 1) := by decide +kernel
theorem dX7_decode_135 : decode cX7_decode 135 = .ok (.if_icmp .ne 7, 3) := by decide +kernel
theorem dX7_decode_138 : decode cX7_decode 138 = .ok (.iconst 3, 1) := by decide +kernel
theorem dX7_decode_139 : decode cX7_decode 139 = .ok (.goto 4, 3) := by decide +kernel
theorem dX7_decode_142 : decode cX7_decode 142 = .ok (.iconst 2, 1) := by decide +kernel
theorem dX7_decode_143 : decode cX7_decode 143 = .ok (.iastore, 1) := by decide +kernel
theorem dX7_decode_144 : decode cX7_decode 144 = .ok (.iload_n 2, 1) := by decide +kernel
theorem dX7_decode_145 : decode cX7_decode 145 = .ok (.iload 5, 2) := by decide +kernel
theorem dX7_decode_147 : decode cX7_decode 147 = .ok (.iconst (-1), 1) := by decide +kernel
theorem dX7_decode_148 : decode cX7_decode 148 = .ok (.if_icmp .ne 7, 3) := by decide +kernel
theorem dX7_decode_151 : decode cX7_decode 151 = .ok (.iconst 1, 1) := by decide +kernel
theorem dX7_decode_152 : decode cX7_decode 152 = .ok (.goto 4, 3) := by decide +kernel
theorem dX7_decode_155 : decode cX7_decode 155 = .ok (.iconst 0, 1) := by decide +kernel
theorem dX7_decode_156 : decode cX7_decode 156 = .ok (.iadd, 1) := by decide +kernel
theorem dX7_decode_157 : decode cX7_decode 157 = .ok (.istore_n 2, 1) := by decide +kernel
theorem dX7_decode_158 : decode cX7_decode 158 = .ok (.bipush 40, 2) := by decide +kernel
theorem dX7_decode_160 : decode cX7_decode 160 = .ok (.iload_n 1, 1) := by decide +kernel
theorem dX7_decode_161 : decode cX7_decode 161 = .ok (.imul, 1) := by decide +kernel
theorem dX7_decode_162 : decode cX7_decode 162 = .ok (.iload 5, 2) := by decide +kernel
theorem dX7_decode_164 : decode cX7_decode 164 = .ok (.iadd, 1) := by decide +kernel
theorem dX7_decode_165 : decode cX7_decode 165 = .ok (.istore 6, 2) := by decide +kernel
theorem dX7_decode_167 : decode cX7_decode 167 = .ok (.iload 5, 2) := by decide +kernel
theorem dX7_decode_169 : decode cX7_decode 169 = .ok (.iconst (-1), 1) := by decide +kernel
theorem dX7_decode_170 : decode cX7_decode 170 = .ok (.if_icmp .eq 41, 3) := by decide +kernel
theorem dX7_decode_173 : decode cX7_decode 173 = .ok (.iconst 0, 1) := by decide +kernel
theorem dX7_decode_174 : decode cX7_decode 174 = .ok (.istore 7, 2) := by decide +kernel
theorem dX7_decode_176 : decode cX7_decode 176 = .ok (.iload 7, 2) := by decide +kernel
theorem dX7_decode_178 : decode cX7_decode 178 = .ok (.aload_n 0, 1) := by decide +kernel
theorem dX7_decode_179 : decode cX7_decode 179 = .ok (.getfield 29, 3) := by decide +kernel
theorem dX7_decode_182 : decode cX7_decode 182 = .ok (.iload 6, 2) := by decide +kernel
theorem dX7_decode_184 : decode cX7_decode 184 = .ok (.iaload, 1) := by decide +kernel
theorem dX7_decode_185 : decode cX7_decode 185 = .ok (.if_icmp .ge 26, 3) := by decide +kernel
theorem dX7_decode_188 : decode cX7_decode 188 = .ok (.aload_n 0, 1) := by decide +kernel
theorem dX7_decode_189 : decode cX7_decode 189 = .ok (.aload_n 0, 1) := by decide +kernel
theorem dX7_decode_190 : decode cX7_decode 190 = .ok (.getfield 32, 3) := by decide +kernel
theorem dX7_decode_193 : decode cX7_decode 193 = .ok (.bipush 6, 2) := by decide +kernel
theorem dX7_decode_195 : decode cX7_decode 195 = .ok (.iload 6, 2) := by decide +kernel
theorem dX7_decode_197 : decode cX7_decode 197 = .ok (.imul, 1) := by decide +kernel
theorem dX7_decode_198 : decode cX7_decode 198 = .ok (.iload 7, 2) := by decide +kernel
theorem dX7_decode_200 : decode cX7_decode 200 = .ok (.iadd, 1) := by decide +kernel
theorem dX7_decode_201 : decode cX7_decode 201 = .ok (.iaload, 1) := by decide +kernel
theorem dX7_decode_202 : decode cX7_decode 202 = .ok (.invokevirtual 133, 3) := by decide +kernel
theorem dX7_decode_205 : decode cX7_decode 205 = .ok (.iinc 7 1, 3) := by decide +kernel
theorem dX7_decode_208 : decode cX7_decode 208 = .ok (.goto (-32), 3) := by decide +kernel
theorem dX7_decode_211 : decode cX7_decode 211 = .ok (.iinc 3 1, 3) := by decide +kernel
theorem dX7_decode_214 : decode cX7_decode 214 = .ok (.goto (-179), 3) := by decide +kernel
theorem dX7_decode_217 : decode cX7_decode 217 = .ok (.iload_n 2, 1) := by decide +kernel
theorem dX7_decode_218 : decode cX7_decode 218 = .ok (.ireturn, 1) := by decide +kernel
theorem dX7_how_0 : decode cX7_how 0 = .ok (.aload_n 0, 1) := by decide +kernel
theorem dX7_how_1 : decode cX7_how 1 = .ok (.iconst 0, 1) := by decide +kernel
theorem dX7_how_2 : decode cX7_how 2 = .ok (.putfield 47, 3) := by decide +kernel
theorem dX7_how_5 : decode cX7_how 5 = .ok (.iload_n 1, 1) := by decide +kernel
theorem dX7_how_6 : decode cX7_how 6 = .ok (.iconst 0, 1) := by decide +kernel
theorem dX7_how_7 : decode cX7_how 7 = .ok (.aload_n 0, 1) := by decide +kernel
theorem dX7_how_8 : decode cX7_how 8 = .ok (.getfield 130, 3) := by decide +kernel
theorem dX7_how_11 : decode cX7_how 11 = .ok (.iconst 1, 1) := by decide +kernel
theorem dX7_how_12 : decode cX7_how 12 = .ok (.isub, 1) := by decide +kernel
theorem dX7_how_13 : decode cX7_how 13 = .ok (.invokestatic 50, 3) := by decide +kernel
theorem dX7_how_16 : decode cX7_how 16 = .ok (.ifCond .eq 12, 3) := by decide +kernel
theorem dX7_how_19 : decode cX7_how 19 = .ok (.aload_n 0, 1) := by decide +kernel
theorem dX7_how_20 : decode cX7_how 20 = .ok (.getfield 38, 3) := by decide +kernel
theorem dX7_how_23 : decode cX7_how 23 = .ok (.iload_n 1, 1) := by decide +kernel
theorem dX7_how_24 : decode cX7_how 24 = .ok (.iaload, 1) := by decide +kernel
theorem dX7_how_25 : decode cX7_how 25 = .ok (.goto 8, 3) := by decide +kernel
theorem dX7_how_28 : decode cX7_how 28 = .ok (.aload_n 0, 1) := by decide +kernel
theorem dX7_how_29 : decode cX7_how 29 = .ok (.iconst 1, 1) := by decide +kernel
theorem dX7_how_30 : decode cX7_how 30 = .ok (.invokevirtual 59, 3) := by decide +kernel
theorem dX7_how_33 : decode cX7_how 33 = .ok (.ireturn, 1) := by decide +kernel
theorem dX7_cost_0 : decode cX7_cost 0 = .ok (.aload_n 0, 1) := by decide +kernel
theorem dX7_cost_1 : decode cX7_cost 1 = .ok (.iconst 0, 1) := by decide +kernel
theorem dX7_cost_2 : decode cX7_cost 2 = .ok (.putfield 47, 3) := by decide +kernel
theorem dX7_cost_5 : decode cX7_cost 5 = .ok (.iconst 0, 1) := by decide +kernel
theorem dX7_cost_6 : decode cX7_cost 6 = .ok (.istore_n 1, 1) := by decide +kernel
theorem dX7_cost_7 : decode cX7_cost 7 = .ok (.iconst 0, 1) := by decide +kernel
theorem dX7_cost_8 : decode cX7_cost 8 = .ok (.istore_n 2, 1) := by decide +kernel
theorem dX7_cost_9 : decode cX7_cost 9 = .ok (.iload_n 2, 1) := by decide +kernel
theorem dX7_cost_10 : decode cX7_cost 10 = .ok (.aload_n 0, 1) := by decide +kernel
theorem dX7_cost_11 : decode cX7_cost 11 = .ok (.getfield 124, 3) := by decide +kernel
theorem dX7_cost_14 : decode cX7_cost 14 = .ok (.if_icmp .ge 29, 3) := by decide +kernel
theorem dX7_cost_17 : decode cX7_cost 17 = .ok (.iload_n 1, 1) := by decide +kernel
theorem dX7_cost_18 : decode cX7_cost 18 = .ok (.aload_n 0, 1) := by decide +kernel
theorem dX7_cost_19 : decode cX7_cost 19 = .ok (.getfield 35, 3) := by decide +kernel
theorem dX7_cost_22 : decode cX7_cost 22 = .ok (.iload_n 2, 1) := by decide +kernel
theorem dX7_cost_23 : decode cX7_cost 23 = .ok (.iaload, 1) := by decide +kernel
theorem dX7_cost_24 : decode cX7_cost 24 = .ok (.ifCond .ge 10, 3) := by decide +kernel
theorem dX7_cost_27 : decode cX7_cost 27 = .ok (.aload_n 0, 1) := by decide +kernel
theorem dX7_cost_28 : decode cX7_cost 28 = .ok (.getfield 7, 3) := by decide +kernel
theorem dX7_cost_31 : decode cX7_cost 31 = .ok (.goto 4, 3) := by decide +kernel
theorem dX7_cost_34 : decode cX7_cost 34 = .ok (.iconst 1, 1) := by decide +kernel
theorem dX7_cost_35 : decode cX7_cost 35 = .ok (.iadd, 1) := by decide +kernel
theorem dX7_cost_36 : decode cX7_cost 36 = .ok (.istore_n 1, 1) := by decide +kernel
theorem dX7_cost_37 : decode cX7_cost 37 = .ok (.iinc 2 1, 3) := by decide +kernel
theorem dX7_cost_40 : decode cX7_cost 40 = .ok (.goto (-31), 3) := by decide +kernel
theorem dX7_cost_43 : decode cX7_cost 43 = .ok (.iload_n 1, 1) := by decide +kernel
theorem dX7_cost_44 : decode cX7_cost 44 = .ok (.ireturn, 1) := by decide +kernel
theorem dX7_unitsOf_0 : decode cX7_unitsOf 0 = .ok (.iconst 0, 1) := by decide +kernel
theorem dX7_unitsOf_1 : decode cX7_unitsOf 1 = .ok (.istore_n 1, 1) := by decide +kernel
theorem dX7_unitsOf_2 : decode cX7_unitsOf 2 = .ok (.iconst (-1), 1) := by decide +kernel
theorem dX7_unitsOf_3 : decode cX7_unitsOf 3 = .ok (.iload_n 0, 1) := by decide +kernel
theorem dX7_unitsOf_4 : decode cX7_unitsOf 4 = .ok (.isub, 1) := by decide +kernel
theorem dX7_unitsOf_5 : decode cX7_unitsOf 5 = .ok (.istore_n 2, 1) := by decide +kernel
theorem dX7_unitsOf_6 : decode cX7_unitsOf 6 = .ok (.iconst 0, 1) := by decide +kernel
theorem dX7_unitsOf_7 : decode cX7_unitsOf 7 = .ok (.istore_n 3, 1) := by decide +kernel
theorem dX7_unitsOf_8 : decode cX7_unitsOf 8 = .ok (.iload_n 3, 1) := by decide +kernel
theorem dX7_unitsOf_9 : decode cX7_unitsOf 9 = .ok (.iconst 5, 1) := by decide +kernel
theorem dX7_unitsOf_10 : decode cX7_unitsOf 10 = .ok (.if_icmp .ge 35, 3) := by decide +kernel
theorem dX7_unitsOf_13 : decode cX7_unitsOf 13 = .ok (.iload_n 0, 1) := by decide +kernel
theorem dX7_unitsOf_14 : decode cX7_unitsOf 14 = .ok (.ifCond .lt 31, 3) := by decide +kernel
theorem dX7_unitsOf_17 : decode cX7_unitsOf 17 = .ok (.iload_n 1, 1) := by decide +kernel
theorem dX7_unitsOf_18 : decode cX7_unitsOf 18 = .ok (.getstatic 140, 3) := by decide +kernel
theorem dX7_unitsOf_21 : decode cX7_unitsOf 21 = .ok (.iload_n 0, 1) := by decide +kernel
theorem dX7_unitsOf_22 : decode cX7_unitsOf 22 = .ok (.iload_n 3, 1) := by decide +kernel
theorem dX7_unitsOf_23 : decode cX7_unitsOf 23 = .ok (.invokestatic 81, 3) := by decide +kernel
theorem dX7_unitsOf_26 : decode cX7_unitsOf 26 = .ok (.iaload, 1) := by decide +kernel
theorem dX7_unitsOf_27 : decode cX7_unitsOf 27 = .ok (.iload_n 3, 1) := by decide +kernel
theorem dX7_unitsOf_28 : decode cX7_unitsOf 28 = .ok (.ifCond .le 7, 3) := by decide +kernel
theorem dX7_unitsOf_31 : decode cX7_unitsOf 31 = .ok (.iconst 3, 1) := by decide +kernel
theorem dX7_unitsOf_32 : decode cX7_unitsOf 32 = .ok (.goto 4, 3) := by decide +kernel
theorem dX7_unitsOf_35 : decode cX7_unitsOf 35 = .ok (.iconst 0, 1) := by decide +kernel
theorem dX7_unitsOf_36 : decode cX7_unitsOf 36 = .ok (.iadd, 1) := by decide +kernel
theorem dX7_unitsOf_37 : decode cX7_unitsOf 37 = .ok (.iadd, 1) := by decide +kernel
theorem dX7_unitsOf_38 : decode cX7_unitsOf 38 = .ok (.istore_n 1, 1) := by decide +kernel
theorem dX7_unitsOf_39 : decode cX7_unitsOf 39 = .ok (.iinc 3 1, 3) := by decide +kernel
theorem dX7_unitsOf_42 : decode cX7_unitsOf 42 = .ok (.goto (-34), 3) := by decide +kernel
theorem dX7_unitsOf_45 : decode cX7_unitsOf 45 = .ok (.iconst 0, 1) := by decide +kernel
theorem dX7_unitsOf_46 : decode cX7_unitsOf 46 = .ok (.istore_n 3, 1) := by decide +kernel
theorem dX7_unitsOf_47 : decode cX7_unitsOf 47 = .ok (.iload_n 3, 1) := by decide +kernel
theorem dX7_unitsOf_48 : decode cX7_unitsOf 48 = .ok (.iconst 4, 1) := by decide +kernel
theorem dX7_unitsOf_49 : decode cX7_unitsOf 49 = .ok (.if_icmp .ge 39, 3) := by decide +kernel
theorem dX7_unitsOf_52 : decode cX7_unitsOf 52 = .ok (.iload_n 0, 1) := by decide +kernel
theorem dX7_unitsOf_53 : decode cX7_unitsOf 53 = .ok (.ifCond .ge 35, 3) := by decide +kernel
theorem dX7_unitsOf_56 : decode cX7_unitsOf 56 = .ok (.iload_n 1, 1) := by decide +kernel
theorem dX7_unitsOf_57 : decode cX7_unitsOf 57 = .ok (.getstatic 143, 3) := by decide +kernel
theorem dX7_unitsOf_60 : decode cX7_unitsOf 60 = .ok (.iload_n 2, 1) := by decide +kernel
theorem dX7_unitsOf_61 : decode cX7_unitsOf 61 = .ok (.bipush 10, 2) := by decide +kernel
theorem dX7_unitsOf_63 : decode cX7_unitsOf 63 = .ok (.irem, 1) := by decide +kernel
theorem dX7_unitsOf_64 : decode cX7_unitsOf 64 = .ok (.iaload, 1) := by decide +kernel
theorem dX7_unitsOf_65 : decode cX7_unitsOf 65 = .ok (.iload_n 3, 1) := by decide +kernel
theorem dX7_unitsOf_66 : decode cX7_unitsOf 66 = .ok (.ifCond .le 7, 3) := by decide +kernel
theorem dX7_unitsOf_69 : decode cX7_unitsOf 69 = .ok (.iconst 3, 1) := by decide +kernel
theorem dX7_unitsOf_70 : decode cX7_unitsOf 70 = .ok (.goto 4, 3) := by decide +kernel
theorem dX7_unitsOf_73 : decode cX7_unitsOf 73 = .ok (.iconst 0, 1) := by decide +kernel
theorem dX7_unitsOf_74 : decode cX7_unitsOf 74 = .ok (.iadd, 1) := by decide +kernel
theorem dX7_unitsOf_75 : decode cX7_unitsOf 75 = .ok (.iadd, 1) := by decide +kernel
theorem dX7_unitsOf_76 : decode cX7_unitsOf 76 = .ok (.istore_n 1, 1) := by decide +kernel
theorem dX7_unitsOf_77 : decode cX7_unitsOf 77 = .ok (.iload_n 2, 1) := by decide +kernel
theorem dX7_unitsOf_78 : decode cX7_unitsOf 78 = .ok (.bipush 10, 2) := by decide +kernel
theorem dX7_unitsOf_80 : decode cX7_unitsOf 80 = .ok (.idiv, 1) := by decide +kernel
theorem dX7_unitsOf_81 : decode cX7_unitsOf 81 = .ok (.istore_n 2, 1) := by decide +kernel
theorem dX7_unitsOf_82 : decode cX7_unitsOf 82 = .ok (.iinc 3 1, 3) := by decide +kernel
theorem dX7_unitsOf_85 : decode cX7_unitsOf 85 = .ok (.goto (-38), 3) := by decide +kernel
theorem dX7_unitsOf_88 : decode cX7_unitsOf 88 = .ok (.iload_n 1, 1) := by decide +kernel
theorem dX7_unitsOf_89 : decode cX7_unitsOf 89 = .ok (.ireturn, 1) := by decide +kernel
theorem dX7_time_0 : decode cX7_time 0 = .ok (.aload_n 0, 1) := by decide +kernel
theorem dX7_time_1 : decode cX7_time 1 = .ok (.iconst 0, 1) := by decide +kernel
theorem dX7_time_2 : decode cX7_time 2 = .ok (.putfield 47, 3) := by decide +kernel
theorem dX7_time_5 : decode cX7_time 5 = .ok (.iconst 0, 1) := by decide +kernel
theorem dX7_time_6 : decode cX7_time 6 = .ok (.istore_n 1, 1) := by decide +kernel
theorem dX7_time_7 : decode cX7_time 7 = .ok (.iconst 0, 1) := by decide +kernel
theorem dX7_time_8 : decode cX7_time 8 = .ok (.istore_n 2, 1) := by decide +kernel
theorem dX7_time_9 : decode cX7_time 9 = .ok (.iload_n 2, 1) := by decide +kernel
theorem dX7_time_10 : decode cX7_time 10 = .ok (.aload_n 0, 1) := by decide +kernel
theorem dX7_time_11 : decode cX7_time 11 = .ok (.getfield 124, 3) := by decide +kernel
theorem dX7_time_14 : decode cX7_time 14 = .ok (.if_icmp .ge 32, 3) := by decide +kernel
theorem dX7_time_17 : decode cX7_time 17 = .ok (.iload_n 1, 1) := by decide +kernel
theorem dX7_time_18 : decode cX7_time 18 = .ok (.aload_n 0, 1) := by decide +kernel
theorem dX7_time_19 : decode cX7_time 19 = .ok (.getfield 35, 3) := by decide +kernel
theorem dX7_time_22 : decode cX7_time 22 = .ok (.iload_n 2, 1) := by decide +kernel
theorem dX7_time_23 : decode cX7_time 23 = .ok (.iaload, 1) := by decide +kernel
theorem dX7_time_24 : decode cX7_time 24 = .ok (.invokestatic 146, 3) := by decide +kernel
theorem dX7_time_27 : decode cX7_time 27 = .ok (.iload_n 2, 1) := by decide +kernel
theorem dX7_time_28 : decode cX7_time 28 = .ok (.ifCond .le 8, 3) := by decide +kernel
theorem dX7_time_31 : decode cX7_time 31 = .ok (.bipush 7, 2) := by decide +kernel
theorem dX7_time_33 : decode cX7_time 33 = .ok (.goto 4, 3) := by decide +kernel
theorem dX7_time_36 : decode cX7_time 36 = .ok (.iconst 0, 1) := by decide +kernel
theorem dX7_time_37 : decode cX7_time 37 = .ok (.iadd, 1) := by decide +kernel
theorem dX7_time_38 : decode cX7_time 38 = .ok (.iadd, 1) := by decide +kernel
theorem dX7_time_39 : decode cX7_time 39 = .ok (.istore_n 1, 1) := by decide +kernel
theorem dX7_time_40 : decode cX7_time 40 = .ok (.iinc 2 1, 3) := by decide +kernel
theorem dX7_time_43 : decode cX7_time 43 = .ok (.goto (-34), 3) := by decide +kernel
theorem dX7_time_46 : decode cX7_time 46 = .ok (.iload_n 1, 1) := by decide +kernel
theorem dX7_time_47 : decode cX7_time 47 = .ok (.ireturn, 1) := by decide +kernel
theorem dX7_share_0 : decode cX7_share 0 = .ok (.aload_n 0, 1) := by decide +kernel
theorem dX7_share_1 : decode cX7_share 1 = .ok (.iload_n 1, 1) := by decide +kernel
theorem dX7_share_2 : decode cX7_share 2 = .ok (.invokestatic 55, 3) := by decide +kernel
theorem dX7_share_5 : decode cX7_share 5 = .ok (.ifCond .eq 7, 3) := by decide +kernel
theorem dX7_share_8 : decode cX7_share 8 = .ok (.iconst 0, 1) := by decide +kernel
theorem dX7_share_9 : decode cX7_share 9 = .ok (.goto 4, 3) := by decide +kernel
theorem dX7_share_12 : decode cX7_share 12 = .ok (.iconst 1, 1) := by decide +kernel
theorem dX7_share_13 : decode cX7_share 13 = .ok (.putfield 47, 3) := by decide +kernel
theorem dX7_share_16 : decode cX7_share 16 = .ok (.aload_n 0, 1) := by decide +kernel
theorem dX7_share_17 : decode cX7_share 17 = .ok (.getfield 47, 3) := by decide +kernel
theorem dX7_share_20 : decode cX7_share 20 = .ok (.ifCond .eq 5, 3) := by decide +kernel
theorem dX7_share_23 : decode cX7_share 23 = .ok (.dconst 0, 1) := by decide +kernel
theorem dX7_share_24 : decode cX7_share 24 = .ok (.dreturn, 1) := by decide +kernel
theorem dX7_share_25 : decode cX7_share 25 = .ok (.iconst 0, 1) := by decide +kernel
theorem dX7_share_26 : decode cX7_share 26 = .ok (.istore_n 2, 1) := by decide +kernel
theorem dX7_share_27 : decode cX7_share 27 = .ok (.iconst 0, 1) := by decide +kernel
theorem dX7_share_28 : decode cX7_share 28 = .ok (.istore_n 3, 1) := by decide +kernel
theorem dX7_share_29 : decode cX7_share 29 = .ok (.iconst 0, 1) := by decide +kernel
theorem dX7_share_30 : decode cX7_share 30 = .ok (.istore 4, 2) := by decide +kernel
theorem dX7_share_32 : decode cX7_share 32 = .ok (.iload 4, 2) := by decide +kernel
theorem dX7_share_34 : decode cX7_share 34 = .ok (.aload_n 0, 1) := by decide +kernel
theorem dX7_share_35 : decode cX7_share 35 = .ok (.getfield 66, 3) := by decide +kernel
theorem dX7_share_38 : decode cX7_share 38 = .ok (.if_icmp .ge 43, 3) := by decide +kernel
theorem dX7_share_41 : decode cX7_share 41 = .ok (.iload_n 2, 1) := by decide +kernel
theorem dX7_share_42 : decode cX7_share 42 = .ok (.aload_n 0, 1) := by decide +kernel
theorem dX7_share_43 : decode cX7_share 43 = .ok (.iload_n 1, 1) := by decide +kernel
theorem dX7_share_44 : decode cX7_share 44 = .ok (.aload_n 0, 1) := by decide +kernel
theorem dX7_share_45 : decode cX7_share 45 = .ok (.getfield 20, 3) := by decide +kernel
theorem dX7_share_48 : decode cX7_share 48 = .ok (.bipush 40, 2) := by decide +kernel
theorem dX7_share_50 : decode cX7_share 50 = .ok (.iload 4, 2) := by decide +kernel
theorem dX7_share_52 : decode cX7_share 52 = .ok (.imul, 1) := by decide +kernel
theorem dX7_share_53 : decode cX7_share 53 = .ok (.aload_n 0, 1) := by decide +kernel
theorem dX7_share_54 : decode cX7_share 54 = .ok (.getfield 17, 3) := by decide +kernel
theorem dX7_share_57 : decode cX7_share 57 = .ok (.iload 4, 2) := by decide +kernel
theorem dX7_share_59 : decode cX7_share 59 = .ok (.iaload, 1) := by decide +kernel
theorem dX7_share_60 : decode cX7_share 60 = .ok (.invokevirtual 120, 3) := by decide +kernel
theorem dX7_share_63 : decode cX7_share 63 = .ok (.iadd, 1) := by decide +kernel
theorem dX7_share_64 : decode cX7_share 64 = .ok (.istore_n 2, 1) := by decide +kernel
theorem dX7_share_65 : decode cX7_share 65 = .ok (.iload_n 3, 1) := by decide +kernel
theorem dX7_share_66 : decode cX7_share 66 = .ok (.aload_n 0, 1) := by decide +kernel
theorem dX7_share_67 : decode cX7_share 67 = .ok (.getfield 17, 3) := by decide +kernel
theorem dX7_share_70 : decode cX7_share 70 = .ok (.iload 4, 2) := by decide +kernel
theorem dX7_share_72 : decode cX7_share 72 = .ok (.iaload, 1) := by decide +kernel
theorem dX7_share_73 : decode cX7_share 73 = .ok (.iadd, 1) := by decide +kernel
theorem dX7_share_74 : decode cX7_share 74 = .ok (.istore_n 3, 1) := by decide +kernel
theorem dX7_share_75 : decode cX7_share 75 = .ok (.iinc 4 1, 3) := by decide +kernel
theorem dX7_share_78 : decode cX7_share 78 = .ok (.goto (-46), 3) := by decide +kernel
theorem dX7_share_81 : decode cX7_share 81 = .ok (.iload_n 3, 1) := by decide +kernel
theorem dX7_share_82 : decode cX7_share 82 = .ok (.ifCond .ne 7, 3) := by decide +kernel
theorem dX7_share_85 : decode cX7_share 85 = .ok (.dconst 1, 1) := by decide +kernel
theorem dX7_share_86 : decode cX7_share 86 = .ok (.goto 13, 3) := by decide +kernel
theorem dX7_share_89 : decode cX7_share 89 = .ok (.iload_n 2, 1) := by decide +kernel
theorem dX7_share_90 : decode cX7_share 90 = .ok (.i2d, 1) := by decide +kernel
theorem dX7_share_91 : decode cX7_share 91 = .ok (.aload_n 0, 1) := by decide +kernel
theorem dX7_share_92 : decode cX7_share 92 = .ok (.getfield 7, 3) := by decide +kernel
theorem dX7_share_95 : decode cX7_share 95 = .ok (.iload_n 3, 1) := by decide +kernel
theorem dX7_share_96 : decode cX7_share 96 = .ok (.imul, 1) := by decide +kernel
theorem dX7_share_97 : decode cX7_share 97 = .ok (.i2d, 1) := by decide +kernel
theorem dX7_share_98 : decode cX7_share 98 = .ok (.ddiv, 1) := by decide +kernel
theorem dX7_share_99 : decode cX7_share 99 = .ok (.dreturn, 1) := by decide +kernel
theorem dX7_isSame_0 : decode cX7_isSame 0 = .ok (.iconst 1, 1) := by decide +kernel
theorem dX7_isSame_1 : decode cX7_isSame 1 = .ok (.istore 4, 2) := by decide +kernel
theorem dX7_isSame_3 : decode cX7_isSame 3 = .ok (.iconst 0, 1) := by decide +kernel
theorem dX7_isSame_4 : decode cX7_isSame 4 = .ok (.istore 5, 2) := by decide +kernel
theorem dX7_isSame_6 : decode cX7_isSame 6 = .ok (.iload 5, 2) := by decide +kernel
theorem dX7_isSame_8 : decode cX7_isSame 8 = .ok (.iload_n 3, 1) := by decide +kernel
theorem dX7_isSame_9 : decode cX7_isSame 9 = .ok (.if_icmp .ge 42, 3) := by decide +kernel
theorem dX7_isSame_12 : decode cX7_isSame 12 = .ok (.iload 4, 2) := by decide +kernel
theorem dX7_isSame_14 : decode cX7_isSame 14 = .ok (.ifCond .eq 37, 3) := by decide +kernel
theorem dX7_isSame_17 : decode cX7_isSame 17 = .ok (.aload_n 0, 1) := by decide +kernel
theorem dX7_isSame_18 : decode cX7_isSame 18 = .ok (.getfield 20, 3) := by decide +kernel
theorem dX7_isSame_21 : decode cX7_isSame 21 = .ok (.iload_n 1, 1) := by decide +kernel
theorem dX7_isSame_22 : decode cX7_isSame 22 = .ok (.iload 5, 2) := by decide +kernel
theorem dX7_isSame_24 : decode cX7_isSame 24 = .ok (.iadd, 1) := by decide +kernel
theorem dX7_isSame_25 : decode cX7_isSame 25 = .ok (.iaload, 1) := by decide +kernel
theorem dX7_isSame_26 : decode cX7_isSame 26 = .ok (.aload_n 0, 1) := by decide +kernel
theorem dX7_isSame_27 : decode cX7_isSame 27 = .ok (.getfield 20, 3) := by decide +kernel
theorem dX7_isSame_30 : decode cX7_isSame 30 = .ok (.iload_n 2, 1) := by decide +kernel
theorem dX7_isSame_31 : decode cX7_isSame 31 = .ok (.iload 5, 2) := by decide +kernel
theorem dX7_isSame_33 : decode cX7_isSame 33 = .ok (.iadd, 1) := by decide +kernel
theorem dX7_isSame_34 : decode cX7_isSame 34 = .ok (.iaload, 1) := by decide +kernel
theorem dX7_isSame_35 : decode cX7_isSame 35 = .ok (.if_icmp .ne 7, 3) := by decide +kernel
theorem dX7_isSame_38 : decode cX7_isSame 38 = .ok (.iconst 1, 1) := by decide +kernel
theorem dX7_isSame_39 : decode cX7_isSame 39 = .ok (.goto 4, 3) := by decide +kernel
theorem dX7_isSame_42 : decode cX7_isSame 42 = .ok (.iconst 0, 1) := by decide +kernel
theorem dX7_isSame_43 : decode cX7_isSame 43 = .ok (.istore 4, 2) := by decide +kernel
theorem dX7_isSame_45 : decode cX7_isSame 45 = .ok (.iinc 5 1, 3) := by decide +kernel
theorem dX7_isSame_48 : decode cX7_isSame 48 = .ok (.goto (-42), 3) := by decide +kernel
theorem dX7_isSame_51 : decode cX7_isSame 51 = .ok (.iload 4, 2) := by decide +kernel
theorem dX7_isSame_53 : decode cX7_isSame 53 = .ok (.ireturn, 1) := by decide +kernel
theorem dX7_timesOf_0 : decode cX7_timesOf 0 = .ok (.iconst 0, 1) := by decide +kernel
theorem dX7_timesOf_1 : decode cX7_timesOf 1 = .ok (.istore_n 3, 1) := by decide +kernel
theorem dX7_timesOf_2 : decode cX7_timesOf 2 = .ok (.iconst 0, 1) := by decide +kernel
theorem dX7_timesOf_3 : decode cX7_timesOf 3 = .ok (.istore 4, 2) := by decide +kernel
theorem dX7_timesOf_5 : decode cX7_timesOf 5 = .ok (.iload 4, 2) := by decide +kernel
theorem dX7_timesOf_7 : decode cX7_timesOf 7 = .ok (.aload_n 0, 1) := by decide +kernel
theorem dX7_timesOf_8 : decode cX7_timesOf 8 = .ok (.getfield 66, 3) := by decide +kernel
theorem dX7_timesOf_11 : decode cX7_timesOf 11 = .ok (.if_icmp .ge 73, 3) := by decide +kernel
theorem dX7_timesOf_14 : decode cX7_timesOf 14 = .ok (.iconst 0, 1) := by decide +kernel
theorem dX7_timesOf_15 : decode cX7_timesOf 15 = .ok (.istore 5, 2) := by decide +kernel
theorem dX7_timesOf_17 : decode cX7_timesOf 17 = .ok (.iload 5, 2) := by decide +kernel
theorem dX7_timesOf_19 : decode cX7_timesOf 19 = .ok (.iload_n 2, 1) := by decide +kernel
theorem dX7_timesOf_20 : decode cX7_timesOf 20 = .ok (.iadd, 1) := by decide +kernel
theorem dX7_timesOf_21 : decode cX7_timesOf 21 = .ok (.aload_n 0, 1) := by decide +kernel
theorem dX7_timesOf_22 : decode cX7_timesOf 22 = .ok (.getfield 17, 3) := by decide +kernel
theorem dX7_timesOf_25 : decode cX7_timesOf 25 = .ok (.iload 4, 2) := by decide +kernel
theorem dX7_timesOf_27 : decode cX7_timesOf 27 = .ok (.iaload, 1) := by decide +kernel
theorem dX7_timesOf_28 : decode cX7_timesOf 28 = .ok (.if_icmp .gt 50, 3) := by decide +kernel
theorem dX7_timesOf_31 : decode cX7_timesOf 31 = .ok (.aload_n 0, 1) := by decide +kernel
theorem dX7_timesOf_32 : decode cX7_timesOf 32 = .ok (.iload_n 1, 1) := by decide +kernel
theorem dX7_timesOf_33 : decode cX7_timesOf 33 = .ok (.bipush 40, 2) := by decide +kernel
theorem dX7_timesOf_35 : decode cX7_timesOf 35 = .ok (.iload 4, 2) := by decide +kernel
theorem dX7_timesOf_37 : decode cX7_timesOf 37 = .ok (.imul, 1) := by decide +kernel
theorem dX7_timesOf_38 : decode cX7_timesOf 38 = .ok (.iload 5, 2) := by decide +kernel
theorem dX7_timesOf_40 : decode cX7_timesOf 40 = .ok (.iadd, 1) := by decide +kernel
theorem dX7_timesOf_41 : decode cX7_timesOf 41 = .ok (.iload_n 2, 1) := by decide +kernel
theorem dX7_timesOf_42 : decode cX7_timesOf 42 = .ok (.invokevirtual 149, 3) := by decide +kernel
theorem dX7_timesOf_45 : decode cX7_timesOf 45 = .ok (.istore 6, 2) := by decide +kernel
theorem dX7_timesOf_47 : decode cX7_timesOf 47 = .ok (.iload_n 3, 1) := by decide +kernel
theorem dX7_timesOf_48 : decode cX7_timesOf 48 = .ok (.iload 6, 2) := by decide +kernel
theorem dX7_timesOf_50 : decode cX7_timesOf 50 = .ok (.ifCond .eq 7, 3) := by decide +kernel
theorem dX7_timesOf_53 : decode cX7_timesOf 53 = .ok (.iconst 1, 1) := by decide +kernel
theorem dX7_timesOf_54 : decode cX7_timesOf 54 = .ok (.goto 4, 3) := by decide +kernel
theorem dX7_timesOf_57 : decode cX7_timesOf 57 = .ok (.iconst 0, 1) := by decide +kernel
theorem dX7_timesOf_58 : decode cX7_timesOf 58 = .ok (.iadd, 1) := by decide +kernel
theorem dX7_timesOf_59 : decode cX7_timesOf 59 = .ok (.istore_n 3, 1) := by decide +kernel
theorem dX7_timesOf_60 : decode cX7_timesOf 60 = .ok (.iload 5, 2) := by decide +kernel
theorem dX7_timesOf_62 : decode cX7_timesOf 62 = .ok (.iload 6, 2) := by decide +kernel
theorem dX7_timesOf_64 : decode cX7_timesOf 64 = .ok (.ifCond .eq 7, 3) := by decide +kernel
theorem dX7_timesOf_67 : decode cX7_timesOf 67 = .ok (.iload_n 2, 1) := by decide +kernel
theorem dX7_timesOf_68 : decode cX7_timesOf 68 = .ok (.goto 4, 3) := by decide +kernel
theorem dX7_timesOf_71 : decode cX7_timesOf 71 = .ok (.iconst 1, 1) := by decide +kernel
theorem dX7_timesOf_72 : decode cX7_timesOf 72 = .ok (.iadd, 1) := by decide +kernel
theorem dX7_timesOf_73 : decode cX7_timesOf 73 = .ok (.istore 5, 2) := by decide +kernel
theorem dX7_timesOf_75 : decode cX7_timesOf 75 = .ok (.goto (-58), 3) := by decide +kernel
theorem dX7_timesOf_78 : decode cX7_timesOf 78 = .ok (.iinc 4 1, 3) := by decide +kernel
theorem dX7_timesOf_81 : decode cX7_timesOf 81 = .ok (.goto (-76), 3) := by decide +kernel
theorem dX7_timesOf_84 : decode cX7_timesOf 84 = .ok (.iload_n 3, 1) := by decide +kernel
theorem dX7_timesOf_85 : decode cX7_timesOf 85 = .ok (.ireturn, 1) := by decide +kernel
theorem dX7_isInBook_0 : decode cX7_isInBook 0 = .ok (.iconst 0, 1) := by decide +kernel
theorem dX7_isInBook_1 : decode cX7_isInBook 1 = .ok (.istore 4, 2) := by decide +kernel
theorem dX7_isInBook_3 : decode cX7_isInBook 3 = .ok (.bipush 40, 2) := by decide +kernel
theorem dX7_isInBook_5 : decode cX7_isInBook 5 = .ok (.iload_n 1, 1) := by decide +kernel
theorem dX7_isInBook_6 : decode cX7_isInBook 6 = .ok (.imul, 1) := by decide +kernel
theorem dX7_isInBook_7 : decode cX7_isInBook 7 = .ok (.istore 5, 2) := by decide +kernel
theorem dX7_isInBook_9 : decode cX7_isInBook 9 = .ok (.iload 5, 2) := by decide +kernel
theorem dX7_isInBook_11 : decode cX7_isInBook 11 = .ok (.bipush 40, 2) := by decide +kernel
theorem dX7_isInBook_13 : decode cX7_isInBook 13 = .ok (.iload_n 1, 1) := by decide +kernel
theorem dX7_isInBook_14 : decode cX7_isInBook 14 = .ok (.imul, 1) := by decide +kernel
theorem dX7_isInBook_15 : decode cX7_isInBook 15 = .ok (.aload_n 0, 1) := by decide +kernel
theorem dX7_isInBook_16 : decode cX7_isInBook 16 = .ok (.getfield 23, 3) := by decide +kernel
theorem dX7_isInBook_19 : decode cX7_isInBook 19 = .ok (.iload_n 1, 1) := by decide +kernel
theorem dX7_isInBook_20 : decode cX7_isInBook 20 = .ok (.iaload, 1) := by decide +kernel
theorem dX7_isInBook_21 : decode cX7_isInBook 21 = .ok (.iadd, 1) := by decide +kernel
theorem dX7_isInBook_22 : decode cX7_isInBook 22 = .ok (.if_icmp .ge 49, 3) := by decide +kernel
theorem dX7_isInBook_25 : decode cX7_isInBook 25 = .ok (.iload 4, 2) := by decide +kernel
theorem dX7_isInBook_27 : decode cX7_isInBook 27 = .ok (.ifCond .ne 31, 3) := by decide +kernel
theorem dX7_isInBook_30 : decode cX7_isInBook 30 = .ok (.aload_n 0, 1) := by decide +kernel
theorem dX7_isInBook_31 : decode cX7_isInBook 31 = .ok (.getfield 29, 3) := by decide +kernel
theorem dX7_isInBook_34 : decode cX7_isInBook 34 = .ok (.iload 5, 2) := by decide +kernel
theorem dX7_isInBook_36 : decode cX7_isInBook 36 = .ok (.iaload, 1) := by decide +kernel
theorem dX7_isInBook_37 : decode cX7_isInBook 37 = .ok (.iload_n 3, 1) := by decide +kernel
theorem dX7_isInBook_38 : decode cX7_isInBook 38 = .ok (.if_icmp .ne 24, 3) := by decide +kernel
theorem dX7_isInBook_41 : decode cX7_isInBook 41 = .ok (.aload_n 0, 1) := by decide +kernel
theorem dX7_isInBook_42 : decode cX7_isInBook 42 = .ok (.iload 5, 2) := by decide +kernel
theorem dX7_isInBook_44 : decode cX7_isInBook 44 = .ok (.aload_n 0, 1) := by decide +kernel
theorem dX7_isInBook_45 : decode cX7_isInBook 45 = .ok (.getfield 20, 3) := by decide +kernel
theorem dX7_isInBook_48 : decode cX7_isInBook 48 = .ok (.iload_n 2, 1) := by decide +kernel
theorem dX7_isInBook_49 : decode cX7_isInBook 49 = .ok (.iload_n 2, 1) := by decide +kernel
theorem dX7_isInBook_50 : decode cX7_isInBook 50 = .ok (.iload_n 3, 1) := by decide +kernel
theorem dX7_isInBook_51 : decode cX7_isInBook 51 = .ok (.iadd, 1) := by decide +kernel
theorem dX7_isInBook_52 : decode cX7_isInBook 52 = .ok (.invokevirtual 111, 3) := by decide +kernel
theorem dX7_isInBook_55 : decode cX7_isInBook 55 = .ok (.ifCond .eq 7, 3) := by decide +kernel
theorem dX7_isInBook_58 : decode cX7_isInBook 58 = .ok (.iconst 1, 1) := by decide +kernel
theorem dX7_isInBook_59 : decode cX7_isInBook 59 = .ok (.goto 4, 3) := by decide +kernel
theorem dX7_isInBook_62 : decode cX7_isInBook 62 = .ok (.iconst 0, 1) := by decide +kernel
theorem dX7_isInBook_63 : decode cX7_isInBook 63 = .ok (.istore 4, 2) := by decide +kernel
theorem dX7_isInBook_65 : decode cX7_isInBook 65 = .ok (.iinc 5 1, 3) := by decide +kernel
theorem dX7_isInBook_68 : decode cX7_isInBook 68 = .ok (.goto (-59), 3) := by decide +kernel
theorem dX7_isInBook_71 : decode cX7_isInBook 71 = .ok (.iload 4, 2) := by decide +kernel
theorem dX7_isInBook_73 : decode cX7_isInBook 73 = .ok (.ireturn, 1) := by decide +kernel
theorem dX7_proposal_0 : decode cX7_proposal 0 = .ok (.iconst 0, 1) := by decide +kernel
theorem dX7_proposal_1 : decode cX7_proposal 1 = .ok (.istore_n 2, 1) := by decide +kernel
theorem dX7_proposal_2 : decode cX7_proposal 2 = .ok (.iconst 2, 1) := by decide +kernel
theorem dX7_proposal_3 : decode cX7_proposal 3 = .ok (.istore_n 3, 1) := by decide +kernel
theorem dX7_proposal_4 : decode cX7_proposal 4 = .ok (.iload_n 3, 1) := by decide +kernel
theorem dX7_proposal_5 : decode cX7_proposal 5 = .ok (.bipush 6, 2) := by decide +kernel
theorem dX7_proposal_7 : decode cX7_proposal 7 = .ok (.if_icmp .gt 122, 3) := by decide +kernel
theorem dX7_proposal_10 : decode cX7_proposal 10 = .ok (.iconst 0, 1) := by decide +kernel
theorem dX7_proposal_11 : decode cX7_proposal 11 = .ok (.istore 4, 2) := by decide +kernel
theorem dX7_proposal_13 : decode cX7_proposal 13 = .ok (.iload 4, 2) := by decide +kernel
theorem dX7_proposal_15 : decode cX7_proposal 15 = .ok (.aload_n 0, 1) := by decide +kernel
theorem dX7_proposal_16 : decode cX7_proposal 16 = .ok (.getfield 66, 3) := by decide +kernel
theorem dX7_proposal_19 : decode cX7_proposal 19 = .ok (.if_icmp .ge 104, 3) := by decide +kernel
theorem dX7_proposal_22 : decode cX7_proposal 22 = .ok (.iconst 0, 1) := by decide +kernel
theorem dX7_proposal_23 : decode cX7_proposal 23 = .ok (.istore 5, 2) := by decide +kernel
theorem dX7_proposal_25 : decode cX7_proposal 25 = .ok (.iload 5, 2) := by decide +kernel
theorem dX7_proposal_27 : decode cX7_proposal 27 = .ok (.iload_n 3, 1) := by decide +kernel
theorem dX7_proposal_28 : decode cX7_proposal 28 = .ok (.iadd, 1) := by decide +kernel
theorem dX7_proposal_29 : decode cX7_proposal 29 = .ok (.aload_n 0, 1) := by decide +kernel
theorem dX7_proposal_30 : decode cX7_proposal 30 = .ok (.getfield 17, 3) := by decide +kernel
theorem dX7_proposal_33 : decode cX7_proposal 33 = .ok (.iload 4, 2) := by decide +kernel
theorem dX7_proposal_35 : decode cX7_proposal 35 = .ok (.iaload, 1) := by decide +kernel
theorem dX7_proposal_36 : decode cX7_proposal 36 = .ok (.if_icmp .gt 81, 3) := by decide +kernel
theorem dX7_proposal_39 : decode cX7_proposal 39 = .ok (.bipush 40, 2) := by decide +kernel
theorem dX7_proposal_41 : decode cX7_proposal 41 = .ok (.iload 4, 2) := by decide +kernel
theorem dX7_proposal_43 : decode cX7_proposal 43 = .ok (.imul, 1) := by decide +kernel
theorem dX7_proposal_44 : decode cX7_proposal 44 = .ok (.iload 5, 2) := by decide +kernel
theorem dX7_proposal_46 : decode cX7_proposal 46 = .ok (.iadd, 1) := by decide +kernel
theorem dX7_proposal_47 : decode cX7_proposal 47 = .ok (.istore 6, 2) := by decide +kernel
theorem dX7_proposal_49 : decode cX7_proposal 49 = .ok (.aload_n 0, 1) := by decide +kernel
theorem dX7_proposal_50 : decode cX7_proposal 50 = .ok (.iload 6, 2) := by decide +kernel
theorem dX7_proposal_52 : decode cX7_proposal 52 = .ok (.iload_n 3, 1) := by decide +kernel
theorem dX7_proposal_53 : decode cX7_proposal 53 = .ok (.invokevirtual 152, 3) := by decide +kernel
theorem dX7_proposal_56 : decode cX7_proposal 56 = .ok (.istore 7, 2) := by decide +kernel
theorem dX7_proposal_58 : decode cX7_proposal 58 = .ok (.iload 7, 2) := by decide +kernel
theorem dX7_proposal_60 : decode cX7_proposal 60 = .ok (.iload_n 3, 1) := by decide +kernel
theorem dX7_proposal_61 : decode cX7_proposal 61 = .ok (.aload_n 0, 1) := by decide +kernel
theorem dX7_proposal_62 : decode cX7_proposal 62 = .ok (.getfield 7, 3) := by decide +kernel
theorem dX7_proposal_65 : decode cX7_proposal 65 = .ok (.imul, 1) := by decide +kernel
theorem dX7_proposal_66 : decode cX7_proposal 66 = .ok (.iconst 1, 1) := by decide +kernel
theorem dX7_proposal_67 : decode cX7_proposal 67 = .ok (.isub, 1) := by decide +kernel
theorem dX7_proposal_68 : decode cX7_proposal 68 = .ok (.imul, 1) := by decide +kernel
theorem dX7_proposal_69 : decode cX7_proposal 69 = .ok (.istore 8, 2) := by decide +kernel
theorem dX7_proposal_71 : decode cX7_proposal 71 = .ok (.iload 7, 2) := by decide +kernel
theorem dX7_proposal_73 : decode cX7_proposal 73 = .ok (.iconst 2, 1) := by decide +kernel
theorem dX7_proposal_74 : decode cX7_proposal 74 = .ok (.if_icmp .lt 37, 3) := by decide +kernel
theorem dX7_proposal_77 : decode cX7_proposal 77 = .ok (.iload 8, 2) := by decide +kernel
theorem dX7_proposal_79 : decode cX7_proposal 79 = .ok (.iload_n 2, 1) := by decide +kernel
theorem dX7_proposal_80 : decode cX7_proposal 80 = .ok (.if_icmp .le 31, 3) := by decide +kernel
theorem dX7_proposal_83 : decode cX7_proposal 83 = .ok (.aload_n 0, 1) := by decide +kernel
theorem dX7_proposal_84 : decode cX7_proposal 84 = .ok (.iload_n 1, 1) := by decide +kernel
theorem dX7_proposal_85 : decode cX7_proposal 85 = .ok (.iload 6, 2) := by decide +kernel
theorem dX7_proposal_87 : decode cX7_proposal 87 = .ok (.iload_n 3, 1) := by decide +kernel
theorem dX7_proposal_88 : decode cX7_proposal 88 = .ok (.invokevirtual 155, 3) := by decide +kernel
theorem dX7_proposal_91 : decode cX7_proposal 91 = .ok (.ifCond .eq 6, 3) := by decide +kernel
theorem dX7_proposal_94 : decode cX7_proposal 94 = .ok (.goto 17, 3) := by decide +kernel
theorem dX7_proposal_97 : decode cX7_proposal 97 = .ok (.iload 8, 2) := by decide +kernel
theorem dX7_proposal_99 : decode cX7_proposal 99 = .ok (.istore_n 2, 1) := by decide +kernel
theorem dX7_proposal_100 : decode cX7_proposal 100 = .ok (.aload_n 0, 1) := by decide +kernel
theorem dX7_proposal_101 : decode cX7_proposal 101 = .ok (.iload 6, 2) := by decide +kernel
theorem dX7_proposal_103 : decode cX7_proposal 103 = .ok (.putfield 158, 3) := by decide +kernel
theorem dX7_proposal_106 : decode cX7_proposal 106 = .ok (.aload_n 0, 1) := by decide +kernel
theorem dX7_proposal_107 : decode cX7_proposal 107 = .ok (.iload_n 3, 1) := by decide +kernel
theorem dX7_proposal_108 : decode cX7_proposal 108 = .ok (.putfield 161, 3) := by decide +kernel
theorem dX7_proposal_111 : decode cX7_proposal 111 = .ok (.iinc 5 1, 3) := by decide +kernel
theorem dX7_proposal_114 : decode cX7_proposal 114 = .ok (.goto (-89), 3) := by decide +kernel
theorem dX7_proposal_117 : decode cX7_proposal 117 = .ok (.iinc 4 1, 3) := by decide +kernel
theorem dX7_proposal_120 : decode cX7_proposal 120 = .ok (.goto (-107), 3) := by decide +kernel
theorem dX7_proposal_123 : decode cX7_proposal 123 = .ok (.iinc 3 1, 3) := by decide +kernel
theorem dX7_proposal_126 : decode cX7_proposal 126 = .ok (.goto (-122), 3) := by decide +kernel
theorem dX7_proposal_129 : decode cX7_proposal 129 = .ok (.iload_n 2, 1) := by decide +kernel
theorem dX7_proposal_130 : decode cX7_proposal 130 = .ok (.ireturn, 1) := by decide +kernel
theorem dX7_propose_0 : decode cX7_propose 0 = .ok (.aload_n 0, 1) := by decide +kernel
theorem dX7_propose_1 : decode cX7_propose 1 = .ok (.iconst 0, 1) := by decide +kernel
theorem dX7_propose_2 : decode cX7_propose 2 = .ok (.putfield 47, 3) := by decide +kernel
theorem dX7_propose_5 : decode cX7_propose 5 = .ok (.iload_n 1, 1) := by decide +kernel
theorem dX7_propose_6 : decode cX7_propose 6 = .ok (.invokestatic 55, 3) := by decide +kernel
theorem dX7_propose_9 : decode cX7_propose 9 = .ok (.ifCond .ne 9, 3) := by decide +kernel
theorem dX7_propose_12 : decode cX7_propose 12 = .ok (.aload_n 0, 1) := by decide +kernel
theorem dX7_propose_13 : decode cX7_propose 13 = .ok (.iconst 1, 1) := by decide +kernel
theorem dX7_propose_14 : decode cX7_propose 14 = .ok (.invokevirtual 59, 3) := by decide +kernel
theorem dX7_propose_17 : decode cX7_propose 17 = .ok (.ireturn, 1) := by decide +kernel
theorem dX7_propose_18 : decode cX7_propose 18 = .ok (.aload_n 0, 1) := by decide +kernel
theorem dX7_propose_19 : decode cX7_propose 19 = .ok (.iload_n 1, 1) := by decide +kernel
theorem dX7_propose_20 : decode cX7_propose 20 = .ok (.invokevirtual 164, 3) := by decide +kernel
theorem dX7_propose_23 : decode cX7_propose 23 = .ok (.istore_n 2, 1) := by decide +kernel
theorem dX7_propose_24 : decode cX7_propose 24 = .ok (.iload_n 2, 1) := by decide +kernel
theorem dX7_propose_25 : decode cX7_propose 25 = .ok (.ifCond .ne 5, 3) := by decide +kernel
theorem dX7_propose_28 : decode cX7_propose 28 = .ok (.iconst 0, 1) := by decide +kernel
theorem dX7_propose_29 : decode cX7_propose 29 = .ok (.ireturn, 1) := by decide +kernel
theorem dX7_propose_30 : decode cX7_propose 30 = .ok (.aload_n 0, 1) := by decide +kernel
theorem dX7_propose_31 : decode cX7_propose 31 = .ok (.aload_n 0, 1) := by decide +kernel
theorem dX7_propose_32 : decode cX7_propose 32 = .ok (.getfield 161, 3) := by decide +kernel
theorem dX7_propose_35 : decode cX7_propose 35 = .ok (.putfield 63, 3) := by decide +kernel
theorem dX7_propose_38 : decode cX7_propose 38 = .ok (.aload_n 0, 1) := by decide +kernel
theorem dX7_propose_39 : decode cX7_propose 39 = .ok (.getfield 20, 3) := by decide +kernel
theorem dX7_propose_42 : decode cX7_propose 42 = .ok (.aload_n 0, 1) := by decide +kernel
theorem dX7_propose_43 : decode cX7_propose 43 = .ok (.getfield 158, 3) := by decide +kernel
theorem dX7_propose_46 : decode cX7_propose 46 = .ok (.aload_n 0, 1) := by decide +kernel
theorem dX7_propose_47 : decode cX7_propose 47 = .ok (.getfield 13, 3) := by decide +kernel
theorem dX7_propose_50 : decode cX7_propose 50 = .ok (.iconst 0, 1) := by decide +kernel
theorem dX7_propose_51 : decode cX7_propose 51 = .ok (.aload_n 0, 1) := by decide +kernel
theorem dX7_propose_52 : decode cX7_propose 52 = .ok (.getfield 63, 3) := by decide +kernel
theorem dX7_propose_55 : decode cX7_propose 55 = .ok (.invokestatic 69, 3) := by decide +kernel
theorem dX7_propose_58 : decode cX7_propose 58 = .ok (.iload_n 2, 1) := by decide +kernel
theorem dX7_propose_59 : decode cX7_propose 59 = .ok (.ireturn, 1) := by decide +kernel
theorem dX7_learn_0 : decode cX7_learn 0 = .ok (.aload_n 0, 1) := by decide +kernel
theorem dX7_learn_1 : decode cX7_learn 1 = .ok (.iconst 0, 1) := by decide +kernel
theorem dX7_learn_2 : decode cX7_learn 2 = .ok (.putfield 47, 3) := by decide +kernel
theorem dX7_learn_5 : decode cX7_learn 5 = .ok (.iload_n 1, 1) := by decide +kernel
theorem dX7_learn_6 : decode cX7_learn 6 = .ok (.invokestatic 55, 3) := by decide +kernel
theorem dX7_learn_9 : decode cX7_learn 9 = .ok (.ifCond .ne 9, 3) := by decide +kernel
theorem dX7_learn_12 : decode cX7_learn 12 = .ok (.aload_n 0, 1) := by decide +kernel
theorem dX7_learn_13 : decode cX7_learn 13 = .ok (.iconst 1, 1) := by decide +kernel
theorem dX7_learn_14 : decode cX7_learn 14 = .ok (.invokevirtual 59, 3) := by decide +kernel
theorem dX7_learn_17 : decode cX7_learn 17 = .ok (.ireturn, 1) := by decide +kernel
theorem dX7_learn_18 : decode cX7_learn 18 = .ok (.iload_n 2, 1) := by decide +kernel
theorem dX7_learn_19 : decode cX7_learn 19 = .ok (.iconst 1, 1) := by decide +kernel
theorem dX7_learn_20 : decode cX7_learn 20 = .ok (.bipush 40, 2) := by decide +kernel
theorem dX7_learn_22 : decode cX7_learn 22 = .ok (.invokestatic 50, 3) := by decide +kernel
theorem dX7_learn_25 : decode cX7_learn 25 = .ok (.ifCond .ne 9, 3) := by decide +kernel
theorem dX7_learn_28 : decode cX7_learn 28 = .ok (.aload_n 0, 1) := by decide +kernel
theorem dX7_learn_29 : decode cX7_learn 29 = .ok (.iconst 2, 1) := by decide +kernel
theorem dX7_learn_30 : decode cX7_learn 30 = .ok (.invokevirtual 59, 3) := by decide +kernel
theorem dX7_learn_33 : decode cX7_learn 33 = .ok (.ireturn, 1) := by decide +kernel
theorem dX7_learn_34 : decode cX7_learn 34 = .ok (.aload_n 0, 1) := by decide +kernel
theorem dX7_learn_35 : decode cX7_learn 35 = .ok (.iconst 0, 1) := by decide +kernel
theorem dX7_learn_36 : decode cX7_learn 36 = .ok (.putfield 63, 3) := by decide +kernel
theorem dX7_learn_39 : decode cX7_learn 39 = .ok (.iconst 0, 1) := by decide +kernel
theorem dX7_learn_40 : decode cX7_learn 40 = .ok (.istore_n 3, 1) := by decide +kernel
theorem dX7_learn_41 : decode cX7_learn 41 = .ok (.iload_n 3, 1) := by decide +kernel
theorem dX7_learn_42 : decode cX7_learn 42 = .ok (.iload_n 2, 1) := by decide +kernel
theorem dX7_learn_43 : decode cX7_learn 43 = .ok (.if_icmp .ge 82, 3) := by decide +kernel
theorem dX7_learn_46 : decode cX7_learn 46 = .ok (.aload_n 0, 1) := by decide +kernel
theorem dX7_learn_47 : decode cX7_learn 47 = .ok (.iload_n 1, 1) := by decide +kernel
theorem dX7_learn_48 : decode cX7_learn 48 = .ok (.invokevirtual 164, 3) := by decide +kernel
theorem dX7_learn_51 : decode cX7_learn 51 = .ok (.ifCond .le 74, 3) := by decide +kernel
theorem dX7_learn_54 : decode cX7_learn 54 = .ok (.aload_n 0, 1) := by decide +kernel
theorem dX7_learn_55 : decode cX7_learn 55 = .ok (.iload_n 1, 1) := by decide +kernel
theorem dX7_learn_56 : decode cX7_learn 56 = .ok (.aload_n 0, 1) := by decide +kernel
theorem dX7_learn_57 : decode cX7_learn 57 = .ok (.getfield 23, 3) := by decide +kernel
theorem dX7_learn_60 : decode cX7_learn 60 = .ok (.iload_n 1, 1) := by decide +kernel
theorem dX7_learn_61 : decode cX7_learn 61 = .ok (.iaload, 1) := by decide +kernel
theorem dX7_learn_62 : decode cX7_learn 62 = .ok (.ifCond .ne 7, 3) := by decide +kernel
theorem dX7_learn_65 : decode cX7_learn 65 = .ok (.iconst 0, 1) := by decide +kernel
theorem dX7_learn_66 : decode cX7_learn 66 = .ok (.goto 21, 3) := by decide +kernel
theorem dX7_learn_69 : decode cX7_learn 69 = .ok (.aload_n 0, 1) := by decide +kernel
theorem dX7_learn_70 : decode cX7_learn 70 = .ok (.getfield 26, 3) := by decide +kernel
theorem dX7_learn_73 : decode cX7_learn 73 = .ok (.bipush 40, 2) := by decide +kernel
theorem dX7_learn_75 : decode cX7_learn 75 = .ok (.iload_n 1, 1) := by decide +kernel
theorem dX7_learn_76 : decode cX7_learn 76 = .ok (.imul, 1) := by decide +kernel
theorem dX7_learn_77 : decode cX7_learn 77 = .ok (.aload_n 0, 1) := by decide +kernel
theorem dX7_learn_78 : decode cX7_learn 78 = .ok (.getfield 23, 3) := by decide +kernel
theorem dX7_learn_81 : decode cX7_learn 81 = .ok (.iload_n 1, 1) := by decide +kernel
theorem dX7_learn_82 : decode cX7_learn 82 = .ok (.iaload, 1) := by decide +kernel
theorem dX7_learn_83 : decode cX7_learn 83 = .ok (.iadd, 1) := by decide +kernel
theorem dX7_learn_84 : decode cX7_learn 84 = .ok (.iconst 1, 1) := by decide +kernel
theorem dX7_learn_85 : decode cX7_learn 85 = .ok (.isub, 1) := by decide +kernel
theorem dX7_learn_86 : decode cX7_learn 86 = .ok (.iaload, 1) := by decide +kernel
theorem dX7_learn_87 : decode cX7_learn 87 = .ok (.invokevirtual 98, 3) := by decide +kernel
theorem dX7_learn_90 : decode cX7_learn 90 = .ok (.istore 4, 2) := by decide +kernel
theorem dX7_learn_92 : decode cX7_learn 92 = .ok (.iload 4, 2) := by decide +kernel
theorem dX7_learn_94 : decode cX7_learn 94 = .ok (.iconst (-1), 1) := by decide +kernel
theorem dX7_learn_95 : decode cX7_learn 95 = .ok (.if_icmp .ne 5, 3) := by decide +kernel
theorem dX7_learn_98 : decode cX7_learn 98 = .ok (.iload_n 3, 1) := by decide +kernel
theorem dX7_learn_99 : decode cX7_learn 99 = .ok (.ireturn, 1) := by decide +kernel
theorem dX7_learn_100 : decode cX7_learn 100 = .ok (.aload_n 0, 1) := by decide +kernel
theorem dX7_learn_101 : decode cX7_learn 101 = .ok (.iload_n 1, 1) := by decide +kernel
theorem dX7_learn_102 : decode cX7_learn 102 = .ok (.iload 4, 2) := by decide +kernel
theorem dX7_learn_104 : decode cX7_learn 104 = .ok (.aload_n 0, 1) := by decide +kernel
theorem dX7_learn_105 : decode cX7_learn 105 = .ok (.getfield 20, 3) := by decide +kernel
theorem dX7_learn_108 : decode cX7_learn 108 = .ok (.aload_n 0, 1) := by decide +kernel
theorem dX7_learn_109 : decode cX7_learn 109 = .ok (.getfield 158, 3) := by decide +kernel
theorem dX7_learn_112 : decode cX7_learn 112 = .ok (.aload_n 0, 1) := by decide +kernel
theorem dX7_learn_113 : decode cX7_learn 113 = .ok (.getfield 161, 3) := by decide +kernel
theorem dX7_learn_116 : decode cX7_learn 116 = .ok (.invokevirtual 101, 3) := by decide +kernel
theorem dX7_learn_119 : decode cX7_learn 119 = .ok (.iinc 3 1, 3) := by decide +kernel
theorem dX7_learn_122 : decode cX7_learn 122 = .ok (.goto (-81), 3) := by decide +kernel
theorem dX7_learn_125 : decode cX7_learn 125 = .ok (.iload_n 3, 1) := by decide +kernel
theorem dX7_learn_126 : decode cX7_learn 126 = .ok (.ireturn, 1) := by decide +kernel
theorem dX7_digest_0 : decode cX7_digest 0 = .ok (.aload_n 0, 1) := by decide +kernel
theorem dX7_digest_1 : decode cX7_digest 1 = .ok (.iconst 0, 1) := by decide +kernel
theorem dX7_digest_2 : decode cX7_digest 2 = .ok (.putfield 47, 3) := by decide +kernel
theorem dX7_digest_5 : decode cX7_digest 5 = .ok (.ldc2_w 167, 3) := by decide +kernel
theorem dX7_digest_8 : decode cX7_digest 8 = .ok (.aload_n 0, 1) := by decide +kernel
theorem dX7_digest_9 : decode cX7_digest 9 = .ok (.getfield 7, 3) := by decide +kernel
theorem dX7_digest_12 : decode cX7_digest 12 = .ok (.i2l, 1) := by decide +kernel
theorem dX7_digest_13 : decode cX7_digest 13 = .ok (.ladd, 1) := by decide +kernel
theorem dX7_digest_14 : decode cX7_digest 14 = .ok (.ldc2_w 169, 3) := by decide +kernel
theorem dX7_digest_17 : decode cX7_digest 17 = .ok (.lmul, 1) := by decide +kernel
theorem dX7_digest_18 : decode cX7_digest 18 = .ok (.aload_n 0, 1) := by decide +kernel
theorem dX7_digest_19 : decode cX7_digest 19 = .ok (.getfield 63, 3) := by decide +kernel
theorem dX7_digest_22 : decode cX7_digest 22 = .ok (.i2l, 1) := by decide +kernel
theorem dX7_digest_23 : decode cX7_digest 23 = .ok (.ladd, 1) := by decide +kernel
theorem dX7_digest_24 : decode cX7_digest 24 = .ok (.lstore_n 1, 1) := by decide +kernel
theorem dX7_digest_25 : decode cX7_digest 25 = .ok (.iconst 0, 1) := by decide +kernel
theorem dX7_digest_26 : decode cX7_digest 26 = .ok (.istore_n 3, 1) := by decide +kernel
theorem dX7_digest_27 : decode cX7_digest 27 = .ok (.iload_n 3, 1) := by decide +kernel
theorem dX7_digest_28 : decode cX7_digest 28 = .ok (.aload_n 0, 1) := by decide +kernel
theorem dX7_digest_29 : decode cX7_digest 29 = .ok (.getfield 63, 3) := by decide +kernel
theorem dX7_digest_32 : decode cX7_digest 32 = .ok (.if_icmp .ge 23, 3) := by decide +kernel
theorem dX7_digest_35 : decode cX7_digest 35 = .ok (.lload_n 1, 1) := by decide +kernel
theorem dX7_digest_36 : decode cX7_digest 36 = .ok (.ldc2_w 169, 3) := by decide +kernel
theorem dX7_digest_39 : decode cX7_digest 39 = .ok (.lmul, 1) := by decide +kernel
theorem dX7_digest_40 : decode cX7_digest 40 = .ok (.aload_n 0, 1) := by decide +kernel
theorem dX7_digest_41 : decode cX7_digest 41 = .ok (.getfield 13, 3) := by decide +kernel
theorem dX7_digest_44 : decode cX7_digest 44 = .ok (.iload_n 3, 1) := by decide +kernel
theorem dX7_digest_45 : decode cX7_digest 45 = .ok (.iaload, 1) := by decide +kernel
theorem dX7_digest_46 : decode cX7_digest 46 = .ok (.i2l, 1) := by decide +kernel
theorem dX7_digest_47 : decode cX7_digest 47 = .ok (.ladd, 1) := by decide +kernel
theorem dX7_digest_48 : decode cX7_digest 48 = .ok (.lstore_n 1, 1) := by decide +kernel
theorem dX7_digest_49 : decode cX7_digest 49 = .ok (.iinc 3 1, 3) := by decide +kernel
theorem dX7_digest_52 : decode cX7_digest 52 = .ok (.goto (-25), 3) := by decide +kernel
theorem dX7_digest_55 : decode cX7_digest 55 = .ok (.iconst 0, 1) := by decide +kernel
theorem dX7_digest_56 : decode cX7_digest 56 = .ok (.istore_n 3, 1) := by decide +kernel
theorem dX7_digest_57 : decode cX7_digest 57 = .ok (.iload_n 3, 1) := by decide +kernel
theorem dX7_digest_58 : decode cX7_digest 58 = .ok (.iconst 3, 1) := by decide +kernel
theorem dX7_digest_59 : decode cX7_digest 59 = .ok (.if_icmp .ge 121, 3) := by decide +kernel
theorem dX7_digest_62 : decode cX7_digest 62 = .ok (.lload_n 1, 1) := by decide +kernel
theorem dX7_digest_63 : decode cX7_digest 63 = .ok (.ldc2_w 169, 3) := by decide +kernel
theorem dX7_digest_66 : decode cX7_digest 66 = .ok (.lmul, 1) := by decide +kernel
theorem dX7_digest_67 : decode cX7_digest 67 = .ok (.aload_n 0, 1) := by decide +kernel
theorem dX7_digest_68 : decode cX7_digest 68 = .ok (.getfield 23, 3) := by decide +kernel
theorem dX7_digest_71 : decode cX7_digest 71 = .ok (.iload_n 3, 1) := by decide +kernel
theorem dX7_digest_72 : decode cX7_digest 72 = .ok (.iaload, 1) := by decide +kernel
theorem dX7_digest_73 : decode cX7_digest 73 = .ok (.i2l, 1) := by decide +kernel
theorem dX7_digest_74 : decode cX7_digest 74 = .ok (.ladd, 1) := by decide +kernel
theorem dX7_digest_75 : decode cX7_digest 75 = .ok (.lstore_n 1, 1) := by decide +kernel
theorem dX7_digest_76 : decode cX7_digest 76 = .ok (.bipush 40, 2) := by decide +kernel
theorem dX7_digest_78 : decode cX7_digest 78 = .ok (.iload_n 3, 1) := by decide +kernel
theorem dX7_digest_79 : decode cX7_digest 79 = .ok (.imul, 1) := by decide +kernel
theorem dX7_digest_80 : decode cX7_digest 80 = .ok (.istore 4, 2) := by decide +kernel
theorem dX7_digest_82 : decode cX7_digest 82 = .ok (.iload 4, 2) := by decide +kernel
theorem dX7_digest_84 : decode cX7_digest 84 = .ok (.bipush 40, 2) := by decide +kernel
theorem dX7_digest_86 : decode cX7_digest 86 = .ok (.iload_n 3, 1) := by decide +kernel
theorem dX7_digest_87 : decode cX7_digest 87 = .ok (.imul, 1) := by decide +kernel
theorem dX7_digest_88 : decode cX7_digest 88 = .ok (.aload_n 0, 1) := by decide +kernel
theorem dX7_digest_89 : decode cX7_digest 89 = .ok (.getfield 23, 3) := by decide +kernel
theorem dX7_digest_92 : decode cX7_digest 92 = .ok (.iload_n 3, 1) := by decide +kernel
theorem dX7_digest_93 : decode cX7_digest 93 = .ok (.iaload, 1) := by decide +kernel
theorem dX7_digest_94 : decode cX7_digest 94 = .ok (.iadd, 1) := by decide +kernel
theorem dX7_digest_95 : decode cX7_digest 95 = .ok (.if_icmp .ge 79, 3) := by decide +kernel
theorem dX7_digest_98 : decode cX7_digest 98 = .ok (.lload_n 1, 1) := by decide +kernel
theorem dX7_digest_99 : decode cX7_digest 99 = .ok (.ldc2_w 169, 3) := by decide +kernel
theorem dX7_digest_102 : decode cX7_digest 102 = .ok (.lmul, 1) := by decide +kernel
theorem dX7_digest_103 : decode cX7_digest 103 = .ok (.aload_n 0, 1) := by decide +kernel
theorem dX7_digest_104 : decode cX7_digest 104 = .ok (.getfield 26, 3) := by decide +kernel
theorem dX7_digest_107 : decode cX7_digest 107 = .ok (.iload 4, 2) := by decide +kernel
theorem dX7_digest_109 : decode cX7_digest 109 = .ok (.iaload, 1) := by decide +kernel
theorem dX7_digest_110 : decode cX7_digest 110 = .ok (.i2l, 1) := by decide +kernel
theorem dX7_digest_111 : decode cX7_digest 111 = .ok (.ladd, 1) := by decide +kernel
theorem dX7_digest_112 : decode cX7_digest 112 = .ok (.ldc2_w 169, 3) := by decide +kernel
theorem dX7_digest_115 : decode cX7_digest 115 = .ok (.lmul, 1) := by decide +kernel
theorem dX7_digest_116 : decode cX7_digest 116 = .ok (.aload_n 0, 1) := by decide +kernel
theorem dX7_digest_117 : decode cX7_digest 117 = .ok (.getfield 29, 3) := by decide +kernel
theorem dX7_digest_120 : decode cX7_digest 120 = .ok (.iload 4, 2) := by decide +kernel
theorem dX7_digest_122 : decode cX7_digest 122 = .ok (.iaload, 1) := by decide +kernel
theorem dX7_digest_123 : decode cX7_digest 123 = .ok (.i2l, 1) := by decide +kernel
theorem dX7_digest_124 : decode cX7_digest 124 = .ok (.ladd, 1) := by decide +kernel
theorem dX7_digest_125 : decode cX7_digest 125 = .ok (.lstore_n 1, 1) := by decide +kernel
theorem dX7_digest_126 : decode cX7_digest 126 = .ok (.iconst 0, 1) := by decide +kernel
theorem dX7_digest_127 : decode cX7_digest 127 = .ok (.istore 5, 2) := by decide +kernel
theorem dX7_digest_129 : decode cX7_digest 129 = .ok (.iload 5, 2) := by decide +kernel
theorem dX7_digest_131 : decode cX7_digest 131 = .ok (.aload_n 0, 1) := by decide +kernel
theorem dX7_digest_132 : decode cX7_digest 132 = .ok (.getfield 29, 3) := by decide +kernel
theorem dX7_digest_135 : decode cX7_digest 135 = .ok (.iload 4, 2) := by decide +kernel
theorem dX7_digest_137 : decode cX7_digest 137 = .ok (.iaload, 1) := by decide +kernel
theorem dX7_digest_138 : decode cX7_digest 138 = .ok (.if_icmp .ge 30, 3) := by decide +kernel
theorem dX7_digest_141 : decode cX7_digest 141 = .ok (.lload_n 1, 1) := by decide +kernel
theorem dX7_digest_142 : decode cX7_digest 142 = .ok (.ldc2_w 169, 3) := by decide +kernel
theorem dX7_digest_145 : decode cX7_digest 145 = .ok (.lmul, 1) := by decide +kernel
theorem dX7_digest_146 : decode cX7_digest 146 = .ok (.aload_n 0, 1) := by decide +kernel
theorem dX7_digest_147 : decode cX7_digest 147 = .ok (.getfield 32, 3) := by decide +kernel
theorem dX7_digest_150 : decode cX7_digest 150 = .ok (.bipush 6, 2) := by decide +kernel
theorem dX7_digest_152 : decode cX7_digest 152 = .ok (.iload 4, 2) := by decide +kernel
theorem dX7_digest_154 : decode cX7_digest 154 = .ok (.imul, 1) := by decide +kernel
theorem dX7_digest_155 : decode cX7_digest 155 = .ok (.iload 5, 2) := by decide +kernel
theorem dX7_digest_157 : decode cX7_digest 157 = .ok (.iadd, 1) := by decide +kernel
theorem dX7_digest_158 : decode cX7_digest 158 = .ok (.iaload, 1) := by decide +kernel
theorem dX7_digest_159 : decode cX7_digest 159 = .ok (.i2l, 1) := by decide +kernel
theorem dX7_digest_160 : decode cX7_digest 160 = .ok (.ladd, 1) := by decide +kernel
theorem dX7_digest_161 : decode cX7_digest 161 = .ok (.lstore_n 1, 1) := by decide +kernel
theorem dX7_digest_162 : decode cX7_digest 162 = .ok (.iinc 5 1, 3) := by decide +kernel
theorem dX7_digest_165 : decode cX7_digest 165 = .ok (.goto (-36), 3) := by decide +kernel
theorem dX7_digest_168 : decode cX7_digest 168 = .ok (.iinc 4 1, 3) := by decide +kernel
theorem dX7_digest_171 : decode cX7_digest 171 = .ok (.goto (-89), 3) := by decide +kernel
theorem dX7_digest_174 : decode cX7_digest 174 = .ok (.iinc 3 1, 3) := by decide +kernel
theorem dX7_digest_177 : decode cX7_digest 177 = .ok (.goto (-120), 3) := by decide +kernel
theorem dX7_digest_180 : decode cX7_digest 180 = .ok (.lload_n 1, 1) := by decide +kernel
theorem dX7_digest_181 : decode cX7_digest 181 = .ok (.ldc2_w 169, 3) := by decide +kernel
theorem dX7_digest_184 : decode cX7_digest 184 = .ok (.lmul, 1) := by decide +kernel
theorem dX7_digest_185 : decode cX7_digest 185 = .ok (.aload_n 0, 1) := by decide +kernel
theorem dX7_digest_186 : decode cX7_digest 186 = .ok (.getfield 124, 3) := by decide +kernel
theorem dX7_digest_189 : decode cX7_digest 189 = .ok (.i2l, 1) := by decide +kernel
theorem dX7_digest_190 : decode cX7_digest 190 = .ok (.ladd, 1) := by decide +kernel
theorem dX7_digest_191 : decode cX7_digest 191 = .ok (.lstore_n 1, 1) := by decide +kernel
theorem dX7_digest_192 : decode cX7_digest 192 = .ok (.iconst 0, 1) := by decide +kernel
theorem dX7_digest_193 : decode cX7_digest 193 = .ok (.istore_n 3, 1) := by decide +kernel
theorem dX7_digest_194 : decode cX7_digest 194 = .ok (.iload_n 3, 1) := by decide +kernel
theorem dX7_digest_195 : decode cX7_digest 195 = .ok (.aload_n 0, 1) := by decide +kernel
theorem dX7_digest_196 : decode cX7_digest 196 = .ok (.getfield 124, 3) := by decide +kernel
theorem dX7_digest_199 : decode cX7_digest 199 = .ok (.if_icmp .ge 23, 3) := by decide +kernel
theorem dX7_digest_202 : decode cX7_digest 202 = .ok (.lload_n 1, 1) := by decide +kernel
theorem dX7_digest_203 : decode cX7_digest 203 = .ok (.ldc2_w 169, 3) := by decide +kernel
theorem dX7_digest_206 : decode cX7_digest 206 = .ok (.lmul, 1) := by decide +kernel
theorem dX7_digest_207 : decode cX7_digest 207 = .ok (.aload_n 0, 1) := by decide +kernel
theorem dX7_digest_208 : decode cX7_digest 208 = .ok (.getfield 35, 3) := by decide +kernel
theorem dX7_digest_211 : decode cX7_digest 211 = .ok (.iload_n 3, 1) := by decide +kernel
theorem dX7_digest_212 : decode cX7_digest 212 = .ok (.iaload, 1) := by decide +kernel
theorem dX7_digest_213 : decode cX7_digest 213 = .ok (.i2l, 1) := by decide +kernel
theorem dX7_digest_214 : decode cX7_digest 214 = .ok (.ladd, 1) := by decide +kernel
theorem dX7_digest_215 : decode cX7_digest 215 = .ok (.lstore_n 1, 1) := by decide +kernel
theorem dX7_digest_216 : decode cX7_digest 216 = .ok (.iinc 3 1, 3) := by decide +kernel
theorem dX7_digest_219 : decode cX7_digest 219 = .ok (.goto (-25), 3) := by decide +kernel
theorem dX7_digest_222 : decode cX7_digest 222 = .ok (.lload_n 1, 1) := by decide +kernel
theorem dX7_digest_223 : decode cX7_digest 223 = .ok (.ldc2_w 169, 3) := by decide +kernel
theorem dX7_digest_226 : decode cX7_digest 226 = .ok (.lmul, 1) := by decide +kernel
theorem dX7_digest_227 : decode cX7_digest 227 = .ok (.aload_n 0, 1) := by decide +kernel
theorem dX7_digest_228 : decode cX7_digest 228 = .ok (.getfield 66, 3) := by decide +kernel
theorem dX7_digest_231 : decode cX7_digest 231 = .ok (.i2l, 1) := by decide +kernel
theorem dX7_digest_232 : decode cX7_digest 232 = .ok (.ladd, 1) := by decide +kernel
theorem dX7_digest_233 : decode cX7_digest 233 = .ok (.lstore_n 1, 1) := by decide +kernel
theorem dX7_digest_234 : decode cX7_digest 234 = .ok (.iconst 0, 1) := by decide +kernel
theorem dX7_digest_235 : decode cX7_digest 235 = .ok (.istore_n 3, 1) := by decide +kernel
theorem dX7_digest_236 : decode cX7_digest 236 = .ok (.iload_n 3, 1) := by decide +kernel
theorem dX7_digest_237 : decode cX7_digest 237 = .ok (.aload_n 0, 1) := by decide +kernel
theorem dX7_digest_238 : decode cX7_digest 238 = .ok (.getfield 66, 3) := by decide +kernel
theorem dX7_digest_241 : decode cX7_digest 241 = .ok (.if_icmp .ge 63, 3) := by decide +kernel
theorem dX7_digest_244 : decode cX7_digest 244 = .ok (.lload_n 1, 1) := by decide +kernel
theorem dX7_digest_245 : decode cX7_digest 245 = .ok (.ldc2_w 169, 3) := by decide +kernel
theorem dX7_digest_248 : decode cX7_digest 248 = .ok (.lmul, 1) := by decide +kernel
theorem dX7_digest_249 : decode cX7_digest 249 = .ok (.aload_n 0, 1) := by decide +kernel
theorem dX7_digest_250 : decode cX7_digest 250 = .ok (.getfield 17, 3) := by decide +kernel
theorem dX7_digest_253 : decode cX7_digest 253 = .ok (.iload_n 3, 1) := by decide +kernel
theorem dX7_digest_254 : decode cX7_digest 254 = .ok (.iaload, 1) := by decide +kernel
theorem dX7_digest_255 : decode cX7_digest 255 = .ok (.i2l, 1) := by decide +kernel
theorem dX7_digest_256 : decode cX7_digest 256 = .ok (.ladd, 1) := by decide +kernel
theorem dX7_digest_257 : decode cX7_digest 257 = .ok (.lstore_n 1, 1) := by decide +kernel
theorem dX7_digest_258 : decode cX7_digest 258 = .ok (.iconst 0, 1) := by decide +kernel
theorem dX7_digest_259 : decode cX7_digest 259 = .ok (.istore 4, 2) := by decide +kernel
theorem dX7_digest_261 : decode cX7_digest 261 = .ok (.iload 4, 2) := by decide +kernel
theorem dX7_digest_263 : decode cX7_digest 263 = .ok (.aload_n 0, 1) := by decide +kernel
theorem dX7_digest_264 : decode cX7_digest 264 = .ok (.getfield 17, 3) := by decide +kernel
theorem dX7_digest_267 : decode cX7_digest 267 = .ok (.iload_n 3, 1) := by decide +kernel
theorem dX7_digest_268 : decode cX7_digest 268 = .ok (.iaload, 1) := by decide +kernel
theorem dX7_digest_269 : decode cX7_digest 269 = .ok (.if_icmp .ge 29, 3) := by decide +kernel
theorem dX7_digest_272 : decode cX7_digest 272 = .ok (.lload_n 1, 1) := by decide +kernel
theorem dX7_digest_273 : decode cX7_digest 273 = .ok (.ldc2_w 169, 3) := by decide +kernel
theorem dX7_digest_276 : decode cX7_digest 276 = .ok (.lmul, 1) := by decide +kernel
theorem dX7_digest_277 : decode cX7_digest 277 = .ok (.aload_n 0, 1) := by decide +kernel
theorem dX7_digest_278 : decode cX7_digest 278 = .ok (.getfield 20, 3) := by decide +kernel
theorem dX7_digest_281 : decode cX7_digest 281 = .ok (.bipush 40, 2) := by decide +kernel
theorem dX7_digest_283 : decode cX7_digest 283 = .ok (.iload_n 3, 1) := by decide +kernel
theorem dX7_digest_284 : decode cX7_digest 284 = .ok (.imul, 1) := by decide +kernel
theorem dX7_digest_285 : decode cX7_digest 285 = .ok (.iload 4, 2) := by decide +kernel
theorem dX7_digest_287 : decode cX7_digest 287 = .ok (.iadd, 1) := by decide +kernel
theorem dX7_digest_288 : decode cX7_digest 288 = .ok (.iaload, 1) := by decide +kernel
theorem dX7_digest_289 : decode cX7_digest 289 = .ok (.i2l, 1) := by decide +kernel
theorem dX7_digest_290 : decode cX7_digest 290 = .ok (.ladd, 1) := by decide +kernel
theorem dX7_digest_291 : decode cX7_digest 291 = .ok (.lstore_n 1, 1) := by decide +kernel
theorem dX7_digest_292 : decode cX7_digest 292 = .ok (.iinc 4 1, 3) := by decide +kernel
theorem dX7_digest_295 : decode cX7_digest 295 = .ok (.goto (-34), 3) := by decide +kernel
theorem dX7_digest_298 : decode cX7_digest 298 = .ok (.iinc 3 1, 3) := by decide +kernel
theorem dX7_digest_301 : decode cX7_digest 301 = .ok (.goto (-65), 3) := by decide +kernel
theorem dX7_digest_304 : decode cX7_digest 304 = .ok (.lload_n 1, 1) := by decide +kernel
theorem dX7_digest_305 : decode cX7_digest 305 = .ok (.lreturn, 1) := by decide +kernel
theorem dJ9_floorMod_7cf53_0 : decode cJ9_floorMod_7cf53 0 = .ok (.iload_n 0, 1) := by decide +kernel
theorem dJ9_floorMod_7cf53_1 : decode cJ9_floorMod_7cf53 1 = .ok (.iload_n 1, 1) := by decide +kernel
theorem dJ9_floorMod_7cf53_2 : decode cJ9_floorMod_7cf53 2 = .ok (.irem, 1) := by decide +kernel
theorem dJ9_floorMod_7cf53_3 : decode cJ9_floorMod_7cf53 3 = .ok (.istore_n 2, 1) := by decide +kernel
theorem dJ9_floorMod_7cf53_4 : decode cJ9_floorMod_7cf53 4 = .ok (.iload_n 0, 1) := by decide +kernel
theorem dJ9_floorMod_7cf53_5 : decode cJ9_floorMod_7cf53 5 = .ok (.iload_n 1, 1) := by decide +kernel
theorem dJ9_floorMod_7cf53_6 : decode cJ9_floorMod_7cf53 6 = .ok (.ixor, 1) := by decide +kernel
theorem dJ9_floorMod_7cf53_7 : decode cJ9_floorMod_7cf53 7 = .ok (.ifCond .ge 11, 3) := by decide +kernel
theorem dJ9_floorMod_7cf53_10 : decode cJ9_floorMod_7cf53 10 = .ok (.iload_n 2, 1) := by decide +kernel
theorem dJ9_floorMod_7cf53_11 : decode cJ9_floorMod_7cf53 11 = .ok (.ifCond .eq 7, 3) := by decide +kernel
theorem dJ9_floorMod_7cf53_14 : decode cJ9_floorMod_7cf53 14 = .ok (.iload_n 2, 1) := by decide +kernel
theorem dJ9_floorMod_7cf53_15 : decode cJ9_floorMod_7cf53 15 = .ok (.iload_n 1, 1) := by decide +kernel
theorem dJ9_floorMod_7cf53_16 : decode cJ9_floorMod_7cf53 16 = .ok (.iadd, 1) := by decide +kernel
theorem dJ9_floorMod_7cf53_17 : decode cJ9_floorMod_7cf53 17 = .ok (.ireturn, 1) := by decide +kernel
theorem dJ9_floorMod_7cf53_18 : decode cJ9_floorMod_7cf53 18 = .ok (.iload_n 2, 1) := by decide +kernel
theorem dJ9_floorMod_7cf53_19 : decode cJ9_floorMod_7cf53 19 = .ok (.ireturn, 1) := by decide +kernel
theorem dJ9_min_7cf53_0 : decode cJ9_min_7cf53 0 = .ok (.iload_n 0, 1) := by decide +kernel
theorem dJ9_min_7cf53_1 : decode cJ9_min_7cf53 1 = .ok (.iload_n 1, 1) := by decide +kernel
theorem dJ9_min_7cf53_2 : decode cJ9_min_7cf53 2 = .ok (.if_icmp .gt 7, 3) := by decide +kernel
theorem dJ9_min_7cf53_5 : decode cJ9_min_7cf53 5 = .ok (.iload_n 0, 1) := by decide +kernel
theorem dJ9_min_7cf53_6 : decode cJ9_min_7cf53 6 = .ok (.goto 4, 3) := by decide +kernel
theorem dJ9_min_7cf53_9 : decode cJ9_min_7cf53 9 = .ok (.iload_n 1, 1) := by decide +kernel
theorem dJ9_min_7cf53_10 : decode cJ9_min_7cf53 10 = .ok (.ireturn, 1) := by decide +kernel
theorem dJ7_fill_53178_0 : decode cJ7_fill_53178 0 = .ok (.iconst 0, 1) := by decide +kernel
theorem dJ7_fill_53178_1 : decode cJ7_fill_53178 1 = .ok (.istore_n 2, 1) := by decide +kernel
theorem dJ7_fill_53178_2 : decode cJ7_fill_53178 2 = .ok (.aload_n 0, 1) := by decide +kernel
theorem dJ7_fill_53178_3 : decode cJ7_fill_53178 3 = .ok (.arraylength, 1) := by decide +kernel
theorem dJ7_fill_53178_4 : decode cJ7_fill_53178 4 = .ok (.istore_n 3, 1) := by decide +kernel
theorem dJ7_fill_53178_5 : decode cJ7_fill_53178 5 = .ok (.iload_n 2, 1) := by decide +kernel
theorem dJ7_fill_53178_6 : decode cJ7_fill_53178 6 = .ok (.iload_n 3, 1) := by decide +kernel
theorem dJ7_fill_53178_7 : decode cJ7_fill_53178 7 = .ok (.if_icmp .ge 13, 3) := by decide +kernel
theorem dJ7_fill_53178_10 : decode cJ7_fill_53178 10 = .ok (.aload_n 0, 1) := by decide +kernel
theorem dJ7_fill_53178_11 : decode cJ7_fill_53178 11 = .ok (.iload_n 2, 1) := by decide +kernel
theorem dJ7_fill_53178_12 : decode cJ7_fill_53178 12 = .ok (.iload_n 1, 1) := by decide +kernel
theorem dJ7_fill_53178_13 : decode cJ7_fill_53178 13 = .ok (.iastore, 1) := by decide +kernel
theorem dJ7_fill_53178_14 : decode cJ7_fill_53178 14 = .ok (.iinc 2 1, 3) := by decide +kernel
theorem dJ7_fill_53178_17 : decode cJ7_fill_53178 17 = .ok (.goto (-12), 3) := by decide +kernel
theorem dJ7_fill_53178_20 : decode cJ7_fill_53178 20 = .ok (.return_, 1) := by decide +kernel
theorem dL_say_0 : decode cL_say 0 = .ok (.aload_n 2, 1) := by decide +kernel
theorem dL_say_1 : decode cL_say 1 = .ok (.iconst 0, 1) := by decide +kernel
theorem dL_say_2 : decode cL_say 2 = .ok (.aload_n 0, 1) := by decide +kernel
theorem dL_say_3 : decode cL_say 3 = .ok (.iload_n 1, 1) := by decide +kernel
theorem dL_say_4 : decode cL_say 4 = .ok (.invokevirtual 7, 3) := by decide +kernel
theorem dL_say_7 : decode cL_say 7 = .ok (.i2l, 1) := by decide +kernel
theorem dL_say_8 : decode cL_say 8 = .ok (.lastore, 1) := by decide +kernel
theorem dL_say_9 : decode cL_say 9 = .ok (.goto 9, 3) := by decide +kernel
theorem dL_say_12 : decode cL_say 12 = .ok (.astore_n 3, 1) := by decide +kernel
theorem dL_say_13 : decode cL_say 13 = .ok (.iconst 1, 1) := by decide +kernel
theorem dL_say_14 : decode cL_say 14 = .ok (.ireturn, 1) := by decide +kernel
theorem dL_say_15 : decode cL_say 15 = .ok (.astore_n 3, 1) := by decide +kernel
theorem dL_say_16 : decode cL_say 16 = .ok (.iconst 2, 1) := by decide +kernel
theorem dL_say_17 : decode cL_say 17 = .ok (.ireturn, 1) := by decide +kernel
theorem dL_say_18 : decode cL_say 18 = .ok (.iconst 0, 1) := by decide +kernel
theorem dL_say_19 : decode cL_say 19 = .ok (.ireturn, 1) := by decide +kernel
theorem dL_wordAt_0 : decode cL_wordAt 0 = .ok (.aload_n 2, 1) := by decide +kernel
theorem dL_wordAt_1 : decode cL_wordAt 1 = .ok (.iconst 0, 1) := by decide +kernel
theorem dL_wordAt_2 : decode cL_wordAt 2 = .ok (.aload_n 0, 1) := by decide +kernel
theorem dL_wordAt_3 : decode cL_wordAt 3 = .ok (.iload_n 1, 1) := by decide +kernel
theorem dL_wordAt_4 : decode cL_wordAt 4 = .ok (.invokevirtual 17, 3) := by decide +kernel
theorem dL_wordAt_7 : decode cL_wordAt 7 = .ok (.i2l, 1) := by decide +kernel
theorem dL_wordAt_8 : decode cL_wordAt 8 = .ok (.lastore, 1) := by decide +kernel
theorem dL_wordAt_9 : decode cL_wordAt 9 = .ok (.goto 6, 3) := by decide +kernel
theorem dL_wordAt_12 : decode cL_wordAt 12 = .ok (.astore_n 3, 1) := by decide +kernel
theorem dL_wordAt_13 : decode cL_wordAt 13 = .ok (.iconst 1, 1) := by decide +kernel
theorem dL_wordAt_14 : decode cL_wordAt 14 = .ok (.ireturn, 1) := by decide +kernel
theorem dL_wordAt_15 : decode cL_wordAt 15 = .ok (.iconst 0, 1) := by decide +kernel
theorem dL_wordAt_16 : decode cL_wordAt 16 = .ok (.ireturn, 1) := by decide +kernel
theorem dL_keep_0 : decode cL_keep 0 = .ok (.aload_n 1, 1) := by decide +kernel
theorem dL_keep_1 : decode cL_keep 1 = .ok (.iconst 0, 1) := by decide +kernel
theorem dL_keep_2 : decode cL_keep 2 = .ok (.aload_n 0, 1) := by decide +kernel
theorem dL_keep_3 : decode cL_keep 3 = .ok (.invokevirtual 22, 3) := by decide +kernel
theorem dL_keep_6 : decode cL_keep 6 = .ok (.i2l, 1) := by decide +kernel
theorem dL_keep_7 : decode cL_keep 7 = .ok (.lastore, 1) := by decide +kernel
theorem dL_keep_8 : decode cL_keep 8 = .ok (.goto 6, 3) := by decide +kernel
theorem dL_keep_11 : decode cL_keep 11 = .ok (.astore_n 2, 1) := by decide +kernel
theorem dL_keep_12 : decode cL_keep 12 = .ok (.iconst 1, 1) := by decide +kernel
theorem dL_keep_13 : decode cL_keep 13 = .ok (.ireturn, 1) := by decide +kernel
theorem dL_keep_14 : decode cL_keep 14 = .ok (.iconst 0, 1) := by decide +kernel
theorem dL_keep_15 : decode cL_keep 15 = .ok (.ireturn, 1) := by decide +kernel
theorem dL_recall_0 : decode cL_recall 0 = .ok (.aload_n 2, 1) := by decide +kernel
theorem dL_recall_1 : decode cL_recall 1 = .ok (.iconst 0, 1) := by decide +kernel
theorem dL_recall_2 : decode cL_recall 2 = .ok (.aload_n 0, 1) := by decide +kernel
theorem dL_recall_3 : decode cL_recall 3 = .ok (.iload_n 1, 1) := by decide +kernel
theorem dL_recall_4 : decode cL_recall 4 = .ok (.invokevirtual 26, 3) := by decide +kernel
theorem dL_recall_7 : decode cL_recall 7 = .ok (.i2l, 1) := by decide +kernel
theorem dL_recall_8 : decode cL_recall 8 = .ok (.lastore, 1) := by decide +kernel
theorem dL_recall_9 : decode cL_recall 9 = .ok (.goto 6, 3) := by decide +kernel
theorem dL_recall_12 : decode cL_recall 12 = .ok (.astore_n 3, 1) := by decide +kernel
theorem dL_recall_13 : decode cL_recall 13 = .ok (.iconst 1, 1) := by decide +kernel
theorem dL_recall_14 : decode cL_recall 14 = .ok (.ireturn, 1) := by decide +kernel
theorem dL_recall_15 : decode cL_recall 15 = .ok (.iconst 0, 1) := by decide +kernel
theorem dL_recall_16 : decode cL_recall 16 = .ok (.ireturn, 1) := by decide +kernel
theorem dL_letter_0 : decode cL_letter 0 = .ok (.aload_n 3, 1) := by decide +kernel
theorem dL_letter_1 : decode cL_letter 1 = .ok (.iconst 0, 1) := by decide +kernel
theorem dL_letter_2 : decode cL_letter 2 = .ok (.aload_n 0, 1) := by decide +kernel
theorem dL_letter_3 : decode cL_letter 3 = .ok (.iload_n 1, 1) := by decide +kernel
theorem dL_letter_4 : decode cL_letter 4 = .ok (.iload_n 2, 1) := by decide +kernel
theorem dL_letter_5 : decode cL_letter 5 = .ok (.invokevirtual 29, 3) := by decide +kernel
theorem dL_letter_8 : decode cL_letter 8 = .ok (.i2l, 1) := by decide +kernel
theorem dL_letter_9 : decode cL_letter 9 = .ok (.lastore, 1) := by decide +kernel
theorem dL_letter_10 : decode cL_letter 10 = .ok (.goto 11, 3) := by decide +kernel
theorem dL_letter_13 : decode cL_letter 13 = .ok (.astore 4, 2) := by decide +kernel
theorem dL_letter_15 : decode cL_letter 15 = .ok (.iconst 1, 1) := by decide +kernel
theorem dL_letter_16 : decode cL_letter 16 = .ok (.ireturn, 1) := by decide +kernel
theorem dL_letter_17 : decode cL_letter 17 = .ok (.astore 4, 2) := by decide +kernel
theorem dL_letter_19 : decode cL_letter 19 = .ok (.iconst 2, 1) := by decide +kernel
theorem dL_letter_20 : decode cL_letter 20 = .ok (.ireturn, 1) := by decide +kernel
theorem dL_letter_21 : decode cL_letter 21 = .ok (.iconst 0, 1) := by decide +kernel
theorem dL_letter_22 : decode cL_letter 22 = .ok (.ireturn, 1) := by decide +kernel
theorem dL_reason_0 : decode cL_reason 0 = .ok (.aload_n 3, 1) := by decide +kernel
theorem dL_reason_1 : decode cL_reason 1 = .ok (.iconst 0, 1) := by decide +kernel
theorem dL_reason_2 : decode cL_reason 2 = .ok (.aload_n 0, 1) := by decide +kernel
theorem dL_reason_3 : decode cL_reason 3 = .ok (.iload_n 1, 1) := by decide +kernel
theorem dL_reason_4 : decode cL_reason 4 = .ok (.iload_n 2, 1) := by decide +kernel
theorem dL_reason_5 : decode cL_reason 5 = .ok (.invokevirtual 33, 3) := by decide +kernel
theorem dL_reason_8 : decode cL_reason 8 = .ok (.i2l, 1) := by decide +kernel
theorem dL_reason_9 : decode cL_reason 9 = .ok (.lastore, 1) := by decide +kernel
theorem dL_reason_10 : decode cL_reason 10 = .ok (.goto 11, 3) := by decide +kernel
theorem dL_reason_13 : decode cL_reason 13 = .ok (.astore 4, 2) := by decide +kernel
theorem dL_reason_15 : decode cL_reason 15 = .ok (.iconst 1, 1) := by decide +kernel
theorem dL_reason_16 : decode cL_reason 16 = .ok (.ireturn, 1) := by decide +kernel
theorem dL_reason_17 : decode cL_reason 17 = .ok (.astore 4, 2) := by decide +kernel
theorem dL_reason_19 : decode cL_reason 19 = .ok (.iconst 2, 1) := by decide +kernel
theorem dL_reason_20 : decode cL_reason 20 = .ok (.ireturn, 1) := by decide +kernel
theorem dL_reason_21 : decode cL_reason 21 = .ok (.iconst 0, 1) := by decide +kernel
theorem dL_reason_22 : decode cL_reason 22 = .ok (.ireturn, 1) := by decide +kernel
theorem dL_firstFit_0 : decode cL_firstFit 0 = .ok (.aload_n 3, 1) := by decide +kernel
theorem dL_firstFit_1 : decode cL_firstFit 1 = .ok (.iconst 0, 1) := by decide +kernel
theorem dL_firstFit_2 : decode cL_firstFit 2 = .ok (.aload_n 0, 1) := by decide +kernel
theorem dL_firstFit_3 : decode cL_firstFit 3 = .ok (.iload_n 1, 1) := by decide +kernel
theorem dL_firstFit_4 : decode cL_firstFit 4 = .ok (.iload_n 2, 1) := by decide +kernel
theorem dL_firstFit_5 : decode cL_firstFit 5 = .ok (.invokevirtual 36, 3) := by decide +kernel
theorem dL_firstFit_8 : decode cL_firstFit 8 = .ok (.i2l, 1) := by decide +kernel
theorem dL_firstFit_9 : decode cL_firstFit 9 = .ok (.lastore, 1) := by decide +kernel
theorem dL_firstFit_10 : decode cL_firstFit 10 = .ok (.goto 11, 3) := by decide +kernel
theorem dL_firstFit_13 : decode cL_firstFit 13 = .ok (.astore 4, 2) := by decide +kernel
theorem dL_firstFit_15 : decode cL_firstFit 15 = .ok (.iconst 1, 1) := by decide +kernel
theorem dL_firstFit_16 : decode cL_firstFit 16 = .ok (.ireturn, 1) := by decide +kernel
theorem dL_firstFit_17 : decode cL_firstFit 17 = .ok (.astore 4, 2) := by decide +kernel
theorem dL_firstFit_19 : decode cL_firstFit 19 = .ok (.iconst 2, 1) := by decide +kernel
theorem dL_firstFit_20 : decode cL_firstFit 20 = .ok (.ireturn, 1) := by decide +kernel
theorem dL_firstFit_21 : decode cL_firstFit 21 = .ok (.iconst 0, 1) := by decide +kernel
theorem dL_firstFit_22 : decode cL_firstFit 22 = .ok (.ireturn, 1) := by decide +kernel
theorem dL_define_0 : decode cL_define 0 = .ok (.aload_n 3, 1) := by decide +kernel
theorem dL_define_1 : decode cL_define 1 = .ok (.iconst 0, 1) := by decide +kernel
theorem dL_define_2 : decode cL_define 2 = .ok (.aload_n 0, 1) := by decide +kernel
theorem dL_define_3 : decode cL_define 3 = .ok (.iload_n 1, 1) := by decide +kernel
theorem dL_define_4 : decode cL_define 4 = .ok (.iload_n 2, 1) := by decide +kernel
theorem dL_define_5 : decode cL_define 5 = .ok (.invokevirtual 39, 3) := by decide +kernel
theorem dL_define_8 : decode cL_define 8 = .ok (.i2l, 1) := by decide +kernel
theorem dL_define_9 : decode cL_define 9 = .ok (.lastore, 1) := by decide +kernel
theorem dL_define_10 : decode cL_define 10 = .ok (.goto 15, 3) := by decide +kernel
theorem dL_define_13 : decode cL_define 13 = .ok (.astore 4, 2) := by decide +kernel
theorem dL_define_15 : decode cL_define 15 = .ok (.iconst 1, 1) := by decide +kernel
theorem dL_define_16 : decode cL_define 16 = .ok (.ireturn, 1) := by decide +kernel
theorem dL_define_17 : decode cL_define 17 = .ok (.astore 4, 2) := by decide +kernel
theorem dL_define_19 : decode cL_define 19 = .ok (.iconst 2, 1) := by decide +kernel
theorem dL_define_20 : decode cL_define 20 = .ok (.ireturn, 1) := by decide +kernel
theorem dL_define_21 : decode cL_define 21 = .ok (.astore 4, 2) := by decide +kernel
theorem dL_define_23 : decode cL_define 23 = .ok (.iconst 3, 1) := by decide +kernel
theorem dL_define_24 : decode cL_define 24 = .ok (.ireturn, 1) := by decide +kernel
theorem dL_define_25 : decode cL_define 25 = .ok (.iconst 0, 1) := by decide +kernel
theorem dL_define_26 : decode cL_define 26 = .ok (.ireturn, 1) := by decide +kernel
theorem dL_drop_0 : decode cL_drop 0 = .ok (.aload_n 3, 1) := by decide +kernel
theorem dL_drop_1 : decode cL_drop 1 = .ok (.iconst 0, 1) := by decide +kernel
theorem dL_drop_2 : decode cL_drop 2 = .ok (.aload_n 0, 1) := by decide +kernel
theorem dL_drop_3 : decode cL_drop 3 = .ok (.iload_n 1, 1) := by decide +kernel
theorem dL_drop_4 : decode cL_drop 4 = .ok (.iload_n 2, 1) := by decide +kernel
theorem dL_drop_5 : decode cL_drop 5 = .ok (.invokevirtual 42, 3) := by decide +kernel
theorem dL_drop_8 : decode cL_drop 8 = .ok (.i2l, 1) := by decide +kernel
theorem dL_drop_9 : decode cL_drop 9 = .ok (.lastore, 1) := by decide +kernel
theorem dL_drop_10 : decode cL_drop 10 = .ok (.goto 7, 3) := by decide +kernel
theorem dL_drop_13 : decode cL_drop 13 = .ok (.astore 4, 2) := by decide +kernel
theorem dL_drop_15 : decode cL_drop 15 = .ok (.iconst 1, 1) := by decide +kernel
theorem dL_drop_16 : decode cL_drop 16 = .ok (.ireturn, 1) := by decide +kernel
theorem dL_drop_17 : decode cL_drop 17 = .ok (.iconst 0, 1) := by decide +kernel
theorem dL_drop_18 : decode cL_drop 18 = .ok (.ireturn, 1) := by decide +kernel
theorem dL_entries_0 : decode cL_entries 0 = .ok (.aload_n 2, 1) := by decide +kernel
theorem dL_entries_1 : decode cL_entries 1 = .ok (.iconst 0, 1) := by decide +kernel
theorem dL_entries_2 : decode cL_entries 2 = .ok (.aload_n 0, 1) := by decide +kernel
theorem dL_entries_3 : decode cL_entries 3 = .ok (.iload_n 1, 1) := by decide +kernel
theorem dL_entries_4 : decode cL_entries 4 = .ok (.invokevirtual 45, 3) := by decide +kernel
theorem dL_entries_7 : decode cL_entries 7 = .ok (.i2l, 1) := by decide +kernel
theorem dL_entries_8 : decode cL_entries 8 = .ok (.lastore, 1) := by decide +kernel
theorem dL_entries_9 : decode cL_entries 9 = .ok (.goto 6, 3) := by decide +kernel
theorem dL_entries_12 : decode cL_entries 12 = .ok (.astore_n 3, 1) := by decide +kernel
theorem dL_entries_13 : decode cL_entries 13 = .ok (.iconst 1, 1) := by decide +kernel
theorem dL_entries_14 : decode cL_entries 14 = .ok (.ireturn, 1) := by decide +kernel
theorem dL_entries_15 : decode cL_entries 15 = .ok (.iconst 0, 1) := by decide +kernel
theorem dL_entries_16 : decode cL_entries 16 = .ok (.ireturn, 1) := by decide +kernel
theorem dL_entry_0 : decode cL_entry 0 = .ok (.aload 4, 2) := by decide +kernel
theorem dL_entry_2 : decode cL_entry 2 = .ok (.iconst 0, 1) := by decide +kernel
theorem dL_entry_3 : decode cL_entry 3 = .ok (.aload_n 0, 1) := by decide +kernel
theorem dL_entry_4 : decode cL_entry 4 = .ok (.iload_n 1, 1) := by decide +kernel
theorem dL_entry_5 : decode cL_entry 5 = .ok (.iload_n 2, 1) := by decide +kernel
theorem dL_entry_6 : decode cL_entry 6 = .ok (.iload_n 3, 1) := by decide +kernel
theorem dL_entry_7 : decode cL_entry 7 = .ok (.invokevirtual 48, 3) := by decide +kernel
theorem dL_entry_10 : decode cL_entry 10 = .ok (.i2l, 1) := by decide +kernel
theorem dL_entry_11 : decode cL_entry 11 = .ok (.lastore, 1) := by decide +kernel
theorem dL_entry_12 : decode cL_entry 12 = .ok (.goto 7, 3) := by decide +kernel
theorem dL_entry_15 : decode cL_entry 15 = .ok (.astore 5, 2) := by decide +kernel
theorem dL_entry_17 : decode cL_entry 17 = .ok (.iconst 1, 1) := by decide +kernel
theorem dL_entry_18 : decode cL_entry 18 = .ok (.ireturn, 1) := by decide +kernel
theorem dL_entry_19 : decode cL_entry 19 = .ok (.iconst 0, 1) := by decide +kernel
theorem dL_entry_20 : decode cL_entry 20 = .ok (.ireturn, 1) := by decide +kernel
theorem dL_find_0 : decode cL_find 0 = .ok (.aload_n 3, 1) := by decide +kernel
theorem dL_find_1 : decode cL_find 1 = .ok (.iconst 0, 1) := by decide +kernel
theorem dL_find_2 : decode cL_find 2 = .ok (.aload_n 0, 1) := by decide +kernel
theorem dL_find_3 : decode cL_find 3 = .ok (.iload_n 1, 1) := by decide +kernel
theorem dL_find_4 : decode cL_find 4 = .ok (.iload_n 2, 1) := by decide +kernel
theorem dL_find_5 : decode cL_find 5 = .ok (.invokevirtual 52, 3) := by decide +kernel
theorem dL_find_8 : decode cL_find 8 = .ok (.i2l, 1) := by decide +kernel
theorem dL_find_9 : decode cL_find 9 = .ok (.lastore, 1) := by decide +kernel
theorem dL_find_10 : decode cL_find 10 = .ok (.goto 11, 3) := by decide +kernel
theorem dL_find_13 : decode cL_find 13 = .ok (.astore 4, 2) := by decide +kernel
theorem dL_find_15 : decode cL_find 15 = .ok (.iconst 1, 1) := by decide +kernel
theorem dL_find_16 : decode cL_find 16 = .ok (.ireturn, 1) := by decide +kernel
theorem dL_find_17 : decode cL_find 17 = .ok (.astore 4, 2) := by decide +kernel
theorem dL_find_19 : decode cL_find 19 = .ok (.iconst 2, 1) := by decide +kernel
theorem dL_find_20 : decode cL_find 20 = .ok (.ireturn, 1) := by decide +kernel
theorem dL_find_21 : decode cL_find 21 = .ok (.iconst 0, 1) := by decide +kernel
theorem dL_find_22 : decode cL_find 22 = .ok (.ireturn, 1) := by decide +kernel
theorem dL_setPrice_0 : decode cL_setPrice 0 = .ok (.aload_n 2, 1) := by decide +kernel
theorem dL_setPrice_1 : decode cL_setPrice 1 = .ok (.iconst 0, 1) := by decide +kernel
theorem dL_setPrice_2 : decode cL_setPrice 2 = .ok (.aload_n 0, 1) := by decide +kernel
theorem dL_setPrice_3 : decode cL_setPrice 3 = .ok (.iload_n 1, 1) := by decide +kernel
theorem dL_setPrice_4 : decode cL_setPrice 4 = .ok (.invokevirtual 55, 3) := by decide +kernel
theorem dL_setPrice_7 : decode cL_setPrice 7 = .ok (.i2l, 1) := by decide +kernel
theorem dL_setPrice_8 : decode cL_setPrice 8 = .ok (.lastore, 1) := by decide +kernel
theorem dL_setPrice_9 : decode cL_setPrice 9 = .ok (.goto 6, 3) := by decide +kernel
theorem dL_setPrice_12 : decode cL_setPrice 12 = .ok (.astore_n 3, 1) := by decide +kernel
theorem dL_setPrice_13 : decode cL_setPrice 13 = .ok (.iconst 1, 1) := by decide +kernel
theorem dL_setPrice_14 : decode cL_setPrice 14 = .ok (.ireturn, 1) := by decide +kernel
theorem dL_setPrice_15 : decode cL_setPrice 15 = .ok (.iconst 0, 1) := by decide +kernel
theorem dL_setPrice_16 : decode cL_setPrice 16 = .ok (.ireturn, 1) := by decide +kernel
theorem dL_encode_0 : decode cL_encode 0 = .ok (.aload_n 2, 1) := by decide +kernel
theorem dL_encode_1 : decode cL_encode 1 = .ok (.iconst 0, 1) := by decide +kernel
theorem dL_encode_2 : decode cL_encode 2 = .ok (.aload_n 0, 1) := by decide +kernel
theorem dL_encode_3 : decode cL_encode 3 = .ok (.iload_n 1, 1) := by decide +kernel
theorem dL_encode_4 : decode cL_encode 4 = .ok (.invokevirtual 58, 3) := by decide +kernel
theorem dL_encode_7 : decode cL_encode 7 = .ok (.i2l, 1) := by decide +kernel
theorem dL_encode_8 : decode cL_encode 8 = .ok (.lastore, 1) := by decide +kernel
theorem dL_encode_9 : decode cL_encode 9 = .ok (.goto 6, 3) := by decide +kernel
theorem dL_encode_12 : decode cL_encode 12 = .ok (.astore_n 3, 1) := by decide +kernel
theorem dL_encode_13 : decode cL_encode 13 = .ok (.iconst 1, 1) := by decide +kernel
theorem dL_encode_14 : decode cL_encode 14 = .ok (.ireturn, 1) := by decide +kernel
theorem dL_encode_15 : decode cL_encode 15 = .ok (.iconst 0, 1) := by decide +kernel
theorem dL_encode_16 : decode cL_encode 16 = .ok (.ireturn, 1) := by decide +kernel
theorem dL_group_0 : decode cL_group 0 = .ok (.aload_n 2, 1) := by decide +kernel
theorem dL_group_1 : decode cL_group 1 = .ok (.iconst 0, 1) := by decide +kernel
theorem dL_group_2 : decode cL_group 2 = .ok (.aload_n 0, 1) := by decide +kernel
theorem dL_group_3 : decode cL_group 3 = .ok (.iload_n 1, 1) := by decide +kernel
theorem dL_group_4 : decode cL_group 4 = .ok (.invokevirtual 61, 3) := by decide +kernel
theorem dL_group_7 : decode cL_group 7 = .ok (.i2l, 1) := by decide +kernel
theorem dL_group_8 : decode cL_group 8 = .ok (.lastore, 1) := by decide +kernel
theorem dL_group_9 : decode cL_group 9 = .ok (.goto 6, 3) := by decide +kernel
theorem dL_group_12 : decode cL_group 12 = .ok (.astore_n 3, 1) := by decide +kernel
theorem dL_group_13 : decode cL_group 13 = .ok (.iconst 1, 1) := by decide +kernel
theorem dL_group_14 : decode cL_group 14 = .ok (.ireturn, 1) := by decide +kernel
theorem dL_group_15 : decode cL_group 15 = .ok (.iconst 0, 1) := by decide +kernel
theorem dL_group_16 : decode cL_group 16 = .ok (.ireturn, 1) := by decide +kernel
theorem dL_garble_0 : decode cL_garble 0 = .ok (.aload 4, 2) := by decide +kernel
theorem dL_garble_2 : decode cL_garble 2 = .ok (.iconst 0, 1) := by decide +kernel
theorem dL_garble_3 : decode cL_garble 3 = .ok (.aload_n 0, 1) := by decide +kernel
theorem dL_garble_4 : decode cL_garble 4 = .ok (.iload_n 1, 1) := by decide +kernel
theorem dL_garble_5 : decode cL_garble 5 = .ok (.iload_n 2, 1) := by decide +kernel
theorem dL_garble_6 : decode cL_garble 6 = .ok (.iload_n 3, 1) := by decide +kernel
theorem dL_garble_7 : decode cL_garble 7 = .ok (.invokevirtual 64, 3) := by decide +kernel
theorem dL_garble_10 : decode cL_garble 10 = .ok (.i2l, 1) := by decide +kernel
theorem dL_garble_11 : decode cL_garble 11 = .ok (.lastore, 1) := by decide +kernel
theorem dL_garble_12 : decode cL_garble 12 = .ok (.goto 15, 3) := by decide +kernel
theorem dL_garble_15 : decode cL_garble 15 = .ok (.astore 5, 2) := by decide +kernel
theorem dL_garble_17 : decode cL_garble 17 = .ok (.iconst 1, 1) := by decide +kernel
theorem dL_garble_18 : decode cL_garble 18 = .ok (.ireturn, 1) := by decide +kernel
theorem dL_garble_19 : decode cL_garble 19 = .ok (.astore 5, 2) := by decide +kernel
theorem dL_garble_21 : decode cL_garble 21 = .ok (.iconst 2, 1) := by decide +kernel
theorem dL_garble_22 : decode cL_garble 22 = .ok (.ireturn, 1) := by decide +kernel
theorem dL_garble_23 : decode cL_garble 23 = .ok (.astore 5, 2) := by decide +kernel
theorem dL_garble_25 : decode cL_garble 25 = .ok (.iconst 3, 1) := by decide +kernel
theorem dL_garble_26 : decode cL_garble 26 = .ok (.ireturn, 1) := by decide +kernel
theorem dL_garble_27 : decode cL_garble 27 = .ok (.iconst 0, 1) := by decide +kernel
theorem dL_garble_28 : decode cL_garble 28 = .ok (.ireturn, 1) := by decide +kernel
theorem dL_swap_0 : decode cL_swap 0 = .ok (.aload_n 3, 1) := by decide +kernel
theorem dL_swap_1 : decode cL_swap 1 = .ok (.iconst 0, 1) := by decide +kernel
theorem dL_swap_2 : decode cL_swap 2 = .ok (.aload_n 0, 1) := by decide +kernel
theorem dL_swap_3 : decode cL_swap 3 = .ok (.iload_n 1, 1) := by decide +kernel
theorem dL_swap_4 : decode cL_swap 4 = .ok (.iload_n 2, 1) := by decide +kernel
theorem dL_swap_5 : decode cL_swap 5 = .ok (.invokevirtual 67, 3) := by decide +kernel
theorem dL_swap_8 : decode cL_swap 8 = .ok (.i2l, 1) := by decide +kernel
theorem dL_swap_9 : decode cL_swap 9 = .ok (.lastore, 1) := by decide +kernel
theorem dL_swap_10 : decode cL_swap 10 = .ok (.goto 11, 3) := by decide +kernel
theorem dL_swap_13 : decode cL_swap 13 = .ok (.astore 4, 2) := by decide +kernel
theorem dL_swap_15 : decode cL_swap 15 = .ok (.iconst 1, 1) := by decide +kernel
theorem dL_swap_16 : decode cL_swap 16 = .ok (.ireturn, 1) := by decide +kernel
theorem dL_swap_17 : decode cL_swap 17 = .ok (.astore 4, 2) := by decide +kernel
theorem dL_swap_19 : decode cL_swap 19 = .ok (.iconst 2, 1) := by decide +kernel
theorem dL_swap_20 : decode cL_swap 20 = .ok (.ireturn, 1) := by decide +kernel
theorem dL_swap_21 : decode cL_swap 21 = .ok (.iconst 0, 1) := by decide +kernel
theorem dL_swap_22 : decode cL_swap 22 = .ok (.ireturn, 1) := by decide +kernel
theorem dL_decode_0 : decode cL_decode 0 = .ok (.aload_n 2, 1) := by decide +kernel
theorem dL_decode_1 : decode cL_decode 1 = .ok (.iconst 0, 1) := by decide +kernel
theorem dL_decode_2 : decode cL_decode 2 = .ok (.aload_n 0, 1) := by decide +kernel
theorem dL_decode_3 : decode cL_decode 3 = .ok (.iload_n 1, 1) := by decide +kernel
theorem dL_decode_4 : decode cL_decode 4 = .ok (.invokevirtual 70, 3) := by decide +kernel
theorem dL_decode_7 : decode cL_decode 7 = .ok (.i2l, 1) := by decide +kernel
theorem dL_decode_8 : decode cL_decode 8 = .ok (.lastore, 1) := by decide +kernel
theorem dL_decode_9 : decode cL_decode 9 = .ok (.goto 6, 3) := by decide +kernel
theorem dL_decode_12 : decode cL_decode 12 = .ok (.astore_n 3, 1) := by decide +kernel
theorem dL_decode_13 : decode cL_decode 13 = .ok (.iconst 1, 1) := by decide +kernel
theorem dL_decode_14 : decode cL_decode 14 = .ok (.ireturn, 1) := by decide +kernel
theorem dL_decode_15 : decode cL_decode 15 = .ok (.iconst 0, 1) := by decide +kernel
theorem dL_decode_16 : decode cL_decode 16 = .ok (.ireturn, 1) := by decide +kernel
theorem dL_how_0 : decode cL_how 0 = .ok (.aload_n 2, 1) := by decide +kernel
theorem dL_how_1 : decode cL_how 1 = .ok (.iconst 0, 1) := by decide +kernel
theorem dL_how_2 : decode cL_how 2 = .ok (.aload_n 0, 1) := by decide +kernel
theorem dL_how_3 : decode cL_how 3 = .ok (.iload_n 1, 1) := by decide +kernel
theorem dL_how_4 : decode cL_how 4 = .ok (.invokevirtual 73, 3) := by decide +kernel
theorem dL_how_7 : decode cL_how 7 = .ok (.i2l, 1) := by decide +kernel
theorem dL_how_8 : decode cL_how 8 = .ok (.lastore, 1) := by decide +kernel
theorem dL_how_9 : decode cL_how 9 = .ok (.goto 6, 3) := by decide +kernel
theorem dL_how_12 : decode cL_how 12 = .ok (.astore_n 3, 1) := by decide +kernel
theorem dL_how_13 : decode cL_how 13 = .ok (.iconst 1, 1) := by decide +kernel
theorem dL_how_14 : decode cL_how 14 = .ok (.ireturn, 1) := by decide +kernel
theorem dL_how_15 : decode cL_how 15 = .ok (.iconst 0, 1) := by decide +kernel
theorem dL_how_16 : decode cL_how 16 = .ok (.ireturn, 1) := by decide +kernel
theorem dL_share_0 : decode cL_share 0 = .ok (.aload_n 2, 1) := by decide +kernel
theorem dL_share_1 : decode cL_share 1 = .ok (.iconst 0, 1) := by decide +kernel
theorem dL_share_2 : decode cL_share 2 = .ok (.aload_n 0, 1) := by decide +kernel
theorem dL_share_3 : decode cL_share 3 = .ok (.iload_n 1, 1) := by decide +kernel
theorem dL_share_4 : decode cL_share 4 = .ok (.invokevirtual 76, 3) := by decide +kernel
theorem dL_share_7 : decode cL_share 7 = .ok (.dastore, 1) := by decide +kernel
theorem dL_share_8 : decode cL_share 8 = .ok (.goto 6, 3) := by decide +kernel
theorem dL_share_11 : decode cL_share 11 = .ok (.astore_n 3, 1) := by decide +kernel
theorem dL_share_12 : decode cL_share 12 = .ok (.iconst 1, 1) := by decide +kernel
theorem dL_share_13 : decode cL_share 13 = .ok (.ireturn, 1) := by decide +kernel
theorem dL_share_14 : decode cL_share 14 = .ok (.iconst 0, 1) := by decide +kernel
theorem dL_share_15 : decode cL_share 15 = .ok (.ireturn, 1) := by decide +kernel
theorem dL_propose_0 : decode cL_propose 0 = .ok (.aload_n 2, 1) := by decide +kernel
theorem dL_propose_1 : decode cL_propose 1 = .ok (.iconst 0, 1) := by decide +kernel
theorem dL_propose_2 : decode cL_propose 2 = .ok (.aload_n 0, 1) := by decide +kernel
theorem dL_propose_3 : decode cL_propose 3 = .ok (.iload_n 1, 1) := by decide +kernel
theorem dL_propose_4 : decode cL_propose 4 = .ok (.invokevirtual 80, 3) := by decide +kernel
theorem dL_propose_7 : decode cL_propose 7 = .ok (.i2l, 1) := by decide +kernel
theorem dL_propose_8 : decode cL_propose 8 = .ok (.lastore, 1) := by decide +kernel
theorem dL_propose_9 : decode cL_propose 9 = .ok (.goto 6, 3) := by decide +kernel
theorem dL_propose_12 : decode cL_propose 12 = .ok (.astore_n 3, 1) := by decide +kernel
theorem dL_propose_13 : decode cL_propose 13 = .ok (.iconst 1, 1) := by decide +kernel
theorem dL_propose_14 : decode cL_propose 14 = .ok (.ireturn, 1) := by decide +kernel
theorem dL_propose_15 : decode cL_propose 15 = .ok (.iconst 0, 1) := by decide +kernel
theorem dL_propose_16 : decode cL_propose 16 = .ok (.ireturn, 1) := by decide +kernel
theorem dL_learn_0 : decode cL_learn 0 = .ok (.aload_n 3, 1) := by decide +kernel
theorem dL_learn_1 : decode cL_learn 1 = .ok (.iconst 0, 1) := by decide +kernel
theorem dL_learn_2 : decode cL_learn 2 = .ok (.aload_n 0, 1) := by decide +kernel
theorem dL_learn_3 : decode cL_learn 3 = .ok (.iload_n 1, 1) := by decide +kernel
theorem dL_learn_4 : decode cL_learn 4 = .ok (.iload_n 2, 1) := by decide +kernel
theorem dL_learn_5 : decode cL_learn 5 = .ok (.invokevirtual 83, 3) := by decide +kernel
theorem dL_learn_8 : decode cL_learn 8 = .ok (.i2l, 1) := by decide +kernel
theorem dL_learn_9 : decode cL_learn 9 = .ok (.lastore, 1) := by decide +kernel
theorem dL_learn_10 : decode cL_learn 10 = .ok (.goto 11, 3) := by decide +kernel
theorem dL_learn_13 : decode cL_learn 13 = .ok (.astore 4, 2) := by decide +kernel
theorem dL_learn_15 : decode cL_learn 15 = .ok (.iconst 1, 1) := by decide +kernel
theorem dL_learn_16 : decode cL_learn 16 = .ok (.ireturn, 1) := by decide +kernel
theorem dL_learn_17 : decode cL_learn 17 = .ok (.astore 4, 2) := by decide +kernel
theorem dL_learn_19 : decode cL_learn 19 = .ok (.iconst 2, 1) := by decide +kernel
theorem dL_learn_20 : decode cL_learn 20 = .ok (.ireturn, 1) := by decide +kernel
theorem dL_learn_21 : decode cL_learn 21 = .ok (.iconst 0, 1) := by decide +kernel
theorem dL_learn_22 : decode cL_learn 22 = .ok (.ireturn, 1) := by decide +kernel
theorem dL_law_0 : decode cL_law 0 = .ok (.new 8, 3) := by decide +kernel
theorem dL_law_3 : decode cL_law 3 = .ok (.dup, 1) := by decide +kernel
theorem dL_law_4 : decode cL_law 4 = .ok (.invokespecial 86, 3) := by decide +kernel
theorem dL_law_7 : decode cL_law 7 = .ok (.astore_n 1, 1) := by decide +kernel
theorem dL_law_8 : decode cL_law 8 = .ok (.new 87, 3) := by decide +kernel
theorem dL_law_11 : decode cL_law 11 = .ok (.dup, 1) := by decide +kernel
theorem dL_law_12 : decode cL_law 12 = .ok (.invokespecial 89, 3) := by decide +kernel
theorem dL_law_15 : decode cL_law 15 = .ok (.astore_n 2, 1) := by decide +kernel
theorem dL_law_16 : decode cL_law 16 = .ok (.iconst 1, 1) := by decide +kernel
theorem dL_law_17 : decode cL_law 17 = .ok (.newarray .long, 2) := by decide +kernel
theorem dL_law_19 : decode cL_law 19 = .ok (.astore_n 3, 1) := by decide +kernel
theorem dL_law_20 : decode cL_law 20 = .ok (.iconst 1, 1) := by decide +kernel
theorem dL_law_21 : decode cL_law 21 = .ok (.newarray .double, 2) := by decide +kernel
theorem dL_law_23 : decode cL_law 23 = .ok (.astore 4, 2) := by decide +kernel
theorem dL_law_25 : decode cL_law 25 = .ok (.iconst 0, 1) := by decide +kernel
theorem dL_law_26 : decode cL_law 26 = .ok (.istore 5, 2) := by decide +kernel
theorem dL_law_28 : decode cL_law 28 = .ok (.iload 5, 2) := by decide +kernel
theorem dL_law_30 : decode cL_law 30 = .ok (.aload_n 0, 1) := by decide +kernel
theorem dL_law_31 : decode cL_law 31 = .ok (.arraylength, 1) := by decide +kernel
theorem dL_law_32 : decode cL_law 32 = .ok (.iconst 4, 1) := by decide +kernel
theorem dL_law_33 : decode cL_law 33 = .ok (.isub, 1) := by decide +kernel
theorem dL_law_34 : decode cL_law 34 = .ok (.if_icmp .gt 1608, 3) := by decide +kernel
theorem dL_law_37 : decode cL_law 37 = .ok (.aload_n 0, 1) := by decide +kernel
theorem dL_law_38 : decode cL_law 38 = .ok (.iload 5, 2) := by decide +kernel
theorem dL_law_40 : decode cL_law 40 = .ok (.iaload, 1) := by decide +kernel
theorem dL_law_41 : decode cL_law 41 = .ok (.bipush 31, 2) := by decide +kernel
theorem dL_law_43 : decode cL_law 43 = .ok (.iand, 1) := by decide +kernel
theorem dL_law_44 : decode cL_law 44 = .ok (.tableswitch 1592 0 27 #[128, 184, 197, 210, 266, 310, 366, 434, 502, 570, 638, 706, 762, 842, 910, 966, 1022, 1035, 1091, 1171, 1239, 1295, 1351, 1364, 1377, 1454, 1510, 1578], 128) := by decide +kernel
theorem dL_law_172 : decode cL_law 172 = .ok (.aload_n 1, 1) := by decide +kernel
theorem dL_law_173 : decode cL_law 173 = .ok (.aload_n 0, 1) := by decide +kernel
theorem dL_law_174 : decode cL_law 174 = .ok (.iload 5, 2) := by decide +kernel
theorem dL_law_176 : decode cL_law 176 = .ok (.iconst 1, 1) := by decide +kernel
theorem dL_law_177 : decode cL_law 177 = .ok (.iadd, 1) := by decide +kernel
theorem dL_law_178 : decode cL_law 178 = .ok (.iaload, 1) := by decide +kernel
theorem dL_law_179 : decode cL_law 179 = .ok (.aload_n 3, 1) := by decide +kernel
theorem dL_law_180 : decode cL_law 180 = .ok (.invokestatic 90, 3) := by decide +kernel
theorem dL_law_183 : decode cL_law 183 = .ok (.istore 6, 2) := by decide +kernel
theorem dL_law_185 : decode cL_law 185 = .ok (.aload_n 2, 1) := by decide +kernel
theorem dL_law_186 : decode cL_law 186 = .ok (.aload_n 0, 1) := by decide +kernel
theorem dL_law_187 : decode cL_law 187 = .ok (.iload 5, 2) := by decide +kernel
theorem dL_law_189 : decode cL_law 189 = .ok (.iconst 1, 1) := by decide +kernel
theorem dL_law_190 : decode cL_law 190 = .ok (.iadd, 1) := by decide +kernel
theorem dL_law_191 : decode cL_law 191 = .ok (.iaload, 1) := by decide +kernel
theorem dL_law_192 : decode cL_law 192 = .ok (.invokevirtual 95, 3) := by decide +kernel
theorem dL_law_195 : decode cL_law 195 = .ok (.istore 7, 2) := by decide +kernel
theorem dL_law_197 : decode cL_law 197 = .ok (.aload_n 2, 1) := by decide +kernel
theorem dL_law_198 : decode cL_law 198 = .ok (.invokevirtual 96, 3) := by decide +kernel
theorem dL_law_201 : decode cL_law 201 = .ok (.iload 6, 2) := by decide +kernel
theorem dL_law_203 : decode cL_law 203 = .ok (.if_icmp .eq 5, 3) := by decide +kernel
theorem dL_law_206 : decode cL_law 206 = .ok (.iconst 0, 1) := by decide +kernel
theorem dL_law_207 : decode cL_law 207 = .ok (.ireturn, 1) := by decide +kernel
theorem dL_law_208 : decode cL_law 208 = .ok (.iload 6, 2) := by decide +kernel
theorem dL_law_210 : decode cL_law 210 = .ok (.ifCond .ne 15, 3) := by decide +kernel
theorem dL_law_213 : decode cL_law 213 = .ok (.aload_n 3, 1) := by decide +kernel
theorem dL_law_214 : decode cL_law 214 = .ok (.iconst 0, 1) := by decide +kernel
theorem dL_law_215 : decode cL_law 215 = .ok (.laload, 1) := by decide +kernel
theorem dL_law_216 : decode cL_law 216 = .ok (.iload 7, 2) := by decide +kernel
theorem dL_law_218 : decode cL_law 218 = .ok (.i2l, 1) := by decide +kernel
theorem dL_law_219 : decode cL_law 219 = .ok (.lcmp, 1) := by decide +kernel
theorem dL_law_220 : decode cL_law 220 = .ok (.ifCond .eq 5, 3) := by decide +kernel
theorem dL_law_223 : decode cL_law 223 = .ok (.iconst 0, 1) := by decide +kernel
theorem dL_law_224 : decode cL_law 224 = .ok (.ireturn, 1) := by decide +kernel
theorem dL_law_225 : decode cL_law 225 = .ok (.goto 1411, 3) := by decide +kernel
theorem dL_law_228 : decode cL_law 228 = .ok (.aload_n 1, 1) := by decide +kernel
theorem dL_law_229 : decode cL_law 229 = .ok (.invokevirtual 99, 3) := by decide +kernel
theorem dL_law_232 : decode cL_law 232 = .ok (.aload_n 2, 1) := by decide +kernel
theorem dL_law_233 : decode cL_law 233 = .ok (.invokevirtual 102, 3) := by decide +kernel
theorem dL_law_236 : decode cL_law 236 = .ok (.if_icmp .eq 1400, 3) := by decide +kernel
theorem dL_law_239 : decode cL_law 239 = .ok (.iconst 0, 1) := by decide +kernel
theorem dL_law_240 : decode cL_law 240 = .ok (.ireturn, 1) := by decide +kernel
theorem dL_law_241 : decode cL_law 241 = .ok (.aload_n 1, 1) := by decide +kernel
theorem dL_law_242 : decode cL_law 242 = .ok (.invokevirtual 103, 3) := by decide +kernel
theorem dL_law_245 : decode cL_law 245 = .ok (.aload_n 2, 1) := by decide +kernel
theorem dL_law_246 : decode cL_law 246 = .ok (.invokevirtual 106, 3) := by decide +kernel
theorem dL_law_249 : decode cL_law 249 = .ok (.if_icmp .eq 1387, 3) := by decide +kernel
theorem dL_law_252 : decode cL_law 252 = .ok (.iconst 0, 1) := by decide +kernel
theorem dL_law_253 : decode cL_law 253 = .ok (.ireturn, 1) := by decide +kernel
theorem dL_law_254 : decode cL_law 254 = .ok (.aload_n 1, 1) := by decide +kernel
theorem dL_law_255 : decode cL_law 255 = .ok (.aload_n 0, 1) := by decide +kernel
theorem dL_law_256 : decode cL_law 256 = .ok (.iload 5, 2) := by decide +kernel
theorem dL_law_258 : decode cL_law 258 = .ok (.iconst 1, 1) := by decide +kernel
theorem dL_law_259 : decode cL_law 259 = .ok (.iadd, 1) := by decide +kernel
theorem dL_law_260 : decode cL_law 260 = .ok (.iaload, 1) := by decide +kernel
theorem dL_law_261 : decode cL_law 261 = .ok (.aload_n 3, 1) := by decide +kernel
theorem dL_law_262 : decode cL_law 262 = .ok (.invokestatic 107, 3) := by decide +kernel
theorem dL_law_265 : decode cL_law 265 = .ok (.istore 6, 2) := by decide +kernel
theorem dL_law_267 : decode cL_law 267 = .ok (.aload_n 2, 1) := by decide +kernel
theorem dL_law_268 : decode cL_law 268 = .ok (.aload_n 0, 1) := by decide +kernel
theorem dL_law_269 : decode cL_law 269 = .ok (.iload 5, 2) := by decide +kernel
theorem dL_law_271 : decode cL_law 271 = .ok (.iconst 1, 1) := by decide +kernel
theorem dL_law_272 : decode cL_law 272 = .ok (.iadd, 1) := by decide +kernel
theorem dL_law_273 : decode cL_law 273 = .ok (.iaload, 1) := by decide +kernel
theorem dL_law_274 : decode cL_law 274 = .ok (.invokevirtual 109, 3) := by decide +kernel
theorem dL_law_277 : decode cL_law 277 = .ok (.istore 7, 2) := by decide +kernel
theorem dL_law_279 : decode cL_law 279 = .ok (.aload_n 2, 1) := by decide +kernel
theorem dL_law_280 : decode cL_law 280 = .ok (.invokevirtual 96, 3) := by decide +kernel
theorem dL_law_283 : decode cL_law 283 = .ok (.iload 6, 2) := by decide +kernel
theorem dL_law_285 : decode cL_law 285 = .ok (.if_icmp .eq 5, 3) := by decide +kernel
theorem dL_law_288 : decode cL_law 288 = .ok (.iconst 0, 1) := by decide +kernel
theorem dL_law_289 : decode cL_law 289 = .ok (.ireturn, 1) := by decide +kernel
theorem dL_law_290 : decode cL_law 290 = .ok (.iload 6, 2) := by decide +kernel
theorem dL_law_292 : decode cL_law 292 = .ok (.ifCond .ne 15, 3) := by decide +kernel
theorem dL_law_295 : decode cL_law 295 = .ok (.aload_n 3, 1) := by decide +kernel
theorem dL_law_296 : decode cL_law 296 = .ok (.iconst 0, 1) := by decide +kernel
theorem dL_law_297 : decode cL_law 297 = .ok (.laload, 1) := by decide +kernel
theorem dL_law_298 : decode cL_law 298 = .ok (.iload 7, 2) := by decide +kernel
theorem dL_law_300 : decode cL_law 300 = .ok (.i2l, 1) := by decide +kernel
theorem dL_law_301 : decode cL_law 301 = .ok (.lcmp, 1) := by decide +kernel
theorem dL_law_302 : decode cL_law 302 = .ok (.ifCond .eq 5, 3) := by decide +kernel
theorem dL_law_305 : decode cL_law 305 = .ok (.iconst 0, 1) := by decide +kernel
theorem dL_law_306 : decode cL_law 306 = .ok (.ireturn, 1) := by decide +kernel
theorem dL_law_307 : decode cL_law 307 = .ok (.goto 1329, 3) := by decide +kernel
theorem dL_law_310 : decode cL_law 310 = .ok (.aload_n 1, 1) := by decide +kernel
theorem dL_law_311 : decode cL_law 311 = .ok (.aload_n 3, 1) := by decide +kernel
theorem dL_law_312 : decode cL_law 312 = .ok (.invokestatic 110, 3) := by decide +kernel
theorem dL_law_315 : decode cL_law 315 = .ok (.istore 6, 2) := by decide +kernel
theorem dL_law_317 : decode cL_law 317 = .ok (.aload_n 2, 1) := by decide +kernel
theorem dL_law_318 : decode cL_law 318 = .ok (.invokevirtual 113, 3) := by decide +kernel
theorem dL_law_321 : decode cL_law 321 = .ok (.istore 7, 2) := by decide +kernel
theorem dL_law_323 : decode cL_law 323 = .ok (.aload_n 2, 1) := by decide +kernel
theorem dL_law_324 : decode cL_law 324 = .ok (.invokevirtual 96, 3) := by decide +kernel
theorem dL_law_327 : decode cL_law 327 = .ok (.iload 6, 2) := by decide +kernel
theorem dL_law_329 : decode cL_law 329 = .ok (.if_icmp .eq 5, 3) := by decide +kernel
theorem dL_law_332 : decode cL_law 332 = .ok (.iconst 0, 1) := by decide +kernel
theorem dL_law_333 : decode cL_law 333 = .ok (.ireturn, 1) := by decide +kernel
theorem dL_law_334 : decode cL_law 334 = .ok (.iload 6, 2) := by decide +kernel
theorem dL_law_336 : decode cL_law 336 = .ok (.ifCond .ne 15, 3) := by decide +kernel
theorem dL_law_339 : decode cL_law 339 = .ok (.aload_n 3, 1) := by decide +kernel
theorem dL_law_340 : decode cL_law 340 = .ok (.iconst 0, 1) := by decide +kernel
theorem dL_law_341 : decode cL_law 341 = .ok (.laload, 1) := by decide +kernel
theorem dL_law_342 : decode cL_law 342 = .ok (.iload 7, 2) := by decide +kernel
theorem dL_law_344 : decode cL_law 344 = .ok (.i2l, 1) := by decide +kernel
theorem dL_law_345 : decode cL_law 345 = .ok (.lcmp, 1) := by decide +kernel
theorem dL_law_346 : decode cL_law 346 = .ok (.ifCond .eq 5, 3) := by decide +kernel
theorem dL_law_349 : decode cL_law 349 = .ok (.iconst 0, 1) := by decide +kernel
theorem dL_law_350 : decode cL_law 350 = .ok (.ireturn, 1) := by decide +kernel
theorem dL_law_351 : decode cL_law 351 = .ok (.goto 1285, 3) := by decide +kernel
theorem dL_law_354 : decode cL_law 354 = .ok (.aload_n 1, 1) := by decide +kernel
theorem dL_law_355 : decode cL_law 355 = .ok (.aload_n 0, 1) := by decide +kernel
theorem dL_law_356 : decode cL_law 356 = .ok (.iload 5, 2) := by decide +kernel
theorem dL_law_358 : decode cL_law 358 = .ok (.iconst 1, 1) := by decide +kernel
theorem dL_law_359 : decode cL_law 359 = .ok (.iadd, 1) := by decide +kernel
theorem dL_law_360 : decode cL_law 360 = .ok (.iaload, 1) := by decide +kernel
theorem dL_law_361 : decode cL_law 361 = .ok (.aload_n 3, 1) := by decide +kernel
theorem dL_law_362 : decode cL_law 362 = .ok (.invokestatic 114, 3) := by decide +kernel
theorem dL_law_365 : decode cL_law 365 = .ok (.istore 6, 2) := by decide +kernel
theorem dL_law_367 : decode cL_law 367 = .ok (.aload_n 2, 1) := by decide +kernel
theorem dL_law_368 : decode cL_law 368 = .ok (.aload_n 0, 1) := by decide +kernel
theorem dL_law_369 : decode cL_law 369 = .ok (.iload 5, 2) := by decide +kernel
theorem dL_law_371 : decode cL_law 371 = .ok (.iconst 1, 1) := by decide +kernel
theorem dL_law_372 : decode cL_law 372 = .ok (.iadd, 1) := by decide +kernel
theorem dL_law_373 : decode cL_law 373 = .ok (.iaload, 1) := by decide +kernel
theorem dL_law_374 : decode cL_law 374 = .ok (.invokevirtual 116, 3) := by decide +kernel
theorem dL_law_377 : decode cL_law 377 = .ok (.istore 7, 2) := by decide +kernel
theorem dL_law_379 : decode cL_law 379 = .ok (.aload_n 2, 1) := by decide +kernel
theorem dL_law_380 : decode cL_law 380 = .ok (.invokevirtual 96, 3) := by decide +kernel
theorem dL_law_383 : decode cL_law 383 = .ok (.iload 6, 2) := by decide +kernel
theorem dL_law_385 : decode cL_law 385 = .ok (.if_icmp .eq 5, 3) := by decide +kernel
theorem dL_law_388 : decode cL_law 388 = .ok (.iconst 0, 1) := by decide +kernel
theorem dL_law_389 : decode cL_law 389 = .ok (.ireturn, 1) := by decide +kernel
theorem dL_law_390 : decode cL_law 390 = .ok (.iload 6, 2) := by decide +kernel
theorem dL_law_392 : decode cL_law 392 = .ok (.ifCond .ne 15, 3) := by decide +kernel
theorem dL_law_395 : decode cL_law 395 = .ok (.aload_n 3, 1) := by decide +kernel
theorem dL_law_396 : decode cL_law 396 = .ok (.iconst 0, 1) := by decide +kernel
theorem dL_law_397 : decode cL_law 397 = .ok (.laload, 1) := by decide +kernel
theorem dL_law_398 : decode cL_law 398 = .ok (.iload 7, 2) := by decide +kernel
theorem dL_law_400 : decode cL_law 400 = .ok (.i2l, 1) := by decide +kernel
theorem dL_law_401 : decode cL_law 401 = .ok (.lcmp, 1) := by decide +kernel
theorem dL_law_402 : decode cL_law 402 = .ok (.ifCond .eq 5, 3) := by decide +kernel
theorem dL_law_405 : decode cL_law 405 = .ok (.iconst 0, 1) := by decide +kernel
theorem dL_law_406 : decode cL_law 406 = .ok (.ireturn, 1) := by decide +kernel
theorem dL_law_407 : decode cL_law 407 = .ok (.goto 1229, 3) := by decide +kernel
theorem dL_law_410 : decode cL_law 410 = .ok (.aload_n 1, 1) := by decide +kernel
theorem dL_law_411 : decode cL_law 411 = .ok (.aload_n 0, 1) := by decide +kernel
theorem dL_law_412 : decode cL_law 412 = .ok (.iload 5, 2) := by decide +kernel
theorem dL_law_414 : decode cL_law 414 = .ok (.iconst 1, 1) := by decide +kernel
theorem dL_law_415 : decode cL_law 415 = .ok (.iadd, 1) := by decide +kernel
theorem dL_law_416 : decode cL_law 416 = .ok (.iaload, 1) := by decide +kernel
theorem dL_law_417 : decode cL_law 417 = .ok (.aload_n 0, 1) := by decide +kernel
theorem dL_law_418 : decode cL_law 418 = .ok (.iload 5, 2) := by decide +kernel
theorem dL_law_420 : decode cL_law 420 = .ok (.iconst 2, 1) := by decide +kernel
theorem dL_law_421 : decode cL_law 421 = .ok (.iadd, 1) := by decide +kernel
theorem dL_law_422 : decode cL_law 422 = .ok (.iaload, 1) := by decide +kernel
theorem dL_law_423 : decode cL_law 423 = .ok (.aload_n 3, 1) := by decide +kernel
theorem dL_law_424 : decode cL_law 424 = .ok (.invokestatic 117, 3) := by decide +kernel
theorem dL_law_427 : decode cL_law 427 = .ok (.istore 6, 2) := by decide +kernel
theorem dL_law_429 : decode cL_law 429 = .ok (.aload_n 2, 1) := by decide +kernel
theorem dL_law_430 : decode cL_law 430 = .ok (.aload_n 0, 1) := by decide +kernel
theorem dL_law_431 : decode cL_law 431 = .ok (.iload 5, 2) := by decide +kernel
theorem dL_law_433 : decode cL_law 433 = .ok (.iconst 1, 1) := by decide +kernel
theorem dL_law_434 : decode cL_law 434 = .ok (.iadd, 1) := by decide +kernel
theorem dL_law_435 : decode cL_law 435 = .ok (.iaload, 1) := by decide +kernel
theorem dL_law_436 : decode cL_law 436 = .ok (.aload_n 0, 1) := by decide +kernel
theorem dL_law_437 : decode cL_law 437 = .ok (.iload 5, 2) := by decide +kernel
theorem dL_law_439 : decode cL_law 439 = .ok (.iconst 2, 1) := by decide +kernel
theorem dL_law_440 : decode cL_law 440 = .ok (.iadd, 1) := by decide +kernel
theorem dL_law_441 : decode cL_law 441 = .ok (.iaload, 1) := by decide +kernel
theorem dL_law_442 : decode cL_law 442 = .ok (.invokevirtual 120, 3) := by decide +kernel
theorem dL_law_445 : decode cL_law 445 = .ok (.istore 7, 2) := by decide +kernel
theorem dL_law_447 : decode cL_law 447 = .ok (.aload_n 2, 1) := by decide +kernel
theorem dL_law_448 : decode cL_law 448 = .ok (.invokevirtual 96, 3) := by decide +kernel
theorem dL_law_451 : decode cL_law 451 = .ok (.iload 6, 2) := by decide +kernel
theorem dL_law_453 : decode cL_law 453 = .ok (.if_icmp .eq 5, 3) := by decide +kernel
theorem dL_law_456 : decode cL_law 456 = .ok (.iconst 0, 1) := by decide +kernel
theorem dL_law_457 : decode cL_law 457 = .ok (.ireturn, 1) := by decide +kernel
theorem dL_law_458 : decode cL_law 458 = .ok (.iload 6, 2) := by decide +kernel
theorem dL_law_460 : decode cL_law 460 = .ok (.ifCond .ne 15, 3) := by decide +kernel
theorem dL_law_463 : decode cL_law 463 = .ok (.aload_n 3, 1) := by decide +kernel
theorem dL_law_464 : decode cL_law 464 = .ok (.iconst 0, 1) := by decide +kernel
theorem dL_law_465 : decode cL_law 465 = .ok (.laload, 1) := by decide +kernel
theorem dL_law_466 : decode cL_law 466 = .ok (.iload 7, 2) := by decide +kernel
theorem dL_law_468 : decode cL_law 468 = .ok (.i2l, 1) := by decide +kernel
theorem dL_law_469 : decode cL_law 469 = .ok (.lcmp, 1) := by decide +kernel
theorem dL_law_470 : decode cL_law 470 = .ok (.ifCond .eq 5, 3) := by decide +kernel
theorem dL_law_473 : decode cL_law 473 = .ok (.iconst 0, 1) := by decide +kernel
theorem dL_law_474 : decode cL_law 474 = .ok (.ireturn, 1) := by decide +kernel
theorem dL_law_475 : decode cL_law 475 = .ok (.goto 1161, 3) := by decide +kernel
theorem dL_law_478 : decode cL_law 478 = .ok (.aload_n 1, 1) := by decide +kernel
theorem dL_law_479 : decode cL_law 479 = .ok (.aload_n 0, 1) := by decide +kernel
theorem dL_law_480 : decode cL_law 480 = .ok (.iload 5, 2) := by decide +kernel
theorem dL_law_482 : decode cL_law 482 = .ok (.iconst 1, 1) := by decide +kernel
theorem dL_law_483 : decode cL_law 483 = .ok (.iadd, 1) := by decide +kernel
theorem dL_law_484 : decode cL_law 484 = .ok (.iaload, 1) := by decide +kernel
theorem dL_law_485 : decode cL_law 485 = .ok (.aload_n 0, 1) := by decide +kernel
theorem dL_law_486 : decode cL_law 486 = .ok (.iload 5, 2) := by decide +kernel
theorem dL_law_488 : decode cL_law 488 = .ok (.iconst 2, 1) := by decide +kernel
theorem dL_law_489 : decode cL_law 489 = .ok (.iadd, 1) := by decide +kernel
theorem dL_law_490 : decode cL_law 490 = .ok (.iaload, 1) := by decide +kernel
theorem dL_law_491 : decode cL_law 491 = .ok (.aload_n 3, 1) := by decide +kernel
theorem dL_law_492 : decode cL_law 492 = .ok (.invokestatic 121, 3) := by decide +kernel
theorem dL_law_495 : decode cL_law 495 = .ok (.istore 6, 2) := by decide +kernel
theorem dL_law_497 : decode cL_law 497 = .ok (.aload_n 2, 1) := by decide +kernel
theorem dL_law_498 : decode cL_law 498 = .ok (.aload_n 0, 1) := by decide +kernel
theorem dL_law_499 : decode cL_law 499 = .ok (.iload 5, 2) := by decide +kernel
theorem dL_law_501 : decode cL_law 501 = .ok (.iconst 1, 1) := by decide +kernel
theorem dL_law_502 : decode cL_law 502 = .ok (.iadd, 1) := by decide +kernel
theorem dL_law_503 : decode cL_law 503 = .ok (.iaload, 1) := by decide +kernel
theorem dL_law_504 : decode cL_law 504 = .ok (.aload_n 0, 1) := by decide +kernel
theorem dL_law_505 : decode cL_law 505 = .ok (.iload 5, 2) := by decide +kernel
theorem dL_law_507 : decode cL_law 507 = .ok (.iconst 2, 1) := by decide +kernel
theorem dL_law_508 : decode cL_law 508 = .ok (.iadd, 1) := by decide +kernel
theorem dL_law_509 : decode cL_law 509 = .ok (.iaload, 1) := by decide +kernel
theorem dL_law_510 : decode cL_law 510 = .ok (.invokevirtual 123, 3) := by decide +kernel
theorem dL_law_513 : decode cL_law 513 = .ok (.istore 7, 2) := by decide +kernel
theorem dL_law_515 : decode cL_law 515 = .ok (.aload_n 2, 1) := by decide +kernel
theorem dL_law_516 : decode cL_law 516 = .ok (.invokevirtual 96, 3) := by decide +kernel
theorem dL_law_519 : decode cL_law 519 = .ok (.iload 6, 2) := by decide +kernel
theorem dL_law_521 : decode cL_law 521 = .ok (.if_icmp .eq 5, 3) := by decide +kernel
theorem dL_law_524 : decode cL_law 524 = .ok (.iconst 0, 1) := by decide +kernel
theorem dL_law_525 : decode cL_law 525 = .ok (.ireturn, 1) := by decide +kernel
theorem dL_law_526 : decode cL_law 526 = .ok (.iload 6, 2) := by decide +kernel
theorem dL_law_528 : decode cL_law 528 = .ok (.ifCond .ne 15, 3) := by decide +kernel
theorem dL_law_531 : decode cL_law 531 = .ok (.aload_n 3, 1) := by decide +kernel
theorem dL_law_532 : decode cL_law 532 = .ok (.iconst 0, 1) := by decide +kernel
theorem dL_law_533 : decode cL_law 533 = .ok (.laload, 1) := by decide +kernel
theorem dL_law_534 : decode cL_law 534 = .ok (.iload 7, 2) := by decide +kernel
theorem dL_law_536 : decode cL_law 536 = .ok (.i2l, 1) := by decide +kernel
theorem dL_law_537 : decode cL_law 537 = .ok (.lcmp, 1) := by decide +kernel
theorem dL_law_538 : decode cL_law 538 = .ok (.ifCond .eq 5, 3) := by decide +kernel
theorem dL_law_541 : decode cL_law 541 = .ok (.iconst 0, 1) := by decide +kernel
theorem dL_law_542 : decode cL_law 542 = .ok (.ireturn, 1) := by decide +kernel
theorem dL_law_543 : decode cL_law 543 = .ok (.goto 1093, 3) := by decide +kernel
theorem dL_law_546 : decode cL_law 546 = .ok (.aload_n 1, 1) := by decide +kernel
theorem dL_law_547 : decode cL_law 547 = .ok (.aload_n 0, 1) := by decide +kernel
theorem dL_law_548 : decode cL_law 548 = .ok (.iload 5, 2) := by decide +kernel
theorem dL_law_550 : decode cL_law 550 = .ok (.iconst 1, 1) := by decide +kernel
theorem dL_law_551 : decode cL_law 551 = .ok (.iadd, 1) := by decide +kernel
theorem dL_law_552 : decode cL_law 552 = .ok (.iaload, 1) := by decide +kernel
theorem dL_law_553 : decode cL_law 553 = .ok (.aload_n 0, 1) := by decide +kernel
theorem dL_law_554 : decode cL_law 554 = .ok (.iload 5, 2) := by decide +kernel
theorem dL_law_556 : decode cL_law 556 = .ok (.iconst 2, 1) := by decide +kernel
theorem dL_law_557 : decode cL_law 557 = .ok (.iadd, 1) := by decide +kernel
theorem dL_law_558 : decode cL_law 558 = .ok (.iaload, 1) := by decide +kernel
theorem dL_law_559 : decode cL_law 559 = .ok (.aload_n 3, 1) := by decide +kernel
theorem dL_law_560 : decode cL_law 560 = .ok (.invokestatic 124, 3) := by decide +kernel
theorem dL_law_563 : decode cL_law 563 = .ok (.istore 6, 2) := by decide +kernel
theorem dL_law_565 : decode cL_law 565 = .ok (.aload_n 2, 1) := by decide +kernel
theorem dL_law_566 : decode cL_law 566 = .ok (.aload_n 0, 1) := by decide +kernel
theorem dL_law_567 : decode cL_law 567 = .ok (.iload 5, 2) := by decide +kernel
theorem dL_law_569 : decode cL_law 569 = .ok (.iconst 1, 1) := by decide +kernel
theorem dL_law_570 : decode cL_law 570 = .ok (.iadd, 1) := by decide +kernel
theorem dL_law_571 : decode cL_law 571 = .ok (.iaload, 1) := by decide +kernel
theorem dL_law_572 : decode cL_law 572 = .ok (.aload_n 0, 1) := by decide +kernel
theorem dL_law_573 : decode cL_law 573 = .ok (.iload 5, 2) := by decide +kernel
theorem dL_law_575 : decode cL_law 575 = .ok (.iconst 2, 1) := by decide +kernel
theorem dL_law_576 : decode cL_law 576 = .ok (.iadd, 1) := by decide +kernel
theorem dL_law_577 : decode cL_law 577 = .ok (.iaload, 1) := by decide +kernel
theorem dL_law_578 : decode cL_law 578 = .ok (.invokevirtual 126, 3) := by decide +kernel
theorem dL_law_581 : decode cL_law 581 = .ok (.istore 7, 2) := by decide +kernel
theorem dL_law_583 : decode cL_law 583 = .ok (.aload_n 2, 1) := by decide +kernel
theorem dL_law_584 : decode cL_law 584 = .ok (.invokevirtual 96, 3) := by decide +kernel
theorem dL_law_587 : decode cL_law 587 = .ok (.iload 6, 2) := by decide +kernel
theorem dL_law_589 : decode cL_law 589 = .ok (.if_icmp .eq 5, 3) := by decide +kernel
theorem dL_law_592 : decode cL_law 592 = .ok (.iconst 0, 1) := by decide +kernel
theorem dL_law_593 : decode cL_law 593 = .ok (.ireturn, 1) := by decide +kernel
theorem dL_law_594 : decode cL_law 594 = .ok (.iload 6, 2) := by decide +kernel
theorem dL_law_596 : decode cL_law 596 = .ok (.ifCond .ne 15, 3) := by decide +kernel
theorem dL_law_599 : decode cL_law 599 = .ok (.aload_n 3, 1) := by decide +kernel
theorem dL_law_600 : decode cL_law 600 = .ok (.iconst 0, 1) := by decide +kernel
theorem dL_law_601 : decode cL_law 601 = .ok (.laload, 1) := by decide +kernel
theorem dL_law_602 : decode cL_law 602 = .ok (.iload 7, 2) := by decide +kernel
theorem dL_law_604 : decode cL_law 604 = .ok (.i2l, 1) := by decide +kernel
theorem dL_law_605 : decode cL_law 605 = .ok (.lcmp, 1) := by decide +kernel
theorem dL_law_606 : decode cL_law 606 = .ok (.ifCond .eq 5, 3) := by decide +kernel
theorem dL_law_609 : decode cL_law 609 = .ok (.iconst 0, 1) := by decide +kernel
theorem dL_law_610 : decode cL_law 610 = .ok (.ireturn, 1) := by decide +kernel
theorem dL_law_611 : decode cL_law 611 = .ok (.goto 1025, 3) := by decide +kernel
theorem dL_law_614 : decode cL_law 614 = .ok (.aload_n 1, 1) := by decide +kernel
theorem dL_law_615 : decode cL_law 615 = .ok (.aload_n 0, 1) := by decide +kernel
theorem dL_law_616 : decode cL_law 616 = .ok (.iload 5, 2) := by decide +kernel
theorem dL_law_618 : decode cL_law 618 = .ok (.iconst 1, 1) := by decide +kernel
theorem dL_law_619 : decode cL_law 619 = .ok (.iadd, 1) := by decide +kernel
theorem dL_law_620 : decode cL_law 620 = .ok (.iaload, 1) := by decide +kernel
theorem dL_law_621 : decode cL_law 621 = .ok (.aload_n 0, 1) := by decide +kernel
theorem dL_law_622 : decode cL_law 622 = .ok (.iload 5, 2) := by decide +kernel
theorem dL_law_624 : decode cL_law 624 = .ok (.iconst 2, 1) := by decide +kernel
theorem dL_law_625 : decode cL_law 625 = .ok (.iadd, 1) := by decide +kernel
theorem dL_law_626 : decode cL_law 626 = .ok (.iaload, 1) := by decide +kernel
theorem dL_law_627 : decode cL_law 627 = .ok (.aload_n 3, 1) := by decide +kernel
theorem dL_law_628 : decode cL_law 628 = .ok (.invokestatic 127, 3) := by decide +kernel
theorem dL_law_631 : decode cL_law 631 = .ok (.istore 6, 2) := by decide +kernel
theorem dL_law_633 : decode cL_law 633 = .ok (.aload_n 2, 1) := by decide +kernel
theorem dL_law_634 : decode cL_law 634 = .ok (.aload_n 0, 1) := by decide +kernel
theorem dL_law_635 : decode cL_law 635 = .ok (.iload 5, 2) := by decide +kernel
theorem dL_law_637 : decode cL_law 637 = .ok (.iconst 1, 1) := by decide +kernel
theorem dL_law_638 : decode cL_law 638 = .ok (.iadd, 1) := by decide +kernel
theorem dL_law_639 : decode cL_law 639 = .ok (.iaload, 1) := by decide +kernel
theorem dL_law_640 : decode cL_law 640 = .ok (.aload_n 0, 1) := by decide +kernel
theorem dL_law_641 : decode cL_law 641 = .ok (.iload 5, 2) := by decide +kernel
theorem dL_law_643 : decode cL_law 643 = .ok (.iconst 2, 1) := by decide +kernel
theorem dL_law_644 : decode cL_law 644 = .ok (.iadd, 1) := by decide +kernel
theorem dL_law_645 : decode cL_law 645 = .ok (.iaload, 1) := by decide +kernel
theorem dL_law_646 : decode cL_law 646 = .ok (.invokevirtual 129, 3) := by decide +kernel
theorem dL_law_649 : decode cL_law 649 = .ok (.istore 7, 2) := by decide +kernel
theorem dL_law_651 : decode cL_law 651 = .ok (.aload_n 2, 1) := by decide +kernel
theorem dL_law_652 : decode cL_law 652 = .ok (.invokevirtual 96, 3) := by decide +kernel
theorem dL_law_655 : decode cL_law 655 = .ok (.iload 6, 2) := by decide +kernel
theorem dL_law_657 : decode cL_law 657 = .ok (.if_icmp .eq 5, 3) := by decide +kernel
theorem dL_law_660 : decode cL_law 660 = .ok (.iconst 0, 1) := by decide +kernel
theorem dL_law_661 : decode cL_law 661 = .ok (.ireturn, 1) := by decide +kernel
theorem dL_law_662 : decode cL_law 662 = .ok (.iload 6, 2) := by decide +kernel
theorem dL_law_664 : decode cL_law 664 = .ok (.ifCond .ne 15, 3) := by decide +kernel
theorem dL_law_667 : decode cL_law 667 = .ok (.aload_n 3, 1) := by decide +kernel
theorem dL_law_668 : decode cL_law 668 = .ok (.iconst 0, 1) := by decide +kernel
theorem dL_law_669 : decode cL_law 669 = .ok (.laload, 1) := by decide +kernel
theorem dL_law_670 : decode cL_law 670 = .ok (.iload 7, 2) := by decide +kernel
theorem dL_law_672 : decode cL_law 672 = .ok (.i2l, 1) := by decide +kernel
theorem dL_law_673 : decode cL_law 673 = .ok (.lcmp, 1) := by decide +kernel
theorem dL_law_674 : decode cL_law 674 = .ok (.ifCond .eq 5, 3) := by decide +kernel
theorem dL_law_677 : decode cL_law 677 = .ok (.iconst 0, 1) := by decide +kernel
theorem dL_law_678 : decode cL_law 678 = .ok (.ireturn, 1) := by decide +kernel
theorem dL_law_679 : decode cL_law 679 = .ok (.goto 957, 3) := by decide +kernel
theorem dL_law_682 : decode cL_law 682 = .ok (.aload_n 1, 1) := by decide +kernel
theorem dL_law_683 : decode cL_law 683 = .ok (.aload_n 0, 1) := by decide +kernel
theorem dL_law_684 : decode cL_law 684 = .ok (.iload 5, 2) := by decide +kernel
theorem dL_law_686 : decode cL_law 686 = .ok (.iconst 1, 1) := by decide +kernel
theorem dL_law_687 : decode cL_law 687 = .ok (.iadd, 1) := by decide +kernel
theorem dL_law_688 : decode cL_law 688 = .ok (.iaload, 1) := by decide +kernel
theorem dL_law_689 : decode cL_law 689 = .ok (.aload_n 0, 1) := by decide +kernel
theorem dL_law_690 : decode cL_law 690 = .ok (.iload 5, 2) := by decide +kernel
theorem dL_law_692 : decode cL_law 692 = .ok (.iconst 2, 1) := by decide +kernel
theorem dL_law_693 : decode cL_law 693 = .ok (.iadd, 1) := by decide +kernel
theorem dL_law_694 : decode cL_law 694 = .ok (.iaload, 1) := by decide +kernel
theorem dL_law_695 : decode cL_law 695 = .ok (.aload_n 3, 1) := by decide +kernel
theorem dL_law_696 : decode cL_law 696 = .ok (.invokestatic 130, 3) := by decide +kernel
theorem dL_law_699 : decode cL_law 699 = .ok (.istore 6, 2) := by decide +kernel
theorem dL_law_701 : decode cL_law 701 = .ok (.aload_n 2, 1) := by decide +kernel
theorem dL_law_702 : decode cL_law 702 = .ok (.aload_n 0, 1) := by decide +kernel
theorem dL_law_703 : decode cL_law 703 = .ok (.iload 5, 2) := by decide +kernel
theorem dL_law_705 : decode cL_law 705 = .ok (.iconst 1, 1) := by decide +kernel
theorem dL_law_706 : decode cL_law 706 = .ok (.iadd, 1) := by decide +kernel
theorem dL_law_707 : decode cL_law 707 = .ok (.iaload, 1) := by decide +kernel
theorem dL_law_708 : decode cL_law 708 = .ok (.aload_n 0, 1) := by decide +kernel
theorem dL_law_709 : decode cL_law 709 = .ok (.iload 5, 2) := by decide +kernel
theorem dL_law_711 : decode cL_law 711 = .ok (.iconst 2, 1) := by decide +kernel
theorem dL_law_712 : decode cL_law 712 = .ok (.iadd, 1) := by decide +kernel
theorem dL_law_713 : decode cL_law 713 = .ok (.iaload, 1) := by decide +kernel
theorem dL_law_714 : decode cL_law 714 = .ok (.invokevirtual 132, 3) := by decide +kernel
theorem dL_law_717 : decode cL_law 717 = .ok (.istore 7, 2) := by decide +kernel
theorem dL_law_719 : decode cL_law 719 = .ok (.aload_n 2, 1) := by decide +kernel
theorem dL_law_720 : decode cL_law 720 = .ok (.invokevirtual 96, 3) := by decide +kernel
theorem dL_law_723 : decode cL_law 723 = .ok (.iload 6, 2) := by decide +kernel
theorem dL_law_725 : decode cL_law 725 = .ok (.if_icmp .eq 5, 3) := by decide +kernel
theorem dL_law_728 : decode cL_law 728 = .ok (.iconst 0, 1) := by decide +kernel
theorem dL_law_729 : decode cL_law 729 = .ok (.ireturn, 1) := by decide +kernel
theorem dL_law_730 : decode cL_law 730 = .ok (.iload 6, 2) := by decide +kernel
theorem dL_law_732 : decode cL_law 732 = .ok (.ifCond .ne 15, 3) := by decide +kernel
theorem dL_law_735 : decode cL_law 735 = .ok (.aload_n 3, 1) := by decide +kernel
theorem dL_law_736 : decode cL_law 736 = .ok (.iconst 0, 1) := by decide +kernel
theorem dL_law_737 : decode cL_law 737 = .ok (.laload, 1) := by decide +kernel
theorem dL_law_738 : decode cL_law 738 = .ok (.iload 7, 2) := by decide +kernel
theorem dL_law_740 : decode cL_law 740 = .ok (.i2l, 1) := by decide +kernel
theorem dL_law_741 : decode cL_law 741 = .ok (.lcmp, 1) := by decide +kernel
theorem dL_law_742 : decode cL_law 742 = .ok (.ifCond .eq 5, 3) := by decide +kernel
theorem dL_law_745 : decode cL_law 745 = .ok (.iconst 0, 1) := by decide +kernel
theorem dL_law_746 : decode cL_law 746 = .ok (.ireturn, 1) := by decide +kernel
theorem dL_law_747 : decode cL_law 747 = .ok (.goto 889, 3) := by decide +kernel
theorem dL_law_750 : decode cL_law 750 = .ok (.aload_n 1, 1) := by decide +kernel
theorem dL_law_751 : decode cL_law 751 = .ok (.aload_n 0, 1) := by decide +kernel
theorem dL_law_752 : decode cL_law 752 = .ok (.iload 5, 2) := by decide +kernel
theorem dL_law_754 : decode cL_law 754 = .ok (.iconst 1, 1) := by decide +kernel
theorem dL_law_755 : decode cL_law 755 = .ok (.iadd, 1) := by decide +kernel
theorem dL_law_756 : decode cL_law 756 = .ok (.iaload, 1) := by decide +kernel
theorem dL_law_757 : decode cL_law 757 = .ok (.aload_n 3, 1) := by decide +kernel
theorem dL_law_758 : decode cL_law 758 = .ok (.invokestatic 133, 3) := by decide +kernel
theorem dL_law_761 : decode cL_law 761 = .ok (.istore 6, 2) := by decide +kernel
theorem dL_law_763 : decode cL_law 763 = .ok (.aload_n 2, 1) := by decide +kernel
theorem dL_law_764 : decode cL_law 764 = .ok (.aload_n 0, 1) := by decide +kernel
theorem dL_law_765 : decode cL_law 765 = .ok (.iload 5, 2) := by decide +kernel
theorem dL_law_767 : decode cL_law 767 = .ok (.iconst 1, 1) := by decide +kernel
theorem dL_law_768 : decode cL_law 768 = .ok (.iadd, 1) := by decide +kernel
theorem dL_law_769 : decode cL_law 769 = .ok (.iaload, 1) := by decide +kernel
theorem dL_law_770 : decode cL_law 770 = .ok (.invokevirtual 135, 3) := by decide +kernel
theorem dL_law_773 : decode cL_law 773 = .ok (.istore 7, 2) := by decide +kernel
theorem dL_law_775 : decode cL_law 775 = .ok (.aload_n 2, 1) := by decide +kernel
theorem dL_law_776 : decode cL_law 776 = .ok (.invokevirtual 96, 3) := by decide +kernel
theorem dL_law_779 : decode cL_law 779 = .ok (.iload 6, 2) := by decide +kernel
theorem dL_law_781 : decode cL_law 781 = .ok (.if_icmp .eq 5, 3) := by decide +kernel
theorem dL_law_784 : decode cL_law 784 = .ok (.iconst 0, 1) := by decide +kernel
theorem dL_law_785 : decode cL_law 785 = .ok (.ireturn, 1) := by decide +kernel
theorem dL_law_786 : decode cL_law 786 = .ok (.iload 6, 2) := by decide +kernel
theorem dL_law_788 : decode cL_law 788 = .ok (.ifCond .ne 15, 3) := by decide +kernel
theorem dL_law_791 : decode cL_law 791 = .ok (.aload_n 3, 1) := by decide +kernel
theorem dL_law_792 : decode cL_law 792 = .ok (.iconst 0, 1) := by decide +kernel
theorem dL_law_793 : decode cL_law 793 = .ok (.laload, 1) := by decide +kernel
theorem dL_law_794 : decode cL_law 794 = .ok (.iload 7, 2) := by decide +kernel
theorem dL_law_796 : decode cL_law 796 = .ok (.i2l, 1) := by decide +kernel
theorem dL_law_797 : decode cL_law 797 = .ok (.lcmp, 1) := by decide +kernel
theorem dL_law_798 : decode cL_law 798 = .ok (.ifCond .eq 5, 3) := by decide +kernel
theorem dL_law_801 : decode cL_law 801 = .ok (.iconst 0, 1) := by decide +kernel
theorem dL_law_802 : decode cL_law 802 = .ok (.ireturn, 1) := by decide +kernel
theorem dL_law_803 : decode cL_law 803 = .ok (.goto 833, 3) := by decide +kernel
theorem dL_law_806 : decode cL_law 806 = .ok (.aload_n 1, 1) := by decide +kernel
theorem dL_law_807 : decode cL_law 807 = .ok (.aload_n 0, 1) := by decide +kernel
theorem dL_law_808 : decode cL_law 808 = .ok (.iload 5, 2) := by decide +kernel
theorem dL_law_810 : decode cL_law 810 = .ok (.iconst 1, 1) := by decide +kernel
theorem dL_law_811 : decode cL_law 811 = .ok (.iadd, 1) := by decide +kernel
theorem dL_law_812 : decode cL_law 812 = .ok (.iaload, 1) := by decide +kernel
theorem dL_law_813 : decode cL_law 813 = .ok (.aload_n 0, 1) := by decide +kernel
theorem dL_law_814 : decode cL_law 814 = .ok (.iload 5, 2) := by decide +kernel
theorem dL_law_816 : decode cL_law 816 = .ok (.iconst 2, 1) := by decide +kernel
theorem dL_law_817 : decode cL_law 817 = .ok (.iadd, 1) := by decide +kernel
theorem dL_law_818 : decode cL_law 818 = .ok (.iaload, 1) := by decide +kernel
theorem dL_law_819 : decode cL_law 819 = .ok (.aload_n 0, 1) := by decide +kernel
theorem dL_law_820 : decode cL_law 820 = .ok (.iload 5, 2) := by decide +kernel
theorem dL_law_822 : decode cL_law 822 = .ok (.iconst 3, 1) := by decide +kernel
theorem dL_law_823 : decode cL_law 823 = .ok (.iadd, 1) := by decide +kernel
theorem dL_law_824 : decode cL_law 824 = .ok (.iaload, 1) := by decide +kernel
theorem dL_law_825 : decode cL_law 825 = .ok (.aload_n 3, 1) := by decide +kernel
theorem dL_law_826 : decode cL_law 826 = .ok (.invokestatic 136, 3) := by decide +kernel
theorem dL_law_829 : decode cL_law 829 = .ok (.istore 6, 2) := by decide +kernel
theorem dL_law_831 : decode cL_law 831 = .ok (.aload_n 2, 1) := by decide +kernel
theorem dL_law_832 : decode cL_law 832 = .ok (.aload_n 0, 1) := by decide +kernel
theorem dL_law_833 : decode cL_law 833 = .ok (.iload 5, 2) := by decide +kernel
theorem dL_law_835 : decode cL_law 835 = .ok (.iconst 1, 1) := by decide +kernel
theorem dL_law_836 : decode cL_law 836 = .ok (.iadd, 1) := by decide +kernel
theorem dL_law_837 : decode cL_law 837 = .ok (.iaload, 1) := by decide +kernel
theorem dL_law_838 : decode cL_law 838 = .ok (.aload_n 0, 1) := by decide +kernel
theorem dL_law_839 : decode cL_law 839 = .ok (.iload 5, 2) := by decide +kernel
theorem dL_law_841 : decode cL_law 841 = .ok (.iconst 2, 1) := by decide +kernel
theorem dL_law_842 : decode cL_law 842 = .ok (.iadd, 1) := by decide +kernel
theorem dL_law_843 : decode cL_law 843 = .ok (.iaload, 1) := by decide +kernel
theorem dL_law_844 : decode cL_law 844 = .ok (.aload_n 0, 1) := by decide +kernel
theorem dL_law_845 : decode cL_law 845 = .ok (.iload 5, 2) := by decide +kernel
theorem dL_law_847 : decode cL_law 847 = .ok (.iconst 3, 1) := by decide +kernel
theorem dL_law_848 : decode cL_law 848 = .ok (.iadd, 1) := by decide +kernel
theorem dL_law_849 : decode cL_law 849 = .ok (.iaload, 1) := by decide +kernel
theorem dL_law_850 : decode cL_law 850 = .ok (.invokevirtual 139, 3) := by decide +kernel
theorem dL_law_853 : decode cL_law 853 = .ok (.istore 7, 2) := by decide +kernel
theorem dL_law_855 : decode cL_law 855 = .ok (.aload_n 2, 1) := by decide +kernel
theorem dL_law_856 : decode cL_law 856 = .ok (.invokevirtual 96, 3) := by decide +kernel
theorem dL_law_859 : decode cL_law 859 = .ok (.iload 6, 2) := by decide +kernel
theorem dL_law_861 : decode cL_law 861 = .ok (.if_icmp .eq 5, 3) := by decide +kernel
theorem dL_law_864 : decode cL_law 864 = .ok (.iconst 0, 1) := by decide +kernel
theorem dL_law_865 : decode cL_law 865 = .ok (.ireturn, 1) := by decide +kernel
theorem dL_law_866 : decode cL_law 866 = .ok (.iload 6, 2) := by decide +kernel
theorem dL_law_868 : decode cL_law 868 = .ok (.ifCond .ne 15, 3) := by decide +kernel
theorem dL_law_871 : decode cL_law 871 = .ok (.aload_n 3, 1) := by decide +kernel
theorem dL_law_872 : decode cL_law 872 = .ok (.iconst 0, 1) := by decide +kernel
theorem dL_law_873 : decode cL_law 873 = .ok (.laload, 1) := by decide +kernel
theorem dL_law_874 : decode cL_law 874 = .ok (.iload 7, 2) := by decide +kernel
theorem dL_law_876 : decode cL_law 876 = .ok (.i2l, 1) := by decide +kernel
theorem dL_law_877 : decode cL_law 877 = .ok (.lcmp, 1) := by decide +kernel
theorem dL_law_878 : decode cL_law 878 = .ok (.ifCond .eq 5, 3) := by decide +kernel
theorem dL_law_881 : decode cL_law 881 = .ok (.iconst 0, 1) := by decide +kernel
theorem dL_law_882 : decode cL_law 882 = .ok (.ireturn, 1) := by decide +kernel
theorem dL_law_883 : decode cL_law 883 = .ok (.goto 753, 3) := by decide +kernel
theorem dL_law_886 : decode cL_law 886 = .ok (.aload_n 1, 1) := by decide +kernel
theorem dL_law_887 : decode cL_law 887 = .ok (.aload_n 0, 1) := by decide +kernel
theorem dL_law_888 : decode cL_law 888 = .ok (.iload 5, 2) := by decide +kernel
theorem dL_law_890 : decode cL_law 890 = .ok (.iconst 1, 1) := by decide +kernel
theorem dL_law_891 : decode cL_law 891 = .ok (.iadd, 1) := by decide +kernel
theorem dL_law_892 : decode cL_law 892 = .ok (.iaload, 1) := by decide +kernel
theorem dL_law_893 : decode cL_law 893 = .ok (.aload_n 0, 1) := by decide +kernel
theorem dL_law_894 : decode cL_law 894 = .ok (.iload 5, 2) := by decide +kernel
theorem dL_law_896 : decode cL_law 896 = .ok (.iconst 2, 1) := by decide +kernel
theorem dL_law_897 : decode cL_law 897 = .ok (.iadd, 1) := by decide +kernel
theorem dL_law_898 : decode cL_law 898 = .ok (.iaload, 1) := by decide +kernel
theorem dL_law_899 : decode cL_law 899 = .ok (.aload_n 3, 1) := by decide +kernel
theorem dL_law_900 : decode cL_law 900 = .ok (.invokestatic 140, 3) := by decide +kernel
theorem dL_law_903 : decode cL_law 903 = .ok (.istore 6, 2) := by decide +kernel
theorem dL_law_905 : decode cL_law 905 = .ok (.aload_n 2, 1) := by decide +kernel
theorem dL_law_906 : decode cL_law 906 = .ok (.aload_n 0, 1) := by decide +kernel
theorem dL_law_907 : decode cL_law 907 = .ok (.iload 5, 2) := by decide +kernel
theorem dL_law_909 : decode cL_law 909 = .ok (.iconst 1, 1) := by decide +kernel
theorem dL_law_910 : decode cL_law 910 = .ok (.iadd, 1) := by decide +kernel
theorem dL_law_911 : decode cL_law 911 = .ok (.iaload, 1) := by decide +kernel
theorem dL_law_912 : decode cL_law 912 = .ok (.aload_n 0, 1) := by decide +kernel
theorem dL_law_913 : decode cL_law 913 = .ok (.iload 5, 2) := by decide +kernel
theorem dL_law_915 : decode cL_law 915 = .ok (.iconst 2, 1) := by decide +kernel
theorem dL_law_916 : decode cL_law 916 = .ok (.iadd, 1) := by decide +kernel
theorem dL_law_917 : decode cL_law 917 = .ok (.iaload, 1) := by decide +kernel
theorem dL_law_918 : decode cL_law 918 = .ok (.invokevirtual 142, 3) := by decide +kernel
theorem dL_law_921 : decode cL_law 921 = .ok (.istore 7, 2) := by decide +kernel
theorem dL_law_923 : decode cL_law 923 = .ok (.aload_n 2, 1) := by decide +kernel
theorem dL_law_924 : decode cL_law 924 = .ok (.invokevirtual 96, 3) := by decide +kernel
theorem dL_law_927 : decode cL_law 927 = .ok (.iload 6, 2) := by decide +kernel
theorem dL_law_929 : decode cL_law 929 = .ok (.if_icmp .eq 5, 3) := by decide +kernel
theorem dL_law_932 : decode cL_law 932 = .ok (.iconst 0, 1) := by decide +kernel
theorem dL_law_933 : decode cL_law 933 = .ok (.ireturn, 1) := by decide +kernel
theorem dL_law_934 : decode cL_law 934 = .ok (.iload 6, 2) := by decide +kernel
theorem dL_law_936 : decode cL_law 936 = .ok (.ifCond .ne 15, 3) := by decide +kernel
theorem dL_law_939 : decode cL_law 939 = .ok (.aload_n 3, 1) := by decide +kernel
theorem dL_law_940 : decode cL_law 940 = .ok (.iconst 0, 1) := by decide +kernel
theorem dL_law_941 : decode cL_law 941 = .ok (.laload, 1) := by decide +kernel
theorem dL_law_942 : decode cL_law 942 = .ok (.iload 7, 2) := by decide +kernel
theorem dL_law_944 : decode cL_law 944 = .ok (.i2l, 1) := by decide +kernel
theorem dL_law_945 : decode cL_law 945 = .ok (.lcmp, 1) := by decide +kernel
theorem dL_law_946 : decode cL_law 946 = .ok (.ifCond .eq 5, 3) := by decide +kernel
theorem dL_law_949 : decode cL_law 949 = .ok (.iconst 0, 1) := by decide +kernel
theorem dL_law_950 : decode cL_law 950 = .ok (.ireturn, 1) := by decide +kernel
theorem dL_law_951 : decode cL_law 951 = .ok (.goto 685, 3) := by decide +kernel
theorem dL_law_954 : decode cL_law 954 = .ok (.aload_n 1, 1) := by decide +kernel
theorem dL_law_955 : decode cL_law 955 = .ok (.aload_n 0, 1) := by decide +kernel
theorem dL_law_956 : decode cL_law 956 = .ok (.iload 5, 2) := by decide +kernel
theorem dL_law_958 : decode cL_law 958 = .ok (.iconst 1, 1) := by decide +kernel
theorem dL_law_959 : decode cL_law 959 = .ok (.iadd, 1) := by decide +kernel
theorem dL_law_960 : decode cL_law 960 = .ok (.iaload, 1) := by decide +kernel
theorem dL_law_961 : decode cL_law 961 = .ok (.aload_n 3, 1) := by decide +kernel
theorem dL_law_962 : decode cL_law 962 = .ok (.invokestatic 143, 3) := by decide +kernel
theorem dL_law_965 : decode cL_law 965 = .ok (.istore 6, 2) := by decide +kernel
theorem dL_law_967 : decode cL_law 967 = .ok (.aload_n 2, 1) := by decide +kernel
theorem dL_law_968 : decode cL_law 968 = .ok (.aload_n 0, 1) := by decide +kernel
theorem dL_law_969 : decode cL_law 969 = .ok (.iload 5, 2) := by decide +kernel
theorem dL_law_971 : decode cL_law 971 = .ok (.iconst 1, 1) := by decide +kernel
theorem dL_law_972 : decode cL_law 972 = .ok (.iadd, 1) := by decide +kernel
theorem dL_law_973 : decode cL_law 973 = .ok (.iaload, 1) := by decide +kernel
theorem dL_law_974 : decode cL_law 974 = .ok (.invokevirtual 145, 3) := by decide +kernel
theorem dL_law_977 : decode cL_law 977 = .ok (.istore 7, 2) := by decide +kernel
theorem dL_law_979 : decode cL_law 979 = .ok (.aload_n 2, 1) := by decide +kernel
theorem dL_law_980 : decode cL_law 980 = .ok (.invokevirtual 96, 3) := by decide +kernel
theorem dL_law_983 : decode cL_law 983 = .ok (.iload 6, 2) := by decide +kernel
theorem dL_law_985 : decode cL_law 985 = .ok (.if_icmp .eq 5, 3) := by decide +kernel
theorem dL_law_988 : decode cL_law 988 = .ok (.iconst 0, 1) := by decide +kernel
theorem dL_law_989 : decode cL_law 989 = .ok (.ireturn, 1) := by decide +kernel
theorem dL_law_990 : decode cL_law 990 = .ok (.iload 6, 2) := by decide +kernel
theorem dL_law_992 : decode cL_law 992 = .ok (.ifCond .ne 15, 3) := by decide +kernel
theorem dL_law_995 : decode cL_law 995 = .ok (.aload_n 3, 1) := by decide +kernel
theorem dL_law_996 : decode cL_law 996 = .ok (.iconst 0, 1) := by decide +kernel
theorem dL_law_997 : decode cL_law 997 = .ok (.laload, 1) := by decide +kernel
theorem dL_law_998 : decode cL_law 998 = .ok (.iload 7, 2) := by decide +kernel
theorem dL_law_1000 : decode cL_law 1000 = .ok (.i2l, 1) := by decide +kernel
theorem dL_law_1001 : decode cL_law 1001 = .ok (.lcmp, 1) := by decide +kernel
theorem dL_law_1002 : decode cL_law 1002 = .ok (.ifCond .eq 5, 3) := by decide +kernel
theorem dL_law_1005 : decode cL_law 1005 = .ok (.iconst 0, 1) := by decide +kernel
theorem dL_law_1006 : decode cL_law 1006 = .ok (.ireturn, 1) := by decide +kernel
theorem dL_law_1007 : decode cL_law 1007 = .ok (.goto 629, 3) := by decide +kernel
theorem dL_law_1010 : decode cL_law 1010 = .ok (.aload_n 1, 1) := by decide +kernel
theorem dL_law_1011 : decode cL_law 1011 = .ok (.aload_n 0, 1) := by decide +kernel
theorem dL_law_1012 : decode cL_law 1012 = .ok (.iload 5, 2) := by decide +kernel
theorem dL_law_1014 : decode cL_law 1014 = .ok (.iconst 1, 1) := by decide +kernel
theorem dL_law_1015 : decode cL_law 1015 = .ok (.iadd, 1) := by decide +kernel
theorem dL_law_1016 : decode cL_law 1016 = .ok (.iaload, 1) := by decide +kernel
theorem dL_law_1017 : decode cL_law 1017 = .ok (.aload_n 3, 1) := by decide +kernel
theorem dL_law_1018 : decode cL_law 1018 = .ok (.invokestatic 146, 3) := by decide +kernel
theorem dL_law_1021 : decode cL_law 1021 = .ok (.istore 6, 2) := by decide +kernel
theorem dL_law_1023 : decode cL_law 1023 = .ok (.aload_n 2, 1) := by decide +kernel
theorem dL_law_1024 : decode cL_law 1024 = .ok (.aload_n 0, 1) := by decide +kernel
theorem dL_law_1025 : decode cL_law 1025 = .ok (.iload 5, 2) := by decide +kernel
theorem dL_law_1027 : decode cL_law 1027 = .ok (.iconst 1, 1) := by decide +kernel
theorem dL_law_1028 : decode cL_law 1028 = .ok (.iadd, 1) := by decide +kernel
theorem dL_law_1029 : decode cL_law 1029 = .ok (.iaload, 1) := by decide +kernel
theorem dL_law_1030 : decode cL_law 1030 = .ok (.invokevirtual 148, 3) := by decide +kernel
theorem dL_law_1033 : decode cL_law 1033 = .ok (.istore 7, 2) := by decide +kernel
theorem dL_law_1035 : decode cL_law 1035 = .ok (.aload_n 2, 1) := by decide +kernel
theorem dL_law_1036 : decode cL_law 1036 = .ok (.invokevirtual 96, 3) := by decide +kernel
theorem dL_law_1039 : decode cL_law 1039 = .ok (.iload 6, 2) := by decide +kernel
theorem dL_law_1041 : decode cL_law 1041 = .ok (.if_icmp .eq 5, 3) := by decide +kernel
theorem dL_law_1044 : decode cL_law 1044 = .ok (.iconst 0, 1) := by decide +kernel
theorem dL_law_1045 : decode cL_law 1045 = .ok (.ireturn, 1) := by decide +kernel
theorem dL_law_1046 : decode cL_law 1046 = .ok (.iload 6, 2) := by decide +kernel
theorem dL_law_1048 : decode cL_law 1048 = .ok (.ifCond .ne 15, 3) := by decide +kernel
theorem dL_law_1051 : decode cL_law 1051 = .ok (.aload_n 3, 1) := by decide +kernel
theorem dL_law_1052 : decode cL_law 1052 = .ok (.iconst 0, 1) := by decide +kernel
theorem dL_law_1053 : decode cL_law 1053 = .ok (.laload, 1) := by decide +kernel
theorem dL_law_1054 : decode cL_law 1054 = .ok (.iload 7, 2) := by decide +kernel
theorem dL_law_1056 : decode cL_law 1056 = .ok (.i2l, 1) := by decide +kernel
theorem dL_law_1057 : decode cL_law 1057 = .ok (.lcmp, 1) := by decide +kernel
theorem dL_law_1058 : decode cL_law 1058 = .ok (.ifCond .eq 5, 3) := by decide +kernel
theorem dL_law_1061 : decode cL_law 1061 = .ok (.iconst 0, 1) := by decide +kernel
theorem dL_law_1062 : decode cL_law 1062 = .ok (.ireturn, 1) := by decide +kernel
theorem dL_law_1063 : decode cL_law 1063 = .ok (.goto 573, 3) := by decide +kernel
theorem dL_law_1066 : decode cL_law 1066 = .ok (.aload_n 1, 1) := by decide +kernel
theorem dL_law_1067 : decode cL_law 1067 = .ok (.invokevirtual 149, 3) := by decide +kernel
theorem dL_law_1070 : decode cL_law 1070 = .ok (.aload_n 2, 1) := by decide +kernel
theorem dL_law_1071 : decode cL_law 1071 = .ok (.invokevirtual 152, 3) := by decide +kernel
theorem dL_law_1074 : decode cL_law 1074 = .ok (.if_icmp .eq 562, 3) := by decide +kernel
theorem dL_law_1077 : decode cL_law 1077 = .ok (.iconst 0, 1) := by decide +kernel
theorem dL_law_1078 : decode cL_law 1078 = .ok (.ireturn, 1) := by decide +kernel
theorem dL_law_1079 : decode cL_law 1079 = .ok (.aload_n 1, 1) := by decide +kernel
theorem dL_law_1080 : decode cL_law 1080 = .ok (.aload_n 0, 1) := by decide +kernel
theorem dL_law_1081 : decode cL_law 1081 = .ok (.iload 5, 2) := by decide +kernel
theorem dL_law_1083 : decode cL_law 1083 = .ok (.iconst 1, 1) := by decide +kernel
theorem dL_law_1084 : decode cL_law 1084 = .ok (.iadd, 1) := by decide +kernel
theorem dL_law_1085 : decode cL_law 1085 = .ok (.iaload, 1) := by decide +kernel
theorem dL_law_1086 : decode cL_law 1086 = .ok (.aload_n 3, 1) := by decide +kernel
theorem dL_law_1087 : decode cL_law 1087 = .ok (.invokestatic 153, 3) := by decide +kernel
theorem dL_law_1090 : decode cL_law 1090 = .ok (.istore 6, 2) := by decide +kernel
theorem dL_law_1092 : decode cL_law 1092 = .ok (.aload_n 2, 1) := by decide +kernel
theorem dL_law_1093 : decode cL_law 1093 = .ok (.aload_n 0, 1) := by decide +kernel
theorem dL_law_1094 : decode cL_law 1094 = .ok (.iload 5, 2) := by decide +kernel
theorem dL_law_1096 : decode cL_law 1096 = .ok (.iconst 1, 1) := by decide +kernel
theorem dL_law_1097 : decode cL_law 1097 = .ok (.iadd, 1) := by decide +kernel
theorem dL_law_1098 : decode cL_law 1098 = .ok (.iaload, 1) := by decide +kernel
theorem dL_law_1099 : decode cL_law 1099 = .ok (.invokevirtual 155, 3) := by decide +kernel
theorem dL_law_1102 : decode cL_law 1102 = .ok (.istore 7, 2) := by decide +kernel
theorem dL_law_1104 : decode cL_law 1104 = .ok (.aload_n 2, 1) := by decide +kernel
theorem dL_law_1105 : decode cL_law 1105 = .ok (.invokevirtual 96, 3) := by decide +kernel
theorem dL_law_1108 : decode cL_law 1108 = .ok (.iload 6, 2) := by decide +kernel
theorem dL_law_1110 : decode cL_law 1110 = .ok (.if_icmp .eq 5, 3) := by decide +kernel
theorem dL_law_1113 : decode cL_law 1113 = .ok (.iconst 0, 1) := by decide +kernel
theorem dL_law_1114 : decode cL_law 1114 = .ok (.ireturn, 1) := by decide +kernel
theorem dL_law_1115 : decode cL_law 1115 = .ok (.iload 6, 2) := by decide +kernel
theorem dL_law_1117 : decode cL_law 1117 = .ok (.ifCond .ne 15, 3) := by decide +kernel
theorem dL_law_1120 : decode cL_law 1120 = .ok (.aload_n 3, 1) := by decide +kernel
theorem dL_law_1121 : decode cL_law 1121 = .ok (.iconst 0, 1) := by decide +kernel
theorem dL_law_1122 : decode cL_law 1122 = .ok (.laload, 1) := by decide +kernel
theorem dL_law_1123 : decode cL_law 1123 = .ok (.iload 7, 2) := by decide +kernel
theorem dL_law_1125 : decode cL_law 1125 = .ok (.i2l, 1) := by decide +kernel
theorem dL_law_1126 : decode cL_law 1126 = .ok (.lcmp, 1) := by decide +kernel
theorem dL_law_1127 : decode cL_law 1127 = .ok (.ifCond .eq 5, 3) := by decide +kernel
theorem dL_law_1130 : decode cL_law 1130 = .ok (.iconst 0, 1) := by decide +kernel
theorem dL_law_1131 : decode cL_law 1131 = .ok (.ireturn, 1) := by decide +kernel
theorem dL_law_1132 : decode cL_law 1132 = .ok (.goto 504, 3) := by decide +kernel
theorem dL_law_1135 : decode cL_law 1135 = .ok (.aload_n 1, 1) := by decide +kernel
theorem dL_law_1136 : decode cL_law 1136 = .ok (.aload_n 0, 1) := by decide +kernel
theorem dL_law_1137 : decode cL_law 1137 = .ok (.iload 5, 2) := by decide +kernel
theorem dL_law_1139 : decode cL_law 1139 = .ok (.iconst 1, 1) := by decide +kernel
theorem dL_law_1140 : decode cL_law 1140 = .ok (.iadd, 1) := by decide +kernel
theorem dL_law_1141 : decode cL_law 1141 = .ok (.iaload, 1) := by decide +kernel
theorem dL_law_1142 : decode cL_law 1142 = .ok (.aload_n 0, 1) := by decide +kernel
theorem dL_law_1143 : decode cL_law 1143 = .ok (.iload 5, 2) := by decide +kernel
theorem dL_law_1145 : decode cL_law 1145 = .ok (.iconst 2, 1) := by decide +kernel
theorem dL_law_1146 : decode cL_law 1146 = .ok (.iadd, 1) := by decide +kernel
theorem dL_law_1147 : decode cL_law 1147 = .ok (.iaload, 1) := by decide +kernel
theorem dL_law_1148 : decode cL_law 1148 = .ok (.aload_n 0, 1) := by decide +kernel
theorem dL_law_1149 : decode cL_law 1149 = .ok (.iload 5, 2) := by decide +kernel
theorem dL_law_1151 : decode cL_law 1151 = .ok (.iconst 3, 1) := by decide +kernel
theorem dL_law_1152 : decode cL_law 1152 = .ok (.iadd, 1) := by decide +kernel
theorem dL_law_1153 : decode cL_law 1153 = .ok (.iaload, 1) := by decide +kernel
theorem dL_law_1154 : decode cL_law 1154 = .ok (.aload_n 3, 1) := by decide +kernel
theorem dL_law_1155 : decode cL_law 1155 = .ok (.invokestatic 156, 3) := by decide +kernel
theorem dL_law_1158 : decode cL_law 1158 = .ok (.istore 6, 2) := by decide +kernel
theorem dL_law_1160 : decode cL_law 1160 = .ok (.aload_n 2, 1) := by decide +kernel
theorem dL_law_1161 : decode cL_law 1161 = .ok (.aload_n 0, 1) := by decide +kernel
theorem dL_law_1162 : decode cL_law 1162 = .ok (.iload 5, 2) := by decide +kernel
theorem dL_law_1164 : decode cL_law 1164 = .ok (.iconst 1, 1) := by decide +kernel
theorem dL_law_1165 : decode cL_law 1165 = .ok (.iadd, 1) := by decide +kernel
theorem dL_law_1166 : decode cL_law 1166 = .ok (.iaload, 1) := by decide +kernel
theorem dL_law_1167 : decode cL_law 1167 = .ok (.aload_n 0, 1) := by decide +kernel
theorem dL_law_1168 : decode cL_law 1168 = .ok (.iload 5, 2) := by decide +kernel
theorem dL_law_1170 : decode cL_law 1170 = .ok (.iconst 2, 1) := by decide +kernel
theorem dL_law_1171 : decode cL_law 1171 = .ok (.iadd, 1) := by decide +kernel
theorem dL_law_1172 : decode cL_law 1172 = .ok (.iaload, 1) := by decide +kernel
theorem dL_law_1173 : decode cL_law 1173 = .ok (.aload_n 0, 1) := by decide +kernel
theorem dL_law_1174 : decode cL_law 1174 = .ok (.iload 5, 2) := by decide +kernel
theorem dL_law_1176 : decode cL_law 1176 = .ok (.iconst 3, 1) := by decide +kernel
theorem dL_law_1177 : decode cL_law 1177 = .ok (.iadd, 1) := by decide +kernel
theorem dL_law_1178 : decode cL_law 1178 = .ok (.iaload, 1) := by decide +kernel
theorem dL_law_1179 : decode cL_law 1179 = .ok (.invokevirtual 158, 3) := by decide +kernel
theorem dL_law_1182 : decode cL_law 1182 = .ok (.istore 7, 2) := by decide +kernel
theorem dL_law_1184 : decode cL_law 1184 = .ok (.aload_n 2, 1) := by decide +kernel
theorem dL_law_1185 : decode cL_law 1185 = .ok (.invokevirtual 96, 3) := by decide +kernel
theorem dL_law_1188 : decode cL_law 1188 = .ok (.iload 6, 2) := by decide +kernel
theorem dL_law_1190 : decode cL_law 1190 = .ok (.if_icmp .eq 5, 3) := by decide +kernel
theorem dL_law_1193 : decode cL_law 1193 = .ok (.iconst 0, 1) := by decide +kernel
theorem dL_law_1194 : decode cL_law 1194 = .ok (.ireturn, 1) := by decide +kernel
theorem dL_law_1195 : decode cL_law 1195 = .ok (.iload 6, 2) := by decide +kernel
theorem dL_law_1197 : decode cL_law 1197 = .ok (.ifCond .ne 15, 3) := by decide +kernel
theorem dL_law_1200 : decode cL_law 1200 = .ok (.aload_n 3, 1) := by decide +kernel
theorem dL_law_1201 : decode cL_law 1201 = .ok (.iconst 0, 1) := by decide +kernel
theorem dL_law_1202 : decode cL_law 1202 = .ok (.laload, 1) := by decide +kernel
theorem dL_law_1203 : decode cL_law 1203 = .ok (.iload 7, 2) := by decide +kernel
theorem dL_law_1205 : decode cL_law 1205 = .ok (.i2l, 1) := by decide +kernel
theorem dL_law_1206 : decode cL_law 1206 = .ok (.lcmp, 1) := by decide +kernel
theorem dL_law_1207 : decode cL_law 1207 = .ok (.ifCond .eq 5, 3) := by decide +kernel
theorem dL_law_1210 : decode cL_law 1210 = .ok (.iconst 0, 1) := by decide +kernel
theorem dL_law_1211 : decode cL_law 1211 = .ok (.ireturn, 1) := by decide +kernel
theorem dL_law_1212 : decode cL_law 1212 = .ok (.goto 424, 3) := by decide +kernel
theorem dL_law_1215 : decode cL_law 1215 = .ok (.aload_n 1, 1) := by decide +kernel
theorem dL_law_1216 : decode cL_law 1216 = .ok (.aload_n 0, 1) := by decide +kernel
theorem dL_law_1217 : decode cL_law 1217 = .ok (.iload 5, 2) := by decide +kernel
theorem dL_law_1219 : decode cL_law 1219 = .ok (.iconst 1, 1) := by decide +kernel
theorem dL_law_1220 : decode cL_law 1220 = .ok (.iadd, 1) := by decide +kernel
theorem dL_law_1221 : decode cL_law 1221 = .ok (.iaload, 1) := by decide +kernel
theorem dL_law_1222 : decode cL_law 1222 = .ok (.aload_n 0, 1) := by decide +kernel
theorem dL_law_1223 : decode cL_law 1223 = .ok (.iload 5, 2) := by decide +kernel
theorem dL_law_1225 : decode cL_law 1225 = .ok (.iconst 2, 1) := by decide +kernel
theorem dL_law_1226 : decode cL_law 1226 = .ok (.iadd, 1) := by decide +kernel
theorem dL_law_1227 : decode cL_law 1227 = .ok (.iaload, 1) := by decide +kernel
theorem dL_law_1228 : decode cL_law 1228 = .ok (.aload_n 3, 1) := by decide +kernel
theorem dL_law_1229 : decode cL_law 1229 = .ok (.invokestatic 159, 3) := by decide +kernel
theorem dL_law_1232 : decode cL_law 1232 = .ok (.istore 6, 2) := by decide +kernel
theorem dL_law_1234 : decode cL_law 1234 = .ok (.aload_n 2, 1) := by decide +kernel
theorem dL_law_1235 : decode cL_law 1235 = .ok (.aload_n 0, 1) := by decide +kernel
theorem dL_law_1236 : decode cL_law 1236 = .ok (.iload 5, 2) := by decide +kernel
theorem dL_law_1238 : decode cL_law 1238 = .ok (.iconst 1, 1) := by decide +kernel
theorem dL_law_1239 : decode cL_law 1239 = .ok (.iadd, 1) := by decide +kernel
theorem dL_law_1240 : decode cL_law 1240 = .ok (.iaload, 1) := by decide +kernel
theorem dL_law_1241 : decode cL_law 1241 = .ok (.aload_n 0, 1) := by decide +kernel
theorem dL_law_1242 : decode cL_law 1242 = .ok (.iload 5, 2) := by decide +kernel
theorem dL_law_1244 : decode cL_law 1244 = .ok (.iconst 2, 1) := by decide +kernel
theorem dL_law_1245 : decode cL_law 1245 = .ok (.iadd, 1) := by decide +kernel
theorem dL_law_1246 : decode cL_law 1246 = .ok (.iaload, 1) := by decide +kernel
theorem dL_law_1247 : decode cL_law 1247 = .ok (.invokevirtual 161, 3) := by decide +kernel
theorem dL_law_1250 : decode cL_law 1250 = .ok (.istore 7, 2) := by decide +kernel
theorem dL_law_1252 : decode cL_law 1252 = .ok (.aload_n 2, 1) := by decide +kernel
theorem dL_law_1253 : decode cL_law 1253 = .ok (.invokevirtual 96, 3) := by decide +kernel
theorem dL_law_1256 : decode cL_law 1256 = .ok (.iload 6, 2) := by decide +kernel
theorem dL_law_1258 : decode cL_law 1258 = .ok (.if_icmp .eq 5, 3) := by decide +kernel
theorem dL_law_1261 : decode cL_law 1261 = .ok (.iconst 0, 1) := by decide +kernel
theorem dL_law_1262 : decode cL_law 1262 = .ok (.ireturn, 1) := by decide +kernel
theorem dL_law_1263 : decode cL_law 1263 = .ok (.iload 6, 2) := by decide +kernel
theorem dL_law_1265 : decode cL_law 1265 = .ok (.ifCond .ne 15, 3) := by decide +kernel
theorem dL_law_1268 : decode cL_law 1268 = .ok (.aload_n 3, 1) := by decide +kernel
theorem dL_law_1269 : decode cL_law 1269 = .ok (.iconst 0, 1) := by decide +kernel
theorem dL_law_1270 : decode cL_law 1270 = .ok (.laload, 1) := by decide +kernel
theorem dL_law_1271 : decode cL_law 1271 = .ok (.iload 7, 2) := by decide +kernel
theorem dL_law_1273 : decode cL_law 1273 = .ok (.i2l, 1) := by decide +kernel
theorem dL_law_1274 : decode cL_law 1274 = .ok (.lcmp, 1) := by decide +kernel
theorem dL_law_1275 : decode cL_law 1275 = .ok (.ifCond .eq 5, 3) := by decide +kernel
theorem dL_law_1278 : decode cL_law 1278 = .ok (.iconst 0, 1) := by decide +kernel
theorem dL_law_1279 : decode cL_law 1279 = .ok (.ireturn, 1) := by decide +kernel
theorem dL_law_1280 : decode cL_law 1280 = .ok (.goto 356, 3) := by decide +kernel
theorem dL_law_1283 : decode cL_law 1283 = .ok (.aload_n 1, 1) := by decide +kernel
theorem dL_law_1284 : decode cL_law 1284 = .ok (.aload_n 0, 1) := by decide +kernel
theorem dL_law_1285 : decode cL_law 1285 = .ok (.iload 5, 2) := by decide +kernel
theorem dL_law_1287 : decode cL_law 1287 = .ok (.iconst 1, 1) := by decide +kernel
theorem dL_law_1288 : decode cL_law 1288 = .ok (.iadd, 1) := by decide +kernel
theorem dL_law_1289 : decode cL_law 1289 = .ok (.iaload, 1) := by decide +kernel
theorem dL_law_1290 : decode cL_law 1290 = .ok (.aload_n 3, 1) := by decide +kernel
theorem dL_law_1291 : decode cL_law 1291 = .ok (.invokestatic 162, 3) := by decide +kernel
theorem dL_law_1294 : decode cL_law 1294 = .ok (.istore 6, 2) := by decide +kernel
theorem dL_law_1296 : decode cL_law 1296 = .ok (.aload_n 2, 1) := by decide +kernel
theorem dL_law_1297 : decode cL_law 1297 = .ok (.aload_n 0, 1) := by decide +kernel
theorem dL_law_1298 : decode cL_law 1298 = .ok (.iload 5, 2) := by decide +kernel
theorem dL_law_1300 : decode cL_law 1300 = .ok (.iconst 1, 1) := by decide +kernel
theorem dL_law_1301 : decode cL_law 1301 = .ok (.iadd, 1) := by decide +kernel
theorem dL_law_1302 : decode cL_law 1302 = .ok (.iaload, 1) := by decide +kernel
theorem dL_law_1303 : decode cL_law 1303 = .ok (.invokevirtual 164, 3) := by decide +kernel
theorem dL_law_1306 : decode cL_law 1306 = .ok (.istore 7, 2) := by decide +kernel
theorem dL_law_1308 : decode cL_law 1308 = .ok (.aload_n 2, 1) := by decide +kernel
theorem dL_law_1309 : decode cL_law 1309 = .ok (.invokevirtual 96, 3) := by decide +kernel
theorem dL_law_1312 : decode cL_law 1312 = .ok (.iload 6, 2) := by decide +kernel
theorem dL_law_1314 : decode cL_law 1314 = .ok (.if_icmp .eq 5, 3) := by decide +kernel
theorem dL_law_1317 : decode cL_law 1317 = .ok (.iconst 0, 1) := by decide +kernel
theorem dL_law_1318 : decode cL_law 1318 = .ok (.ireturn, 1) := by decide +kernel
theorem dL_law_1319 : decode cL_law 1319 = .ok (.iload 6, 2) := by decide +kernel
theorem dL_law_1321 : decode cL_law 1321 = .ok (.ifCond .ne 15, 3) := by decide +kernel
theorem dL_law_1324 : decode cL_law 1324 = .ok (.aload_n 3, 1) := by decide +kernel
theorem dL_law_1325 : decode cL_law 1325 = .ok (.iconst 0, 1) := by decide +kernel
theorem dL_law_1326 : decode cL_law 1326 = .ok (.laload, 1) := by decide +kernel
theorem dL_law_1327 : decode cL_law 1327 = .ok (.iload 7, 2) := by decide +kernel
theorem dL_law_1329 : decode cL_law 1329 = .ok (.i2l, 1) := by decide +kernel
theorem dL_law_1330 : decode cL_law 1330 = .ok (.lcmp, 1) := by decide +kernel
theorem dL_law_1331 : decode cL_law 1331 = .ok (.ifCond .eq 5, 3) := by decide +kernel
theorem dL_law_1334 : decode cL_law 1334 = .ok (.iconst 0, 1) := by decide +kernel
theorem dL_law_1335 : decode cL_law 1335 = .ok (.ireturn, 1) := by decide +kernel
theorem dL_law_1336 : decode cL_law 1336 = .ok (.goto 300, 3) := by decide +kernel
theorem dL_law_1339 : decode cL_law 1339 = .ok (.aload_n 1, 1) := by decide +kernel
theorem dL_law_1340 : decode cL_law 1340 = .ok (.aload_n 0, 1) := by decide +kernel
theorem dL_law_1341 : decode cL_law 1341 = .ok (.iload 5, 2) := by decide +kernel
theorem dL_law_1343 : decode cL_law 1343 = .ok (.iconst 1, 1) := by decide +kernel
theorem dL_law_1344 : decode cL_law 1344 = .ok (.iadd, 1) := by decide +kernel
theorem dL_law_1345 : decode cL_law 1345 = .ok (.iaload, 1) := by decide +kernel
theorem dL_law_1346 : decode cL_law 1346 = .ok (.aload_n 3, 1) := by decide +kernel
theorem dL_law_1347 : decode cL_law 1347 = .ok (.invokestatic 165, 3) := by decide +kernel
theorem dL_law_1350 : decode cL_law 1350 = .ok (.istore 6, 2) := by decide +kernel
theorem dL_law_1352 : decode cL_law 1352 = .ok (.aload_n 2, 1) := by decide +kernel
theorem dL_law_1353 : decode cL_law 1353 = .ok (.aload_n 0, 1) := by decide +kernel
theorem dL_law_1354 : decode cL_law 1354 = .ok (.iload 5, 2) := by decide +kernel
theorem dL_law_1356 : decode cL_law 1356 = .ok (.iconst 1, 1) := by decide +kernel
theorem dL_law_1357 : decode cL_law 1357 = .ok (.iadd, 1) := by decide +kernel
theorem dL_law_1358 : decode cL_law 1358 = .ok (.iaload, 1) := by decide +kernel
theorem dL_law_1359 : decode cL_law 1359 = .ok (.invokevirtual 167, 3) := by decide +kernel
theorem dL_law_1362 : decode cL_law 1362 = .ok (.istore 7, 2) := by decide +kernel
theorem dL_law_1364 : decode cL_law 1364 = .ok (.aload_n 2, 1) := by decide +kernel
theorem dL_law_1365 : decode cL_law 1365 = .ok (.invokevirtual 96, 3) := by decide +kernel
theorem dL_law_1368 : decode cL_law 1368 = .ok (.iload 6, 2) := by decide +kernel
theorem dL_law_1370 : decode cL_law 1370 = .ok (.if_icmp .eq 5, 3) := by decide +kernel
theorem dL_law_1373 : decode cL_law 1373 = .ok (.iconst 0, 1) := by decide +kernel
theorem dL_law_1374 : decode cL_law 1374 = .ok (.ireturn, 1) := by decide +kernel
theorem dL_law_1375 : decode cL_law 1375 = .ok (.iload 6, 2) := by decide +kernel
theorem dL_law_1377 : decode cL_law 1377 = .ok (.ifCond .ne 15, 3) := by decide +kernel
theorem dL_law_1380 : decode cL_law 1380 = .ok (.aload_n 3, 1) := by decide +kernel
theorem dL_law_1381 : decode cL_law 1381 = .ok (.iconst 0, 1) := by decide +kernel
theorem dL_law_1382 : decode cL_law 1382 = .ok (.laload, 1) := by decide +kernel
theorem dL_law_1383 : decode cL_law 1383 = .ok (.iload 7, 2) := by decide +kernel
theorem dL_law_1385 : decode cL_law 1385 = .ok (.i2l, 1) := by decide +kernel
theorem dL_law_1386 : decode cL_law 1386 = .ok (.lcmp, 1) := by decide +kernel
theorem dL_law_1387 : decode cL_law 1387 = .ok (.ifCond .eq 5, 3) := by decide +kernel
theorem dL_law_1390 : decode cL_law 1390 = .ok (.iconst 0, 1) := by decide +kernel
theorem dL_law_1391 : decode cL_law 1391 = .ok (.ireturn, 1) := by decide +kernel
theorem dL_law_1392 : decode cL_law 1392 = .ok (.goto 244, 3) := by decide +kernel
theorem dL_law_1395 : decode cL_law 1395 = .ok (.aload_n 1, 1) := by decide +kernel
theorem dL_law_1396 : decode cL_law 1396 = .ok (.invokevirtual 168, 3) := by decide +kernel
theorem dL_law_1399 : decode cL_law 1399 = .ok (.aload_n 2, 1) := by decide +kernel
theorem dL_law_1400 : decode cL_law 1400 = .ok (.invokevirtual 171, 3) := by decide +kernel
theorem dL_law_1403 : decode cL_law 1403 = .ok (.if_icmp .eq 233, 3) := by decide +kernel
theorem dL_law_1406 : decode cL_law 1406 = .ok (.iconst 0, 1) := by decide +kernel
theorem dL_law_1407 : decode cL_law 1407 = .ok (.ireturn, 1) := by decide +kernel
theorem dL_law_1408 : decode cL_law 1408 = .ok (.aload_n 1, 1) := by decide +kernel
theorem dL_law_1409 : decode cL_law 1409 = .ok (.invokevirtual 172, 3) := by decide +kernel
theorem dL_law_1412 : decode cL_law 1412 = .ok (.aload_n 2, 1) := by decide +kernel
theorem dL_law_1413 : decode cL_law 1413 = .ok (.invokevirtual 175, 3) := by decide +kernel
theorem dL_law_1416 : decode cL_law 1416 = .ok (.if_icmp .eq 220, 3) := by decide +kernel
theorem dL_law_1419 : decode cL_law 1419 = .ok (.iconst 0, 1) := by decide +kernel
theorem dL_law_1420 : decode cL_law 1420 = .ok (.ireturn, 1) := by decide +kernel
theorem dL_law_1421 : decode cL_law 1421 = .ok (.aload_n 1, 1) := by decide +kernel
theorem dL_law_1422 : decode cL_law 1422 = .ok (.aload_n 0, 1) := by decide +kernel
theorem dL_law_1423 : decode cL_law 1423 = .ok (.iload 5, 2) := by decide +kernel
theorem dL_law_1425 : decode cL_law 1425 = .ok (.iconst 1, 1) := by decide +kernel
theorem dL_law_1426 : decode cL_law 1426 = .ok (.iadd, 1) := by decide +kernel
theorem dL_law_1427 : decode cL_law 1427 = .ok (.iaload, 1) := by decide +kernel
theorem dL_law_1428 : decode cL_law 1428 = .ok (.aload 4, 2) := by decide +kernel
theorem dL_law_1430 : decode cL_law 1430 = .ok (.invokestatic 176, 3) := by decide +kernel
theorem dL_law_1433 : decode cL_law 1433 = .ok (.istore 6, 2) := by decide +kernel
theorem dL_law_1435 : decode cL_law 1435 = .ok (.aload_n 2, 1) := by decide +kernel
theorem dL_law_1436 : decode cL_law 1436 = .ok (.aload_n 0, 1) := by decide +kernel
theorem dL_law_1437 : decode cL_law 1437 = .ok (.iload 5, 2) := by decide +kernel
theorem dL_law_1439 : decode cL_law 1439 = .ok (.iconst 1, 1) := by decide +kernel
theorem dL_law_1440 : decode cL_law 1440 = .ok (.iadd, 1) := by decide +kernel
theorem dL_law_1441 : decode cL_law 1441 = .ok (.iaload, 1) := by decide +kernel
theorem dL_law_1442 : decode cL_law 1442 = .ok (.invokevirtual 179, 3) := by decide +kernel
theorem dL_law_1445 : decode cL_law 1445 = .ok (.dstore 7, 2) := by decide +kernel
theorem dL_law_1447 : decode cL_law 1447 = .ok (.aload_n 2, 1) := by decide +kernel
theorem dL_law_1448 : decode cL_law 1448 = .ok (.invokevirtual 96, 3) := by decide +kernel
theorem dL_law_1451 : decode cL_law 1451 = .ok (.iload 6, 2) := by decide +kernel
theorem dL_law_1453 : decode cL_law 1453 = .ok (.if_icmp .eq 5, 3) := by decide +kernel
theorem dL_law_1456 : decode cL_law 1456 = .ok (.iconst 0, 1) := by decide +kernel
theorem dL_law_1457 : decode cL_law 1457 = .ok (.ireturn, 1) := by decide +kernel
theorem dL_law_1458 : decode cL_law 1458 = .ok (.iload 6, 2) := by decide +kernel
theorem dL_law_1460 : decode cL_law 1460 = .ok (.ifCond .ne 35, 3) := by decide +kernel
theorem dL_law_1463 : decode cL_law 1463 = .ok (.aload 4, 2) := by decide +kernel
theorem dL_law_1465 : decode cL_law 1465 = .ok (.iconst 0, 1) := by decide +kernel
theorem dL_law_1466 : decode cL_law 1466 = .ok (.daload, 1) := by decide +kernel
theorem dL_law_1467 : decode cL_law 1467 = .ok (.dload 7, 2) := by decide +kernel
theorem dL_law_1469 : decode cL_law 1469 = .ok (.dcmp .l, 1) := by decide +kernel
theorem dL_law_1470 : decode cL_law 1470 = .ok (.ifCond .eq 25, 3) := by decide +kernel
theorem dL_law_1473 : decode cL_law 1473 = .ok (.aload 4, 2) := by decide +kernel
theorem dL_law_1475 : decode cL_law 1475 = .ok (.iconst 0, 1) := by decide +kernel
theorem dL_law_1476 : decode cL_law 1476 = .ok (.daload, 1) := by decide +kernel
theorem dL_law_1477 : decode cL_law 1477 = .ok (.aload 4, 2) := by decide +kernel
theorem dL_law_1479 : decode cL_law 1479 = .ok (.iconst 0, 1) := by decide +kernel
theorem dL_law_1480 : decode cL_law 1480 = .ok (.daload, 1) := by decide +kernel
theorem dL_law_1481 : decode cL_law 1481 = .ok (.dcmp .l, 1) := by decide +kernel
theorem dL_law_1482 : decode cL_law 1482 = .ok (.ifCond .eq 11, 3) := by decide +kernel
theorem dL_law_1485 : decode cL_law 1485 = .ok (.dload 7, 2) := by decide +kernel
theorem dL_law_1487 : decode cL_law 1487 = .ok (.dload 7, 2) := by decide +kernel
theorem dL_law_1489 : decode cL_law 1489 = .ok (.dcmp .l, 1) := by decide +kernel
theorem dL_law_1490 : decode cL_law 1490 = .ok (.ifCond .ne 5, 3) := by decide +kernel
theorem dL_law_1493 : decode cL_law 1493 = .ok (.iconst 0, 1) := by decide +kernel
theorem dL_law_1494 : decode cL_law 1494 = .ok (.ireturn, 1) := by decide +kernel
theorem dL_law_1495 : decode cL_law 1495 = .ok (.goto 141, 3) := by decide +kernel
theorem dL_law_1498 : decode cL_law 1498 = .ok (.aload_n 1, 1) := by decide +kernel
theorem dL_law_1499 : decode cL_law 1499 = .ok (.aload_n 0, 1) := by decide +kernel
theorem dL_law_1500 : decode cL_law 1500 = .ok (.iload 5, 2) := by decide +kernel
theorem dL_law_1502 : decode cL_law 1502 = .ok (.iconst 1, 1) := by decide +kernel
theorem dL_law_1503 : decode cL_law 1503 = .ok (.iadd, 1) := by decide +kernel
theorem dL_law_1504 : decode cL_law 1504 = .ok (.iaload, 1) := by decide +kernel
theorem dL_law_1505 : decode cL_law 1505 = .ok (.aload_n 3, 1) := by decide +kernel
theorem dL_law_1506 : decode cL_law 1506 = .ok (.invokestatic 180, 3) := by decide +kernel
theorem dL_law_1509 : decode cL_law 1509 = .ok (.istore 6, 2) := by decide +kernel
theorem dL_law_1511 : decode cL_law 1511 = .ok (.aload_n 2, 1) := by decide +kernel
theorem dL_law_1512 : decode cL_law 1512 = .ok (.aload_n 0, 1) := by decide +kernel
theorem dL_law_1513 : decode cL_law 1513 = .ok (.iload 5, 2) := by decide +kernel
theorem dL_law_1515 : decode cL_law 1515 = .ok (.iconst 1, 1) := by decide +kernel
theorem dL_law_1516 : decode cL_law 1516 = .ok (.iadd, 1) := by decide +kernel
theorem dL_law_1517 : decode cL_law 1517 = .ok (.iaload, 1) := by decide +kernel
theorem dL_law_1518 : decode cL_law 1518 = .ok (.invokevirtual 182, 3) := by decide +kernel
theorem dL_law_1521 : decode cL_law 1521 = .ok (.istore 7, 2) := by decide +kernel
theorem dL_law_1523 : decode cL_law 1523 = .ok (.aload_n 2, 1) := by decide +kernel
theorem dL_law_1524 : decode cL_law 1524 = .ok (.invokevirtual 96, 3) := by decide +kernel
theorem dL_law_1527 : decode cL_law 1527 = .ok (.iload 6, 2) := by decide +kernel
theorem dL_law_1529 : decode cL_law 1529 = .ok (.if_icmp .eq 5, 3) := by decide +kernel
theorem dL_law_1532 : decode cL_law 1532 = .ok (.iconst 0, 1) := by decide +kernel
theorem dL_law_1533 : decode cL_law 1533 = .ok (.ireturn, 1) := by decide +kernel
theorem dL_law_1534 : decode cL_law 1534 = .ok (.iload 6, 2) := by decide +kernel
theorem dL_law_1536 : decode cL_law 1536 = .ok (.ifCond .ne 15, 3) := by decide +kernel
theorem dL_law_1539 : decode cL_law 1539 = .ok (.aload_n 3, 1) := by decide +kernel
theorem dL_law_1540 : decode cL_law 1540 = .ok (.iconst 0, 1) := by decide +kernel
theorem dL_law_1541 : decode cL_law 1541 = .ok (.laload, 1) := by decide +kernel
theorem dL_law_1542 : decode cL_law 1542 = .ok (.iload 7, 2) := by decide +kernel
theorem dL_law_1544 : decode cL_law 1544 = .ok (.i2l, 1) := by decide +kernel
theorem dL_law_1545 : decode cL_law 1545 = .ok (.lcmp, 1) := by decide +kernel
theorem dL_law_1546 : decode cL_law 1546 = .ok (.ifCond .eq 5, 3) := by decide +kernel
theorem dL_law_1549 : decode cL_law 1549 = .ok (.iconst 0, 1) := by decide +kernel
theorem dL_law_1550 : decode cL_law 1550 = .ok (.ireturn, 1) := by decide +kernel
theorem dL_law_1551 : decode cL_law 1551 = .ok (.goto 85, 3) := by decide +kernel
theorem dL_law_1554 : decode cL_law 1554 = .ok (.aload_n 1, 1) := by decide +kernel
theorem dL_law_1555 : decode cL_law 1555 = .ok (.aload_n 0, 1) := by decide +kernel
theorem dL_law_1556 : decode cL_law 1556 = .ok (.iload 5, 2) := by decide +kernel
theorem dL_law_1558 : decode cL_law 1558 = .ok (.iconst 1, 1) := by decide +kernel
theorem dL_law_1559 : decode cL_law 1559 = .ok (.iadd, 1) := by decide +kernel
theorem dL_law_1560 : decode cL_law 1560 = .ok (.iaload, 1) := by decide +kernel
theorem dL_law_1561 : decode cL_law 1561 = .ok (.aload_n 0, 1) := by decide +kernel
theorem dL_law_1562 : decode cL_law 1562 = .ok (.iload 5, 2) := by decide +kernel
theorem dL_law_1564 : decode cL_law 1564 = .ok (.iconst 2, 1) := by decide +kernel
theorem dL_law_1565 : decode cL_law 1565 = .ok (.iadd, 1) := by decide +kernel
theorem dL_law_1566 : decode cL_law 1566 = .ok (.iaload, 1) := by decide +kernel
theorem dL_law_1567 : decode cL_law 1567 = .ok (.aload_n 3, 1) := by decide +kernel
theorem dL_law_1568 : decode cL_law 1568 = .ok (.invokestatic 183, 3) := by decide +kernel
theorem dL_law_1571 : decode cL_law 1571 = .ok (.istore 6, 2) := by decide +kernel
theorem dL_law_1573 : decode cL_law 1573 = .ok (.aload_n 2, 1) := by decide +kernel
theorem dL_law_1574 : decode cL_law 1574 = .ok (.aload_n 0, 1) := by decide +kernel
theorem dL_law_1575 : decode cL_law 1575 = .ok (.iload 5, 2) := by decide +kernel
theorem dL_law_1577 : decode cL_law 1577 = .ok (.iconst 1, 1) := by decide +kernel
theorem dL_law_1578 : decode cL_law 1578 = .ok (.iadd, 1) := by decide +kernel
theorem dL_law_1579 : decode cL_law 1579 = .ok (.iaload, 1) := by decide +kernel
theorem dL_law_1580 : decode cL_law 1580 = .ok (.aload_n 0, 1) := by decide +kernel
theorem dL_law_1581 : decode cL_law 1581 = .ok (.iload 5, 2) := by decide +kernel
theorem dL_law_1583 : decode cL_law 1583 = .ok (.iconst 2, 1) := by decide +kernel
theorem dL_law_1584 : decode cL_law 1584 = .ok (.iadd, 1) := by decide +kernel
theorem dL_law_1585 : decode cL_law 1585 = .ok (.iaload, 1) := by decide +kernel
theorem dL_law_1586 : decode cL_law 1586 = .ok (.invokevirtual 185, 3) := by decide +kernel
theorem dL_law_1589 : decode cL_law 1589 = .ok (.istore 7, 2) := by decide +kernel
theorem dL_law_1591 : decode cL_law 1591 = .ok (.aload_n 2, 1) := by decide +kernel
theorem dL_law_1592 : decode cL_law 1592 = .ok (.invokevirtual 96, 3) := by decide +kernel
theorem dL_law_1595 : decode cL_law 1595 = .ok (.iload 6, 2) := by decide +kernel
theorem dL_law_1597 : decode cL_law 1597 = .ok (.if_icmp .eq 5, 3) := by decide +kernel
theorem dL_law_1600 : decode cL_law 1600 = .ok (.iconst 0, 1) := by decide +kernel
theorem dL_law_1601 : decode cL_law 1601 = .ok (.ireturn, 1) := by decide +kernel
theorem dL_law_1602 : decode cL_law 1602 = .ok (.iload 6, 2) := by decide +kernel
theorem dL_law_1604 : decode cL_law 1604 = .ok (.ifCond .ne 15, 3) := by decide +kernel
theorem dL_law_1607 : decode cL_law 1607 = .ok (.aload_n 3, 1) := by decide +kernel
theorem dL_law_1608 : decode cL_law 1608 = .ok (.iconst 0, 1) := by decide +kernel
theorem dL_law_1609 : decode cL_law 1609 = .ok (.laload, 1) := by decide +kernel
theorem dL_law_1610 : decode cL_law 1610 = .ok (.iload 7, 2) := by decide +kernel
theorem dL_law_1612 : decode cL_law 1612 = .ok (.i2l, 1) := by decide +kernel
theorem dL_law_1613 : decode cL_law 1613 = .ok (.lcmp, 1) := by decide +kernel
theorem dL_law_1614 : decode cL_law 1614 = .ok (.ifCond .eq 5, 3) := by decide +kernel
theorem dL_law_1617 : decode cL_law 1617 = .ok (.iconst 0, 1) := by decide +kernel
theorem dL_law_1618 : decode cL_law 1618 = .ok (.ireturn, 1) := by decide +kernel
theorem dL_law_1619 : decode cL_law 1619 = .ok (.goto 17, 3) := by decide +kernel
theorem dL_law_1622 : decode cL_law 1622 = .ok (.aload_n 1, 1) := by decide +kernel
theorem dL_law_1623 : decode cL_law 1623 = .ok (.invokevirtual 186, 3) := by decide +kernel
theorem dL_law_1626 : decode cL_law 1626 = .ok (.aload_n 2, 1) := by decide +kernel
theorem dL_law_1627 : decode cL_law 1627 = .ok (.invokevirtual 190, 3) := by decide +kernel
theorem dL_law_1630 : decode cL_law 1630 = .ok (.lcmp, 1) := by decide +kernel
theorem dL_law_1631 : decode cL_law 1631 = .ok (.ifCond .eq 5, 3) := by decide +kernel
theorem dL_law_1634 : decode cL_law 1634 = .ok (.iconst 0, 1) := by decide +kernel
theorem dL_law_1635 : decode cL_law 1635 = .ok (.ireturn, 1) := by decide +kernel
theorem dL_law_1636 : decode cL_law 1636 = .ok (.iinc 5 4, 3) := by decide +kernel
theorem dL_law_1639 : decode cL_law 1639 = .ok (.goto (-1611), 3) := by decide +kernel
theorem dL_law_1642 : decode cL_law 1642 = .ok (.iconst 1, 1) := by decide +kernel
theorem dL_law_1643 : decode cL_law 1643 = .ok (.ireturn, 1) := by decide +kernel
end
section
/-! numbers: an int is told by a whole number that stands for it -/
def iI (a : Int) : Int32 := Int32.ofInt a
def lI (a : Int) : Int64 := Int64.ofInt a
def inI (a : Int) : Prop := -2147483648 ≤ a ∧ a ≤ 2147483647
abbrev vI (a : Int) : Value := .int (iI a)
abbrev vL (a : Int) : Value := .long (lI a)
theorem iI_add (a b : Int) : iI a + iI b = iI (a + b) := (Int32.ofInt_add a b).symm
theorem iI_sub (a b : Int) : iI a - iI b = iI (a - b) := (Int32.ofInt_sub a b).symm
theorem iI_mul (a b : Int) : iI a * iI b = iI (a * b) := (Int32.ofInt_mul a b).symm
theorem lI_add (a b : Int) : lI a + lI b = lI (a + b) := (Int64.ofInt_add a b).symm
theorem lI_mul (a b : Int) : lI a * lI b = lI (a * b) := (Int64.ofInt_mul a b).symm
theorem iI_toInt {a : Int} (h : inI a) : (iI a).toInt = a := Int32.toInt_ofInt_of_le (by have := h.1; omega) (by have := h.2; omega)
theorem iI_lt {a b : Int} (ha : inI a) (hb : inI b) : iI a < iI b ↔ a < b := by rw [Int32.lt_iff_toInt_lt, iI_toInt ha, iI_toInt hb]
theorem iI_le {a b : Int} (ha : inI a) (hb : inI b) : iI a ≤ iI b ↔ a ≤ b := by rw [Int32.le_iff_toInt_le, iI_toInt ha, iI_toInt hb]
theorem iI_eq {a b : Int} (ha : inI a) (hb : inI b) : iI a = iI b ↔ a = b := by rw [← Int32.toInt_inj, iI_toInt ha, iI_toInt hb]
theorem iI_0 : iI 0 = 0 := by decide
theorem inI_0 : inI 0 := by unfold inI; omega
theorem iI_clamp {a : Int} (h : inI a) : (iI a).toNatClampNeg = a.toNat := Int32.toNatClampNeg_ofInt_of_le (by have := h.1; omega) (by have := h.2; omega)
theorem iI_self (x : Int32) : iI x.toInt = x := Int32.ofInt_toInt x
theorem iI_inI (x : Int32) : inI x.toInt := by
  have h1 := Int32.le_toInt x
  have h2 := Int32.toInt_lt x
  unfold inI
  omega
theorem iI_of (x : Int32) : ∃ a : Int, inI a ∧ x = iI a := ⟨x.toInt, iI_inI x, (iI_self x).symm⟩
theorem mxI : Int32.maxValue.toInt = 2147483647 := by decide
theorem mnI : Int32.minValue.toInt = -2147483648 := by decide
theorem iI_div {a b : Int} (ha : inI a) (hb : inI b) : iI a / iI b = iI (a.tdiv b) :=
  (Int32.ofInt_tdiv (by rw [mnI]; exact ha.1) (by rw [mxI]; exact ha.2) (by rw [mnI]; exact hb.1) (by rw [mxI]; exact hb.2)).symm
theorem iI_rem {a b : Int} (ha : inI a) (hb : inI b) : iI a - iI a / iI b * iI b = iI (a.tmod b) := by
  rw [iI_div ha hb, iI_mul, iI_sub, Int.tmod_def, Int.mul_comm]
theorem iI_l {a : Int} (h : inI a) : (iI a).toInt64 = lI a := Int32.toInt64_ofInt (by rw [mnI]; exact h.1) (by rw [mxI]; exact h.2)
theorem iI_in {a : Int} {n : Nat} (h : inI a) (h0 : 0 ≤ a) (hn : a < n) : vp_in (iI a) n := by
  unfold vp_in
  rw [iI_clamp h]
  have h1 : ¬ iI a < 0 := by rw [← iI_0, iI_lt h inI_0]; omega
  rintro (q | q)
  · exact h1 q
  · omega
theorem lI_toInt {a : Int} (h : -9223372036854775808 ≤ a ∧ a ≤ 9223372036854775807) : (lI a).toInt = a := Int64.toInt_ofInt_of_le (by have := h.1; omega) (by have := h.2; omega)
theorem lI_eq {a b : Int} (ha : inI a) (hb : inI b) : lI a = lI b ↔ a = b := by
  have h1 := ha; have h2 := hb
  unfold inI at h1 h2
  rw [← Int64.toInt_inj, lI_toInt (by omega), lI_toInt (by omega)]
/-! the small machine's heap: cells by their places; places 0 to 4 are read alone -/
abbrev jE : Type := (Nat × (Nat → Int)) ⊕ (Nat × (Nat → Int)) ⊕ (Nat × (Nat → UInt64)) ⊕ (Nat × Nat × (Nat → Option Nat)) ⊕ (Nat × List Value)
def jI (n : Nat) (f : Nat → Int) : jE := .inl (n, f)
def jL (n : Nat) (f : Nat → Int) : jE := .inr (.inl (n, f))
def jD (n : Nat) (f : Nat → UInt64) : jE := .inr (.inr (.inl (n, f)))
def jQ (kd n : Nat) (g : Nat → Option Nat) : jE := .inr (.inr (.inr (.inl (kd, n, g))))
def jO (ci : Nat) (fs : List Value) : jE := .inr (.inr (.inr (.inr (ci, fs))))
abbrev jS : Type := Nat × (Nat → jE)
def jset (σ : jS) (i : Nat) (e : jE) : jS := (σ.1, fun j => if j = i then e else σ.2 j)
def jpush (σ : jS) (e : jE) : jS := (σ.1 + 1, fun j => if j = σ.1 then e else σ.2 j)
theorem jset_1 (σ : jS) (i : Nat) (e : jE) : (jset σ i e).1 = σ.1 := rfl
theorem jset_eq (σ : jS) (i : Nat) (e : jE) : (jset σ i e).2 i = e := if_pos rfl
theorem jset_ne (σ : jS) {i j : Nat} (e : jE) (h : j ≠ i) : (jset σ i e).2 j = σ.2 j := if_neg h
def tv (ad : Nat → Nat) (v : Value) : Value := match v with
  | .ref k => .ref (ad k)
  | w => w
def tE (cA : Nat → ClassId) (ad : Nat → Nat) (e : jE) : va_E := match e with
  | .inl a => .inl (cA 0, a.1, .inl (fun j => iI (a.2 j)))
  | .inr (.inl a) => .inl (cA 1, a.1, .inr (.inl (fun j => lI (a.2 j))))
  | .inr (.inr (.inl a)) => .inl (cA 2, a.1, .inr (.inr (.inr (.inl a.2))))
  | .inr (.inr (.inr (.inl a))) => .inl (cA (3 + a.1), a.2.1, .inr (.inr (.inr (.inr (fun j => (a.2.2 j).map ad)))))
  | .inr (.inr (.inr (.inr a))) => .inr (a.1, a.2.map (tv ad))
def jokv (n : Nat) (v : Value) : Prop := match v with
  | .ref k => k < n
  | _ => True
def jokE (n : Nat) (e : jE) : Prop := match e with
  | .inr (.inr (.inr (.inl a))) => ∀ j k, a.2.2 j = some k → k < n
  | .inr (.inr (.inr (.inr a))) => ∀ v ∈ a.2, jokv n v
  | _ => True
def jwf (σ : jS) : Prop := ∀ i, i < σ.1 → jokE σ.1 (σ.2 i)
theorem tv_cat (ad : Nat → Nat) (v : Value) : (tv ad v).category = v.category := by cases v <;> rfl
theorem tv_int (ad : Nat → Nat) (x : Int32) : tv ad (.int x) = .int x := rfl
theorem tv_ext {ad ad' : Nat → Nat} {n : Nat} (h : ∀ i, i < n → ad' i = ad i) {v : Value} (hv : jokv n v) : tv ad' v = tv ad v := by
  cases v <;> first | rfl | exact congrArg Value.ref (h _ hv)
theorem jokv_mono {n n' : Nat} (h : n ≤ n') {v : Value} (hv : jokv n v) : jokv n' v := by
  cases v <;> first | trivial | exact Nat.lt_of_lt_of_le hv h
theorem jokE_mono {n n' : Nat} (h : n ≤ n') {e : jE} (he : jokE n e) : jokE n' e := by
  rcases e with a | a | a | a | a
  · trivial
  · trivial
  · trivial
  · exact fun j k q => Nat.lt_of_lt_of_le (he j k q) h
  · exact fun v q => jokv_mono h (he v q)
theorem tE_ext {cA : Nat → ClassId} {ad ad' : Nat → Nat} {n : Nat} (h : ∀ i, i < n → ad' i = ad i) {e : jE} (he : jokE n e) : tE cA ad' e = tE cA ad e := by
  rcases e with a | a | a | a | a
  · rfl
  · rfl
  · rfl
  · show Sum.inl (cA (3 + a.1), a.2.1, Sum.inr (Sum.inr (Sum.inr (Sum.inr (fun j => (a.2.2 j).map ad'))))) = Sum.inl (cA (3 + a.1), a.2.1, Sum.inr (Sum.inr (Sum.inr (Sum.inr (fun j => (a.2.2 j).map ad)))))
    have : (fun j => (a.2.2 j).map ad') = (fun j => (a.2.2 j).map ad) := funext fun j => by
      cases hj : a.2.2 j with
      | none => rfl
      | some k => exact congrArg some (h k (he j k hj))
    rw [this]
  · show Sum.inr (a.1, a.2.map (tv ad')) = Sum.inr (a.1, a.2.map (tv ad))
    have : a.2.map (tv ad') = a.2.map (tv ad) := List.map_congr_left fun v hv => tv_ext h (he v hv)
    rw [this]
def jws (cA : Nat → ClassId) (ad : Nat → Nat) (σ : jS) : va_W := (List.range (σ.1 - 5)).map (fun k => (ad (k + 5), tE cA ad (σ.2 (k + 5))))
theorem jws_at {cA : Nat → ClassId} {ad : Nat → Nat} {σ : jS} {i : Nat} (h5 : 5 ≤ i) (hi : i < σ.1) : (jws cA ad σ)[i - 5]? = some (ad i, tE cA ad (σ.2 i)) := by
  unfold jws
  rw [List.getElem?_map, List.getElem?_range (by omega)]
  show some (ad (i - 5 + 5), tE cA ad (σ.2 (i - 5 + 5))) = _
  rw [show i - 5 + 5 = i by omega]
theorem jws_of {cA : Nat → ClassId} {ad : Nat → Nat} {σ : jS} {k : Nat} {q : Nat × va_E} (h : (jws cA ad σ)[k]? = some q) : k + 5 < σ.1 ∧ q = (ad (k + 5), tE cA ad (σ.2 (k + 5))) := by
  unfold jws at h
  rw [List.getElem?_map] at h
  by_cases hk : k < σ.1 - 5
  · rw [List.getElem?_range hk] at h
    exact ⟨by omega, (Option.some.inj h).symm⟩
  · rw [List.getElem?_eq_none (by simp; omega)] at h
    cases h
theorem jws_set {cA : Nat → ClassId} {ad : Nat → Nat} {σ : jS} {i : Nat} (h5 : 5 ≤ i) (hi : i < σ.1) (e : jE) : (jws cA ad σ).set (i - 5) (ad i, tE cA ad e) = jws cA ad (jset σ i e) := by
  apply List.ext_getElem?
  intro k
  by_cases hk : k = i - 5
  · subst hk
    rw [List.getElem?_set_self (by have := (List.getElem?_eq_some_iff.mp (jws_at (cA := cA) (ad := ad) h5 hi)).1; exact this), jws_at (σ := jset σ i e) h5 hi, jset_eq]
  · rw [List.getElem?_set_ne (Ne.symm hk)]
    unfold jws
    rw [List.getElem?_map, List.getElem?_map]
    show Option.map _ (List.range (σ.1 - 5))[k]? = Option.map _ (List.range (σ.1 - 5))[k]?
    by_cases hl : k < σ.1 - 5
    · rw [List.getElem?_range hl]
      show some (ad (k + 5), tE cA ad (σ.2 (k + 5))) = some (ad (k + 5), tE cA ad ((jset σ i e).2 (k + 5)))
      rw [jset_ne σ e (by omega)]
    · rw [List.getElem?_eq_none (by simp; omega)]
      rfl
theorem jws_ad {cA : Nat → ClassId} {ad ad' : Nat → Nat} {σ : jS} (hw : jwf σ) (h : ∀ i, i < σ.1 → ad' i = ad i) : jws cA ad' σ = jws cA ad σ := by
  unfold jws
  apply List.map_congr_left
  intro k hk
  have hk' : k + 5 < σ.1 := by have := List.mem_range.mp hk; omega
  rw [h _ hk', tE_ext h (hw _ hk')]
theorem jws_push {cA : Nat → ClassId} {ad ad' : Nat → Nat} {σ : jS} (hw : jwf σ) (h : ∀ i, i < σ.1 → ad' i = ad i) (h5 : 5 ≤ σ.1) (e : jE) : jws cA ad σ ++ [(ad' σ.1, tE cA ad' e)] = jws cA ad' (jpush σ e) := by
  rw [← jws_ad hw h]
  unfold jws
  rw [show (jpush σ e).1 - 5 = (σ.1 - 5) + 1 by show σ.1 + 1 - 5 = _; omega, List.range_succ, List.map_append]
  congr 1
  · apply List.map_congr_left
    intro k hk
    have hk' : k + 5 < σ.1 := by have := List.mem_range.mp hk; omega
    rw [show (jpush σ e).2 (k + 5) = σ.2 (k + 5) from if_neg (by omega)]
  · show _ = [(ad' (σ.1 - 5 + 5), tE cA ad' ((jpush σ e).2 (σ.1 - 5 + 5)))]
    rw [show σ.1 - 5 + 5 = σ.1 by omega, show (jpush σ e).2 σ.1 = e from if_pos rfl]
/-- an index: the read-only ones are int rows -/
theorem jwf_set {σ : jS} (h : jwf σ) {i : Nat} {e : jE} (he : jokE σ.1 e) : jwf (jset σ i e) := by
  intro j hj
  by_cases q : j = i
  · subst q; rw [jset_eq]; exact he
  · rw [jset_ne σ e q]; exact h j hj
theorem jwf_push {σ : jS} (h : jwf σ) {e : jE} (he : jokE (σ.1 + 1) e) : jwf (jpush σ e) := by
  intro j hj
  by_cases q : j = σ.1
  · subst q; rw [show (jpush σ e).2 σ.1 = e from if_pos rfl]; exact he
  · rw [show (jpush σ e).2 j = σ.2 j from if_neg q]
    exact jokE_mono (Nat.le_succ _) (h j (by have : j < σ.1 + 1 := hj; omega))
end
section
/-! the judgement of the small machine -/
def jNestW : Cond → Bool
  | .fieldLinkNest .. => true
  | .methodLinkNest .. => true
  | .declares .. => true
  | .castable .. => true
  | _ => false
def jNcs : List (String × String) := [("java/lang/IllegalArgumentException", "java/lang/IllegalStateException"), ("java/lang/IllegalArgumentException", "java/lang/IndexOutOfBoundsException"), ("java/lang/IllegalStateException", "java/lang/IllegalArgumentException"), ("java/lang/IllegalStateException", "java/lang/IndexOutOfBoundsException"), ("java/lang/IndexOutOfBoundsException", "java/lang/IllegalArgumentException"), ("java/lang/IndexOutOfBoundsException", "java/lang/IllegalStateException")]
def jBig : List Cond := lw_tbl.filter goodWord
def jStr : List (String × Nat × String) := [("WireBook", 54, "a plain word is 0 to 9999"), ("WireBook", 64, "the line has 40 words"), ("WireBook", 76, "no such place on the line"), ("WireBook", 82, "the line is empty"), ("WireBook", 85, "12 lines are kept"), ("WireBook", 91, "no such kept line"), ("WireBook", 231, "a code word is 0 to 11881375"), ("WireBook", 233, "no such place in a code word"), ("WireBook", 228, "no such book"), ("WireBook", 128, "the code word does not fit"), ("WireBook", 130, "a phrase has 1 to 6 words"), ("WireBook", 235, "no such entry"), ("WireBook", 147, "no such word in the phrase"), ("WireBook", 156, "a price is 1 to 5"), ("WireBook", 237, "no such group"), ("WireBook", 175, "a letter is 0 to 25"), ("WireBook", 243, "the group is a plain word"), ("WireBook", 194, "no such group was read"), ("WireBook", 207, "1 to 40 entries can be learned")]
abbrev jMt : Type := MethodName × ByteArray × Nat × Option FieldType × List (Nat × Nat × Nat × Nat)
abbrev jOut : Type := Option Value ⊕ String
abbrev jX : Type := Launch × va_G × (Nat → ClassId)
def jty (cA : Nat → ClassId) : List (ClassId × FieldType) := [(cA 0, .int), (cA 1, .long), (cA 2, .double), (cA 3, .object "WireBook$Book"), (cA 4, .array .int)]
/-- what stands outside the world: links between nest mates, static rows, the texts, what a throw needs -/
def jN (A : Nat → Prop) (ad : Nat → Nat) (σ : jS) (U : State) (H : Heap) : Prop :=
  (∀ w ∈ lw_tbl, jNestW w = true → va_Nw w U) ∧
  (va_Z "WireBook" "LETTER_UNITS" "[I" (.ref (ad 0)) A U H ∧ va_Z "WireBook" "DIGIT_UNITS" "[I" (.ref (ad 1)) A U H ∧ va_Z "WireBookModel" "LETTER_UNITS" "[I" (.ref (ad 2)) A U H ∧ va_Z "WireBookModel" "DIGIT_UNITS" "[I" (.ref (ad 3)) A U H) ∧
  (∀ i, i < 5 → ∃ (n : Nat) (f : Nat → Int), n < 2147483648 ∧ σ.2 i = jI n f ∧ va_T .int (ad i) n (fun j => .int (iI (f j))) A U H) ∧
  (vx_Zq Bundle.tN "UNASSIGNED_STACK" Bundle.steD A U H ∧ vx_Zq Bundle.tN "SUPPRESSED_SENTINEL" Bundle.listD A U H) ∧
  (∀ q ∈ jStr, ∃ a, vk_R q.1 q.2.1 q.2.2 a U) ∧ va_AO "WireBook$Book" U ∧ va_AOA .int U ∧ ∀ q ∈ jNcs, va_Nc q.1 q.2 U
theorem va_AOA.moved {t : FieldType} {u U : State} (hvm : u.vm.Alike U.vm) (h : va_AOA t u) : va_AOA t U := by
  obtain ⟨comp, c, k, h1, h2, h3, h4, h5⟩ := arrayOverA_spec h
  obtain ⟨k', hk', he⟩ := hvm.2.2 _ _ h3
  have hi : (U.vm.classes.findIdx? fun (x : Class) => match x.kind with | .array component _ => component == comp | _ => false) = some c := by
    rw [hvm.findIdx?_eq _ (fun _ => rfl)]
    exact h2
  have hkind : k'.kind = .array comp (.array t) := by rw [he]; exact h4
  have f1 : U.vm.findClass (FieldType.array t).toString = some comp := by rw [hvm.findClass]; exact h1
  have f2 : U.vm.findClass ("[" ++ (FieldType.array t).toString) = some c := by rw [hvm.findClass]; exact h5
  unfold va_AOA Cond.before Cond.holds
  simp only [Cond.value]
  rw [f1, Option.bind_some]
  refine (congrArg (fun o : Option Nat => (o.bind (fun c => (U.vm.classes[c]?).map fun (k : Class) => match k.kind with | .array _ ty => decide (ty = FieldType.array t) && decide (U.vm.findClass ("[" ++ (FieldType.array t).toString) = some c) | _ => false) == some true)) hi).trans ?_
  simp [hk', hkind, f2]
theorem jN.kept {A : Nat → Prop} {ad : Nat → Nat} {σ : jS} {U : State} {H H1 : Heap} (h : jN A ad σ U H) (hq : ∀ a : Nat, a < H.size → ¬ A a → H1[a]? = H[a]?) : jN A ad σ U H1 := by
  obtain ⟨h1, ⟨z0, z1, z2, z3⟩, h3, ⟨u0, u1⟩, h5⟩ := h
  exact ⟨h1, ⟨z0.kept hq, z1.kept hq, z2.kept hq, z3.kept hq⟩, fun i hi => by
    obtain ⟨n, f, a, b, c⟩ := h3 i hi
    exact ⟨n, f, a, b, c.kept hq⟩, ⟨u0.kept hq, u1.kept hq⟩, h5⟩
theorem jN.narrow {A B : Nat → Prop} {ad : Nat → Nat} {σ : jS} {U : State} {H : Heap} (h : jN A ad σ U H) (hq : ∀ a : Nat, B a → A a) : jN B ad σ U H := by
  obtain ⟨h1, ⟨z0, z1, z2, z3⟩, h3, ⟨u0, u1⟩, h5⟩ := h
  exact ⟨h1, ⟨z0.narrow hq, z1.narrow hq, z2.narrow hq, z3.narrow hq⟩, fun i hi => by
    obtain ⟨n, f, a, b, c⟩ := h3 i hi
    exact ⟨n, f, a, b, c.narrow hq⟩, ⟨u0.narrow hq, u1.narrow hq⟩, h5⟩
theorem jN.warm {A : Nat → Prop} {ad : Nat → Nat} {σ : jS} {s U : State} {H : Heap} (hW : s.WarmedH U.vm) (h : jN A ad σ s H) : jN A ad σ U H := by
  obtain ⟨h1, ⟨z0, z1, z2, z3⟩, h3, ⟨u0, u1⟩, h5, h6, h7, h8⟩ := h
  have hv := hW.alike
  refine ⟨fun w hw hn => ?_, ⟨z0.moved hv, z1.moved hv, z2.moved hv, z3.moved hv⟩, fun i hi => ?_, ⟨u0.moved hv, u1.moved hv⟩, fun q hq => ?_, h6.moved hv, h7.moved hv, fun q hq => (h8 q hq).moved hv⟩
  · have h9 := h1 w hw hn
    cases w <;> first | (exact absurd hn (by decide)) | exact va_Nw.warmF hW h9 | exact va_Nw.warmM hW h9 | exact va_Nw.warmD hW h9 | exact va_Nw.warmC hW h9 | simp [jNestW] at hn
  · obtain ⟨n, f, a, b, c⟩ := h3 i hi
    exact ⟨n, f, a, b, c.moved hv⟩
  · obtain ⟨a, ha⟩ := h5 q hq
    exact ⟨a, ha.warm hW⟩
theorem jN.to {A : Nat → Prop} {ad ad' : Nat → Nat} {σ σ' : jS} {U : State} {H : Heap} (h : jN A ad σ U H) (ha : ∀ i, i < 5 → ad' i = ad i) (hs : ∀ i, i < 5 → σ'.2 i = σ.2 i) : jN A ad' σ' U H := by
  obtain ⟨h1, ⟨z0, z1, z2, z3⟩, h3, h4⟩ := h
  refine ⟨h1, ⟨by rw [ha 0 (by omega)]; exact z0, by rw [ha 1 (by omega)]; exact z1, by rw [ha 2 (by omega)]; exact z2, by rw [ha 3 (by omega)]; exact z3⟩, fun i hi => ?_, h4⟩
  obtain ⟨n, f, a, b, c⟩ := h3 i hi
  exact ⟨n, f, a, by rw [hs i hi]; exact b, by rw [ha i hi]; exact c⟩
/-- what stays the same through a method -/
def jC (X : jX) (M : jMt) (rm : Room) (p : Program) (s : State) (m : MethodId) (args : Array Value) (meth : Method) (c : Code) (A : Nat → Prop) (ad0 : Nat → Nat) (σ0 : jS) : Prop :=
  (p.tables.exec = Jvm.exec ∧ c.code = M.2.1 ∧ c.maxLocals = M.2.2.1 ∧ meth.sig.returnType = M.2.2.2.1 ∧ c.exceptionTable.toList = tableOf M.2.2.2.2) ∧
  (s.vm.findClass M.1.cls = some m.cls ∧ meth.locks = false ∧ meth.name = M.1.name ∧ X.1.stackTraces = false) ∧
  (∀ w ∈ jBig, w.before args s = true) ∧ (∀ q : Nat, s.heap.size ≤ q → A q) ∧ va_K X.2.1 vwCl (jty X.2.2) s ∧ jN A ad0 σ0 s s.heap ∧ 5 ≤ σ0.1
/-- the world of the small machine in a heap -/
def jH (X : jX) (A : Nat → Prop) (ad0 : Nat → Nat) (σ0 : jS) (ad : Nat → Nat) (σ : jS) (H : Heap) : Prop :=
  va_P X.2.1 vwCl (jws X.2.2 ad σ) H ∧ va_D A (jws X.2.2 ad σ) ∧ jwf σ ∧ σ0.1 ≤ σ.1 ∧ (∀ i, i < σ0.1 → ad i = ad0 i) ∧ ∀ i, i < 5 → σ.2 i = σ0.2 i
def jQc (X : jX) (A : Nat → Prop) (ad0 : Nat → Nat) (σ0 : jS) (Q : jOut → jS → Prop) : Array Value → State → Outcome → State → Prop := fun _ st oc t =>
  (∃ (r : Option Value) (ad : Nat → Nat) (σ : jS), oc = .returned (r.map (tv ad)) ∧ Q (.inl r) σ ∧ (∀ v, r = some v → jokv σ.1 v) ∧ jH X A ad0 σ0 ad σ t.heap) ∧ va_F A st t
def jXC (X : jX) (A : Nat → Prop) (ad0 : Nat → Nat) (σ0 : jS) (Q : jOut → jS → Prop) : String → State → State → Prop := fun E st t =>
  (∃ (ad : Nat → Nat) (σ : jS), Q (.inr E) σ ∧ jH X A ad0 σ0 ad σ t.heap) ∧ va_F A st t
/-- the locals -/
def jl (ls : Array Slot) (nL : Nat) (ad : Nat → Nat) (lc : List Value) : Prop := ls.size = nL ∧ lv_wf ls ∧ ∀ (i : Nat) (v : Value), lc[i]? = some v → v ≠ Value.null → ls[i]? = some (Slot.val (tv ad v))
def jal (ad : Nat → Nat) (lc : List Value) : List (Nat × Value) := (List.range lc.length).filterMap (fun i => (lc[i]?).bind fun v => if v = .null then none else some (i, tv ad v))
theorem jal_mem {ad : Nat → Nat} {lc : List Value} {q : Nat × Value} (h : q ∈ jal ad lc) : ∃ v, lc[q.1]? = some v ∧ v ≠ .null ∧ q.2 = tv ad v := by
  obtain ⟨i, -, hi⟩ := List.mem_filterMap.mp h
  cases hv : lc[i]? with
  | none => rw [hv] at hi; cases hi
  | some v =>
    rw [hv] at hi
    have hi2 : (if v = .null then none else some (i, tv ad v)) = some q := hi
    by_cases hn : v = .null
    · rw [if_pos hn] at hi2; cases hi2
    · rw [if_neg hn] at hi2
      cases hi2
      exact ⟨v, hv, hn, rfl⟩
theorem jal_in {ad : Nat → Nat} {lc : List Value} {i : Nat} {v : Value} (h : lc[i]? = some v) (hn : v ≠ .null) : (i, tv ad v) ∈ jal ad lc := by
  refine List.mem_filterMap.mpr ⟨i, List.mem_range.mpr (List.getElem?_eq_some_iff.mp h).1, ?_⟩
  rw [h]
  exact if_neg hn
theorem jl_has {ls : Array Slot} {nL : Nat} {ad : Nat → Nat} {lc : List Value} (h : jl ls nL ad lc) : lv_has ls nL (jal ad lc) := by
  refine ⟨h.1, h.2.1, fun q hq => ?_⟩
  obtain ⟨v, h1, h2, h3⟩ := jal_mem hq
  rw [h3]
  exact h.2.2 q.1 v h1 h2
theorem jl_get {ls : Array Slot} {nL : Nat} {ad : Nat → Nat} {lc : List Value} (h : jl ls nL ad lc) {i : Nat} {v : Value} (hv : lc[i]? = some v) (hn : v ≠ .null) : ls[i]? = some (.val (tv ad v)) := h.2.2 i v hv hn
/-- the slot ahead holds no long -/
def jnc (lc : List Value) (i : Nat) : Prop := ∀ v : Value, lc[i - 1]? = some v → 1 ≤ i → v.category = 1
theorem jl_put1 {ls' : Array Slot} {nL : Nat} {ad : Nat → Nat} {lc : List Value} {i : Nat} {w : Value} (hn : jnc lc i) (h : lv_has ls' nL ((i, tv ad w) :: (jal ad lc).filter (fun q => !(q.1 == i) && !(q.1 + 1 == i && q.2.category == 2)))) : jl ls' nL ad (lc.set i w) := by
  refine ⟨h.1, h.2.1, fun j v hv hnn => ?_⟩
  by_cases hj : j = i
  · subst hj
    have hl := (List.getElem?_eq_some_iff.mp hv).1
    rw [List.getElem?_set_self (by simpa using hl)] at hv
    cases hv
    exact h.2.2 (j, tv ad w) List.mem_cons_self
  · rw [List.getElem?_set_ne (Ne.symm hj)] at hv
    refine h.2.2 (j, tv ad v) (List.mem_cons_of_mem _ (List.mem_filter.mpr ⟨jal_in hv hnn, ?_⟩))
    simp only [Bool.and_eq_true, Bool.not_eq_true', beq_eq_false_iff_ne, ne_eq, Bool.and_eq_false_iff]
    refine ⟨hj, ?_⟩
    by_cases h1 : j + 1 = i
    · right
      rw [tv_cat]
      have := hn v (by rw [show i - 1 = j by omega]; exact hv) (by omega)
      rw [this]
      decide
    · left; exact h1
theorem jl_put2 {ls' : Array Slot} {nL : Nat} {ad : Nat → Nat} {lc : List Value} {i : Nat} {w : Value} (hn : jnc lc i) (h : lv_has ls' nL ((i, tv ad w) :: (jal ad lc).filter (fun q => !(q.1 == i) && (!(q.1 == i + 1) && !(q.1 + 1 == i && q.2.category == 2))))) : jl ls' nL ad ((lc.set i w).set (i + 1) .null) := by
  refine ⟨h.1, h.2.1, fun j v hv hnn => ?_⟩
  by_cases hj2 : j = i + 1
  · subst hj2
    have hl := (List.getElem?_eq_some_iff.mp hv).1
    rw [List.getElem?_set_self (by simpa using hl)] at hv
    cases hv
    exact absurd rfl hnn
  rw [List.getElem?_set_ne (Ne.symm hj2)] at hv
  by_cases hj : j = i
  · subst hj
    have hl := (List.getElem?_eq_some_iff.mp hv).1
    rw [List.getElem?_set_self (by simpa using hl)] at hv
    cases hv
    exact h.2.2 (j, tv ad w) List.mem_cons_self
  · rw [List.getElem?_set_ne (Ne.symm hj)] at hv
    refine h.2.2 (j, tv ad v) (List.mem_cons_of_mem _ (List.mem_filter.mpr ⟨jal_in hv hnn, ?_⟩))
    simp only [Bool.and_eq_true, Bool.not_eq_true', beq_eq_false_iff_ne, ne_eq, Bool.and_eq_false_iff]
    refine ⟨hj, hj2, ?_⟩
    by_cases h1 : j + 1 = i
    · right
      rw [tv_cat]
      have := hn v (by rw [show i - 1 = j by omega]; exact hv) (by omega)
      rw [this]
      decide
    · left; exact h1
def jok (n : Nat) (l : List Value) : Prop := ∀ v ∈ l, jokv n v
theorem jok_cons {n : Nat} {v : Value} {l : List Value} (h : jokv n v) (hl : jok n l) : jok n (v :: l) := fun w hw => (List.mem_cons.mp hw).elim (fun e => e ▸ h) (hl w)
theorem jok_tl {n : Nat} {v : Value} {l : List Value} (h : jok n (v :: l)) : jok n l := fun w hw => h w (List.mem_cons_of_mem _ hw)
theorem jok_hd {n : Nat} {v : Value} {l : List Value} (h : jok n (v :: l)) : jokv n v := h v List.mem_cons_self
theorem jok_at {n : Nat} {l : List Value} (h : jok n l) {i : Nat} {v : Value} (hv : l[i]? = some v) : jokv n v := h v (List.mem_of_getElem? hv)
theorem jok_set {n : Nat} {l : List Value} (h : jok n l) {i : Nat} {v : Value} (hv : jokv n v) : jok n (l.set i v) := fun w hw => (List.mem_or_eq_of_mem_set hw).elim (h w) (fun e => e ▸ hv)
/-- from here the small machine comes to an end with Q -/
def J (X : jX) (M : jMt) (rm : Room) (pc : Nat) (lc st : List Value) (k n : Nat) (σ : jS) (Q : jOut → jS → Prop) : Prop :=
  ∀ (p : Program) (e : Env) (s : State) (m : MethodId) (args : Array Value) (below : List Frame) (meth : Method) (c : Code) (A : Nat → Prop) (ad0 : Nat → Nat) (σ0 : jS) (H : Heap) (locs : List Loc) (ls : Array Slot) (ad : Nat → Nat),
    jC X M rm p s m args meth c A ad0 σ0 → jH X A ad0 σ0 ad σ H → va_S A s.heap H locs → jl ls M.2.2.1 ad lc → jok σ.1 lc → jok σ.1 st →
    W p X.1 e rm s m args below meth c H locs k n (vx_MQ below (jQc X A ad0 σ0 Q) (jXC X A ad0 σ0 Q) args s rm.cells rm.slots A) (F0 m pc ls (st.map (tv ad)))
end
section
theorem jw_in {w : Cond} (h : w ∈ lw_tbl) (g : goodWord w = true) : w ∈ jBig := List.mem_filter.mpr ⟨h, g⟩
theorem jl_set1 {ls' : Array Slot} {nL : Nat} {ad : Nat → Nat} {lc : List Value} {i : Nat} {w : Value} {l : List (Nat × Value)} (hn : jnc lc i) (e : (i, tv ad w) :: (jal ad lc).filter (fun q => !(q.1 == i) && !(q.1 + 1 == i && q.2.category == 2)) = l) (h : lv_has ls' nL l) : jl ls' nL ad (lc.set i w) := jl_put1 hn (by rw [e]; exact h)
theorem jl_set2 {ls' : Array Slot} {nL : Nat} {ad : Nat → Nat} {lc : List Value} {i : Nat} {w : Value} {l : List (Nat × Value)} (hn : jnc lc i) (e : (i, tv ad w) :: (jal ad lc).filter (fun q => !(q.1 == i) && (!(q.1 == i + 1) && !(q.1 + 1 == i && q.2.category == 2))) = l) (h : lv_has ls' nL l) : jl ls' nL ad ((lc.set i w).set (i + 1) .null) := jl_put2 hn (by rw [e]; exact h)
theorem J.ild {X : jX} {M : jMt} {rm : Room} {pc : Nat} {lc st : List Value} {k n : Nat} {σ : jS} {Q : jOut → jS → Prop} {i : Nat} {x : Int32} (d : decode M.2.1 pc = .ok (.iload i, 2)) (h : lc[i]? = some (.int x)) (kk : J X M rm (pc + 2) lc (.int x :: st) k n σ Q) : J X M rm pc lc st k n σ Q := by
  intro p e s m args below meth c A ad0 σ0 H locs ls ad C Y hS hl ol os
  obtain ⟨⟨hx, hb, hml, hr, htab⟩, ⟨hown, hlk, hnm, hlt⟩, hts, hA, hK, hN, h5⟩ := id C
  exact lv_iload hx hb d (jl_get hl h (fun q => by cases q)) (kk p e s m args below meth c A ad0 σ0 H locs ls ad C Y hS hl ol (jok_cons trivial os))
theorem J.ild_n {X : jX} {M : jMt} {rm : Room} {pc : Nat} {lc st : List Value} {k n : Nat} {σ : jS} {Q : jOut → jS → Prop} {j : Fin 4} {x : Int32} (d : decode M.2.1 pc = .ok (.iload_n j, 1)) (h : lc[(j : Nat)]? = some (.int x)) (kk : J X M rm (pc + 1) lc (.int x :: st) k n σ Q) : J X M rm pc lc st k n σ Q := by
  intro p e s m args below meth c A ad0 σ0 H locs ls ad C Y hS hl ol os
  obtain ⟨⟨hx, hb, hml, hr, htab⟩, ⟨hown, hlk, hnm, hlt⟩, hts, hA, hK, hN, h5⟩ := id C
  exact lv_iload_n hx hb d rfl (jl_get hl h (fun q => by cases q)) (kk p e s m args below meth c A ad0 σ0 H locs ls ad C Y hS hl ol (jok_cons trivial os))
theorem J.ald {X : jX} {M : jMt} {rm : Room} {pc : Nat} {lc st : List Value} {k n : Nat} {σ : jS} {Q : jOut → jS → Prop} {i : Nat} {x : Nat} (d : decode M.2.1 pc = .ok (.aload i, 2)) (h : lc[i]? = some (.ref x)) (kk : J X M rm (pc + 2) lc (.ref x :: st) k n σ Q) : J X M rm pc lc st k n σ Q := by
  intro p e s m args below meth c A ad0 σ0 H locs ls ad C Y hS hl ol os
  obtain ⟨⟨hx, hb, hml, hr, htab⟩, ⟨hown, hlk, hnm, hlt⟩, hts, hA, hK, hN, h5⟩ := id C
  exact lv_aload hx hb d (jl_get hl h (fun q => by cases q)) (kk p e s m args below meth c A ad0 σ0 H locs ls ad C Y hS hl ol (jok_cons (jok_at ol h) os))
theorem J.ald_n {X : jX} {M : jMt} {rm : Room} {pc : Nat} {lc st : List Value} {k n : Nat} {σ : jS} {Q : jOut → jS → Prop} {j : Fin 4} {x : Nat} (d : decode M.2.1 pc = .ok (.aload_n j, 1)) (h : lc[(j : Nat)]? = some (.ref x)) (kk : J X M rm (pc + 1) lc (.ref x :: st) k n σ Q) : J X M rm pc lc st k n σ Q := by
  intro p e s m args below meth c A ad0 σ0 H locs ls ad C Y hS hl ol os
  obtain ⟨⟨hx, hb, hml, hr, htab⟩, ⟨hown, hlk, hnm, hlt⟩, hts, hA, hK, hN, h5⟩ := id C
  exact lv_aload_n hx hb d rfl (jl_get hl h (fun q => by cases q)) (kk p e s m args below meth c A ad0 σ0 H locs ls ad C Y hS hl ol (jok_cons (jok_at ol h) os))
theorem J.lld {X : jX} {M : jMt} {rm : Room} {pc : Nat} {lc st : List Value} {k n : Nat} {σ : jS} {Q : jOut → jS → Prop} {i : Nat} {x : Int64} (d : decode M.2.1 pc = .ok (.lload i, 2)) (h : lc[i]? = some (.long x)) (kk : J X M rm (pc + 2) lc (.long x :: st) k n σ Q) : J X M rm pc lc st k n σ Q := by
  intro p e s m args below meth c A ad0 σ0 H locs ls ad C Y hS hl ol os
  obtain ⟨⟨hx, hb, hml, hr, htab⟩, ⟨hown, hlk, hnm, hlt⟩, hts, hA, hK, hN, h5⟩ := id C
  exact lv_lload hx hb d (jl_get hl h (fun q => by cases q)) (kk p e s m args below meth c A ad0 σ0 H locs ls ad C Y hS hl ol (jok_cons trivial os))
theorem J.lld_n {X : jX} {M : jMt} {rm : Room} {pc : Nat} {lc st : List Value} {k n : Nat} {σ : jS} {Q : jOut → jS → Prop} {j : Fin 4} {x : Int64} (d : decode M.2.1 pc = .ok (.lload_n j, 1)) (h : lc[(j : Nat)]? = some (.long x)) (kk : J X M rm (pc + 1) lc (.long x :: st) k n σ Q) : J X M rm pc lc st k n σ Q := by
  intro p e s m args below meth c A ad0 σ0 H locs ls ad C Y hS hl ol os
  obtain ⟨⟨hx, hb, hml, hr, htab⟩, ⟨hown, hlk, hnm, hlt⟩, hts, hA, hK, hN, h5⟩ := id C
  exact lv_lload_n hx hb d rfl (jl_get hl h (fun q => by cases q)) (kk p e s m args below meth c A ad0 σ0 H locs ls ad C Y hS hl ol (jok_cons trivial os))
theorem J.dld {X : jX} {M : jMt} {rm : Room} {pc : Nat} {lc st : List Value} {k n : Nat} {σ : jS} {Q : jOut → jS → Prop} {i : Nat} {x : UInt64} (d : decode M.2.1 pc = .ok (.dload i, 2)) (h : lc[i]? = some (.double x)) (kk : J X M rm (pc + 2) lc (.double x :: st) k n σ Q) : J X M rm pc lc st k n σ Q := by
  intro p e s m args below meth c A ad0 σ0 H locs ls ad C Y hS hl ol os
  obtain ⟨⟨hx, hb, hml, hr, htab⟩, ⟨hown, hlk, hnm, hlt⟩, hts, hA, hK, hN, h5⟩ := id C
  exact lv_dload hx hb d (jl_get hl h (fun q => by cases q)) (kk p e s m args below meth c A ad0 σ0 H locs ls ad C Y hS hl ol (jok_cons trivial os))
theorem J.dld_n {X : jX} {M : jMt} {rm : Room} {pc : Nat} {lc st : List Value} {k n : Nat} {σ : jS} {Q : jOut → jS → Prop} {j : Fin 4} {x : UInt64} (d : decode M.2.1 pc = .ok (.dload_n j, 1)) (h : lc[(j : Nat)]? = some (.double x)) (kk : J X M rm (pc + 1) lc (.double x :: st) k n σ Q) : J X M rm pc lc st k n σ Q := by
  intro p e s m args below meth c A ad0 σ0 H locs ls ad C Y hS hl ol os
  obtain ⟨⟨hx, hb, hml, hr, htab⟩, ⟨hown, hlk, hnm, hlt⟩, hts, hA, hK, hN, h5⟩ := id C
  exact lv_dload_n hx hb d rfl (jl_get hl h (fun q => by cases q)) (kk p e s m args below meth c A ad0 σ0 H locs ls ad C Y hS hl ol (jok_cons trivial os))
theorem J.ist {X : jX} {M : jMt} {rm : Room} {pc : Nat} {lc st : List Value} {k n : Nat} {σ : jS} {Q : jOut → jS → Prop} {i : Nat} {x : Int32} (d : decode M.2.1 pc = .ok (.istore i, 2)) (hi : i < M.2.2.1) (hn : jnc lc i) (kk : J X M rm (pc + 2) (lc.set i (.int x)) st k n σ Q) : J X M rm pc lc (.int x :: st) k n σ Q := by
  intro p e s m args below meth c A ad0 σ0 H locs ls ad C Y hS hl ol os
  obtain ⟨⟨hx, hb, hml, hr, htab⟩, ⟨hown, hlk, hnm, hlt⟩, hts, hA, hK, hN, h5⟩ := id C
  refine lv_istore hx hb d (jl_has hl) hi rfl (fun ls' hl' => ?_)
  have hl2 := jl_set1 (w := .int x) (ad := ad) hn rfl hl'
  exact (kk p e s m args below meth c A ad0 σ0 H locs ls' ad C Y hS hl2 (jok_set ol trivial) (jok_tl os))
theorem J.ist_n {X : jX} {M : jMt} {rm : Room} {pc : Nat} {lc st : List Value} {k n : Nat} {σ : jS} {Q : jOut → jS → Prop} {j : Fin 4} {x : Int32} (d : decode M.2.1 pc = .ok (.istore_n j, 1)) (hi : (j : Nat) < M.2.2.1) (hn : jnc lc (j : Nat)) (kk : J X M rm (pc + 1) (lc.set (j : Nat) (.int x)) st k n σ Q) : J X M rm pc lc (.int x :: st) k n σ Q := by
  intro p e s m args below meth c A ad0 σ0 H locs ls ad C Y hS hl ol os
  obtain ⟨⟨hx, hb, hml, hr, htab⟩, ⟨hown, hlk, hnm, hlt⟩, hts, hA, hK, hN, h5⟩ := id C
  refine lv_istore_n hx hb d rfl (jl_has hl) hi rfl (fun ls' hl' => ?_)
  have hl2 := jl_set1 (w := .int x) (ad := ad) hn rfl hl'
  exact (kk p e s m args below meth c A ad0 σ0 H locs ls' ad C Y hS hl2 (jok_set ol trivial) (jok_tl os))
theorem J.ast {X : jX} {M : jMt} {rm : Room} {pc : Nat} {lc st : List Value} {k n : Nat} {σ : jS} {Q : jOut → jS → Prop} {i : Nat} {x : Nat} (d : decode M.2.1 pc = .ok (.astore i, 2)) (hi : i < M.2.2.1) (hn : jnc lc i) (kk : J X M rm (pc + 2) (lc.set i (.ref x)) st k n σ Q) : J X M rm pc lc (.ref x :: st) k n σ Q := by
  intro p e s m args below meth c A ad0 σ0 H locs ls ad C Y hS hl ol os
  obtain ⟨⟨hx, hb, hml, hr, htab⟩, ⟨hown, hlk, hnm, hlt⟩, hts, hA, hK, hN, h5⟩ := id C
  refine lv_astore hx hb d (jl_has hl) hi rfl (fun ls' hl' => ?_)
  have hl2 := jl_set1 (w := .ref x) (ad := ad) hn rfl hl'
  exact (kk p e s m args below meth c A ad0 σ0 H locs ls' ad C Y hS hl2 (jok_set ol (jok_hd os)) (jok_tl os))
theorem J.ast_n {X : jX} {M : jMt} {rm : Room} {pc : Nat} {lc st : List Value} {k n : Nat} {σ : jS} {Q : jOut → jS → Prop} {j : Fin 4} {x : Nat} (d : decode M.2.1 pc = .ok (.astore_n j, 1)) (hi : (j : Nat) < M.2.2.1) (hn : jnc lc (j : Nat)) (kk : J X M rm (pc + 1) (lc.set (j : Nat) (.ref x)) st k n σ Q) : J X M rm pc lc (.ref x :: st) k n σ Q := by
  intro p e s m args below meth c A ad0 σ0 H locs ls ad C Y hS hl ol os
  obtain ⟨⟨hx, hb, hml, hr, htab⟩, ⟨hown, hlk, hnm, hlt⟩, hts, hA, hK, hN, h5⟩ := id C
  refine lv_astore_n hx hb d rfl (jl_has hl) hi rfl (fun ls' hl' => ?_)
  have hl2 := jl_set1 (w := .ref x) (ad := ad) hn rfl hl'
  exact (kk p e s m args below meth c A ad0 σ0 H locs ls' ad C Y hS hl2 (jok_set ol (jok_hd os)) (jok_tl os))
theorem J.lst {X : jX} {M : jMt} {rm : Room} {pc : Nat} {lc st : List Value} {k n : Nat} {σ : jS} {Q : jOut → jS → Prop} {i : Nat} {x : Int64} (d : decode M.2.1 pc = .ok (.lstore i, 2)) (hi : i + 1 < M.2.2.1) (hn : jnc lc i) (kk : J X M rm (pc + 2) ((lc.set i (.long x)).set (i + 1) .null) st k n σ Q) : J X M rm pc lc (.long x :: st) k n σ Q := by
  intro p e s m args below meth c A ad0 σ0 H locs ls ad C Y hS hl ol os
  obtain ⟨⟨hx, hb, hml, hr, htab⟩, ⟨hown, hlk, hnm, hlt⟩, hts, hA, hK, hN, h5⟩ := id C
  refine lv_lstore hx hb d (jl_has hl) hi rfl (fun ls' hl' => ?_)
  have hl2 := jl_set2 (w := .long x) (ad := ad) hn rfl hl'
  exact (kk p e s m args below meth c A ad0 σ0 H locs ls' ad C Y hS hl2 (jok_set (v := Value.null) (jok_set (v := .long x) ol trivial) trivial) (jok_tl os))
theorem J.lst_n {X : jX} {M : jMt} {rm : Room} {pc : Nat} {lc st : List Value} {k n : Nat} {σ : jS} {Q : jOut → jS → Prop} {j : Fin 4} {x : Int64} (d : decode M.2.1 pc = .ok (.lstore_n j, 1)) (hi : (j : Nat) + 1 < M.2.2.1) (hn : jnc lc (j : Nat)) (kk : J X M rm (pc + 1) ((lc.set (j : Nat) (.long x)).set ((j : Nat) + 1) .null) st k n σ Q) : J X M rm pc lc (.long x :: st) k n σ Q := by
  intro p e s m args below meth c A ad0 σ0 H locs ls ad C Y hS hl ol os
  obtain ⟨⟨hx, hb, hml, hr, htab⟩, ⟨hown, hlk, hnm, hlt⟩, hts, hA, hK, hN, h5⟩ := id C
  refine lv_lstore_n hx hb d rfl (jl_has hl) hi rfl (fun ls' hl' => ?_)
  have hl2 := jl_set2 (w := .long x) (ad := ad) hn rfl hl'
  exact (kk p e s m args below meth c A ad0 σ0 H locs ls' ad C Y hS hl2 (jok_set (v := Value.null) (jok_set (v := .long x) ol trivial) trivial) (jok_tl os))
theorem J.dst {X : jX} {M : jMt} {rm : Room} {pc : Nat} {lc st : List Value} {k n : Nat} {σ : jS} {Q : jOut → jS → Prop} {i : Nat} {x : UInt64} (d : decode M.2.1 pc = .ok (.dstore i, 2)) (hi : i + 1 < M.2.2.1) (hn : jnc lc i) (kk : J X M rm (pc + 2) ((lc.set i (.double x)).set (i + 1) .null) st k n σ Q) : J X M rm pc lc (.double x :: st) k n σ Q := by
  intro p e s m args below meth c A ad0 σ0 H locs ls ad C Y hS hl ol os
  obtain ⟨⟨hx, hb, hml, hr, htab⟩, ⟨hown, hlk, hnm, hlt⟩, hts, hA, hK, hN, h5⟩ := id C
  refine lv_dstore hx hb d (jl_has hl) hi rfl (fun ls' hl' => ?_)
  have hl2 := jl_set2 (w := .double x) (ad := ad) hn rfl hl'
  exact (kk p e s m args below meth c A ad0 σ0 H locs ls' ad C Y hS hl2 (jok_set (v := Value.null) (jok_set (v := .double x) ol trivial) trivial) (jok_tl os))
theorem J.dst_n {X : jX} {M : jMt} {rm : Room} {pc : Nat} {lc st : List Value} {k n : Nat} {σ : jS} {Q : jOut → jS → Prop} {j : Fin 4} {x : UInt64} (d : decode M.2.1 pc = .ok (.dstore_n j, 1)) (hi : (j : Nat) + 1 < M.2.2.1) (hn : jnc lc (j : Nat)) (kk : J X M rm (pc + 1) ((lc.set (j : Nat) (.double x)).set ((j : Nat) + 1) .null) st k n σ Q) : J X M rm pc lc (.double x :: st) k n σ Q := by
  intro p e s m args below meth c A ad0 σ0 H locs ls ad C Y hS hl ol os
  obtain ⟨⟨hx, hb, hml, hr, htab⟩, ⟨hown, hlk, hnm, hlt⟩, hts, hA, hK, hN, h5⟩ := id C
  refine lv_dstore_n hx hb d rfl (jl_has hl) hi rfl (fun ls' hl' => ?_)
  have hl2 := jl_set2 (w := .double x) (ad := ad) hn rfl hl'
  exact (kk p e s m args below meth c A ad0 σ0 H locs ls' ad C Y hS hl2 (jok_set (v := Value.null) (jok_set (v := .double x) ol trivial) trivial) (jok_tl os))
theorem J.iinc {X : jX} {M : jMt} {rm : Room} {pc : Nat} {lc st : List Value} {k n : Nat} {σ : jS} {Q : jOut → jS → Prop} {i : Nat} {b a v : Int} (d : decode M.2.1 pc = .ok (.iinc i b, 3)) (h : lc[i]? = some (vI a)) (hv : a + b = v) (hi : i < M.2.2.1) (hn : jnc lc i) (kk : J X M rm (pc + 3) (lc.set i (vI v)) st k n σ Q) : J X M rm pc lc st k n σ Q := by
  intro p e s m args below meth c A ad0 σ0 H locs ls ad C Y hS hl ol os
  obtain ⟨⟨hx, hb, hml, hr, htab⟩, ⟨hown, hlk, hnm, hlt⟩, hts, hA, hK, hN, h5⟩ := id C
  obtain ⟨j, hj⟩ := List.getElem?_of_mem (jal_in (ad := ad) h (fun q => by cases q))
  refine lv_iinc (v := iI v) hx hb d (jl_has hl) hj (by subst hv; exact iI_add a b) hi rfl (fun ls' hl' => ?_)
  have hl2 := jl_set1 (w := vI v) (ad := ad) hn rfl hl'
  exact kk p e s m args below meth c A ad0 σ0 H locs ls' ad C Y hS hl2 (jok_set ol trivial) os
theorem J.iconst {X : jX} {M : jMt} {rm : Room} {pc : Nat} {lc st : List Value} {k n : Nat} {σ : jS} {Q : jOut → jS → Prop} {b : Int} (d : decode M.2.1 pc = .ok (.iconst b, 1)) (kk : J X M rm (pc + 1) lc (vI b :: st) k n σ Q) : J X M rm pc lc st k n σ Q := by
  intro p e s m args below meth c A ad0 σ0 H locs ls ad C Y hS hl ol os
  obtain ⟨⟨hx, hb, hml, hr, htab⟩, ⟨hown, hlk, hnm, hlt⟩, hts, hA, hK, hN, h5⟩ := id C
  exact lv_iconst hx hb d rfl (kk p e s m args below meth c A ad0 σ0 H locs ls ad C Y hS hl ol (jok_cons trivial os))
theorem J.bipush {X : jX} {M : jMt} {rm : Room} {pc : Nat} {lc st : List Value} {k n : Nat} {σ : jS} {Q : jOut → jS → Prop} {b : Int} (d : decode M.2.1 pc = .ok (.bipush b, 2)) (hv : (Int8.ofInt b).toInt32 = iI b) (kk : J X M rm (pc + 2) lc (vI b :: st) k n σ Q) : J X M rm pc lc st k n σ Q := by
  intro p e s m args below meth c A ad0 σ0 H locs ls ad C Y hS hl ol os
  obtain ⟨⟨hx, hb, hml, hr, htab⟩, ⟨hown, hlk, hnm, hlt⟩, hts, hA, hK, hN, h5⟩ := id C
  exact lv_bipush hx hb d hv (kk p e s m args below meth c A ad0 σ0 H locs ls ad C Y hS hl ol (jok_cons trivial os))
theorem J.sipush {X : jX} {M : jMt} {rm : Room} {pc : Nat} {lc st : List Value} {k n : Nat} {σ : jS} {Q : jOut → jS → Prop} {b : Int} (d : decode M.2.1 pc = .ok (.sipush b, 3)) (hv : (Int16.ofInt b).toInt32 = iI b) (kk : J X M rm (pc + 3) lc (vI b :: st) k n σ Q) : J X M rm pc lc st k n σ Q := by
  intro p e s m args below meth c A ad0 σ0 H locs ls ad C Y hS hl ol os
  obtain ⟨⟨hx, hb, hml, hr, htab⟩, ⟨hown, hlk, hnm, hlt⟩, hts, hA, hK, hN, h5⟩ := id C
  exact lv_sipush hx hb d hv (kk p e s m args below meth c A ad0 σ0 H locs ls ad C Y hS hl ol (jok_cons trivial os))
theorem J.ldc {X : jX} {M : jMt} {rm : Room} {pc : Nat} {lc st : List Value} {k n : Nat} {σ : jS} {Q : jOut → jS → Prop} {ix : Nat} {x : Int32} {b : Int} (d : decode M.2.1 pc = .ok (.ldc ix, 2)) (hc : Cond.constant M.1.cls ix x ∈ lw_tbl) (hv : x = iI b) (kk : J X M rm (pc + 2) lc (vI b :: st) k n σ Q) : J X M rm pc lc st k n σ Q := by
  intro p e s m args below meth c A ad0 σ0 H locs ls ad C Y hS hl ol os
  obtain ⟨⟨hx, hb, hml, hr, htab⟩, ⟨hown, hlk, hnm, hlt⟩, hts, hA, hK, hN, h5⟩ := id C
  subst hv
  exact lv_ldc hx hb hown (hts _ (jw_in hc rfl)) d (kk p e s m args below meth c A ad0 σ0 H locs ls ad C Y hS hl ol (jok_cons trivial os))
theorem J.ldc2 {X : jX} {M : jMt} {rm : Room} {pc : Nat} {lc st : List Value} {k n : Nat} {σ : jS} {Q : jOut → jS → Prop} {ix : Nat} {x : Int64} {b : Int} (d : decode M.2.1 pc = .ok (.ldc2_w ix, 3)) (hc : Cond.constantLong M.1.cls ix x ∈ lw_tbl) (hv : x = lI b) (kk : J X M rm (pc + 3) lc (vL b :: st) k n σ Q) : J X M rm pc lc st k n σ Q := by
  intro p e s m args below meth c A ad0 σ0 H locs ls ad C Y hS hl ol os
  obtain ⟨⟨hx, hb, hml, hr, htab⟩, ⟨hown, hlk, hnm, hlt⟩, hts, hA, hK, hN, h5⟩ := id C
  subst hv
  exact lv_ldc2 hx hb hown (hts _ (jw_in hc rfl)) d (kk p e s m args below meth c A ad0 σ0 H locs ls ad C Y hS hl ol (jok_cons trivial os))
theorem J.dconst0 {X : jX} {M : jMt} {rm : Room} {pc : Nat} {lc st : List Value} {k n : Nat} {σ : jS} {Q : jOut → jS → Prop}  (d : decode M.2.1 pc = .ok (.dconst 0, 1)) (kk : J X M rm (pc + 1) lc (.double FP.dconst0 :: st) k n σ Q) : J X M rm pc lc st k n σ Q := by
  intro p e s m args below meth c A ad0 σ0 H locs ls ad C Y hS hl ol os
  obtain ⟨⟨hx, hb, hml, hr, htab⟩, ⟨hown, hlk, hnm, hlt⟩, hts, hA, hK, hN, h5⟩ := id C
  exact lv_dconst0 hx hb d (kk p e s m args below meth c A ad0 σ0 H locs ls ad C Y hS hl ol (jok_cons trivial os))
theorem J.dconst1 {X : jX} {M : jMt} {rm : Room} {pc : Nat} {lc st : List Value} {k n : Nat} {σ : jS} {Q : jOut → jS → Prop}  (d : decode M.2.1 pc = .ok (.dconst 1, 1)) (kk : J X M rm (pc + 1) lc (.double FP.dconst1 :: st) k n σ Q) : J X M rm pc lc st k n σ Q := by
  intro p e s m args below meth c A ad0 σ0 H locs ls ad C Y hS hl ol os
  obtain ⟨⟨hx, hb, hml, hr, htab⟩, ⟨hown, hlk, hnm, hlt⟩, hts, hA, hK, hN, h5⟩ := id C
  exact lv_dconst1 hx hb d (kk p e s m args below meth c A ad0 σ0 H locs ls ad C Y hS hl ol (jok_cons trivial os))
theorem J.dup {X : jX} {M : jMt} {rm : Room} {pc : Nat} {lc st : List Value} {k n : Nat} {σ : jS} {Q : jOut → jS → Prop} {v : Value} (d : decode M.2.1 pc = .ok (.dup, 1)) (hc : v.category = 1) (kk : J X M rm (pc + 1) lc (v :: v :: st) k n σ Q) : J X M rm pc lc (v :: st) k n σ Q := by
  intro p e s m args below meth c A ad0 σ0 H locs ls ad C Y hS hl ol os
  obtain ⟨⟨hx, hb, hml, hr, htab⟩, ⟨hown, hlk, hnm, hlt⟩, hts, hA, hK, hN, h5⟩ := id C
  exact lv_dup hx hb d (by rw [tv_cat]; exact hc) (kk p e s m args below meth c A ad0 σ0 H locs ls ad C Y hS hl ol (jok_cons (jok_hd os) os))
theorem J.dup2 {X : jX} {M : jMt} {rm : Room} {pc : Nat} {lc st : List Value} {k n : Nat} {σ : jS} {Q : jOut → jS → Prop} {v w : Value} (d : decode M.2.1 pc = .ok (.dup2, 1)) (hc : v.category = 1) (hc2 : w.category = 1) (kk : J X M rm (pc + 1) lc (v :: w :: v :: w :: st) k n σ Q) : J X M rm pc lc (v :: w :: st) k n σ Q := by
  intro p e s m args below meth c A ad0 σ0 H locs ls ad C Y hS hl ol os
  obtain ⟨⟨hx, hb, hml, hr, htab⟩, ⟨hown, hlk, hnm, hlt⟩, hts, hA, hK, hN, h5⟩ := id C
  exact lv_dup2_11 hx hb d (by rw [tv_cat]; exact hc) (by rw [tv_cat]; exact hc2) (kk p e s m args below meth c A ad0 σ0 H locs ls ad C Y hS hl ol (jok_cons (jok_hd os) (jok_cons (jok_hd (jok_tl os)) os)))
theorem J.pop {X : jX} {M : jMt} {rm : Room} {pc : Nat} {lc st : List Value} {k n : Nat} {σ : jS} {Q : jOut → jS → Prop} {v : Value} (d : decode M.2.1 pc = .ok (.pop, 1)) (hc : v.category = 1) (kk : J X M rm (pc + 1) lc st k n σ Q) : J X M rm pc lc (v :: st) k n σ Q := by
  intro p e s m args below meth c A ad0 σ0 H locs ls ad C Y hS hl ol os
  obtain ⟨⟨hx, hb, hml, hr, htab⟩, ⟨hown, hlk, hnm, hlt⟩, hts, hA, hK, hN, h5⟩ := id C
  exact lv_pop hx hb d (by rw [tv_cat]; exact hc) (kk p e s m args below meth c A ad0 σ0 H locs ls ad C Y hS hl ol (jok_tl os))
theorem J.iadd {X : jX} {M : jMt} {rm : Room} {pc : Nat} {lc st : List Value} {k n : Nat} {σ : jS} {Q : jOut → jS → Prop} {a b : Int} (d : decode M.2.1 pc = .ok (.iadd, 1)) (kk : J X M rm (pc + 1) lc (vI (a + b) :: st) k n σ Q) : J X M rm pc lc (vI b :: vI a :: st) k n σ Q := by
  intro p e s m args below meth c A ad0 σ0 H locs ls ad C Y hS hl ol os
  obtain ⟨⟨hx, hb, hml, hr, htab⟩, ⟨hown, hlk, hnm, hlt⟩, hts, hA, hK, hN, h5⟩ := id C
  exact lv_iadd hx hb d (by rw [iI_add]; exact (kk p e s m args below meth c A ad0 σ0 H locs ls ad C Y hS hl ol (jok_cons trivial (jok_tl (jok_tl os)))))
theorem J.isub {X : jX} {M : jMt} {rm : Room} {pc : Nat} {lc st : List Value} {k n : Nat} {σ : jS} {Q : jOut → jS → Prop} {a b : Int} (d : decode M.2.1 pc = .ok (.isub, 1)) (kk : J X M rm (pc + 1) lc (vI (a - b) :: st) k n σ Q) : J X M rm pc lc (vI b :: vI a :: st) k n σ Q := by
  intro p e s m args below meth c A ad0 σ0 H locs ls ad C Y hS hl ol os
  obtain ⟨⟨hx, hb, hml, hr, htab⟩, ⟨hown, hlk, hnm, hlt⟩, hts, hA, hK, hN, h5⟩ := id C
  exact lv_isub hx hb d (by rw [iI_sub]; exact (kk p e s m args below meth c A ad0 σ0 H locs ls ad C Y hS hl ol (jok_cons trivial (jok_tl (jok_tl os)))))
theorem J.imul {X : jX} {M : jMt} {rm : Room} {pc : Nat} {lc st : List Value} {k n : Nat} {σ : jS} {Q : jOut → jS → Prop} {a b : Int} (d : decode M.2.1 pc = .ok (.imul, 1)) (kk : J X M rm (pc + 1) lc (vI (a * b) :: st) k n σ Q) : J X M rm pc lc (vI b :: vI a :: st) k n σ Q := by
  intro p e s m args below meth c A ad0 σ0 H locs ls ad C Y hS hl ol os
  obtain ⟨⟨hx, hb, hml, hr, htab⟩, ⟨hown, hlk, hnm, hlt⟩, hts, hA, hK, hN, h5⟩ := id C
  exact lv_imul hx hb d (by rw [iI_mul]; exact (kk p e s m args below meth c A ad0 σ0 H locs ls ad C Y hS hl ol (jok_cons trivial (jok_tl (jok_tl os)))))
theorem J.ladd {X : jX} {M : jMt} {rm : Room} {pc : Nat} {lc st : List Value} {k n : Nat} {σ : jS} {Q : jOut → jS → Prop} {a b : Int} (d : decode M.2.1 pc = .ok (.ladd, 1)) (kk : J X M rm (pc + 1) lc (vL (a + b) :: st) k n σ Q) : J X M rm pc lc (vL b :: vL a :: st) k n σ Q := by
  intro p e s m args below meth c A ad0 σ0 H locs ls ad C Y hS hl ol os
  obtain ⟨⟨hx, hb, hml, hr, htab⟩, ⟨hown, hlk, hnm, hlt⟩, hts, hA, hK, hN, h5⟩ := id C
  exact lv_ladd hx hb d (by rw [lI_add]; exact (kk p e s m args below meth c A ad0 σ0 H locs ls ad C Y hS hl ol (jok_cons trivial (jok_tl (jok_tl os)))))
theorem J.lmul {X : jX} {M : jMt} {rm : Room} {pc : Nat} {lc st : List Value} {k n : Nat} {σ : jS} {Q : jOut → jS → Prop} {a b : Int} (d : decode M.2.1 pc = .ok (.lmul, 1)) (kk : J X M rm (pc + 1) lc (vL (a * b) :: st) k n σ Q) : J X M rm pc lc (vL b :: vL a :: st) k n σ Q := by
  intro p e s m args below meth c A ad0 σ0 H locs ls ad C Y hS hl ol os
  obtain ⟨⟨hx, hb, hml, hr, htab⟩, ⟨hown, hlk, hnm, hlt⟩, hts, hA, hK, hN, h5⟩ := id C
  exact lv_lmul hx hb d (by rw [lI_mul]; exact (kk p e s m args below meth c A ad0 σ0 H locs ls ad C Y hS hl ol (jok_cons trivial (jok_tl (jok_tl os)))))
theorem J.idiv {X : jX} {M : jMt} {rm : Room} {pc : Nat} {lc st : List Value} {k n : Nat} {σ : jS} {Q : jOut → jS → Prop} {a b : Int} (d : decode M.2.1 pc = .ok (.idiv, 1)) (ha : inI a) (hb' : inI b) (hz : b ≠ 0) (kk : J X M rm (pc + 1) lc (vI (a.tdiv b) :: st) k n σ Q) : J X M rm pc lc (vI b :: vI a :: st) k n σ Q := by
  intro p e s m args below meth c A ad0 σ0 H locs ls ad C Y hS hl ol os
  obtain ⟨⟨hx, hb, hml, hr, htab⟩, ⟨hown, hlk, hnm, hlt⟩, hts, hA, hK, hN, h5⟩ := id C
  exact lv_idiv hx hb d (fun q => hz ((iI_eq hb' inI_0).mp (q.trans iI_0.symm))) (by rw [iI_div ha hb']; exact (kk p e s m args below meth c A ad0 σ0 H locs ls ad C Y hS hl ol (jok_cons trivial (jok_tl (jok_tl os)))))
theorem J.irem {X : jX} {M : jMt} {rm : Room} {pc : Nat} {lc st : List Value} {k n : Nat} {σ : jS} {Q : jOut → jS → Prop} {a b : Int} (d : decode M.2.1 pc = .ok (.irem, 1)) (ha : inI a) (hb' : inI b) (hz : b ≠ 0) (kk : J X M rm (pc + 1) lc (vI (a.tmod b) :: st) k n σ Q) : J X M rm pc lc (vI b :: vI a :: st) k n σ Q := by
  intro p e s m args below meth c A ad0 σ0 H locs ls ad C Y hS hl ol os
  obtain ⟨⟨hx, hb, hml, hr, htab⟩, ⟨hown, hlk, hnm, hlt⟩, hts, hA, hK, hN, h5⟩ := id C
  exact lv_irem hx hb d (fun q => hz ((iI_eq hb' inI_0).mp (q.trans iI_0.symm))) (by rw [iI_rem ha hb']; exact (kk p e s m args below meth c A ad0 σ0 H locs ls ad C Y hS hl ol (jok_cons trivial (jok_tl (jok_tl os)))))
theorem J.iand {X : jX} {M : jMt} {rm : Room} {pc : Nat} {lc st : List Value} {k n : Nat} {σ : jS} {Q : jOut → jS → Prop} {x y : Int32} (d : decode M.2.1 pc = .ok (.iand, 1)) (kk : J X M rm (pc + 1) lc (.int (x &&& y) :: st) k n σ Q) : J X M rm pc lc (.int y :: .int x :: st) k n σ Q := by
  intro p e s m args below meth c A ad0 σ0 H locs ls ad C Y hS hl ol os
  obtain ⟨⟨hx, hb, hml, hr, htab⟩, ⟨hown, hlk, hnm, hlt⟩, hts, hA, hK, hN, h5⟩ := id C
  exact lv_iand hx hb d (kk p e s m args below meth c A ad0 σ0 H locs ls ad C Y hS hl ol (jok_cons trivial (jok_tl (jok_tl os))))
theorem J.ixor {X : jX} {M : jMt} {rm : Room} {pc : Nat} {lc st : List Value} {k n : Nat} {σ : jS} {Q : jOut → jS → Prop} {x y : Int32} (d : decode M.2.1 pc = .ok (.ixor, 1)) (kk : J X M rm (pc + 1) lc (.int (x ^^^ y) :: st) k n σ Q) : J X M rm pc lc (.int y :: .int x :: st) k n σ Q := by
  intro p e s m args below meth c A ad0 σ0 H locs ls ad C Y hS hl ol os
  obtain ⟨⟨hx, hb, hml, hr, htab⟩, ⟨hown, hlk, hnm, hlt⟩, hts, hA, hK, hN, h5⟩ := id C
  exact lv_ixor hx hb d (kk p e s m args below meth c A ad0 σ0 H locs ls ad C Y hS hl ol (jok_cons trivial (jok_tl (jok_tl os))))
theorem J.i2l {X : jX} {M : jMt} {rm : Room} {pc : Nat} {lc st : List Value} {k n : Nat} {σ : jS} {Q : jOut → jS → Prop} {a : Int} (d : decode M.2.1 pc = .ok (.i2l, 1)) (ha : inI a) (kk : J X M rm (pc + 1) lc (vL a :: st) k n σ Q) : J X M rm pc lc (vI a :: st) k n σ Q := by
  intro p e s m args below meth c A ad0 σ0 H locs ls ad C Y hS hl ol os
  obtain ⟨⟨hx, hb, hml, hr, htab⟩, ⟨hown, hlk, hnm, hlt⟩, hts, hA, hK, hN, h5⟩ := id C
  exact lv_i2l hx hb d (iI_l ha) (kk p e s m args below meth c A ad0 σ0 H locs ls ad C Y hS hl ol (jok_cons trivial (jok_tl os)))
theorem J.i2d {X : jX} {M : jMt} {rm : Room} {pc : Nat} {lc st : List Value} {k n : Nat} {σ : jS} {Q : jOut → jS → Prop} {x : Int32} (d : decode M.2.1 pc = .ok (.i2d, 1)) (kk : J X M rm (pc + 1) lc (.double (FP.i2d x) :: st) k n σ Q) : J X M rm pc lc (.int x :: st) k n σ Q := by
  intro p e s m args below meth c A ad0 σ0 H locs ls ad C Y hS hl ol os
  obtain ⟨⟨hx, hb, hml, hr, htab⟩, ⟨hown, hlk, hnm, hlt⟩, hts, hA, hK, hN, h5⟩ := id C
  exact lv_i2d hx hb d (kk p e s m args below meth c A ad0 σ0 H locs ls ad C Y hS hl ol (jok_cons trivial (jok_tl os)))
theorem J.ddiv {X : jX} {M : jMt} {rm : Room} {pc : Nat} {lc st : List Value} {k n : Nat} {σ : jS} {Q : jOut → jS → Prop} {x y : UInt64} (d : decode M.2.1 pc = .ok (.ddiv, 1)) (hn : vf_n64 (FP.ddiv x y)) (kk : J X M rm (pc + 1) lc (.double (FP.ddiv x y) :: st) k n σ Q) : J X M rm pc lc (.double y :: .double x :: st) k n σ Q := by
  intro p e s m args below meth c A ad0 σ0 H locs ls ad C Y hS hl ol os
  obtain ⟨⟨hx, hb, hml, hr, htab⟩, ⟨hown, hlk, hnm, hlt⟩, hts, hA, hK, hN, h5⟩ := id C
  exact lv_ddiv hx hb d hn (kk p e s m args below meth c A ad0 σ0 H locs ls ad C Y hS hl ol (jok_cons trivial (jok_tl (jok_tl os))))
theorem J.dcmp {X : jX} {M : jMt} {rm : Room} {pc : Nat} {lc st : List Value} {k n : Nat} {σ : jS} {Q : jOut → jS → Prop} {x y : UInt64} {o : CmpOp} (d : decode M.2.1 pc = .ok (.dcmp o, 1)) (kk : J X M rm (pc + 1) lc (.int (Op.cmpValue (FP.dcmp x y) o) :: st) k n σ Q) : J X M rm pc lc (.double y :: .double x :: st) k n σ Q := by
  intro p e s m args below meth c A ad0 σ0 H locs ls ad C Y hS hl ol os
  obtain ⟨⟨hx, hb, hml, hr, htab⟩, ⟨hown, hlk, hnm, hlt⟩, hts, hA, hK, hN, h5⟩ := id C
  exact lv_dcmp hx hb d (kk p e s m args below meth c A ad0 σ0 H locs ls ad C Y hS hl ol (jok_cons trivial (jok_tl (jok_tl os))))
theorem J.lcmp {X : jX} {M : jMt} {rm : Room} {pc : Nat} {lc st : List Value} {k n : Nat} {σ : jS} {Q : jOut → jS → Prop} {x y : Int64} (d : decode M.2.1 pc = .ok (.lcmp, 1)) (kk : J X M rm (pc + 1) lc (.int (lg_cmp x y) :: st) k n σ Q) : J X M rm pc lc (.long y :: .long x :: st) k n σ Q := by
  intro p e s m args below meth c A ad0 σ0 H locs ls ad C Y hS hl ol os
  obtain ⟨⟨hx, hb, hml, hr, htab⟩, ⟨hown, hlk, hnm, hlt⟩, hts, hA, hK, hN, h5⟩ := id C
  exact W.lcmp hx hb d (kk p e s m args below meth c A ad0 σ0 H locs ls ad C Y hS hl ol (jok_cons trivial (jok_tl (jok_tl os))))
theorem J.icmp_eq {X : jX} {M : jMt} {rm : Room} {pc : Nat} {lc st : List Value} {k n : Nat} {σ : jS} {Q : jOut → jS → Prop} {a b off : Int} {tgt : Nat} (d : decode M.2.1 pc = .ok (.if_icmp .eq off, 3)) (ht : (pc : Int) + off = (tgt : Int)) (ha : inI a) (hb' : inI b) (kt : a = b → J X M rm tgt lc st k n σ Q) (kf : ¬ a = b → J X M rm (pc + 3) lc st k n σ Q) : J X M rm pc lc (vI b :: vI a :: st) k n σ Q := by
  intro p e s m args below meth c A ad0 σ0 H locs ls ad C Y hS hl ol os
  obtain ⟨⟨hx, hb, hml, hr, htab⟩, ⟨hown, hlk, hnm, hlt⟩, hts, hA, hK, hN, h5⟩ := id C
  exact lv_icmp_eq hx hb d ht (fun q => (kt ((iI_eq ha hb').mp q)) p e s m args below meth c A ad0 σ0 H locs ls ad C Y hS hl ol (jok_tl (jok_tl os))) (fun q => (kf (fun z => q ((iI_eq ha hb').mpr z))) p e s m args below meth c A ad0 σ0 H locs ls ad C Y hS hl ol (jok_tl (jok_tl os)))
theorem J.if_eq {X : jX} {M : jMt} {rm : Room} {pc : Nat} {lc st : List Value} {k n : Nat} {σ : jS} {Q : jOut → jS → Prop} {a off : Int} {tgt : Nat} (d : decode M.2.1 pc = .ok (.ifCond .eq off, 3)) (ht : (pc : Int) + off = (tgt : Int)) (ha : inI a) (kt : a = 0 → J X M rm tgt lc st k n σ Q) (kf : ¬ a = 0 → J X M rm (pc + 3) lc st k n σ Q) : J X M rm pc lc (vI a :: st) k n σ Q := by
  intro p e s m args below meth c A ad0 σ0 H locs ls ad C Y hS hl ol os
  obtain ⟨⟨hx, hb, hml, hr, htab⟩, ⟨hown, hlk, hnm, hlt⟩, hts, hA, hK, hN, h5⟩ := id C
  exact lv_if_eq hx hb d ht (fun q => (kt ((iI_eq ha inI_0).mp q)) p e s m args below meth c A ad0 σ0 H locs ls ad C Y hS hl ol (jok_tl os)) (fun q => (kf (fun z => q ((iI_eq ha inI_0).mpr z))) p e s m args below meth c A ad0 σ0 H locs ls ad C Y hS hl ol (jok_tl os))
theorem J.icmp_ne {X : jX} {M : jMt} {rm : Room} {pc : Nat} {lc st : List Value} {k n : Nat} {σ : jS} {Q : jOut → jS → Prop} {a b off : Int} {tgt : Nat} (d : decode M.2.1 pc = .ok (.if_icmp .ne off, 3)) (ht : (pc : Int) + off = (tgt : Int)) (ha : inI a) (hb' : inI b) (kt : ¬ a = b → J X M rm tgt lc st k n σ Q) (kf : a = b → J X M rm (pc + 3) lc st k n σ Q) : J X M rm pc lc (vI b :: vI a :: st) k n σ Q := by
  intro p e s m args below meth c A ad0 σ0 H locs ls ad C Y hS hl ol os
  obtain ⟨⟨hx, hb, hml, hr, htab⟩, ⟨hown, hlk, hnm, hlt⟩, hts, hA, hK, hN, h5⟩ := id C
  exact lv_icmp_ne hx hb d ht (fun q => (kt (fun z => q ((iI_eq ha hb').mpr z))) p e s m args below meth c A ad0 σ0 H locs ls ad C Y hS hl ol (jok_tl (jok_tl os))) (fun q => (kf ((iI_eq ha hb').mp q)) p e s m args below meth c A ad0 σ0 H locs ls ad C Y hS hl ol (jok_tl (jok_tl os)))
theorem J.if_ne {X : jX} {M : jMt} {rm : Room} {pc : Nat} {lc st : List Value} {k n : Nat} {σ : jS} {Q : jOut → jS → Prop} {a off : Int} {tgt : Nat} (d : decode M.2.1 pc = .ok (.ifCond .ne off, 3)) (ht : (pc : Int) + off = (tgt : Int)) (ha : inI a) (kt : ¬ a = 0 → J X M rm tgt lc st k n σ Q) (kf : a = 0 → J X M rm (pc + 3) lc st k n σ Q) : J X M rm pc lc (vI a :: st) k n σ Q := by
  intro p e s m args below meth c A ad0 σ0 H locs ls ad C Y hS hl ol os
  obtain ⟨⟨hx, hb, hml, hr, htab⟩, ⟨hown, hlk, hnm, hlt⟩, hts, hA, hK, hN, h5⟩ := id C
  exact lv_if_ne hx hb d ht (fun q => (kt (fun z => q ((iI_eq ha inI_0).mpr z))) p e s m args below meth c A ad0 σ0 H locs ls ad C Y hS hl ol (jok_tl os)) (fun q => (kf ((iI_eq ha inI_0).mp q)) p e s m args below meth c A ad0 σ0 H locs ls ad C Y hS hl ol (jok_tl os))
theorem J.icmp_lt {X : jX} {M : jMt} {rm : Room} {pc : Nat} {lc st : List Value} {k n : Nat} {σ : jS} {Q : jOut → jS → Prop} {a b off : Int} {tgt : Nat} (d : decode M.2.1 pc = .ok (.if_icmp .lt off, 3)) (ht : (pc : Int) + off = (tgt : Int)) (ha : inI a) (hb' : inI b) (kt : a < b → J X M rm tgt lc st k n σ Q) (kf : ¬ a < b → J X M rm (pc + 3) lc st k n σ Q) : J X M rm pc lc (vI b :: vI a :: st) k n σ Q := by
  intro p e s m args below meth c A ad0 σ0 H locs ls ad C Y hS hl ol os
  obtain ⟨⟨hx, hb, hml, hr, htab⟩, ⟨hown, hlk, hnm, hlt⟩, hts, hA, hK, hN, h5⟩ := id C
  exact lv_icmp_lt hx hb d ht (fun q => (kt ((iI_lt ha hb').mp q)) p e s m args below meth c A ad0 σ0 H locs ls ad C Y hS hl ol (jok_tl (jok_tl os))) (fun q => (kf (fun z => q ((iI_lt ha hb').mpr z))) p e s m args below meth c A ad0 σ0 H locs ls ad C Y hS hl ol (jok_tl (jok_tl os)))
theorem J.if_lt {X : jX} {M : jMt} {rm : Room} {pc : Nat} {lc st : List Value} {k n : Nat} {σ : jS} {Q : jOut → jS → Prop} {a off : Int} {tgt : Nat} (d : decode M.2.1 pc = .ok (.ifCond .lt off, 3)) (ht : (pc : Int) + off = (tgt : Int)) (ha : inI a) (kt : a < 0 → J X M rm tgt lc st k n σ Q) (kf : ¬ a < 0 → J X M rm (pc + 3) lc st k n σ Q) : J X M rm pc lc (vI a :: st) k n σ Q := by
  intro p e s m args below meth c A ad0 σ0 H locs ls ad C Y hS hl ol os
  obtain ⟨⟨hx, hb, hml, hr, htab⟩, ⟨hown, hlk, hnm, hlt⟩, hts, hA, hK, hN, h5⟩ := id C
  exact lv_if_lt hx hb d ht (fun q => (kt ((iI_lt ha inI_0).mp q)) p e s m args below meth c A ad0 σ0 H locs ls ad C Y hS hl ol (jok_tl os)) (fun q => (kf (fun z => q ((iI_lt ha inI_0).mpr z))) p e s m args below meth c A ad0 σ0 H locs ls ad C Y hS hl ol (jok_tl os))
theorem J.icmp_ge {X : jX} {M : jMt} {rm : Room} {pc : Nat} {lc st : List Value} {k n : Nat} {σ : jS} {Q : jOut → jS → Prop} {a b off : Int} {tgt : Nat} (d : decode M.2.1 pc = .ok (.if_icmp .ge off, 3)) (ht : (pc : Int) + off = (tgt : Int)) (ha : inI a) (hb' : inI b) (kt : b ≤ a → J X M rm tgt lc st k n σ Q) (kf : ¬ b ≤ a → J X M rm (pc + 3) lc st k n σ Q) : J X M rm pc lc (vI b :: vI a :: st) k n σ Q := by
  intro p e s m args below meth c A ad0 σ0 H locs ls ad C Y hS hl ol os
  obtain ⟨⟨hx, hb, hml, hr, htab⟩, ⟨hown, hlk, hnm, hlt⟩, hts, hA, hK, hN, h5⟩ := id C
  exact lv_icmp_ge hx hb d ht (fun q => (kt ((iI_le hb' ha).mp q)) p e s m args below meth c A ad0 σ0 H locs ls ad C Y hS hl ol (jok_tl (jok_tl os))) (fun q => (kf (fun z => q ((iI_le hb' ha).mpr z))) p e s m args below meth c A ad0 σ0 H locs ls ad C Y hS hl ol (jok_tl (jok_tl os)))
theorem J.if_ge {X : jX} {M : jMt} {rm : Room} {pc : Nat} {lc st : List Value} {k n : Nat} {σ : jS} {Q : jOut → jS → Prop} {a off : Int} {tgt : Nat} (d : decode M.2.1 pc = .ok (.ifCond .ge off, 3)) (ht : (pc : Int) + off = (tgt : Int)) (ha : inI a) (kt : 0 ≤ a → J X M rm tgt lc st k n σ Q) (kf : ¬ 0 ≤ a → J X M rm (pc + 3) lc st k n σ Q) : J X M rm pc lc (vI a :: st) k n σ Q := by
  intro p e s m args below meth c A ad0 σ0 H locs ls ad C Y hS hl ol os
  obtain ⟨⟨hx, hb, hml, hr, htab⟩, ⟨hown, hlk, hnm, hlt⟩, hts, hA, hK, hN, h5⟩ := id C
  exact lv_if_ge hx hb d ht (fun q => (kt ((iI_le inI_0 ha).mp q)) p e s m args below meth c A ad0 σ0 H locs ls ad C Y hS hl ol (jok_tl os)) (fun q => (kf (fun z => q ((iI_le inI_0 ha).mpr z))) p e s m args below meth c A ad0 σ0 H locs ls ad C Y hS hl ol (jok_tl os))
theorem J.icmp_gt {X : jX} {M : jMt} {rm : Room} {pc : Nat} {lc st : List Value} {k n : Nat} {σ : jS} {Q : jOut → jS → Prop} {a b off : Int} {tgt : Nat} (d : decode M.2.1 pc = .ok (.if_icmp .gt off, 3)) (ht : (pc : Int) + off = (tgt : Int)) (ha : inI a) (hb' : inI b) (kt : b < a → J X M rm tgt lc st k n σ Q) (kf : ¬ b < a → J X M rm (pc + 3) lc st k n σ Q) : J X M rm pc lc (vI b :: vI a :: st) k n σ Q := by
  intro p e s m args below meth c A ad0 σ0 H locs ls ad C Y hS hl ol os
  obtain ⟨⟨hx, hb, hml, hr, htab⟩, ⟨hown, hlk, hnm, hlt⟩, hts, hA, hK, hN, h5⟩ := id C
  exact lv_icmp_gt hx hb d ht (fun q => (kt ((iI_lt hb' ha).mp q)) p e s m args below meth c A ad0 σ0 H locs ls ad C Y hS hl ol (jok_tl (jok_tl os))) (fun q => (kf (fun z => q ((iI_lt hb' ha).mpr z))) p e s m args below meth c A ad0 σ0 H locs ls ad C Y hS hl ol (jok_tl (jok_tl os)))
theorem J.if_gt {X : jX} {M : jMt} {rm : Room} {pc : Nat} {lc st : List Value} {k n : Nat} {σ : jS} {Q : jOut → jS → Prop} {a off : Int} {tgt : Nat} (d : decode M.2.1 pc = .ok (.ifCond .gt off, 3)) (ht : (pc : Int) + off = (tgt : Int)) (ha : inI a) (kt : 0 < a → J X M rm tgt lc st k n σ Q) (kf : ¬ 0 < a → J X M rm (pc + 3) lc st k n σ Q) : J X M rm pc lc (vI a :: st) k n σ Q := by
  intro p e s m args below meth c A ad0 σ0 H locs ls ad C Y hS hl ol os
  obtain ⟨⟨hx, hb, hml, hr, htab⟩, ⟨hown, hlk, hnm, hlt⟩, hts, hA, hK, hN, h5⟩ := id C
  exact lv_if_gt hx hb d ht (fun q => (kt ((iI_lt inI_0 ha).mp q)) p e s m args below meth c A ad0 σ0 H locs ls ad C Y hS hl ol (jok_tl os)) (fun q => (kf (fun z => q ((iI_lt inI_0 ha).mpr z))) p e s m args below meth c A ad0 σ0 H locs ls ad C Y hS hl ol (jok_tl os))
theorem J.icmp_le {X : jX} {M : jMt} {rm : Room} {pc : Nat} {lc st : List Value} {k n : Nat} {σ : jS} {Q : jOut → jS → Prop} {a b off : Int} {tgt : Nat} (d : decode M.2.1 pc = .ok (.if_icmp .le off, 3)) (ht : (pc : Int) + off = (tgt : Int)) (ha : inI a) (hb' : inI b) (kt : a ≤ b → J X M rm tgt lc st k n σ Q) (kf : ¬ a ≤ b → J X M rm (pc + 3) lc st k n σ Q) : J X M rm pc lc (vI b :: vI a :: st) k n σ Q := by
  intro p e s m args below meth c A ad0 σ0 H locs ls ad C Y hS hl ol os
  obtain ⟨⟨hx, hb, hml, hr, htab⟩, ⟨hown, hlk, hnm, hlt⟩, hts, hA, hK, hN, h5⟩ := id C
  exact lv_icmp_le hx hb d ht (fun q => (kt ((iI_le ha hb').mp q)) p e s m args below meth c A ad0 σ0 H locs ls ad C Y hS hl ol (jok_tl (jok_tl os))) (fun q => (kf (fun z => q ((iI_le ha hb').mpr z))) p e s m args below meth c A ad0 σ0 H locs ls ad C Y hS hl ol (jok_tl (jok_tl os)))
theorem J.if_le {X : jX} {M : jMt} {rm : Room} {pc : Nat} {lc st : List Value} {k n : Nat} {σ : jS} {Q : jOut → jS → Prop} {a off : Int} {tgt : Nat} (d : decode M.2.1 pc = .ok (.ifCond .le off, 3)) (ht : (pc : Int) + off = (tgt : Int)) (ha : inI a) (kt : a ≤ 0 → J X M rm tgt lc st k n σ Q) (kf : ¬ a ≤ 0 → J X M rm (pc + 3) lc st k n σ Q) : J X M rm pc lc (vI a :: st) k n σ Q := by
  intro p e s m args below meth c A ad0 σ0 H locs ls ad C Y hS hl ol os
  obtain ⟨⟨hx, hb, hml, hr, htab⟩, ⟨hown, hlk, hnm, hlt⟩, hts, hA, hK, hN, h5⟩ := id C
  exact lv_if_le hx hb d ht (fun q => (kt ((iI_le ha inI_0).mp q)) p e s m args below meth c A ad0 σ0 H locs ls ad C Y hS hl ol (jok_tl os)) (fun q => (kf (fun z => q ((iI_le ha inI_0).mpr z))) p e s m args below meth c A ad0 σ0 H locs ls ad C Y hS hl ol (jok_tl os))
theorem J.goto {X : jX} {M : jMt} {rm : Room} {pc : Nat} {lc st : List Value} {k n : Nat} {σ : jS} {Q : jOut → jS → Prop} {off : Int} {tgt : Nat} (d : decode M.2.1 pc = .ok (.goto off, 3)) (ht : (pc : Int) + off = (tgt : Int)) (kk : J X M rm tgt lc st k n σ Q) : J X M rm pc lc st k n σ Q := by
  intro p e s m args below meth c A ad0 σ0 H locs ls ad C Y hS hl ol os
  obtain ⟨⟨hx, hb, hml, hr, htab⟩, ⟨hown, hlk, hnm, hlt⟩, hts, hA, hK, hN, h5⟩ := id C
  exact lv_goto hx hb d ht (kk p e s m args below meth c A ad0 σ0 H locs ls ad C Y hS hl ol os)
theorem J.tableIn {X : jX} {M : jMt} {rm : Room} {pc : Nat} {lc st : List Value} {k n : Nat} {σ : jS} {Q : jOut → jS → Prop} {dflt lo hi : Int} {offs : Array Int} {len : Nat} {x : Int32} {off : Int} {tgt : Nat} (d : decode M.2.1 pc = .ok (.tableswitch dflt lo hi offs, len)) (h1 : ¬ x.toInt < lo) (h2 : ¬ hi < x.toInt) (ho : offs[(x.toInt - lo).toNat]? = some off) (ht : (pc : Int) + off = (tgt : Int)) (kk : J X M rm tgt lc st k n σ Q) : J X M rm pc lc (.int x :: st) k n σ Q := by
  intro p e s m args below meth c A ad0 σ0 H locs ls ad C Y hS hl ol os
  obtain ⟨⟨hx, hb, hml, hr, htab⟩, ⟨hown, hlk, hnm, hlt⟩, hts, hA, hK, hN, h5⟩ := id C
  exact lv_tableIn hx hb d h1 h2 ho ht (kk p e s m args below meth c A ad0 σ0 H locs ls ad C Y hS hl ol (jok_tl os))
theorem J.tableOut {X : jX} {M : jMt} {rm : Room} {pc : Nat} {lc st : List Value} {k n : Nat} {σ : jS} {Q : jOut → jS → Prop} {dflt lo hi : Int} {offs : Array Int} {len : Nat} {x : Int32} {tgt : Nat} (d : decode M.2.1 pc = .ok (.tableswitch dflt lo hi offs, len)) (h : x.toInt < lo ∨ hi < x.toInt) (ht : (pc : Int) + dflt = (tgt : Int)) (kk : J X M rm tgt lc st k n σ Q) : J X M rm pc lc (.int x :: st) k n σ Q := by
  intro p e s m args below meth c A ad0 σ0 H locs ls ad C Y hS hl ol os
  obtain ⟨⟨hx, hb, hml, hr, htab⟩, ⟨hown, hlk, hnm, hlt⟩, hts, hA, hK, hN, h5⟩ := id C
  exact lv_tableOut hx hb d h ht (kk p e s m args below meth c A ad0 σ0 H locs ls ad C Y hS hl ol (jok_tl os))
end
section
/-! rows of the small machine over its heap -/
def jup {α : Type} (f : Nat → α) (j : Nat) (x : α) : Nat → α := fun t => if t = j then x else f t
theorem jup_eq {α : Type} (f : Nat → α) (j : Nat) (x : α) : jup f j x j = x := if_pos rfl
theorem jup_ne {α : Type} (f : Nat → α) {j t : Nat} (x : α) (h : t ≠ j) : jup f j x t = f t := if_neg h
theorem jro {X : jX} {M : jMt} {rm : Room} {p : Program} {s : State} {m : MethodId} {args : Array Value} {meth : Method} {c : Code} {A : Nat → Prop} {ad0 ad : Nat → Nat} {σ0 σ : jS} {H : Heap} (C : jC X M rm p s m args meth c A ad0 σ0) (Y : jH X A ad0 σ0 ad σ H) {i : Nat} (hi : i < 5) : ∃ (n : Nat) (f : Nat → Int), n < 2147483648 ∧ σ.2 i = jI n f ∧ va_T .int (ad i) n (fun j => .int (iI (f j))) A s s.heap := by
  obtain ⟨-, -, -, -, -, ⟨-, -, h3, -⟩, h5⟩ := C
  obtain ⟨-, -, -, hle, ha, hs⟩ := Y
  obtain ⟨n, f, h1, h2, h4⟩ := h3 i hi
  exact ⟨n, f, h1, by rw [hs i hi]; exact h2, by rw [ha i (by omega)]; exact h4⟩
theorem jown {X : jX} {M : jMt} {rm : Room} {p : Program} {s : State} {m : MethodId} {args : Array Value} {meth : Method} {c : Code} {A : Nat → Prop} {ad0 ad : Nat → Nat} {σ0 σ : jS} {H : Heap} (C : jC X M rm p s m args meth c A ad0 σ0) (Y : jH X A ad0 σ0 ad σ H) {i : Nat} {e : jE} (he : σ.2 i = e) (hn : ∀ n f, e ≠ jI n f) : 5 ≤ i := by
  by_cases h : i < 5
  · obtain ⟨n, f, -, h2, -⟩ := jro C Y h
    exact absurd (he.symm.trans h2) (hn n f)
  · omega
theorem jO_ne (ci : Nat) (fs : List Value) : ∀ n f, jO ci fs ≠ jI n f := fun n f h => by cases h
theorem jQ_ne (a b : Nat) (g : Nat → Option Nat) : ∀ n f, jQ a b g ≠ jI n f := fun n f h => by cases h
theorem jL_ne (a : Nat) (g : Nat → Int) : ∀ n f, jL a g ≠ jI n f := fun n f h => by cases h
theorem jD_ne (a : Nat) (g : Nat → UInt64) : ∀ n f, jD a g ≠ jI n f := fun n f h => by cases h
theorem jH_set {X : jX} {A : Nat → Prop} {ad0 ad : Nat → Nat} {σ0 σ : jS} {H H1 : Heap} (Y : jH X A ad0 σ0 ad σ H) (hc5 : 5 ≤ σ0.1) {i : Nat} {e : jE} (h5 : 5 ≤ i) (hi : i < σ.1) (hok : jokE σ.1 e) (hP : va_P X.2.1 vwCl ((jws X.2.2 ad σ).set (i - 5) (ad i, tE X.2.2 ad e)) H1) (hD : va_D A ((jws X.2.2 ad σ).set (i - 5) (ad i, tE X.2.2 ad e))) : jH X A ad0 σ0 ad (jset σ i e) H1 := by
  obtain ⟨-, -, hw, hle, ha, hs⟩ := Y
  rw [jws_set h5 hi] at hP hD
  exact ⟨hP, hD, jwf_set hw hok, hle, ha, fun j hj => by rw [jset_ne σ e (by omega)]; exact hs j hj⟩
theorem jext {ad ad' : Nat → Nat} {n : Nat} (h : ∀ i, i < n → ad' i = ad i) {l : List Value} (hl : jok n l) : l.map (tv ad') = l.map (tv ad) := List.map_congr_left fun v hv => tv_ext h (hl v hv)
theorem jl_ext {ls : Array Slot} {nL n : Nat} {ad ad' : Nat → Nat} {lc : List Value} (h : ∀ i, i < n → ad' i = ad i) (hl : jok n lc) (hj : jl ls nL ad lc) : jl ls nL ad' lc := ⟨hj.1, hj.2.1, fun i v hv hn => by rw [tv_ext h (jok_at hl hv)]; exact hj.2.2 i v hv hn⟩
theorem jok_mono {n n' : Nat} (h : n ≤ n') {l : List Value} (hl : jok n l) : jok n' l := fun v hv => jokv_mono h (hl v hv)
/-- a new cell -/
theorem jH_push {X : jX} {A : Nat → Prop} {ad0 ad : Nat → Nat} {σ0 σ : jS} {H H1 : Heap} (Y : jH X A ad0 σ0 ad σ H) (hc5 : 5 ≤ σ0.1) {e : jE} {q : Nat} (hok : jokE (σ.1 + 1) e) (hP : va_P X.2.1 vwCl (jws X.2.2 ad σ ++ [(q, tE X.2.2 (fun j => if j = σ.1 then q else ad j) e)]) H1) (hD : va_D A (jws X.2.2 ad σ ++ [(q, tE X.2.2 (fun j => if j = σ.1 then q else ad j) e)])) : jH X A ad0 σ0 (fun j => if j = σ.1 then q else ad j) (jpush σ e) H1 := by
  obtain ⟨-, -, hw, hle, ha, hs⟩ := Y
  have hext : ∀ i, i < σ.1 → (fun j => if j = σ.1 then q else ad j) i = ad i := fun i hi => if_neg (by omega)
  have hp := jws_push (cA := X.2.2) hw hext (by omega) e
  rw [if_pos rfl] at hp
  rw [hp] at hP hD
  exact ⟨hP, hD, jwf_push hw hok, by show σ0.1 ≤ σ.1 + 1; omega, fun i hi => by rw [← ha i hi]; exact if_neg (by omega), fun i hi => by
    rw [show (jpush σ e).2 i = σ.2 i from if_neg (by omega)]
    exact hs i hi⟩
theorem jK_un {U : State} {cl : List vw_C} {D : va_G} {cA : Nat → ClassId} {t0 : Nat} {c1 c2 : ClassId} {ty : FieldType} (hK : va_K D cl (jty cA ++ [(c2, ty)]) U) (ht : (jty cA)[t0]? = some (c1, ty)) : c2 = c1 := by
  have hl : t0 < (jty cA).length := (List.getElem?_eq_some_iff.mp ht).1
  have h1 := (hK.2 t0 (c1, ty) (by rw [List.getElem?_append_left hl]; exact ht)).2
  have h2 := (hK.2 (jty cA).length (c2, ty) (by rw [List.getElem?_append_right (Nat.le_refl _), Nat.sub_self]; rfl)).2
  cases ty with
  | object C =>
    obtain ⟨_, _, _, _, _, g1⟩ := h1
    obtain ⟨_, _, _, _, _, g2⟩ := h2
    exact Option.some.inj (g2.symm.trans g1)
  | _ => exact Option.some.inj (Eq.symm h2 |>.symm |>.symm.trans h1 |> fun h => h) 
theorem J.eq {X : jX} {M : jMt} {rm : Room} {pc : Nat} {lc lc' st st' : List Value} {k n : Nat} {σ : jS} {Q : jOut → jS → Prop} (h1 : lc = lc') (h2 : st = st') (kk : J X M rm pc lc' st' k n σ Q) : J X M rm pc lc st k n σ Q := by subst h1; subst h2; exact kk
/-- fields -/
theorem J.getf {X : jX} {M : jMt} {rm : Room} {pc : Nat} {lc st : List Value} {k n : Nat} {σ : jS} {Q : jOut → jS → Prop} {ix ci kf N i : Nat} {C9 : String} {T : u_T} {fs : List Value} {v : Value} (d : decode M.2.1 pc = .ok (.getfield ix, 3)) (he : σ.2 i = jO ci fs) (hc : vwCl[ci]? = some (C9, T, N)) (hin : ∀ w ∈ u_ws C9 T N, w ∈ jBig) (hk : kf < N) (hl : Cond.fieldLink M.1.cls ix (T kf).1 (T kf).2.1 (T kf).2.2.1 ∈ lw_tbl) (hv : fs[kf]? = some v) (kk : J X M rm (pc + 3) lc (v :: st) k n σ Q) : J X M rm pc lc (.ref i :: st) k n σ Q := by
  intro p e s m args below meth c A ad0 σ0 H locs ls ad C Y hS hl9 ol os
  obtain ⟨⟨hx, hb, hml, hr, htab⟩, ⟨hown, hlk, hnm, hlt⟩, hts, hA, hK, hN, h5⟩ := id C
  have hi : i < σ.1 := jok_hd os
  have h5i := jown C Y he (jO_ne _ _)
  have hw := jws_at (cA := X.2.2) (ad := ad) h5i hi
  rw [he] at hw
  have hokv : jokv σ.1 v := by
    have := Y.2.2.1 i hi
    rw [he] at this
    exact this v (List.mem_of_getElem? hv)
  exact va_get hx hb hts hin hown hK Y.1 (i - 5) hw hc kf hk (hts _ (jw_in hl rfl)) (fun _ h => h) (by rw [List.getElem?_map, hv]; rfl) d (kk p e s m args below meth c A ad0 σ0 H locs ls ad C Y hS hl9 ol (jok_cons hokv (jok_tl os)))
theorem J.getfN {X : jX} {M : jMt} {rm : Room} {pc : Nat} {lc st : List Value} {k n : Nat} {σ : jS} {Q : jOut → jS → Prop} {ix ci kf N i : Nat} {C9 host : String} {T : u_T} {fs : List Value} {v : Value} (d : decode M.2.1 pc = .ok (.getfield ix, 3)) (he : σ.2 i = jO ci fs) (hc : vwCl[ci]? = some (C9, T, N)) (hin : ∀ w ∈ u_ws C9 T N, w ∈ jBig) (hk : kf < N) (hl : Cond.fieldLinkNest M.1.cls ix (T kf).1 (T kf).2.1 (T kf).2.2.1 host ∈ lw_tbl) (hv : fs[kf]? = some v) (kk : J X M rm (pc + 3) lc (v :: st) k n σ Q) : J X M rm pc lc (.ref i :: st) k n σ Q := by
  intro p e s m args below meth c A ad0 σ0 H locs ls ad C Y hS hl9 ol os
  obtain ⟨⟨hx, hb, hml, hr, htab⟩, ⟨hown, hlk, hnm, hlt⟩, hts, hA, hK, hN, h5⟩ := id C
  have hi : i < σ.1 := jok_hd os
  have h5i := jown C Y he (jO_ne _ _)
  have hw := jws_at (cA := X.2.2) (ad := ad) h5i hi
  rw [he] at hw
  have hokv : jokv σ.1 v := by
    have := Y.2.2.1 i hi
    rw [he] at this
    exact this v (List.mem_of_getElem? hv)
  exact va_getN hx hb hts hin hown hK Y.1 (i - 5) hw hc kf hk ((hN.1 _ hl rfl).use rfl) (fun _ h => h) (by rw [List.getElem?_map, hv]; rfl) d (kk p e s m args below meth c A ad0 σ0 H locs ls ad C Y hS hl9 ol (jok_cons hokv (jok_tl os)))
theorem jfit {ad : Nat → Nat} {v : Value} {ty : FieldType} (h : (∃ x, v = .int x ∧ ty = .int) ∨ (∃ k, v = .ref k ∧ ty.isReference = true)) : narrow ty (tv ad v) = tv ad v ∧ fits ty (tv ad v) = true := by
  rcases h with ⟨x, rfl, rfl⟩ | ⟨k, rfl, h⟩
  · exact ⟨rfl, rfl⟩
  · cases ty <;> first | exact ⟨rfl, rfl⟩ | exact absurd h (by decide)
theorem J.putf {X : jX} {M : jMt} {rm : Room} {pc : Nat} {lc st : List Value} {k n : Nat} {σ : jS} {Q : jOut → jS → Prop} {ix ci kf N i : Nat} {C9 : String} {T : u_T} {fs : List Value} {v : Value} {ty : FieldType} (ty0 : Nat → FieldType) (hty : ∀ k, k < N → parseFieldDescriptor (T k).2.2.1 = some (ty0 k)) (hnm : ∀ a, a < N → ∀ b, b < N → a ≠ b → (T a).2.1 ≠ (T b).2.1) (d : decode M.2.1 pc = .ok (.putfield ix, 3)) (he : σ.2 i = jO ci fs) (hc : vwCl[ci]? = some (C9, T, N)) (hin : ∀ w ∈ u_ws C9 T N, w ∈ jBig) (hk : kf < N) (hl : Cond.fieldLink M.1.cls ix (T kf).1 (T kf).2.1 (T kf).2.2.1 ∈ lw_tbl) (hfin : (T kf).2.2.2 = false) (htyk : ty0 kf = ty) (hv : (∃ x, v = .int x ∧ ty = .int) ∨ (∃ k, v = .ref k ∧ ty.isReference = true)) (hlen : kf < fs.length) (kk : J X M rm (pc + 3) lc st k n (jset σ i (jO ci (fs.set kf v))) Q) : J X M rm pc lc (v :: .ref i :: st) k n σ Q := by
  intro p e s m args below meth c A ad0 σ0 H locs ls ad C Y hS hl9 ol os
  obtain ⟨⟨hx, hb, hml, hr, htab⟩, ⟨hown, hlk, hnm9, hlt⟩, hts, hA, hK, hN, h5⟩ := id C
  have hi : i < σ.1 := jok_hd (jok_tl os)
  have h5i := jown C Y he (jO_ne _ _)
  have hw := jws_at (cA := X.2.2) (ad := ad) h5i hi
  rw [he] at hw
  have hd := hty kf hk
  rw [htyk] at hd
  have hokE : jokE σ.1 (jO ci (fs.set kf v)) := by
    have := Y.2.2.1 i hi
    rw [he] at this
    exact fun w hw => (List.mem_or_eq_of_mem_set hw).elim (this w) (fun e => e ▸ jok_hd os)
  refine va_put hx hb hts hin ty0 hty hnm hown hK Y.1 Y.2.1 hS (i - 5) hw hc kf hk (hts _ (jw_in hl rfl)) (fun _ h => h) hfin hd (jfit hv).1 (jfit hv).2 (by rw [List.length_map]; exact hlen) d (fun H1 locs1 hP hD hS1 => ?_)
  rw [← List.map_set] at hP hD
  exact kk p e s m args below meth c A ad0 σ0 H1 locs1 ls ad C (jH_set Y h5 h5i hi hokE hP hD) hS1 hl9 ol (jok_tl (jok_tl os))
theorem J.putfN {X : jX} {M : jMt} {rm : Room} {pc : Nat} {lc st : List Value} {k n : Nat} {σ : jS} {Q : jOut → jS → Prop} {ix ci kf N i : Nat} {C9 host : String} {T : u_T} {fs : List Value} {v : Value} {ty : FieldType} (ty0 : Nat → FieldType) (hty : ∀ k, k < N → parseFieldDescriptor (T k).2.2.1 = some (ty0 k)) (hnm : ∀ a, a < N → ∀ b, b < N → a ≠ b → (T a).2.1 ≠ (T b).2.1) (d : decode M.2.1 pc = .ok (.putfield ix, 3)) (he : σ.2 i = jO ci fs) (hc : vwCl[ci]? = some (C9, T, N)) (hin : ∀ w ∈ u_ws C9 T N, w ∈ jBig) (hk : kf < N) (hl : Cond.fieldLinkNest M.1.cls ix (T kf).1 (T kf).2.1 (T kf).2.2.1 host ∈ lw_tbl) (hfin : (T kf).2.2.2 = false) (htyk : ty0 kf = ty) (hv : (∃ x, v = .int x ∧ ty = .int) ∨ (∃ k, v = .ref k ∧ ty.isReference = true)) (hlen : kf < fs.length) (kk : J X M rm (pc + 3) lc st k n (jset σ i (jO ci (fs.set kf v))) Q) : J X M rm pc lc (v :: .ref i :: st) k n σ Q := by
  intro p e s m args below meth c A ad0 σ0 H locs ls ad C Y hS hl9 ol os
  obtain ⟨⟨hx, hb, hml, hr, htab⟩, ⟨hown, hlk, hnm9, hlt⟩, hts, hA, hK, hN, h5⟩ := id C
  have hi : i < σ.1 := jok_hd (jok_tl os)
  have h5i := jown C Y he (jO_ne _ _)
  have hw := jws_at (cA := X.2.2) (ad := ad) h5i hi
  rw [he] at hw
  have hd := hty kf hk
  rw [htyk] at hd
  have hokE : jokE σ.1 (jO ci (fs.set kf v)) := by
    have := Y.2.2.1 i hi
    rw [he] at this
    exact fun w hw => (List.mem_or_eq_of_mem_set hw).elim (this w) (fun e => e ▸ jok_hd os)
  refine va_putN hx hb hts hin ty0 hty hnm hown hK Y.1 Y.2.1 hS (i - 5) hw hc kf hk ((hN.1 _ hl rfl).use rfl) (fun _ h => h) hfin hd (jfit hv).1 (jfit hv).2 (by rw [List.length_map]; exact hlen) d (fun H1 locs1 hP hD hS1 => ?_)
  rw [← List.map_set] at hP hD
  exact kk p e s m args below meth c A ad0 σ0 H1 locs1 ls ad C (jH_set Y h5 h5i hi hokE hP hD) hS1 hl9 ol (jok_tl (jok_tl os))
theorem J.putfF {X : jX} {M : jMt} {rm : Room} {pc : Nat} {lc st : List Value} {k n : Nat} {σ : jS} {Q : jOut → jS → Prop} {ix ci kf N i : Nat} {C9 : String} {T : u_T} {fs : List Value} {v : Value} {ty : FieldType} (ty0 : Nat → FieldType) (hty : ∀ k, k < N → parseFieldDescriptor (T k).2.2.1 = some (ty0 k)) (hnm : ∀ a, a < N → ∀ b, b < N → a ≠ b → (T a).2.1 ≠ (T b).2.1) (d : decode M.2.1 pc = .ok (.putfield ix, 3)) (he : σ.2 i = jO ci fs) (hc : vwCl[ci]? = some (C9, T, N)) (hin : ∀ w ∈ u_ws C9 T N, w ∈ jBig) (hk : kf < N) (hl : Cond.fieldLink M.1.cls ix (T kf).1 (T kf).2.1 (T kf).2.2.1 ∈ lw_tbl) (hfin : (T kf).2.2.2 = true) (hM : M.1.name = "<init>") (hdecl : (T kf).1 = M.1.cls) (htyk : ty0 kf = ty) (hv : (∃ x, v = .int x ∧ ty = .int) ∨ (∃ k, v = .ref k ∧ ty.isReference = true)) (hlen : kf < fs.length) (kk : J X M rm (pc + 3) lc st k n (jset σ i (jO ci (fs.set kf v))) Q) : J X M rm pc lc (v :: .ref i :: st) k n σ Q := by
  intro p e s m args below meth c A ad0 σ0 H locs ls ad C Y hS hl9 ol os
  obtain ⟨⟨hx, hb, hml, hr, htab⟩, ⟨hown, hlk, hnm9, hlt⟩, hts, hA, hK, hN, h5⟩ := id C
  have hi : i < σ.1 := jok_hd (jok_tl os)
  have h5i := jown C Y he (jO_ne _ _)
  have hw := jws_at (cA := X.2.2) (ad := ad) h5i hi
  rw [he] at hw
  have hd := hty kf hk
  rw [htyk] at hd
  have hokE : jokE σ.1 (jO ci (fs.set kf v)) := by
    have := Y.2.2.1 i hi
    rw [he] at this
    exact fun w hw => (List.mem_or_eq_of_mem_set hw).elim (this w) (fun e => e ▸ jok_hd os)
  refine va_putF hx hb hts hin ty0 hty hnm hown hK Y.1 Y.2.1 hS (i - 5) hw hc kf hk (hts _ (jw_in hl rfl)) (fun _ h => h) hfin (hnm9.trans hM) hdecl hd (jfit hv).1 (jfit hv).2 (by rw [List.length_map]; exact hlen) d (fun H1 locs1 hP hD hS1 => ?_)
  rw [← List.map_set] at hP hD
  exact kk p e s m args below meth c A ad0 σ0 H1 locs1 ls ad C (jH_set Y h5 h5i hi hokE hP hD) hS1 hl9 ol (jok_tl (jok_tl os))
end
section
/-! rows of the small machine: arrays, new cells -/
theorem iI_nat {j : Nat} (h : j < 2147483648) : inI (j : Int) := by unfold inI; omega
theorem iI_natcl {j : Nat} (h : j < 2147483648) : (iI (j : Int)).toNatClampNeg = j := by rw [iI_clamp (iI_nat h)]; rfl
theorem iI_nat_in {j N : Nat} (h : j < N) (hN : N < 2147483648) : vp_in (iI (j : Int)) N := iI_in (iI_nat (by omega)) (by omega) (by omega)
theorem J.iald {X : jX} {M : jMt} {rm : Room} {pc : Nat} {lc st : List Value} {k n : Nat} {σ : jS} {Q : jOut → jS → Prop} {i N : Nat} {f : Nat → Int} {a : Int} (j : Nat) (d : decode M.2.1 pc = .ok (.iaload, 1)) (he : σ.2 i = jI N f) (ha : a = (j : Int)) (hj : j < N) (hN : N < 2147483648) (kk : J X M rm (pc + 1) lc (vI (f j) :: st) k n σ Q) : J X M rm pc lc (vI a :: .ref i :: st) k n σ Q := by
  intro p e s m args below meth c A ad0 σ0 H locs ls ad C Y hS hl9 ol os
  obtain ⟨⟨hx, hb, hml, hr, htab⟩, ⟨hown, hlk, hnm, hlt⟩, hts, hA, hK, hN9, h5⟩ := id C
  subst ha
  have hi : i < σ.1 := jok_hd (jok_tl os)
  have hkk := kk p e s m args below meth c A ad0 σ0 H locs ls ad C Y hS hl9 ol (jok_cons trivial (jok_tl (jok_tl os)))
  have hin := iI_nat_in hj hN
  by_cases h : i < 5
  · obtain ⟨n9, f9, h1, h2, h3⟩ := jro C Y h
    rw [he] at h2
    cases h2
    exact va_ti hx hb h3 hS hin (v := vI (f j)) (by rw [iI_natcl (by omega)]) d hkk
  · have hw := jws_at (cA := X.2.2) (ad := ad) (show 5 ≤ i by omega) hi
    rw [he] at hw
    refine va_iald hx hb hK Y.1 (i - 5) 0 (f := fun t => iI (f t)) hw rfl hin d ?_
    rw [iI_natcl (by omega)]
    exact hkk
theorem J.laldD {X : jX} {M : jMt} {rm : Room} {pc : Nat} {lc st : List Value} {k n : Nat} {σ : jS} {Q : jOut → jS → Prop} {i N : Nat} {f : Nat → Int} {a : Int} (j : Nat) (d : decode M.2.1 pc = .ok (.laload, 1)) (he : σ.2 i = jL N f) (ha : a = (j : Int)) (hj : j < N) (hN : N < 2147483648) (kk : J X M rm (pc + 1) lc (vL (f j) :: st) k n σ Q) : J X M rm pc lc (vI a :: .ref i :: st) k n σ Q := by
  intro p e s m args below meth c A ad0 σ0 H locs ls ad C Y hS hl9 ol os
  obtain ⟨⟨hx, hb, hml, hr, htab⟩, ⟨hown, hlk, hnm, hlt⟩, hts, hA, hK, hN9, h5⟩ := id C
  subst ha
  have hi : i < σ.1 := jok_hd (jok_tl os)
  have hkk := kk p e s m args below meth c A ad0 σ0 H locs ls ad C Y hS hl9 ol (jok_cons trivial (jok_tl (jok_tl os)))
  have hin := iI_nat_in hj hN
  have hw := jws_at (cA := X.2.2) (ad := ad) (jown C Y he (jL_ne _ _)) hi
  rw [he] at hw
  refine va_lald hx hb hK Y.1 (i - 5) 1 (f := fun t => lI (f t)) hw rfl hin d ?_
  rw [iI_natcl (by omega)]
  exact hkk
theorem J.daldD {X : jX} {M : jMt} {rm : Room} {pc : Nat} {lc st : List Value} {k n : Nat} {σ : jS} {Q : jOut → jS → Prop} {i N : Nat} {f : Nat → UInt64} {a : Int} (j : Nat) (d : decode M.2.1 pc = .ok (.daload, 1)) (he : σ.2 i = jD N f) (ha : a = (j : Int)) (hj : j < N) (hN : N < 2147483648) (kk : J X M rm (pc + 1) lc (.double (f j) :: st) k n σ Q) : J X M rm pc lc (vI a :: .ref i :: st) k n σ Q := by
  intro p e s m args below meth c A ad0 σ0 H locs ls ad C Y hS hl9 ol os
  obtain ⟨⟨hx, hb, hml, hr, htab⟩, ⟨hown, hlk, hnm, hlt⟩, hts, hA, hK, hN9, h5⟩ := id C
  subst ha
  have hi : i < σ.1 := jok_hd (jok_tl os)
  have hkk := kk p e s m args below meth c A ad0 σ0 H locs ls ad C Y hS hl9 ol (jok_cons trivial (jok_tl (jok_tl os)))
  have hin := iI_nat_in hj hN
  have hw := jws_at (cA := X.2.2) (ad := ad) (jown C Y he (jD_ne _ _)) hi
  rw [he] at hw
  refine va_dald hx hb hK Y.1 (i - 5) 2 (f := f) hw rfl hin d ?_
  rw [iI_natcl (by omega)]
  exact hkk
theorem J.iast {X : jX} {M : jMt} {rm : Room} {pc : Nat} {lc st : List Value} {k n : Nat} {σ : jS} {Q : jOut → jS → Prop} {i N : Nat} {f : Nat → Int} {a x : Int} (j : Nat) (d : decode M.2.1 pc = .ok (.iastore, 1)) (he : σ.2 i = jI N f) (h5i : 5 ≤ i) (ha : a = (j : Int)) (hj : j < N) (hN : N < 2147483648) (kk : J X M rm (pc + 1) lc st k n (jset σ i (jI N (jup f j x))) Q) : J X M rm pc lc (vI x :: vI a :: .ref i :: st) k n σ Q := by
  intro p e s m args below meth c A ad0 σ0 H locs ls ad C Y hS hl9 ol os
  obtain ⟨⟨hx, hb, hml, hr, htab⟩, ⟨hown, hlk, hnm, hlt⟩, hts, hA, hK, hN9, h5⟩ := id C
  subst ha
  have hi : i < σ.1 := jok_hd (jok_tl (jok_tl os))
  have hw := jws_at (cA := X.2.2) (ad := ad) h5i hi
  rw [he] at hw
  refine va_iast hx hb hK Y.1 Y.2.1 hS (i - 5) 0 (f := fun t => iI (f t)) hw rfl (iI_nat_in hj hN) d (fun H1 locs1 hP hD hS1 => ?_)
  have hf : upd (fun t => iI (f t)) (iI (j : Int)).toNatClampNeg (iI x) = fun t => iI (jup f j x t) := by
    rw [iI_natcl (by omega)]
    funext t
    unfold upd jup
    by_cases h : t = j
    · rw [if_pos h, if_pos h]
    · rw [if_neg h, if_neg h]
  rw [hf] at hP hD
  exact kk p e s m args below meth c A ad0 σ0 H1 locs1 ls ad C (jH_set (e := jI N (jup f j x)) Y h5 h5i hi trivial hP hD) hS1 hl9 ol (jok_tl (jok_tl (jok_tl os)))
theorem J.last {X : jX} {M : jMt} {rm : Room} {pc : Nat} {lc st : List Value} {k n : Nat} {σ : jS} {Q : jOut → jS → Prop} {i N : Nat} {f : Nat → Int} {a x : Int} (j : Nat) (d : decode M.2.1 pc = .ok (.lastore, 1)) (he : σ.2 i = jL N f) (ha : a = (j : Int)) (hj : j < N) (hN : N < 2147483648) (kk : J X M rm (pc + 1) lc st k n (jset σ i (jL N (jup f j x))) Q) : J X M rm pc lc (vL x :: vI a :: .ref i :: st) k n σ Q := by
  intro p e s m args below meth c A ad0 σ0 H locs ls ad C Y hS hl9 ol os
  obtain ⟨⟨hx, hb, hml, hr, htab⟩, ⟨hown, hlk, hnm, hlt⟩, hts, hA, hK, hN9, h5⟩ := id C
  subst ha
  have hi : i < σ.1 := jok_hd (jok_tl (jok_tl os))
  have h5i := jown C Y he (jL_ne _ _)
  have hw := jws_at (cA := X.2.2) (ad := ad) h5i hi
  rw [he] at hw
  refine va_last hx hb hK Y.1 Y.2.1 hS (i - 5) 1 (f := fun t => lI (f t)) hw rfl (iI_nat_in hj hN) d (fun H1 locs1 hP hD hS1 => ?_)
  have hf : vp_updL (fun t => lI (f t)) (iI (j : Int)).toNatClampNeg (lI x) = fun t => lI (jup f j x t) := by
    rw [iI_natcl (by omega)]
    funext t
    unfold vp_updL jup
    by_cases h : t = j
    · rw [if_pos h, if_pos h]
    · rw [if_neg h, if_neg h]
  rw [hf] at hP hD
  exact kk p e s m args below meth c A ad0 σ0 H1 locs1 ls ad C (jH_set (e := jL N (jup f j x)) Y h5 h5i hi trivial hP hD) hS1 hl9 ol (jok_tl (jok_tl (jok_tl os)))
theorem J.dast {X : jX} {M : jMt} {rm : Room} {pc : Nat} {lc st : List Value} {k n : Nat} {σ : jS} {Q : jOut → jS → Prop} {i N : Nat} {f : Nat → UInt64} {a : Int} {x : UInt64} (j : Nat) (d : decode M.2.1 pc = .ok (.dastore, 1)) (he : σ.2 i = jD N f) (ha : a = (j : Int)) (hj : j < N) (hN : N < 2147483648) (kk : J X M rm (pc + 1) lc st k n (jset σ i (jD N (jup f j x))) Q) : J X M rm pc lc (.double x :: vI a :: .ref i :: st) k n σ Q := by
  intro p e s m args below meth c A ad0 σ0 H locs ls ad C Y hS hl9 ol os
  obtain ⟨⟨hx, hb, hml, hr, htab⟩, ⟨hown, hlk, hnm, hlt⟩, hts, hA, hK, hN9, h5⟩ := id C
  subst ha
  have hi : i < σ.1 := jok_hd (jok_tl (jok_tl os))
  have h5i := jown C Y he (jD_ne _ _)
  have hw := jws_at (cA := X.2.2) (ad := ad) h5i hi
  rw [he] at hw
  refine va_dast hx hb hK Y.1 Y.2.1 hS (i - 5) 2 (f := f) hw rfl (iI_nat_in hj hN) d (fun H1 locs1 hP hD hS1 => ?_)
  have hf : vf_upd f (iI (j : Int)).toNatClampNeg x = jup f j x := by
    rw [iI_natcl (by omega)]
    rfl
  rw [hf] at hP hD
  exact kk p e s m args below meth c A ad0 σ0 H1 locs1 ls ad C (jH_set (e := jD N (jup f j x)) Y h5 h5i hi trivial hP hD) hS1 hl9 ol (jok_tl (jok_tl (jok_tl os)))
theorem J.alen {X : jX} {M : jMt} {rm : Room} {pc : Nat} {lc st : List Value} {k n : Nat} {σ : jS} {Q : jOut → jS → Prop} {i N : Nat} {f : Nat → Int} (d : decode M.2.1 pc = .ok (.arraylength, 1)) (he : σ.2 i = jI N f) (kk : J X M rm (pc + 1) lc (vI (N : Int) :: st) k n σ Q) : J X M rm pc lc (.ref i :: st) k n σ Q := by
  intro p e s m args below meth c A ad0 σ0 H locs ls ad C Y hS hl9 ol os
  obtain ⟨⟨hx, hb, hml, hr, htab⟩, ⟨hown, hlk, hnm, hlt⟩, hts, hA, hK, hN9, h5⟩ := id C
  have hi : i < σ.1 := jok_hd os
  have hkk := kk p e s m args below meth c A ad0 σ0 H locs ls ad C Y hS hl9 ol (jok_cons trivial (jok_tl os))
  by_cases h : i < 5
  · obtain ⟨n9, f9, h1, h2, h3⟩ := jro C Y h
    rw [he] at h2
    cases h2
    exact va_tlen hx hb h3 hS (v := iI (N : Int)) (Int32.ofInt_eq_ofNat).symm d hkk
  · have hw := jws_at (cA := X.2.2) (ad := ad) (show 5 ≤ i by omega) hi
    rw [he] at hw
    exact va_alen hx hb hK Y.1 (i - 5) 0 hw rfl (v := iI (N : Int)) (Int32.ofInt_eq_ofNat).symm d hkk
theorem J.aaldB {X : jX} {M : jMt} {rm : Room} {pc : Nat} {lc st : List Value} {k n : Nat} {σ : jS} {Q : jOut → jS → Prop} {i N q : Nat} {g : Nat → Option Nat} {a : Int} (j : Nat) (d : decode M.2.1 pc = .ok (.aaload, 1)) (he : σ.2 i = jQ 0 N g) (ha : a = (j : Int)) (hj : j < N) (hN : N < 2147483648) (hg : g j = some q) (kk : J X M rm (pc + 1) lc (.ref q :: st) k n σ Q) : J X M rm pc lc (vI a :: .ref i :: st) k n σ Q := by
  intro p e s m args below meth c A ad0 σ0 H locs ls ad C Y hS hl9 ol os
  obtain ⟨⟨hx, hb, hml, hr, htab⟩, ⟨hown, hlk, hnm, hlt⟩, hts, hA, hK, hN9, h5⟩ := id C
  subst ha
  have hi : i < σ.1 := jok_hd (jok_tl os)
  have hok : jokv σ.1 (.ref q) := by
    have := Y.2.2.1 i hi
    rw [he] at this
    exact this j q hg
  have hkk := kk p e s m args below meth c A ad0 σ0 H locs ls ad C Y hS hl9 ol (jok_cons hok (jok_tl (jok_tl os)))
  have hin := iI_nat_in hj hN
  have hw := jws_at (cA := X.2.2) (ad := ad) (jown C Y he (jQ_ne _ _ _)) hi
  rw [he] at hw
  refine va_aldq hx hb hK Y.1 (i - 5) 3 (f := fun t => (g t).map ad) hw rfl hin d ?_
  rw [iI_natcl (by omega), hg]
  exact hkk
theorem J.aaldI {X : jX} {M : jMt} {rm : Room} {pc : Nat} {lc st : List Value} {k n : Nat} {σ : jS} {Q : jOut → jS → Prop} {i N q : Nat} {g : Nat → Option Nat} {a : Int} (j : Nat) (d : decode M.2.1 pc = .ok (.aaload, 1)) (he : σ.2 i = jQ 1 N g) (ha : a = (j : Int)) (hj : j < N) (hN : N < 2147483648) (hg : g j = some q) (kk : J X M rm (pc + 1) lc (.ref q :: st) k n σ Q) : J X M rm pc lc (vI a :: .ref i :: st) k n σ Q := by
  intro p e s m args below meth c A ad0 σ0 H locs ls ad C Y hS hl9 ol os
  obtain ⟨⟨hx, hb, hml, hr, htab⟩, ⟨hown, hlk, hnm, hlt⟩, hts, hA, hK, hN9, h5⟩ := id C
  subst ha
  have hi : i < σ.1 := jok_hd (jok_tl os)
  have hok : jokv σ.1 (.ref q) := by
    have := Y.2.2.1 i hi
    rw [he] at this
    exact this j q hg
  have hkk := kk p e s m args below meth c A ad0 σ0 H locs ls ad C Y hS hl9 ol (jok_cons hok (jok_tl (jok_tl os)))
  have hin := iI_nat_in hj hN
  have hw := jws_at (cA := X.2.2) (ad := ad) (jown C Y he (jQ_ne _ _ _)) hi
  rw [he] at hw
  have hcell := Y.1 (i - 5) _ hw
  refine W.aald (v := va_rf ((g j).map ad)) (ty := .array .int) hx hb hcell ((hK.2 4 (X.2.2 4, .array .int) rfl).1 N (fun t => va_rf ((g t).map ad))) rfl (fun q => by cases q) (by show ¬ (_ ∨ (arrV _ _ _).slots.size ≤ _); rw [arrV_size]; exact hin) (by rw [iI_natcl (by omega)]; show (arrV _ _ _).slots[_]? = _; rw [arrV_read _ _ hj]) rfl rfl d ?_
  rw [hg]
  exact hkk
theorem J.aastB {X : jX} {M : jMt} {rm : Room} {pc : Nat} {lc st : List Value} {k n : Nat} {σ : jS} {Q : jOut → jS → Prop} {i N q : Nat} {g : Nat → Option Nat} {a : Int} {vs : List Value} (j : Nat) (d : decode M.2.1 pc = .ok (.aastore, 1)) (he : σ.2 i = jQ 0 N g) (hq : σ.2 q = jO 0 vs) (ha : a = (j : Int)) (hj : j < N) (hN : N < 2147483648) (kk : J X M rm (pc + 1) lc st k n (jset σ i (jQ 0 N (jup g j (some q)))) Q) : J X M rm pc lc (.ref q :: vI a :: .ref i :: st) k n σ Q := by
  intro p e s m args below meth c A ad0 σ0 H locs ls ad C Y hS hl9 ol os
  obtain ⟨⟨hx, hb, hml, hr, htab⟩, ⟨hown, hlk, hnm, hlt⟩, hts, hA, hK, hN9, h5⟩ := id C
  subst ha
  have hi : i < σ.1 := jok_hd (jok_tl (jok_tl os))
  have hqi : q < σ.1 := jok_hd os
  have h5i := jown C Y he (jQ_ne _ _ _)
  have hw := jws_at (cA := X.2.2) (ad := ad) h5i hi
  rw [he] at hw
  have hw2 := jws_at (cA := X.2.2) (ad := ad) (jown C Y hq (jO_ne _ _)) hqi
  rw [hq] at hw2
  have hokE : jokE σ.1 (jQ 0 N (jup g j (some q))) := by
    have := Y.2.2.1 i hi
    rw [he] at this
    intro t u htu
    have htu : jup g j (some q) t = some u := htu
    by_cases h : t = j
    · subst h
      rw [jup_eq] at htu
      cases htu
      exact hqi
    · rw [jup_ne _ _ h] at htu
      exact this t u htu
  refine va_astq hx hb hK Y.1 Y.2.1 hS (i - 5) 3 (q - 5) 0 (r := (RX0, TX0, 4)) (f := fun t => (g t).map ad) hw rfl hw2 rfl (iI_nat_in hj hN) d (fun H1 locs1 hP hD hS1 => ?_)
  have hf : va_up (fun t => (g t).map ad) (iI (j : Int)).toNatClampNeg (some (ad q)) = fun t => (jup g j (some q) t).map ad := by
    rw [iI_natcl (by omega)]
    funext t
    unfold va_up jup
    by_cases h : t = j
    · rw [if_pos h, if_pos h]; rfl
    · rw [if_neg h, if_neg h]
  rw [hf] at hP hD
  exact kk p e s m args below meth c A ad0 σ0 H1 locs1 ls ad C (jH_set (e := jQ 0 N (jup g j (some q))) Y h5 h5i hi hokE hP hD) hS1 hl9 ol (jok_tl (jok_tl (jok_tl os)))
theorem J.newI {X : jX} {M : jMt} {rm : Room} {pc : Nat} {lc st : List Value} {k n : Nat} {σ : jS} {Q : jOut → jS → Prop} {a : Int} (N : Nat) (d : decode M.2.1 pc = .ok (.newarray .int, 2)) (ha : a = (N : Int)) (hN : N ≤ 100000) (hc : k + 1 ≤ rm.cells) (hs : n + N ≤ rm.slots) (hw : Cond.arrayClass .int ∈ lw_tbl) (kk : J X M rm (pc + 2) lc (.ref σ.1 :: st) (k + 1) (n + N) (jpush σ (jI N (fun _ => 0))) Q) : J X M rm pc lc (vI a :: st) k n σ Q := by
  intro p e s m args below meth c A ad0 σ0 H locs ls ad C Y hS hl9 ol os
  obtain ⟨⟨hx, hb, hml, hr, htab⟩, ⟨hown, hlk, hnm, hlt⟩, hts, hA, hK, hN9, h5⟩ := id C
  subst ha
  refine va_newa (atype := .int) hx hb (hts _ (jw_in hw rfl)) rfl hK Y.1 Y.2.1 hS hA (a0 := (N, .inl (fun _ => 0))) (fun _ => rfl) (N' := N) (by rw [← iI_0, iI_lt (iI_nat (by omega)) inI_0]; omega) (iI_natcl (by omega)) (by show N * 4 ≤ 536870912; omega) hc hs d (fun q cA9 H1 hK9 hP hD hS1 => ?_)
  have hcc : cA9 = X.2.2 0 := jK_un (t0 := 0) hK9 rfl
  subst hcc
  have hext : ∀ i, i < σ.1 → (fun j => if j = σ.1 then q else ad j) i = ad i := fun i hi => if_neg (by omega)
  have hkk := kk p e s m args below meth c A ad0 σ0 H1 locs ls (fun j => if j = σ.1 then q else ad j) C (jH_push (e := jI N (fun _ => 0)) (q := q) Y h5 trivial hP hD) hS1 (jl_ext hext ol hl9) (jok_mono (Nat.le_succ _) ol) (jok_cons (Nat.lt_succ_self _) (jok_mono (Nat.le_succ _) (jok_tl os)))
  rw [List.map_cons, jext hext (jok_tl os), show tv (fun j => if j = σ.1 then q else ad j) (.ref σ.1) = .ref q from congrArg Value.ref (if_pos rfl)] at hkk
  exact hkk
theorem J.newL {X : jX} {M : jMt} {rm : Room} {pc : Nat} {lc st : List Value} {k n : Nat} {σ : jS} {Q : jOut → jS → Prop} {a : Int} (N : Nat) (d : decode M.2.1 pc = .ok (.newarray .long, 2)) (ha : a = (N : Int)) (hN : N ≤ 100000) (hc : k + 1 ≤ rm.cells) (hs : n + N ≤ rm.slots) (hw : Cond.arrayClass .long ∈ lw_tbl) (kk : J X M rm (pc + 2) lc (.ref σ.1 :: st) (k + 1) (n + N) (jpush σ (jL N (fun _ => 0))) Q) : J X M rm pc lc (vI a :: st) k n σ Q := by
  intro p e s m args below meth c A ad0 σ0 H locs ls ad C Y hS hl9 ol os
  obtain ⟨⟨hx, hb, hml, hr, htab⟩, ⟨hown, hlk, hnm, hlt⟩, hts, hA, hK, hN9, h5⟩ := id C
  subst ha
  refine va_newa (atype := .long) hx hb (hts _ (jw_in hw rfl)) rfl hK Y.1 Y.2.1 hS hA (a0 := (N, .inr (.inl (fun _ => 0)))) (fun _ => rfl) (N' := N) (by rw [← iI_0, iI_lt (iI_nat (by omega)) inI_0]; omega) (iI_natcl (by omega)) (by show N * 8 ≤ 536870912; omega) hc hs d (fun q cA9 H1 hK9 hP hD hS1 => ?_)
  have hcc : cA9 = X.2.2 1 := jK_un (t0 := 1) hK9 rfl
  subst hcc
  have hext : ∀ i, i < σ.1 → (fun j => if j = σ.1 then q else ad j) i = ad i := fun i hi => if_neg (by omega)
  have hkk := kk p e s m args below meth c A ad0 σ0 H1 locs ls (fun j => if j = σ.1 then q else ad j) C (jH_push (e := jL N (fun _ => 0)) (q := q) Y h5 trivial hP hD) hS1 (jl_ext hext ol hl9) (jok_mono (Nat.le_succ _) ol) (jok_cons (Nat.lt_succ_self _) (jok_mono (Nat.le_succ _) (jok_tl os)))
  rw [List.map_cons, jext hext (jok_tl os), show tv (fun j => if j = σ.1 then q else ad j) (.ref σ.1) = .ref q from congrArg Value.ref (if_pos rfl)] at hkk
  exact hkk
theorem J.newD {X : jX} {M : jMt} {rm : Room} {pc : Nat} {lc st : List Value} {k n : Nat} {σ : jS} {Q : jOut → jS → Prop} {a : Int} (N : Nat) (d : decode M.2.1 pc = .ok (.newarray .double, 2)) (ha : a = (N : Int)) (hN : N ≤ 100000) (hc : k + 1 ≤ rm.cells) (hs : n + N ≤ rm.slots) (hw : Cond.arrayClass .double ∈ lw_tbl) (kk : J X M rm (pc + 2) lc (.ref σ.1 :: st) (k + 1) (n + N) (jpush σ (jD N (fun _ => 0))) Q) : J X M rm pc lc (vI a :: st) k n σ Q := by
  intro p e s m args below meth c A ad0 σ0 H locs ls ad C Y hS hl9 ol os
  obtain ⟨⟨hx, hb, hml, hr, htab⟩, ⟨hown, hlk, hnm, hlt⟩, hts, hA, hK, hN9, h5⟩ := id C
  subst ha
  refine va_newa (atype := .double) hx hb (hts _ (jw_in hw rfl)) rfl hK Y.1 Y.2.1 hS hA (a0 := (N, .inr (.inr (.inr (.inl (fun _ => 0)))))) (fun _ => rfl) (N' := N) (by rw [← iI_0, iI_lt (iI_nat (by omega)) inI_0]; omega) (iI_natcl (by omega)) (by show N * 8 ≤ 536870912; omega) hc hs d (fun q cA9 H1 hK9 hP hD hS1 => ?_)
  have hcc : cA9 = X.2.2 2 := jK_un (t0 := 2) hK9 rfl
  subst hcc
  have hext : ∀ i, i < σ.1 → (fun j => if j = σ.1 then q else ad j) i = ad i := fun i hi => if_neg (by omega)
  have hkk := kk p e s m args below meth c A ad0 σ0 H1 locs ls (fun j => if j = σ.1 then q else ad j) C (jH_push (e := jD N (fun _ => 0)) (q := q) Y h5 trivial hP hD) hS1 (jl_ext hext ol hl9) (jok_mono (Nat.le_succ _) ol) (jok_cons (Nat.lt_succ_self _) (jok_mono (Nat.le_succ _) (jok_tl os)))
  rw [List.map_cons, jext hext (jok_tl os), show tv (fun j => if j = σ.1 then q else ad j) (.ref σ.1) = .ref q from congrArg Value.ref (if_pos rfl)] at hkk
  exact hkk
theorem J.newB {X : jX} {M : jMt} {rm : Room} {pc : Nat} {lc st : List Value} {k n : Nat} {σ : jS} {Q : jOut → jS → Prop} {a : Int} {ix : Nat} (N : Nat) (d : decode M.2.1 pc = .ok (.anewarray ix, 3)) (ha : a = (N : Int)) (hN : N ≤ 100000) (hc : k + 1 ≤ rm.cells) (hs : n + N ≤ rm.slots) (hw : Cond.classLink M.1.cls ix "WireBook$Book" ∈ lw_tbl) (kk : J X M rm (pc + 3) lc (.ref σ.1 :: st) (k + 1) (n + N) (jpush σ (jQ 0 N (fun _ => none))) Q) : J X M rm pc lc (vI a :: st) k n σ Q := by
  intro p e s m args below meth c A ad0 σ0 H locs ls ad C Y hS hl9 ol os
  obtain ⟨⟨hx, hb, hml, hr, htab⟩, ⟨hown, hlk, hnm, hlt⟩, hts, hA, hK, hN9, h5⟩ := id C
  subst ha
  refine va_newq (C := "WireBook$Book") hx hb hown (hts _ (jw_in hw rfl)) hN9.2.2.2.2.2.1 hK Y.1 Y.2.1 hS hA (N' := N) (by rw [← iI_0, iI_lt (iI_nat (by omega)) inI_0]; omega) (iI_natcl (by omega)) (by show N * 4 ≤ 536870912; omega) hc hs d (fun q cA9 H1 hK9 hP hD hS1 => ?_)
  have hcc : cA9 = X.2.2 3 := jK_un (t0 := 3) hK9 rfl
  subst hcc
  have hext : ∀ i, i < σ.1 → (fun j => if j = σ.1 then q else ad j) i = ad i := fun i hi => if_neg (by omega)
  have hokE : jokE (σ.1 + 1) (jQ 0 N (fun _ => none)) := fun j k h => by cases h
  have hkk := kk p e s m args below meth c A ad0 σ0 H1 locs ls (fun j => if j = σ.1 then q else ad j) C (jH_push (e := jQ 0 N (fun _ => none)) (q := q) Y h5 hokE hP hD) hS1 (jl_ext hext ol hl9) (jok_mono (Nat.le_succ _) ol) (jok_cons (Nat.lt_succ_self _) (jok_mono (Nat.le_succ _) (jok_tl os)))
  rw [List.map_cons, jext hext (jok_tl os), show tv (fun j => if j = σ.1 then q else ad j) (.ref σ.1) = .ref q from congrArg Value.ref (if_pos rfl)] at hkk
  exact hkk
theorem J.newO {X : jX} {M : jMt} {rm : Room} {pc : Nat} {lc st : List Value} {k n : Nat} {σ : jS} {Q : jOut → jS → Prop} {ix ci N : Nat} {C9 : String} {T : u_T} (ty : Nat → FieldType) (hty : ∀ k, k < N → parseFieldDescriptor (T k).2.2.1 = some (ty k)) (d : decode M.2.1 pc = .ok (.new ix, 3)) (hcl : vwCl[ci]? = some (C9, T, N)) (hin : ∀ w ∈ u_ws C9 T N, w ∈ jBig) {fs : List Value} (hfs : ∀ j, j < N → defaultValue (ty j) = vp_V fs j) (hfl : ∀ v ∈ fs, v = .null ∨ ∃ x, v = .int x) (h1 : Cond.classLink M.1.cls ix C9 ∈ lw_tbl) (h2 : Cond.instantiable C9 N ∈ lw_tbl) (h3 : Cond.initialized C9 ∈ lw_tbl) (hc : k + 1 ≤ rm.cells) (hs : n + N ≤ rm.slots) (kk : J X M rm (pc + 3) lc (.ref σ.1 :: st) (k + 1) (n + N) (jpush σ (jO ci fs)) Q) : J X M rm pc lc st k n σ Q := by
  intro p e s m args below meth c A ad0 σ0 H locs ls ad C Y hS hl9 ol os
  obtain ⟨⟨hx, hb, hml, hr, htab⟩, ⟨hown, hlk, hnm, hlt⟩, hts, hA, hK, hN9, h5⟩ := id C
  refine va_new hx hb hts hin ty hty hown (hts _ (jw_in h1 rfl)) (hts _ (jw_in h2 rfl)) (hts _ (jw_in h3 rfl)) hK Y.1 Y.2.1 hS hA hcl hfs hc hs d (fun q H1 hP hD hS1 => ?_)
  have hext : ∀ i, i < σ.1 → (fun j => if j = σ.1 then q else ad j) i = ad i := fun i hi => if_neg (by omega)
  have hokE : jokE (σ.1 + 1) (jO ci fs) := fun v hv => by
    rcases hfl v hv with rfl | ⟨x, rfl⟩ <;> trivial
  have hmap : fs.map (tv (fun j => if j = σ.1 then q else ad j)) = fs := by
    rw [List.map_congr_left (g := id) (fun v hv => by rcases hfl v hv with rfl | ⟨x, rfl⟩ <;> rfl), List.map_id]
  have hE : tE X.2.2 (fun j => if j = σ.1 then q else ad j) (jO ci fs) = .inr (ci, fs) := by
    show Sum.inr (ci, fs.map _) = _
    rw [hmap]
  rw [← hE] at hP hD
  have hkk := kk p e s m args below meth c A ad0 σ0 H1 locs ls (fun j => if j = σ.1 then q else ad j) C (jH_push (q := q) Y h5 hokE hP hD) hS1 (jl_ext hext ol hl9) (jok_mono (Nat.le_succ _) ol) (jok_cons (Nat.lt_succ_self _) (jok_mono (Nat.le_succ _) os))
  rw [List.map_cons, jext hext os, show tv (fun j => if j = σ.1 then q else ad j) (.ref σ.1) = .ref q from congrArg Value.ref (if_pos rfl)] at hkk
  exact hkk
theorem J.objInit {X : jX} {M : jMt} {rm : Room} {pc : Nat} {lc st : List Value} {k n : Nat} {σ : jS} {Q : jOut → jS → Prop} {ix i : Nat} (d : decode M.2.1 pc = .ok (.invokespecial ix, 3)) (h1 : Cond.methodLink M.1.cls ix objectInit ∈ lw_tbl) (h2 : Cond.instanceMethod objectInit ∈ lw_tbl) (h3 : Cond.code objectInit ⟨#[0xb1]⟩ 1 none ∈ lw_tbl) (hst : st = []) (hf : 1 ≤ rm.frames) (hlo : 12 ≤ rm.locals) (kk : J X M rm (pc + 3) lc st k n σ Q) : J X M rm pc lc (.ref i :: st) k n σ Q := by
  intro p e s m args below meth c A ad0 σ0 H locs ls ad C Y hS hl9 ol os
  obtain ⟨⟨hx, hb, hml, hr, htab⟩, ⟨hown, hlk, hnm, hlt⟩, hts, hA, hK, hN9, h5⟩ := id C
  subst hst
  exact W.objInit hx hb hown (hts _ (jw_in h1 rfl)) (hts _ (jw_in h2 rfl)) (hts _ (jw_in h3 rfl)) rfl (by rw [hml]; exact hl9.1) rfl d hf hlo (kk p e s m args below meth c A ad0 σ0 H locs ls ad C Y hS hl9 ol (jok_tl os))
end
section
/-! rows of the small machine: ends, calls, throws -/
theorem jfin {X : jX} {p : Program} {e : Env} {rm : Room} {s : State} {m : MethodId} {args : Array Value} {below : List Frame} {meth : Method} {c : Code} {A : Nat → Prop} {ad0 ad : Nat → Nat} {σ0 σ : jS} {H : Heap} {Q : jOut → jS → Prop} {locs : List Loc} {r : Option Value} (Y : jH X A ad0 σ0 ad σ H) (hS : va_S A s.heap H locs) (hr : ∀ v, r = some v → jokv σ.1 v) (hq : Q (.inl r) σ) : ∀ t : State, t.heap = H → s.WarmedH t.vm → jQc X A ad0 σ0 Q args s (.returned (r.map (tv ad))) t := fun t ht _ => ⟨⟨r, ad, σ, rfl, hq, hr, by rw [ht]; exact Y⟩, hS.F ht⟩
theorem J.iret {X : jX} {M : jMt} {rm : Room} {pc : Nat} {lc : List Value} {k n : Nat} {σ : jS} {Q : jOut → jS → Prop} {x : Int32} (ty : FieldType) (d : decode M.2.1 pc = .ok (.ireturn, 1)) (hr9 : M.2.2.2.1 = some ty) (hn : narrow ty (.int x) = .int x) (hk : k ≤ rm.cells) (hs : n ≤ rm.slots) (hq : Q (.inl (some (.int x))) σ) : J X M rm pc lc [.int x] k n σ Q := by
  intro p e s m args below meth c A ad0 σ0 H locs ls ad C Y hS hl ol os
  obtain ⟨⟨hx, hb, hml, hr, htab⟩, ⟨hown, hlk, hnm, hlt⟩, hts, hA, hK, hN, h5⟩ := id C
  exact W.widen hk hs (vx_ret (W.zret hx hb (hr.trans hr9) hn (jfin (p := p) (e := e) (rm := rm) (m := m) (below := below) (meth := meth) (c := c) (r := some (.int x)) Y hS (fun v h => by cases h; trivial) hq) hS.2.2 d hlk))
theorem J.lret {X : jX} {M : jMt} {rm : Room} {pc : Nat} {lc : List Value} {k n : Nat} {σ : jS} {Q : jOut → jS → Prop} {x : Int64} (d : decode M.2.1 pc = .ok (.lreturn, 1)) (hr9 : M.2.2.2.1 = some .long) (hk : k ≤ rm.cells) (hs : n ≤ rm.slots) (hq : Q (.inl (some (.long x))) σ) : J X M rm pc lc [.long x] k n σ Q := by
  intro p e s m args below meth c A ad0 σ0 H locs ls ad C Y hS hl ol os
  obtain ⟨⟨hx, hb, hml, hr, htab⟩, ⟨hown, hlk, hnm, hlt⟩, hts, hA, hK, hN, h5⟩ := id C
  exact W.widen hk hs (vx_ret (W.lret hx hb (hr.trans hr9) (jfin (p := p) (e := e) (rm := rm) (m := m) (below := below) (meth := meth) (c := c) (r := some (.long x)) Y hS (fun v h => by cases h; trivial) hq) hS.2.2 d hlk))
theorem J.dret {X : jX} {M : jMt} {rm : Room} {pc : Nat} {lc : List Value} {k n : Nat} {σ : jS} {Q : jOut → jS → Prop} {x : UInt64} (d : decode M.2.1 pc = .ok (.dreturn, 1)) (hr9 : M.2.2.2.1 = some .double) (hk : k ≤ rm.cells) (hs : n ≤ rm.slots) (hq : Q (.inl (some (.double x))) σ) : J X M rm pc lc [.double x] k n σ Q := by
  intro p e s m args below meth c A ad0 σ0 H locs ls ad C Y hS hl ol os
  obtain ⟨⟨hx, hb, hml, hr, htab⟩, ⟨hown, hlk, hnm, hlt⟩, hts, hA, hK, hN, h5⟩ := id C
  exact W.widen hk hs (vx_ret (W.dret hx hb (hr.trans hr9) (jfin (p := p) (e := e) (rm := rm) (m := m) (below := below) (meth := meth) (c := c) (r := some (.double x)) Y hS (fun v h => by cases h; trivial) hq) hS.2.2 d hlk))
theorem J.aret {X : jX} {M : jMt} {rm : Room} {pc : Nat} {lc : List Value} {k n : Nat} {σ : jS} {Q : jOut → jS → Prop} {i : Nat} {C9 : String} (d : decode M.2.1 pc = .ok (.areturn, 1)) (hr9 : M.2.2.2.1 = some (.object C9)) (hk : k ≤ rm.cells) (hs : n ≤ rm.slots) (hq : Q (.inl (some (.ref i))) σ) : J X M rm pc lc [.ref i] k n σ Q := by
  intro p e s m args below meth c A ad0 σ0 H locs ls ad C Y hS hl ol os
  obtain ⟨⟨hx, hb, hml, hr, htab⟩, ⟨hown, hlk, hnm, hlt⟩, hts, hA, hK, hN, h5⟩ := id C
  exact W.widen hk hs (vx_ret (W.aret (v := .ref (ad i)) hx hb (hr.trans hr9) (Or.inl ⟨_, rfl⟩) (Or.inr ⟨_, rfl⟩) (jfin (p := p) (e := e) (rm := rm) (m := m) (below := below) (meth := meth) (c := c) (r := some (.ref i)) Y hS (fun v h => by cases h; exact jok_hd os) hq) hS.2.2 d hlk))
theorem J.vret {X : jX} {M : jMt} {rm : Room} {pc : Nat} {lc : List Value} {k n : Nat} {σ : jS} {Q : jOut → jS → Prop} (d : decode M.2.1 pc = .ok (.return_, 1)) (hr9 : M.2.2.2.1 = none) (hk : k ≤ rm.cells) (hs : n ≤ rm.slots) (hq : Q (.inl none) σ) : J X M rm pc lc [] k n σ Q := by
  intro p e s m args below meth c A ad0 σ0 H locs ls ad C Y hS hl ol os
  obtain ⟨⟨hx, hb, hml, hr, htab⟩, ⟨hown, hlk, hnm, hlt⟩, hts, hA, hK, hN, h5⟩ := id C
  exact W.widen hk hs (vx_ret (W.vret hx hb (hr.trans hr9) (jfin (p := p) (e := e) (rm := rm) (m := m) (below := below) (meth := meth) (c := c) (r := none) Y hS (fun v h => by cases h) hq) hS.2.2 d hlk))
/-! a method, from its entry -/
def jargs : List Value → List Value
  | [] => []
  | v :: l => if v.category = 2 then v :: .null :: jargs l else v :: jargs l
def jlc (n : Nat) (as : List Value) : List Value := jargs as ++ List.replicate (n - (jargs as).length) .null
def JM (X : jX) (M : jMt) (rm : Room) (as : List Value) (σ : jS) (Q : jOut → jS → Prop) : Prop := J X M rm 0 (jlc M.2.2.1 as) [] 0 0 σ Q
theorem jargs_len : ∀ (ad : Nat → Nat) (as : List Value), (lg_sl (as.map (tv ad))).length = (jargs as).length
  | _, [] => rfl
  | ad, v :: l => by
    have ih := jargs_len ad l
    have e : lg_sl ((v :: l).map (tv ad)) = (if (tv ad v).category = 2 then [Slot.val (tv ad v), Slot.second] else [Slot.val (tv ad v)]) ++ lg_sl (l.map (tv ad)) := by
      simp [lg_sl]
    rw [e, List.length_append, ih, tv_cat, show jargs (v :: l) = if v.category = 2 then v :: .null :: jargs l else v :: jargs l from rfl]
    by_cases h : v.category = 2
    · rw [if_pos h, if_pos h]; simp; omega
    · rw [if_neg h, if_neg h]; simp; omega
theorem jargs_in : ∀ (ad : Nat → Nat) (as : List Value) (o i : Nat) (v : Value), (jargs as)[i]? = some v → v ≠ .null → (o + i, tv ad v) ∈ lv_args o (as.map (tv ad))
  | _, [], o, i, v, h, _ => by simp [jargs] at h
  | ad, w :: l, o, i, v, h, hn => by
    unfold jargs at h
    rw [List.map_cons]
    unfold lv_args
    rw [tv_cat]
    by_cases hc : w.category = 2
    · rw [if_pos hc] at h ⊢
      match i, h with
      | 0, h =>
        cases h
        exact List.mem_cons_self
      | 1, h =>
        cases h
        exact absurd rfl hn
      | i + 2, h =>
        have := jargs_in ad l (o + 2) i v (by simpa using h) hn
        rw [show o + (i + 2) = o + 2 + i by omega]
        exact List.mem_cons_of_mem _ this
    · rw [if_neg hc] at h ⊢
      match i, h with
      | 0, h =>
        cases h
        exact List.mem_cons_self
      | i + 1, h =>
        have := jargs_in ad l (o + 1) i v (by simpa using h) hn
        rw [show o + (i + 1) = o + 1 + i by omega]
        exact List.mem_cons_of_mem _ this
theorem jentry {ad : Nat → Nat} {as : List Value} {nL : Nat} {ls : Array Slot} (h : lv_has ls nL (lv_args 0 (as.map (tv ad)))) : jl ls nL ad (jlc nL as) := by
  refine ⟨h.1, h.2.1, fun i v hv hn => ?_⟩
  unfold jlc at hv
  by_cases hi : i < (jargs as).length
  · rw [List.getElem?_append_left hi] at hv
    have := jargs_in ad as 0 i v hv hn
    rw [Nat.zero_add] at this
    exact h.2.2 _ this
  · rw [List.getElem?_append_right (by omega)] at hv
    exact absurd (List.eq_of_mem_replicate (List.mem_of_getElem? hv)) hn
theorem jargs_ok {n : Nat} : ∀ {as : List Value}, jok n as → jok n (jargs as)
  | [], _ => fun v hv => by cases hv
  | w :: l, h => by
    have ih := jargs_ok (jok_tl h)
    unfold jargs
    by_cases hc : w.category = 2
    · rw [if_pos hc]; exact jok_cons (jok_hd h) (jok_cons trivial ih)
    · rw [if_neg hc]; exact jok_cons (jok_hd h) ih
theorem jlc_ok {n nL : Nat} {as : List Value} (h : jok n as) : jok n (jlc nL as) := fun v hv => (List.mem_append.mp hv).elim (jargs_ok h v) (fun q => by rw [List.eq_of_mem_replicate q]; trivial)
/-- what a caller owes at a method's start -/
def jPre (X : jX) (ad : Nat → Nat) (σ : jS) (as : List Value) (sz : Nat) (U : State) : Prop :=
  U.heap.size = sz ∧ va_P X.2.1 vwCl (jws X.2.2 ad σ) U.heap ∧ va_D (fun _ => True) (jws X.2.2 ad σ) ∧ va_K X.2.1 vwCl (jty X.2.2) U ∧ jN (va_A (jws X.2.2 ad σ) sz) ad σ U U.heap ∧ jwf σ ∧ jok σ.1 as ∧ 5 ≤ σ.1 ∧ X.1.stackTraces = false
abbrev jWs (M : jMt) : List Cond := Cond.code M.1 M.2.1 M.2.2.1 M.2.2.2.1 :: jBig
abbrev jWsX (M : jMt) : List Cond := Cond.codeWith M.1 M.2.1 M.2.2.1 M.2.2.2.1 M.2.2.2.2 :: jBig
theorem jm_body {X : jX} {M : jMt} {rm : Room} {as : List Value} {σ : jS} {Q : jOut → jS → Prop} (hJ : JM X M rm as σ Q) (hlen : (jargs as).length ≤ M.2.2.1) (ad : Nat → Nat) (sz : Nat)
    {p : Program} {e : Env} {s : State} {m : MethodId} {args : Array Value} {below : List Frame} {meth : Method} {c : Code} (hx : p.tables.exec = Jvm.exec) (hb : c.code = M.2.1) (hml : c.maxLocals = M.2.2.1) (hr : meth.sig.returnType = M.2.2.2.1) (htab : c.exceptionTable.toList = tableOf M.2.2.2.2) (hown : s.vm.findClass M.1.cls = some m.cls) (hlk : meth.locks = false) (hnm : meth.name = M.1.name) (hts : ∀ w ∈ jBig, w.before args s = true) (hv : va_Pc (as.map (tv ad)) (jPre X ad σ as sz) args s) :
    W p X.1 e rm s m args below meth c s.heap [] 0 0 (vx_MQ below (jQc X (va_A (jws X.2.2 ad σ) sz) ad σ Q) (jXC X (va_A (jws X.2.2 ad σ) sz) ad σ Q) args s rm.cells rm.slots (va_A (jws X.2.2 ad σ) sz)) (entryFrame m args M.2.2.1) := by
  obtain ⟨rfl, hsz, hP, hD, hK, hN, hw, hok, h5, hlt⟩ := hv
  subst hsz
  have hl := lv_entry (as.map (tv ad)) (n := M.2.2.1) (by rw [jargs_len]; exact hlen)
  rw [lg_entry_eq]
  exact hJ p e s m _ below meth c _ ad σ s.heap [] _ ad ⟨⟨hx, hb, hml, hr, htab⟩, ⟨hown, hlk, hnm, hlt⟩, hts, fun q h => Or.inr h, hK, hN, h5⟩ ⟨hP, hD.self, hw, Nat.le_refl _, fun _ _ => rfl, fun _ _ => rfl⟩ va_S.rf (jentry hl) (jlc_ok hok) (fun v h => by cases h)
theorem jm_met {X : jX} {M : jMt} {rm : Room} {as : List Value} {σ : jS} {Q : jOut → jS → Prop} (hJ : JM X M rm as σ Q) (hy : plainName M.1.cls = true) (hh : M.2.2.2.2 = []) (hlen : (jargs as).length ≤ M.2.2.1) (ad : Nat → Nat) (sz : Nat) :
    vx_Met X.1 M.1 (jWs M) rm (va_Pc (as.map (tv ad)) (jPre X ad σ as sz)) (jQc X (va_A (jws X.2.2 ad σ) sz) ad σ Q) (jXC X (va_A (jws X.2.2 ad σ) sz) ad σ Q) rm.cells rm.slots (va_A (jws X.2.2 ad σ) sz) := by
  refine vx_ofW (cc := M.2.1) (maxL := M.2.2.1) (ret := M.2.2.2.1) hy rfl ?_
  intro p e s m args below meth c s₁ B hml htab hv
  have hts := atoms_spec (ws := jWs M) B.pre
  refine jm_body hJ hlen ad sz B.exec B.bytes hml B.returns ?_ (findClass_of_methodNamed B.named) B.notSynchronized (name_of_methodNamed B.named B.method).1 (fun w h => hts w (List.mem_cons_of_mem _ h)) hv
  rw [hh]
  show _ = []
  cases hc : c.exceptionTable.toList with
  | nil => rfl
  | cons x l => exact (htab x (by rw [hc]; exact List.mem_cons_self)).elim
theorem jm_metX {X : jX} {M : jMt} {rm : Room} {as : List Value} {σ : jS} {Q : jOut → jS → Prop} (hJ : JM X M rm as σ Q) (hy : plainName M.1.cls = true) (hlen : (jargs as).length ≤ M.2.2.1) (ad : Nat → Nat) (sz : Nat) :
    vx_Met X.1 M.1 (jWsX M) rm (va_Pc (as.map (tv ad)) (jPre X ad σ as sz)) (jQc X (va_A (jws X.2.2 ad σ) sz) ad σ Q) (jXC X (va_A (jws X.2.2 ad σ) sz) ad σ Q) rm.cells rm.slots (va_A (jws X.2.2 ad σ) sz) := by
  refine vx_ofWH (cc := M.2.1) (maxL := M.2.2.1) (ret := M.2.2.2.1) (hh := M.2.2.2.2) hy rfl ?_
  intro p e s m args below meth c s₁ B hml hv
  have hts := atoms_spec (ws := jWsX M) B.pre
  exact jm_body hJ hlen ad sz B.exec B.bytes hml B.returns (vx_table (x := M.1) B (hts _ List.mem_cons_self)) (findClass_of_methodNamed B.named) B.notSynchronized (name_of_methodNamed B.named B.method).1 (fun w h => hts w (List.mem_cons_of_mem _ h)) hv
theorem jblind {X : jX} {ad : Nat → Nat} {σ : jS} {as : List Value} {sz : Nat} {av : List Value} : FrameBlind (va_Pc av (jPre X ad σ as sz)) := fun a U g mk q => by
  obtain ⟨q0, q1, qP, qD, qK, qN, qw, qo, q5, ql⟩ := q
  exact ⟨q0, q1, qP, qD, va_K.moved (u := U) (U := U.calling g mk a) (Vm.Alike.refl U.vm) qK, jN.warm (s := U) (U := U.calling g mk a) (State.WarmedH.refl U) qN, qw, qo, q5, ql⟩
theorem jfree {X : jX} {A : Nat → Prop} {ad0 ad : Nat → Nat} {σ0 σ : jS} {H H0 : Heap} {locs : List Loc} (Y : jH X A ad0 σ0 ad σ H) (hS : va_S A H0 H locs) (hA : ∀ q : Nat, H0.size ≤ q → A q) : ∀ q, va_A (jws X.2.2 ad σ) H.size q → A q := by
  intro q h
  rcases h with ⟨k, e, h⟩ | h
  · exact Y.2.1.2 k (q, e) h
  · exact hA q (Nat.le_trans hS.1 h)
theorem jpre {X : jX} {M : jMt} {rm : Room} {p : Program} {s : State} {m : MethodId} {args : Array Value} {meth : Method} {c : Code} {A : Nat → Prop} {ad0 ad : Nat → Nat} {σ0 σ : jS} {H : Heap} {locs : List Loc} (C : jC X M rm p s m args meth c A ad0 σ0) (Y : jH X A ad0 σ0 ad σ H) (hS : va_S A s.heap H locs) {as : List Value} (hok : jok σ.1 as) : ∀ U : State, U.heap = H → s.WarmedH U.vm → va_Pc (as.map (tv ad)) (jPre X ad σ as H.size) (as.map (tv ad)).toArray U := by
  intro U hU hW
  obtain ⟨-, ⟨-, -, -, hlt⟩, -, hA, hK, hN, h5⟩ := id C
  obtain ⟨hP, hD, hw, hle, ha, hs⟩ := id Y
  refine ⟨rfl, by rw [hU], by rw [hU]; exact hP, hD.weaken (fun _ _ _ _ => trivial), va_K.moved hW.alike hK, ?_, hw, hok, by omega, hlt⟩
  rw [hU]
  exact jN.warm hW (((hN.kept hS.2.1).narrow (jfree Y hS hA)).to (fun i hi => ha i (by omega)) hs)
/-- behind a call -/
theorem jback {X : jX} {A : Nat → Prop} {ad0 ad ad' : Nat → Nat} {σ0 σ σ' : jS} {H H' : Heap} (h5 : 5 ≤ σ0.1) (Y : jH X A ad0 σ0 ad σ H) (hF : ∀ q, va_A (jws X.2.2 ad σ) H.size q → A q) (Y' : jH X (va_A (jws X.2.2 ad σ) H.size) ad σ ad' σ' H') : jH X A ad0 σ0 ad' σ' H' := by
  obtain ⟨-, -, -, hle, ha, hs⟩ := Y
  obtain ⟨hP, hD, hw, hle', ha', hs'⟩ := Y'
  exact ⟨hP, hD.weaken (fun _ q _ h => hF q.1 h), hw, by omega, fun i hi => by rw [ha' i (by omega), ha i hi], fun i hi => by rw [hs' i hi, hs i hi]⟩
theorem jcall {X : jX} {M : jMt} {rm : Room} {p : Program} {e : Env} {s : State} {m : MethodId} {args : Array Value} {below : List Frame} {meth : Method} {c : Code} {A : Nat → Prop} {ad0 ad : Nat → Nat} {σ0 σ : jS} {H : Heap} {locs : List Loc} {ls : Array Slot} {pc k n mc ms : Nat} {lc rest : List Value} {st0 : List Value} {Q Q1 : jOut → jS → Prop} {a : Array Value}
    (C : jC X M rm p s m args meth c A ad0 σ0) (Y : jH X A ad0 σ0 ad σ H) (hS : va_S A s.heap H locs) (hl : jl ls M.2.2.1 ad lc) (ol : jok σ.1 lc) (os : jok σ.1 rest)
    (hr : vx_Run p X.1 e rm s m args below meth c H locs k n mc ms (F0 m pc ls st0) (rest.map (tv ad)) (jQc X (va_A (jws X.2.2 ad σ) H.size) ad σ Q1 a) (jXC X (va_A (jws X.2.2 ad σ) H.size) ad σ Q1) (va_A (jws X.2.2 ad σ) H.size))
    (hh : M.2.2.2.2 = [] ∨ ∀ E σ', ¬ Q1 (.inr E) σ') (hb1 : k + mc ≤ rm.cells) (hb2 : n + ms ≤ rm.slots) (kx : ∀ E σ', Q1 (.inr E) σ' → σ.1 ≤ σ'.1 → Q (.inr E) σ')
    (kk : ∀ r σ', Q1 (.inl r) σ' → σ.1 ≤ σ'.1 → J X M rm (pc + 3) lc (r.toList ++ rest) (k + mc) (n + ms) σ' Q) :
    W p X.1 e rm s m args below meth c H locs k n (vx_MQ below (jQc X A ad0 σ0 Q) (jXC X A ad0 σ0 Q) args s rm.cells rm.slots A) (F0 m pc ls st0) := by
  obtain ⟨⟨hx, hb, hml, hr9, htab⟩, ⟨hown, hlk, hnm, hlt⟩, hts, hA, hK, hN, h5⟩ := id C
  have hF := jfree Y hS hA
  intro T hT XX
  rcases hr T hT XX with ⟨v, st₀, t, T', L, h0, X', hL, e1, e2, ⟨⟨r, ad', σ', hv, hq, hok, Y'⟩, hFr⟩, stp⟩ | ⟨q, st₀, t, T', L, E, ce, h0, X', hL, e1, e2, ⟨⟨ad', σ', hq, Y'⟩, hFr⟩, hce, hcv, hcl, stp⟩
  · cases hv
    obtain ⟨k1, k2, k3⟩ := vx_keep h0 e1 hS (fun q _ h => hF q h) hF hL hFr
    have Y2 := jback h5 Y hF Y'
    rw [← e1] at Y2
    have hle : σ.1 ≤ σ'.1 := Y'.2.2.2.1
    have hext := Y'.2.2.2.2.1
    have os' : jok σ'.1 (r.toList ++ rest) := fun w hw => (List.mem_append.mp hw).elim (fun h => hok w (by cases r with | none => cases h | some x => rw [List.mem_singleton.mp h])) (fun h => jokv_mono hle (os w h))
    obtain ⟨t2, a1, b1⟩ := kk r σ' hq hle p e s m args below meth c A ad0 σ0 T'.heap (locs ++ L) ls ad' C Y2 k3 (jl_ext hext ol hl) (jok_mono hle ol) os' T' rfl X'
    refine ⟨t2, stp t2 ?_, b1⟩
    rw [List.map_append, jext hext os] at a1
    have hto : (r.map (tv ad')).toList = r.toList.map (tv ad') := by cases r <;> rfl
    rw [hto]
    exact a1
  · obtain ⟨k1, k2, k3⟩ := vx_keep h0 e1 hS (fun q _ h => hF q h) hF hL hFr
    have Y2 := jback h5 Y hF Y'
    rcases hh with hh | hh
    · have hno : ∀ x ∈ c.exceptionTable.toList, covers x pc = false := fun x hx9 => by
        rw [htab, hh] at hx9
        cases hx9
      obtain ⟨t2, a1, b1⟩ := vx_out (Qc := jQc X A ad0 σ0 Q) (XC := jXC X A ad0 σ0 Q) (args := args) (s := s) (mc := rm.cells) (ms := rm.slots) (free := A) (H := T'.heap) (rest := rest.map (tv ad)) (ls := ls) (pc := pc) hno hlk (by rw [e1]; exact hce) hcv hcl (fun t9 ht9 _ => ⟨⟨ad', σ', kx E σ' hq Y'.2.2.2.1, by rw [ht9, e1]; exact Y2⟩, k3.F ht9⟩) k3.2.2 hb1 hb2 T' rfl X'
      exact ⟨t2, stp.trans a1, b1⟩
    · exact (hh E σ' hq).elim
theorem jws_ok {M : jMt} {s : State} {args : Array Value} (hts : ∀ w ∈ jBig, w.before args s = true) (hc : Cond.code M.1 M.2.1 M.2.2.1 M.2.2.2.1 ∈ lw_tbl) : ∀ w ∈ jWs M, ∀ (a' : Array Value) (U : State), s.WarmedH U.vm → w.before a' U = true := by
  intro w hw a' U hW
  have hb : w ∈ jBig := by
    rcases List.mem_cons.mp hw with rfl | h
    · exact jw_in hc rfl
    · exact h
  exact word_at hW (good_of_word (List.mem_filter.mp hb).2) (hts w hb)
theorem jws_okX {M : jMt} {s : State} {args : Array Value} (hts : ∀ w ∈ jBig, w.before args s = true) (hc : Cond.codeWith M.1 M.2.1 M.2.2.1 M.2.2.2.1 M.2.2.2.2 ∈ lw_tbl) : ∀ w ∈ jWsX M, ∀ (a' : Array Value) (U : State), s.WarmedH U.vm → w.before a' U = true := by
  intro w hw a' U hW
  have hb : w ∈ jBig := by
    rcases List.mem_cons.mp hw with rfl | h
    · exact jw_in hc rfl
    · exact h
  exact word_at hW (good_of_word (List.mem_filter.mp hb).2) (hts w hb)
/-- what the tables say of a method that is called: n: its parameters -/
def jSt (M : jMt) (n : Nat) : Prop := plainName M.1.cls = true ∧ M.2.2.2.2 = [] ∧ Cond.code M.1 M.2.1 M.2.2.1 M.2.2.2.1 ∈ lw_tbl ∧ Cond.initialized M.1.cls ∈ lw_tbl ∧ (M.1.cls ≠ "java/lang/invoke/MethodHandle" ∧ M.1.cls ≠ "java/lang/invoke/VarHandle") ∧ (parseMethodDescriptor M.1.desc).map (fun d => d.parameters.length) = some n
theorem jcb {M M' : jMt} {s : State} {args : Array Value} {rm rm' : Room} {ix n : Nat} (hts : ∀ w ∈ jBig, w.before args s = true) (hst : jSt M' n) (hl : Cond.methodLink M.1.cls ix M'.1 ∈ lw_tbl) (hf : rm'.frames + 1 ≤ rm.frames) (hlo : 8 + (M'.2.2.1 + 11) + rm'.locals ≤ rm.locals) : CallB rm s args M.1.cls ix M'.1 M'.2.1 M'.2.2.1 M'.2.2.2.1 (jWs M') rm' rm'.cells rm'.slots n := by
  obtain ⟨-, -, hc, hi, hy, hd⟩ := hst
  refine ⟨rfl, rfl, hf, hlo, jws_ok hts hc, List.mem_cons_self, hts _ (jw_in hc rfl), hts _ (jw_in hi rfl), hy, fun sig h => ?_, hts _ (jw_in hl rfl)⟩
  rw [h] at hd
  exact (Option.some.inj hd).symm
def jcat (l : List Value) : Nat := (l.map fun v => v.category).sum
theorem jcat_tv (ad : Nat → Nat) (l : List Value) : ((l.map (tv ad)).map fun v => v.category).sum = jcat l := by
  unfold jcat
  rw [List.map_map]
  congr 1
  exact List.map_congr_left fun v _ => tv_cat ad v
theorem J.callV {X : jX} {M : jMt} {rm : Room} {pc : Nat} {lc st st0 : List Value} {k n : Nat} {σ : jS} {Q : jOut → jS → Prop} {M' : jMt} {rm' : Room} {Q1 : jOut → jS → Prop} {ix i ci N : Nat} {T : u_T} {fs : List Value} (as : List Value) (d : decode M.2.1 pc = .ok (.invokevirtual ix, 3)) (hJ : JM X M' rm' (.ref i :: as) σ Q1) (he : σ.2 i = jO ci fs) (hci : vwCl[ci]? = some (M'.1.cls, T, N)) (hst : jSt M' as.length) (hl9 : Cond.methodLink M.1.cls ix M'.1 ∈ lw_tbl) (hi9 : Cond.instanceMethod M'.1 ∈ lw_tbl) (hs9 : Cond.selects M'.1.cls M'.1 M'.1 ∈ lw_tbl) (hst0 : st0 = as.reverse ++ .ref i :: st) (hlen : (jargs (.ref i :: as)).length ≤ M'.2.2.1) (hf : rm'.frames + 1 ≤ rm.frames) (hlo : 8 + (M'.2.2.1 + 11) + rm'.locals ≤ rm.locals) (hcat : jcat st ≤ 8) (hb1 : k + rm'.cells ≤ rm.cells) (hb2 : n + rm'.slots ≤ rm.slots)
    (hh : M.2.2.2.2 = [] ∨ ∀ E σ', ¬ Q1 (.inr E) σ') (kx : ∀ E σ', Q1 (.inr E) σ' → σ.1 ≤ σ'.1 → Q (.inr E) σ') (kk : ∀ r σ', Q1 (.inl r) σ' → σ.1 ≤ σ'.1 → J X M rm (pc + 3) lc (r.toList ++ st) (k + rm'.cells) (n + rm'.slots) σ' Q) : J X M rm pc lc st0 k n σ Q := by
  subst hst0
  intro p e s m args below meth c A ad0 σ0 H locs ls ad C Y hS hl ol os
  obtain ⟨⟨hx, hb, hml, hr, htab⟩, ⟨hown, hlk, hnm, hlt⟩, hts, hA, hK, hN, h5⟩ := id C
  have os1 : jok σ.1 (.ref i :: as) := fun v hv => os v (by rcases List.mem_cons.mp hv with rfl | h; exact List.mem_append_right _ List.mem_cons_self; exact List.mem_append_left _ (List.mem_reverse.mpr h))
  have os2 : jok σ.1 st := fun v hv => os v (List.mem_append_right _ (List.mem_cons_of_mem _ hv))
  have hi : i < σ.1 := jok_hd os1
  have hw := jws_at (cA := X.2.2) (ad := ad) (jown C Y he (jO_ne _ _)) hi
  rw [he] at hw
  have hM := jm_met hJ hst.1 hst.2.1 hlen ad H.size
  refine jcall C Y hS hl ol os2 (vx_runV (As := as.map (tv ad)) (rest := st.map (tv ad)) (Ts := jBig) ⟨hx, hb, hml, hown, hts⟩ hM ⟨jcb hts hst hl9 hf hlo, hts _ (jw_in hi9 rfl), hts _ (jw_in hs9 rfl)⟩ ⟨jblind, va_recv hK Y.1 hci hw, jpre C Y hS os1⟩ rfl (List.length_map ..) hl.1 (by rw [List.map_append, List.map_reverse]; rfl) (lv_room (by rw [jcat_tv]; exact hcat)) d ⟨hb1, hb2⟩) hh hb1 hb2 kx kk
theorem J.callS {X : jX} {M : jMt} {rm : Room} {pc : Nat} {lc st st0 : List Value} {k n : Nat} {σ : jS} {Q : jOut → jS → Prop} {M' : jMt} {rm' : Room} {Q1 : jOut → jS → Prop} {ix : Nat} (as : List Value) (d : decode M.2.1 pc = .ok (.invokestatic ix, 3)) (hJ : JM X M' rm' as σ Q1) (hst : jSt M' as.length) (hl9 : Cond.methodLink M.1.cls ix M'.1 ∈ lw_tbl) (hi9 : Cond.static M'.1 ∈ lw_tbl) (hst0 : st0 = as.reverse ++ st) (hlen : (jargs as).length ≤ M'.2.2.1) (hf : rm'.frames + 1 ≤ rm.frames) (hlo : 8 + (M'.2.2.1 + 11) + rm'.locals ≤ rm.locals) (hcat : jcat st ≤ 8) (hb1 : k + rm'.cells ≤ rm.cells) (hb2 : n + rm'.slots ≤ rm.slots)
    (hh : M.2.2.2.2 = [] ∨ ∀ E σ', ¬ Q1 (.inr E) σ') (kx : ∀ E σ', Q1 (.inr E) σ' → σ.1 ≤ σ'.1 → Q (.inr E) σ') (kk : ∀ r σ', Q1 (.inl r) σ' → σ.1 ≤ σ'.1 → J X M rm (pc + 3) lc (r.toList ++ st) (k + rm'.cells) (n + rm'.slots) σ' Q) : J X M rm pc lc st0 k n σ Q := by
  subst hst0
  intro p e s m args below meth c A ad0 σ0 H locs ls ad C Y hS hl ol os
  obtain ⟨⟨hx, hb, hml, hr, htab⟩, ⟨hown, hlk, hnm, hlt⟩, hts, hA, hK, hN, h5⟩ := id C
  have os1 : jok σ.1 as := fun v hv => os v (List.mem_append_left _ (List.mem_reverse.mpr hv))
  have os2 : jok σ.1 st := fun v hv => os v (List.mem_append_right _ hv)
  have hM := jm_met hJ hst.1 hst.2.1 hlen ad H.size
  refine jcall C Y hS hl ol os2 (vx_runS (As := as.map (tv ad)) (rest := st.map (tv ad)) (Ts := jBig) ⟨hx, hb, hml, hown, hts⟩ hM ⟨jcb hts hst hl9 hf hlo, hts _ (jw_in hi9 rfl)⟩ ⟨jblind, jpre C Y hS os1⟩ rfl (List.length_map ..) hl.1 (by rw [List.map_append, List.map_reverse]) (lv_room (by rw [jcat_tv]; exact hcat)) d ⟨hb1, hb2⟩) hh hb1 hb2 kx kk

theorem met_of {l : Launch} {y : MethodName} {ws : List Cond} {rm : Room} {Pc : Array Value → State → Prop} {Qc : Array Value → State → Outcome → State → Prop} {XC : String → State → State → Prop} {mc ms : Nat} {free : Addr → Prop} (h : vx_Met l y ws rm Pc Qc XC mc ms free) (hn : ∀ E st t, ¬ XC E st t) : Met l y ws rm Pc Qc mc ms free := by
  intro p e h1 h2 h3 s m args below h4 h5 h6 h7
  obtain ⟨n, o, a, b, c, d⟩ := h p e h1 h2 h3 s m args below h4 h5 h6 h7
  refine ⟨n, o, a, b, c, ?_⟩
  rcases d with ⟨d1, d2⟩ | ⟨q, -, E, ce, L, hx, -⟩
  · exact ⟨d1, d2⟩
  · exact (hn _ _ _ hx).elim
theorem run_of {p : Program} {l : Launch} {e : Env} {R : Room} {s : State} {m : MethodId} {args : Array Value} {below : List Frame} {meth : Method} {c : Code} {H : Heap} {locs : List Loc} {cells slots mc ms : Nat} {g : JFrame} {rest : List Value} {Qa : State → Outcome → State → Prop} {XC : String → State → State → Prop} {free : Addr → Prop} (h : va_Run p l e R s m args below meth c H locs cells slots mc ms g rest Qa free) : vx_Run p l e R s m args below meth c H locs cells slots mc ms g rest Qa XC free := fun T hT X => Or.inl (h T hT X)
theorem jno {X : jX} {A : Nat → Prop} {ad0 : Nat → Nat} {σ0 : jS} {Q : jOut → jS → Prop} (h : ∀ E σ', ¬ Q (.inr E) σ') : ∀ E st t, ¬ jXC X A ad0 σ0 Q E st t := fun E st t q => by
  obtain ⟨⟨ad, σ, h1, -⟩, -⟩ := q
  exact h E σ h1
theorem J.callSN {X : jX} {M : jMt} {rm : Room} {pc : Nat} {lc st st0 : List Value} {k n : Nat} {σ : jS} {Q : jOut → jS → Prop} {M' : jMt} {rm' : Room} {Q1 : jOut → jS → Prop} {ix : Nat} {host : String} (as : List Value) (d : decode M.2.1 pc = .ok (.invokestatic ix, 3)) (hJ : JM X M' rm' as σ Q1) (hst : jSt M' as.length) (hl9 : Cond.methodLinkNest M.1.cls ix M'.1 host ∈ lw_tbl) (hi9 : Cond.static M'.1 ∈ lw_tbl) (hst0 : st0 = as.reverse ++ st) (hlen : (jargs as).length ≤ M'.2.2.1) (hf : rm'.frames + 1 ≤ rm.frames) (hlo : 8 + (M'.2.2.1 + 11) + rm'.locals ≤ rm.locals) (hcat : jcat st ≤ 8) (hb1 : k + rm'.cells ≤ rm.cells) (hb2 : n + rm'.slots ≤ rm.slots)
    (hh : ∀ E σ', ¬ Q1 (.inr E) σ') (kk : ∀ r σ', Q1 (.inl r) σ' → σ.1 ≤ σ'.1 → J X M rm (pc + 3) lc (r.toList ++ st) (k + rm'.cells) (n + rm'.slots) σ' Q) : J X M rm pc lc st0 k n σ Q := by
  subst hst0
  intro p e s m args below meth c A ad0 σ0 H locs ls ad C Y hS hl ol os
  obtain ⟨⟨hx, hb, hml, hr, htab⟩, ⟨hown, hlk, hnm, hlt⟩, hts, hA, hK, hN, h5⟩ := id C
  have os1 : jok σ.1 as := fun v hv => os v (List.mem_append_left _ (List.mem_reverse.mpr hv))
  have os2 : jok σ.1 st := fun v hv => os v (List.mem_append_right _ hv)
  have hM := met_of (jm_met hJ hst.1 hst.2.1 hlen ad H.size) (jno hh)
  obtain ⟨-, -, hc, hi, hy, hd⟩ := id hst
  have hG : GoodIn jBig (jWs M') := fun w hw => by
    have hb9 : w ∈ jBig := (List.mem_cons.mp hw).elim (fun h => by rw [h]; exact jw_in hc rfl) (fun h => h)
    exact ⟨hb9, good_of_word (List.mem_filter.mp hb9).2⟩
  refine jcall C Y hS hl ol os2 (run_of (va_runSN (As := as.map (tv ad)) (rest := st.map (tv ad)) (Ts := jBig) ⟨hx, hb, hml, hown, hts⟩ hM ⟨va_cnB (maxL := M'.2.2.1) as.length hts hG rfl rfl rfl (hN.1 _ hl9 rfl) (hts _ (jw_in hi rfl)) ⟨hy.1, hy.2, hd⟩ ⟨hf, hlo⟩, hts _ (jw_in hi9 rfl), trivial⟩ ⟨jblind, jpre C Y hS os1⟩ rfl (List.length_map ..) hl.1 (by rw [List.map_append, List.map_reverse]) (lv_room (by rw [jcat_tv]; exact hcat)) d ⟨hb1, hb2⟩)) (Or.inr hh) hb1 hb2 (fun E σ' h => (hh E σ' h).elim) kk
theorem J.callIN {X : jX} {M : jMt} {rm : Room} {pc : Nat} {lc st st0 : List Value} {k n : Nat} {σ : jS} {Q : jOut → jS → Prop} {M' : jMt} {rm' : Room} {Q1 : jOut → jS → Prop} {ix i : Nat} {host : String} (as : List Value) (d : decode M.2.1 pc = .ok (.invokespecial ix, 3)) (hJ : JM X M' rm' (.ref i :: as) σ Q1) (hst : jSt M' as.length) (hret : M'.2.2.2.1 = none) (hinit : M'.1.name = "<init>") (hl9 : Cond.methodLinkNest M.1.cls ix M'.1 host ∈ lw_tbl) (hi9 : Cond.instanceMethod M'.1 ∈ lw_tbl) (hst0 : st0 = as.reverse ++ .ref i :: st) (hlen : (jargs (.ref i :: as)).length ≤ M'.2.2.1) (hf : rm'.frames + 1 ≤ rm.frames) (hlo : 8 + (M'.2.2.1 + 11) + rm'.locals ≤ rm.locals) (hcat : jcat st ≤ 8) (hb1 : k + rm'.cells ≤ rm.cells) (hb2 : n + rm'.slots ≤ rm.slots)
    (hh : ∀ E σ', ¬ Q1 (.inr E) σ') (kk : ∀ r σ', Q1 (.inl r) σ' → σ.1 ≤ σ'.1 → J X M rm (pc + 3) lc (r.toList ++ st) (k + rm'.cells) (n + rm'.slots) σ' Q) : J X M rm pc lc st0 k n σ Q := by
  subst hst0
  intro p e s m args below meth c A ad0 σ0 H locs ls ad C Y hS hl ol os
  obtain ⟨⟨hx, hb, hml, hr, htab⟩, ⟨hown, hlk, hnm, hlt⟩, hts, hA, hK, hN, h5⟩ := id C
  have os1 : jok σ.1 (.ref i :: as) := fun v hv => os v (by rcases List.mem_cons.mp hv with rfl | h; exact List.mem_append_right _ List.mem_cons_self; exact List.mem_append_left _ (List.mem_reverse.mpr h))
  have os2 : jok σ.1 st := fun v hv => os v (List.mem_append_right _ (List.mem_cons_of_mem _ hv))
  have hM := met_of (jm_met hJ hst.1 hst.2.1 hlen ad H.size) (jno hh)
  obtain ⟨-, -, hc, hi, hy, hd⟩ := id hst
  have hG : GoodIn jBig (jWs M') := fun w hw => by
    have hb9 : w ∈ jBig := (List.mem_cons.mp hw).elim (fun h => by rw [h]; exact jw_in hc rfl) (fun h => h)
    exact ⟨hb9, good_of_word (List.mem_filter.mp hb9).2⟩
  refine jcall C Y hS hl ol os2 (run_of (va_runIN (As := as.map (tv ad)) (rest := st.map (tv ad)) (Ts := jBig) (maxL := M'.2.2.1) (bytes := M'.2.1) (ws := jWs M') ⟨hx, hb, hml, hown, hts⟩ hM ⟨hret ▸ va_cnB (maxL := M'.2.2.1) (ret := M'.2.2.2.1) as.length hts hG rfl rfl rfl (hN.1 _ hl9 rfl) (hts _ (jw_in hi rfl)) ⟨hy.1, hy.2, hd⟩ ⟨hf, hlo⟩, hinit, hts _ (jw_in hi9 rfl)⟩ ⟨jblind, jpre C Y hS os1⟩ rfl (List.length_map ..) hl.1 (by rw [List.map_append, List.map_reverse]; rfl) (lv_room (by rw [jcat_tv]; exact hcat)) d ⟨hb1, hb2⟩)) (Or.inr hh) hb1 hb2 (fun E σ' h => (hh E σ' h).elim) kk
theorem J.callI {X : jX} {M : jMt} {rm : Room} {pc : Nat} {lc st st0 : List Value} {k n : Nat} {σ : jS} {Q : jOut → jS → Prop} {M' : jMt} {rm' : Room} {Q1 : jOut → jS → Prop} {ix i : Nat} (as : List Value) (d : decode M.2.1 pc = .ok (.invokespecial ix, 3)) (hJ : JM X M' rm' (.ref i :: as) σ Q1) (hst : jSt M' as.length) (hret : M'.2.2.2.1 = none) (hinit : M'.1.name = "<init>") (hl9 : Cond.methodLink M.1.cls ix M'.1 ∈ lw_tbl) (hi9 : Cond.instanceMethod M'.1 ∈ lw_tbl) (hst0 : st0 = as.reverse ++ .ref i :: st) (hlen : (jargs (.ref i :: as)).length ≤ M'.2.2.1) (hf : rm'.frames + 1 ≤ rm.frames) (hlo : 8 + (M'.2.2.1 + 11) + rm'.locals ≤ rm.locals) (hcat : jcat st ≤ 8) (hb1 : k + rm'.cells ≤ rm.cells) (hb2 : n + rm'.slots ≤ rm.slots)
    (hh : ∀ E σ', ¬ Q1 (.inr E) σ') (kk : ∀ r σ', Q1 (.inl r) σ' → σ.1 ≤ σ'.1 → J X M rm (pc + 3) lc (r.toList ++ st) (k + rm'.cells) (n + rm'.slots) σ' Q) : J X M rm pc lc st0 k n σ Q := by
  subst hst0
  intro p e s m args below meth c A ad0 σ0 H locs ls ad C Y hS hl ol os
  obtain ⟨⟨hx, hb, hml, hr, htab⟩, ⟨hown, hlk, hnm, hlt⟩, hts, hA, hK, hN, h5⟩ := id C
  have os1 : jok σ.1 (.ref i :: as) := fun v hv => os v (by rcases List.mem_cons.mp hv with rfl | h; exact List.mem_append_right _ List.mem_cons_self; exact List.mem_append_left _ (List.mem_reverse.mpr h))
  have os2 : jok σ.1 st := fun v hv => os v (List.mem_append_right _ (List.mem_cons_of_mem _ hv))
  have hM := met_of (jm_met hJ hst.1 hst.2.1 hlen ad H.size) (jno hh)
  refine jcall C Y hS hl ol os2 (run_of (va_runI (As := as.map (tv ad)) (rest := st.map (tv ad)) (Ts := jBig) (maxL := M'.2.2.1) (bytes := M'.2.1) (ws := jWs M') ⟨hx, hb, hml, hown, hts⟩ hM ⟨hret ▸ jcb hts hst hl9 hf hlo, hinit, hts _ (jw_in hi9 rfl)⟩ ⟨jblind, jpre C Y hS os1⟩ rfl (List.length_map ..) hl.1 (by rw [List.map_append, List.map_reverse]; rfl) (lv_room (by rw [jcat_tv]; exact hcat)) d ⟨hb1, hb2⟩)) (Or.inr hh) hb1 hb2 (fun E σ' h => (hh E σ' h).elim) kk
/-- a static method with a table of its own -/
def jStX (M : jMt) (n : Nat) : Prop := plainName M.1.cls = true ∧ Cond.codeWith M.1 M.2.1 M.2.2.1 M.2.2.2.1 M.2.2.2.2 ∈ lw_tbl ∧ Cond.initialized M.1.cls ∈ lw_tbl ∧ (M.1.cls ≠ "java/lang/invoke/MethodHandle" ∧ M.1.cls ≠ "java/lang/invoke/VarHandle") ∧ (parseMethodDescriptor M.1.desc).map (fun d => d.parameters.length) = some n
theorem J.callSX {X : jX} {M : jMt} {rm : Room} {pc : Nat} {lc st st0 : List Value} {k n : Nat} {σ : jS} {Q : jOut → jS → Prop} {M' : jMt} {rm' : Room} {Q1 : jOut → jS → Prop} {ix : Nat} (as : List Value) (d : decode M.2.1 pc = .ok (.invokestatic ix, 3)) (hJ : JM X M' rm' as σ Q1) (hst : jStX M' as.length) (hl9 : Cond.methodLink M.1.cls ix M'.1 ∈ lw_tbl) (hi9 : Cond.static M'.1 ∈ lw_tbl) (hst0 : st0 = as.reverse ++ st) (hlen : (jargs as).length ≤ M'.2.2.1) (hf : rm'.frames + 1 ≤ rm.frames) (hlo : 8 + (M'.2.2.1 + 11) + rm'.locals ≤ rm.locals) (hcat : jcat st ≤ 8) (hb1 : k + rm'.cells ≤ rm.cells) (hb2 : n + rm'.slots ≤ rm.slots)
    (hh : ∀ E σ', ¬ Q1 (.inr E) σ') (kk : ∀ r σ', Q1 (.inl r) σ' → σ.1 ≤ σ'.1 → J X M rm (pc + 3) lc (r.toList ++ st) (k + rm'.cells) (n + rm'.slots) σ' Q) : J X M rm pc lc st0 k n σ Q := by
  subst hst0
  intro p e s m args below meth c A ad0 σ0 H locs ls ad C Y hS hl ol os
  obtain ⟨⟨hx, hb, hml, hr, htab⟩, ⟨hown, hlk, hnm, hlt⟩, hts, hA, hK, hN, h5⟩ := id C
  have os1 : jok σ.1 as := fun v hv => os v (List.mem_append_left _ (List.mem_reverse.mpr hv))
  have os2 : jok σ.1 st := fun v hv => os v (List.mem_append_right _ hv)
  have hM := jm_metX hJ hst.1 hlen ad H.size
  obtain ⟨-, hc, hi, hy, hd⟩ := hst
  refine jcall C Y hS hl ol os2 (vx_runSX (hh := M'.2.2.2.2) (As := as.map (tv ad)) (rest := st.map (tv ad)) (Ts := jBig) (maxL := M'.2.2.1) ⟨hx, hb, hml, hown, hts⟩ hM ⟨⟨rfl, rfl, hf, hlo, jws_okX hts hc, List.mem_cons_self⟩, hts _ (jw_in hc rfl), hts _ (jw_in hi rfl), hy, fun sig h => by rw [h] at hd; exact (Option.some.inj hd).symm, hts _ (jw_in hl9 rfl), hts _ (jw_in hi9 rfl)⟩ ⟨jblind, jpre C Y hS os1⟩ rfl (List.length_map ..) hl.1 (by rw [List.map_append, List.map_reverse]) (lv_room (by rw [jcat_tv]; exact hcat)) d ⟨hb1, hb2⟩) (Or.inr hh) hb1 hb2 (fun E σ' h => (hh E σ' h).elim) kk
end
section
/-! rows of the small machine: throws, static rows, members of the JDK, rows of rows, handlers -/
abbrev jNM : List String := ["java/lang/RuntimeException", "java/lang/Exception"]
theorem jw_use {A : Nat → Prop} {ad : Nat → Nat} {σ : jS} {s : State} {args : Array Value} {H : Heap} (hts : ∀ w ∈ jBig, w.before args s = true) (hN : jN A ad σ s H) {w : Cond} (hw : w ∈ lw_tbl) (hg : goodWord w = true ∨ (jNestW w = true ∧ w.onTables = true)) : w.before args s = true := by
  rcases hg with hg | ⟨hg, ho⟩
  · exact hts w (jw_in hw hg)
  · exact (hN.1 w hw hg).use ho
theorem J.throwS {X : jX} {M : jMt} {rm : Room} {pc : Nat} {lc st : List Value} {k n : Nat} {σ : jS} {Q : jOut → jS → Prop} {ik is ic : Nat} {cls text : String}
    (d0 : decode M.2.1 pc = .ok (.new ik, 3)) (d3 : decode M.2.1 (pc + 3) = .ok (.dup, 1)) (d4 : decode M.2.1 (pc + 4) = .ok (.ldc is, 2)) (d6 : decode M.2.1 (pc + 6) = .ok (.invokespecial ic, 3)) (d9 : decode M.2.1 (pc + 9) = .ok (.athrow, 1))
    (hcls : Bundle.fit cls = true) (hk : Cond.classLink M.1.cls ik cls ∈ lw_tbl) (hi : Cond.initialized cls ∈ lw_tbl) (hst : (M.1.cls, is, text) ∈ jStr) (hat : ∀ w ∈ vx_atS M.1.cls ic cls jNM, w ∈ lw_tbl ∧ (goodWord w = true ∨ (jNestW w = true ∧ w.onTables = true)))
    (hgood : ∀ w ∈ Cond.classLink M.1.cls ik cls :: Cond.initialized cls :: vx_atS M.1.cls ic cls jNM, vx_ot w = true) (hh : M.2.2.2.2 = []) (hf : 6 ≤ rm.frames) (hlo : jcat st + 82 ≤ rm.locals) (hc : k + 1 ≤ rm.cells) (hs : n + 6 ≤ rm.slots) (hq : Q (.inr cls) σ) : J X M rm pc lc st k n σ Q := by
  intro p e s m args below meth c A ad0 σ0 H locs ls ad C Y hS hl ol os
  obtain ⟨⟨hx, hb, hml, hr, htab⟩, ⟨hown, hlk, hnm, hlt⟩, hts, hA, hK, hN, h5⟩ := id C
  obtain ⟨sa, hsa⟩ := hN.2.2.2.2.1 _ hst
  refine vx_throwS hx hb hlt (names := jNM) (A := A) hown hcls (by decide +kernel) (hts _ (jw_in hk rfl)) (hts _ (jw_in hi rfl)) hsa (fun w hw => jw_use hts hN (hat w hw).1 (hat w hw).2) hgood hN.2.2.2.1.1 hN.2.2.2.1.2 hS (hl.1.trans hml.symm) d0 d3 d4 d6 d9 (fun x hx9 => by rw [htab, hh] at hx9; cases hx9) (by show 2 + 3 < rm.frames; omega) (by show _ + (13 * 3 + 43) ≤ _; rw [jcat_tv]; exact hlo) hc hs hlk (fun t _ hz hq9 => ?_) hS.2.2 hc hs
  refine ⟨⟨ad, σ, hq, ?_⟩, Nat.le_trans hS.1 hz, fun q h1 h2 => by rw [hq9 q (Nat.lt_of_lt_of_le h1 hS.1)]; exact hS.2.1 q h1 h2⟩
  obtain ⟨hP, hD, hrest⟩ := Y
  exact ⟨hP.kept (fun k9 x hx9 => hq9 x.1 (hP k9 x hx9).lt), hD, hrest⟩
theorem hat_iae : ∀ w ∈ vx_atS RX6 56 "java/lang/IllegalArgumentException" jNM, w ∈ lw_tbl ∧ (goodWord w = true ∨ (jNestW w = true ∧ w.onTables = true)) := by decide +kernel
theorem hat_ise : ∀ w ∈ vx_atS RX6 66 "java/lang/IllegalStateException" jNM, w ∈ lw_tbl ∧ (goodWord w = true ∨ (jNestW w = true ∧ w.onTables = true)) := by decide +kernel
theorem hat_iob : ∀ w ∈ vx_atS RX6 78 "java/lang/IndexOutOfBoundsException" jNM, w ∈ lw_tbl ∧ (goodWord w = true ∨ (jNestW w = true ∧ w.onTables = true)) := by decide +kernel
/-- throws of WireBook's own methods -/
theorem J.throwIae {X : jX} {M : jMt} {rm : Room} {pc : Nat} {lc st : List Value} {k n : Nat} {σ : jS} {Q : jOut → jS → Prop} {is : Nat} {text : String} (hM : M.1.cls = RX6)
    (d0 : decode M.2.1 pc = .ok (.new 52, 3)) (d3 : decode M.2.1 (pc + 3) = .ok (.dup, 1)) (d4 : decode M.2.1 (pc + 4) = .ok (.ldc is, 2)) (d6 : decode M.2.1 (pc + 6) = .ok (.invokespecial 56, 3)) (d9 : decode M.2.1 (pc + 9) = .ok (.athrow, 1)) (hst : (RX6, is, text) ∈ jStr) (hh : M.2.2.2.2 = []) (hf : 6 ≤ rm.frames) (hlo : jcat st + 82 ≤ rm.locals) (hc : k + 1 ≤ rm.cells) (hs : n + 6 ≤ rm.slots) (hq : Q (.inr "java/lang/IllegalArgumentException") σ) : J X M rm pc lc st k n σ Q :=
  J.throwS d0 d3 d4 d6 d9 (by decide +kernel) (by rw [hM]; decide +kernel) (by decide +kernel) (by rw [hM]; exact hst) (by rw [hM]; exact hat_iae) (by rw [hM]; decide +kernel) hh hf hlo hc hs hq
theorem J.throwIse {X : jX} {M : jMt} {rm : Room} {pc : Nat} {lc st : List Value} {k n : Nat} {σ : jS} {Q : jOut → jS → Prop} {is : Nat} {text : String} (hM : M.1.cls = RX6)
    (d0 : decode M.2.1 pc = .ok (.new 62, 3)) (d3 : decode M.2.1 (pc + 3) = .ok (.dup, 1)) (d4 : decode M.2.1 (pc + 4) = .ok (.ldc is, 2)) (d6 : decode M.2.1 (pc + 6) = .ok (.invokespecial 66, 3)) (d9 : decode M.2.1 (pc + 9) = .ok (.athrow, 1)) (hst : (RX6, is, text) ∈ jStr) (hh : M.2.2.2.2 = []) (hf : 6 ≤ rm.frames) (hlo : jcat st + 82 ≤ rm.locals) (hc : k + 1 ≤ rm.cells) (hs : n + 6 ≤ rm.slots) (hq : Q (.inr "java/lang/IllegalStateException") σ) : J X M rm pc lc st k n σ Q :=
  J.throwS d0 d3 d4 d6 d9 (by decide +kernel) (by rw [hM]; decide +kernel) (by decide +kernel) (by rw [hM]; exact hst) (by rw [hM]; exact hat_ise) (by rw [hM]; decide +kernel) hh hf hlo hc hs hq
theorem J.throwIob {X : jX} {M : jMt} {rm : Room} {pc : Nat} {lc st : List Value} {k n : Nat} {σ : jS} {Q : jOut → jS → Prop} {is : Nat} {text : String} (hM : M.1.cls = RX6)
    (d0 : decode M.2.1 pc = .ok (.new 74, 3)) (d3 : decode M.2.1 (pc + 3) = .ok (.dup, 1)) (d4 : decode M.2.1 (pc + 4) = .ok (.ldc is, 2)) (d6 : decode M.2.1 (pc + 6) = .ok (.invokespecial 78, 3)) (d9 : decode M.2.1 (pc + 9) = .ok (.athrow, 1)) (hst : (RX6, is, text) ∈ jStr) (hh : M.2.2.2.2 = []) (hf : 6 ≤ rm.frames) (hlo : jcat st + 82 ≤ rm.locals) (hc : k + 1 ≤ rm.cells) (hs : n + 6 ≤ rm.slots) (hq : Q (.inr "java/lang/IndexOutOfBoundsException") σ) : J X M rm pc lc st k n σ Q :=
  J.throwS d0 d3 d4 d6 d9 (by decide +kernel) (by rw [hM]; decide +kernel) (by decide +kernel) (by rw [hM]; exact hst) (by rw [hM]; exact hat_iob) (by rw [hM]; decide +kernel) hh hf hlo hc hs hq
/-! static rows -/
theorem J.getsL {X : jX} {M : jMt} {rm : Room} {pc : Nat} {lc st : List Value} {k n : Nat} {σ : jS} {Q : jOut → jS → Prop} {ix : Nat} {host : String} (d : decode M.2.1 pc = .ok (.getstatic ix, 3)) (hl : Cond.fieldLinkNest M.1.cls ix "WireBook" "LETTER_UNITS" "[I" host ∈ lw_tbl) (kk : J X M rm (pc + 3) lc (.ref 0 :: st) k n σ Q) : J X M rm pc lc st k n σ Q := by
  intro p e s m args below meth c A ad0 σ0 H locs ls ad C Y hS hl9 ol os
  obtain ⟨⟨hx, hb, hml, hr, htab⟩, ⟨hown, hlk, hnm, hlt⟩, hts, hA, hK, hN, h5⟩ := id C
  have hle := Y.2.2.2.1
  refine va_getsN hx hb (v := .ref (ad 0)) (by rw [Y.2.2.2.2.1 0 (by omega)]; exact hN.2.1.1) hS hown ((hN.1 _ hl rfl).use rfl) (fun _ h => h) d (kk p e s m args below meth c A ad0 σ0 H locs ls ad C Y hS hl9 ol (jok_cons (show 0 < σ.1 by omega) os))
theorem J.getsD {X : jX} {M : jMt} {rm : Room} {pc : Nat} {lc st : List Value} {k n : Nat} {σ : jS} {Q : jOut → jS → Prop} {ix : Nat} {host : String} (d : decode M.2.1 pc = .ok (.getstatic ix, 3)) (hl : Cond.fieldLinkNest M.1.cls ix "WireBook" "DIGIT_UNITS" "[I" host ∈ lw_tbl) (kk : J X M rm (pc + 3) lc (.ref 1 :: st) k n σ Q) : J X M rm pc lc st k n σ Q := by
  intro p e s m args below meth c A ad0 σ0 H locs ls ad C Y hS hl9 ol os
  obtain ⟨⟨hx, hb, hml, hr, htab⟩, ⟨hown, hlk, hnm, hlt⟩, hts, hA, hK, hN, h5⟩ := id C
  have hle := Y.2.2.2.1
  refine va_getsN hx hb (v := .ref (ad 1)) (by rw [Y.2.2.2.2.1 1 (by omega)]; exact hN.2.1.2.1) hS hown ((hN.1 _ hl rfl).use rfl) (fun _ h => h) d (kk p e s m args below meth c A ad0 σ0 H locs ls ad C Y hS hl9 ol (jok_cons (show 1 < σ.1 by omega) os))
theorem J.getsML {X : jX} {M : jMt} {rm : Room} {pc : Nat} {lc st : List Value} {k n : Nat} {σ : jS} {Q : jOut → jS → Prop} {ix : Nat} (d : decode M.2.1 pc = .ok (.getstatic ix, 3)) (hl : Cond.fieldLink M.1.cls ix "WireBookModel" "LETTER_UNITS" "[I" ∈ lw_tbl) (kk : J X M rm (pc + 3) lc (.ref 2 :: st) k n σ Q) : J X M rm pc lc st k n σ Q := by
  intro p e s m args below meth c A ad0 σ0 H locs ls ad C Y hS hl9 ol os
  obtain ⟨⟨hx, hb, hml, hr, htab⟩, ⟨hown, hlk, hnm, hlt⟩, hts, hA, hK, hN, h5⟩ := id C
  have hle := Y.2.2.2.1
  refine va_gets hx hb (v := .ref (ad 2)) (by rw [Y.2.2.2.2.1 2 (by omega)]; exact hN.2.1.2.2.1) hS hown (hts _ (jw_in hl rfl)) (fun _ h => h) d (kk p e s m args below meth c A ad0 σ0 H locs ls ad C Y hS hl9 ol (jok_cons (show 2 < σ.1 by omega) os))
theorem J.getsMD {X : jX} {M : jMt} {rm : Room} {pc : Nat} {lc st : List Value} {k n : Nat} {σ : jS} {Q : jOut → jS → Prop} {ix : Nat} (d : decode M.2.1 pc = .ok (.getstatic ix, 3)) (hl : Cond.fieldLink M.1.cls ix "WireBookModel" "DIGIT_UNITS" "[I" ∈ lw_tbl) (kk : J X M rm (pc + 3) lc (.ref 3 :: st) k n σ Q) : J X M rm pc lc st k n σ Q := by
  intro p e s m args below meth c A ad0 σ0 H locs ls ad C Y hS hl9 ol os
  obtain ⟨⟨hx, hb, hml, hr, htab⟩, ⟨hown, hlk, hnm, hlt⟩, hts, hA, hK, hN, h5⟩ := id C
  have hle := Y.2.2.2.1
  refine va_gets hx hb (v := .ref (ad 3)) (by rw [Y.2.2.2.2.1 3 (by omega)]; exact hN.2.1.2.2.2) hS hown (hts _ (jw_in hl rfl)) (fun _ h => h) d (kk p e s m args below meth c A ad0 σ0 H locs ls ad C Y hS hl9 ol (jok_cons (show 3 < σ.1 by omega) os))
/-! Math.min, System.arraycopy -/
theorem J.mmin {X : jX} {M : jMt} {rm : Room} {pc : Nat} {lc st : List Value} {k n : Nat} {σ : jS} {Q : jOut → jS → Prop} {ix : Nat} {a b : Int} (d : decode M.2.1 pc = .ok (.invokestatic ix, 3)) (h1 : Cond.methodLink M.1.cls ix Lib.Math.min.name ∈ lw_tbl) (h2 : Cond.static Lib.Math.min.name ∈ lw_tbl) (h3 : Cond.initialized "java/lang/Math" ∈ lw_tbl) (h4 : Cond.code Lib.Math.min.name Lib.Math.min.code 2 (some .int) ∈ lw_tbl) (hf : 1 ≤ rm.frames) (hlo : jcat st + 13 ≤ rm.locals) (hc : k ≤ rm.cells) (hs : n ≤ rm.slots) (ha : inI a) (hb' : inI b) (kk : J X M rm (pc + 3) lc (vI (if b < a then b else a) :: st) k n σ Q) : J X M rm pc lc (vI b :: vI a :: st) k n σ Q := by
  intro p e s m args below meth c A ad0 σ0 H locs ls ad C Y hS hl ol os
  obtain ⟨⟨hx, hb, hml, hr, htab⟩, ⟨hown, hlk, hnm, hlt⟩, hts, hA, hK, hN, h5⟩ := id C
  have hkk := kk p e s m args below meth c A ad0 σ0 H locs ls ad C Y hS hl ol (jok_cons trivial (jok_tl (jok_tl os)))
  refine va_mmin hx hb (hml.trans hl.1.symm) hown (hts _ (jw_in h1 rfl)) (hts _ (jw_in h2 rfl)) (hts _ (jw_in h3 rfl)) (hts _ (jw_in h4 rfl)) hf (by rw [jcat_tv]; exact hlo) hc hs d ?_
  have e1 : (if iI b < iI a then iI b else iI a) = iI (if b < a then b else a) := by
    by_cases h : b < a
    · rw [if_pos h, if_pos ((iI_lt hb' ha).mpr h)]
    · rw [if_neg h, if_neg (fun q => h ((iI_lt hb' ha).mp q))]
  rw [e1]
  exact hkk
def jcp (f g : Nat → Int) (sp dp n : Nat) : Nat → Int := fun t => if dp ≤ t ∧ t < dp + n then f (sp + (t - dp)) else g t
theorem J.acopy {X : jX} {M : jMt} {rm : Room} {pc : Nat} {lc st : List Value} {k n : Nat} {σ : jS} {Q : jOut → jS → Prop} {ix i0 i1 n0 n1 : Nat} {f g : Nat → Int} {sp dp l : Int} (sp' dp' l' : Nat) (d : decode M.2.1 pc = .ok (.invokestatic ix, 3)) (h1 : Cond.methodLink M.1.cls ix arraycopyName ∈ lw_tbl) (h2 : Cond.native arraycopyName ∈ lw_tbl) (h3 : Cond.static arraycopyName ∈ lw_tbl) (h4 : Cond.initialized "java/lang/System" ∈ lw_tbl)
    (he0 : σ.2 i0 = jI n0 f) (he1 : σ.2 i1 = jI n1 g) (hi0 : 5 ≤ i0) (hi1 : 5 ≤ i1) (hsp : sp = (sp' : Int)) (hdp : dp = (dp' : Int)) (hl' : l = (l' : Int)) (hb0 : sp' + l' ≤ n0) (hb1 : dp' + l' ≤ n1) (hn0 : n0 < 2147483648) (hn1 : n1 < 2147483648) (hf : 1 ≤ rm.frames) (hlo : jcat st + 40 ≤ rm.locals) (kk : J X M rm (pc + 3) lc st k n (jset σ i1 (jI n1 (jcp f g sp' dp' l'))) Q) : J X M rm pc lc (vI l :: vI dp :: .ref i1 :: vI sp :: .ref i0 :: st) k n σ Q := by
  subst hsp; subst hdp; subst hl'
  intro p e s m args below meth c A ad0 σ0 H locs ls ad C Y hS hl ol os
  obtain ⟨⟨hx, hb, hml, hr, htab⟩, ⟨hown, hlk, hnm, hlt⟩, hts, hA, hK, hN, h5⟩ := id C
  have os1 := jok_tl (jok_tl os)
  have hj1 : i1 < σ.1 := jok_hd os1
  have os2 := jok_tl (jok_tl os1)
  have hj0 : i0 < σ.1 := jok_hd os2
  have hw0 := jws_at (cA := X.2.2) (ad := ad) hi0 hj0
  have hw1 := jws_at (cA := X.2.2) (ad := ad) hi1 hj1
  rw [he0] at hw0
  rw [he1] at hw1
  have cl : ∀ z : Nat, z < 2147483648 → (iI (z : Int)).toNatClampNeg = z := fun z hz => iI_natcl hz
  have ng : ∀ z : Nat, z < 2147483648 → ¬ iI (z : Int) < 0 := fun z hz => by rw [← iI_0, iI_lt (iI_nat hz) inI_0]; omega
  refine va_copyi hx hb (hml.trans hl.1.symm) hown (hts _ (jw_in h1 rfl)) (hts _ (jw_in h2 rfl)) (hts _ (jw_in h3 rfl)) (hts _ (jw_in h4 rfl)) hK Y.1 Y.2.1 hS (i0 - 5) (i1 - 5) 0 0 (f := fun t => iI (f t)) (g := fun t => iI (g t)) (ty := .int) hw0 hw1 rfl rfl rfl (ng _ (by omega)) (ng _ (by omega)) (ng _ (by omega)) (by rw [cl _ (by omega), cl _ (by omega)]; exact hb0) (by rw [cl _ (by omega), cl _ (by omega)]; exact hb1) (fun _ _ => rfl) hf (by rw [jcat_tv]; exact Nat.le_trans (Nat.add_le_add_left (by decide +kernel) _) hlo) d (fun H1 locs1 hP hD hS1 => ?_)
  have hfun : va_cpy (fun t => iI (f t)) (fun t => iI (g t)) (iI (sp' : Int)).toNatClampNeg (iI (dp' : Int)).toNatClampNeg (iI (l' : Int)).toNatClampNeg = fun t => iI (jcp f g sp' dp' l' t) := by
    rw [cl _ (by omega), cl _ (by omega), cl _ (by omega)]
    funext t
    unfold va_cpy jcp
    by_cases h : dp' ≤ t ∧ t < dp' + l'
    · rw [if_pos h, if_pos h]
    · rw [if_neg h, if_neg h]
  rw [hfun] at hP hD
  exact kk p e s m args below meth c A ad0 σ0 H1 locs1 ls ad C (jH_set (e := jI n1 (jcp f g sp' dp' l')) Y h5 hi1 hj1 trivial hP hD) hS1 hl ol (jok_tl os2)
end
section
/-! rows of the small machine: a handler that stores what was thrown and answers a number; rows of rows -/
def jCatch (M : jMt) (pc : Nat) (E : String) (b : Int) : Prop :=
  ∃ (pre : List ExceptionTableEntry) (x : ExceptionTableEntry) (suf : List ExceptionTableEntry), tableOf M.2.2.2.2 = pre ++ x :: suf ∧ (∀ z ∈ pre, covers z pc = false ∨ (z.catchType ≠ 0 ∧ ∃ nm : String, Cond.classLink M.1.cls z.catchType nm ∈ lw_tbl ∧ (E, nm) ∈ jNcs)) ∧ covers x pc = true ∧ x.catchType ≠ 0 ∧ Cond.classLink M.1.cls x.catchType E ∈ lw_tbl ∧ Cond.castable E E ∈ lw_tbl ∧
    ((∃ j : Fin 4, decode M.2.1 x.handlerPc = .ok (.astore_n j, 1) ∧ (j : Nat) < M.2.2.1 ∧ decode M.2.1 (x.handlerPc + 1) = .ok (.iconst b, 1) ∧ decode M.2.1 (x.handlerPc + 1 + 1) = .ok (.ireturn, 1)) ∨ (∃ j : Nat, decode M.2.1 x.handlerPc = .ok (.astore j, 2) ∧ j < M.2.2.1 ∧ decode M.2.1 (x.handlerPc + 2) = .ok (.iconst b, 1) ∧ decode M.2.1 (x.handlerPc + 2 + 1) = .ok (.ireturn, 1)))
theorem J.callVC {X : jX} {M : jMt} {rm : Room} {pc : Nat} {lc st st0 : List Value} {k n : Nat} {σ : jS} {Q : jOut → jS → Prop} {M' : jMt} {rm' : Room} {Q1 : jOut → jS → Prop} {ix i ci N : Nat} {T : u_T} {fs : List Value} (as : List Value) (d : decode M.2.1 pc = .ok (.invokevirtual ix, 3)) (hJ : JM X M' rm' (.ref i :: as) σ Q1) (he : σ.2 i = jO ci fs) (hci : vwCl[ci]? = some (M'.1.cls, T, N)) (hst : jSt M' as.length) (hl9 : Cond.methodLink M.1.cls ix M'.1 ∈ lw_tbl) (hi9 : Cond.instanceMethod M'.1 ∈ lw_tbl) (hs9 : Cond.selects M'.1.cls M'.1 M'.1 ∈ lw_tbl) (hst0 : st0 = as.reverse ++ .ref i :: st) (hlen : (jargs (.ref i :: as)).length ≤ M'.2.2.1) (hf : rm'.frames + 1 ≤ rm.frames) (hlo : 8 + (M'.2.2.1 + 11) + rm'.locals ≤ rm.locals) (hcat : jcat st ≤ 8) (hb1 : k + rm'.cells ≤ rm.cells) (hb2 : n + rm'.slots ≤ rm.slots)
    (hret : M.2.2.2.1 = some .int) (kc : ∀ E σ', Q1 (.inr E) σ' → ∃ b : Int, jCatch M pc E b ∧ Q (.inl (some (vI b))) σ') (kk : ∀ r σ', Q1 (.inl r) σ' → σ.1 ≤ σ'.1 → J X M rm (pc + 3) lc (r.toList ++ st) (k + rm'.cells) (n + rm'.slots) σ' Q) : J X M rm pc lc st0 k n σ Q := by
  subst hst0
  intro p e s m args below meth c A ad0 σ0 H locs ls ad C Y hS hl ol os
  obtain ⟨⟨hx, hb, hml, hr9, htab⟩, ⟨hown, hlk, hnm, hlt⟩, hts, hA, hK, hN, h5⟩ := id C
  have os1 : jok σ.1 (.ref i :: as) := fun v hv => os v (by rcases List.mem_cons.mp hv with rfl | h; exact List.mem_append_right _ List.mem_cons_self; exact List.mem_append_left _ (List.mem_reverse.mpr h))
  have os2 : jok σ.1 st := fun v hv => os v (List.mem_append_right _ (List.mem_cons_of_mem _ hv))
  have hi : i < σ.1 := jok_hd os1
  have hw := jws_at (cA := X.2.2) (ad := ad) (jown C Y he (jO_ne _ _)) hi
  rw [he] at hw
  have hM := jm_met hJ hst.1 hst.2.1 hlen ad H.size
  have hF := jfree Y hS hA
  have hr := vx_runV (l := X.1) (e := e) (R := rm) (below := below) (meth := meth) (H := H) (locs := locs) (cells := k) (slots := n) (g := F0 m pc ls (List.map (tv ad) (as.reverse ++ .ref i :: st))) (As := as.map (tv ad)) (rest := st.map (tv ad)) (Ts := jBig) ⟨hx, hb, hml, hown, hts⟩ hM ⟨jcb hts hst hl9 hf hlo, hts _ (jw_in hi9 rfl), hts _ (jw_in hs9 rfl)⟩ ⟨jblind, va_recv hK Y.1 hci hw, jpre C Y hS os1⟩ rfl (List.length_map ..) hl.1 (by show List.map _ _ = _; rw [List.map_append, List.map_reverse]; rfl) (lv_room (by rw [jcat_tv]; exact hcat)) d ⟨hb1, hb2⟩
  intro T hT XX
  rcases hr T hT XX with ⟨v, st₀, t, T', L, h0, X', hL, e1, e2, ⟨⟨r, ad', σ', hv, hq, hok, Y'⟩, hFr⟩, stp⟩ | ⟨q, st₀, t, T', L, E, ce, h0, X', hL, e1, e2, ⟨⟨ad', σ', hq, Y'⟩, hFr⟩, hce, hcv, hcl, stp⟩
  · cases hv
    obtain ⟨k1, k2, k3⟩ := vx_keep h0 e1 hS (fun q _ h => hF q h) hF hL hFr
    have Y2 := jback h5 Y hF Y'
    rw [← e1] at Y2
    have hle : σ.1 ≤ σ'.1 := Y'.2.2.2.1
    have hext := Y'.2.2.2.2.1
    have os' : jok σ'.1 (r.toList ++ st) := fun w hw => (List.mem_append.mp hw).elim (fun h => hok w (by cases r with | none => cases h | some x => rw [List.mem_singleton.mp h])) (fun h => jokv_mono hle (os2 w h))
    obtain ⟨t2, a1, b1⟩ := kk r σ' hq hle p e s m args below meth c A ad0 σ0 T'.heap (locs ++ L) ls ad' C Y2 k3 (jl_ext hext ol hl) (jok_mono hle ol) os' T' rfl X'
    refine ⟨t2, stp t2 ?_, b1⟩
    rw [List.map_append, jext hext os2] at a1
    have hto : (r.map (tv ad')).toList = r.toList.map (tv ad') := by cases r <;> rfl
    rw [hto]
    exact a1
  · obtain ⟨k1, k2, k3⟩ := vx_keep h0 e1 hS (fun q _ h => hF q h) hF hL hFr
    have Y2 := jback h5 Y hF Y'
    rw [← e1] at Y2
    obtain ⟨b, ⟨pre, x, suf, hsp, hpass, hcx, hct, hlk9, hcs, hand⟩, hQ⟩ := kc E σ' hq
    have hend : W p X.1 e rm s m args below meth c T'.heap (locs ++ L) (k + rm'.cells) (n + rm'.slots) (vx_MQ below (jQc X A ad0 σ0 Q) (jXC X A ad0 σ0 Q) args s rm.cells rm.slots A) (F0 m x.handlerPc ls [.ref q]) := by
      have hfin := jfin (p := p) (e := e) (rm := rm) (m := m) (args := args) (below := below) (meth := meth) (c := c) (r := some (vI b)) Y2 k3 (fun v h => by cases h; trivial) hQ
      rcases hand with ⟨j, d1, hj, d2, d3⟩ | ⟨j, d1, hj, d2, d3⟩
      · refine lv_astore_n hx hb d1 rfl (jl_has hl) hj rfl (fun ls' _ => ?_)
        refine lv_iconst (v := iI b) hx hb d2 rfl ?_
        exact W.widen hb1 hb2 (vx_ret (W.zret hx hb (hr9.trans hret) rfl hfin k3.2.2 d3 hlk))
      · refine lv_astore hx hb d1 (jl_has hl) hj rfl (fun ls' _ => ?_)
        refine lv_iconst (v := iI b) hx hb d2 rfl ?_
        exact W.widen hb1 hb2 (vx_ret (W.zret hx hb (hr9.trans hret) rfl hfin k3.2.2 d3 hlk))
    obtain ⟨t2, a1, b1⟩ := vx_catch (rest := st.map (tv ad)) hown pre x suf (htab.trans hsp) (fun z hz => by
      rcases hpass z hz with h | ⟨h1, nm, h2, h3⟩
      · exact Or.inl h
      · exact Or.inr ⟨h1, nm, hts _ (jw_in h2 rfl), hN.2.2.2.2.2.2.2 _ h3⟩) hcx hct (hts _ (jw_in hlk9 rfl)) ((hN.1 _ hcs rfl).use rfl) (by rw [e1]; exact hce) hcv hcl hend T' rfl X'
    exact ⟨t2, stp.trans a1, b1⟩
/-- new int[N][K] -/
def jpushII (σ : jS) (N K : Nat) : jS := (σ.1 + 1 + N, fun j => if j = σ.1 then jQ 1 N (fun i => if i < N then some (σ.1 + 1 + i) else none) else if σ.1 < j ∧ j < σ.1 + 1 + N then jI K (fun _ => 0) else σ.2 j)
theorem J.newII {X : jX} {M : jMt} {rm : Room} {pc : Nat} {lc st : List Value} {k n : Nat} {σ : jS} {Q : jOut → jS → Prop} {a b : Int} {ix : Nat} (N K : Nat) (d : decode M.2.1 pc = .ok (.multianewarray ix 2, 4)) (ha : a = (N : Int)) (hb9 : b = (K : Int)) (hN9 : N ≤ 1000) (hK9 : K ≤ 10000) (hc : k + (1 + N) ≤ rm.cells) (hs : n + (N + N * K) ≤ rm.slots) (hw : Cond.classLink M.1.cls ix "[[I" ∈ lw_tbl) (hw2 : Cond.arrayClass .int ∈ lw_tbl) (kk : J X M rm (pc + 4) lc (.ref σ.1 :: st) (k + 1 + N) (n + N + N * K) (jpushII σ N K) Q) : J X M rm pc lc (vI b :: vI a :: st) k n σ Q := by
  subst ha; subst hb9
  intro p e s m args below meth c A ad0 σ0 H locs ls ad C Y hS hl9 ol os
  obtain ⟨⟨hx, hb, hml, hr, htab⟩, ⟨hown, hlk, hnm, hlt⟩, hts, hA, hK, hN, h5⟩ := id C
  have os2 := jok_tl (jok_tl os)
  obtain ⟨hP0, hD0, hwf, hle, hag, hro⟩ := id Y
  have hcy : s.vm.findClass (FieldType.array .int).toString = some (X.2.2 0) := (hK.2 0 (X.2.2 0, .int) rfl).2
  have ng : ∀ z : Nat, z < 2147483648 → ¬ iI (z : Int) < 0 := fun z hz => by rw [← iI_0, iI_lt (iI_nat hz) inI_0]; omega
  refine va_mna (X := jws X.2.2 ad σ) (L := []) (f := fun _ => .inl (X.2.2 0, 0, .inl fun _ => 0)) (ty := .int) (cy := X.2.2 0) hx hb hown (hts _ (jw_in hw rfl)) hN.2.2.2.2.2.2.1 (hts _ (jw_in hw2 rfl)) hcy hK (by rw [show va_pl [] (fun _ => _) = [] from rfl, List.append_nil]; exact hP0) (by rw [show va_pl [] (fun _ => _) = [] from rfl, List.append_nil]; exact hD0) hS hA (N' := N) (K' := K) (z := (K, .inl (fun _ => 0))) (ng _ (by omega)) (ng _ (by omega)) (iI_natcl (by omega)) (iI_natcl (by omega)) (by omega) (by show K * 4 ≤ _; omega) (by omega) rfl rfl hc hs (fun c9 => ?_) d (fun q r cA9 H1 hinj hnl hK1 hP hD hS1 => ?_)
  · show ({ cls := c9, slots := Array.replicate K (.int 0), vm := .none } : Cell) = _
    rw [arrV_new]
    rfl
  have hcc : cA9 = X.2.2 4 := jK_un (t0 := 4) hK1 rfl
  subst hcc
  let ad' : Nat → Nat := fun j => if j = σ.1 then q else if σ.1 < j ∧ j < σ.1 + 1 + N then r (j - σ.1 - 1) else ad j
  have hext : ∀ i, i < σ.1 → ad' i = ad i := fun i hi => by
    show (if i = σ.1 then q else if σ.1 < i ∧ i < σ.1 + 1 + N then r (i - σ.1 - 1) else ad i) = ad i
    rw [if_neg (by omega), if_neg (by omega)]
  have h0 : ad' σ.1 = q := if_pos rfl
  have hrr : ∀ i, i < N → ad' (σ.1 + 1 + i) = r i := fun i hi => by
    show (if σ.1 + 1 + i = σ.1 then q else if σ.1 < σ.1 + 1 + i ∧ σ.1 + 1 + i < σ.1 + 1 + N then r (σ.1 + 1 + i - σ.1 - 1) else ad (σ.1 + 1 + i)) = r i
    rw [if_neg (by omega), if_pos (by omega), show σ.1 + 1 + i - σ.1 - 1 = i by omega]
  have hworld : (jws X.2.2 ad σ ++ [(q, (.inl (X.2.2 4, N, .inr (.inr (.inr (.inr (fun i => if i < N then some (r i) else none))))) : va_E))]) ++ va_pl ([] ++ (List.range N).map r) (vr_up (fun _ => .inl (X.2.2 0, 0, .inl fun _ => 0)) ((List.range N).map r) (.inl (X.2.2 0, K, .inl (fun _ => 0)))) = jws X.2.2 ad' (jpushII σ N K) := by
    rw [← jws_ad hwf hext, List.nil_append]
    unfold jws
    rw [show (jpushII σ N K).1 - 5 = (σ.1 - 5 + 1) + N by show σ.1 + 1 + N - 5 = _; omega, List.range_add, List.range_succ, List.map_append, List.map_append]
    congr 1
    · congr 1
      · apply List.map_congr_left
        intro j hj
        have hj' : j + 5 < σ.1 := by have := List.mem_range.mp hj; omega
        rw [show (jpushII σ N K).2 (j + 5) = σ.2 (j + 5) from (if_neg (by omega)).trans (if_neg (by omega))]
      · show _ = [(ad' (σ.1 - 5 + 5), tE X.2.2 ad' ((jpushII σ N K).2 (σ.1 - 5 + 5)))]
        rw [show σ.1 - 5 + 5 = σ.1 by omega, h0, show (jpushII σ N K).2 σ.1 = jQ 1 N (fun i => if i < N then some (σ.1 + 1 + i) else none) from if_pos rfl]
        have : (fun i => if i < N then some (r i) else none) = fun i => (if i < N then some (σ.1 + 1 + i) else none : Option Nat).map ad' := funext fun i => by
          by_cases hi : i < N
          · rw [if_pos hi, if_pos hi]; exact congrArg some (hrr i hi).symm
          · rw [if_neg hi, if_neg hi]; rfl
        rw [this]
        rfl
    · unfold va_pl
      rw [List.map_map, List.map_map]
      apply List.map_congr_left
      intro j hj
      have hj' := List.mem_range.mp hj
      show (r j, vr_up _ _ _ (r j)) = (ad' (σ.1 - 5 + 1 + j + 5), tE X.2.2 ad' ((jpushII σ N K).2 (σ.1 - 5 + 1 + j + 5)))
      rw [vr_up_in (List.mem_map.mpr ⟨j, hj, rfl⟩), show σ.1 - 5 + 1 + j + 5 = σ.1 + 1 + j by omega, hrr j hj', show (jpushII σ N K).2 (σ.1 + 1 + j) = jI K (fun _ => 0) from (if_neg (by omega)).trans (if_pos (by omega))]
      rfl
  rw [hworld] at hP hD
  have hwf2 : jwf (jpushII σ N K) := by
    intro j hj
    by_cases q1 : j = σ.1
    · subst q1
      rw [show (jpushII σ N K).2 σ.1 = jQ 1 N (fun i => if i < N then some (σ.1 + 1 + i) else none) from if_pos rfl]
      intro t u htu
      have htu : (if t < N then some (σ.1 + 1 + t) else none) = some u := htu
      by_cases ht : t < N
      · rw [if_pos ht] at htu
        cases htu
        show σ.1 + 1 + t < σ.1 + 1 + N
        omega
      · rw [if_neg ht] at htu
        cases htu
    · by_cases q2 : σ.1 < j ∧ j < σ.1 + 1 + N
      · rw [show (jpushII σ N K).2 j = jI K (fun _ => 0) from (if_neg q1).trans (if_pos q2)]
        trivial
      · rw [show (jpushII σ N K).2 j = σ.2 j from (if_neg q1).trans (if_neg q2)]
        have hj : j < σ.1 + 1 + N := hj
        exact jokE_mono (show σ.1 ≤ σ.1 + 1 + N by omega) (hwf j (by omega))
  have hY2 : jH X A ad0 σ0 ad' (jpushII σ N K) H1 := ⟨hP, hD, hwf2, by show σ0.1 ≤ σ.1 + 1 + N; omega, fun i hi => by rw [hext i (by omega), hag i hi], fun i hi => by
    rw [show (jpushII σ N K).2 i = σ.2 i from (if_neg (by omega)).trans (if_neg (by omega))]
    exact hro i hi⟩
  have hkk := kk p e s m args below meth c A ad0 σ0 H1 locs ls ad' C hY2 hS1 (jl_ext hext ol hl9) (jok_mono (by show σ.1 ≤ σ.1 + 1 + N; omega) ol) (jok_cons (show σ.1 < σ.1 + 1 + N by omega) (jok_mono (by show σ.1 ≤ σ.1 + 1 + N; omega) os2))
  rw [List.map_cons, jext hext os2, show tv ad' (.ref σ.1) = .ref q from congrArg Value.ref h0] at hkk
  exact hkk
/-! a static member of the JDK that throws nothing, of a class with members that the machine answers itself -/
theorem jm_metF {X : jX} {M : jMt} {rm : Room} {as : List Value} {σ : jS} {Q : jOut → jS → Prop} (hJ : JM X M rm as σ Q) (hn : ∀ E σ', ¬ Q (.inr E) σ') (hy : plainFor M.1 = true) (hh : M.2.2.2.2 = []) (hlen : (jargs as).length ≤ M.2.2.1) (ad : Nat → Nat) (sz : Nat) :
    Met X.1 M.1 (jWs M) rm (va_Pc (as.map (tv ad)) (jPre X ad σ as sz)) (jQc X (va_A (jws X.2.2 ad σ) sz) ad σ Q) rm.cells rm.slots (va_A (jws X.2.2 ad σ) sz) := by
  refine va_MetF (cc := M.2.1) (maxL := M.2.2.1) (ret := M.2.2.2.1) hy rfl ?_
  intro p e s m args below meth c s₁ B hml hv
  have hts := atoms_spec (ws := jWs M) B.pre
  have htab : c.exceptionTable.toList = tableOf M.2.2.2.2 := by
    obtain ⟨meth9, c9, h1, h2, -, -, -, -, h7, -⟩ := Cond.code_spec B.named (atoms_spec (ws := jWs M) B.pre _ List.mem_cons_self)
    cases Option.some.inj (h1.symm.trans B.method)
    cases Option.some.inj (h2.symm.trans (Stand.of_body B).code)
    rw [hh, Array.isEmpty_iff.mp h7]
    rfl
  have hW := jm_body (e := e) (below := below) hJ hlen ad sz B.exec B.bytes hml B.returns htab (findClass_of_methodNamed B.named) B.notSynchronized (name_of_methodNamed B.named B.method).1 (fun w h => hts w (List.mem_cons_of_mem _ h)) hv
  intro T hT XX
  obtain ⟨t, a1, o, b1, b2, b3⟩ := hW T hT XX
  refine ⟨t, a1, o, b1, b2, ?_⟩
  rcases b3 with ⟨d1, d2⟩ | ⟨q, -, E, ce, L, hx, -⟩
  · exact ⟨d1, d2⟩
  · exact (jno hn _ _ _ hx).elim
def jStF (M : jMt) (n : Nat) : Prop := plainFor M.1 = true ∧ M.2.2.2.2 = [] ∧ Cond.code M.1 M.2.1 M.2.2.1 M.2.2.2.1 ∈ lw_tbl ∧ Cond.initialized M.1.cls ∈ lw_tbl ∧ (M.1.cls ≠ "java/lang/invoke/MethodHandle" ∧ M.1.cls ≠ "java/lang/invoke/VarHandle") ∧ (parseMethodDescriptor M.1.desc).map (fun d => d.parameters.length) = some n
theorem J.callSF {X : jX} {M : jMt} {rm : Room} {pc : Nat} {lc st st0 : List Value} {k n : Nat} {σ : jS} {Q : jOut → jS → Prop} {M' : jMt} {rm' : Room} {Q1 : jOut → jS → Prop} {ix : Nat} (as : List Value) (d : decode M.2.1 pc = .ok (.invokestatic ix, 3)) (hJ : JM X M' rm' as σ Q1) (hst : jStF M' as.length) (hl9 : Cond.methodLink M.1.cls ix M'.1 ∈ lw_tbl) (hi9 : Cond.static M'.1 ∈ lw_tbl) (hst0 : st0 = as.reverse ++ st) (hlen : (jargs as).length ≤ M'.2.2.1) (hf : rm'.frames + 1 ≤ rm.frames) (hlo : 8 + (M'.2.2.1 + 11) + rm'.locals ≤ rm.locals) (hcat : jcat st ≤ 8) (hb1 : k + rm'.cells ≤ rm.cells) (hb2 : n + rm'.slots ≤ rm.slots)
    (hh : ∀ E σ', ¬ Q1 (.inr E) σ') (kk : ∀ r σ', Q1 (.inl r) σ' → σ.1 ≤ σ'.1 → J X M rm (pc + 3) lc (r.toList ++ st) (k + rm'.cells) (n + rm'.slots) σ' Q) : J X M rm pc lc st0 k n σ Q := by
  subst hst0
  intro p e s m args below meth c A ad0 σ0 H locs ls ad C Y hS hl ol os
  obtain ⟨⟨hx, hb, hml, hr, htab⟩, ⟨hown, hlk, hnm, hlt⟩, hts, hA, hK, hN, h5⟩ := id C
  have os1 : jok σ.1 as := fun v hv => os v (List.mem_append_left _ (List.mem_reverse.mpr hv))
  have os2 : jok σ.1 st := fun v hv => os v (List.mem_append_right _ hv)
  have hM := jm_metF hJ hh hst.1 hst.2.1 hlen ad H.size
  obtain ⟨-, -, hc, hi, hy, hd⟩ := id hst
  have hcb : CallB rm s args M.1.cls ix M'.1 M'.2.1 M'.2.2.1 M'.2.2.2.1 (jWs M') rm' rm'.cells rm'.slots as.length := ⟨rfl, rfl, hf, hlo, jws_ok hts hc, List.mem_cons_self, hts _ (jw_in hc rfl), hts _ (jw_in hi rfl), hy, fun sig h => by rw [h] at hd; exact (Option.some.inj hd).symm, hts _ (jw_in hl9 rfl)⟩
  refine jcall C Y hS hl ol os2 (run_of (va_runS (As := as.map (tv ad)) (rest := st.map (tv ad)) (Ts := jBig) ⟨hx, hb, hml, hown, hts⟩ hM ⟨hcb, hts _ (jw_in hi9 rfl)⟩ ⟨jblind, jpre C Y hS os1⟩ rfl (List.length_map ..) hl.1 (by rw [List.map_append, List.map_reverse]) (lv_room (by rw [jcat_tv]; exact hcat)) d ⟨hb1, hb2⟩)) (Or.inr hh) hb1 hb2 (fun E σ' h => (hh E σ' h).elim) kk
end
section
abbrev mX6_init : jMt := (yX6_init, cX6_init, 2, none, [])
abbrev mX0_init : jMt := (yX0_init, cX0_init, 1, none, [])
abbrev mX4_init : jMt := (yX4_init, cX4_init, 1, none, [])
abbrev mX3_init : jMt := (yX3_init, cX3_init, 1, none, [])
abbrev mJ7_fill_53178 : jMt := (yJ7_fill_53178, cJ7_fill_53178, 4, none, [])
abbrev mX5_init : jMt := (yX5_init, cX5_init, 1, none, [])
abbrev mX2_init : jMt := (yX2_init, cX2_init, 1, none, [])
abbrev mX6_empty : jMt := (yX6_empty, cX6_empty, 2, (some .int), [])
abbrev mX4_clear : jMt := (yX4_clear, cX4_clear, 1, none, [])
abbrev mX6_words : jMt := (yX6_words, cX6_words, 1, (some .int), [])
abbrev mX6_groups : jMt := (yX6_groups, cX6_groups, 1, (some .int), [])
abbrev mX6_cost : jMt := (yX6_cost, cX6_cost, 1, (some .int), [])
abbrev mX5_costAt : jMt := (yX5_costAt, cX5_costAt, 4, (some .int), [])
abbrev mX5_isPlain : jMt := (yX5_isPlain, cX5_isPlain, 1, (some .boolean), [])
abbrev mX6_time : jMt := (yX6_time, cX6_time, 1, (some .int), [])
abbrev mX5_units : jMt := (yX5_units, cX5_units, 3, (some .int), [])
abbrev mX5_wordOf : jMt := (yX5_wordOf, cX5_wordOf, 1, (some .int), [])
abbrev mX5_wordUnits : jMt := (yX5_wordUnits, cX5_wordUnits, 4, (some .int), [])
abbrev mJ9_floorMod_7cf53 : jMt := (yJ9_floorMod_7cf53, cJ9_floorMod_7cf53, 3, (some .int), [])
abbrev mX1_units : jMt := (yX1_units, cX1_units, 4, (some .int), [])
abbrev mX6_digest : jMt := (yX6_digest, cX6_digest, 4, (some .long), [])
abbrev mX6_mix : jMt := (yX6_mix, cX6_mix, 3, (some .long), [])
abbrev mX6_mixRow : jMt := (yX6_mixRow, cX6_mixRow, 8, (some .long), [])
abbrev mX0_mixInto : jMt := (yX0_mixInto, cX0_mixInto, 6, (some .long), [])
abbrev mX0_startOf : jMt := (yX0_startOf, cX0_startOf, 1, (some .int), [])
abbrev mX3_mixInto : jMt := (yX3_mixInto, cX3_mixInto, 6, (some .long), [])
abbrev mX3_startOf : jMt := (yX3_startOf, cX3_startOf, 2, (some .int), [])
abbrev mL_say : jMt := (yL_say, cL_say, 4, (some .int), [(0, 9, 12, 13), (0, 9, 15, 15)])
abbrev mX6_say : jMt := (yX6_say, cX6_say, 2, (some .int), [])
abbrev mX4_append : jMt := (yX4_append, cX4_append, 2, none, [])
abbrev mL_wordAt : jMt := (yL_wordAt, cL_wordAt, 4, (some .int), [(0, 9, 12, 20)])
abbrev mX6_wordAt : jMt := (yX6_wordAt, cX6_wordAt, 2, (some .int), [])
abbrev mL_keep : jMt := (yL_keep, cL_keep, 3, (some .int), [(0, 8, 11, 15)])
abbrev mX6_keep : jMt := (yX6_keep, cX6_keep, 1, (some .int), [])
abbrev mX3_add : jMt := (yX3_add, cX3_add, 4, none, [])
abbrev mX3_countPhrases : jMt := (yX3_countPhrases, cX3_countPhrases, 7, none, [])
abbrev mX3_firstFinding : jMt := (yX3_firstFinding, cX3_firstFinding, 4, (some .int), [])
abbrev mX6_sameWords : jMt := (yX6_sameWords, cX6_sameWords, 6, (some .boolean), [])
abbrev mL_recall : jMt := (yL_recall, cL_recall, 4, (some .int), [(0, 9, 12, 20)])
abbrev mX6_recall : jMt := (yX6_recall, cX6_recall, 2, (some .int), [])
abbrev mX4_appendAll : jMt := (yX4_appendAll, cX4_appendAll, 5, none, [])
abbrev mL_letter : jMt := (yL_letter, cL_letter, 5, (some .int), [(0, 10, 13, 13), (0, 10, 17, 20)])
abbrev mX6_letter : jMt := (yX6_letter, cX6_letter, 3, (some .int), [])
abbrev mX6_requireCode : jMt := (yX6_requireCode, cX6_requireCode, 1, none, [])
abbrev mX6_requirePlace : jMt := (yX6_requirePlace, cX6_requirePlace, 2, none, [])
abbrev mX1_letterAt : jMt := (yX1_letterAt, cX1_letterAt, 4, (some .int), [])
abbrev mL_reason : jMt := (yL_reason, cL_reason, 5, (some .int), [(0, 10, 13, 20), (0, 10, 17, 13)])
abbrev mX6_reason : jMt := (yX6_reason, cX6_reason, 4, (some .int), [])
abbrev mX6_requireBook : jMt := (yX6_requireBook, cX6_requireBook, 2, (some (.object "WireBook$Book")), [])
abbrev mX0_reasonAgainst : jMt := (yX0_reasonAgainst, cX0_reasonAgainst, 5, (some .int), [])
abbrev mX1_likeness : jMt := (yX1_likeness, cX1_likeness, 7, (some .int), [])
abbrev mL_firstFit : jMt := (yL_firstFit, cL_firstFit, 5, (some .int), [(0, 10, 13, 20), (0, 10, 17, 13)])
abbrev mX6_firstFit : jMt := (yX6_firstFit, cX6_firstFit, 4, (some .int), [])
abbrev mX0_fitFrom : jMt := (yX0_fitFrom, cX0_fitFrom, 3, (some .int), [])
abbrev mL_define : jMt := (yL_define, cL_define, 5, (some .int), [(0, 10, 13, 20), (0, 10, 17, 13), (0, 10, 21, 15)])
abbrev mX6_define : jMt := (yX6_define, cX6_define, 4, (some .int), [])
abbrev mX0_add : jMt := (yX0_add, cX0_add, 3, none, [])
abbrev mL_drop : jMt := (yL_drop, cL_drop, 5, (some .int), [(0, 10, 13, 20)])
abbrev mX6_drop : jMt := (yX6_drop, cX6_drop, 4, (some .int), [])
abbrev mX6_requireEntry : jMt := (yX6_requireEntry, cX6_requireEntry, 2, none, [])
abbrev mX0_remove : jMt := (yX0_remove, cX0_remove, 4, none, [])
abbrev mL_entries : jMt := (yL_entries, cL_entries, 4, (some .int), [(0, 9, 12, 20)])
abbrev mX6_entries : jMt := (yX6_entries, cX6_entries, 2, (some .int), [])
abbrev mL_entry : jMt := (yL_entry, cL_entry, 6, (some .int), [(0, 12, 15, 20)])
abbrev mX6_entry : jMt := (yX6_entry, cX6_entry, 5, (some .int), [])
abbrev mL_find : jMt := (yL_find, cL_find, 5, (some .int), [(0, 10, 13, 20), (0, 10, 17, 13)])
abbrev mX6_find : jMt := (yX6_find, cX6_find, 4, (some .int), [])
abbrev mX0_entryWith : jMt := (yX0_entryWith, cX0_entryWith, 3, (some .int), [])
abbrev mL_setPrice : jMt := (yL_setPrice, cL_setPrice, 4, (some .int), [(0, 9, 12, 13)])
abbrev mX6_setPrice : jMt := (yX6_setPrice, cX6_setPrice, 3, (some .int), [])
abbrev mL_encode : jMt := (yL_encode, cL_encode, 4, (some .int), [(0, 9, 12, 20)])
abbrev mX6_encode : jMt := (yX6_encode, cX6_encode, 7, (some .int), [])
abbrev mX2_divide : jMt := (yX2_divide, cX2_divide, 7, (some .int), [])
abbrev mX2_bestPiece : jMt := (yX2_bestPiece, cX2_bestPiece, 12, (some .int), [])
abbrev mX0_goesAhead : jMt := (yX0_goesAhead, cX0_goesAhead, 3, (some .boolean), [])
abbrev mX5_clear : jMt := (yX5_clear, cX5_clear, 1, none, [])
abbrev mX5_plain : jMt := (yX5_plain, cX5_plain, 1, (some .int), [])
abbrev mX5_append : jMt := (yX5_append, cX5_append, 2, none, [])
abbrev mL_group : jMt := (yL_group, cL_group, 4, (some .int), [(0, 9, 12, 20)])
abbrev mX6_group : jMt := (yX6_group, cX6_group, 2, (some .int), [])
abbrev mX6_requireGroup : jMt := (yX6_requireGroup, cX6_requireGroup, 2, none, [])
abbrev mL_garble : jMt := (yL_garble, cL_garble, 6, (some .int), [(0, 12, 15, 20), (0, 12, 19, 13), (0, 12, 23, 15)])
abbrev mX6_garble : jMt := (yX6_garble, cX6_garble, 5, (some .int), [])
abbrev mX6_requireCodeWord : jMt := (yX6_requireCodeWord, cX6_requireCodeWord, 2, none, [])
abbrev mX1_withLetter : jMt := (yX1_withLetter, cX1_withLetter, 5, (some .int), [])
abbrev mL_swap : jMt := (yL_swap, cL_swap, 5, (some .int), [(0, 10, 13, 20), (0, 10, 17, 15)])
abbrev mX6_swap : jMt := (yX6_swap, cX6_swap, 3, (some .int), [])
abbrev mX1_swapped : jMt := (yX1_swapped, cX1_swapped, 4, (some .int), [])
abbrev mL_decode : jMt := (yL_decode, cL_decode, 4, (some .int), [(0, 9, 12, 20)])
abbrev mX6_decode : jMt := (yX6_decode, cX6_decode, 5, (some .int), [])
abbrev mX6_read : jMt := (yX6_read, cX6_read, 5, (some .int), [])
abbrev mX0_onlyEntryLike : jMt := (yX0_onlyEntryLike, cX0_onlyEntryLike, 4, (some .int), [])
abbrev mL_how : jMt := (yL_how, cL_how, 4, (some .int), [(0, 9, 12, 20)])
abbrev mX6_how : jMt := (yX6_how, cX6_how, 2, (some .int), [])
abbrev mL_share : jMt := (yL_share, cL_share, 4, (some .int), [(0, 8, 11, 20)])
abbrev mX6_share : jMt := (yX6_share, cX6_share, 6, (some .double), [])
abbrev mL_propose : jMt := (yL_propose, cL_propose, 4, (some .int), [(0, 9, 12, 20)])
abbrev mX6_propose : jMt := (yX6_propose, cX6_propose, 2, (some .int), [])
abbrev mX3_proposeOn : jMt := (yX3_proposeOn, cX3_proposeOn, 11, (some .int), [])
abbrev mX0_hasPhrase : jMt := (yX0_hasPhrase, cX0_hasPhrase, 5, (some .boolean), [])
abbrev mL_learn : jMt := (yL_learn, cL_learn, 5, (some .int), [(0, 10, 13, 20), (0, 10, 17, 13)])
abbrev mX6_learn : jMt := (yX6_learn, cX6_learn, 5, (some .int), [])
abbrev mX6_learnOne : jMt := (yX6_learnOne, cX6_learnOne, 3, (some .boolean), [])
abbrev mX0_latestCode : jMt := (yX0_latestCode, cX0_latestCode, 1, (some .int), [])
abbrev mX7_init : jMt := (yX7_init, cX7_init, 1, none, [])
abbrev mX7_thrown : jMt := (yX7_thrown, cX7_thrown, 1, (some .int), [])
abbrev mX7_say : jMt := (yX7_say, cX7_say, 2, (some .int), [])
abbrev mX7_isIn : jMt := (yX7_isIn, cX7_isIn, 3, (some .boolean), [])
abbrev mX7_no : jMt := (yX7_no, cX7_no, 2, (some .int), [])
abbrev mX7_empty : jMt := (yX7_empty, cX7_empty, 2, (some .int), [])
abbrev mX7_words : jMt := (yX7_words, cX7_words, 1, (some .int), [])
abbrev mX7_wordAt : jMt := (yX7_wordAt, cX7_wordAt, 2, (some .int), [])
abbrev mX7_keep : jMt := (yX7_keep, cX7_keep, 1, (some .int), [])
abbrev mX7_recall : jMt := (yX7_recall, cX7_recall, 2, (some .int), [])
abbrev mX7_letter : jMt := (yX7_letter, cX7_letter, 3, (some .int), [])
abbrev mX7_isCode : jMt := (yX7_isCode, cX7_isCode, 1, (some .boolean), [])
abbrev mX7_letterOf : jMt := (yX7_letterOf, cX7_letterOf, 2, (some .int), [])
abbrev mX7_power : jMt := (yX7_power, cX7_power, 3, (some .int), [])
abbrev mX7_reason : jMt := (yX7_reason, cX7_reason, 3, (some .int), [])
abbrev mX7_isBook : jMt := (yX7_isBook, cX7_isBook, 1, (some .boolean), [])
abbrev mX7_reasonFor : jMt := (yX7_reasonFor, cX7_reasonFor, 7, (some .int), [])
abbrev mX7_isOneOff : jMt := (yX7_isOneOff, cX7_isOneOff, 4, (some .boolean), [])
abbrev mX7_isSwapped : jMt := (yX7_isSwapped, cX7_isSwapped, 4, (some .boolean), [])
abbrev mX7_swapped : jMt := (yX7_swapped, cX7_swapped, 3, (some .int), [])
abbrev mX7_firstFit : jMt := (yX7_firstFit, cX7_firstFit, 3, (some .int), [])
abbrev mX7_fitFrom : jMt := (yX7_fitFrom, cX7_fitFrom, 4, (some .int), [])
abbrev mX7_define : jMt := (yX7_define, cX7_define, 3, (some .int), [])
abbrev mX7_add : jMt := (yX7_add, cX7_add, 7, none, [])
abbrev mX7_drop : jMt := (yX7_drop, cX7_drop, 5, (some .int), [])
abbrev mX7_isEntry : jMt := (yX7_isEntry, cX7_isEntry, 3, (some .boolean), [])
abbrev mX7_entries : jMt := (yX7_entries, cX7_entries, 2, (some .int), [])
abbrev mX7_entry : jMt := (yX7_entry, cX7_entry, 5, (some .int), [])
abbrev mX7_find : jMt := (yX7_find, cX7_find, 3, (some .int), [])
abbrev mX7_entryOf : jMt := (yX7_entryOf, cX7_entryOf, 5, (some .int), [])
abbrev mX7_setPrice : jMt := (yX7_setPrice, cX7_setPrice, 3, (some .int), [])
abbrev mX7_encode : jMt := (yX7_encode, cX7_encode, 5, (some .int), [])
abbrev mX7_divide : jMt := (yX7_divide, cX7_divide, 8, (some .int), [])
abbrev mX7_stands : jMt := (yX7_stands, cX7_stands, 7, (some .boolean), [])
abbrev mJ9_min_7cf53 : jMt := (yJ9_min_7cf53, cJ9_min_7cf53, 2, (some .int), [])
abbrev mX7_groups : jMt := (yX7_groups, cX7_groups, 1, (some .int), [])
abbrev mX7_group : jMt := (yX7_group, cX7_group, 2, (some .int), [])
abbrev mX7_isGroup : jMt := (yX7_isGroup, cX7_isGroup, 2, (some .boolean), [])
abbrev mX7_garble : jMt := (yX7_garble, cX7_garble, 5, (some .int), [])
abbrev mX7_swap : jMt := (yX7_swap, cX7_swap, 3, (some .int), [])
abbrev mX7_decode : jMt := (yX7_decode, cX7_decode, 8, (some .int), [])
abbrev mX7_write : jMt := (yX7_write, cX7_write, 2, none, [])
abbrev mX7_meant : jMt := (yX7_meant, cX7_meant, 7, (some .int), [])
abbrev mX7_how : jMt := (yX7_how, cX7_how, 2, (some .int), [])
abbrev mX7_cost : jMt := (yX7_cost, cX7_cost, 3, (some .int), [])
abbrev mX7_time : jMt := (yX7_time, cX7_time, 3, (some .int), [])
abbrev mX7_unitsOf : jMt := (yX7_unitsOf, cX7_unitsOf, 4, (some .int), [])
abbrev mX7_share : jMt := (yX7_share, cX7_share, 5, (some .double), [])
abbrev mX7_propose : jMt := (yX7_propose, cX7_propose, 3, (some .int), [])
abbrev mX7_proposal : jMt := (yX7_proposal, cX7_proposal, 9, (some .int), [])
abbrev mX7_timesOf : jMt := (yX7_timesOf, cX7_timesOf, 7, (some .int), [])
abbrev mX7_isSame : jMt := (yX7_isSame, cX7_isSame, 6, (some .boolean), [])
abbrev mX7_isInBook : jMt := (yX7_isInBook, cX7_isInBook, 6, (some .boolean), [])
abbrev mX7_learn : jMt := (yX7_learn, cX7_learn, 5, (some .int), [])
abbrev mX7_digest : jMt := (yX7_digest, cX7_digest, 6, (some .long), [])
abbrev mL_law : jMt := (yL_law, cL_law, 9, some .boolean, [])
theorem ini_WireBookLaw : Cond.initialized RL ∈ lw_tbl := List.mem_of_getElem? (i := 24) (by decide +kernel)
theorem ini_WireBook : Cond.initialized RX6 ∈ lw_tbl := List.mem_of_getElem? (i := 25) (by decide +kernel)
theorem ini_WireBook_Book : Cond.initialized RX0 ∈ lw_tbl := List.mem_of_getElem? (i := 26) (by decide +kernel)
theorem ini_WireBook_Line : Cond.initialized RX4 ∈ lw_tbl := List.mem_of_getElem? (i := 27) (by decide +kernel)
theorem ini_WireBook_Kept : Cond.initialized RX3 ∈ lw_tbl := List.mem_of_getElem? (i := 28) (by decide +kernel)
theorem ini_java_util_Arrays : Cond.initialized RJ7 ∈ lw_tbl := List.mem_of_getElem? (i := 29) (by decide +kernel)
theorem ini_WireBook_Message : Cond.initialized RX5 ∈ lw_tbl := List.mem_of_getElem? (i := 30) (by decide +kernel)
theorem ini_WireBook_Division : Cond.initialized RX2 ∈ lw_tbl := List.mem_of_getElem? (i := 31) (by decide +kernel)
theorem ini_WireBookModel : Cond.initialized RX7 ∈ lw_tbl := List.mem_of_getElem? (i := 32) (by decide +kernel)
theorem ini_java_lang_Throwable : Cond.initialized "java/lang/Throwable" ∈ lw_tbl := List.mem_of_getElem? (i := 33) (by decide +kernel)
theorem ini_java_lang_Exception : Cond.initialized "java/lang/Exception" ∈ lw_tbl := List.mem_of_getElem? (i := 34) (by decide +kernel)
theorem ini_java_lang_RuntimeException : Cond.initialized "java/lang/RuntimeException" ∈ lw_tbl := List.mem_of_getElem? (i := 35) (by decide +kernel)
theorem ini_java_lang_IllegalArgumentException : Cond.initialized "java/lang/IllegalArgumentException" ∈ lw_tbl := List.mem_of_getElem? (i := 36) (by decide +kernel)
theorem ini_java_lang_IllegalStateException : Cond.initialized "java/lang/IllegalStateException" ∈ lw_tbl := List.mem_of_getElem? (i := 37) (by decide +kernel)
theorem ini_java_lang_IndexOutOfBoundsException : Cond.initialized "java/lang/IndexOutOfBoundsException" ∈ lw_tbl := List.mem_of_getElem? (i := 38) (by decide +kernel)
theorem ini_java_lang_System : Cond.initialized RJ10 ∈ lw_tbl := List.mem_of_getElem? (i := 39) (by decide +kernel)
theorem ini_WireBook_Code : Cond.initialized RX1 ∈ lw_tbl := List.mem_of_getElem? (i := 40) (by decide +kernel)
theorem ini_java_lang_Math : Cond.initialized RJ9 ∈ lw_tbl := List.mem_of_getElem? (i := 41) (by decide +kernel)
theorem co_X6_init : Cond.code yX6_init cX6_init 2 none ∈ lw_tbl := List.mem_of_getElem? (i := 46) (by decide +kernel)
theorem st_X6_init : jSt mX6_init 0 := ⟨by decide +kernel, rfl, co_X6_init, ini_WireBook, ⟨by decide +kernel, by decide +kernel⟩, by decide +kernel⟩
theorem im_X6_init : Cond.instanceMethod yX6_init ∈ lw_tbl := List.mem_of_getElem? (i := 45) (by decide +kernel)
theorem co_X0_init : Cond.code yX0_init cX0_init 1 none ∈ lw_tbl := List.mem_of_getElem? (i := 55) (by decide +kernel)
theorem st_X0_init : jSt mX0_init 0 := ⟨by decide +kernel, rfl, co_X0_init, ini_WireBook_Book, ⟨by decide +kernel, by decide +kernel⟩, by decide +kernel⟩
theorem im_X0_init : Cond.instanceMethod yX0_init ∈ lw_tbl := List.mem_of_getElem? (i := 54) (by decide +kernel)
theorem co_X4_init : Cond.code yX4_init cX4_init 1 none ∈ lw_tbl := List.mem_of_getElem? (i := 82) (by decide +kernel)
theorem st_X4_init : jSt mX4_init 0 := ⟨by decide +kernel, rfl, co_X4_init, ini_WireBook_Line, ⟨by decide +kernel, by decide +kernel⟩, by decide +kernel⟩
theorem im_X4_init : Cond.instanceMethod yX4_init ∈ lw_tbl := List.mem_of_getElem? (i := 81) (by decide +kernel)
theorem co_X3_init : Cond.code yX3_init cX3_init 1 none ∈ lw_tbl := List.mem_of_getElem? (i := 101) (by decide +kernel)
theorem st_X3_init : jSt mX3_init 0 := ⟨by decide +kernel, rfl, co_X3_init, ini_WireBook_Kept, ⟨by decide +kernel, by decide +kernel⟩, by decide +kernel⟩
theorem im_X3_init : Cond.instanceMethod yX3_init ∈ lw_tbl := List.mem_of_getElem? (i := 100) (by decide +kernel)
theorem co_J7_fill_53178 : Cond.code yJ7_fill_53178 cJ7_fill_53178 4 none ∈ lw_tbl := List.mem_of_getElem? (i := 107) (by decide +kernel)
theorem st_J7_fill_53178 : jSt mJ7_fill_53178 2 := ⟨by decide +kernel, rfl, co_J7_fill_53178, ini_java_util_Arrays, ⟨by decide +kernel, by decide +kernel⟩, by decide +kernel⟩
theorem sm_J7_fill_53178 : Cond.static yJ7_fill_53178 ∈ lw_tbl := List.mem_of_getElem? (i := 106) (by decide +kernel)
theorem co_X5_init : Cond.code yX5_init cX5_init 1 none ∈ lw_tbl := List.mem_of_getElem? (i := 131) (by decide +kernel)
theorem st_X5_init : jSt mX5_init 0 := ⟨by decide +kernel, rfl, co_X5_init, ini_WireBook_Message, ⟨by decide +kernel, by decide +kernel⟩, by decide +kernel⟩
theorem im_X5_init : Cond.instanceMethod yX5_init ∈ lw_tbl := List.mem_of_getElem? (i := 130) (by decide +kernel)
theorem co_X2_init : Cond.code yX2_init cX2_init 1 none ∈ lw_tbl := List.mem_of_getElem? (i := 146) (by decide +kernel)
theorem st_X2_init : jSt mX2_init 0 := ⟨by decide +kernel, rfl, co_X2_init, ini_WireBook_Division, ⟨by decide +kernel, by decide +kernel⟩, by decide +kernel⟩
theorem im_X2_init : Cond.instanceMethod yX2_init ∈ lw_tbl := List.mem_of_getElem? (i := 145) (by decide +kernel)
theorem co_X6_empty : Cond.code yX6_empty cX6_empty 2 (some .int) ∈ lw_tbl := List.mem_of_getElem? (i := 184) (by decide +kernel)
theorem st_X6_empty : jSt mX6_empty 0 := ⟨by decide +kernel, rfl, co_X6_empty, ini_WireBook, ⟨by decide +kernel, by decide +kernel⟩, by decide +kernel⟩
theorem im_X6_empty : Cond.instanceMethod yX6_empty ∈ lw_tbl := List.mem_of_getElem? (i := 182) (by decide +kernel)
theorem se_X6_empty : Cond.selects RX6 yX6_empty yX6_empty ∈ lw_tbl := List.mem_of_getElem? (i := 183) (by decide +kernel)
theorem co_X4_clear : Cond.code yX4_clear cX4_clear 1 none ∈ lw_tbl := List.mem_of_getElem? (i := 188) (by decide +kernel)
theorem st_X4_clear : jSt mX4_clear 0 := ⟨by decide +kernel, rfl, co_X4_clear, ini_WireBook_Line, ⟨by decide +kernel, by decide +kernel⟩, by decide +kernel⟩
theorem im_X4_clear : Cond.instanceMethod yX4_clear ∈ lw_tbl := List.mem_of_getElem? (i := 186) (by decide +kernel)
theorem se_X4_clear : Cond.selects RX4 yX4_clear yX4_clear ∈ lw_tbl := List.mem_of_getElem? (i := 187) (by decide +kernel)
theorem co_X6_words : Cond.code yX6_words cX6_words 1 (some .int) ∈ lw_tbl := List.mem_of_getElem? (i := 192) (by decide +kernel)
theorem st_X6_words : jSt mX6_words 0 := ⟨by decide +kernel, rfl, co_X6_words, ini_WireBook, ⟨by decide +kernel, by decide +kernel⟩, by decide +kernel⟩
theorem im_X6_words : Cond.instanceMethod yX6_words ∈ lw_tbl := List.mem_of_getElem? (i := 190) (by decide +kernel)
theorem se_X6_words : Cond.selects RX6 yX6_words yX6_words ∈ lw_tbl := List.mem_of_getElem? (i := 191) (by decide +kernel)
theorem co_X6_groups : Cond.code yX6_groups cX6_groups 1 (some .int) ∈ lw_tbl := List.mem_of_getElem? (i := 196) (by decide +kernel)
theorem st_X6_groups : jSt mX6_groups 0 := ⟨by decide +kernel, rfl, co_X6_groups, ini_WireBook, ⟨by decide +kernel, by decide +kernel⟩, by decide +kernel⟩
theorem im_X6_groups : Cond.instanceMethod yX6_groups ∈ lw_tbl := List.mem_of_getElem? (i := 194) (by decide +kernel)
theorem se_X6_groups : Cond.selects RX6 yX6_groups yX6_groups ∈ lw_tbl := List.mem_of_getElem? (i := 195) (by decide +kernel)
theorem co_X6_cost : Cond.code yX6_cost cX6_cost 1 (some .int) ∈ lw_tbl := List.mem_of_getElem? (i := 200) (by decide +kernel)
theorem st_X6_cost : jSt mX6_cost 0 := ⟨by decide +kernel, rfl, co_X6_cost, ini_WireBook, ⟨by decide +kernel, by decide +kernel⟩, by decide +kernel⟩
theorem im_X6_cost : Cond.instanceMethod yX6_cost ∈ lw_tbl := List.mem_of_getElem? (i := 198) (by decide +kernel)
theorem se_X6_cost : Cond.selects RX6 yX6_cost yX6_cost ∈ lw_tbl := List.mem_of_getElem? (i := 199) (by decide +kernel)
theorem co_X5_costAt : Cond.code yX5_costAt cX5_costAt 4 (some .int) ∈ lw_tbl := List.mem_of_getElem? (i := 204) (by decide +kernel)
theorem st_X5_costAt : jSt mX5_costAt 1 := ⟨by decide +kernel, rfl, co_X5_costAt, ini_WireBook_Message, ⟨by decide +kernel, by decide +kernel⟩, by decide +kernel⟩
theorem im_X5_costAt : Cond.instanceMethod yX5_costAt ∈ lw_tbl := List.mem_of_getElem? (i := 202) (by decide +kernel)
theorem se_X5_costAt : Cond.selects RX5 yX5_costAt yX5_costAt ∈ lw_tbl := List.mem_of_getElem? (i := 203) (by decide +kernel)
theorem co_X5_isPlain : Cond.code yX5_isPlain cX5_isPlain 1 (some .boolean) ∈ lw_tbl := List.mem_of_getElem? (i := 207) (by decide +kernel)
theorem st_X5_isPlain : jSt mX5_isPlain 1 := ⟨by decide +kernel, rfl, co_X5_isPlain, ini_WireBook_Message, ⟨by decide +kernel, by decide +kernel⟩, by decide +kernel⟩
theorem sm_X5_isPlain : Cond.static yX5_isPlain ∈ lw_tbl := List.mem_of_getElem? (i := 206) (by decide +kernel)
theorem co_X6_time : Cond.code yX6_time cX6_time 1 (some .int) ∈ lw_tbl := List.mem_of_getElem? (i := 211) (by decide +kernel)
theorem st_X6_time : jSt mX6_time 0 := ⟨by decide +kernel, rfl, co_X6_time, ini_WireBook, ⟨by decide +kernel, by decide +kernel⟩, by decide +kernel⟩
theorem im_X6_time : Cond.instanceMethod yX6_time ∈ lw_tbl := List.mem_of_getElem? (i := 209) (by decide +kernel)
theorem se_X6_time : Cond.selects RX6 yX6_time yX6_time ∈ lw_tbl := List.mem_of_getElem? (i := 210) (by decide +kernel)
theorem co_X5_units : Cond.code yX5_units cX5_units 3 (some .int) ∈ lw_tbl := List.mem_of_getElem? (i := 215) (by decide +kernel)
theorem st_X5_units : jSt mX5_units 0 := ⟨by decide +kernel, rfl, co_X5_units, ini_WireBook_Message, ⟨by decide +kernel, by decide +kernel⟩, by decide +kernel⟩
theorem im_X5_units : Cond.instanceMethod yX5_units ∈ lw_tbl := List.mem_of_getElem? (i := 213) (by decide +kernel)
theorem se_X5_units : Cond.selects RX5 yX5_units yX5_units ∈ lw_tbl := List.mem_of_getElem? (i := 214) (by decide +kernel)
theorem co_X5_wordOf : Cond.code yX5_wordOf cX5_wordOf 1 (some .int) ∈ lw_tbl := List.mem_of_getElem? (i := 218) (by decide +kernel)
theorem st_X5_wordOf : jSt mX5_wordOf 1 := ⟨by decide +kernel, rfl, co_X5_wordOf, ini_WireBook_Message, ⟨by decide +kernel, by decide +kernel⟩, by decide +kernel⟩
theorem sm_X5_wordOf : Cond.static yX5_wordOf ∈ lw_tbl := List.mem_of_getElem? (i := 217) (by decide +kernel)
theorem co_X5_wordUnits : Cond.code yX5_wordUnits cX5_wordUnits 4 (some .int) ∈ lw_tbl := List.mem_of_getElem? (i := 221) (by decide +kernel)
theorem st_X5_wordUnits : jSt mX5_wordUnits 1 := ⟨by decide +kernel, rfl, co_X5_wordUnits, ini_WireBook_Message, ⟨by decide +kernel, by decide +kernel⟩, by decide +kernel⟩
theorem sm_X5_wordUnits : Cond.static yX5_wordUnits ∈ lw_tbl := List.mem_of_getElem? (i := 220) (by decide +kernel)
theorem co_J9_floorMod_7cf53 : Cond.code yJ9_floorMod_7cf53 cJ9_floorMod_7cf53 3 (some .int) ∈ lw_tbl := List.mem_of_getElem? (i := 226) (by decide +kernel)
theorem st_J9_floorMod_7cf53 : jStF mJ9_floorMod_7cf53 2 := ⟨by decide +kernel, rfl, co_J9_floorMod_7cf53, ini_java_lang_Math, ⟨by decide +kernel, by decide +kernel⟩, by decide +kernel⟩
theorem sm_J9_floorMod_7cf53 : Cond.static yJ9_floorMod_7cf53 ∈ lw_tbl := List.mem_of_getElem? (i := 225) (by decide +kernel)
theorem co_X1_units : Cond.code yX1_units cX1_units 4 (some .int) ∈ lw_tbl := List.mem_of_getElem? (i := 229) (by decide +kernel)
theorem st_X1_units : jSt mX1_units 1 := ⟨by decide +kernel, rfl, co_X1_units, ini_WireBook_Code, ⟨by decide +kernel, by decide +kernel⟩, by decide +kernel⟩
theorem sm_X1_units : Cond.static yX1_units ∈ lw_tbl := List.mem_of_getElem? (i := 228) (by decide +kernel)
theorem co_X6_digest : Cond.code yX6_digest cX6_digest 4 (some .long) ∈ lw_tbl := List.mem_of_getElem? (i := 236) (by decide +kernel)
theorem st_X6_digest : jSt mX6_digest 0 := ⟨by decide +kernel, rfl, co_X6_digest, ini_WireBook, ⟨by decide +kernel, by decide +kernel⟩, by decide +kernel⟩
theorem im_X6_digest : Cond.instanceMethod yX6_digest ∈ lw_tbl := List.mem_of_getElem? (i := 234) (by decide +kernel)
theorem se_X6_digest : Cond.selects RX6 yX6_digest yX6_digest ∈ lw_tbl := List.mem_of_getElem? (i := 235) (by decide +kernel)
theorem co_X6_mix : Cond.code yX6_mix cX6_mix 3 (some .long) ∈ lw_tbl := List.mem_of_getElem? (i := 240) (by decide +kernel)
theorem st_X6_mix : jSt mX6_mix 2 := ⟨by decide +kernel, rfl, co_X6_mix, ini_WireBook, ⟨by decide +kernel, by decide +kernel⟩, by decide +kernel⟩
theorem sm_X6_mix : Cond.static yX6_mix ∈ lw_tbl := List.mem_of_getElem? (i := 239) (by decide +kernel)
theorem co_X6_mixRow : Cond.code yX6_mixRow cX6_mixRow 8 (some .long) ∈ lw_tbl := List.mem_of_getElem? (i := 244) (by decide +kernel)
theorem st_X6_mixRow : jSt mX6_mixRow 4 := ⟨by decide +kernel, rfl, co_X6_mixRow, ini_WireBook, ⟨by decide +kernel, by decide +kernel⟩, by decide +kernel⟩
theorem sm_X6_mixRow : Cond.static yX6_mixRow ∈ lw_tbl := List.mem_of_getElem? (i := 243) (by decide +kernel)
theorem co_X0_mixInto : Cond.code yX0_mixInto cX0_mixInto 6 (some .long) ∈ lw_tbl := List.mem_of_getElem? (i := 248) (by decide +kernel)
theorem st_X0_mixInto : jSt mX0_mixInto 1 := ⟨by decide +kernel, rfl, co_X0_mixInto, ini_WireBook_Book, ⟨by decide +kernel, by decide +kernel⟩, by decide +kernel⟩
theorem im_X0_mixInto : Cond.instanceMethod yX0_mixInto ∈ lw_tbl := List.mem_of_getElem? (i := 246) (by decide +kernel)
theorem se_X0_mixInto : Cond.selects RX0 yX0_mixInto yX0_mixInto ∈ lw_tbl := List.mem_of_getElem? (i := 247) (by decide +kernel)
theorem co_X0_startOf : Cond.code yX0_startOf cX0_startOf 1 (some .int) ∈ lw_tbl := List.mem_of_getElem? (i := 252) (by decide +kernel)
theorem st_X0_startOf : jSt mX0_startOf 1 := ⟨by decide +kernel, rfl, co_X0_startOf, ini_WireBook_Book, ⟨by decide +kernel, by decide +kernel⟩, by decide +kernel⟩
theorem sm_X0_startOf : Cond.static yX0_startOf ∈ lw_tbl := List.mem_of_getElem? (i := 251) (by decide +kernel)
theorem co_X3_mixInto : Cond.code yX3_mixInto cX3_mixInto 6 (some .long) ∈ lw_tbl := List.mem_of_getElem? (i := 257) (by decide +kernel)
theorem st_X3_mixInto : jSt mX3_mixInto 1 := ⟨by decide +kernel, rfl, co_X3_mixInto, ini_WireBook_Kept, ⟨by decide +kernel, by decide +kernel⟩, by decide +kernel⟩
theorem im_X3_mixInto : Cond.instanceMethod yX3_mixInto ∈ lw_tbl := List.mem_of_getElem? (i := 255) (by decide +kernel)
theorem se_X3_mixInto : Cond.selects RX3 yX3_mixInto yX3_mixInto ∈ lw_tbl := List.mem_of_getElem? (i := 256) (by decide +kernel)
theorem co_X3_startOf : Cond.code yX3_startOf cX3_startOf 2 (some .int) ∈ lw_tbl := List.mem_of_getElem? (i := 262) (by decide +kernel)
theorem st_X3_startOf : jSt mX3_startOf 1 := ⟨by decide +kernel, rfl, co_X3_startOf, ini_WireBook_Kept, ⟨by decide +kernel, by decide +kernel⟩, by decide +kernel⟩
theorem im_X3_startOf : Cond.instanceMethod yX3_startOf ∈ lw_tbl := List.mem_of_getElem? (i := 260) (by decide +kernel)
theorem se_X3_startOf : Cond.selects RX3 yX3_startOf yX3_startOf ∈ lw_tbl := List.mem_of_getElem? (i := 261) (by decide +kernel)
theorem co_L_say : Cond.codeWith yL_say cL_say 4 (some .int) [(0, 9, 12, 13), (0, 9, 15, 15)] ∈ lw_tbl := List.mem_of_getElem? (i := 266) (by decide +kernel)
theorem st_L_say : jStX mL_say 3 := ⟨by decide +kernel, co_L_say, ini_WireBookLaw, ⟨by decide +kernel, by decide +kernel⟩, by decide +kernel⟩
theorem sm_L_say : Cond.static yL_say ∈ lw_tbl := List.mem_of_getElem? (i := 265) (by decide +kernel)
theorem co_X6_say : Cond.code yX6_say cX6_say 2 (some .int) ∈ lw_tbl := List.mem_of_getElem? (i := 272) (by decide +kernel)
theorem st_X6_say : jSt mX6_say 1 := ⟨by decide +kernel, rfl, co_X6_say, ini_WireBook, ⟨by decide +kernel, by decide +kernel⟩, by decide +kernel⟩
theorem im_X6_say : Cond.instanceMethod yX6_say ∈ lw_tbl := List.mem_of_getElem? (i := 270) (by decide +kernel)
theorem se_X6_say : Cond.selects RX6 yX6_say yX6_say ∈ lw_tbl := List.mem_of_getElem? (i := 271) (by decide +kernel)
theorem co_X4_append : Cond.code yX4_append cX4_append 2 none ∈ lw_tbl := List.mem_of_getElem? (i := 360) (by decide +kernel)
theorem st_X4_append : jSt mX4_append 1 := ⟨by decide +kernel, rfl, co_X4_append, ini_WireBook_Line, ⟨by decide +kernel, by decide +kernel⟩, by decide +kernel⟩
theorem im_X4_append : Cond.instanceMethod yX4_append ∈ lw_tbl := List.mem_of_getElem? (i := 358) (by decide +kernel)
theorem se_X4_append : Cond.selects RX4 yX4_append yX4_append ∈ lw_tbl := List.mem_of_getElem? (i := 359) (by decide +kernel)
theorem co_L_wordAt : Cond.codeWith yL_wordAt cL_wordAt 4 (some .int) [(0, 9, 12, 20)] ∈ lw_tbl := List.mem_of_getElem? (i := 363) (by decide +kernel)
theorem st_L_wordAt : jStX mL_wordAt 3 := ⟨by decide +kernel, co_L_wordAt, ini_WireBookLaw, ⟨by decide +kernel, by decide +kernel⟩, by decide +kernel⟩
theorem sm_L_wordAt : Cond.static yL_wordAt ∈ lw_tbl := List.mem_of_getElem? (i := 362) (by decide +kernel)
theorem co_X6_wordAt : Cond.code yX6_wordAt cX6_wordAt 2 (some .int) ∈ lw_tbl := List.mem_of_getElem? (i := 368) (by decide +kernel)
theorem st_X6_wordAt : jSt mX6_wordAt 1 := ⟨by decide +kernel, rfl, co_X6_wordAt, ini_WireBook, ⟨by decide +kernel, by decide +kernel⟩, by decide +kernel⟩
theorem im_X6_wordAt : Cond.instanceMethod yX6_wordAt ∈ lw_tbl := List.mem_of_getElem? (i := 366) (by decide +kernel)
theorem se_X6_wordAt : Cond.selects RX6 yX6_wordAt yX6_wordAt ∈ lw_tbl := List.mem_of_getElem? (i := 367) (by decide +kernel)
theorem co_L_keep : Cond.codeWith yL_keep cL_keep 3 (some .int) [(0, 8, 11, 15)] ∈ lw_tbl := List.mem_of_getElem? (i := 387) (by decide +kernel)
theorem st_L_keep : jStX mL_keep 2 := ⟨by decide +kernel, co_L_keep, ini_WireBookLaw, ⟨by decide +kernel, by decide +kernel⟩, by decide +kernel⟩
theorem sm_L_keep : Cond.static yL_keep ∈ lw_tbl := List.mem_of_getElem? (i := 386) (by decide +kernel)
theorem co_X6_keep : Cond.code yX6_keep cX6_keep 1 (some .int) ∈ lw_tbl := List.mem_of_getElem? (i := 391) (by decide +kernel)
theorem st_X6_keep : jSt mX6_keep 0 := ⟨by decide +kernel, rfl, co_X6_keep, ini_WireBook, ⟨by decide +kernel, by decide +kernel⟩, by decide +kernel⟩
theorem im_X6_keep : Cond.instanceMethod yX6_keep ∈ lw_tbl := List.mem_of_getElem? (i := 389) (by decide +kernel)
theorem se_X6_keep : Cond.selects RX6 yX6_keep yX6_keep ∈ lw_tbl := List.mem_of_getElem? (i := 390) (by decide +kernel)
theorem co_X3_add : Cond.code yX3_add cX3_add 4 none ∈ lw_tbl := List.mem_of_getElem? (i := 397) (by decide +kernel)
theorem st_X3_add : jSt mX3_add 1 := ⟨by decide +kernel, rfl, co_X3_add, ini_WireBook_Kept, ⟨by decide +kernel, by decide +kernel⟩, by decide +kernel⟩
theorem im_X3_add : Cond.instanceMethod yX3_add ∈ lw_tbl := List.mem_of_getElem? (i := 395) (by decide +kernel)
theorem se_X3_add : Cond.selects RX3 yX3_add yX3_add ∈ lw_tbl := List.mem_of_getElem? (i := 396) (by decide +kernel)
theorem co_X3_countPhrases : Cond.code yX3_countPhrases cX3_countPhrases 7 none ∈ lw_tbl := List.mem_of_getElem? (i := 404) (by decide +kernel)
theorem st_X3_countPhrases : jSt mX3_countPhrases 3 := ⟨by decide +kernel, rfl, co_X3_countPhrases, ini_WireBook_Kept, ⟨by decide +kernel, by decide +kernel⟩, by decide +kernel⟩
theorem im_X3_countPhrases : Cond.instanceMethod yX3_countPhrases ∈ lw_tbl := List.mem_of_getElem? (i := 403) (by decide +kernel)
theorem se_X3_countPhrases : Cond.selects RX3 yX3_countPhrases yX3_countPhrases ∈ lw_tbl := List.mem_of_getElem? (i := 1) (by decide +kernel)
theorem co_X3_firstFinding : Cond.code yX3_firstFinding cX3_firstFinding 4 (some .int) ∈ lw_tbl := List.mem_of_getElem? (i := 408) (by decide +kernel)
theorem st_X3_firstFinding : jSt mX3_firstFinding 2 := ⟨by decide +kernel, rfl, co_X3_firstFinding, ini_WireBook_Kept, ⟨by decide +kernel, by decide +kernel⟩, by decide +kernel⟩
theorem im_X3_firstFinding : Cond.instanceMethod yX3_firstFinding ∈ lw_tbl := List.mem_of_getElem? (i := 407) (by decide +kernel)
theorem se_X3_firstFinding : Cond.selects RX3 yX3_firstFinding yX3_firstFinding ∈ lw_tbl := List.mem_of_getElem? (i := 2) (by decide +kernel)
theorem co_X6_sameWords : Cond.code yX6_sameWords cX6_sameWords 6 (some .boolean) ∈ lw_tbl := List.mem_of_getElem? (i := 411) (by decide +kernel)
theorem st_X6_sameWords : jSt mX6_sameWords 5 := ⟨by decide +kernel, rfl, co_X6_sameWords, ini_WireBook, ⟨by decide +kernel, by decide +kernel⟩, by decide +kernel⟩
theorem sm_X6_sameWords : Cond.static yX6_sameWords ∈ lw_tbl := List.mem_of_getElem? (i := 410) (by decide +kernel)
theorem co_L_recall : Cond.codeWith yL_recall cL_recall 4 (some .int) [(0, 9, 12, 20)] ∈ lw_tbl := List.mem_of_getElem? (i := 414) (by decide +kernel)
theorem st_L_recall : jStX mL_recall 3 := ⟨by decide +kernel, co_L_recall, ini_WireBookLaw, ⟨by decide +kernel, by decide +kernel⟩, by decide +kernel⟩
theorem sm_L_recall : Cond.static yL_recall ∈ lw_tbl := List.mem_of_getElem? (i := 413) (by decide +kernel)
theorem co_X6_recall : Cond.code yX6_recall cX6_recall 2 (some .int) ∈ lw_tbl := List.mem_of_getElem? (i := 418) (by decide +kernel)
theorem st_X6_recall : jSt mX6_recall 1 := ⟨by decide +kernel, rfl, co_X6_recall, ini_WireBook, ⟨by decide +kernel, by decide +kernel⟩, by decide +kernel⟩
theorem im_X6_recall : Cond.instanceMethod yX6_recall ∈ lw_tbl := List.mem_of_getElem? (i := 416) (by decide +kernel)
theorem se_X6_recall : Cond.selects RX6 yX6_recall yX6_recall ∈ lw_tbl := List.mem_of_getElem? (i := 417) (by decide +kernel)
theorem co_X4_appendAll : Cond.code yX4_appendAll cX4_appendAll 5 none ∈ lw_tbl := List.mem_of_getElem? (i := 424) (by decide +kernel)
theorem st_X4_appendAll : jSt mX4_appendAll 3 := ⟨by decide +kernel, rfl, co_X4_appendAll, ini_WireBook_Line, ⟨by decide +kernel, by decide +kernel⟩, by decide +kernel⟩
theorem im_X4_appendAll : Cond.instanceMethod yX4_appendAll ∈ lw_tbl := List.mem_of_getElem? (i := 422) (by decide +kernel)
theorem se_X4_appendAll : Cond.selects RX4 yX4_appendAll yX4_appendAll ∈ lw_tbl := List.mem_of_getElem? (i := 423) (by decide +kernel)
theorem co_L_letter : Cond.codeWith yL_letter cL_letter 5 (some .int) [(0, 10, 13, 13), (0, 10, 17, 20)] ∈ lw_tbl := List.mem_of_getElem? (i := 428) (by decide +kernel)
theorem st_L_letter : jStX mL_letter 4 := ⟨by decide +kernel, co_L_letter, ini_WireBookLaw, ⟨by decide +kernel, by decide +kernel⟩, by decide +kernel⟩
theorem sm_L_letter : Cond.static yL_letter ∈ lw_tbl := List.mem_of_getElem? (i := 427) (by decide +kernel)
theorem co_X6_letter : Cond.code yX6_letter cX6_letter 3 (some .int) ∈ lw_tbl := List.mem_of_getElem? (i := 432) (by decide +kernel)
theorem st_X6_letter : jSt mX6_letter 2 := ⟨by decide +kernel, rfl, co_X6_letter, ini_WireBook, ⟨by decide +kernel, by decide +kernel⟩, by decide +kernel⟩
theorem im_X6_letter : Cond.instanceMethod yX6_letter ∈ lw_tbl := List.mem_of_getElem? (i := 430) (by decide +kernel)
theorem se_X6_letter : Cond.selects RX6 yX6_letter yX6_letter ∈ lw_tbl := List.mem_of_getElem? (i := 431) (by decide +kernel)
theorem co_X6_requireCode : Cond.code yX6_requireCode cX6_requireCode 1 none ∈ lw_tbl := List.mem_of_getElem? (i := 435) (by decide +kernel)
theorem st_X6_requireCode : jSt mX6_requireCode 1 := ⟨by decide +kernel, rfl, co_X6_requireCode, ini_WireBook, ⟨by decide +kernel, by decide +kernel⟩, by decide +kernel⟩
theorem sm_X6_requireCode : Cond.static yX6_requireCode ∈ lw_tbl := List.mem_of_getElem? (i := 434) (by decide +kernel)
theorem co_X6_requirePlace : Cond.code yX6_requirePlace cX6_requirePlace 2 none ∈ lw_tbl := List.mem_of_getElem? (i := 440) (by decide +kernel)
theorem st_X6_requirePlace : jSt mX6_requirePlace 2 := ⟨by decide +kernel, rfl, co_X6_requirePlace, ini_WireBook, ⟨by decide +kernel, by decide +kernel⟩, by decide +kernel⟩
theorem sm_X6_requirePlace : Cond.static yX6_requirePlace ∈ lw_tbl := List.mem_of_getElem? (i := 439) (by decide +kernel)
theorem co_X1_letterAt : Cond.code yX1_letterAt cX1_letterAt 4 (some .int) ∈ lw_tbl := List.mem_of_getElem? (i := 444) (by decide +kernel)
theorem st_X1_letterAt : jSt mX1_letterAt 2 := ⟨by decide +kernel, rfl, co_X1_letterAt, ini_WireBook_Code, ⟨by decide +kernel, by decide +kernel⟩, by decide +kernel⟩
theorem sm_X1_letterAt : Cond.static yX1_letterAt ∈ lw_tbl := List.mem_of_getElem? (i := 443) (by decide +kernel)
theorem co_L_reason : Cond.codeWith yL_reason cL_reason 5 (some .int) [(0, 10, 13, 20), (0, 10, 17, 13)] ∈ lw_tbl := List.mem_of_getElem? (i := 447) (by decide +kernel)
theorem st_L_reason : jStX mL_reason 4 := ⟨by decide +kernel, co_L_reason, ini_WireBookLaw, ⟨by decide +kernel, by decide +kernel⟩, by decide +kernel⟩
theorem sm_L_reason : Cond.static yL_reason ∈ lw_tbl := List.mem_of_getElem? (i := 446) (by decide +kernel)
theorem co_X6_reason : Cond.code yX6_reason cX6_reason 4 (some .int) ∈ lw_tbl := List.mem_of_getElem? (i := 451) (by decide +kernel)
theorem st_X6_reason : jSt mX6_reason 2 := ⟨by decide +kernel, rfl, co_X6_reason, ini_WireBook, ⟨by decide +kernel, by decide +kernel⟩, by decide +kernel⟩
theorem im_X6_reason : Cond.instanceMethod yX6_reason ∈ lw_tbl := List.mem_of_getElem? (i := 449) (by decide +kernel)
theorem se_X6_reason : Cond.selects RX6 yX6_reason yX6_reason ∈ lw_tbl := List.mem_of_getElem? (i := 450) (by decide +kernel)
theorem co_X6_requireBook : Cond.code yX6_requireBook cX6_requireBook 2 (some (.object "WireBook$Book")) ∈ lw_tbl := List.mem_of_getElem? (i := 455) (by decide +kernel)
theorem st_X6_requireBook : jSt mX6_requireBook 1 := ⟨by decide +kernel, rfl, co_X6_requireBook, ini_WireBook, ⟨by decide +kernel, by decide +kernel⟩, by decide +kernel⟩
theorem im_X6_requireBook : Cond.instanceMethod yX6_requireBook ∈ lw_tbl := List.mem_of_getElem? (i := 454) (by decide +kernel)
theorem se_X6_requireBook : Cond.selects RX6 yX6_requireBook yX6_requireBook ∈ lw_tbl := List.mem_of_getElem? (i := 3) (by decide +kernel)
theorem co_X0_reasonAgainst : Cond.code yX0_reasonAgainst cX0_reasonAgainst 5 (some .int) ∈ lw_tbl := List.mem_of_getElem? (i := 460) (by decide +kernel)
theorem st_X0_reasonAgainst : jSt mX0_reasonAgainst 1 := ⟨by decide +kernel, rfl, co_X0_reasonAgainst, ini_WireBook_Book, ⟨by decide +kernel, by decide +kernel⟩, by decide +kernel⟩
theorem im_X0_reasonAgainst : Cond.instanceMethod yX0_reasonAgainst ∈ lw_tbl := List.mem_of_getElem? (i := 458) (by decide +kernel)
theorem se_X0_reasonAgainst : Cond.selects RX0 yX0_reasonAgainst yX0_reasonAgainst ∈ lw_tbl := List.mem_of_getElem? (i := 459) (by decide +kernel)
theorem co_X1_likeness : Cond.code yX1_likeness cX1_likeness 7 (some .int) ∈ lw_tbl := List.mem_of_getElem? (i := 463) (by decide +kernel)
theorem st_X1_likeness : jSt mX1_likeness 2 := ⟨by decide +kernel, rfl, co_X1_likeness, ini_WireBook_Code, ⟨by decide +kernel, by decide +kernel⟩, by decide +kernel⟩
theorem sm_X1_likeness : Cond.static yX1_likeness ∈ lw_tbl := List.mem_of_getElem? (i := 462) (by decide +kernel)
theorem co_L_firstFit : Cond.codeWith yL_firstFit cL_firstFit 5 (some .int) [(0, 10, 13, 20), (0, 10, 17, 13)] ∈ lw_tbl := List.mem_of_getElem? (i := 466) (by decide +kernel)
theorem st_L_firstFit : jStX mL_firstFit 4 := ⟨by decide +kernel, co_L_firstFit, ini_WireBookLaw, ⟨by decide +kernel, by decide +kernel⟩, by decide +kernel⟩
theorem sm_L_firstFit : Cond.static yL_firstFit ∈ lw_tbl := List.mem_of_getElem? (i := 465) (by decide +kernel)
theorem co_X6_firstFit : Cond.code yX6_firstFit cX6_firstFit 4 (some .int) ∈ lw_tbl := List.mem_of_getElem? (i := 470) (by decide +kernel)
theorem st_X6_firstFit : jSt mX6_firstFit 2 := ⟨by decide +kernel, rfl, co_X6_firstFit, ini_WireBook, ⟨by decide +kernel, by decide +kernel⟩, by decide +kernel⟩
theorem im_X6_firstFit : Cond.instanceMethod yX6_firstFit ∈ lw_tbl := List.mem_of_getElem? (i := 468) (by decide +kernel)
theorem se_X6_firstFit : Cond.selects RX6 yX6_firstFit yX6_firstFit ∈ lw_tbl := List.mem_of_getElem? (i := 469) (by decide +kernel)
theorem co_X0_fitFrom : Cond.code yX0_fitFrom cX0_fitFrom 3 (some .int) ∈ lw_tbl := List.mem_of_getElem? (i := 474) (by decide +kernel)
theorem st_X0_fitFrom : jSt mX0_fitFrom 1 := ⟨by decide +kernel, rfl, co_X0_fitFrom, ini_WireBook_Book, ⟨by decide +kernel, by decide +kernel⟩, by decide +kernel⟩
theorem im_X0_fitFrom : Cond.instanceMethod yX0_fitFrom ∈ lw_tbl := List.mem_of_getElem? (i := 472) (by decide +kernel)
theorem se_X0_fitFrom : Cond.selects RX0 yX0_fitFrom yX0_fitFrom ∈ lw_tbl := List.mem_of_getElem? (i := 473) (by decide +kernel)
theorem co_L_define : Cond.codeWith yL_define cL_define 5 (some .int) [(0, 10, 13, 20), (0, 10, 17, 13), (0, 10, 21, 15)] ∈ lw_tbl := List.mem_of_getElem? (i := 479) (by decide +kernel)
theorem st_L_define : jStX mL_define 4 := ⟨by decide +kernel, co_L_define, ini_WireBookLaw, ⟨by decide +kernel, by decide +kernel⟩, by decide +kernel⟩
theorem sm_L_define : Cond.static yL_define ∈ lw_tbl := List.mem_of_getElem? (i := 478) (by decide +kernel)
theorem co_X6_define : Cond.code yX6_define cX6_define 4 (some .int) ∈ lw_tbl := List.mem_of_getElem? (i := 483) (by decide +kernel)
theorem st_X6_define : jSt mX6_define 2 := ⟨by decide +kernel, rfl, co_X6_define, ini_WireBook, ⟨by decide +kernel, by decide +kernel⟩, by decide +kernel⟩
theorem im_X6_define : Cond.instanceMethod yX6_define ∈ lw_tbl := List.mem_of_getElem? (i := 481) (by decide +kernel)
theorem se_X6_define : Cond.selects RX6 yX6_define yX6_define ∈ lw_tbl := List.mem_of_getElem? (i := 482) (by decide +kernel)
theorem co_X0_add : Cond.code yX0_add cX0_add 3 none ∈ lw_tbl := List.mem_of_getElem? (i := 489) (by decide +kernel)
theorem st_X0_add : jSt mX0_add 2 := ⟨by decide +kernel, rfl, co_X0_add, ini_WireBook_Book, ⟨by decide +kernel, by decide +kernel⟩, by decide +kernel⟩
theorem im_X0_add : Cond.instanceMethod yX0_add ∈ lw_tbl := List.mem_of_getElem? (i := 487) (by decide +kernel)
theorem se_X0_add : Cond.selects RX0 yX0_add yX0_add ∈ lw_tbl := List.mem_of_getElem? (i := 488) (by decide +kernel)
theorem co_L_drop : Cond.codeWith yL_drop cL_drop 5 (some .int) [(0, 10, 13, 20)] ∈ lw_tbl := List.mem_of_getElem? (i := 493) (by decide +kernel)
theorem st_L_drop : jStX mL_drop 4 := ⟨by decide +kernel, co_L_drop, ini_WireBookLaw, ⟨by decide +kernel, by decide +kernel⟩, by decide +kernel⟩
theorem sm_L_drop : Cond.static yL_drop ∈ lw_tbl := List.mem_of_getElem? (i := 492) (by decide +kernel)
theorem co_X6_drop : Cond.code yX6_drop cX6_drop 4 (some .int) ∈ lw_tbl := List.mem_of_getElem? (i := 497) (by decide +kernel)
theorem st_X6_drop : jSt mX6_drop 2 := ⟨by decide +kernel, rfl, co_X6_drop, ini_WireBook, ⟨by decide +kernel, by decide +kernel⟩, by decide +kernel⟩
theorem im_X6_drop : Cond.instanceMethod yX6_drop ∈ lw_tbl := List.mem_of_getElem? (i := 495) (by decide +kernel)
theorem se_X6_drop : Cond.selects RX6 yX6_drop yX6_drop ∈ lw_tbl := List.mem_of_getElem? (i := 496) (by decide +kernel)
theorem co_X6_requireEntry : Cond.code yX6_requireEntry cX6_requireEntry 2 none ∈ lw_tbl := List.mem_of_getElem? (i := 500) (by decide +kernel)
theorem st_X6_requireEntry : jSt mX6_requireEntry 2 := ⟨by decide +kernel, rfl, co_X6_requireEntry, ini_WireBook, ⟨by decide +kernel, by decide +kernel⟩, by decide +kernel⟩
theorem sm_X6_requireEntry : Cond.static yX6_requireEntry ∈ lw_tbl := List.mem_of_getElem? (i := 499) (by decide +kernel)
theorem co_X0_remove : Cond.code yX0_remove cX0_remove 4 none ∈ lw_tbl := List.mem_of_getElem? (i := 505) (by decide +kernel)
theorem st_X0_remove : jSt mX0_remove 1 := ⟨by decide +kernel, rfl, co_X0_remove, ini_WireBook_Book, ⟨by decide +kernel, by decide +kernel⟩, by decide +kernel⟩
theorem im_X0_remove : Cond.instanceMethod yX0_remove ∈ lw_tbl := List.mem_of_getElem? (i := 503) (by decide +kernel)
theorem se_X0_remove : Cond.selects RX0 yX0_remove yX0_remove ∈ lw_tbl := List.mem_of_getElem? (i := 504) (by decide +kernel)
theorem co_L_entries : Cond.codeWith yL_entries cL_entries 4 (some .int) [(0, 9, 12, 20)] ∈ lw_tbl := List.mem_of_getElem? (i := 508) (by decide +kernel)
theorem st_L_entries : jStX mL_entries 3 := ⟨by decide +kernel, co_L_entries, ini_WireBookLaw, ⟨by decide +kernel, by decide +kernel⟩, by decide +kernel⟩
theorem sm_L_entries : Cond.static yL_entries ∈ lw_tbl := List.mem_of_getElem? (i := 507) (by decide +kernel)
theorem co_X6_entries : Cond.code yX6_entries cX6_entries 2 (some .int) ∈ lw_tbl := List.mem_of_getElem? (i := 512) (by decide +kernel)
theorem st_X6_entries : jSt mX6_entries 1 := ⟨by decide +kernel, rfl, co_X6_entries, ini_WireBook, ⟨by decide +kernel, by decide +kernel⟩, by decide +kernel⟩
theorem im_X6_entries : Cond.instanceMethod yX6_entries ∈ lw_tbl := List.mem_of_getElem? (i := 510) (by decide +kernel)
theorem se_X6_entries : Cond.selects RX6 yX6_entries yX6_entries ∈ lw_tbl := List.mem_of_getElem? (i := 511) (by decide +kernel)
theorem co_L_entry : Cond.codeWith yL_entry cL_entry 6 (some .int) [(0, 12, 15, 20)] ∈ lw_tbl := List.mem_of_getElem? (i := 515) (by decide +kernel)
theorem st_L_entry : jStX mL_entry 5 := ⟨by decide +kernel, co_L_entry, ini_WireBookLaw, ⟨by decide +kernel, by decide +kernel⟩, by decide +kernel⟩
theorem sm_L_entry : Cond.static yL_entry ∈ lw_tbl := List.mem_of_getElem? (i := 514) (by decide +kernel)
theorem co_X6_entry : Cond.code yX6_entry cX6_entry 5 (some .int) ∈ lw_tbl := List.mem_of_getElem? (i := 519) (by decide +kernel)
theorem st_X6_entry : jSt mX6_entry 3 := ⟨by decide +kernel, rfl, co_X6_entry, ini_WireBook, ⟨by decide +kernel, by decide +kernel⟩, by decide +kernel⟩
theorem im_X6_entry : Cond.instanceMethod yX6_entry ∈ lw_tbl := List.mem_of_getElem? (i := 517) (by decide +kernel)
theorem se_X6_entry : Cond.selects RX6 yX6_entry yX6_entry ∈ lw_tbl := List.mem_of_getElem? (i := 518) (by decide +kernel)
theorem co_L_find : Cond.codeWith yL_find cL_find 5 (some .int) [(0, 10, 13, 20), (0, 10, 17, 13)] ∈ lw_tbl := List.mem_of_getElem? (i := 524) (by decide +kernel)
theorem st_L_find : jStX mL_find 4 := ⟨by decide +kernel, co_L_find, ini_WireBookLaw, ⟨by decide +kernel, by decide +kernel⟩, by decide +kernel⟩
theorem sm_L_find : Cond.static yL_find ∈ lw_tbl := List.mem_of_getElem? (i := 523) (by decide +kernel)
theorem co_X6_find : Cond.code yX6_find cX6_find 4 (some .int) ∈ lw_tbl := List.mem_of_getElem? (i := 528) (by decide +kernel)
theorem st_X6_find : jSt mX6_find 2 := ⟨by decide +kernel, rfl, co_X6_find, ini_WireBook, ⟨by decide +kernel, by decide +kernel⟩, by decide +kernel⟩
theorem im_X6_find : Cond.instanceMethod yX6_find ∈ lw_tbl := List.mem_of_getElem? (i := 526) (by decide +kernel)
theorem se_X6_find : Cond.selects RX6 yX6_find yX6_find ∈ lw_tbl := List.mem_of_getElem? (i := 527) (by decide +kernel)
theorem co_X0_entryWith : Cond.code yX0_entryWith cX0_entryWith 3 (some .int) ∈ lw_tbl := List.mem_of_getElem? (i := 532) (by decide +kernel)
theorem st_X0_entryWith : jSt mX0_entryWith 1 := ⟨by decide +kernel, rfl, co_X0_entryWith, ini_WireBook_Book, ⟨by decide +kernel, by decide +kernel⟩, by decide +kernel⟩
theorem im_X0_entryWith : Cond.instanceMethod yX0_entryWith ∈ lw_tbl := List.mem_of_getElem? (i := 530) (by decide +kernel)
theorem se_X0_entryWith : Cond.selects RX0 yX0_entryWith yX0_entryWith ∈ lw_tbl := List.mem_of_getElem? (i := 531) (by decide +kernel)
theorem co_L_setPrice : Cond.codeWith yL_setPrice cL_setPrice 4 (some .int) [(0, 9, 12, 13)] ∈ lw_tbl := List.mem_of_getElem? (i := 535) (by decide +kernel)
theorem st_L_setPrice : jStX mL_setPrice 3 := ⟨by decide +kernel, co_L_setPrice, ini_WireBookLaw, ⟨by decide +kernel, by decide +kernel⟩, by decide +kernel⟩
theorem sm_L_setPrice : Cond.static yL_setPrice ∈ lw_tbl := List.mem_of_getElem? (i := 534) (by decide +kernel)
theorem co_X6_setPrice : Cond.code yX6_setPrice cX6_setPrice 3 (some .int) ∈ lw_tbl := List.mem_of_getElem? (i := 539) (by decide +kernel)
theorem st_X6_setPrice : jSt mX6_setPrice 1 := ⟨by decide +kernel, rfl, co_X6_setPrice, ini_WireBook, ⟨by decide +kernel, by decide +kernel⟩, by decide +kernel⟩
theorem im_X6_setPrice : Cond.instanceMethod yX6_setPrice ∈ lw_tbl := List.mem_of_getElem? (i := 537) (by decide +kernel)
theorem se_X6_setPrice : Cond.selects RX6 yX6_setPrice yX6_setPrice ∈ lw_tbl := List.mem_of_getElem? (i := 538) (by decide +kernel)
theorem co_L_encode : Cond.codeWith yL_encode cL_encode 4 (some .int) [(0, 9, 12, 20)] ∈ lw_tbl := List.mem_of_getElem? (i := 543) (by decide +kernel)
theorem st_L_encode : jStX mL_encode 3 := ⟨by decide +kernel, co_L_encode, ini_WireBookLaw, ⟨by decide +kernel, by decide +kernel⟩, by decide +kernel⟩
theorem sm_L_encode : Cond.static yL_encode ∈ lw_tbl := List.mem_of_getElem? (i := 542) (by decide +kernel)
theorem co_X6_encode : Cond.code yX6_encode cX6_encode 7 (some .int) ∈ lw_tbl := List.mem_of_getElem? (i := 547) (by decide +kernel)
theorem st_X6_encode : jSt mX6_encode 1 := ⟨by decide +kernel, rfl, co_X6_encode, ini_WireBook, ⟨by decide +kernel, by decide +kernel⟩, by decide +kernel⟩
theorem im_X6_encode : Cond.instanceMethod yX6_encode ∈ lw_tbl := List.mem_of_getElem? (i := 545) (by decide +kernel)
theorem se_X6_encode : Cond.selects RX6 yX6_encode yX6_encode ∈ lw_tbl := List.mem_of_getElem? (i := 546) (by decide +kernel)
theorem co_X2_divide : Cond.code yX2_divide cX2_divide 7 (some .int) ∈ lw_tbl := List.mem_of_getElem? (i := 551) (by decide +kernel)
theorem st_X2_divide : jSt mX2_divide 5 := ⟨by decide +kernel, rfl, co_X2_divide, ini_WireBook_Division, ⟨by decide +kernel, by decide +kernel⟩, by decide +kernel⟩
theorem im_X2_divide : Cond.instanceMethod yX2_divide ∈ lw_tbl := List.mem_of_getElem? (i := 549) (by decide +kernel)
theorem se_X2_divide : Cond.selects RX2 yX2_divide yX2_divide ∈ lw_tbl := List.mem_of_getElem? (i := 550) (by decide +kernel)
theorem co_X2_bestPiece : Cond.code yX2_bestPiece cX2_bestPiece 12 (some .int) ∈ lw_tbl := List.mem_of_getElem? (i := 555) (by decide +kernel)
theorem st_X2_bestPiece : jSt mX2_bestPiece 6 := ⟨by decide +kernel, rfl, co_X2_bestPiece, ini_WireBook_Division, ⟨by decide +kernel, by decide +kernel⟩, by decide +kernel⟩
theorem im_X2_bestPiece : Cond.instanceMethod yX2_bestPiece ∈ lw_tbl := List.mem_of_getElem? (i := 554) (by decide +kernel)
theorem se_X2_bestPiece : Cond.selects RX2 yX2_bestPiece yX2_bestPiece ∈ lw_tbl := List.mem_of_getElem? (i := 4) (by decide +kernel)
theorem co_X0_goesAhead : Cond.code yX0_goesAhead cX0_goesAhead 3 (some .boolean) ∈ lw_tbl := List.mem_of_getElem? (i := 561) (by decide +kernel)
theorem st_X0_goesAhead : jSt mX0_goesAhead 2 := ⟨by decide +kernel, rfl, co_X0_goesAhead, ini_WireBook_Book, ⟨by decide +kernel, by decide +kernel⟩, by decide +kernel⟩
theorem im_X0_goesAhead : Cond.instanceMethod yX0_goesAhead ∈ lw_tbl := List.mem_of_getElem? (i := 559) (by decide +kernel)
theorem se_X0_goesAhead : Cond.selects RX0 yX0_goesAhead yX0_goesAhead ∈ lw_tbl := List.mem_of_getElem? (i := 560) (by decide +kernel)
theorem co_X5_clear : Cond.code yX5_clear cX5_clear 1 none ∈ lw_tbl := List.mem_of_getElem? (i := 565) (by decide +kernel)
theorem st_X5_clear : jSt mX5_clear 0 := ⟨by decide +kernel, rfl, co_X5_clear, ini_WireBook_Message, ⟨by decide +kernel, by decide +kernel⟩, by decide +kernel⟩
theorem im_X5_clear : Cond.instanceMethod yX5_clear ∈ lw_tbl := List.mem_of_getElem? (i := 563) (by decide +kernel)
theorem se_X5_clear : Cond.selects RX5 yX5_clear yX5_clear ∈ lw_tbl := List.mem_of_getElem? (i := 564) (by decide +kernel)
theorem co_X5_plain : Cond.code yX5_plain cX5_plain 1 (some .int) ∈ lw_tbl := List.mem_of_getElem? (i := 568) (by decide +kernel)
theorem st_X5_plain : jSt mX5_plain 1 := ⟨by decide +kernel, rfl, co_X5_plain, ini_WireBook_Message, ⟨by decide +kernel, by decide +kernel⟩, by decide +kernel⟩
theorem sm_X5_plain : Cond.static yX5_plain ∈ lw_tbl := List.mem_of_getElem? (i := 567) (by decide +kernel)
theorem co_X5_append : Cond.code yX5_append cX5_append 2 none ∈ lw_tbl := List.mem_of_getElem? (i := 572) (by decide +kernel)
theorem st_X5_append : jSt mX5_append 1 := ⟨by decide +kernel, rfl, co_X5_append, ini_WireBook_Message, ⟨by decide +kernel, by decide +kernel⟩, by decide +kernel⟩
theorem im_X5_append : Cond.instanceMethod yX5_append ∈ lw_tbl := List.mem_of_getElem? (i := 570) (by decide +kernel)
theorem se_X5_append : Cond.selects RX5 yX5_append yX5_append ∈ lw_tbl := List.mem_of_getElem? (i := 571) (by decide +kernel)
theorem co_L_group : Cond.codeWith yL_group cL_group 4 (some .int) [(0, 9, 12, 20)] ∈ lw_tbl := List.mem_of_getElem? (i := 575) (by decide +kernel)
theorem st_L_group : jStX mL_group 3 := ⟨by decide +kernel, co_L_group, ini_WireBookLaw, ⟨by decide +kernel, by decide +kernel⟩, by decide +kernel⟩
theorem sm_L_group : Cond.static yL_group ∈ lw_tbl := List.mem_of_getElem? (i := 574) (by decide +kernel)
theorem co_X6_group : Cond.code yX6_group cX6_group 2 (some .int) ∈ lw_tbl := List.mem_of_getElem? (i := 579) (by decide +kernel)
theorem st_X6_group : jSt mX6_group 1 := ⟨by decide +kernel, rfl, co_X6_group, ini_WireBook, ⟨by decide +kernel, by decide +kernel⟩, by decide +kernel⟩
theorem im_X6_group : Cond.instanceMethod yX6_group ∈ lw_tbl := List.mem_of_getElem? (i := 577) (by decide +kernel)
theorem se_X6_group : Cond.selects RX6 yX6_group yX6_group ∈ lw_tbl := List.mem_of_getElem? (i := 578) (by decide +kernel)
theorem co_X6_requireGroup : Cond.code yX6_requireGroup cX6_requireGroup 2 none ∈ lw_tbl := List.mem_of_getElem? (i := 583) (by decide +kernel)
theorem st_X6_requireGroup : jSt mX6_requireGroup 1 := ⟨by decide +kernel, rfl, co_X6_requireGroup, ini_WireBook, ⟨by decide +kernel, by decide +kernel⟩, by decide +kernel⟩
theorem im_X6_requireGroup : Cond.instanceMethod yX6_requireGroup ∈ lw_tbl := List.mem_of_getElem? (i := 582) (by decide +kernel)
theorem se_X6_requireGroup : Cond.selects RX6 yX6_requireGroup yX6_requireGroup ∈ lw_tbl := List.mem_of_getElem? (i := 5) (by decide +kernel)
theorem co_L_garble : Cond.codeWith yL_garble cL_garble 6 (some .int) [(0, 12, 15, 20), (0, 12, 19, 13), (0, 12, 23, 15)] ∈ lw_tbl := List.mem_of_getElem? (i := 587) (by decide +kernel)
theorem st_L_garble : jStX mL_garble 5 := ⟨by decide +kernel, co_L_garble, ini_WireBookLaw, ⟨by decide +kernel, by decide +kernel⟩, by decide +kernel⟩
theorem sm_L_garble : Cond.static yL_garble ∈ lw_tbl := List.mem_of_getElem? (i := 586) (by decide +kernel)
theorem co_X6_garble : Cond.code yX6_garble cX6_garble 5 (some .int) ∈ lw_tbl := List.mem_of_getElem? (i := 591) (by decide +kernel)
theorem st_X6_garble : jSt mX6_garble 3 := ⟨by decide +kernel, rfl, co_X6_garble, ini_WireBook, ⟨by decide +kernel, by decide +kernel⟩, by decide +kernel⟩
theorem im_X6_garble : Cond.instanceMethod yX6_garble ∈ lw_tbl := List.mem_of_getElem? (i := 589) (by decide +kernel)
theorem se_X6_garble : Cond.selects RX6 yX6_garble yX6_garble ∈ lw_tbl := List.mem_of_getElem? (i := 590) (by decide +kernel)
theorem co_X6_requireCodeWord : Cond.code yX6_requireCodeWord cX6_requireCodeWord 2 none ∈ lw_tbl := List.mem_of_getElem? (i := 596) (by decide +kernel)
theorem st_X6_requireCodeWord : jSt mX6_requireCodeWord 1 := ⟨by decide +kernel, rfl, co_X6_requireCodeWord, ini_WireBook, ⟨by decide +kernel, by decide +kernel⟩, by decide +kernel⟩
theorem im_X6_requireCodeWord : Cond.instanceMethod yX6_requireCodeWord ∈ lw_tbl := List.mem_of_getElem? (i := 595) (by decide +kernel)
theorem se_X6_requireCodeWord : Cond.selects RX6 yX6_requireCodeWord yX6_requireCodeWord ∈ lw_tbl := List.mem_of_getElem? (i := 6) (by decide +kernel)
theorem co_X1_withLetter : Cond.code yX1_withLetter cX1_withLetter 5 (some .int) ∈ lw_tbl := List.mem_of_getElem? (i := 601) (by decide +kernel)
theorem st_X1_withLetter : jSt mX1_withLetter 3 := ⟨by decide +kernel, rfl, co_X1_withLetter, ini_WireBook_Code, ⟨by decide +kernel, by decide +kernel⟩, by decide +kernel⟩
theorem sm_X1_withLetter : Cond.static yX1_withLetter ∈ lw_tbl := List.mem_of_getElem? (i := 600) (by decide +kernel)
theorem co_L_swap : Cond.codeWith yL_swap cL_swap 5 (some .int) [(0, 10, 13, 20), (0, 10, 17, 15)] ∈ lw_tbl := List.mem_of_getElem? (i := 605) (by decide +kernel)
theorem st_L_swap : jStX mL_swap 4 := ⟨by decide +kernel, co_L_swap, ini_WireBookLaw, ⟨by decide +kernel, by decide +kernel⟩, by decide +kernel⟩
theorem sm_L_swap : Cond.static yL_swap ∈ lw_tbl := List.mem_of_getElem? (i := 604) (by decide +kernel)
theorem co_X6_swap : Cond.code yX6_swap cX6_swap 3 (some .int) ∈ lw_tbl := List.mem_of_getElem? (i := 609) (by decide +kernel)
theorem st_X6_swap : jSt mX6_swap 2 := ⟨by decide +kernel, rfl, co_X6_swap, ini_WireBook, ⟨by decide +kernel, by decide +kernel⟩, by decide +kernel⟩
theorem im_X6_swap : Cond.instanceMethod yX6_swap ∈ lw_tbl := List.mem_of_getElem? (i := 607) (by decide +kernel)
theorem se_X6_swap : Cond.selects RX6 yX6_swap yX6_swap ∈ lw_tbl := List.mem_of_getElem? (i := 608) (by decide +kernel)
theorem co_X1_swapped : Cond.code yX1_swapped cX1_swapped 4 (some .int) ∈ lw_tbl := List.mem_of_getElem? (i := 612) (by decide +kernel)
theorem st_X1_swapped : jSt mX1_swapped 2 := ⟨by decide +kernel, rfl, co_X1_swapped, ini_WireBook_Code, ⟨by decide +kernel, by decide +kernel⟩, by decide +kernel⟩
theorem sm_X1_swapped : Cond.static yX1_swapped ∈ lw_tbl := List.mem_of_getElem? (i := 611) (by decide +kernel)
theorem co_L_decode : Cond.codeWith yL_decode cL_decode 4 (some .int) [(0, 9, 12, 20)] ∈ lw_tbl := List.mem_of_getElem? (i := 616) (by decide +kernel)
theorem st_L_decode : jStX mL_decode 3 := ⟨by decide +kernel, co_L_decode, ini_WireBookLaw, ⟨by decide +kernel, by decide +kernel⟩, by decide +kernel⟩
theorem sm_L_decode : Cond.static yL_decode ∈ lw_tbl := List.mem_of_getElem? (i := 615) (by decide +kernel)
theorem co_X6_decode : Cond.code yX6_decode cX6_decode 5 (some .int) ∈ lw_tbl := List.mem_of_getElem? (i := 620) (by decide +kernel)
theorem st_X6_decode : jSt mX6_decode 1 := ⟨by decide +kernel, rfl, co_X6_decode, ini_WireBook, ⟨by decide +kernel, by decide +kernel⟩, by decide +kernel⟩
theorem im_X6_decode : Cond.instanceMethod yX6_decode ∈ lw_tbl := List.mem_of_getElem? (i := 618) (by decide +kernel)
theorem se_X6_decode : Cond.selects RX6 yX6_decode yX6_decode ∈ lw_tbl := List.mem_of_getElem? (i := 619) (by decide +kernel)
theorem co_X6_read : Cond.code yX6_read cX6_read 5 (some .int) ∈ lw_tbl := List.mem_of_getElem? (i := 624) (by decide +kernel)
theorem st_X6_read : jSt mX6_read 2 := ⟨by decide +kernel, rfl, co_X6_read, ini_WireBook, ⟨by decide +kernel, by decide +kernel⟩, by decide +kernel⟩
theorem im_X6_read : Cond.instanceMethod yX6_read ∈ lw_tbl := List.mem_of_getElem? (i := 623) (by decide +kernel)
theorem se_X6_read : Cond.selects RX6 yX6_read yX6_read ∈ lw_tbl := List.mem_of_getElem? (i := 7) (by decide +kernel)
theorem co_X0_onlyEntryLike : Cond.code yX0_onlyEntryLike cX0_onlyEntryLike 4 (some .int) ∈ lw_tbl := List.mem_of_getElem? (i := 629) (by decide +kernel)
theorem st_X0_onlyEntryLike : jSt mX0_onlyEntryLike 1 := ⟨by decide +kernel, rfl, co_X0_onlyEntryLike, ini_WireBook_Book, ⟨by decide +kernel, by decide +kernel⟩, by decide +kernel⟩
theorem im_X0_onlyEntryLike : Cond.instanceMethod yX0_onlyEntryLike ∈ lw_tbl := List.mem_of_getElem? (i := 627) (by decide +kernel)
theorem se_X0_onlyEntryLike : Cond.selects RX0 yX0_onlyEntryLike yX0_onlyEntryLike ∈ lw_tbl := List.mem_of_getElem? (i := 628) (by decide +kernel)
theorem co_L_how : Cond.codeWith yL_how cL_how 4 (some .int) [(0, 9, 12, 20)] ∈ lw_tbl := List.mem_of_getElem? (i := 632) (by decide +kernel)
theorem st_L_how : jStX mL_how 3 := ⟨by decide +kernel, co_L_how, ini_WireBookLaw, ⟨by decide +kernel, by decide +kernel⟩, by decide +kernel⟩
theorem sm_L_how : Cond.static yL_how ∈ lw_tbl := List.mem_of_getElem? (i := 631) (by decide +kernel)
theorem co_X6_how : Cond.code yX6_how cX6_how 2 (some .int) ∈ lw_tbl := List.mem_of_getElem? (i := 636) (by decide +kernel)
theorem st_X6_how : jSt mX6_how 1 := ⟨by decide +kernel, rfl, co_X6_how, ini_WireBook, ⟨by decide +kernel, by decide +kernel⟩, by decide +kernel⟩
theorem im_X6_how : Cond.instanceMethod yX6_how ∈ lw_tbl := List.mem_of_getElem? (i := 634) (by decide +kernel)
theorem se_X6_how : Cond.selects RX6 yX6_how yX6_how ∈ lw_tbl := List.mem_of_getElem? (i := 635) (by decide +kernel)
theorem co_L_share : Cond.codeWith yL_share cL_share 4 (some .int) [(0, 8, 11, 20)] ∈ lw_tbl := List.mem_of_getElem? (i := 640) (by decide +kernel)
theorem st_L_share : jStX mL_share 3 := ⟨by decide +kernel, co_L_share, ini_WireBookLaw, ⟨by decide +kernel, by decide +kernel⟩, by decide +kernel⟩
theorem sm_L_share : Cond.static yL_share ∈ lw_tbl := List.mem_of_getElem? (i := 639) (by decide +kernel)
theorem co_X6_share : Cond.code yX6_share cX6_share 6 (some .double) ∈ lw_tbl := List.mem_of_getElem? (i := 644) (by decide +kernel)
theorem st_X6_share : jSt mX6_share 1 := ⟨by decide +kernel, rfl, co_X6_share, ini_WireBook, ⟨by decide +kernel, by decide +kernel⟩, by decide +kernel⟩
theorem im_X6_share : Cond.instanceMethod yX6_share ∈ lw_tbl := List.mem_of_getElem? (i := 642) (by decide +kernel)
theorem se_X6_share : Cond.selects RX6 yX6_share yX6_share ∈ lw_tbl := List.mem_of_getElem? (i := 643) (by decide +kernel)
theorem co_L_propose : Cond.codeWith yL_propose cL_propose 4 (some .int) [(0, 9, 12, 20)] ∈ lw_tbl := List.mem_of_getElem? (i := 647) (by decide +kernel)
theorem st_L_propose : jStX mL_propose 3 := ⟨by decide +kernel, co_L_propose, ini_WireBookLaw, ⟨by decide +kernel, by decide +kernel⟩, by decide +kernel⟩
theorem sm_L_propose : Cond.static yL_propose ∈ lw_tbl := List.mem_of_getElem? (i := 646) (by decide +kernel)
theorem co_X6_propose : Cond.code yX6_propose cX6_propose 2 (some .int) ∈ lw_tbl := List.mem_of_getElem? (i := 651) (by decide +kernel)
theorem st_X6_propose : jSt mX6_propose 1 := ⟨by decide +kernel, rfl, co_X6_propose, ini_WireBook, ⟨by decide +kernel, by decide +kernel⟩, by decide +kernel⟩
theorem im_X6_propose : Cond.instanceMethod yX6_propose ∈ lw_tbl := List.mem_of_getElem? (i := 649) (by decide +kernel)
theorem se_X6_propose : Cond.selects RX6 yX6_propose yX6_propose ∈ lw_tbl := List.mem_of_getElem? (i := 650) (by decide +kernel)
theorem co_X3_proposeOn : Cond.code yX3_proposeOn cX3_proposeOn 11 (some .int) ∈ lw_tbl := List.mem_of_getElem? (i := 655) (by decide +kernel)
theorem st_X3_proposeOn : jSt mX3_proposeOn 3 := ⟨by decide +kernel, rfl, co_X3_proposeOn, ini_WireBook_Kept, ⟨by decide +kernel, by decide +kernel⟩, by decide +kernel⟩
theorem im_X3_proposeOn : Cond.instanceMethod yX3_proposeOn ∈ lw_tbl := List.mem_of_getElem? (i := 653) (by decide +kernel)
theorem se_X3_proposeOn : Cond.selects RX3 yX3_proposeOn yX3_proposeOn ∈ lw_tbl := List.mem_of_getElem? (i := 654) (by decide +kernel)
theorem co_X0_hasPhrase : Cond.code yX0_hasPhrase cX0_hasPhrase 5 (some .boolean) ∈ lw_tbl := List.mem_of_getElem? (i := 659) (by decide +kernel)
theorem st_X0_hasPhrase : jSt mX0_hasPhrase 3 := ⟨by decide +kernel, rfl, co_X0_hasPhrase, ini_WireBook_Book, ⟨by decide +kernel, by decide +kernel⟩, by decide +kernel⟩
theorem im_X0_hasPhrase : Cond.instanceMethod yX0_hasPhrase ∈ lw_tbl := List.mem_of_getElem? (i := 657) (by decide +kernel)
theorem se_X0_hasPhrase : Cond.selects RX0 yX0_hasPhrase yX0_hasPhrase ∈ lw_tbl := List.mem_of_getElem? (i := 658) (by decide +kernel)
theorem co_L_learn : Cond.codeWith yL_learn cL_learn 5 (some .int) [(0, 10, 13, 20), (0, 10, 17, 13)] ∈ lw_tbl := List.mem_of_getElem? (i := 665) (by decide +kernel)
theorem st_L_learn : jStX mL_learn 4 := ⟨by decide +kernel, co_L_learn, ini_WireBookLaw, ⟨by decide +kernel, by decide +kernel⟩, by decide +kernel⟩
theorem sm_L_learn : Cond.static yL_learn ∈ lw_tbl := List.mem_of_getElem? (i := 664) (by decide +kernel)
theorem co_X6_learn : Cond.code yX6_learn cX6_learn 5 (some .int) ∈ lw_tbl := List.mem_of_getElem? (i := 669) (by decide +kernel)
theorem st_X6_learn : jSt mX6_learn 2 := ⟨by decide +kernel, rfl, co_X6_learn, ini_WireBook, ⟨by decide +kernel, by decide +kernel⟩, by decide +kernel⟩
theorem im_X6_learn : Cond.instanceMethod yX6_learn ∈ lw_tbl := List.mem_of_getElem? (i := 667) (by decide +kernel)
theorem se_X6_learn : Cond.selects RX6 yX6_learn yX6_learn ∈ lw_tbl := List.mem_of_getElem? (i := 668) (by decide +kernel)
theorem co_X6_learnOne : Cond.code yX6_learnOne cX6_learnOne 3 (some .boolean) ∈ lw_tbl := List.mem_of_getElem? (i := 674) (by decide +kernel)
theorem st_X6_learnOne : jSt mX6_learnOne 1 := ⟨by decide +kernel, rfl, co_X6_learnOne, ini_WireBook, ⟨by decide +kernel, by decide +kernel⟩, by decide +kernel⟩
theorem im_X6_learnOne : Cond.instanceMethod yX6_learnOne ∈ lw_tbl := List.mem_of_getElem? (i := 673) (by decide +kernel)
theorem se_X6_learnOne : Cond.selects RX6 yX6_learnOne yX6_learnOne ∈ lw_tbl := List.mem_of_getElem? (i := 8) (by decide +kernel)
theorem co_X0_latestCode : Cond.code yX0_latestCode cX0_latestCode 1 (some .int) ∈ lw_tbl := List.mem_of_getElem? (i := 678) (by decide +kernel)
theorem st_X0_latestCode : jSt mX0_latestCode 0 := ⟨by decide +kernel, rfl, co_X0_latestCode, ini_WireBook_Book, ⟨by decide +kernel, by decide +kernel⟩, by decide +kernel⟩
theorem im_X0_latestCode : Cond.instanceMethod yX0_latestCode ∈ lw_tbl := List.mem_of_getElem? (i := 676) (by decide +kernel)
theorem se_X0_latestCode : Cond.selects RX0 yX0_latestCode yX0_latestCode ∈ lw_tbl := List.mem_of_getElem? (i := 677) (by decide +kernel)
theorem co_X7_init : Cond.code yX7_init cX7_init 1 none ∈ lw_tbl := List.mem_of_getElem? (i := 683) (by decide +kernel)
theorem st_X7_init : jSt mX7_init 0 := ⟨by decide +kernel, rfl, co_X7_init, ini_WireBookModel, ⟨by decide +kernel, by decide +kernel⟩, by decide +kernel⟩
theorem im_X7_init : Cond.instanceMethod yX7_init ∈ lw_tbl := List.mem_of_getElem? (i := 682) (by decide +kernel)
theorem co_X7_thrown : Cond.code yX7_thrown cX7_thrown 1 (some .int) ∈ lw_tbl := List.mem_of_getElem? (i := 746) (by decide +kernel)
theorem st_X7_thrown : jSt mX7_thrown 0 := ⟨by decide +kernel, rfl, co_X7_thrown, ini_WireBookModel, ⟨by decide +kernel, by decide +kernel⟩, by decide +kernel⟩
theorem im_X7_thrown : Cond.instanceMethod yX7_thrown ∈ lw_tbl := List.mem_of_getElem? (i := 744) (by decide +kernel)
theorem se_X7_thrown : Cond.selects RX7 yX7_thrown yX7_thrown ∈ lw_tbl := List.mem_of_getElem? (i := 745) (by decide +kernel)
theorem co_X7_say : Cond.code yX7_say cX7_say 2 (some .int) ∈ lw_tbl := List.mem_of_getElem? (i := 750) (by decide +kernel)
theorem st_X7_say : jSt mX7_say 1 := ⟨by decide +kernel, rfl, co_X7_say, ini_WireBookModel, ⟨by decide +kernel, by decide +kernel⟩, by decide +kernel⟩
theorem im_X7_say : Cond.instanceMethod yX7_say ∈ lw_tbl := List.mem_of_getElem? (i := 748) (by decide +kernel)
theorem se_X7_say : Cond.selects RX7 yX7_say yX7_say ∈ lw_tbl := List.mem_of_getElem? (i := 749) (by decide +kernel)
theorem co_X7_isIn : Cond.code yX7_isIn cX7_isIn 3 (some .boolean) ∈ lw_tbl := List.mem_of_getElem? (i := 753) (by decide +kernel)
theorem st_X7_isIn : jSt mX7_isIn 3 := ⟨by decide +kernel, rfl, co_X7_isIn, ini_WireBookModel, ⟨by decide +kernel, by decide +kernel⟩, by decide +kernel⟩
theorem sm_X7_isIn : Cond.static yX7_isIn ∈ lw_tbl := List.mem_of_getElem? (i := 752) (by decide +kernel)
theorem co_X7_no : Cond.code yX7_no cX7_no 2 (some .int) ∈ lw_tbl := List.mem_of_getElem? (i := 757) (by decide +kernel)
theorem st_X7_no : jSt mX7_no 1 := ⟨by decide +kernel, rfl, co_X7_no, ini_WireBookModel, ⟨by decide +kernel, by decide +kernel⟩, by decide +kernel⟩
theorem im_X7_no : Cond.instanceMethod yX7_no ∈ lw_tbl := List.mem_of_getElem? (i := 756) (by decide +kernel)
theorem se_X7_no : Cond.selects RX7 yX7_no yX7_no ∈ lw_tbl := List.mem_of_getElem? (i := 9) (by decide +kernel)
theorem co_X7_empty : Cond.code yX7_empty cX7_empty 2 (some .int) ∈ lw_tbl := List.mem_of_getElem? (i := 761) (by decide +kernel)
theorem st_X7_empty : jSt mX7_empty 0 := ⟨by decide +kernel, rfl, co_X7_empty, ini_WireBookModel, ⟨by decide +kernel, by decide +kernel⟩, by decide +kernel⟩
theorem im_X7_empty : Cond.instanceMethod yX7_empty ∈ lw_tbl := List.mem_of_getElem? (i := 759) (by decide +kernel)
theorem se_X7_empty : Cond.selects RX7 yX7_empty yX7_empty ∈ lw_tbl := List.mem_of_getElem? (i := 760) (by decide +kernel)
theorem co_X7_words : Cond.code yX7_words cX7_words 1 (some .int) ∈ lw_tbl := List.mem_of_getElem? (i := 765) (by decide +kernel)
theorem st_X7_words : jSt mX7_words 0 := ⟨by decide +kernel, rfl, co_X7_words, ini_WireBookModel, ⟨by decide +kernel, by decide +kernel⟩, by decide +kernel⟩
theorem im_X7_words : Cond.instanceMethod yX7_words ∈ lw_tbl := List.mem_of_getElem? (i := 763) (by decide +kernel)
theorem se_X7_words : Cond.selects RX7 yX7_words yX7_words ∈ lw_tbl := List.mem_of_getElem? (i := 764) (by decide +kernel)
theorem co_X7_wordAt : Cond.code yX7_wordAt cX7_wordAt 2 (some .int) ∈ lw_tbl := List.mem_of_getElem? (i := 769) (by decide +kernel)
theorem st_X7_wordAt : jSt mX7_wordAt 1 := ⟨by decide +kernel, rfl, co_X7_wordAt, ini_WireBookModel, ⟨by decide +kernel, by decide +kernel⟩, by decide +kernel⟩
theorem im_X7_wordAt : Cond.instanceMethod yX7_wordAt ∈ lw_tbl := List.mem_of_getElem? (i := 767) (by decide +kernel)
theorem se_X7_wordAt : Cond.selects RX7 yX7_wordAt yX7_wordAt ∈ lw_tbl := List.mem_of_getElem? (i := 768) (by decide +kernel)
theorem co_X7_keep : Cond.code yX7_keep cX7_keep 1 (some .int) ∈ lw_tbl := List.mem_of_getElem? (i := 773) (by decide +kernel)
theorem st_X7_keep : jSt mX7_keep 0 := ⟨by decide +kernel, rfl, co_X7_keep, ini_WireBookModel, ⟨by decide +kernel, by decide +kernel⟩, by decide +kernel⟩
theorem im_X7_keep : Cond.instanceMethod yX7_keep ∈ lw_tbl := List.mem_of_getElem? (i := 771) (by decide +kernel)
theorem se_X7_keep : Cond.selects RX7 yX7_keep yX7_keep ∈ lw_tbl := List.mem_of_getElem? (i := 772) (by decide +kernel)
theorem co_X7_recall : Cond.code yX7_recall cX7_recall 2 (some .int) ∈ lw_tbl := List.mem_of_getElem? (i := 778) (by decide +kernel)
theorem st_X7_recall : jSt mX7_recall 1 := ⟨by decide +kernel, rfl, co_X7_recall, ini_WireBookModel, ⟨by decide +kernel, by decide +kernel⟩, by decide +kernel⟩
theorem im_X7_recall : Cond.instanceMethod yX7_recall ∈ lw_tbl := List.mem_of_getElem? (i := 776) (by decide +kernel)
theorem se_X7_recall : Cond.selects RX7 yX7_recall yX7_recall ∈ lw_tbl := List.mem_of_getElem? (i := 777) (by decide +kernel)
theorem co_X7_letter : Cond.code yX7_letter cX7_letter 3 (some .int) ∈ lw_tbl := List.mem_of_getElem? (i := 782) (by decide +kernel)
theorem st_X7_letter : jSt mX7_letter 2 := ⟨by decide +kernel, rfl, co_X7_letter, ini_WireBookModel, ⟨by decide +kernel, by decide +kernel⟩, by decide +kernel⟩
theorem im_X7_letter : Cond.instanceMethod yX7_letter ∈ lw_tbl := List.mem_of_getElem? (i := 780) (by decide +kernel)
theorem se_X7_letter : Cond.selects RX7 yX7_letter yX7_letter ∈ lw_tbl := List.mem_of_getElem? (i := 781) (by decide +kernel)
theorem co_X7_isCode : Cond.code yX7_isCode cX7_isCode 1 (some .boolean) ∈ lw_tbl := List.mem_of_getElem? (i := 785) (by decide +kernel)
theorem st_X7_isCode : jSt mX7_isCode 1 := ⟨by decide +kernel, rfl, co_X7_isCode, ini_WireBookModel, ⟨by decide +kernel, by decide +kernel⟩, by decide +kernel⟩
theorem sm_X7_isCode : Cond.static yX7_isCode ∈ lw_tbl := List.mem_of_getElem? (i := 784) (by decide +kernel)
theorem co_X7_letterOf : Cond.code yX7_letterOf cX7_letterOf 2 (some .int) ∈ lw_tbl := List.mem_of_getElem? (i := 789) (by decide +kernel)
theorem st_X7_letterOf : jSt mX7_letterOf 2 := ⟨by decide +kernel, rfl, co_X7_letterOf, ini_WireBookModel, ⟨by decide +kernel, by decide +kernel⟩, by decide +kernel⟩
theorem sm_X7_letterOf : Cond.static yX7_letterOf ∈ lw_tbl := List.mem_of_getElem? (i := 788) (by decide +kernel)
theorem co_X7_power : Cond.code yX7_power cX7_power 3 (some .int) ∈ lw_tbl := List.mem_of_getElem? (i := 792) (by decide +kernel)
theorem st_X7_power : jSt mX7_power 1 := ⟨by decide +kernel, rfl, co_X7_power, ini_WireBookModel, ⟨by decide +kernel, by decide +kernel⟩, by decide +kernel⟩
theorem sm_X7_power : Cond.static yX7_power ∈ lw_tbl := List.mem_of_getElem? (i := 791) (by decide +kernel)
theorem co_X7_reason : Cond.code yX7_reason cX7_reason 3 (some .int) ∈ lw_tbl := List.mem_of_getElem? (i := 796) (by decide +kernel)
theorem st_X7_reason : jSt mX7_reason 2 := ⟨by decide +kernel, rfl, co_X7_reason, ini_WireBookModel, ⟨by decide +kernel, by decide +kernel⟩, by decide +kernel⟩
theorem im_X7_reason : Cond.instanceMethod yX7_reason ∈ lw_tbl := List.mem_of_getElem? (i := 794) (by decide +kernel)
theorem se_X7_reason : Cond.selects RX7 yX7_reason yX7_reason ∈ lw_tbl := List.mem_of_getElem? (i := 795) (by decide +kernel)
theorem co_X7_isBook : Cond.code yX7_isBook cX7_isBook 1 (some .boolean) ∈ lw_tbl := List.mem_of_getElem? (i := 799) (by decide +kernel)
theorem st_X7_isBook : jSt mX7_isBook 1 := ⟨by decide +kernel, rfl, co_X7_isBook, ini_WireBookModel, ⟨by decide +kernel, by decide +kernel⟩, by decide +kernel⟩
theorem sm_X7_isBook : Cond.static yX7_isBook ∈ lw_tbl := List.mem_of_getElem? (i := 798) (by decide +kernel)
theorem co_X7_reasonFor : Cond.code yX7_reasonFor cX7_reasonFor 7 (some .int) ∈ lw_tbl := List.mem_of_getElem? (i := 803) (by decide +kernel)
theorem st_X7_reasonFor : jSt mX7_reasonFor 2 := ⟨by decide +kernel, rfl, co_X7_reasonFor, ini_WireBookModel, ⟨by decide +kernel, by decide +kernel⟩, by decide +kernel⟩
theorem im_X7_reasonFor : Cond.instanceMethod yX7_reasonFor ∈ lw_tbl := List.mem_of_getElem? (i := 802) (by decide +kernel)
theorem se_X7_reasonFor : Cond.selects RX7 yX7_reasonFor yX7_reasonFor ∈ lw_tbl := List.mem_of_getElem? (i := 10) (by decide +kernel)
theorem co_X7_isOneOff : Cond.code yX7_isOneOff cX7_isOneOff 4 (some .boolean) ∈ lw_tbl := List.mem_of_getElem? (i := 806) (by decide +kernel)
theorem st_X7_isOneOff : jSt mX7_isOneOff 2 := ⟨by decide +kernel, rfl, co_X7_isOneOff, ini_WireBookModel, ⟨by decide +kernel, by decide +kernel⟩, by decide +kernel⟩
theorem sm_X7_isOneOff : Cond.static yX7_isOneOff ∈ lw_tbl := List.mem_of_getElem? (i := 805) (by decide +kernel)
theorem co_X7_isSwapped : Cond.code yX7_isSwapped cX7_isSwapped 4 (some .boolean) ∈ lw_tbl := List.mem_of_getElem? (i := 809) (by decide +kernel)
theorem st_X7_isSwapped : jSt mX7_isSwapped 2 := ⟨by decide +kernel, rfl, co_X7_isSwapped, ini_WireBookModel, ⟨by decide +kernel, by decide +kernel⟩, by decide +kernel⟩
theorem sm_X7_isSwapped : Cond.static yX7_isSwapped ∈ lw_tbl := List.mem_of_getElem? (i := 808) (by decide +kernel)
theorem co_X7_swapped : Cond.code yX7_swapped cX7_swapped 3 (some .int) ∈ lw_tbl := List.mem_of_getElem? (i := 812) (by decide +kernel)
theorem st_X7_swapped : jSt mX7_swapped 2 := ⟨by decide +kernel, rfl, co_X7_swapped, ini_WireBookModel, ⟨by decide +kernel, by decide +kernel⟩, by decide +kernel⟩
theorem sm_X7_swapped : Cond.static yX7_swapped ∈ lw_tbl := List.mem_of_getElem? (i := 811) (by decide +kernel)
theorem co_X7_firstFit : Cond.code yX7_firstFit cX7_firstFit 3 (some .int) ∈ lw_tbl := List.mem_of_getElem? (i := 816) (by decide +kernel)
theorem st_X7_firstFit : jSt mX7_firstFit 2 := ⟨by decide +kernel, rfl, co_X7_firstFit, ini_WireBookModel, ⟨by decide +kernel, by decide +kernel⟩, by decide +kernel⟩
theorem im_X7_firstFit : Cond.instanceMethod yX7_firstFit ∈ lw_tbl := List.mem_of_getElem? (i := 814) (by decide +kernel)
theorem se_X7_firstFit : Cond.selects RX7 yX7_firstFit yX7_firstFit ∈ lw_tbl := List.mem_of_getElem? (i := 815) (by decide +kernel)
theorem co_X7_fitFrom : Cond.code yX7_fitFrom cX7_fitFrom 4 (some .int) ∈ lw_tbl := List.mem_of_getElem? (i := 820) (by decide +kernel)
theorem st_X7_fitFrom : jSt mX7_fitFrom 2 := ⟨by decide +kernel, rfl, co_X7_fitFrom, ini_WireBookModel, ⟨by decide +kernel, by decide +kernel⟩, by decide +kernel⟩
theorem im_X7_fitFrom : Cond.instanceMethod yX7_fitFrom ∈ lw_tbl := List.mem_of_getElem? (i := 819) (by decide +kernel)
theorem se_X7_fitFrom : Cond.selects RX7 yX7_fitFrom yX7_fitFrom ∈ lw_tbl := List.mem_of_getElem? (i := 11) (by decide +kernel)
theorem co_X7_define : Cond.code yX7_define cX7_define 3 (some .int) ∈ lw_tbl := List.mem_of_getElem? (i := 824) (by decide +kernel)
theorem st_X7_define : jSt mX7_define 2 := ⟨by decide +kernel, rfl, co_X7_define, ini_WireBookModel, ⟨by decide +kernel, by decide +kernel⟩, by decide +kernel⟩
theorem im_X7_define : Cond.instanceMethod yX7_define ∈ lw_tbl := List.mem_of_getElem? (i := 822) (by decide +kernel)
theorem se_X7_define : Cond.selects RX7 yX7_define yX7_define ∈ lw_tbl := List.mem_of_getElem? (i := 823) (by decide +kernel)
theorem co_X7_add : Cond.code yX7_add cX7_add 7 none ∈ lw_tbl := List.mem_of_getElem? (i := 828) (by decide +kernel)
theorem st_X7_add : jSt mX7_add 5 := ⟨by decide +kernel, rfl, co_X7_add, ini_WireBookModel, ⟨by decide +kernel, by decide +kernel⟩, by decide +kernel⟩
theorem im_X7_add : Cond.instanceMethod yX7_add ∈ lw_tbl := List.mem_of_getElem? (i := 827) (by decide +kernel)
theorem se_X7_add : Cond.selects RX7 yX7_add yX7_add ∈ lw_tbl := List.mem_of_getElem? (i := 12) (by decide +kernel)
theorem co_X7_drop : Cond.code yX7_drop cX7_drop 5 (some .int) ∈ lw_tbl := List.mem_of_getElem? (i := 832) (by decide +kernel)
theorem st_X7_drop : jSt mX7_drop 2 := ⟨by decide +kernel, rfl, co_X7_drop, ini_WireBookModel, ⟨by decide +kernel, by decide +kernel⟩, by decide +kernel⟩
theorem im_X7_drop : Cond.instanceMethod yX7_drop ∈ lw_tbl := List.mem_of_getElem? (i := 830) (by decide +kernel)
theorem se_X7_drop : Cond.selects RX7 yX7_drop yX7_drop ∈ lw_tbl := List.mem_of_getElem? (i := 831) (by decide +kernel)
theorem co_X7_isEntry : Cond.code yX7_isEntry cX7_isEntry 3 (some .boolean) ∈ lw_tbl := List.mem_of_getElem? (i := 836) (by decide +kernel)
theorem st_X7_isEntry : jSt mX7_isEntry 2 := ⟨by decide +kernel, rfl, co_X7_isEntry, ini_WireBookModel, ⟨by decide +kernel, by decide +kernel⟩, by decide +kernel⟩
theorem im_X7_isEntry : Cond.instanceMethod yX7_isEntry ∈ lw_tbl := List.mem_of_getElem? (i := 835) (by decide +kernel)
theorem se_X7_isEntry : Cond.selects RX7 yX7_isEntry yX7_isEntry ∈ lw_tbl := List.mem_of_getElem? (i := 13) (by decide +kernel)
theorem co_X7_entries : Cond.code yX7_entries cX7_entries 2 (some .int) ∈ lw_tbl := List.mem_of_getElem? (i := 840) (by decide +kernel)
theorem st_X7_entries : jSt mX7_entries 1 := ⟨by decide +kernel, rfl, co_X7_entries, ini_WireBookModel, ⟨by decide +kernel, by decide +kernel⟩, by decide +kernel⟩
theorem im_X7_entries : Cond.instanceMethod yX7_entries ∈ lw_tbl := List.mem_of_getElem? (i := 838) (by decide +kernel)
theorem se_X7_entries : Cond.selects RX7 yX7_entries yX7_entries ∈ lw_tbl := List.mem_of_getElem? (i := 839) (by decide +kernel)
theorem co_X7_entry : Cond.code yX7_entry cX7_entry 5 (some .int) ∈ lw_tbl := List.mem_of_getElem? (i := 844) (by decide +kernel)
theorem st_X7_entry : jSt mX7_entry 3 := ⟨by decide +kernel, rfl, co_X7_entry, ini_WireBookModel, ⟨by decide +kernel, by decide +kernel⟩, by decide +kernel⟩
theorem im_X7_entry : Cond.instanceMethod yX7_entry ∈ lw_tbl := List.mem_of_getElem? (i := 842) (by decide +kernel)
theorem se_X7_entry : Cond.selects RX7 yX7_entry yX7_entry ∈ lw_tbl := List.mem_of_getElem? (i := 843) (by decide +kernel)
theorem co_X7_find : Cond.code yX7_find cX7_find 3 (some .int) ∈ lw_tbl := List.mem_of_getElem? (i := 848) (by decide +kernel)
theorem st_X7_find : jSt mX7_find 2 := ⟨by decide +kernel, rfl, co_X7_find, ini_WireBookModel, ⟨by decide +kernel, by decide +kernel⟩, by decide +kernel⟩
theorem im_X7_find : Cond.instanceMethod yX7_find ∈ lw_tbl := List.mem_of_getElem? (i := 846) (by decide +kernel)
theorem se_X7_find : Cond.selects RX7 yX7_find yX7_find ∈ lw_tbl := List.mem_of_getElem? (i := 847) (by decide +kernel)
theorem co_X7_entryOf : Cond.code yX7_entryOf cX7_entryOf 5 (some .int) ∈ lw_tbl := List.mem_of_getElem? (i := 852) (by decide +kernel)
theorem st_X7_entryOf : jSt mX7_entryOf 2 := ⟨by decide +kernel, rfl, co_X7_entryOf, ini_WireBookModel, ⟨by decide +kernel, by decide +kernel⟩, by decide +kernel⟩
theorem im_X7_entryOf : Cond.instanceMethod yX7_entryOf ∈ lw_tbl := List.mem_of_getElem? (i := 851) (by decide +kernel)
theorem se_X7_entryOf : Cond.selects RX7 yX7_entryOf yX7_entryOf ∈ lw_tbl := List.mem_of_getElem? (i := 14) (by decide +kernel)
theorem co_X7_setPrice : Cond.code yX7_setPrice cX7_setPrice 3 (some .int) ∈ lw_tbl := List.mem_of_getElem? (i := 856) (by decide +kernel)
theorem st_X7_setPrice : jSt mX7_setPrice 1 := ⟨by decide +kernel, rfl, co_X7_setPrice, ini_WireBookModel, ⟨by decide +kernel, by decide +kernel⟩, by decide +kernel⟩
theorem im_X7_setPrice : Cond.instanceMethod yX7_setPrice ∈ lw_tbl := List.mem_of_getElem? (i := 854) (by decide +kernel)
theorem se_X7_setPrice : Cond.selects RX7 yX7_setPrice yX7_setPrice ∈ lw_tbl := List.mem_of_getElem? (i := 855) (by decide +kernel)
theorem co_X7_encode : Cond.code yX7_encode cX7_encode 5 (some .int) ∈ lw_tbl := List.mem_of_getElem? (i := 860) (by decide +kernel)
theorem st_X7_encode : jSt mX7_encode 1 := ⟨by decide +kernel, rfl, co_X7_encode, ini_WireBookModel, ⟨by decide +kernel, by decide +kernel⟩, by decide +kernel⟩
theorem im_X7_encode : Cond.instanceMethod yX7_encode ∈ lw_tbl := List.mem_of_getElem? (i := 858) (by decide +kernel)
theorem se_X7_encode : Cond.selects RX7 yX7_encode yX7_encode ∈ lw_tbl := List.mem_of_getElem? (i := 859) (by decide +kernel)
theorem co_X7_divide : Cond.code yX7_divide cX7_divide 8 (some .int) ∈ lw_tbl := List.mem_of_getElem? (i := 864) (by decide +kernel)
theorem st_X7_divide : jSt mX7_divide 4 := ⟨by decide +kernel, rfl, co_X7_divide, ini_WireBookModel, ⟨by decide +kernel, by decide +kernel⟩, by decide +kernel⟩
theorem im_X7_divide : Cond.instanceMethod yX7_divide ∈ lw_tbl := List.mem_of_getElem? (i := 863) (by decide +kernel)
theorem se_X7_divide : Cond.selects RX7 yX7_divide yX7_divide ∈ lw_tbl := List.mem_of_getElem? (i := 15) (by decide +kernel)
theorem co_X7_stands : Cond.code yX7_stands cX7_stands 7 (some .boolean) ∈ lw_tbl := List.mem_of_getElem? (i := 868) (by decide +kernel)
theorem st_X7_stands : jSt mX7_stands 4 := ⟨by decide +kernel, rfl, co_X7_stands, ini_WireBookModel, ⟨by decide +kernel, by decide +kernel⟩, by decide +kernel⟩
theorem im_X7_stands : Cond.instanceMethod yX7_stands ∈ lw_tbl := List.mem_of_getElem? (i := 867) (by decide +kernel)
theorem se_X7_stands : Cond.selects RX7 yX7_stands yX7_stands ∈ lw_tbl := List.mem_of_getElem? (i := 16) (by decide +kernel)
theorem co_J9_min_7cf53 : Cond.code yJ9_min_7cf53 cJ9_min_7cf53 2 (some .int) ∈ lw_tbl := List.mem_of_getElem? (i := 871) (by decide +kernel)
theorem sm_J9_min_7cf53 : Cond.static yJ9_min_7cf53 ∈ lw_tbl := List.mem_of_getElem? (i := 870) (by decide +kernel)
theorem co_X7_groups : Cond.code yX7_groups cX7_groups 1 (some .int) ∈ lw_tbl := List.mem_of_getElem? (i := 875) (by decide +kernel)
theorem st_X7_groups : jSt mX7_groups 0 := ⟨by decide +kernel, rfl, co_X7_groups, ini_WireBookModel, ⟨by decide +kernel, by decide +kernel⟩, by decide +kernel⟩
theorem im_X7_groups : Cond.instanceMethod yX7_groups ∈ lw_tbl := List.mem_of_getElem? (i := 873) (by decide +kernel)
theorem se_X7_groups : Cond.selects RX7 yX7_groups yX7_groups ∈ lw_tbl := List.mem_of_getElem? (i := 874) (by decide +kernel)
theorem co_X7_group : Cond.code yX7_group cX7_group 2 (some .int) ∈ lw_tbl := List.mem_of_getElem? (i := 879) (by decide +kernel)
theorem st_X7_group : jSt mX7_group 1 := ⟨by decide +kernel, rfl, co_X7_group, ini_WireBookModel, ⟨by decide +kernel, by decide +kernel⟩, by decide +kernel⟩
theorem im_X7_group : Cond.instanceMethod yX7_group ∈ lw_tbl := List.mem_of_getElem? (i := 877) (by decide +kernel)
theorem se_X7_group : Cond.selects RX7 yX7_group yX7_group ∈ lw_tbl := List.mem_of_getElem? (i := 878) (by decide +kernel)
theorem co_X7_isGroup : Cond.code yX7_isGroup cX7_isGroup 2 (some .boolean) ∈ lw_tbl := List.mem_of_getElem? (i := 883) (by decide +kernel)
theorem st_X7_isGroup : jSt mX7_isGroup 1 := ⟨by decide +kernel, rfl, co_X7_isGroup, ini_WireBookModel, ⟨by decide +kernel, by decide +kernel⟩, by decide +kernel⟩
theorem im_X7_isGroup : Cond.instanceMethod yX7_isGroup ∈ lw_tbl := List.mem_of_getElem? (i := 882) (by decide +kernel)
theorem se_X7_isGroup : Cond.selects RX7 yX7_isGroup yX7_isGroup ∈ lw_tbl := List.mem_of_getElem? (i := 17) (by decide +kernel)
theorem co_X7_garble : Cond.code yX7_garble cX7_garble 5 (some .int) ∈ lw_tbl := List.mem_of_getElem? (i := 887) (by decide +kernel)
theorem st_X7_garble : jSt mX7_garble 3 := ⟨by decide +kernel, rfl, co_X7_garble, ini_WireBookModel, ⟨by decide +kernel, by decide +kernel⟩, by decide +kernel⟩
theorem im_X7_garble : Cond.instanceMethod yX7_garble ∈ lw_tbl := List.mem_of_getElem? (i := 885) (by decide +kernel)
theorem se_X7_garble : Cond.selects RX7 yX7_garble yX7_garble ∈ lw_tbl := List.mem_of_getElem? (i := 886) (by decide +kernel)
theorem co_X7_swap : Cond.code yX7_swap cX7_swap 3 (some .int) ∈ lw_tbl := List.mem_of_getElem? (i := 891) (by decide +kernel)
theorem st_X7_swap : jSt mX7_swap 2 := ⟨by decide +kernel, rfl, co_X7_swap, ini_WireBookModel, ⟨by decide +kernel, by decide +kernel⟩, by decide +kernel⟩
theorem im_X7_swap : Cond.instanceMethod yX7_swap ∈ lw_tbl := List.mem_of_getElem? (i := 889) (by decide +kernel)
theorem se_X7_swap : Cond.selects RX7 yX7_swap yX7_swap ∈ lw_tbl := List.mem_of_getElem? (i := 890) (by decide +kernel)
theorem co_X7_decode : Cond.code yX7_decode cX7_decode 8 (some .int) ∈ lw_tbl := List.mem_of_getElem? (i := 895) (by decide +kernel)
theorem st_X7_decode : jSt mX7_decode 1 := ⟨by decide +kernel, rfl, co_X7_decode, ini_WireBookModel, ⟨by decide +kernel, by decide +kernel⟩, by decide +kernel⟩
theorem im_X7_decode : Cond.instanceMethod yX7_decode ∈ lw_tbl := List.mem_of_getElem? (i := 893) (by decide +kernel)
theorem se_X7_decode : Cond.selects RX7 yX7_decode yX7_decode ∈ lw_tbl := List.mem_of_getElem? (i := 894) (by decide +kernel)
theorem co_X7_write : Cond.code yX7_write cX7_write 2 none ∈ lw_tbl := List.mem_of_getElem? (i := 899) (by decide +kernel)
theorem st_X7_write : jSt mX7_write 1 := ⟨by decide +kernel, rfl, co_X7_write, ini_WireBookModel, ⟨by decide +kernel, by decide +kernel⟩, by decide +kernel⟩
theorem im_X7_write : Cond.instanceMethod yX7_write ∈ lw_tbl := List.mem_of_getElem? (i := 898) (by decide +kernel)
theorem se_X7_write : Cond.selects RX7 yX7_write yX7_write ∈ lw_tbl := List.mem_of_getElem? (i := 18) (by decide +kernel)
theorem co_X7_meant : Cond.code yX7_meant cX7_meant 7 (some .int) ∈ lw_tbl := List.mem_of_getElem? (i := 903) (by decide +kernel)
theorem st_X7_meant : jSt mX7_meant 2 := ⟨by decide +kernel, rfl, co_X7_meant, ini_WireBookModel, ⟨by decide +kernel, by decide +kernel⟩, by decide +kernel⟩
theorem im_X7_meant : Cond.instanceMethod yX7_meant ∈ lw_tbl := List.mem_of_getElem? (i := 902) (by decide +kernel)
theorem se_X7_meant : Cond.selects RX7 yX7_meant yX7_meant ∈ lw_tbl := List.mem_of_getElem? (i := 19) (by decide +kernel)
theorem co_X7_how : Cond.code yX7_how cX7_how 2 (some .int) ∈ lw_tbl := List.mem_of_getElem? (i := 907) (by decide +kernel)
theorem st_X7_how : jSt mX7_how 1 := ⟨by decide +kernel, rfl, co_X7_how, ini_WireBookModel, ⟨by decide +kernel, by decide +kernel⟩, by decide +kernel⟩
theorem im_X7_how : Cond.instanceMethod yX7_how ∈ lw_tbl := List.mem_of_getElem? (i := 905) (by decide +kernel)
theorem se_X7_how : Cond.selects RX7 yX7_how yX7_how ∈ lw_tbl := List.mem_of_getElem? (i := 906) (by decide +kernel)
theorem co_X7_cost : Cond.code yX7_cost cX7_cost 3 (some .int) ∈ lw_tbl := List.mem_of_getElem? (i := 911) (by decide +kernel)
theorem st_X7_cost : jSt mX7_cost 0 := ⟨by decide +kernel, rfl, co_X7_cost, ini_WireBookModel, ⟨by decide +kernel, by decide +kernel⟩, by decide +kernel⟩
theorem im_X7_cost : Cond.instanceMethod yX7_cost ∈ lw_tbl := List.mem_of_getElem? (i := 909) (by decide +kernel)
theorem se_X7_cost : Cond.selects RX7 yX7_cost yX7_cost ∈ lw_tbl := List.mem_of_getElem? (i := 910) (by decide +kernel)
theorem co_X7_time : Cond.code yX7_time cX7_time 3 (some .int) ∈ lw_tbl := List.mem_of_getElem? (i := 915) (by decide +kernel)
theorem st_X7_time : jSt mX7_time 0 := ⟨by decide +kernel, rfl, co_X7_time, ini_WireBookModel, ⟨by decide +kernel, by decide +kernel⟩, by decide +kernel⟩
theorem im_X7_time : Cond.instanceMethod yX7_time ∈ lw_tbl := List.mem_of_getElem? (i := 913) (by decide +kernel)
theorem se_X7_time : Cond.selects RX7 yX7_time yX7_time ∈ lw_tbl := List.mem_of_getElem? (i := 914) (by decide +kernel)
theorem co_X7_unitsOf : Cond.code yX7_unitsOf cX7_unitsOf 4 (some .int) ∈ lw_tbl := List.mem_of_getElem? (i := 918) (by decide +kernel)
theorem st_X7_unitsOf : jSt mX7_unitsOf 1 := ⟨by decide +kernel, rfl, co_X7_unitsOf, ini_WireBookModel, ⟨by decide +kernel, by decide +kernel⟩, by decide +kernel⟩
theorem sm_X7_unitsOf : Cond.static yX7_unitsOf ∈ lw_tbl := List.mem_of_getElem? (i := 917) (by decide +kernel)
theorem co_X7_share : Cond.code yX7_share cX7_share 5 (some .double) ∈ lw_tbl := List.mem_of_getElem? (i := 926) (by decide +kernel)
theorem st_X7_share : jSt mX7_share 1 := ⟨by decide +kernel, rfl, co_X7_share, ini_WireBookModel, ⟨by decide +kernel, by decide +kernel⟩, by decide +kernel⟩
theorem im_X7_share : Cond.instanceMethod yX7_share ∈ lw_tbl := List.mem_of_getElem? (i := 924) (by decide +kernel)
theorem se_X7_share : Cond.selects RX7 yX7_share yX7_share ∈ lw_tbl := List.mem_of_getElem? (i := 925) (by decide +kernel)
theorem co_X7_propose : Cond.code yX7_propose cX7_propose 3 (some .int) ∈ lw_tbl := List.mem_of_getElem? (i := 930) (by decide +kernel)
theorem st_X7_propose : jSt mX7_propose 1 := ⟨by decide +kernel, rfl, co_X7_propose, ini_WireBookModel, ⟨by decide +kernel, by decide +kernel⟩, by decide +kernel⟩
theorem im_X7_propose : Cond.instanceMethod yX7_propose ∈ lw_tbl := List.mem_of_getElem? (i := 928) (by decide +kernel)
theorem se_X7_propose : Cond.selects RX7 yX7_propose yX7_propose ∈ lw_tbl := List.mem_of_getElem? (i := 929) (by decide +kernel)
theorem co_X7_proposal : Cond.code yX7_proposal cX7_proposal 9 (some .int) ∈ lw_tbl := List.mem_of_getElem? (i := 934) (by decide +kernel)
theorem st_X7_proposal : jSt mX7_proposal 1 := ⟨by decide +kernel, rfl, co_X7_proposal, ini_WireBookModel, ⟨by decide +kernel, by decide +kernel⟩, by decide +kernel⟩
theorem im_X7_proposal : Cond.instanceMethod yX7_proposal ∈ lw_tbl := List.mem_of_getElem? (i := 933) (by decide +kernel)
theorem se_X7_proposal : Cond.selects RX7 yX7_proposal yX7_proposal ∈ lw_tbl := List.mem_of_getElem? (i := 20) (by decide +kernel)
theorem co_X7_timesOf : Cond.code yX7_timesOf cX7_timesOf 7 (some .int) ∈ lw_tbl := List.mem_of_getElem? (i := 938) (by decide +kernel)
theorem st_X7_timesOf : jSt mX7_timesOf 2 := ⟨by decide +kernel, rfl, co_X7_timesOf, ini_WireBookModel, ⟨by decide +kernel, by decide +kernel⟩, by decide +kernel⟩
theorem im_X7_timesOf : Cond.instanceMethod yX7_timesOf ∈ lw_tbl := List.mem_of_getElem? (i := 937) (by decide +kernel)
theorem se_X7_timesOf : Cond.selects RX7 yX7_timesOf yX7_timesOf ∈ lw_tbl := List.mem_of_getElem? (i := 21) (by decide +kernel)
theorem co_X7_isSame : Cond.code yX7_isSame cX7_isSame 6 (some .boolean) ∈ lw_tbl := List.mem_of_getElem? (i := 942) (by decide +kernel)
theorem st_X7_isSame : jSt mX7_isSame 3 := ⟨by decide +kernel, rfl, co_X7_isSame, ini_WireBookModel, ⟨by decide +kernel, by decide +kernel⟩, by decide +kernel⟩
theorem im_X7_isSame : Cond.instanceMethod yX7_isSame ∈ lw_tbl := List.mem_of_getElem? (i := 941) (by decide +kernel)
theorem se_X7_isSame : Cond.selects RX7 yX7_isSame yX7_isSame ∈ lw_tbl := List.mem_of_getElem? (i := 22) (by decide +kernel)
theorem co_X7_isInBook : Cond.code yX7_isInBook cX7_isInBook 6 (some .boolean) ∈ lw_tbl := List.mem_of_getElem? (i := 946) (by decide +kernel)
theorem st_X7_isInBook : jSt mX7_isInBook 3 := ⟨by decide +kernel, rfl, co_X7_isInBook, ini_WireBookModel, ⟨by decide +kernel, by decide +kernel⟩, by decide +kernel⟩
theorem im_X7_isInBook : Cond.instanceMethod yX7_isInBook ∈ lw_tbl := List.mem_of_getElem? (i := 945) (by decide +kernel)
theorem se_X7_isInBook : Cond.selects RX7 yX7_isInBook yX7_isInBook ∈ lw_tbl := List.mem_of_getElem? (i := 23) (by decide +kernel)
theorem co_X7_learn : Cond.code yX7_learn cX7_learn 5 (some .int) ∈ lw_tbl := List.mem_of_getElem? (i := 950) (by decide +kernel)
theorem st_X7_learn : jSt mX7_learn 2 := ⟨by decide +kernel, rfl, co_X7_learn, ini_WireBookModel, ⟨by decide +kernel, by decide +kernel⟩, by decide +kernel⟩
theorem im_X7_learn : Cond.instanceMethod yX7_learn ∈ lw_tbl := List.mem_of_getElem? (i := 948) (by decide +kernel)
theorem se_X7_learn : Cond.selects RX7 yX7_learn yX7_learn ∈ lw_tbl := List.mem_of_getElem? (i := 949) (by decide +kernel)
theorem co_X7_digest : Cond.code yX7_digest cX7_digest 6 (some .long) ∈ lw_tbl := List.mem_of_getElem? (i := 954) (by decide +kernel)
theorem st_X7_digest : jSt mX7_digest 0 := ⟨by decide +kernel, rfl, co_X7_digest, ini_WireBookModel, ⟨by decide +kernel, by decide +kernel⟩, by decide +kernel⟩
theorem im_X7_digest : Cond.instanceMethod yX7_digest ∈ lw_tbl := List.mem_of_getElem? (i := 952) (by decide +kernel)
theorem se_X7_digest : Cond.selects RX7 yX7_digest yX7_digest ∈ lw_tbl := List.mem_of_getElem? (i := 953) (by decide +kernel)
theorem ml_L_86 : Cond.methodLink RL 86 yX6_init ∈ lw_tbl := List.mem_of_getElem? (i := 44) (by decide +kernel)
theorem ml_X6_1 : Cond.methodLink RX6 1 objectInit ∈ lw_tbl := List.mem_of_getElem? (i := 47) (by decide +kernel)
theorem ml_X6_15 : Cond.methodLinkNest RX6 15 yX0_init "WireBook" ∈ lw_tbl := List.mem_of_getElem? (i := 53) (by decide +kernel)
theorem ml_X0_3 : Cond.methodLink RX0 3 objectInit ∈ lw_tbl := List.mem_of_getElem? (i := 56) (by decide +kernel)
theorem ml_X6_18 : Cond.methodLinkNest RX6 18 yX4_init "WireBook" ∈ lw_tbl := List.mem_of_getElem? (i := 80) (by decide +kernel)
theorem ml_X4_3 : Cond.methodLink RX4 3 objectInit ∈ lw_tbl := List.mem_of_getElem? (i := 83) (by decide +kernel)
theorem ml_X6_25 : Cond.methodLink RX6 25 yX3_init ∈ lw_tbl := List.mem_of_getElem? (i := 99) (by decide +kernel)
theorem ml_X3_5 : Cond.methodLink RX3 5 objectInit ∈ lw_tbl := List.mem_of_getElem? (i := 102) (by decide +kernel)
theorem ml_X3_26 : Cond.methodLink RX3 26 yJ7_fill_53178 ∈ lw_tbl := List.mem_of_getElem? (i := 105) (by decide +kernel)
theorem ml_X6_32 : Cond.methodLinkNest RX6 32 yX5_init "WireBook" ∈ lw_tbl := List.mem_of_getElem? (i := 129) (by decide +kernel)
theorem ml_X5_3 : Cond.methodLink RX5 3 objectInit ∈ lw_tbl := List.mem_of_getElem? (i := 132) (by decide +kernel)
theorem ml_X6_39 : Cond.methodLinkNest RX6 39 yX2_init "WireBook" ∈ lw_tbl := List.mem_of_getElem? (i := 144) (by decide +kernel)
theorem ml_X2_3 : Cond.methodLink RX2 3 objectInit ∈ lw_tbl := List.mem_of_getElem? (i := 147) (by decide +kernel)
theorem ml_L_99 : Cond.methodLink RL 99 yX6_empty ∈ lw_tbl := List.mem_of_getElem? (i := 181) (by decide +kernel)
theorem ml_X6_71 : Cond.methodLink RX6 71 yX4_clear ∈ lw_tbl := List.mem_of_getElem? (i := 185) (by decide +kernel)
theorem ml_L_103 : Cond.methodLink RL 103 yX6_words ∈ lw_tbl := List.mem_of_getElem? (i := 189) (by decide +kernel)
theorem ml_L_149 : Cond.methodLink RL 149 yX6_groups ∈ lw_tbl := List.mem_of_getElem? (i := 193) (by decide +kernel)
theorem ml_L_168 : Cond.methodLink RL 168 yX6_cost ∈ lw_tbl := List.mem_of_getElem? (i := 197) (by decide +kernel)
theorem ml_X6_196 : Cond.methodLink RX6 196 yX5_costAt ∈ lw_tbl := List.mem_of_getElem? (i := 201) (by decide +kernel)
theorem ml_X5_19 : Cond.methodLink RX5 19 yX5_isPlain ∈ lw_tbl := List.mem_of_getElem? (i := 205) (by decide +kernel)
theorem ml_L_172 : Cond.methodLink RL 172 yX6_time ∈ lw_tbl := List.mem_of_getElem? (i := 208) (by decide +kernel)
theorem ml_X6_199 : Cond.methodLink RX6 199 yX5_units ∈ lw_tbl := List.mem_of_getElem? (i := 212) (by decide +kernel)
theorem ml_X5_23 : Cond.methodLink RX5 23 yX5_wordOf ∈ lw_tbl := List.mem_of_getElem? (i := 216) (by decide +kernel)
theorem ml_X5_27 : Cond.methodLink RX5 27 yX5_wordUnits ∈ lw_tbl := List.mem_of_getElem? (i := 219) (by decide +kernel)
theorem ml_X5_38 : Cond.methodLink RX5 38 yJ9_floorMod_7cf53 ∈ lw_tbl := List.mem_of_getElem? (i := 224) (by decide +kernel)
theorem ml_X5_30 : Cond.methodLink RX5 30 yX1_units ∈ lw_tbl := List.mem_of_getElem? (i := 227) (by decide +kernel)
theorem ml_X1_23 : Cond.methodLink RX1 23 yJ9_floorMod_7cf53 ∈ lw_tbl := List.mem_of_getElem? (i := 232) (by decide +kernel)
theorem ml_L_186 : Cond.methodLink RL 186 yX6_digest ∈ lw_tbl := List.mem_of_getElem? (i := 233) (by decide +kernel)
theorem ml_X6_215 : Cond.methodLink RX6 215 yX6_mix ∈ lw_tbl := List.mem_of_getElem? (i := 238) (by decide +kernel)
theorem ml_X6_219 : Cond.methodLink RX6 219 yX6_mixRow ∈ lw_tbl := List.mem_of_getElem? (i := 242) (by decide +kernel)
theorem ml_X6_223 : Cond.methodLink RX6 223 yX0_mixInto ∈ lw_tbl := List.mem_of_getElem? (i := 245) (by decide +kernel)
theorem ml_X0_55 : Cond.methodLinkNest RX0 55 yX6_mix "WireBook" ∈ lw_tbl := List.mem_of_getElem? (i := 249) (by decide +kernel)
theorem ml_X0_31 : Cond.methodLink RX0 31 yX0_startOf ∈ lw_tbl := List.mem_of_getElem? (i := 250) (by decide +kernel)
theorem ml_X0_59 : Cond.methodLinkNest RX0 59 yX6_mixRow "WireBook" ∈ lw_tbl := List.mem_of_getElem? (i := 253) (by decide +kernel)
theorem ml_X6_227 : Cond.methodLink RX6 227 yX3_mixInto ∈ lw_tbl := List.mem_of_getElem? (i := 254) (by decide +kernel)
theorem ml_X3_75 : Cond.methodLinkNest RX3 75 yX6_mix "WireBook" ∈ lw_tbl := List.mem_of_getElem? (i := 258) (by decide +kernel)
theorem ml_X3_36 : Cond.methodLink RX3 36 yX3_startOf ∈ lw_tbl := List.mem_of_getElem? (i := 259) (by decide +kernel)
theorem ml_X3_79 : Cond.methodLinkNest RX3 79 yX6_mixRow "WireBook" ∈ lw_tbl := List.mem_of_getElem? (i := 263) (by decide +kernel)
theorem ml_L_90 : Cond.methodLink RL 90 yL_say ∈ lw_tbl := List.mem_of_getElem? (i := 264) (by decide +kernel)
theorem ml_L_7 : Cond.methodLink RL 7 yX6_say ∈ lw_tbl := List.mem_of_getElem? (i := 269) (by decide +kernel)
theorem ml_X6_67 : Cond.methodLink RX6 67 yX4_append ∈ lw_tbl := List.mem_of_getElem? (i := 357) (by decide +kernel)
theorem ml_L_107 : Cond.methodLink RL 107 yL_wordAt ∈ lw_tbl := List.mem_of_getElem? (i := 361) (by decide +kernel)
theorem ml_L_17 : Cond.methodLink RL 17 yX6_wordAt ∈ lw_tbl := List.mem_of_getElem? (i := 365) (by decide +kernel)
theorem ml_L_110 : Cond.methodLink RL 110 yL_keep ∈ lw_tbl := List.mem_of_getElem? (i := 385) (by decide +kernel)
theorem ml_L_22 : Cond.methodLink RL 22 yX6_keep ∈ lw_tbl := List.mem_of_getElem? (i := 388) (by decide +kernel)
theorem ml_X6_87 : Cond.methodLink RX6 87 yX3_add ∈ lw_tbl := List.mem_of_getElem? (i := 394) (by decide +kernel)
theorem ml_X3_44 : Cond.methodLink RX3 44 arraycopyName ∈ lw_tbl := List.mem_of_getElem? (i := 398) (by decide +kernel)
theorem ml_X3_50 : Cond.methodLink RX3 50 yX3_countPhrases ∈ lw_tbl := List.mem_of_getElem? (i := 401) (by decide +kernel)
theorem ml_X3_54 : Cond.methodLink RX3 54 yX3_firstFinding ∈ lw_tbl := List.mem_of_getElem? (i := 405) (by decide +kernel)
theorem ml_X3_58 : Cond.methodLinkNest RX3 58 yX6_sameWords "WireBook" ∈ lw_tbl := List.mem_of_getElem? (i := 409) (by decide +kernel)
theorem ml_L_114 : Cond.methodLink RL 114 yL_recall ∈ lw_tbl := List.mem_of_getElem? (i := 412) (by decide +kernel)
theorem ml_L_26 : Cond.methodLink RL 26 yX6_recall ∈ lw_tbl := List.mem_of_getElem? (i := 415) (by decide +kernel)
theorem ml_X6_94 : Cond.methodLink RX6 94 yX3_startOf ∈ lw_tbl := List.mem_of_getElem? (i := 420) (by decide +kernel)
theorem ml_X6_101 : Cond.methodLink RX6 101 yX4_appendAll ∈ lw_tbl := List.mem_of_getElem? (i := 421) (by decide +kernel)
theorem ml_X4_19 : Cond.methodLink RX4 19 yX4_append ∈ lw_tbl := List.mem_of_getElem? (i := 425) (by decide +kernel)
theorem ml_L_117 : Cond.methodLink RL 117 yL_letter ∈ lw_tbl := List.mem_of_getElem? (i := 426) (by decide +kernel)
theorem ml_L_29 : Cond.methodLink RL 29 yX6_letter ∈ lw_tbl := List.mem_of_getElem? (i := 429) (by decide +kernel)
theorem ml_X6_105 : Cond.methodLink RX6 105 yX6_requireCode ∈ lw_tbl := List.mem_of_getElem? (i := 433) (by decide +kernel)
theorem ml_X6_108 : Cond.methodLink RX6 108 yX6_requirePlace ∈ lw_tbl := List.mem_of_getElem? (i := 438) (by decide +kernel)
theorem ml_X6_112 : Cond.methodLink RX6 112 yX1_letterAt ∈ lw_tbl := List.mem_of_getElem? (i := 442) (by decide +kernel)
theorem ml_L_121 : Cond.methodLink RL 121 yL_reason ∈ lw_tbl := List.mem_of_getElem? (i := 445) (by decide +kernel)
theorem ml_L_33 : Cond.methodLink RL 33 yX6_reason ∈ lw_tbl := List.mem_of_getElem? (i := 448) (by decide +kernel)
theorem ml_X6_118 : Cond.methodLink RX6 118 yX6_requireBook ∈ lw_tbl := List.mem_of_getElem? (i := 452) (by decide +kernel)
theorem ml_X6_122 : Cond.methodLink RX6 122 yX0_reasonAgainst ∈ lw_tbl := List.mem_of_getElem? (i := 457) (by decide +kernel)
theorem ml_X0_41 : Cond.methodLink RX0 41 yX1_likeness ∈ lw_tbl := List.mem_of_getElem? (i := 461) (by decide +kernel)
theorem ml_L_124 : Cond.methodLink RL 124 yL_firstFit ∈ lw_tbl := List.mem_of_getElem? (i := 464) (by decide +kernel)
theorem ml_L_36 : Cond.methodLink RL 36 yX6_firstFit ∈ lw_tbl := List.mem_of_getElem? (i := 467) (by decide +kernel)
theorem ml_X6_125 : Cond.methodLink RX6 125 yX0_fitFrom ∈ lw_tbl := List.mem_of_getElem? (i := 471) (by decide +kernel)
theorem ml_X0_48 : Cond.methodLink RX0 48 yX0_reasonAgainst ∈ lw_tbl := List.mem_of_getElem? (i := 476) (by decide +kernel)
theorem ml_L_127 : Cond.methodLink RL 127 yL_define ∈ lw_tbl := List.mem_of_getElem? (i := 477) (by decide +kernel)
theorem ml_L_39 : Cond.methodLink RL 39 yX6_define ∈ lw_tbl := List.mem_of_getElem? (i := 480) (by decide +kernel)
theorem ml_X6_132 : Cond.methodLink RX6 132 yX0_add ∈ lw_tbl := List.mem_of_getElem? (i := 486) (by decide +kernel)
theorem ml_X0_35 : Cond.methodLink RX0 35 arraycopyName ∈ lw_tbl := List.mem_of_getElem? (i := 490) (by decide +kernel)
theorem ml_L_130 : Cond.methodLink RL 130 yL_drop ∈ lw_tbl := List.mem_of_getElem? (i := 491) (by decide +kernel)
theorem ml_L_42 : Cond.methodLink RL 42 yX6_drop ∈ lw_tbl := List.mem_of_getElem? (i := 494) (by decide +kernel)
theorem ml_X6_136 : Cond.methodLink RX6 136 yX6_requireEntry ∈ lw_tbl := List.mem_of_getElem? (i := 498) (by decide +kernel)
theorem ml_X6_140 : Cond.methodLink RX6 140 yX0_remove ∈ lw_tbl := List.mem_of_getElem? (i := 502) (by decide +kernel)
theorem ml_L_133 : Cond.methodLink RL 133 yL_entries ∈ lw_tbl := List.mem_of_getElem? (i := 506) (by decide +kernel)
theorem ml_L_45 : Cond.methodLink RL 45 yX6_entries ∈ lw_tbl := List.mem_of_getElem? (i := 509) (by decide +kernel)
theorem ml_L_136 : Cond.methodLink RL 136 yL_entry ∈ lw_tbl := List.mem_of_getElem? (i := 513) (by decide +kernel)
theorem ml_L_48 : Cond.methodLink RL 48 yX6_entry ∈ lw_tbl := List.mem_of_getElem? (i := 516) (by decide +kernel)
theorem ml_X6_152 : Cond.methodLink RX6 152 yX0_startOf ∈ lw_tbl := List.mem_of_getElem? (i := 521) (by decide +kernel)
theorem ml_L_140 : Cond.methodLink RL 140 yL_find ∈ lw_tbl := List.mem_of_getElem? (i := 522) (by decide +kernel)
theorem ml_L_52 : Cond.methodLink RL 52 yX6_find ∈ lw_tbl := List.mem_of_getElem? (i := 525) (by decide +kernel)
theorem ml_X6_153 : Cond.methodLink RX6 153 yX0_entryWith ∈ lw_tbl := List.mem_of_getElem? (i := 529) (by decide +kernel)
theorem ml_L_143 : Cond.methodLink RL 143 yL_setPrice ∈ lw_tbl := List.mem_of_getElem? (i := 533) (by decide +kernel)
theorem ml_L_55 : Cond.methodLink RL 55 yX6_setPrice ∈ lw_tbl := List.mem_of_getElem? (i := 536) (by decide +kernel)
theorem ml_L_146 : Cond.methodLink RL 146 yL_encode ∈ lw_tbl := List.mem_of_getElem? (i := 541) (by decide +kernel)
theorem ml_L_58 : Cond.methodLink RL 58 yX6_encode ∈ lw_tbl := List.mem_of_getElem? (i := 544) (by decide +kernel)
theorem ml_X6_158 : Cond.methodLink RX6 158 yX2_divide ∈ lw_tbl := List.mem_of_getElem? (i := 548) (by decide +kernel)
theorem ml_X2_18 : Cond.methodLink RX2 18 yX2_bestPiece ∈ lw_tbl := List.mem_of_getElem? (i := 552) (by decide +kernel)
theorem ml_X2_34 : Cond.methodLink RX2 34 yX0_startOf ∈ lw_tbl := List.mem_of_getElem? (i := 556) (by decide +kernel)
theorem ml_X2_38 : Cond.methodLinkNest RX2 38 yX6_sameWords "WireBook" ∈ lw_tbl := List.mem_of_getElem? (i := 557) (by decide +kernel)
theorem ml_X2_42 : Cond.methodLink RX2 42 yX0_goesAhead ∈ lw_tbl := List.mem_of_getElem? (i := 558) (by decide +kernel)
theorem ml_X6_162 : Cond.methodLink RX6 162 yX5_clear ∈ lw_tbl := List.mem_of_getElem? (i := 562) (by decide +kernel)
theorem ml_X6_166 : Cond.methodLink RX6 166 yX5_plain ∈ lw_tbl := List.mem_of_getElem? (i := 566) (by decide +kernel)
theorem ml_X6_169 : Cond.methodLink RX6 169 yX5_append ∈ lw_tbl := List.mem_of_getElem? (i := 569) (by decide +kernel)
theorem ml_L_153 : Cond.methodLink RL 153 yL_group ∈ lw_tbl := List.mem_of_getElem? (i := 573) (by decide +kernel)
theorem ml_L_61 : Cond.methodLink RL 61 yX6_group ∈ lw_tbl := List.mem_of_getElem? (i := 576) (by decide +kernel)
theorem ml_X6_171 : Cond.methodLink RX6 171 yX6_requireGroup ∈ lw_tbl := List.mem_of_getElem? (i := 580) (by decide +kernel)
theorem ml_L_156 : Cond.methodLink RL 156 yL_garble ∈ lw_tbl := List.mem_of_getElem? (i := 585) (by decide +kernel)
theorem ml_L_64 : Cond.methodLink RL 64 yX6_garble ∈ lw_tbl := List.mem_of_getElem? (i := 588) (by decide +kernel)
theorem ml_X6_177 : Cond.methodLink RX6 177 yX6_requireCodeWord ∈ lw_tbl := List.mem_of_getElem? (i := 593) (by decide +kernel)
theorem ml_X6_239 : Cond.methodLink RX6 239 yX5_isPlain ∈ lw_tbl := List.mem_of_getElem? (i := 597) (by decide +kernel)
theorem ml_X6_180 : Cond.methodLink RX6 180 yX1_withLetter ∈ lw_tbl := List.mem_of_getElem? (i := 599) (by decide +kernel)
theorem ml_X1_9 : Cond.methodLink RX1 9 yX1_letterAt ∈ lw_tbl := List.mem_of_getElem? (i := 602) (by decide +kernel)
theorem ml_L_159 : Cond.methodLink RL 159 yL_swap ∈ lw_tbl := List.mem_of_getElem? (i := 603) (by decide +kernel)
theorem ml_L_67 : Cond.methodLink RL 67 yX6_swap ∈ lw_tbl := List.mem_of_getElem? (i := 606) (by decide +kernel)
theorem ml_X6_184 : Cond.methodLink RX6 184 yX1_swapped ∈ lw_tbl := List.mem_of_getElem? (i := 610) (by decide +kernel)
theorem ml_X1_15 : Cond.methodLink RX1 15 yX1_withLetter ∈ lw_tbl := List.mem_of_getElem? (i := 613) (by decide +kernel)
theorem ml_L_162 : Cond.methodLink RL 162 yL_decode ∈ lw_tbl := List.mem_of_getElem? (i := 614) (by decide +kernel)
theorem ml_L_70 : Cond.methodLink RL 70 yX6_decode ∈ lw_tbl := List.mem_of_getElem? (i := 617) (by decide +kernel)
theorem ml_X6_190 : Cond.methodLink RX6 190 yX6_read ∈ lw_tbl := List.mem_of_getElem? (i := 621) (by decide +kernel)
theorem ml_X6_245 : Cond.methodLink RX6 245 yX5_wordOf ∈ lw_tbl := List.mem_of_getElem? (i := 625) (by decide +kernel)
theorem ml_X6_248 : Cond.methodLink RX6 248 yX0_onlyEntryLike ∈ lw_tbl := List.mem_of_getElem? (i := 626) (by decide +kernel)
theorem ml_L_165 : Cond.methodLink RL 165 yL_how ∈ lw_tbl := List.mem_of_getElem? (i := 630) (by decide +kernel)
theorem ml_L_73 : Cond.methodLink RL 73 yX6_how ∈ lw_tbl := List.mem_of_getElem? (i := 633) (by decide +kernel)
theorem ml_L_176 : Cond.methodLink RL 176 yL_share ∈ lw_tbl := List.mem_of_getElem? (i := 638) (by decide +kernel)
theorem ml_L_76 : Cond.methodLink RL 76 yX6_share ∈ lw_tbl := List.mem_of_getElem? (i := 641) (by decide +kernel)
theorem ml_L_180 : Cond.methodLink RL 180 yL_propose ∈ lw_tbl := List.mem_of_getElem? (i := 645) (by decide +kernel)
theorem ml_L_80 : Cond.methodLink RL 80 yX6_propose ∈ lw_tbl := List.mem_of_getElem? (i := 648) (by decide +kernel)
theorem ml_X6_203 : Cond.methodLink RX6 203 yX3_proposeOn ∈ lw_tbl := List.mem_of_getElem? (i := 652) (by decide +kernel)
theorem ml_X3_62 : Cond.methodLink RX3 62 yX0_hasPhrase ∈ lw_tbl := List.mem_of_getElem? (i := 656) (by decide +kernel)
theorem ml_X0_51 : Cond.methodLinkNest RX0 51 yX6_sameWords "WireBook" ∈ lw_tbl := List.mem_of_getElem? (i := 660) (by decide +kernel)
theorem ml_X3_68 : Cond.methodLink RX3 68 yX4_clear ∈ lw_tbl := List.mem_of_getElem? (i := 661) (by decide +kernel)
theorem ml_X3_71 : Cond.methodLink RX3 71 yX4_appendAll ∈ lw_tbl := List.mem_of_getElem? (i := 662) (by decide +kernel)
theorem ml_L_183 : Cond.methodLink RL 183 yL_learn ∈ lw_tbl := List.mem_of_getElem? (i := 663) (by decide +kernel)
theorem ml_L_83 : Cond.methodLink RL 83 yX6_learn ∈ lw_tbl := List.mem_of_getElem? (i := 666) (by decide +kernel)
theorem ml_X6_209 : Cond.methodLink RX6 209 yX6_learnOne ∈ lw_tbl := List.mem_of_getElem? (i := 671) (by decide +kernel)
theorem ml_X6_251 : Cond.methodLink RX6 251 yX0_latestCode ∈ lw_tbl := List.mem_of_getElem? (i := 675) (by decide +kernel)
theorem ml_L_89 : Cond.methodLink RL 89 yX7_init ∈ lw_tbl := List.mem_of_getElem? (i := 681) (by decide +kernel)
theorem ml_X7_1 : Cond.methodLink RX7 1 objectInit ∈ lw_tbl := List.mem_of_getElem? (i := 684) (by decide +kernel)
theorem ml_L_96 : Cond.methodLink RL 96 yX7_thrown ∈ lw_tbl := List.mem_of_getElem? (i := 743) (by decide +kernel)
theorem ml_L_95 : Cond.methodLink RL 95 yX7_say ∈ lw_tbl := List.mem_of_getElem? (i := 747) (by decide +kernel)
theorem ml_X7_50 : Cond.methodLink RX7 50 yX7_isIn ∈ lw_tbl := List.mem_of_getElem? (i := 751) (by decide +kernel)
theorem ml_X7_59 : Cond.methodLink RX7 59 yX7_no ∈ lw_tbl := List.mem_of_getElem? (i := 754) (by decide +kernel)
theorem ml_L_102 : Cond.methodLink RL 102 yX7_empty ∈ lw_tbl := List.mem_of_getElem? (i := 758) (by decide +kernel)
theorem ml_L_106 : Cond.methodLink RL 106 yX7_words ∈ lw_tbl := List.mem_of_getElem? (i := 762) (by decide +kernel)
theorem ml_L_109 : Cond.methodLink RL 109 yX7_wordAt ∈ lw_tbl := List.mem_of_getElem? (i := 766) (by decide +kernel)
theorem ml_L_113 : Cond.methodLink RL 113 yX7_keep ∈ lw_tbl := List.mem_of_getElem? (i := 770) (by decide +kernel)
theorem ml_X7_69 : Cond.methodLink RX7 69 arraycopyName ∈ lw_tbl := List.mem_of_getElem? (i := 774) (by decide +kernel)
theorem ml_L_116 : Cond.methodLink RL 116 yX7_recall ∈ lw_tbl := List.mem_of_getElem? (i := 775) (by decide +kernel)
theorem ml_L_120 : Cond.methodLink RL 120 yX7_letter ∈ lw_tbl := List.mem_of_getElem? (i := 779) (by decide +kernel)
theorem ml_X7_78 : Cond.methodLink RX7 78 yX7_isCode ∈ lw_tbl := List.mem_of_getElem? (i := 783) (by decide +kernel)
theorem ml_X7_81 : Cond.methodLink RX7 81 yX7_letterOf ∈ lw_tbl := List.mem_of_getElem? (i := 787) (by decide +kernel)
theorem ml_X7_75 : Cond.methodLink RX7 75 yX7_power ∈ lw_tbl := List.mem_of_getElem? (i := 790) (by decide +kernel)
theorem ml_L_123 : Cond.methodLink RL 123 yX7_reason ∈ lw_tbl := List.mem_of_getElem? (i := 793) (by decide +kernel)
theorem ml_X7_55 : Cond.methodLink RX7 55 yX7_isBook ∈ lw_tbl := List.mem_of_getElem? (i := 797) (by decide +kernel)
theorem ml_X7_95 : Cond.methodLink RX7 95 yX7_reasonFor ∈ lw_tbl := List.mem_of_getElem? (i := 800) (by decide +kernel)
theorem ml_X7_88 : Cond.methodLink RX7 88 yX7_isOneOff ∈ lw_tbl := List.mem_of_getElem? (i := 804) (by decide +kernel)
theorem ml_X7_92 : Cond.methodLink RX7 92 yX7_isSwapped ∈ lw_tbl := List.mem_of_getElem? (i := 807) (by decide +kernel)
theorem ml_X7_85 : Cond.methodLink RX7 85 yX7_swapped ∈ lw_tbl := List.mem_of_getElem? (i := 810) (by decide +kernel)
theorem ml_L_126 : Cond.methodLink RL 126 yX7_firstFit ∈ lw_tbl := List.mem_of_getElem? (i := 813) (by decide +kernel)
theorem ml_X7_98 : Cond.methodLink RX7 98 yX7_fitFrom ∈ lw_tbl := List.mem_of_getElem? (i := 817) (by decide +kernel)
theorem ml_L_129 : Cond.methodLink RL 129 yX7_define ∈ lw_tbl := List.mem_of_getElem? (i := 821) (by decide +kernel)
theorem ml_X7_101 : Cond.methodLink RX7 101 yX7_add ∈ lw_tbl := List.mem_of_getElem? (i := 825) (by decide +kernel)
theorem ml_L_132 : Cond.methodLink RL 132 yX7_drop ∈ lw_tbl := List.mem_of_getElem? (i := 829) (by decide +kernel)
theorem ml_X7_105 : Cond.methodLink RX7 105 yX7_isEntry ∈ lw_tbl := List.mem_of_getElem? (i := 833) (by decide +kernel)
theorem ml_L_135 : Cond.methodLink RL 135 yX7_entries ∈ lw_tbl := List.mem_of_getElem? (i := 837) (by decide +kernel)
theorem ml_L_139 : Cond.methodLink RL 139 yX7_entry ∈ lw_tbl := List.mem_of_getElem? (i := 841) (by decide +kernel)
theorem ml_L_142 : Cond.methodLink RL 142 yX7_find ∈ lw_tbl := List.mem_of_getElem? (i := 845) (by decide +kernel)
theorem ml_X7_108 : Cond.methodLink RX7 108 yX7_entryOf ∈ lw_tbl := List.mem_of_getElem? (i := 849) (by decide +kernel)
theorem ml_L_145 : Cond.methodLink RL 145 yX7_setPrice ∈ lw_tbl := List.mem_of_getElem? (i := 853) (by decide +kernel)
theorem ml_L_148 : Cond.methodLink RL 148 yX7_encode ∈ lw_tbl := List.mem_of_getElem? (i := 857) (by decide +kernel)
theorem ml_X7_120 : Cond.methodLink RX7 120 yX7_divide ∈ lw_tbl := List.mem_of_getElem? (i := 861) (by decide +kernel)
theorem ml_X7_111 : Cond.methodLink RX7 111 yX7_stands ∈ lw_tbl := List.mem_of_getElem? (i := 865) (by decide +kernel)
theorem ml_X7_115 : Cond.methodLink RX7 115 Lib.Math.min.name ∈ lw_tbl := List.mem_of_getElem? (i := 869) (by decide +kernel)
theorem ml_L_152 : Cond.methodLink RL 152 yX7_groups ∈ lw_tbl := List.mem_of_getElem? (i := 872) (by decide +kernel)
theorem ml_L_155 : Cond.methodLink RL 155 yX7_group ∈ lw_tbl := List.mem_of_getElem? (i := 876) (by decide +kernel)
theorem ml_X7_127 : Cond.methodLink RX7 127 yX7_isGroup ∈ lw_tbl := List.mem_of_getElem? (i := 880) (by decide +kernel)
theorem ml_L_158 : Cond.methodLink RL 158 yX7_garble ∈ lw_tbl := List.mem_of_getElem? (i := 884) (by decide +kernel)
theorem ml_L_161 : Cond.methodLink RL 161 yX7_swap ∈ lw_tbl := List.mem_of_getElem? (i := 888) (by decide +kernel)
theorem ml_L_164 : Cond.methodLink RL 164 yX7_decode ∈ lw_tbl := List.mem_of_getElem? (i := 892) (by decide +kernel)
theorem ml_X7_133 : Cond.methodLink RX7 133 yX7_write ∈ lw_tbl := List.mem_of_getElem? (i := 896) (by decide +kernel)
theorem ml_X7_137 : Cond.methodLink RX7 137 yX7_meant ∈ lw_tbl := List.mem_of_getElem? (i := 900) (by decide +kernel)
theorem ml_L_167 : Cond.methodLink RL 167 yX7_how ∈ lw_tbl := List.mem_of_getElem? (i := 904) (by decide +kernel)
theorem ml_L_171 : Cond.methodLink RL 171 yX7_cost ∈ lw_tbl := List.mem_of_getElem? (i := 908) (by decide +kernel)
theorem ml_L_175 : Cond.methodLink RL 175 yX7_time ∈ lw_tbl := List.mem_of_getElem? (i := 912) (by decide +kernel)
theorem ml_X7_146 : Cond.methodLink RX7 146 yX7_unitsOf ∈ lw_tbl := List.mem_of_getElem? (i := 916) (by decide +kernel)
theorem ml_L_179 : Cond.methodLink RL 179 yX7_share ∈ lw_tbl := List.mem_of_getElem? (i := 923) (by decide +kernel)
theorem ml_L_182 : Cond.methodLink RL 182 yX7_propose ∈ lw_tbl := List.mem_of_getElem? (i := 927) (by decide +kernel)
theorem ml_X7_164 : Cond.methodLink RX7 164 yX7_proposal ∈ lw_tbl := List.mem_of_getElem? (i := 931) (by decide +kernel)
theorem ml_X7_152 : Cond.methodLink RX7 152 yX7_timesOf ∈ lw_tbl := List.mem_of_getElem? (i := 935) (by decide +kernel)
theorem ml_X7_149 : Cond.methodLink RX7 149 yX7_isSame ∈ lw_tbl := List.mem_of_getElem? (i := 939) (by decide +kernel)
theorem ml_X7_155 : Cond.methodLink RX7 155 yX7_isInBook ∈ lw_tbl := List.mem_of_getElem? (i := 943) (by decide +kernel)
theorem ml_L_185 : Cond.methodLink RL 185 yX7_learn ∈ lw_tbl := List.mem_of_getElem? (i := 947) (by decide +kernel)
theorem ml_L_190 : Cond.methodLink RL 190 yX7_digest ∈ lw_tbl := List.mem_of_getElem? (i := 951) (by decide +kernel)
theorem im_obj : Cond.instanceMethod objectInit ∈ lw_tbl := List.mem_of_getElem? (i := 48) (by decide +kernel)
theorem co_obj : Cond.code objectInit ⟨#[0xb1]⟩ 1 none ∈ lw_tbl := List.mem_of_getElem? (i := 49) (by decide +kernel)
theorem sm_acopy : Cond.static arraycopyName ∈ lw_tbl := List.mem_of_getElem? (i := 399) (by decide +kernel)
theorem na_acopy : Cond.native arraycopyName ∈ lw_tbl := List.mem_of_getElem? (i := 400) (by decide +kernel)
theorem sm_min : Cond.static Lib.Math.min.name ∈ lw_tbl := List.mem_of_getElem? (i := 870) (by decide +kernel)
theorem co_min : Cond.code Lib.Math.min.name Lib.Math.min.code 2 (some .int) ∈ lw_tbl := List.mem_of_getElem? (i := 871) (by decide +kernel)
theorem cl_L_8 : Cond.classLink RL 8 RX6 ∈ lw_tbl := List.mem_of_getElem? (i := 42) (by decide +kernel)
theorem cl_X6_9 : Cond.classLink RX6 9 RX0 ∈ lw_tbl := List.mem_of_getElem? (i := 50) (by decide +kernel)
theorem cl_X6_16 : Cond.classLink RX6 16 RX4 ∈ lw_tbl := List.mem_of_getElem? (i := 78) (by decide +kernel)
theorem cl_X6_23 : Cond.classLink RX6 23 RX3 ∈ lw_tbl := List.mem_of_getElem? (i := 97) (by decide +kernel)
theorem cl_X3_18 : Cond.classLink RX3 18 "[[I" ∈ lw_tbl := List.mem_of_getElem? (i := 103) (by decide +kernel)
theorem cl_X6_30 : Cond.classLink RX6 30 RX5 ∈ lw_tbl := List.mem_of_getElem? (i := 127) (by decide +kernel)
theorem cl_X6_37 : Cond.classLink RX6 37 RX2 ∈ lw_tbl := List.mem_of_getElem? (i := 142) (by decide +kernel)
theorem cl_L_13 : Cond.classLink RL 13 "java/lang/IllegalArgumentException" ∈ lw_tbl := List.mem_of_getElem? (i := 267) (by decide +kernel)
theorem cl_L_15 : Cond.classLink RL 15 "java/lang/IllegalStateException" ∈ lw_tbl := List.mem_of_getElem? (i := 268) (by decide +kernel)
theorem cl_X6_52 : Cond.classLink RX6 52 "java/lang/IllegalArgumentException" ∈ lw_tbl := List.mem_of_getElem? (i := 273) (by decide +kernel)
theorem cl_X6_62 : Cond.classLink RX6 62 "java/lang/IllegalStateException" ∈ lw_tbl := List.mem_of_getElem? (i := 341) (by decide +kernel)
theorem cl_L_20 : Cond.classLink RL 20 "java/lang/IndexOutOfBoundsException" ∈ lw_tbl := List.mem_of_getElem? (i := 364) (by decide +kernel)
theorem cl_X6_74 : Cond.classLink RX6 74 "java/lang/IndexOutOfBoundsException" ∈ lw_tbl := List.mem_of_getElem? (i := 369) (by decide +kernel)
theorem cl_L_87 : Cond.classLink RL 87 RX7 ∈ lw_tbl := List.mem_of_getElem? (i := 679) (by decide +kernel)
theorem ac_int : Cond.arrayClass .int ∈ lw_tbl := List.mem_of_getElem? (i := 77) (by decide +kernel)
theorem ac_byte : Cond.arrayClass .byte ∈ lw_tbl := List.mem_of_getElem? (i := 340) (by decide +kernel)
theorem ac_long : Cond.arrayClass .long ∈ lw_tbl := List.mem_of_getElem? (i := 957) (by decide +kernel)
theorem ac_double : Cond.arrayClass .double ∈ lw_tbl := List.mem_of_getElem? (i := 958) (by decide +kernel)
theorem it_X6 : Cond.instantiable RX6 8 ∈ lw_tbl := List.mem_of_getElem? (i := 43) (by decide +kernel)
theorem it_X0 : Cond.instantiable RX0 4 ∈ lw_tbl := List.mem_of_getElem? (i := 52) (by decide +kernel)
theorem it_X4 : Cond.instantiable RX4 2 ∈ lw_tbl := List.mem_of_getElem? (i := 79) (by decide +kernel)
theorem it_X3 : Cond.instantiable RX3 5 ∈ lw_tbl := List.mem_of_getElem? (i := 98) (by decide +kernel)
theorem it_X5 : Cond.instantiable RX5 2 ∈ lw_tbl := List.mem_of_getElem? (i := 128) (by decide +kernel)
theorem it_X2 : Cond.instantiable RX2 2 ∈ lw_tbl := List.mem_of_getElem? (i := 143) (by decide +kernel)
theorem it_X7 : Cond.instantiable RX7 19 ∈ lw_tbl := List.mem_of_getElem? (i := 680) (by decide +kernel)
theorem kc_X6_230 : Cond.constant RX6 230 (11881375) ∈ lw_tbl := List.mem_of_getElem? (i := 436) (by decide +kernel)
theorem kc_X0_47 : Cond.constant RX0 47 (11881375) ∈ lw_tbl := List.mem_of_getElem? (i := 475) (by decide +kernel)
theorem kc_X7_54 : Cond.constant RX7 54 (11881375) ∈ lw_tbl := List.mem_of_getElem? (i := 786) (by decide +kernel)
theorem kl_X6_213 : Cond.constantLong RX6 213 (379) ∈ lw_tbl := List.mem_of_getElem? (i := 237) (by decide +kernel)
theorem kl_X6_254 : Cond.constantLong RX6 254 (31) ∈ lw_tbl := List.mem_of_getElem? (i := 241) (by decide +kernel)
theorem kl_X7_167 : Cond.constantLong RX7 167 (11749) ∈ lw_tbl := List.mem_of_getElem? (i := 955) (by decide +kernel)
theorem kl_X7_169 : Cond.constantLong RX7 169 (31) ∈ lw_tbl := List.mem_of_getElem? (i := 956) (by decide +kernel)
theorem cs_iae : Cond.castable "java/lang/IllegalArgumentException" "java/lang/IllegalArgumentException" ∈ lw_tbl := List.mem_of_getElem? (i := 275) (by decide +kernel)
theorem cs_ise : Cond.castable "java/lang/IllegalStateException" "java/lang/IllegalStateException" ∈ lw_tbl := List.mem_of_getElem? (i := 343) (by decide +kernel)
theorem cs_iob : Cond.castable "java/lang/IndexOutOfBoundsException" "java/lang/IndexOutOfBoundsException" ∈ lw_tbl := List.mem_of_getElem? (i := 371) (by decide +kernel)
theorem inw_X0 : ∀ w ∈ u_ws RX0 TX0 4, w ∈ lw_tbl ∧ goodWord w = true := by decide +kernel
theorem in_X0 : ∀ w ∈ u_ws RX0 TX0 4, w ∈ jBig := fun w h => jw_in (inw_X0 w h).1 (inw_X0 w h).2
theorem inw_X2 : ∀ w ∈ u_ws RX2 TX2 2, w ∈ lw_tbl ∧ goodWord w = true := by decide +kernel
theorem in_X2 : ∀ w ∈ u_ws RX2 TX2 2, w ∈ jBig := fun w h => jw_in (inw_X2 w h).1 (inw_X2 w h).2
theorem inw_X3 : ∀ w ∈ u_ws RX3 TX3 5, w ∈ lw_tbl ∧ goodWord w = true := by decide +kernel
theorem in_X3 : ∀ w ∈ u_ws RX3 TX3 5, w ∈ jBig := fun w h => jw_in (inw_X3 w h).1 (inw_X3 w h).2
theorem inw_X4 : ∀ w ∈ u_ws RX4 TX4 2, w ∈ lw_tbl ∧ goodWord w = true := by decide +kernel
theorem in_X4 : ∀ w ∈ u_ws RX4 TX4 2, w ∈ jBig := fun w h => jw_in (inw_X4 w h).1 (inw_X4 w h).2
theorem inw_X5 : ∀ w ∈ u_ws RX5 TX5 2, w ∈ lw_tbl ∧ goodWord w = true := by decide +kernel
theorem in_X5 : ∀ w ∈ u_ws RX5 TX5 2, w ∈ jBig := fun w h => jw_in (inw_X5 w h).1 (inw_X5 w h).2
theorem inw_X6 : ∀ w ∈ u_ws RX6 TX6 8, w ∈ lw_tbl ∧ goodWord w = true := by decide +kernel
theorem in_X6 : ∀ w ∈ u_ws RX6 TX6 8, w ∈ jBig := fun w h => jw_in (inw_X6 w h).1 (inw_X6 w h).2
theorem inw_X7 : ∀ w ∈ u_ws RX7 TX7 19, w ∈ lw_tbl ∧ goodWord w = true := by decide +kernel
theorem in_X7 : ∀ w ∈ u_ws RX7 TX7 19, w ∈ jBig := fun w h => jw_in (inw_X7 w h).1 (inw_X7 w h).2
theorem fl_X0_9 : Cond.fieldLink RX0 9 (TX0 0).1 (TX0 0).2.1 (TX0 0).2.2.1 ∈ lw_tbl := List.mem_of_getElem? (i := 57) (by decide +kernel)
theorem gf_X0_9 {X : jX} {M : jMt} {rm : Room} {pc : Nat} {lc st : List Value} {k n : Nat} {σ : jS} {Q : jOut → jS → Prop} {i : Nat} {a0 a1 a2 a3 : Value} (hM : M.1.cls = RX0) (d : decode M.2.1 pc = .ok (.getfield 9, 3)) (he : σ.2 i = jO 0 [a0, a1, a2, a3]) (kk : J X M rm (pc + 3) lc (a0 :: st) k n σ Q) : J X M rm pc lc (.ref i :: st) k n σ Q := J.getf (T := TX0) (kf := 0) d he rfl in_X0 (by decide) (by rw [hM]; exact fl_X0_9) rfl kk
theorem pf_X0_9 {X : jX} {M : jMt} {rm : Room} {pc : Nat} {lc st : List Value} {k n : Nat} {σ : jS} {Q : jOut → jS → Prop} {i : Nat} {a0 a1 a2 a3 : Value} {x : Nat} (hM : M.1.cls = RX0) (hM2 : M.1.name = "<init>") (d : decode M.2.1 pc = .ok (.putfield 9, 3)) (he : σ.2 i = jO 0 [a0, a1, a2, a3]) (kk : J X M rm (pc + 3) lc st k n (jset σ i (jO 0 [.ref x, a1, a2, a3])) Q) : J X M rm pc lc ((.ref x) :: .ref i :: st) k n σ Q := J.putfF (T := TX0) (kf := 0) tyX0 tyX0_ok nmX0 d he rfl in_X0 (by decide) (by rw [hM]; exact fl_X0_9) rfl hM2 (by rw [hM]; rfl) rfl (Or.inr ⟨x, rfl, rfl⟩) (by simp) kk
theorem fl_X6_143 : Cond.fieldLinkNest RX6 143 (TX0 0).1 (TX0 0).2.1 (TX0 0).2.2.1 "WireBook" ∈ lw_tbl := List.mem_of_getElem? (i := 58) (by decide +kernel)
theorem gf_X6_143 {X : jX} {M : jMt} {rm : Room} {pc : Nat} {lc st : List Value} {k n : Nat} {σ : jS} {Q : jOut → jS → Prop} {i : Nat} {a0 a1 a2 a3 : Value} (hM : M.1.cls = RX6) (d : decode M.2.1 pc = .ok (.getfield 143, 3)) (he : σ.2 i = jO 0 [a0, a1, a2, a3]) (kk : J X M rm (pc + 3) lc (a0 :: st) k n σ Q) : J X M rm pc lc (.ref i :: st) k n σ Q := J.getfN (T := TX0) (kf := 0) d he rfl in_X0 (by decide) (by rw [hM]; exact fl_X6_143) rfl kk
theorem fl_X0_15 : Cond.fieldLink RX0 15 (TX0 1).1 (TX0 1).2.1 (TX0 1).2.2.1 ∈ lw_tbl := List.mem_of_getElem? (i := 59) (by decide +kernel)
theorem gf_X0_15 {X : jX} {M : jMt} {rm : Room} {pc : Nat} {lc st : List Value} {k n : Nat} {σ : jS} {Q : jOut → jS → Prop} {i : Nat} {a0 a1 a2 a3 : Value} (hM : M.1.cls = RX0) (d : decode M.2.1 pc = .ok (.getfield 15, 3)) (he : σ.2 i = jO 0 [a0, a1, a2, a3]) (kk : J X M rm (pc + 3) lc (a1 :: st) k n σ Q) : J X M rm pc lc (.ref i :: st) k n σ Q := J.getf (T := TX0) (kf := 1) d he rfl in_X0 (by decide) (by rw [hM]; exact fl_X0_15) rfl kk
theorem pf_X0_15 {X : jX} {M : jMt} {rm : Room} {pc : Nat} {lc st : List Value} {k n : Nat} {σ : jS} {Q : jOut → jS → Prop} {i : Nat} {a0 a1 a2 a3 : Value} {x : Nat} (hM : M.1.cls = RX0) (hM2 : M.1.name = "<init>") (d : decode M.2.1 pc = .ok (.putfield 15, 3)) (he : σ.2 i = jO 0 [a0, a1, a2, a3]) (kk : J X M rm (pc + 3) lc st k n (jset σ i (jO 0 [a0, .ref x, a2, a3])) Q) : J X M rm pc lc ((.ref x) :: .ref i :: st) k n σ Q := J.putfF (T := TX0) (kf := 1) tyX0 tyX0_ok nmX0 d he rfl in_X0 (by decide) (by rw [hM]; exact fl_X0_15) rfl hM2 (by rw [hM]; rfl) rfl (Or.inr ⟨x, rfl, rfl⟩) (by simp) kk
theorem fl_X2_22 : Cond.fieldLinkNest RX2 22 (TX0 1).1 (TX0 1).2.1 (TX0 1).2.2.1 "WireBook" ∈ lw_tbl := List.mem_of_getElem? (i := 60) (by decide +kernel)
theorem gf_X2_22 {X : jX} {M : jMt} {rm : Room} {pc : Nat} {lc st : List Value} {k n : Nat} {σ : jS} {Q : jOut → jS → Prop} {i : Nat} {a0 a1 a2 a3 : Value} (hM : M.1.cls = RX2) (d : decode M.2.1 pc = .ok (.getfield 22, 3)) (he : σ.2 i = jO 0 [a0, a1, a2, a3]) (kk : J X M rm (pc + 3) lc (a1 :: st) k n σ Q) : J X M rm pc lc (.ref i :: st) k n σ Q := J.getfN (T := TX0) (kf := 1) d he rfl in_X0 (by decide) (by rw [hM]; exact fl_X2_22) rfl kk
theorem fl_X6_146 : Cond.fieldLinkNest RX6 146 (TX0 1).1 (TX0 1).2.1 (TX0 1).2.2.1 "WireBook" ∈ lw_tbl := List.mem_of_getElem? (i := 61) (by decide +kernel)
theorem gf_X6_146 {X : jX} {M : jMt} {rm : Room} {pc : Nat} {lc st : List Value} {k n : Nat} {σ : jS} {Q : jOut → jS → Prop} {i : Nat} {a0 a1 a2 a3 : Value} (hM : M.1.cls = RX6) (d : decode M.2.1 pc = .ok (.getfield 146, 3)) (he : σ.2 i = jO 0 [a0, a1, a2, a3]) (kk : J X M rm (pc + 3) lc (a1 :: st) k n σ Q) : J X M rm pc lc (.ref i :: st) k n σ Q := J.getfN (T := TX0) (kf := 1) d he rfl in_X0 (by decide) (by rw [hM]; exact fl_X6_146) rfl kk
theorem fl_X0_18 : Cond.fieldLink RX0 18 (TX0 2).1 (TX0 2).2.1 (TX0 2).2.2.1 ∈ lw_tbl := List.mem_of_getElem? (i := 62) (by decide +kernel)
theorem gf_X0_18 {X : jX} {M : jMt} {rm : Room} {pc : Nat} {lc st : List Value} {k n : Nat} {σ : jS} {Q : jOut → jS → Prop} {i : Nat} {a0 a1 a2 a3 : Value} (hM : M.1.cls = RX0) (d : decode M.2.1 pc = .ok (.getfield 18, 3)) (he : σ.2 i = jO 0 [a0, a1, a2, a3]) (kk : J X M rm (pc + 3) lc (a2 :: st) k n σ Q) : J X M rm pc lc (.ref i :: st) k n σ Q := J.getf (T := TX0) (kf := 2) d he rfl in_X0 (by decide) (by rw [hM]; exact fl_X0_18) rfl kk
theorem pf_X0_18 {X : jX} {M : jMt} {rm : Room} {pc : Nat} {lc st : List Value} {k n : Nat} {σ : jS} {Q : jOut → jS → Prop} {i : Nat} {a0 a1 a2 a3 : Value} {x : Nat} (hM : M.1.cls = RX0) (hM2 : M.1.name = "<init>") (d : decode M.2.1 pc = .ok (.putfield 18, 3)) (he : σ.2 i = jO 0 [a0, a1, a2, a3]) (kk : J X M rm (pc + 3) lc st k n (jset σ i (jO 0 [a0, a1, .ref x, a3])) Q) : J X M rm pc lc ((.ref x) :: .ref i :: st) k n σ Q := J.putfF (T := TX0) (kf := 2) tyX0 tyX0_ok nmX0 d he rfl in_X0 (by decide) (by rw [hM]; exact fl_X0_18) rfl hM2 (by rw [hM]; rfl) rfl (Or.inr ⟨x, rfl, rfl⟩) (by simp) kk
theorem fl_X2_31 : Cond.fieldLinkNest RX2 31 (TX0 2).1 (TX0 2).2.1 (TX0 2).2.2.1 "WireBook" ∈ lw_tbl := List.mem_of_getElem? (i := 63) (by decide +kernel)
theorem gf_X2_31 {X : jX} {M : jMt} {rm : Room} {pc : Nat} {lc st : List Value} {k n : Nat} {σ : jS} {Q : jOut → jS → Prop} {i : Nat} {a0 a1 a2 a3 : Value} (hM : M.1.cls = RX2) (d : decode M.2.1 pc = .ok (.getfield 31, 3)) (he : σ.2 i = jO 0 [a0, a1, a2, a3]) (kk : J X M rm (pc + 3) lc (a2 :: st) k n σ Q) : J X M rm pc lc (.ref i :: st) k n σ Q := J.getfN (T := TX0) (kf := 2) d he rfl in_X0 (by decide) (by rw [hM]; exact fl_X2_31) rfl kk
theorem fl_X6_149 : Cond.fieldLinkNest RX6 149 (TX0 2).1 (TX0 2).2.1 (TX0 2).2.2.1 "WireBook" ∈ lw_tbl := List.mem_of_getElem? (i := 64) (by decide +kernel)
theorem gf_X6_149 {X : jX} {M : jMt} {rm : Room} {pc : Nat} {lc st : List Value} {k n : Nat} {σ : jS} {Q : jOut → jS → Prop} {i : Nat} {a0 a1 a2 a3 : Value} (hM : M.1.cls = RX6) (d : decode M.2.1 pc = .ok (.getfield 149, 3)) (he : σ.2 i = jO 0 [a0, a1, a2, a3]) (kk : J X M rm (pc + 3) lc (a2 :: st) k n σ Q) : J X M rm pc lc (.ref i :: st) k n σ Q := J.getfN (T := TX0) (kf := 2) d he rfl in_X0 (by decide) (by rw [hM]; exact fl_X6_149) rfl kk
theorem fl_X0_21 : Cond.fieldLink RX0 21 (TX0 3).1 (TX0 3).2.1 (TX0 3).2.2.1 ∈ lw_tbl := List.mem_of_getElem? (i := 65) (by decide +kernel)
theorem gf_X0_21 {X : jX} {M : jMt} {rm : Room} {pc : Nat} {lc st : List Value} {k n : Nat} {σ : jS} {Q : jOut → jS → Prop} {i : Nat} {a0 a1 a2 a3 : Value} (hM : M.1.cls = RX0) (d : decode M.2.1 pc = .ok (.getfield 21, 3)) (he : σ.2 i = jO 0 [a0, a1, a2, a3]) (kk : J X M rm (pc + 3) lc (a3 :: st) k n σ Q) : J X M rm pc lc (.ref i :: st) k n σ Q := J.getf (T := TX0) (kf := 3) d he rfl in_X0 (by decide) (by rw [hM]; exact fl_X0_21) rfl kk
theorem pf_X0_21 {X : jX} {M : jMt} {rm : Room} {pc : Nat} {lc st : List Value} {k n : Nat} {σ : jS} {Q : jOut → jS → Prop} {i : Nat} {a0 a1 a2 a3 : Value} {x : Int32} (hM : M.1.cls = RX0) (d : decode M.2.1 pc = .ok (.putfield 21, 3)) (he : σ.2 i = jO 0 [a0, a1, a2, a3]) (kk : J X M rm (pc + 3) lc st k n (jset σ i (jO 0 [a0, a1, a2, .int x])) Q) : J X M rm pc lc ((.int x) :: .ref i :: st) k n σ Q := J.putf (T := TX0) (kf := 3) tyX0 tyX0_ok nmX0 d he rfl in_X0 (by decide) (by rw [hM]; exact fl_X0_21) rfl rfl (Or.inl ⟨x, rfl, rfl⟩) (by simp) kk
theorem fl_X2_27 : Cond.fieldLinkNest RX2 27 (TX0 3).1 (TX0 3).2.1 (TX0 3).2.2.1 "WireBook" ∈ lw_tbl := List.mem_of_getElem? (i := 66) (by decide +kernel)
theorem gf_X2_27 {X : jX} {M : jMt} {rm : Room} {pc : Nat} {lc st : List Value} {k n : Nat} {σ : jS} {Q : jOut → jS → Prop} {i : Nat} {a0 a1 a2 a3 : Value} (hM : M.1.cls = RX2) (d : decode M.2.1 pc = .ok (.getfield 27, 3)) (he : σ.2 i = jO 0 [a0, a1, a2, a3]) (kk : J X M rm (pc + 3) lc (a3 :: st) k n σ Q) : J X M rm pc lc (.ref i :: st) k n σ Q := J.getfN (T := TX0) (kf := 3) d he rfl in_X0 (by decide) (by rw [hM]; exact fl_X2_27) rfl kk
theorem fl_X6_135 : Cond.fieldLinkNest RX6 135 (TX0 3).1 (TX0 3).2.1 (TX0 3).2.2.1 "WireBook" ∈ lw_tbl := List.mem_of_getElem? (i := 67) (by decide +kernel)
theorem gf_X6_135 {X : jX} {M : jMt} {rm : Room} {pc : Nat} {lc st : List Value} {k n : Nat} {σ : jS} {Q : jOut → jS → Prop} {i : Nat} {a0 a1 a2 a3 : Value} (hM : M.1.cls = RX6) (d : decode M.2.1 pc = .ok (.getfield 135, 3)) (he : σ.2 i = jO 0 [a0, a1, a2, a3]) (kk : J X M rm (pc + 3) lc (a3 :: st) k n σ Q) : J X M rm pc lc (.ref i :: st) k n σ Q := J.getfN (T := TX0) (kf := 3) d he rfl in_X0 (by decide) (by rw [hM]; exact fl_X6_135) rfl kk
theorem fl_X4_9 : Cond.fieldLink RX4 9 (TX4 0).1 (TX4 0).2.1 (TX4 0).2.2.1 ∈ lw_tbl := List.mem_of_getElem? (i := 84) (by decide +kernel)
theorem gf_X4_9 {X : jX} {M : jMt} {rm : Room} {pc : Nat} {lc st : List Value} {k n : Nat} {σ : jS} {Q : jOut → jS → Prop} {i : Nat} {a0 a1 : Value} (hM : M.1.cls = RX4) (d : decode M.2.1 pc = .ok (.getfield 9, 3)) (he : σ.2 i = jO 3 [a0, a1]) (kk : J X M rm (pc + 3) lc (a0 :: st) k n σ Q) : J X M rm pc lc (.ref i :: st) k n σ Q := J.getf (T := TX4) (kf := 0) d he rfl in_X4 (by decide) (by rw [hM]; exact fl_X4_9) rfl kk
theorem pf_X4_9 {X : jX} {M : jMt} {rm : Room} {pc : Nat} {lc st : List Value} {k n : Nat} {σ : jS} {Q : jOut → jS → Prop} {i : Nat} {a0 a1 : Value} {x : Nat} (hM : M.1.cls = RX4) (hM2 : M.1.name = "<init>") (d : decode M.2.1 pc = .ok (.putfield 9, 3)) (he : σ.2 i = jO 3 [a0, a1]) (kk : J X M rm (pc + 3) lc st k n (jset σ i (jO 3 [.ref x, a1])) Q) : J X M rm pc lc ((.ref x) :: .ref i :: st) k n σ Q := J.putfF (T := TX4) (kf := 0) tyX4 tyX4_ok nmX4 d he rfl in_X4 (by decide) (by rw [hM]; exact fl_X4_9) rfl hM2 (by rw [hM]; rfl) rfl (Or.inr ⟨x, rfl, rfl⟩) (by simp) kk
theorem fl_X3_40 : Cond.fieldLinkNest RX3 40 (TX4 0).1 (TX4 0).2.1 (TX4 0).2.2.1 "WireBook" ∈ lw_tbl := List.mem_of_getElem? (i := 85) (by decide +kernel)
theorem gf_X3_40 {X : jX} {M : jMt} {rm : Room} {pc : Nat} {lc st : List Value} {k n : Nat} {σ : jS} {Q : jOut → jS → Prop} {i : Nat} {a0 a1 : Value} (hM : M.1.cls = RX3) (d : decode M.2.1 pc = .ok (.getfield 40, 3)) (he : σ.2 i = jO 3 [a0, a1]) (kk : J X M rm (pc + 3) lc (a0 :: st) k n σ Q) : J X M rm pc lc (.ref i :: st) k n σ Q := J.getfN (T := TX4) (kf := 0) d he rfl in_X4 (by decide) (by rw [hM]; exact fl_X3_40) rfl kk
theorem fl_X0_28 : Cond.fieldLinkNest RX0 28 (TX4 0).1 (TX4 0).2.1 (TX4 0).2.2.1 "WireBook" ∈ lw_tbl := List.mem_of_getElem? (i := 86) (by decide +kernel)
theorem gf_X0_28 {X : jX} {M : jMt} {rm : Room} {pc : Nat} {lc st : List Value} {k n : Nat} {σ : jS} {Q : jOut → jS → Prop} {i : Nat} {a0 a1 : Value} (hM : M.1.cls = RX0) (d : decode M.2.1 pc = .ok (.getfield 28, 3)) (he : σ.2 i = jO 3 [a0, a1]) (kk : J X M rm (pc + 3) lc (a0 :: st) k n σ Q) : J X M rm pc lc (.ref i :: st) k n σ Q := J.getfN (T := TX4) (kf := 0) d he rfl in_X4 (by decide) (by rw [hM]; exact fl_X0_28) rfl kk
theorem fl_X6_79 : Cond.fieldLinkNest RX6 79 (TX4 0).1 (TX4 0).2.1 (TX4 0).2.2.1 "WireBook" ∈ lw_tbl := List.mem_of_getElem? (i := 87) (by decide +kernel)
theorem gf_X6_79 {X : jX} {M : jMt} {rm : Room} {pc : Nat} {lc st : List Value} {k n : Nat} {σ : jS} {Q : jOut → jS → Prop} {i : Nat} {a0 a1 : Value} (hM : M.1.cls = RX6) (d : decode M.2.1 pc = .ok (.getfield 79, 3)) (he : σ.2 i = jO 3 [a0, a1]) (kk : J X M rm (pc + 3) lc (a0 :: st) k n σ Q) : J X M rm pc lc (.ref i :: st) k n σ Q := J.getfN (T := TX4) (kf := 0) d he rfl in_X4 (by decide) (by rw [hM]; exact fl_X6_79) rfl kk
theorem fl_X4_15 : Cond.fieldLink RX4 15 (TX4 1).1 (TX4 1).2.1 (TX4 1).2.2.1 ∈ lw_tbl := List.mem_of_getElem? (i := 88) (by decide +kernel)
theorem gf_X4_15 {X : jX} {M : jMt} {rm : Room} {pc : Nat} {lc st : List Value} {k n : Nat} {σ : jS} {Q : jOut → jS → Prop} {i : Nat} {a0 a1 : Value} (hM : M.1.cls = RX4) (d : decode M.2.1 pc = .ok (.getfield 15, 3)) (he : σ.2 i = jO 3 [a0, a1]) (kk : J X M rm (pc + 3) lc (a1 :: st) k n σ Q) : J X M rm pc lc (.ref i :: st) k n σ Q := J.getf (T := TX4) (kf := 1) d he rfl in_X4 (by decide) (by rw [hM]; exact fl_X4_15) rfl kk
theorem pf_X4_15 {X : jX} {M : jMt} {rm : Room} {pc : Nat} {lc st : List Value} {k n : Nat} {σ : jS} {Q : jOut → jS → Prop} {i : Nat} {a0 a1 : Value} {x : Int32} (hM : M.1.cls = RX4) (d : decode M.2.1 pc = .ok (.putfield 15, 3)) (he : σ.2 i = jO 3 [a0, a1]) (kk : J X M rm (pc + 3) lc st k n (jset σ i (jO 3 [a0, .int x])) Q) : J X M rm pc lc ((.int x) :: .ref i :: st) k n σ Q := J.putf (T := TX4) (kf := 1) tyX4 tyX4_ok nmX4 d he rfl in_X4 (by decide) (by rw [hM]; exact fl_X4_15) rfl rfl (Or.inl ⟨x, rfl, rfl⟩) (by simp) kk
theorem fl_X6_59 : Cond.fieldLinkNest RX6 59 (TX4 1).1 (TX4 1).2.1 (TX4 1).2.2.1 "WireBook" ∈ lw_tbl := List.mem_of_getElem? (i := 89) (by decide +kernel)
theorem gf_X6_59 {X : jX} {M : jMt} {rm : Room} {pc : Nat} {lc st : List Value} {k n : Nat} {σ : jS} {Q : jOut → jS → Prop} {i : Nat} {a0 a1 : Value} (hM : M.1.cls = RX6) (d : decode M.2.1 pc = .ok (.getfield 59, 3)) (he : σ.2 i = jO 3 [a0, a1]) (kk : J X M rm (pc + 3) lc (a1 :: st) k n σ Q) : J X M rm pc lc (.ref i :: st) k n σ Q := J.getfN (T := TX4) (kf := 1) d he rfl in_X4 (by decide) (by rw [hM]; exact fl_X6_59) rfl kk
theorem fl_X0_25 : Cond.fieldLinkNest RX0 25 (TX4 1).1 (TX4 1).2.1 (TX4 1).2.2.1 "WireBook" ∈ lw_tbl := List.mem_of_getElem? (i := 90) (by decide +kernel)
theorem gf_X0_25 {X : jX} {M : jMt} {rm : Room} {pc : Nat} {lc st : List Value} {k n : Nat} {σ : jS} {Q : jOut → jS → Prop} {i : Nat} {a0 a1 : Value} (hM : M.1.cls = RX0) (d : decode M.2.1 pc = .ok (.getfield 25, 3)) (he : σ.2 i = jO 3 [a0, a1]) (kk : J X M rm (pc + 3) lc (a1 :: st) k n σ Q) : J X M rm pc lc (.ref i :: st) k n σ Q := J.getfN (T := TX4) (kf := 1) d he rfl in_X4 (by decide) (by rw [hM]; exact fl_X0_25) rfl kk
theorem fl_X3_43 : Cond.fieldLinkNest RX3 43 (TX4 1).1 (TX4 1).2.1 (TX4 1).2.2.1 "WireBook" ∈ lw_tbl := List.mem_of_getElem? (i := 91) (by decide +kernel)
theorem gf_X3_43 {X : jX} {M : jMt} {rm : Room} {pc : Nat} {lc st : List Value} {k n : Nat} {σ : jS} {Q : jOut → jS → Prop} {i : Nat} {a0 a1 : Value} (hM : M.1.cls = RX3) (d : decode M.2.1 pc = .ok (.getfield 43, 3)) (he : σ.2 i = jO 3 [a0, a1]) (kk : J X M rm (pc + 3) lc (a1 :: st) k n σ Q) : J X M rm pc lc (.ref i :: st) k n σ Q := J.getfN (T := TX4) (kf := 1) d he rfl in_X4 (by decide) (by rw [hM]; exact fl_X3_43) rfl kk
theorem fl_X3_11 : Cond.fieldLink RX3 11 (TX3 0).1 (TX3 0).2.1 (TX3 0).2.2.1 ∈ lw_tbl := List.mem_of_getElem? (i := 108) (by decide +kernel)
theorem gf_X3_11 {X : jX} {M : jMt} {rm : Room} {pc : Nat} {lc st : List Value} {k n : Nat} {σ : jS} {Q : jOut → jS → Prop} {i : Nat} {a0 a1 a2 a3 a4 : Value} (hM : M.1.cls = RX3) (d : decode M.2.1 pc = .ok (.getfield 11, 3)) (he : σ.2 i = jO 2 [a0, a1, a2, a3, a4]) (kk : J X M rm (pc + 3) lc (a0 :: st) k n σ Q) : J X M rm pc lc (.ref i :: st) k n σ Q := J.getf (T := TX3) (kf := 0) d he rfl in_X3 (by decide) (by rw [hM]; exact fl_X3_11) rfl kk
theorem pf_X3_11 {X : jX} {M : jMt} {rm : Room} {pc : Nat} {lc st : List Value} {k n : Nat} {σ : jS} {Q : jOut → jS → Prop} {i : Nat} {a0 a1 a2 a3 a4 : Value} {x : Nat} (hM : M.1.cls = RX3) (hM2 : M.1.name = "<init>") (d : decode M.2.1 pc = .ok (.putfield 11, 3)) (he : σ.2 i = jO 2 [a0, a1, a2, a3, a4]) (kk : J X M rm (pc + 3) lc st k n (jset σ i (jO 2 [.ref x, a1, a2, a3, a4])) Q) : J X M rm pc lc ((.ref x) :: .ref i :: st) k n σ Q := J.putfF (T := TX3) (kf := 0) tyX3 tyX3_ok nmX3 d he rfl in_X3 (by decide) (by rw [hM]; exact fl_X3_11) rfl hM2 (by rw [hM]; rfl) rfl (Or.inr ⟨x, rfl, rfl⟩) (by simp) kk
theorem fl_X6_93 : Cond.fieldLinkNest RX6 93 (TX3 0).1 (TX3 0).2.1 (TX3 0).2.2.1 "WireBook" ∈ lw_tbl := List.mem_of_getElem? (i := 109) (by decide +kernel)
theorem gf_X6_93 {X : jX} {M : jMt} {rm : Room} {pc : Nat} {lc st : List Value} {k n : Nat} {σ : jS} {Q : jOut → jS → Prop} {i : Nat} {a0 a1 a2 a3 a4 : Value} (hM : M.1.cls = RX6) (d : decode M.2.1 pc = .ok (.getfield 93, 3)) (he : σ.2 i = jO 2 [a0, a1, a2, a3, a4]) (kk : J X M rm (pc + 3) lc (a0 :: st) k n σ Q) : J X M rm pc lc (.ref i :: st) k n σ Q := J.getfN (T := TX3) (kf := 0) d he rfl in_X3 (by decide) (by rw [hM]; exact fl_X6_93) rfl kk
theorem fl_X3_15 : Cond.fieldLink RX3 15 (TX3 1).1 (TX3 1).2.1 (TX3 1).2.2.1 ∈ lw_tbl := List.mem_of_getElem? (i := 110) (by decide +kernel)
theorem gf_X3_15 {X : jX} {M : jMt} {rm : Room} {pc : Nat} {lc st : List Value} {k n : Nat} {σ : jS} {Q : jOut → jS → Prop} {i : Nat} {a0 a1 a2 a3 a4 : Value} (hM : M.1.cls = RX3) (d : decode M.2.1 pc = .ok (.getfield 15, 3)) (he : σ.2 i = jO 2 [a0, a1, a2, a3, a4]) (kk : J X M rm (pc + 3) lc (a1 :: st) k n σ Q) : J X M rm pc lc (.ref i :: st) k n σ Q := J.getf (T := TX3) (kf := 1) d he rfl in_X3 (by decide) (by rw [hM]; exact fl_X3_15) rfl kk
theorem pf_X3_15 {X : jX} {M : jMt} {rm : Room} {pc : Nat} {lc st : List Value} {k n : Nat} {σ : jS} {Q : jOut → jS → Prop} {i : Nat} {a0 a1 a2 a3 a4 : Value} {x : Nat} (hM : M.1.cls = RX3) (hM2 : M.1.name = "<init>") (d : decode M.2.1 pc = .ok (.putfield 15, 3)) (he : σ.2 i = jO 2 [a0, a1, a2, a3, a4]) (kk : J X M rm (pc + 3) lc st k n (jset σ i (jO 2 [a0, .ref x, a2, a3, a4])) Q) : J X M rm pc lc ((.ref x) :: .ref i :: st) k n σ Q := J.putfF (T := TX3) (kf := 1) tyX3 tyX3_ok nmX3 d he rfl in_X3 (by decide) (by rw [hM]; exact fl_X3_15) rfl hM2 (by rw [hM]; rfl) rfl (Or.inr ⟨x, rfl, rfl⟩) (by simp) kk
theorem fl_X6_98 : Cond.fieldLinkNest RX6 98 (TX3 1).1 (TX3 1).2.1 (TX3 1).2.2.1 "WireBook" ∈ lw_tbl := List.mem_of_getElem? (i := 111) (by decide +kernel)
theorem gf_X6_98 {X : jX} {M : jMt} {rm : Room} {pc : Nat} {lc st : List Value} {k n : Nat} {σ : jS} {Q : jOut → jS → Prop} {i : Nat} {a0 a1 a2 a3 a4 : Value} (hM : M.1.cls = RX6) (d : decode M.2.1 pc = .ok (.getfield 98, 3)) (he : σ.2 i = jO 2 [a0, a1, a2, a3, a4]) (kk : J X M rm (pc + 3) lc (a1 :: st) k n σ Q) : J X M rm pc lc (.ref i :: st) k n σ Q := J.getfN (T := TX3) (kf := 1) d he rfl in_X3 (by decide) (by rw [hM]; exact fl_X6_98) rfl kk
theorem fl_X3_20 : Cond.fieldLink RX3 20 (TX3 2).1 (TX3 2).2.1 (TX3 2).2.2.1 ∈ lw_tbl := List.mem_of_getElem? (i := 112) (by decide +kernel)
theorem gf_X3_20 {X : jX} {M : jMt} {rm : Room} {pc : Nat} {lc st : List Value} {k n : Nat} {σ : jS} {Q : jOut → jS → Prop} {i : Nat} {a0 a1 a2 a3 a4 : Value} (hM : M.1.cls = RX3) (d : decode M.2.1 pc = .ok (.getfield 20, 3)) (he : σ.2 i = jO 2 [a0, a1, a2, a3, a4]) (kk : J X M rm (pc + 3) lc (a2 :: st) k n σ Q) : J X M rm pc lc (.ref i :: st) k n σ Q := J.getf (T := TX3) (kf := 2) d he rfl in_X3 (by decide) (by rw [hM]; exact fl_X3_20) rfl kk
theorem pf_X3_20 {X : jX} {M : jMt} {rm : Room} {pc : Nat} {lc st : List Value} {k n : Nat} {σ : jS} {Q : jOut → jS → Prop} {i : Nat} {a0 a1 a2 a3 a4 : Value} {x : Nat} (hM : M.1.cls = RX3) (hM2 : M.1.name = "<init>") (d : decode M.2.1 pc = .ok (.putfield 20, 3)) (he : σ.2 i = jO 2 [a0, a1, a2, a3, a4]) (kk : J X M rm (pc + 3) lc st k n (jset σ i (jO 2 [a0, a1, .ref x, a3, a4])) Q) : J X M rm pc lc ((.ref x) :: .ref i :: st) k n σ Q := J.putfF (T := TX3) (kf := 2) tyX3 tyX3_ok nmX3 d he rfl in_X3 (by decide) (by rw [hM]; exact fl_X3_20) rfl hM2 (by rw [hM]; rfl) rfl (Or.inr ⟨x, rfl, rfl⟩) (by simp) kk
theorem fl_X3_23 : Cond.fieldLink RX3 23 (TX3 3).1 (TX3 3).2.1 (TX3 3).2.2.1 ∈ lw_tbl := List.mem_of_getElem? (i := 113) (by decide +kernel)
theorem gf_X3_23 {X : jX} {M : jMt} {rm : Room} {pc : Nat} {lc st : List Value} {k n : Nat} {σ : jS} {Q : jOut → jS → Prop} {i : Nat} {a0 a1 a2 a3 a4 : Value} (hM : M.1.cls = RX3) (d : decode M.2.1 pc = .ok (.getfield 23, 3)) (he : σ.2 i = jO 2 [a0, a1, a2, a3, a4]) (kk : J X M rm (pc + 3) lc (a3 :: st) k n σ Q) : J X M rm pc lc (.ref i :: st) k n σ Q := J.getf (T := TX3) (kf := 3) d he rfl in_X3 (by decide) (by rw [hM]; exact fl_X3_23) rfl kk
theorem pf_X3_23 {X : jX} {M : jMt} {rm : Room} {pc : Nat} {lc st : List Value} {k n : Nat} {σ : jS} {Q : jOut → jS → Prop} {i : Nat} {a0 a1 a2 a3 a4 : Value} {x : Nat} (hM : M.1.cls = RX3) (hM2 : M.1.name = "<init>") (d : decode M.2.1 pc = .ok (.putfield 23, 3)) (he : σ.2 i = jO 2 [a0, a1, a2, a3, a4]) (kk : J X M rm (pc + 3) lc st k n (jset σ i (jO 2 [a0, a1, a2, .ref x, a4])) Q) : J X M rm pc lc ((.ref x) :: .ref i :: st) k n σ Q := J.putfF (T := TX3) (kf := 3) tyX3 tyX3_ok nmX3 d he rfl in_X3 (by decide) (by rw [hM]; exact fl_X3_23) rfl hM2 (by rw [hM]; rfl) rfl (Or.inr ⟨x, rfl, rfl⟩) (by simp) kk
theorem fl_X3_32 : Cond.fieldLink RX3 32 (TX3 4).1 (TX3 4).2.1 (TX3 4).2.2.1 ∈ lw_tbl := List.mem_of_getElem? (i := 114) (by decide +kernel)
theorem gf_X3_32 {X : jX} {M : jMt} {rm : Room} {pc : Nat} {lc st : List Value} {k n : Nat} {σ : jS} {Q : jOut → jS → Prop} {i : Nat} {a0 a1 a2 a3 a4 : Value} (hM : M.1.cls = RX3) (d : decode M.2.1 pc = .ok (.getfield 32, 3)) (he : σ.2 i = jO 2 [a0, a1, a2, a3, a4]) (kk : J X M rm (pc + 3) lc (a4 :: st) k n σ Q) : J X M rm pc lc (.ref i :: st) k n σ Q := J.getf (T := TX3) (kf := 4) d he rfl in_X3 (by decide) (by rw [hM]; exact fl_X3_32) rfl kk
theorem pf_X3_32 {X : jX} {M : jMt} {rm : Room} {pc : Nat} {lc st : List Value} {k n : Nat} {σ : jS} {Q : jOut → jS → Prop} {i : Nat} {a0 a1 a2 a3 a4 : Value} {x : Int32} (hM : M.1.cls = RX3) (d : decode M.2.1 pc = .ok (.putfield 32, 3)) (he : σ.2 i = jO 2 [a0, a1, a2, a3, a4]) (kk : J X M rm (pc + 3) lc st k n (jset σ i (jO 2 [a0, a1, a2, a3, .int x])) Q) : J X M rm pc lc ((.int x) :: .ref i :: st) k n σ Q := J.putf (T := TX3) (kf := 4) tyX3 tyX3_ok nmX3 d he rfl in_X3 (by decide) (by rw [hM]; exact fl_X3_32) rfl rfl (Or.inl ⟨x, rfl, rfl⟩) (by simp) kk
theorem fl_X6_84 : Cond.fieldLinkNest RX6 84 (TX3 4).1 (TX3 4).2.1 (TX3 4).2.2.1 "WireBook" ∈ lw_tbl := List.mem_of_getElem? (i := 115) (by decide +kernel)
theorem gf_X6_84 {X : jX} {M : jMt} {rm : Room} {pc : Nat} {lc st : List Value} {k n : Nat} {σ : jS} {Q : jOut → jS → Prop} {i : Nat} {a0 a1 a2 a3 a4 : Value} (hM : M.1.cls = RX6) (d : decode M.2.1 pc = .ok (.getfield 84, 3)) (he : σ.2 i = jO 2 [a0, a1, a2, a3, a4]) (kk : J X M rm (pc + 3) lc (a4 :: st) k n σ Q) : J X M rm pc lc (.ref i :: st) k n σ Q := J.getfN (T := TX3) (kf := 4) d he rfl in_X3 (by decide) (by rw [hM]; exact fl_X6_84) rfl kk
theorem fl_X5_9 : Cond.fieldLink RX5 9 (TX5 0).1 (TX5 0).2.1 (TX5 0).2.2.1 ∈ lw_tbl := List.mem_of_getElem? (i := 133) (by decide +kernel)
theorem gf_X5_9 {X : jX} {M : jMt} {rm : Room} {pc : Nat} {lc st : List Value} {k n : Nat} {σ : jS} {Q : jOut → jS → Prop} {i : Nat} {a0 a1 : Value} (hM : M.1.cls = RX5) (d : decode M.2.1 pc = .ok (.getfield 9, 3)) (he : σ.2 i = jO 4 [a0, a1]) (kk : J X M rm (pc + 3) lc (a0 :: st) k n σ Q) : J X M rm pc lc (.ref i :: st) k n σ Q := J.getf (T := TX5) (kf := 0) d he rfl in_X5 (by decide) (by rw [hM]; exact fl_X5_9) rfl kk
theorem pf_X5_9 {X : jX} {M : jMt} {rm : Room} {pc : Nat} {lc st : List Value} {k n : Nat} {σ : jS} {Q : jOut → jS → Prop} {i : Nat} {a0 a1 : Value} {x : Nat} (hM : M.1.cls = RX5) (hM2 : M.1.name = "<init>") (d : decode M.2.1 pc = .ok (.putfield 9, 3)) (he : σ.2 i = jO 4 [a0, a1]) (kk : J X M rm (pc + 3) lc st k n (jset σ i (jO 4 [.ref x, a1])) Q) : J X M rm pc lc ((.ref x) :: .ref i :: st) k n σ Q := J.putfF (T := TX5) (kf := 0) tyX5 tyX5_ok nmX5 d he rfl in_X5 (by decide) (by rw [hM]; exact fl_X5_9) rfl hM2 (by rw [hM]; rfl) rfl (Or.inr ⟨x, rfl, rfl⟩) (by simp) kk
theorem fl_X6_174 : Cond.fieldLinkNest RX6 174 (TX5 0).1 (TX5 0).2.1 (TX5 0).2.2.1 "WireBook" ∈ lw_tbl := List.mem_of_getElem? (i := 134) (by decide +kernel)
theorem gf_X6_174 {X : jX} {M : jMt} {rm : Room} {pc : Nat} {lc st : List Value} {k n : Nat} {σ : jS} {Q : jOut → jS → Prop} {i : Nat} {a0 a1 : Value} (hM : M.1.cls = RX6) (d : decode M.2.1 pc = .ok (.getfield 174, 3)) (he : σ.2 i = jO 4 [a0, a1]) (kk : J X M rm (pc + 3) lc (a0 :: st) k n σ Q) : J X M rm pc lc (.ref i :: st) k n σ Q := J.getfN (T := TX5) (kf := 0) d he rfl in_X5 (by decide) (by rw [hM]; exact fl_X6_174) rfl kk
theorem fl_X5_15 : Cond.fieldLink RX5 15 (TX5 1).1 (TX5 1).2.1 (TX5 1).2.2.1 ∈ lw_tbl := List.mem_of_getElem? (i := 135) (by decide +kernel)
theorem gf_X5_15 {X : jX} {M : jMt} {rm : Room} {pc : Nat} {lc st : List Value} {k n : Nat} {σ : jS} {Q : jOut → jS → Prop} {i : Nat} {a0 a1 : Value} (hM : M.1.cls = RX5) (d : decode M.2.1 pc = .ok (.getfield 15, 3)) (he : σ.2 i = jO 4 [a0, a1]) (kk : J X M rm (pc + 3) lc (a1 :: st) k n σ Q) : J X M rm pc lc (.ref i :: st) k n σ Q := J.getf (T := TX5) (kf := 1) d he rfl in_X5 (by decide) (by rw [hM]; exact fl_X5_15) rfl kk
theorem pf_X5_15 {X : jX} {M : jMt} {rm : Room} {pc : Nat} {lc st : List Value} {k n : Nat} {σ : jS} {Q : jOut → jS → Prop} {i : Nat} {a0 a1 : Value} {x : Int32} (hM : M.1.cls = RX5) (d : decode M.2.1 pc = .ok (.putfield 15, 3)) (he : σ.2 i = jO 4 [a0, a1]) (kk : J X M rm (pc + 3) lc st k n (jset σ i (jO 4 [a0, .int x])) Q) : J X M rm pc lc ((.int x) :: .ref i :: st) k n σ Q := J.putf (T := TX5) (kf := 1) tyX5 tyX5_ok nmX5 d he rfl in_X5 (by decide) (by rw [hM]; exact fl_X5_15) rfl rfl (Or.inl ⟨x, rfl, rfl⟩) (by simp) kk
theorem fl_X6_170 : Cond.fieldLinkNest RX6 170 (TX5 1).1 (TX5 1).2.1 (TX5 1).2.2.1 "WireBook" ∈ lw_tbl := List.mem_of_getElem? (i := 136) (by decide +kernel)
theorem gf_X6_170 {X : jX} {M : jMt} {rm : Room} {pc : Nat} {lc st : List Value} {k n : Nat} {σ : jS} {Q : jOut → jS → Prop} {i : Nat} {a0 a1 : Value} (hM : M.1.cls = RX6) (d : decode M.2.1 pc = .ok (.getfield 170, 3)) (he : σ.2 i = jO 4 [a0, a1]) (kk : J X M rm (pc + 3) lc (a1 :: st) k n σ Q) : J X M rm pc lc (.ref i :: st) k n σ Q := J.getfN (T := TX5) (kf := 1) d he rfl in_X5 (by decide) (by rw [hM]; exact fl_X6_170) rfl kk
theorem fl_X2_9 : Cond.fieldLink RX2 9 (TX2 0).1 (TX2 0).2.1 (TX2 0).2.2.1 ∈ lw_tbl := List.mem_of_getElem? (i := 148) (by decide +kernel)
theorem gf_X2_9 {X : jX} {M : jMt} {rm : Room} {pc : Nat} {lc st : List Value} {k n : Nat} {σ : jS} {Q : jOut → jS → Prop} {i : Nat} {a0 a1 : Value} (hM : M.1.cls = RX2) (d : decode M.2.1 pc = .ok (.getfield 9, 3)) (he : σ.2 i = jO 1 [a0, a1]) (kk : J X M rm (pc + 3) lc (a0 :: st) k n σ Q) : J X M rm pc lc (.ref i :: st) k n σ Q := J.getf (T := TX2) (kf := 0) d he rfl in_X2 (by decide) (by rw [hM]; exact fl_X2_9) rfl kk
theorem pf_X2_9 {X : jX} {M : jMt} {rm : Room} {pc : Nat} {lc st : List Value} {k n : Nat} {σ : jS} {Q : jOut → jS → Prop} {i : Nat} {a0 a1 : Value} {x : Nat} (hM : M.1.cls = RX2) (hM2 : M.1.name = "<init>") (d : decode M.2.1 pc = .ok (.putfield 9, 3)) (he : σ.2 i = jO 1 [a0, a1]) (kk : J X M rm (pc + 3) lc st k n (jset σ i (jO 1 [.ref x, a1])) Q) : J X M rm pc lc ((.ref x) :: .ref i :: st) k n σ Q := J.putfF (T := TX2) (kf := 0) tyX2 tyX2_ok nmX2 d he rfl in_X2 (by decide) (by rw [hM]; exact fl_X2_9) rfl hM2 (by rw [hM]; rfl) rfl (Or.inr ⟨x, rfl, rfl⟩) (by simp) kk
theorem fl_X2_15 : Cond.fieldLink RX2 15 (TX2 1).1 (TX2 1).2.1 (TX2 1).2.2.1 ∈ lw_tbl := List.mem_of_getElem? (i := 149) (by decide +kernel)
theorem gf_X2_15 {X : jX} {M : jMt} {rm : Room} {pc : Nat} {lc st : List Value} {k n : Nat} {σ : jS} {Q : jOut → jS → Prop} {i : Nat} {a0 a1 : Value} (hM : M.1.cls = RX2) (d : decode M.2.1 pc = .ok (.getfield 15, 3)) (he : σ.2 i = jO 1 [a0, a1]) (kk : J X M rm (pc + 3) lc (a1 :: st) k n σ Q) : J X M rm pc lc (.ref i :: st) k n σ Q := J.getf (T := TX2) (kf := 1) d he rfl in_X2 (by decide) (by rw [hM]; exact fl_X2_15) rfl kk
theorem pf_X2_15 {X : jX} {M : jMt} {rm : Room} {pc : Nat} {lc st : List Value} {k n : Nat} {σ : jS} {Q : jOut → jS → Prop} {i : Nat} {a0 a1 : Value} {x : Nat} (hM : M.1.cls = RX2) (hM2 : M.1.name = "<init>") (d : decode M.2.1 pc = .ok (.putfield 15, 3)) (he : σ.2 i = jO 1 [a0, a1]) (kk : J X M rm (pc + 3) lc st k n (jset σ i (jO 1 [a0, .ref x])) Q) : J X M rm pc lc ((.ref x) :: .ref i :: st) k n σ Q := J.putfF (T := TX2) (kf := 1) tyX2 tyX2_ok nmX2 d he rfl in_X2 (by decide) (by rw [hM]; exact fl_X2_15) rfl hM2 (by rw [hM]; rfl) rfl (Or.inr ⟨x, rfl, rfl⟩) (by simp) kk
theorem fl_X6_163 : Cond.fieldLinkNest RX6 163 (TX2 1).1 (TX2 1).2.1 (TX2 1).2.2.1 "WireBook" ∈ lw_tbl := List.mem_of_getElem? (i := 150) (by decide +kernel)
theorem gf_X6_163 {X : jX} {M : jMt} {rm : Room} {pc : Nat} {lc st : List Value} {k n : Nat} {σ : jS} {Q : jOut → jS → Prop} {i : Nat} {a0 a1 : Value} (hM : M.1.cls = RX6) (d : decode M.2.1 pc = .ok (.getfield 163, 3)) (he : σ.2 i = jO 1 [a0, a1]) (kk : J X M rm (pc + 3) lc (a1 :: st) k n σ Q) : J X M rm pc lc (.ref i :: st) k n σ Q := J.getfN (T := TX2) (kf := 1) d he rfl in_X2 (by decide) (by rw [hM]; exact fl_X6_163) rfl kk
theorem fl_X6_11 : Cond.fieldLink RX6 11 (TX6 0).1 (TX6 0).2.1 (TX6 0).2.2.1 ∈ lw_tbl := List.mem_of_getElem? (i := 156) (by decide +kernel)
theorem gf_X6_11 {X : jX} {M : jMt} {rm : Room} {pc : Nat} {lc st : List Value} {k n : Nat} {σ : jS} {Q : jOut → jS → Prop} {i : Nat} {a0 a1 a2 a3 a4 a5 a6 a7 : Value} (hM : M.1.cls = RX6) (d : decode M.2.1 pc = .ok (.getfield 11, 3)) (he : σ.2 i = jO 5 [a0, a1, a2, a3, a4, a5, a6, a7]) (kk : J X M rm (pc + 3) lc (a0 :: st) k n σ Q) : J X M rm pc lc (.ref i :: st) k n σ Q := J.getf (T := TX6) (kf := 0) d he rfl in_X6 (by decide) (by rw [hM]; exact fl_X6_11) rfl kk
theorem pf_X6_11 {X : jX} {M : jMt} {rm : Room} {pc : Nat} {lc st : List Value} {k n : Nat} {σ : jS} {Q : jOut → jS → Prop} {i : Nat} {a0 a1 a2 a3 a4 a5 a6 a7 : Value} {x : Nat} (hM : M.1.cls = RX6) (hM2 : M.1.name = "<init>") (d : decode M.2.1 pc = .ok (.putfield 11, 3)) (he : σ.2 i = jO 5 [a0, a1, a2, a3, a4, a5, a6, a7]) (kk : J X M rm (pc + 3) lc st k n (jset σ i (jO 5 [.ref x, a1, a2, a3, a4, a5, a6, a7])) Q) : J X M rm pc lc ((.ref x) :: .ref i :: st) k n σ Q := J.putfF (T := TX6) (kf := 0) tyX6 tyX6_ok nmX6 d he rfl in_X6 (by decide) (by rw [hM]; exact fl_X6_11) rfl hM2 (by rw [hM]; rfl) rfl (Or.inr ⟨x, rfl, rfl⟩) (by simp) kk
theorem fl_X6_19 : Cond.fieldLink RX6 19 (TX6 1).1 (TX6 1).2.1 (TX6 1).2.2.1 ∈ lw_tbl := List.mem_of_getElem? (i := 157) (by decide +kernel)
theorem gf_X6_19 {X : jX} {M : jMt} {rm : Room} {pc : Nat} {lc st : List Value} {k n : Nat} {σ : jS} {Q : jOut → jS → Prop} {i : Nat} {a0 a1 a2 a3 a4 a5 a6 a7 : Value} (hM : M.1.cls = RX6) (d : decode M.2.1 pc = .ok (.getfield 19, 3)) (he : σ.2 i = jO 5 [a0, a1, a2, a3, a4, a5, a6, a7]) (kk : J X M rm (pc + 3) lc (a1 :: st) k n σ Q) : J X M rm pc lc (.ref i :: st) k n σ Q := J.getf (T := TX6) (kf := 1) d he rfl in_X6 (by decide) (by rw [hM]; exact fl_X6_19) rfl kk
theorem pf_X6_19 {X : jX} {M : jMt} {rm : Room} {pc : Nat} {lc st : List Value} {k n : Nat} {σ : jS} {Q : jOut → jS → Prop} {i : Nat} {a0 a1 a2 a3 a4 a5 a6 a7 : Value} {x : Nat} (hM : M.1.cls = RX6) (hM2 : M.1.name = "<init>") (d : decode M.2.1 pc = .ok (.putfield 19, 3)) (he : σ.2 i = jO 5 [a0, a1, a2, a3, a4, a5, a6, a7]) (kk : J X M rm (pc + 3) lc st k n (jset σ i (jO 5 [a0, .ref x, a2, a3, a4, a5, a6, a7])) Q) : J X M rm pc lc ((.ref x) :: .ref i :: st) k n σ Q := J.putfF (T := TX6) (kf := 1) tyX6 tyX6_ok nmX6 d he rfl in_X6 (by decide) (by rw [hM]; exact fl_X6_19) rfl hM2 (by rw [hM]; rfl) rfl (Or.inr ⟨x, rfl, rfl⟩) (by simp) kk
theorem fl_X6_26 : Cond.fieldLink RX6 26 (TX6 2).1 (TX6 2).2.1 (TX6 2).2.2.1 ∈ lw_tbl := List.mem_of_getElem? (i := 158) (by decide +kernel)
theorem gf_X6_26 {X : jX} {M : jMt} {rm : Room} {pc : Nat} {lc st : List Value} {k n : Nat} {σ : jS} {Q : jOut → jS → Prop} {i : Nat} {a0 a1 a2 a3 a4 a5 a6 a7 : Value} (hM : M.1.cls = RX6) (d : decode M.2.1 pc = .ok (.getfield 26, 3)) (he : σ.2 i = jO 5 [a0, a1, a2, a3, a4, a5, a6, a7]) (kk : J X M rm (pc + 3) lc (a2 :: st) k n σ Q) : J X M rm pc lc (.ref i :: st) k n σ Q := J.getf (T := TX6) (kf := 2) d he rfl in_X6 (by decide) (by rw [hM]; exact fl_X6_26) rfl kk
theorem pf_X6_26 {X : jX} {M : jMt} {rm : Room} {pc : Nat} {lc st : List Value} {k n : Nat} {σ : jS} {Q : jOut → jS → Prop} {i : Nat} {a0 a1 a2 a3 a4 a5 a6 a7 : Value} {x : Nat} (hM : M.1.cls = RX6) (hM2 : M.1.name = "<init>") (d : decode M.2.1 pc = .ok (.putfield 26, 3)) (he : σ.2 i = jO 5 [a0, a1, a2, a3, a4, a5, a6, a7]) (kk : J X M rm (pc + 3) lc st k n (jset σ i (jO 5 [a0, a1, .ref x, a3, a4, a5, a6, a7])) Q) : J X M rm pc lc ((.ref x) :: .ref i :: st) k n σ Q := J.putfF (T := TX6) (kf := 2) tyX6 tyX6_ok nmX6 d he rfl in_X6 (by decide) (by rw [hM]; exact fl_X6_26) rfl hM2 (by rw [hM]; rfl) rfl (Or.inr ⟨x, rfl, rfl⟩) (by simp) kk
theorem fl_X6_33 : Cond.fieldLink RX6 33 (TX6 3).1 (TX6 3).2.1 (TX6 3).2.2.1 ∈ lw_tbl := List.mem_of_getElem? (i := 159) (by decide +kernel)
theorem gf_X6_33 {X : jX} {M : jMt} {rm : Room} {pc : Nat} {lc st : List Value} {k n : Nat} {σ : jS} {Q : jOut → jS → Prop} {i : Nat} {a0 a1 a2 a3 a4 a5 a6 a7 : Value} (hM : M.1.cls = RX6) (d : decode M.2.1 pc = .ok (.getfield 33, 3)) (he : σ.2 i = jO 5 [a0, a1, a2, a3, a4, a5, a6, a7]) (kk : J X M rm (pc + 3) lc (a3 :: st) k n σ Q) : J X M rm pc lc (.ref i :: st) k n σ Q := J.getf (T := TX6) (kf := 3) d he rfl in_X6 (by decide) (by rw [hM]; exact fl_X6_33) rfl kk
theorem pf_X6_33 {X : jX} {M : jMt} {rm : Room} {pc : Nat} {lc st : List Value} {k n : Nat} {σ : jS} {Q : jOut → jS → Prop} {i : Nat} {a0 a1 a2 a3 a4 a5 a6 a7 : Value} {x : Nat} (hM : M.1.cls = RX6) (hM2 : M.1.name = "<init>") (d : decode M.2.1 pc = .ok (.putfield 33, 3)) (he : σ.2 i = jO 5 [a0, a1, a2, a3, a4, a5, a6, a7]) (kk : J X M rm (pc + 3) lc st k n (jset σ i (jO 5 [a0, a1, a2, .ref x, a4, a5, a6, a7])) Q) : J X M rm pc lc ((.ref x) :: .ref i :: st) k n σ Q := J.putfF (T := TX6) (kf := 3) tyX6 tyX6_ok nmX6 d he rfl in_X6 (by decide) (by rw [hM]; exact fl_X6_33) rfl hM2 (by rw [hM]; rfl) rfl (Or.inr ⟨x, rfl, rfl⟩) (by simp) kk
theorem fl_X6_40 : Cond.fieldLink RX6 40 (TX6 4).1 (TX6 4).2.1 (TX6 4).2.2.1 ∈ lw_tbl := List.mem_of_getElem? (i := 160) (by decide +kernel)
theorem gf_X6_40 {X : jX} {M : jMt} {rm : Room} {pc : Nat} {lc st : List Value} {k n : Nat} {σ : jS} {Q : jOut → jS → Prop} {i : Nat} {a0 a1 a2 a3 a4 a5 a6 a7 : Value} (hM : M.1.cls = RX6) (d : decode M.2.1 pc = .ok (.getfield 40, 3)) (he : σ.2 i = jO 5 [a0, a1, a2, a3, a4, a5, a6, a7]) (kk : J X M rm (pc + 3) lc (a4 :: st) k n σ Q) : J X M rm pc lc (.ref i :: st) k n σ Q := J.getf (T := TX6) (kf := 4) d he rfl in_X6 (by decide) (by rw [hM]; exact fl_X6_40) rfl kk
theorem pf_X6_40 {X : jX} {M : jMt} {rm : Room} {pc : Nat} {lc st : List Value} {k n : Nat} {σ : jS} {Q : jOut → jS → Prop} {i : Nat} {a0 a1 a2 a3 a4 a5 a6 a7 : Value} {x : Nat} (hM : M.1.cls = RX6) (hM2 : M.1.name = "<init>") (d : decode M.2.1 pc = .ok (.putfield 40, 3)) (he : σ.2 i = jO 5 [a0, a1, a2, a3, a4, a5, a6, a7]) (kk : J X M rm (pc + 3) lc st k n (jset σ i (jO 5 [a0, a1, a2, a3, .ref x, a5, a6, a7])) Q) : J X M rm pc lc ((.ref x) :: .ref i :: st) k n σ Q := J.putfF (T := TX6) (kf := 4) tyX6 tyX6_ok nmX6 d he rfl in_X6 (by decide) (by rw [hM]; exact fl_X6_40) rfl hM2 (by rw [hM]; rfl) rfl (Or.inr ⟨x, rfl, rfl⟩) (by simp) kk
theorem fl_X6_44 : Cond.fieldLink RX6 44 (TX6 5).1 (TX6 5).2.1 (TX6 5).2.2.1 ∈ lw_tbl := List.mem_of_getElem? (i := 161) (by decide +kernel)
theorem gf_X6_44 {X : jX} {M : jMt} {rm : Room} {pc : Nat} {lc st : List Value} {k n : Nat} {σ : jS} {Q : jOut → jS → Prop} {i : Nat} {a0 a1 a2 a3 a4 a5 a6 a7 : Value} (hM : M.1.cls = RX6) (d : decode M.2.1 pc = .ok (.getfield 44, 3)) (he : σ.2 i = jO 5 [a0, a1, a2, a3, a4, a5, a6, a7]) (kk : J X M rm (pc + 3) lc (a5 :: st) k n σ Q) : J X M rm pc lc (.ref i :: st) k n σ Q := J.getf (T := TX6) (kf := 5) d he rfl in_X6 (by decide) (by rw [hM]; exact fl_X6_44) rfl kk
theorem pf_X6_44 {X : jX} {M : jMt} {rm : Room} {pc : Nat} {lc st : List Value} {k n : Nat} {σ : jS} {Q : jOut → jS → Prop} {i : Nat} {a0 a1 a2 a3 a4 a5 a6 a7 : Value} {x : Nat} (hM : M.1.cls = RX6) (hM2 : M.1.name = "<init>") (d : decode M.2.1 pc = .ok (.putfield 44, 3)) (he : σ.2 i = jO 5 [a0, a1, a2, a3, a4, a5, a6, a7]) (kk : J X M rm (pc + 3) lc st k n (jset σ i (jO 5 [a0, a1, a2, a3, a4, .ref x, a6, a7])) Q) : J X M rm pc lc ((.ref x) :: .ref i :: st) k n σ Q := J.putfF (T := TX6) (kf := 5) tyX6 tyX6_ok nmX6 d he rfl in_X6 (by decide) (by rw [hM]; exact fl_X6_44) rfl hM2 (by rw [hM]; rfl) rfl (Or.inr ⟨x, rfl, rfl⟩) (by simp) kk
theorem fl_X6_187 : Cond.fieldLink RX6 187 (TX6 6).1 (TX6 6).2.1 (TX6 6).2.2.1 ∈ lw_tbl := List.mem_of_getElem? (i := 162) (by decide +kernel)
theorem gf_X6_187 {X : jX} {M : jMt} {rm : Room} {pc : Nat} {lc st : List Value} {k n : Nat} {σ : jS} {Q : jOut → jS → Prop} {i : Nat} {a0 a1 a2 a3 a4 a5 a6 a7 : Value} (hM : M.1.cls = RX6) (d : decode M.2.1 pc = .ok (.getfield 187, 3)) (he : σ.2 i = jO 5 [a0, a1, a2, a3, a4, a5, a6, a7]) (kk : J X M rm (pc + 3) lc (a6 :: st) k n σ Q) : J X M rm pc lc (.ref i :: st) k n σ Q := J.getf (T := TX6) (kf := 6) d he rfl in_X6 (by decide) (by rw [hM]; exact fl_X6_187) rfl kk
theorem pf_X6_187 {X : jX} {M : jMt} {rm : Room} {pc : Nat} {lc st : List Value} {k n : Nat} {σ : jS} {Q : jOut → jS → Prop} {i : Nat} {a0 a1 a2 a3 a4 a5 a6 a7 : Value} {x : Int32} (hM : M.1.cls = RX6) (d : decode M.2.1 pc = .ok (.putfield 187, 3)) (he : σ.2 i = jO 5 [a0, a1, a2, a3, a4, a5, a6, a7]) (kk : J X M rm (pc + 3) lc st k n (jset σ i (jO 5 [a0, a1, a2, a3, a4, a5, .int x, a7])) Q) : J X M rm pc lc ((.int x) :: .ref i :: st) k n σ Q := J.putf (T := TX6) (kf := 6) tyX6 tyX6_ok nmX6 d he rfl in_X6 (by decide) (by rw [hM]; exact fl_X6_187) rfl rfl (Or.inl ⟨x, rfl, rfl⟩) (by simp) kk
theorem fl_X6_48 : Cond.fieldLink RX6 48 (TX6 7).1 (TX6 7).2.1 (TX6 7).2.2.1 ∈ lw_tbl := List.mem_of_getElem? (i := 163) (by decide +kernel)
theorem gf_X6_48 {X : jX} {M : jMt} {rm : Room} {pc : Nat} {lc st : List Value} {k n : Nat} {σ : jS} {Q : jOut → jS → Prop} {i : Nat} {a0 a1 a2 a3 a4 a5 a6 a7 : Value} (hM : M.1.cls = RX6) (d : decode M.2.1 pc = .ok (.getfield 48, 3)) (he : σ.2 i = jO 5 [a0, a1, a2, a3, a4, a5, a6, a7]) (kk : J X M rm (pc + 3) lc (a7 :: st) k n σ Q) : J X M rm pc lc (.ref i :: st) k n σ Q := J.getf (T := TX6) (kf := 7) d he rfl in_X6 (by decide) (by rw [hM]; exact fl_X6_48) rfl kk
theorem pf_X6_48 {X : jX} {M : jMt} {rm : Room} {pc : Nat} {lc st : List Value} {k n : Nat} {σ : jS} {Q : jOut → jS → Prop} {i : Nat} {a0 a1 a2 a3 a4 a5 a6 a7 : Value} {x : Int32} (hM : M.1.cls = RX6) (d : decode M.2.1 pc = .ok (.putfield 48, 3)) (he : σ.2 i = jO 5 [a0, a1, a2, a3, a4, a5, a6, a7]) (kk : J X M rm (pc + 3) lc st k n (jset σ i (jO 5 [a0, a1, a2, a3, a4, a5, a6, .int x])) Q) : J X M rm pc lc ((.int x) :: .ref i :: st) k n σ Q := J.putf (T := TX6) (kf := 7) tyX6 tyX6_ok nmX6 d he rfl in_X6 (by decide) (by rw [hM]; exact fl_X6_48) rfl rfl (Or.inl ⟨x, rfl, rfl⟩) (by simp) kk
theorem fl_X7_47 : Cond.fieldLink RX7 47 (TX7 0).1 (TX7 0).2.1 (TX7 0).2.2.1 ∈ lw_tbl := List.mem_of_getElem? (i := 685) (by decide +kernel)
theorem gf_X7_47 {X : jX} {M : jMt} {rm : Room} {pc : Nat} {lc st : List Value} {k n : Nat} {σ : jS} {Q : jOut → jS → Prop} {i : Nat} {a0 a1 a2 a3 a4 a5 a6 a7 a8 a9 a10 a11 a12 a13 a14 a15 a16 a17 a18 : Value} (hM : M.1.cls = RX7) (d : decode M.2.1 pc = .ok (.getfield 47, 3)) (he : σ.2 i = jO 6 [a0, a1, a2, a3, a4, a5, a6, a7, a8, a9, a10, a11, a12, a13, a14, a15, a16, a17, a18]) (kk : J X M rm (pc + 3) lc (a0 :: st) k n σ Q) : J X M rm pc lc (.ref i :: st) k n σ Q := J.getf (T := TX7) (kf := 0) d he rfl in_X7 (by decide) (by rw [hM]; exact fl_X7_47) rfl kk
theorem pf_X7_47 {X : jX} {M : jMt} {rm : Room} {pc : Nat} {lc st : List Value} {k n : Nat} {σ : jS} {Q : jOut → jS → Prop} {i : Nat} {a0 a1 a2 a3 a4 a5 a6 a7 a8 a9 a10 a11 a12 a13 a14 a15 a16 a17 a18 : Value} {x : Int32} (hM : M.1.cls = RX7) (d : decode M.2.1 pc = .ok (.putfield 47, 3)) (he : σ.2 i = jO 6 [a0, a1, a2, a3, a4, a5, a6, a7, a8, a9, a10, a11, a12, a13, a14, a15, a16, a17, a18]) (kk : J X M rm (pc + 3) lc st k n (jset σ i (jO 6 [.int x, a1, a2, a3, a4, a5, a6, a7, a8, a9, a10, a11, a12, a13, a14, a15, a16, a17, a18])) Q) : J X M rm pc lc ((.int x) :: .ref i :: st) k n σ Q := J.putf (T := TX7) (kf := 0) tyX7 tyX7_ok nmX7 d he rfl in_X7 (by decide) (by rw [hM]; exact fl_X7_47) rfl rfl (Or.inl ⟨x, rfl, rfl⟩) (by simp) kk
theorem fl_X7_7 : Cond.fieldLink RX7 7 (TX7 1).1 (TX7 1).2.1 (TX7 1).2.2.1 ∈ lw_tbl := List.mem_of_getElem? (i := 686) (by decide +kernel)
theorem gf_X7_7 {X : jX} {M : jMt} {rm : Room} {pc : Nat} {lc st : List Value} {k n : Nat} {σ : jS} {Q : jOut → jS → Prop} {i : Nat} {a0 a1 a2 a3 a4 a5 a6 a7 a8 a9 a10 a11 a12 a13 a14 a15 a16 a17 a18 : Value} (hM : M.1.cls = RX7) (d : decode M.2.1 pc = .ok (.getfield 7, 3)) (he : σ.2 i = jO 6 [a0, a1, a2, a3, a4, a5, a6, a7, a8, a9, a10, a11, a12, a13, a14, a15, a16, a17, a18]) (kk : J X M rm (pc + 3) lc (a1 :: st) k n σ Q) : J X M rm pc lc (.ref i :: st) k n σ Q := J.getf (T := TX7) (kf := 1) d he rfl in_X7 (by decide) (by rw [hM]; exact fl_X7_7) rfl kk
theorem pf_X7_7 {X : jX} {M : jMt} {rm : Room} {pc : Nat} {lc st : List Value} {k n : Nat} {σ : jS} {Q : jOut → jS → Prop} {i : Nat} {a0 a1 a2 a3 a4 a5 a6 a7 a8 a9 a10 a11 a12 a13 a14 a15 a16 a17 a18 : Value} {x : Int32} (hM : M.1.cls = RX7) (d : decode M.2.1 pc = .ok (.putfield 7, 3)) (he : σ.2 i = jO 6 [a0, a1, a2, a3, a4, a5, a6, a7, a8, a9, a10, a11, a12, a13, a14, a15, a16, a17, a18]) (kk : J X M rm (pc + 3) lc st k n (jset σ i (jO 6 [a0, .int x, a2, a3, a4, a5, a6, a7, a8, a9, a10, a11, a12, a13, a14, a15, a16, a17, a18])) Q) : J X M rm pc lc ((.int x) :: .ref i :: st) k n σ Q := J.putf (T := TX7) (kf := 1) tyX7 tyX7_ok nmX7 d he rfl in_X7 (by decide) (by rw [hM]; exact fl_X7_7) rfl rfl (Or.inl ⟨x, rfl, rfl⟩) (by simp) kk
theorem fl_X7_13 : Cond.fieldLink RX7 13 (TX7 2).1 (TX7 2).2.1 (TX7 2).2.2.1 ∈ lw_tbl := List.mem_of_getElem? (i := 687) (by decide +kernel)
theorem gf_X7_13 {X : jX} {M : jMt} {rm : Room} {pc : Nat} {lc st : List Value} {k n : Nat} {σ : jS} {Q : jOut → jS → Prop} {i : Nat} {a0 a1 a2 a3 a4 a5 a6 a7 a8 a9 a10 a11 a12 a13 a14 a15 a16 a17 a18 : Value} (hM : M.1.cls = RX7) (d : decode M.2.1 pc = .ok (.getfield 13, 3)) (he : σ.2 i = jO 6 [a0, a1, a2, a3, a4, a5, a6, a7, a8, a9, a10, a11, a12, a13, a14, a15, a16, a17, a18]) (kk : J X M rm (pc + 3) lc (a2 :: st) k n σ Q) : J X M rm pc lc (.ref i :: st) k n σ Q := J.getf (T := TX7) (kf := 2) d he rfl in_X7 (by decide) (by rw [hM]; exact fl_X7_13) rfl kk
theorem pf_X7_13 {X : jX} {M : jMt} {rm : Room} {pc : Nat} {lc st : List Value} {k n : Nat} {σ : jS} {Q : jOut → jS → Prop} {i : Nat} {a0 a1 a2 a3 a4 a5 a6 a7 a8 a9 a10 a11 a12 a13 a14 a15 a16 a17 a18 : Value} {x : Nat} (hM : M.1.cls = RX7) (hM2 : M.1.name = "<init>") (d : decode M.2.1 pc = .ok (.putfield 13, 3)) (he : σ.2 i = jO 6 [a0, a1, a2, a3, a4, a5, a6, a7, a8, a9, a10, a11, a12, a13, a14, a15, a16, a17, a18]) (kk : J X M rm (pc + 3) lc st k n (jset σ i (jO 6 [a0, a1, .ref x, a3, a4, a5, a6, a7, a8, a9, a10, a11, a12, a13, a14, a15, a16, a17, a18])) Q) : J X M rm pc lc ((.ref x) :: .ref i :: st) k n σ Q := J.putfF (T := TX7) (kf := 2) tyX7 tyX7_ok nmX7 d he rfl in_X7 (by decide) (by rw [hM]; exact fl_X7_13) rfl hM2 (by rw [hM]; rfl) rfl (Or.inr ⟨x, rfl, rfl⟩) (by simp) kk
theorem fl_X7_63 : Cond.fieldLink RX7 63 (TX7 3).1 (TX7 3).2.1 (TX7 3).2.2.1 ∈ lw_tbl := List.mem_of_getElem? (i := 688) (by decide +kernel)
theorem gf_X7_63 {X : jX} {M : jMt} {rm : Room} {pc : Nat} {lc st : List Value} {k n : Nat} {σ : jS} {Q : jOut → jS → Prop} {i : Nat} {a0 a1 a2 a3 a4 a5 a6 a7 a8 a9 a10 a11 a12 a13 a14 a15 a16 a17 a18 : Value} (hM : M.1.cls = RX7) (d : decode M.2.1 pc = .ok (.getfield 63, 3)) (he : σ.2 i = jO 6 [a0, a1, a2, a3, a4, a5, a6, a7, a8, a9, a10, a11, a12, a13, a14, a15, a16, a17, a18]) (kk : J X M rm (pc + 3) lc (a3 :: st) k n σ Q) : J X M rm pc lc (.ref i :: st) k n σ Q := J.getf (T := TX7) (kf := 3) d he rfl in_X7 (by decide) (by rw [hM]; exact fl_X7_63) rfl kk
theorem pf_X7_63 {X : jX} {M : jMt} {rm : Room} {pc : Nat} {lc st : List Value} {k n : Nat} {σ : jS} {Q : jOut → jS → Prop} {i : Nat} {a0 a1 a2 a3 a4 a5 a6 a7 a8 a9 a10 a11 a12 a13 a14 a15 a16 a17 a18 : Value} {x : Int32} (hM : M.1.cls = RX7) (d : decode M.2.1 pc = .ok (.putfield 63, 3)) (he : σ.2 i = jO 6 [a0, a1, a2, a3, a4, a5, a6, a7, a8, a9, a10, a11, a12, a13, a14, a15, a16, a17, a18]) (kk : J X M rm (pc + 3) lc st k n (jset σ i (jO 6 [a0, a1, a2, .int x, a4, a5, a6, a7, a8, a9, a10, a11, a12, a13, a14, a15, a16, a17, a18])) Q) : J X M rm pc lc ((.int x) :: .ref i :: st) k n σ Q := J.putf (T := TX7) (kf := 3) tyX7 tyX7_ok nmX7 d he rfl in_X7 (by decide) (by rw [hM]; exact fl_X7_63) rfl rfl (Or.inl ⟨x, rfl, rfl⟩) (by simp) kk
theorem fl_X7_66 : Cond.fieldLink RX7 66 (TX7 4).1 (TX7 4).2.1 (TX7 4).2.2.1 ∈ lw_tbl := List.mem_of_getElem? (i := 689) (by decide +kernel)
theorem gf_X7_66 {X : jX} {M : jMt} {rm : Room} {pc : Nat} {lc st : List Value} {k n : Nat} {σ : jS} {Q : jOut → jS → Prop} {i : Nat} {a0 a1 a2 a3 a4 a5 a6 a7 a8 a9 a10 a11 a12 a13 a14 a15 a16 a17 a18 : Value} (hM : M.1.cls = RX7) (d : decode M.2.1 pc = .ok (.getfield 66, 3)) (he : σ.2 i = jO 6 [a0, a1, a2, a3, a4, a5, a6, a7, a8, a9, a10, a11, a12, a13, a14, a15, a16, a17, a18]) (kk : J X M rm (pc + 3) lc (a4 :: st) k n σ Q) : J X M rm pc lc (.ref i :: st) k n σ Q := J.getf (T := TX7) (kf := 4) d he rfl in_X7 (by decide) (by rw [hM]; exact fl_X7_66) rfl kk
theorem pf_X7_66 {X : jX} {M : jMt} {rm : Room} {pc : Nat} {lc st : List Value} {k n : Nat} {σ : jS} {Q : jOut → jS → Prop} {i : Nat} {a0 a1 a2 a3 a4 a5 a6 a7 a8 a9 a10 a11 a12 a13 a14 a15 a16 a17 a18 : Value} {x : Int32} (hM : M.1.cls = RX7) (d : decode M.2.1 pc = .ok (.putfield 66, 3)) (he : σ.2 i = jO 6 [a0, a1, a2, a3, a4, a5, a6, a7, a8, a9, a10, a11, a12, a13, a14, a15, a16, a17, a18]) (kk : J X M rm (pc + 3) lc st k n (jset σ i (jO 6 [a0, a1, a2, a3, .int x, a5, a6, a7, a8, a9, a10, a11, a12, a13, a14, a15, a16, a17, a18])) Q) : J X M rm pc lc ((.int x) :: .ref i :: st) k n σ Q := J.putf (T := TX7) (kf := 4) tyX7 tyX7_ok nmX7 d he rfl in_X7 (by decide) (by rw [hM]; exact fl_X7_66) rfl rfl (Or.inl ⟨x, rfl, rfl⟩) (by simp) kk
theorem fl_X7_17 : Cond.fieldLink RX7 17 (TX7 5).1 (TX7 5).2.1 (TX7 5).2.2.1 ∈ lw_tbl := List.mem_of_getElem? (i := 690) (by decide +kernel)
theorem gf_X7_17 {X : jX} {M : jMt} {rm : Room} {pc : Nat} {lc st : List Value} {k n : Nat} {σ : jS} {Q : jOut → jS → Prop} {i : Nat} {a0 a1 a2 a3 a4 a5 a6 a7 a8 a9 a10 a11 a12 a13 a14 a15 a16 a17 a18 : Value} (hM : M.1.cls = RX7) (d : decode M.2.1 pc = .ok (.getfield 17, 3)) (he : σ.2 i = jO 6 [a0, a1, a2, a3, a4, a5, a6, a7, a8, a9, a10, a11, a12, a13, a14, a15, a16, a17, a18]) (kk : J X M rm (pc + 3) lc (a5 :: st) k n σ Q) : J X M rm pc lc (.ref i :: st) k n σ Q := J.getf (T := TX7) (kf := 5) d he rfl in_X7 (by decide) (by rw [hM]; exact fl_X7_17) rfl kk
theorem pf_X7_17 {X : jX} {M : jMt} {rm : Room} {pc : Nat} {lc st : List Value} {k n : Nat} {σ : jS} {Q : jOut → jS → Prop} {i : Nat} {a0 a1 a2 a3 a4 a5 a6 a7 a8 a9 a10 a11 a12 a13 a14 a15 a16 a17 a18 : Value} {x : Nat} (hM : M.1.cls = RX7) (hM2 : M.1.name = "<init>") (d : decode M.2.1 pc = .ok (.putfield 17, 3)) (he : σ.2 i = jO 6 [a0, a1, a2, a3, a4, a5, a6, a7, a8, a9, a10, a11, a12, a13, a14, a15, a16, a17, a18]) (kk : J X M rm (pc + 3) lc st k n (jset σ i (jO 6 [a0, a1, a2, a3, a4, .ref x, a6, a7, a8, a9, a10, a11, a12, a13, a14, a15, a16, a17, a18])) Q) : J X M rm pc lc ((.ref x) :: .ref i :: st) k n σ Q := J.putfF (T := TX7) (kf := 5) tyX7 tyX7_ok nmX7 d he rfl in_X7 (by decide) (by rw [hM]; exact fl_X7_17) rfl hM2 (by rw [hM]; rfl) rfl (Or.inr ⟨x, rfl, rfl⟩) (by simp) kk
theorem fl_X7_20 : Cond.fieldLink RX7 20 (TX7 6).1 (TX7 6).2.1 (TX7 6).2.2.1 ∈ lw_tbl := List.mem_of_getElem? (i := 691) (by decide +kernel)
theorem gf_X7_20 {X : jX} {M : jMt} {rm : Room} {pc : Nat} {lc st : List Value} {k n : Nat} {σ : jS} {Q : jOut → jS → Prop} {i : Nat} {a0 a1 a2 a3 a4 a5 a6 a7 a8 a9 a10 a11 a12 a13 a14 a15 a16 a17 a18 : Value} (hM : M.1.cls = RX7) (d : decode M.2.1 pc = .ok (.getfield 20, 3)) (he : σ.2 i = jO 6 [a0, a1, a2, a3, a4, a5, a6, a7, a8, a9, a10, a11, a12, a13, a14, a15, a16, a17, a18]) (kk : J X M rm (pc + 3) lc (a6 :: st) k n σ Q) : J X M rm pc lc (.ref i :: st) k n σ Q := J.getf (T := TX7) (kf := 6) d he rfl in_X7 (by decide) (by rw [hM]; exact fl_X7_20) rfl kk
theorem pf_X7_20 {X : jX} {M : jMt} {rm : Room} {pc : Nat} {lc st : List Value} {k n : Nat} {σ : jS} {Q : jOut → jS → Prop} {i : Nat} {a0 a1 a2 a3 a4 a5 a6 a7 a8 a9 a10 a11 a12 a13 a14 a15 a16 a17 a18 : Value} {x : Nat} (hM : M.1.cls = RX7) (hM2 : M.1.name = "<init>") (d : decode M.2.1 pc = .ok (.putfield 20, 3)) (he : σ.2 i = jO 6 [a0, a1, a2, a3, a4, a5, a6, a7, a8, a9, a10, a11, a12, a13, a14, a15, a16, a17, a18]) (kk : J X M rm (pc + 3) lc st k n (jset σ i (jO 6 [a0, a1, a2, a3, a4, a5, .ref x, a7, a8, a9, a10, a11, a12, a13, a14, a15, a16, a17, a18])) Q) : J X M rm pc lc ((.ref x) :: .ref i :: st) k n σ Q := J.putfF (T := TX7) (kf := 6) tyX7 tyX7_ok nmX7 d he rfl in_X7 (by decide) (by rw [hM]; exact fl_X7_20) rfl hM2 (by rw [hM]; rfl) rfl (Or.inr ⟨x, rfl, rfl⟩) (by simp) kk
theorem fl_X7_23 : Cond.fieldLink RX7 23 (TX7 7).1 (TX7 7).2.1 (TX7 7).2.2.1 ∈ lw_tbl := List.mem_of_getElem? (i := 692) (by decide +kernel)
theorem gf_X7_23 {X : jX} {M : jMt} {rm : Room} {pc : Nat} {lc st : List Value} {k n : Nat} {σ : jS} {Q : jOut → jS → Prop} {i : Nat} {a0 a1 a2 a3 a4 a5 a6 a7 a8 a9 a10 a11 a12 a13 a14 a15 a16 a17 a18 : Value} (hM : M.1.cls = RX7) (d : decode M.2.1 pc = .ok (.getfield 23, 3)) (he : σ.2 i = jO 6 [a0, a1, a2, a3, a4, a5, a6, a7, a8, a9, a10, a11, a12, a13, a14, a15, a16, a17, a18]) (kk : J X M rm (pc + 3) lc (a7 :: st) k n σ Q) : J X M rm pc lc (.ref i :: st) k n σ Q := J.getf (T := TX7) (kf := 7) d he rfl in_X7 (by decide) (by rw [hM]; exact fl_X7_23) rfl kk
theorem pf_X7_23 {X : jX} {M : jMt} {rm : Room} {pc : Nat} {lc st : List Value} {k n : Nat} {σ : jS} {Q : jOut → jS → Prop} {i : Nat} {a0 a1 a2 a3 a4 a5 a6 a7 a8 a9 a10 a11 a12 a13 a14 a15 a16 a17 a18 : Value} {x : Nat} (hM : M.1.cls = RX7) (hM2 : M.1.name = "<init>") (d : decode M.2.1 pc = .ok (.putfield 23, 3)) (he : σ.2 i = jO 6 [a0, a1, a2, a3, a4, a5, a6, a7, a8, a9, a10, a11, a12, a13, a14, a15, a16, a17, a18]) (kk : J X M rm (pc + 3) lc st k n (jset σ i (jO 6 [a0, a1, a2, a3, a4, a5, a6, .ref x, a8, a9, a10, a11, a12, a13, a14, a15, a16, a17, a18])) Q) : J X M rm pc lc ((.ref x) :: .ref i :: st) k n σ Q := J.putfF (T := TX7) (kf := 7) tyX7 tyX7_ok nmX7 d he rfl in_X7 (by decide) (by rw [hM]; exact fl_X7_23) rfl hM2 (by rw [hM]; rfl) rfl (Or.inr ⟨x, rfl, rfl⟩) (by simp) kk
theorem fl_X7_26 : Cond.fieldLink RX7 26 (TX7 8).1 (TX7 8).2.1 (TX7 8).2.2.1 ∈ lw_tbl := List.mem_of_getElem? (i := 693) (by decide +kernel)
theorem gf_X7_26 {X : jX} {M : jMt} {rm : Room} {pc : Nat} {lc st : List Value} {k n : Nat} {σ : jS} {Q : jOut → jS → Prop} {i : Nat} {a0 a1 a2 a3 a4 a5 a6 a7 a8 a9 a10 a11 a12 a13 a14 a15 a16 a17 a18 : Value} (hM : M.1.cls = RX7) (d : decode M.2.1 pc = .ok (.getfield 26, 3)) (he : σ.2 i = jO 6 [a0, a1, a2, a3, a4, a5, a6, a7, a8, a9, a10, a11, a12, a13, a14, a15, a16, a17, a18]) (kk : J X M rm (pc + 3) lc (a8 :: st) k n σ Q) : J X M rm pc lc (.ref i :: st) k n σ Q := J.getf (T := TX7) (kf := 8) d he rfl in_X7 (by decide) (by rw [hM]; exact fl_X7_26) rfl kk
theorem pf_X7_26 {X : jX} {M : jMt} {rm : Room} {pc : Nat} {lc st : List Value} {k n : Nat} {σ : jS} {Q : jOut → jS → Prop} {i : Nat} {a0 a1 a2 a3 a4 a5 a6 a7 a8 a9 a10 a11 a12 a13 a14 a15 a16 a17 a18 : Value} {x : Nat} (hM : M.1.cls = RX7) (hM2 : M.1.name = "<init>") (d : decode M.2.1 pc = .ok (.putfield 26, 3)) (he : σ.2 i = jO 6 [a0, a1, a2, a3, a4, a5, a6, a7, a8, a9, a10, a11, a12, a13, a14, a15, a16, a17, a18]) (kk : J X M rm (pc + 3) lc st k n (jset σ i (jO 6 [a0, a1, a2, a3, a4, a5, a6, a7, .ref x, a9, a10, a11, a12, a13, a14, a15, a16, a17, a18])) Q) : J X M rm pc lc ((.ref x) :: .ref i :: st) k n σ Q := J.putfF (T := TX7) (kf := 8) tyX7 tyX7_ok nmX7 d he rfl in_X7 (by decide) (by rw [hM]; exact fl_X7_26) rfl hM2 (by rw [hM]; rfl) rfl (Or.inr ⟨x, rfl, rfl⟩) (by simp) kk
theorem fl_X7_29 : Cond.fieldLink RX7 29 (TX7 9).1 (TX7 9).2.1 (TX7 9).2.2.1 ∈ lw_tbl := List.mem_of_getElem? (i := 694) (by decide +kernel)
theorem gf_X7_29 {X : jX} {M : jMt} {rm : Room} {pc : Nat} {lc st : List Value} {k n : Nat} {σ : jS} {Q : jOut → jS → Prop} {i : Nat} {a0 a1 a2 a3 a4 a5 a6 a7 a8 a9 a10 a11 a12 a13 a14 a15 a16 a17 a18 : Value} (hM : M.1.cls = RX7) (d : decode M.2.1 pc = .ok (.getfield 29, 3)) (he : σ.2 i = jO 6 [a0, a1, a2, a3, a4, a5, a6, a7, a8, a9, a10, a11, a12, a13, a14, a15, a16, a17, a18]) (kk : J X M rm (pc + 3) lc (a9 :: st) k n σ Q) : J X M rm pc lc (.ref i :: st) k n σ Q := J.getf (T := TX7) (kf := 9) d he rfl in_X7 (by decide) (by rw [hM]; exact fl_X7_29) rfl kk
theorem pf_X7_29 {X : jX} {M : jMt} {rm : Room} {pc : Nat} {lc st : List Value} {k n : Nat} {σ : jS} {Q : jOut → jS → Prop} {i : Nat} {a0 a1 a2 a3 a4 a5 a6 a7 a8 a9 a10 a11 a12 a13 a14 a15 a16 a17 a18 : Value} {x : Nat} (hM : M.1.cls = RX7) (hM2 : M.1.name = "<init>") (d : decode M.2.1 pc = .ok (.putfield 29, 3)) (he : σ.2 i = jO 6 [a0, a1, a2, a3, a4, a5, a6, a7, a8, a9, a10, a11, a12, a13, a14, a15, a16, a17, a18]) (kk : J X M rm (pc + 3) lc st k n (jset σ i (jO 6 [a0, a1, a2, a3, a4, a5, a6, a7, a8, .ref x, a10, a11, a12, a13, a14, a15, a16, a17, a18])) Q) : J X M rm pc lc ((.ref x) :: .ref i :: st) k n σ Q := J.putfF (T := TX7) (kf := 9) tyX7 tyX7_ok nmX7 d he rfl in_X7 (by decide) (by rw [hM]; exact fl_X7_29) rfl hM2 (by rw [hM]; rfl) rfl (Or.inr ⟨x, rfl, rfl⟩) (by simp) kk
theorem fl_X7_32 : Cond.fieldLink RX7 32 (TX7 10).1 (TX7 10).2.1 (TX7 10).2.2.1 ∈ lw_tbl := List.mem_of_getElem? (i := 695) (by decide +kernel)
theorem gf_X7_32 {X : jX} {M : jMt} {rm : Room} {pc : Nat} {lc st : List Value} {k n : Nat} {σ : jS} {Q : jOut → jS → Prop} {i : Nat} {a0 a1 a2 a3 a4 a5 a6 a7 a8 a9 a10 a11 a12 a13 a14 a15 a16 a17 a18 : Value} (hM : M.1.cls = RX7) (d : decode M.2.1 pc = .ok (.getfield 32, 3)) (he : σ.2 i = jO 6 [a0, a1, a2, a3, a4, a5, a6, a7, a8, a9, a10, a11, a12, a13, a14, a15, a16, a17, a18]) (kk : J X M rm (pc + 3) lc (a10 :: st) k n σ Q) : J X M rm pc lc (.ref i :: st) k n σ Q := J.getf (T := TX7) (kf := 10) d he rfl in_X7 (by decide) (by rw [hM]; exact fl_X7_32) rfl kk
theorem pf_X7_32 {X : jX} {M : jMt} {rm : Room} {pc : Nat} {lc st : List Value} {k n : Nat} {σ : jS} {Q : jOut → jS → Prop} {i : Nat} {a0 a1 a2 a3 a4 a5 a6 a7 a8 a9 a10 a11 a12 a13 a14 a15 a16 a17 a18 : Value} {x : Nat} (hM : M.1.cls = RX7) (hM2 : M.1.name = "<init>") (d : decode M.2.1 pc = .ok (.putfield 32, 3)) (he : σ.2 i = jO 6 [a0, a1, a2, a3, a4, a5, a6, a7, a8, a9, a10, a11, a12, a13, a14, a15, a16, a17, a18]) (kk : J X M rm (pc + 3) lc st k n (jset σ i (jO 6 [a0, a1, a2, a3, a4, a5, a6, a7, a8, a9, .ref x, a11, a12, a13, a14, a15, a16, a17, a18])) Q) : J X M rm pc lc ((.ref x) :: .ref i :: st) k n σ Q := J.putfF (T := TX7) (kf := 10) tyX7 tyX7_ok nmX7 d he rfl in_X7 (by decide) (by rw [hM]; exact fl_X7_32) rfl hM2 (by rw [hM]; rfl) rfl (Or.inr ⟨x, rfl, rfl⟩) (by simp) kk
theorem fl_X7_124 : Cond.fieldLink RX7 124 (TX7 11).1 (TX7 11).2.1 (TX7 11).2.2.1 ∈ lw_tbl := List.mem_of_getElem? (i := 696) (by decide +kernel)
theorem gf_X7_124 {X : jX} {M : jMt} {rm : Room} {pc : Nat} {lc st : List Value} {k n : Nat} {σ : jS} {Q : jOut → jS → Prop} {i : Nat} {a0 a1 a2 a3 a4 a5 a6 a7 a8 a9 a10 a11 a12 a13 a14 a15 a16 a17 a18 : Value} (hM : M.1.cls = RX7) (d : decode M.2.1 pc = .ok (.getfield 124, 3)) (he : σ.2 i = jO 6 [a0, a1, a2, a3, a4, a5, a6, a7, a8, a9, a10, a11, a12, a13, a14, a15, a16, a17, a18]) (kk : J X M rm (pc + 3) lc (a11 :: st) k n σ Q) : J X M rm pc lc (.ref i :: st) k n σ Q := J.getf (T := TX7) (kf := 11) d he rfl in_X7 (by decide) (by rw [hM]; exact fl_X7_124) rfl kk
theorem pf_X7_124 {X : jX} {M : jMt} {rm : Room} {pc : Nat} {lc st : List Value} {k n : Nat} {σ : jS} {Q : jOut → jS → Prop} {i : Nat} {a0 a1 a2 a3 a4 a5 a6 a7 a8 a9 a10 a11 a12 a13 a14 a15 a16 a17 a18 : Value} {x : Int32} (hM : M.1.cls = RX7) (d : decode M.2.1 pc = .ok (.putfield 124, 3)) (he : σ.2 i = jO 6 [a0, a1, a2, a3, a4, a5, a6, a7, a8, a9, a10, a11, a12, a13, a14, a15, a16, a17, a18]) (kk : J X M rm (pc + 3) lc st k n (jset σ i (jO 6 [a0, a1, a2, a3, a4, a5, a6, a7, a8, a9, a10, .int x, a12, a13, a14, a15, a16, a17, a18])) Q) : J X M rm pc lc ((.int x) :: .ref i :: st) k n σ Q := J.putf (T := TX7) (kf := 11) tyX7 tyX7_ok nmX7 d he rfl in_X7 (by decide) (by rw [hM]; exact fl_X7_124) rfl rfl (Or.inl ⟨x, rfl, rfl⟩) (by simp) kk
theorem fl_X7_35 : Cond.fieldLink RX7 35 (TX7 12).1 (TX7 12).2.1 (TX7 12).2.2.1 ∈ lw_tbl := List.mem_of_getElem? (i := 697) (by decide +kernel)
theorem gf_X7_35 {X : jX} {M : jMt} {rm : Room} {pc : Nat} {lc st : List Value} {k n : Nat} {σ : jS} {Q : jOut → jS → Prop} {i : Nat} {a0 a1 a2 a3 a4 a5 a6 a7 a8 a9 a10 a11 a12 a13 a14 a15 a16 a17 a18 : Value} (hM : M.1.cls = RX7) (d : decode M.2.1 pc = .ok (.getfield 35, 3)) (he : σ.2 i = jO 6 [a0, a1, a2, a3, a4, a5, a6, a7, a8, a9, a10, a11, a12, a13, a14, a15, a16, a17, a18]) (kk : J X M rm (pc + 3) lc (a12 :: st) k n σ Q) : J X M rm pc lc (.ref i :: st) k n σ Q := J.getf (T := TX7) (kf := 12) d he rfl in_X7 (by decide) (by rw [hM]; exact fl_X7_35) rfl kk
theorem pf_X7_35 {X : jX} {M : jMt} {rm : Room} {pc : Nat} {lc st : List Value} {k n : Nat} {σ : jS} {Q : jOut → jS → Prop} {i : Nat} {a0 a1 a2 a3 a4 a5 a6 a7 a8 a9 a10 a11 a12 a13 a14 a15 a16 a17 a18 : Value} {x : Nat} (hM : M.1.cls = RX7) (hM2 : M.1.name = "<init>") (d : decode M.2.1 pc = .ok (.putfield 35, 3)) (he : σ.2 i = jO 6 [a0, a1, a2, a3, a4, a5, a6, a7, a8, a9, a10, a11, a12, a13, a14, a15, a16, a17, a18]) (kk : J X M rm (pc + 3) lc st k n (jset σ i (jO 6 [a0, a1, a2, a3, a4, a5, a6, a7, a8, a9, a10, a11, .ref x, a13, a14, a15, a16, a17, a18])) Q) : J X M rm pc lc ((.ref x) :: .ref i :: st) k n σ Q := J.putfF (T := TX7) (kf := 12) tyX7 tyX7_ok nmX7 d he rfl in_X7 (by decide) (by rw [hM]; exact fl_X7_35) rfl hM2 (by rw [hM]; rfl) rfl (Or.inr ⟨x, rfl, rfl⟩) (by simp) kk
theorem fl_X7_130 : Cond.fieldLink RX7 130 (TX7 13).1 (TX7 13).2.1 (TX7 13).2.2.1 ∈ lw_tbl := List.mem_of_getElem? (i := 698) (by decide +kernel)
theorem gf_X7_130 {X : jX} {M : jMt} {rm : Room} {pc : Nat} {lc st : List Value} {k n : Nat} {σ : jS} {Q : jOut → jS → Prop} {i : Nat} {a0 a1 a2 a3 a4 a5 a6 a7 a8 a9 a10 a11 a12 a13 a14 a15 a16 a17 a18 : Value} (hM : M.1.cls = RX7) (d : decode M.2.1 pc = .ok (.getfield 130, 3)) (he : σ.2 i = jO 6 [a0, a1, a2, a3, a4, a5, a6, a7, a8, a9, a10, a11, a12, a13, a14, a15, a16, a17, a18]) (kk : J X M rm (pc + 3) lc (a13 :: st) k n σ Q) : J X M rm pc lc (.ref i :: st) k n σ Q := J.getf (T := TX7) (kf := 13) d he rfl in_X7 (by decide) (by rw [hM]; exact fl_X7_130) rfl kk
theorem pf_X7_130 {X : jX} {M : jMt} {rm : Room} {pc : Nat} {lc st : List Value} {k n : Nat} {σ : jS} {Q : jOut → jS → Prop} {i : Nat} {a0 a1 a2 a3 a4 a5 a6 a7 a8 a9 a10 a11 a12 a13 a14 a15 a16 a17 a18 : Value} {x : Int32} (hM : M.1.cls = RX7) (d : decode M.2.1 pc = .ok (.putfield 130, 3)) (he : σ.2 i = jO 6 [a0, a1, a2, a3, a4, a5, a6, a7, a8, a9, a10, a11, a12, a13, a14, a15, a16, a17, a18]) (kk : J X M rm (pc + 3) lc st k n (jset σ i (jO 6 [a0, a1, a2, a3, a4, a5, a6, a7, a8, a9, a10, a11, a12, .int x, a14, a15, a16, a17, a18])) Q) : J X M rm pc lc ((.int x) :: .ref i :: st) k n σ Q := J.putf (T := TX7) (kf := 13) tyX7 tyX7_ok nmX7 d he rfl in_X7 (by decide) (by rw [hM]; exact fl_X7_130) rfl rfl (Or.inl ⟨x, rfl, rfl⟩) (by simp) kk
theorem fl_X7_38 : Cond.fieldLink RX7 38 (TX7 14).1 (TX7 14).2.1 (TX7 14).2.2.1 ∈ lw_tbl := List.mem_of_getElem? (i := 699) (by decide +kernel)
theorem gf_X7_38 {X : jX} {M : jMt} {rm : Room} {pc : Nat} {lc st : List Value} {k n : Nat} {σ : jS} {Q : jOut → jS → Prop} {i : Nat} {a0 a1 a2 a3 a4 a5 a6 a7 a8 a9 a10 a11 a12 a13 a14 a15 a16 a17 a18 : Value} (hM : M.1.cls = RX7) (d : decode M.2.1 pc = .ok (.getfield 38, 3)) (he : σ.2 i = jO 6 [a0, a1, a2, a3, a4, a5, a6, a7, a8, a9, a10, a11, a12, a13, a14, a15, a16, a17, a18]) (kk : J X M rm (pc + 3) lc (a14 :: st) k n σ Q) : J X M rm pc lc (.ref i :: st) k n σ Q := J.getf (T := TX7) (kf := 14) d he rfl in_X7 (by decide) (by rw [hM]; exact fl_X7_38) rfl kk
theorem pf_X7_38 {X : jX} {M : jMt} {rm : Room} {pc : Nat} {lc st : List Value} {k n : Nat} {σ : jS} {Q : jOut → jS → Prop} {i : Nat} {a0 a1 a2 a3 a4 a5 a6 a7 a8 a9 a10 a11 a12 a13 a14 a15 a16 a17 a18 : Value} {x : Nat} (hM : M.1.cls = RX7) (hM2 : M.1.name = "<init>") (d : decode M.2.1 pc = .ok (.putfield 38, 3)) (he : σ.2 i = jO 6 [a0, a1, a2, a3, a4, a5, a6, a7, a8, a9, a10, a11, a12, a13, a14, a15, a16, a17, a18]) (kk : J X M rm (pc + 3) lc st k n (jset σ i (jO 6 [a0, a1, a2, a3, a4, a5, a6, a7, a8, a9, a10, a11, a12, a13, .ref x, a15, a16, a17, a18])) Q) : J X M rm pc lc ((.ref x) :: .ref i :: st) k n σ Q := J.putfF (T := TX7) (kf := 14) tyX7 tyX7_ok nmX7 d he rfl in_X7 (by decide) (by rw [hM]; exact fl_X7_38) rfl hM2 (by rw [hM]; rfl) rfl (Or.inr ⟨x, rfl, rfl⟩) (by simp) kk
theorem fl_X7_41 : Cond.fieldLink RX7 41 (TX7 15).1 (TX7 15).2.1 (TX7 15).2.2.1 ∈ lw_tbl := List.mem_of_getElem? (i := 700) (by decide +kernel)
theorem gf_X7_41 {X : jX} {M : jMt} {rm : Room} {pc : Nat} {lc st : List Value} {k n : Nat} {σ : jS} {Q : jOut → jS → Prop} {i : Nat} {a0 a1 a2 a3 a4 a5 a6 a7 a8 a9 a10 a11 a12 a13 a14 a15 a16 a17 a18 : Value} (hM : M.1.cls = RX7) (d : decode M.2.1 pc = .ok (.getfield 41, 3)) (he : σ.2 i = jO 6 [a0, a1, a2, a3, a4, a5, a6, a7, a8, a9, a10, a11, a12, a13, a14, a15, a16, a17, a18]) (kk : J X M rm (pc + 3) lc (a15 :: st) k n σ Q) : J X M rm pc lc (.ref i :: st) k n σ Q := J.getf (T := TX7) (kf := 15) d he rfl in_X7 (by decide) (by rw [hM]; exact fl_X7_41) rfl kk
theorem pf_X7_41 {X : jX} {M : jMt} {rm : Room} {pc : Nat} {lc st : List Value} {k n : Nat} {σ : jS} {Q : jOut → jS → Prop} {i : Nat} {a0 a1 a2 a3 a4 a5 a6 a7 a8 a9 a10 a11 a12 a13 a14 a15 a16 a17 a18 : Value} {x : Nat} (hM : M.1.cls = RX7) (hM2 : M.1.name = "<init>") (d : decode M.2.1 pc = .ok (.putfield 41, 3)) (he : σ.2 i = jO 6 [a0, a1, a2, a3, a4, a5, a6, a7, a8, a9, a10, a11, a12, a13, a14, a15, a16, a17, a18]) (kk : J X M rm (pc + 3) lc st k n (jset σ i (jO 6 [a0, a1, a2, a3, a4, a5, a6, a7, a8, a9, a10, a11, a12, a13, a14, .ref x, a16, a17, a18])) Q) : J X M rm pc lc ((.ref x) :: .ref i :: st) k n σ Q := J.putfF (T := TX7) (kf := 15) tyX7 tyX7_ok nmX7 d he rfl in_X7 (by decide) (by rw [hM]; exact fl_X7_41) rfl hM2 (by rw [hM]; rfl) rfl (Or.inr ⟨x, rfl, rfl⟩) (by simp) kk
theorem fl_X7_44 : Cond.fieldLink RX7 44 (TX7 16).1 (TX7 16).2.1 (TX7 16).2.2.1 ∈ lw_tbl := List.mem_of_getElem? (i := 701) (by decide +kernel)
theorem gf_X7_44 {X : jX} {M : jMt} {rm : Room} {pc : Nat} {lc st : List Value} {k n : Nat} {σ : jS} {Q : jOut → jS → Prop} {i : Nat} {a0 a1 a2 a3 a4 a5 a6 a7 a8 a9 a10 a11 a12 a13 a14 a15 a16 a17 a18 : Value} (hM : M.1.cls = RX7) (d : decode M.2.1 pc = .ok (.getfield 44, 3)) (he : σ.2 i = jO 6 [a0, a1, a2, a3, a4, a5, a6, a7, a8, a9, a10, a11, a12, a13, a14, a15, a16, a17, a18]) (kk : J X M rm (pc + 3) lc (a16 :: st) k n σ Q) : J X M rm pc lc (.ref i :: st) k n σ Q := J.getf (T := TX7) (kf := 16) d he rfl in_X7 (by decide) (by rw [hM]; exact fl_X7_44) rfl kk
theorem pf_X7_44 {X : jX} {M : jMt} {rm : Room} {pc : Nat} {lc st : List Value} {k n : Nat} {σ : jS} {Q : jOut → jS → Prop} {i : Nat} {a0 a1 a2 a3 a4 a5 a6 a7 a8 a9 a10 a11 a12 a13 a14 a15 a16 a17 a18 : Value} {x : Nat} (hM : M.1.cls = RX7) (hM2 : M.1.name = "<init>") (d : decode M.2.1 pc = .ok (.putfield 44, 3)) (he : σ.2 i = jO 6 [a0, a1, a2, a3, a4, a5, a6, a7, a8, a9, a10, a11, a12, a13, a14, a15, a16, a17, a18]) (kk : J X M rm (pc + 3) lc st k n (jset σ i (jO 6 [a0, a1, a2, a3, a4, a5, a6, a7, a8, a9, a10, a11, a12, a13, a14, a15, .ref x, a17, a18])) Q) : J X M rm pc lc ((.ref x) :: .ref i :: st) k n σ Q := J.putfF (T := TX7) (kf := 16) tyX7 tyX7_ok nmX7 d he rfl in_X7 (by decide) (by rw [hM]; exact fl_X7_44) rfl hM2 (by rw [hM]; rfl) rfl (Or.inr ⟨x, rfl, rfl⟩) (by simp) kk
theorem fl_X7_158 : Cond.fieldLink RX7 158 (TX7 17).1 (TX7 17).2.1 (TX7 17).2.2.1 ∈ lw_tbl := List.mem_of_getElem? (i := 702) (by decide +kernel)
theorem gf_X7_158 {X : jX} {M : jMt} {rm : Room} {pc : Nat} {lc st : List Value} {k n : Nat} {σ : jS} {Q : jOut → jS → Prop} {i : Nat} {a0 a1 a2 a3 a4 a5 a6 a7 a8 a9 a10 a11 a12 a13 a14 a15 a16 a17 a18 : Value} (hM : M.1.cls = RX7) (d : decode M.2.1 pc = .ok (.getfield 158, 3)) (he : σ.2 i = jO 6 [a0, a1, a2, a3, a4, a5, a6, a7, a8, a9, a10, a11, a12, a13, a14, a15, a16, a17, a18]) (kk : J X M rm (pc + 3) lc (a17 :: st) k n σ Q) : J X M rm pc lc (.ref i :: st) k n σ Q := J.getf (T := TX7) (kf := 17) d he rfl in_X7 (by decide) (by rw [hM]; exact fl_X7_158) rfl kk
theorem pf_X7_158 {X : jX} {M : jMt} {rm : Room} {pc : Nat} {lc st : List Value} {k n : Nat} {σ : jS} {Q : jOut → jS → Prop} {i : Nat} {a0 a1 a2 a3 a4 a5 a6 a7 a8 a9 a10 a11 a12 a13 a14 a15 a16 a17 a18 : Value} {x : Int32} (hM : M.1.cls = RX7) (d : decode M.2.1 pc = .ok (.putfield 158, 3)) (he : σ.2 i = jO 6 [a0, a1, a2, a3, a4, a5, a6, a7, a8, a9, a10, a11, a12, a13, a14, a15, a16, a17, a18]) (kk : J X M rm (pc + 3) lc st k n (jset σ i (jO 6 [a0, a1, a2, a3, a4, a5, a6, a7, a8, a9, a10, a11, a12, a13, a14, a15, a16, .int x, a18])) Q) : J X M rm pc lc ((.int x) :: .ref i :: st) k n σ Q := J.putf (T := TX7) (kf := 17) tyX7 tyX7_ok nmX7 d he rfl in_X7 (by decide) (by rw [hM]; exact fl_X7_158) rfl rfl (Or.inl ⟨x, rfl, rfl⟩) (by simp) kk
theorem fl_X7_161 : Cond.fieldLink RX7 161 (TX7 18).1 (TX7 18).2.1 (TX7 18).2.2.1 ∈ lw_tbl := List.mem_of_getElem? (i := 703) (by decide +kernel)
theorem gf_X7_161 {X : jX} {M : jMt} {rm : Room} {pc : Nat} {lc st : List Value} {k n : Nat} {σ : jS} {Q : jOut → jS → Prop} {i : Nat} {a0 a1 a2 a3 a4 a5 a6 a7 a8 a9 a10 a11 a12 a13 a14 a15 a16 a17 a18 : Value} (hM : M.1.cls = RX7) (d : decode M.2.1 pc = .ok (.getfield 161, 3)) (he : σ.2 i = jO 6 [a0, a1, a2, a3, a4, a5, a6, a7, a8, a9, a10, a11, a12, a13, a14, a15, a16, a17, a18]) (kk : J X M rm (pc + 3) lc (a18 :: st) k n σ Q) : J X M rm pc lc (.ref i :: st) k n σ Q := J.getf (T := TX7) (kf := 18) d he rfl in_X7 (by decide) (by rw [hM]; exact fl_X7_161) rfl kk
theorem pf_X7_161 {X : jX} {M : jMt} {rm : Room} {pc : Nat} {lc st : List Value} {k n : Nat} {σ : jS} {Q : jOut → jS → Prop} {i : Nat} {a0 a1 a2 a3 a4 a5 a6 a7 a8 a9 a10 a11 a12 a13 a14 a15 a16 a17 a18 : Value} {x : Int32} (hM : M.1.cls = RX7) (d : decode M.2.1 pc = .ok (.putfield 161, 3)) (he : σ.2 i = jO 6 [a0, a1, a2, a3, a4, a5, a6, a7, a8, a9, a10, a11, a12, a13, a14, a15, a16, a17, a18]) (kk : J X M rm (pc + 3) lc st k n (jset σ i (jO 6 [a0, a1, a2, a3, a4, a5, a6, a7, a8, a9, a10, a11, a12, a13, a14, a15, a16, a17, .int x])) Q) : J X M rm pc lc ((.int x) :: .ref i :: st) k n σ Q := J.putf (T := TX7) (kf := 18) tyX7 tyX7_ok nmX7 d he rfl in_X7 (by decide) (by rw [hM]; exact fl_X7_161) rfl rfl (Or.inl ⟨x, rfl, rfl⟩) (by simp) kk
end
section
abbrev rX6_init : Room := { frames := 2, cells := 31, slots := 4648, locals := 62 }
abbrev rX0_init : Room := { frames := 1, cells := 3, slots := 320, locals := 12 }
abbrev rX4_init : Room := { frames := 1, cells := 1, slots := 40, locals := 12 }
abbrev rX3_init : Room := { frames := 1, cells := 9, slots := 3461, locals := 23 }
abbrev rJ7_fill_53178 : Room := { frames := 0, cells := 0, slots := 0, locals := 0 }
abbrev rX5_init : Room := { frames := 1, cells := 1, slots := 40, locals := 12 }
abbrev rX2_init : Room := { frames := 1, cells := 2, slots := 81, locals := 12 }
abbrev rX6_empty : Room := { frames := 1, cells := 0, slots := 0, locals := 20 }
abbrev rX4_clear : Room := { frames := 0, cells := 0, slots := 0, locals := 0 }
abbrev rX6_words : Room := { frames := 0, cells := 0, slots := 0, locals := 0 }
abbrev rX6_groups : Room := { frames := 0, cells := 0, slots := 0, locals := 0 }
abbrev rX6_cost : Room := { frames := 2, cells := 0, slots := 0, locals := 43 }
abbrev rX5_costAt : Room := { frames := 1, cells := 0, slots := 0, locals := 20 }
abbrev rX5_isPlain : Room := { frames := 0, cells := 0, slots := 0, locals := 0 }
abbrev rX6_time : Room := { frames := 3, cells := 0, slots := 0, locals := 67 }
abbrev rX5_units : Room := { frames := 2, cells := 0, slots := 0, locals := 45 }
abbrev rX5_wordOf : Room := { frames := 0, cells := 0, slots := 0, locals := 0 }
abbrev rX5_wordUnits : Room := { frames := 1, cells := 0, slots := 0, locals := 22 }
abbrev rJ9_floorMod_7cf53 : Room := { frames := 0, cells := 0, slots := 0, locals := 0 }
abbrev rX1_units : Room := { frames := 1, cells := 0, slots := 0, locals := 22 }
abbrev rX6_digest : Room := { frames := 3, cells := 0, slots := 0, locals := 74 }
abbrev rX6_mix : Room := { frames := 0, cells := 0, slots := 0, locals := 0 }
abbrev rX6_mixRow : Room := { frames := 1, cells := 0, slots := 0, locals := 22 }
abbrev rX0_mixInto : Room := { frames := 2, cells := 0, slots := 0, locals := 49 }
abbrev rX0_startOf : Room := { frames := 0, cells := 0, slots := 0, locals := 0 }
abbrev rX3_mixInto : Room := { frames := 2, cells := 0, slots := 0, locals := 49 }
abbrev rX3_startOf : Room := { frames := 0, cells := 0, slots := 0, locals := 0 }
abbrev rL_say : Room := { frames := 7, cells := 1, slots := 6, locals := 111 }
abbrev rX6_say : Room := { frames := 6, cells := 1, slots := 6, locals := 90 }
abbrev rX4_append : Room := { frames := 0, cells := 0, slots := 0, locals := 0 }
abbrev rL_wordAt : Room := { frames := 7, cells := 1, slots := 6, locals := 111 }
abbrev rX6_wordAt : Room := { frames := 6, cells := 1, slots := 6, locals := 90 }
abbrev rL_keep : Room := { frames := 7, cells := 1, slots := 6, locals := 117 }
abbrev rX6_keep : Room := { frames := 6, cells := 1, slots := 6, locals := 97 }
abbrev rX3_add : Room := { frames := 3, cells := 0, slots := 0, locals := 74 }
abbrev rX3_countPhrases : Room := { frames := 2, cells := 0, slots := 0, locals := 48 }
abbrev rX3_firstFinding : Room := { frames := 1, cells := 0, slots := 0, locals := 25 }
abbrev rX6_sameWords : Room := { frames := 0, cells := 0, slots := 0, locals := 0 }
abbrev rL_recall : Room := { frames := 7, cells := 1, slots := 6, locals := 111 }
abbrev rX6_recall : Room := { frames := 6, cells := 1, slots := 6, locals := 90 }
abbrev rX4_appendAll : Room := { frames := 1, cells := 0, slots := 0, locals := 21 }
abbrev rL_letter : Room := { frames := 8, cells := 2, slots := 12, locals := 133 }
abbrev rX6_letter : Room := { frames := 7, cells := 2, slots := 12, locals := 111 }
abbrev rX6_requireCode : Room := { frames := 6, cells := 1, slots := 6, locals := 90 }
abbrev rX6_requirePlace : Room := { frames := 6, cells := 1, slots := 6, locals := 90 }
abbrev rX1_letterAt : Room := { frames := 0, cells := 0, slots := 0, locals := 0 }
abbrev rL_reason : Room := { frames := 8, cells := 2, slots := 12, locals := 134 }
abbrev rX6_reason : Room := { frames := 7, cells := 2, slots := 12, locals := 111 }
abbrev rX6_requireBook : Room := { frames := 6, cells := 1, slots := 6, locals := 90 }
abbrev rX0_reasonAgainst : Room := { frames := 1, cells := 0, slots := 0, locals := 26 }
abbrev rX1_likeness : Room := { frames := 0, cells := 0, slots := 0, locals := 0 }
abbrev rL_firstFit : Room := { frames := 8, cells := 2, slots := 12, locals := 134 }
abbrev rX6_firstFit : Room := { frames := 7, cells := 2, slots := 12, locals := 111 }
abbrev rX0_fitFrom : Room := { frames := 2, cells := 0, slots := 0, locals := 50 }
abbrev rL_define : Room := { frames := 8, cells := 3, slots := 18, locals := 134 }
abbrev rX6_define : Room := { frames := 7, cells := 3, slots := 18, locals := 111 }
abbrev rX0_add : Room := { frames := 1, cells := 0, slots := 0, locals := 48 }
abbrev rL_drop : Room := { frames := 8, cells := 2, slots := 12, locals := 134 }
abbrev rX6_drop : Room := { frames := 7, cells := 2, slots := 12, locals := 111 }
abbrev rX6_requireEntry : Room := { frames := 6, cells := 1, slots := 6, locals := 90 }
abbrev rX0_remove : Room := { frames := 1, cells := 0, slots := 0, locals := 48 }
abbrev rL_entries : Room := { frames := 8, cells := 1, slots := 6, locals := 132 }
abbrev rX6_entries : Room := { frames := 7, cells := 1, slots := 6, locals := 111 }
abbrev rL_entry : Room := { frames := 8, cells := 3, slots := 18, locals := 135 }
abbrev rX6_entry : Room := { frames := 7, cells := 3, slots := 18, locals := 111 }
abbrev rL_find : Room := { frames := 8, cells := 2, slots := 12, locals := 134 }
abbrev rX6_find : Room := { frames := 7, cells := 2, slots := 12, locals := 111 }
abbrev rX0_entryWith : Room := { frames := 0, cells := 0, slots := 0, locals := 0 }
abbrev rL_setPrice : Room := { frames := 7, cells := 1, slots := 6, locals := 112 }
abbrev rX6_setPrice : Room := { frames := 6, cells := 1, slots := 6, locals := 90 }
abbrev rL_encode : Room := { frames := 8, cells := 1, slots := 6, locals := 137 }
abbrev rX6_encode : Room := { frames := 7, cells := 1, slots := 6, locals := 111 }
abbrev rX2_divide : Room := { frames := 2, cells := 0, slots := 0, locals := 56 }
abbrev rX2_bestPiece : Room := { frames := 1, cells := 0, slots := 0, locals := 25 }
abbrev rX0_goesAhead : Room := { frames := 0, cells := 0, slots := 0, locals := 0 }
abbrev rX5_clear : Room := { frames := 0, cells := 0, slots := 0, locals := 0 }
abbrev rX5_plain : Room := { frames := 0, cells := 0, slots := 0, locals := 0 }
abbrev rX5_append : Room := { frames := 0, cells := 0, slots := 0, locals := 0 }
abbrev rL_group : Room := { frames := 8, cells := 1, slots := 6, locals := 132 }
abbrev rX6_group : Room := { frames := 7, cells := 1, slots := 6, locals := 111 }
abbrev rX6_requireGroup : Room := { frames := 6, cells := 1, slots := 6, locals := 90 }
abbrev rL_garble : Room := { frames := 8, cells := 4, slots := 24, locals := 135 }
abbrev rX6_garble : Room := { frames := 7, cells := 4, slots := 24, locals := 111 }
abbrev rX6_requireCodeWord : Room := { frames := 6, cells := 1, slots := 6, locals := 90 }
abbrev rX1_withLetter : Room := { frames := 1, cells := 0, slots := 0, locals := 23 }
abbrev rL_swap : Room := { frames := 8, cells := 3, slots := 18, locals := 133 }
abbrev rX6_swap : Room := { frames := 7, cells := 3, slots := 18, locals := 111 }
abbrev rX1_swapped : Room := { frames := 2, cells := 0, slots := 0, locals := 47 }
abbrev rL_decode : Room := { frames := 8, cells := 1, slots := 6, locals := 135 }
abbrev rX6_decode : Room := { frames := 7, cells := 1, slots := 6, locals := 111 }
abbrev rX6_read : Room := { frames := 2, cells := 0, slots := 0, locals := 49 }
abbrev rX0_onlyEntryLike : Room := { frames := 1, cells := 0, slots := 0, locals := 26 }
abbrev rL_how : Room := { frames := 7, cells := 1, slots := 6, locals := 111 }
abbrev rX6_how : Room := { frames := 6, cells := 1, slots := 6, locals := 90 }
abbrev rL_share : Room := { frames := 8, cells := 1, slots := 6, locals := 136 }
abbrev rX6_share : Room := { frames := 7, cells := 1, slots := 6, locals := 111 }
abbrev rL_propose : Room := { frames := 8, cells := 1, slots := 6, locals := 132 }
abbrev rX6_propose : Room := { frames := 7, cells := 1, slots := 6, locals := 111 }
abbrev rX3_proposeOn : Room := { frames := 2, cells := 0, slots := 0, locals := 49 }
abbrev rX0_hasPhrase : Room := { frames := 1, cells := 0, slots := 0, locals := 25 }
abbrev rL_learn : Room := { frames := 8, cells := 2, slots := 12, locals := 135 }
abbrev rX6_learn : Room := { frames := 7, cells := 2, slots := 12, locals := 111 }
abbrev rX6_learnOne : Room := { frames := 3, cells := 0, slots := 0, locals := 79 }
abbrev rX0_latestCode : Room := { frames := 0, cells := 0, slots := 0, locals := 0 }
abbrev rX7_init : Room := { frames := 1, cells := 12, slots := 1656, locals := 12 }
abbrev rX7_thrown : Room := { frames := 0, cells := 0, slots := 0, locals := 0 }
abbrev rX7_say : Room := { frames := 1, cells := 0, slots := 0, locals := 22 }
abbrev rX7_isIn : Room := { frames := 0, cells := 0, slots := 0, locals := 0 }
abbrev rX7_no : Room := { frames := 0, cells := 0, slots := 0, locals := 0 }
abbrev rX7_empty : Room := { frames := 0, cells := 0, slots := 0, locals := 0 }
abbrev rX7_words : Room := { frames := 0, cells := 0, slots := 0, locals := 0 }
abbrev rX7_wordAt : Room := { frames := 1, cells := 0, slots := 0, locals := 22 }
abbrev rX7_keep : Room := { frames := 1, cells := 0, slots := 0, locals := 48 }
abbrev rX7_recall : Room := { frames := 1, cells := 0, slots := 0, locals := 48 }
abbrev rX7_letter : Room := { frames := 2, cells := 0, slots := 0, locals := 43 }
abbrev rX7_isCode : Room := { frames := 1, cells := 0, slots := 0, locals := 22 }
abbrev rX7_letterOf : Room := { frames := 1, cells := 0, slots := 0, locals := 22 }
abbrev rX7_power : Room := { frames := 0, cells := 0, slots := 0, locals := 0 }
abbrev rX7_reason : Room := { frames := 5, cells := 0, slots := 0, locals := 114 }
abbrev rX7_isBook : Room := { frames := 1, cells := 0, slots := 0, locals := 22 }
abbrev rX7_reasonFor : Room := { frames := 4, cells := 0, slots := 0, locals := 88 }
abbrev rX7_isOneOff : Room := { frames := 2, cells := 0, slots := 0, locals := 43 }
abbrev rX7_isSwapped : Room := { frames := 3, cells := 0, slots := 0, locals := 65 }
abbrev rX7_swapped : Room := { frames := 2, cells := 0, slots := 0, locals := 43 }
abbrev rX7_firstFit : Room := { frames := 6, cells := 0, slots := 0, locals := 137 }
abbrev rX7_fitFrom : Room := { frames := 5, cells := 0, slots := 0, locals := 114 }
abbrev rX7_define : Room := { frames := 5, cells := 0, slots := 0, locals := 114 }
abbrev rX7_add : Room := { frames := 1, cells := 0, slots := 0, locals := 48 }
abbrev rX7_drop : Room := { frames := 3, cells := 0, slots := 0, locals := 64 }
abbrev rX7_isEntry : Room := { frames := 2, cells := 0, slots := 0, locals := 42 }
abbrev rX7_entries : Room := { frames := 2, cells := 0, slots := 0, locals := 42 }
abbrev rX7_entry : Room := { frames := 3, cells := 0, slots := 0, locals := 64 }
abbrev rX7_find : Room := { frames := 2, cells := 0, slots := 0, locals := 42 }
abbrev rX7_entryOf : Room := { frames := 0, cells := 0, slots := 0, locals := 0 }
abbrev rX7_setPrice : Room := { frames := 1, cells := 0, slots := 0, locals := 22 }
abbrev rX7_encode : Room := { frames := 2, cells := 0, slots := 0, locals := 53 }
abbrev rX7_divide : Room := { frames := 1, cells := 0, slots := 0, locals := 26 }
abbrev rX7_stands : Room := { frames := 0, cells := 0, slots := 0, locals := 0 }
abbrev rX7_groups : Room := { frames := 0, cells := 0, slots := 0, locals := 0 }
abbrev rX7_group : Room := { frames := 2, cells := 0, slots := 0, locals := 43 }
abbrev rX7_isGroup : Room := { frames := 1, cells := 0, slots := 0, locals := 22 }
abbrev rX7_garble : Room := { frames := 2, cells := 0, slots := 0, locals := 43 }
abbrev rX7_swap : Room := { frames := 3, cells := 0, slots := 0, locals := 65 }
abbrev rX7_decode : Room := { frames := 5, cells := 0, slots := 0, locals := 114 }
abbrev rX7_write : Room := { frames := 0, cells := 0, slots := 0, locals := 0 }
abbrev rX7_meant : Room := { frames := 4, cells := 0, slots := 0, locals := 88 }
abbrev rX7_how : Room := { frames := 1, cells := 0, slots := 0, locals := 22 }
abbrev rX7_cost : Room := { frames := 0, cells := 0, slots := 0, locals := 0 }
abbrev rX7_time : Room := { frames := 3, cells := 0, slots := 0, locals := 66 }
abbrev rX7_unitsOf : Room := { frames := 2, cells := 0, slots := 0, locals := 43 }
abbrev rX7_share : Room := { frames := 2, cells := 0, slots := 0, locals := 53 }
abbrev rX7_propose : Room := { frames := 3, cells := 0, slots := 0, locals := 79 }
abbrev rX7_proposal : Room := { frames := 2, cells := 0, slots := 0, locals := 51 }
abbrev rX7_timesOf : Room := { frames := 1, cells := 0, slots := 0, locals := 25 }
abbrev rX7_isSame : Room := { frames := 0, cells := 0, slots := 0, locals := 0 }
abbrev rX7_isInBook : Room := { frames := 1, cells := 0, slots := 0, locals := 26 }
abbrev rX7_learn : Room := { frames := 6, cells := 0, slots := 0, locals := 137 }
abbrev rX7_digest : Room := { frames := 0, cells := 0, slots := 0, locals := 0 }
theorem gs_X5_35 : Cond.fieldLinkNest RX5 35 "WireBook" "DIGIT_UNITS" "[I" "WireBook" ∈ lw_tbl := List.mem_of_getElem? (i := 222) (by decide +kernel)
theorem gs_X1_19 : Cond.fieldLinkNest RX1 19 "WireBook" "LETTER_UNITS" "[I" "WireBook" ∈ lw_tbl := List.mem_of_getElem? (i := 230) (by decide +kernel)
theorem gs_X7_140 : Cond.fieldLink RX7 140 "WireBookModel" "LETTER_UNITS" "[I" ∈ lw_tbl := List.mem_of_getElem? (i := 919) (by decide +kernel)
theorem gs_X7_143 : Cond.fieldLink RX7 143 "WireBookModel" "DIGIT_UNITS" "[I" ∈ lw_tbl := List.mem_of_getElem? (i := 921) (by decide +kernel)
theorem jnc_of {lc : List Value} {i : Nat} {w : Value} (h : lc[i - 1]? = some w) (hc : w.category = 1) : jnc lc i := fun v hv _ => by
  rw [h] at hv
  cases hv
  exact hc
theorem jnc_0 {lc : List Value} : jnc lc 0 := fun v _ h => absurd h (by decide)
/-- one end: the answer, the world -/
abbrev jEnd (o1 : jOut) (σ1 : jS) : jOut → jS → Prop := fun o σ' => o = o1 ∧ σ' = σ1
abbrev oI (a : Int) : jOut := .inl (some (vI a))
abbrev oR (i : Nat) : jOut := .inl (some (.ref i))
abbrev oL (a : Int) : jOut := .inl (some (vL a))
abbrev oV : jOut := .inl none
abbrev bI (b : Prop) [Decidable b] : Int := if b then 1 else 0
abbrev eIae : String := "java/lang/IllegalArgumentException"
abbrev eIse : String := "java/lang/IllegalStateException"
abbrev eIob : String := "java/lang/IndexOutOfBoundsException"
theorem JM.of {X : jX} {M : jMt} {rm : Room} {as lc : List Value} {σ : jS} {Q : jOut → jS → Prop} (h : jlc M.2.2.1 as = lc) (hJ : J X M rm 0 lc [] 0 0 σ Q) : JM X M rm as σ Q := by
  subst h
  exact hJ
end
section
theorem c_X4_clear {X : jX} {σ : jS} {i r : Nat} {n : Int} (e0 : σ.2 i = jO 3 [.ref r, vI n]) : JM X mX4_clear rX4_clear [.ref i] σ (jEnd oV (jset σ i (jO 3 [.ref r, vI 0]))) := by
  refine JM.of (lc := [.ref i]) rfl ?_
  refine J.ald_n dX4_clear_0 rfl ?_
  refine J.iconst dX4_clear_1 ?_
  refine pf_X4_15 rfl dX4_clear_2 e0 ?_
  refine J.vret dX4_clear_5 rfl (by decide) (by decide) ?_
  exact ⟨rfl, rfl⟩
theorem c_X4_append {X : jX} {σ : jS} {i r n : Nat} {f : Nat → Int} {w : Int} (e0 : σ.2 i = jO 3 [.ref r, vI (n : Int)]) (e1 : σ.2 r = jI 40 f) (h5 : 5 ≤ r) (hir : i ≠ r) (hn : n ≤ 40) : JM X mX4_append rX4_append [.ref i, vI w] σ (jEnd oV (if n < 40 then jset (jset σ r (jI 40 (jup f n w))) i (jO 3 [.ref r, vI ((n + 1 : Nat) : Int)]) else σ)) := by
  refine JM.of (lc := [.ref i, vI w]) rfl ?_
  refine J.ald_n dX4_append_0 rfl ?_
  refine gf_X4_15 rfl dX4_append_1 e0 ?_
  refine J.ald_n dX4_append_4 rfl ?_
  refine gf_X4_9 rfl dX4_append_5 e0 ?_
  refine J.alen dX4_append_8 e1 ?_
  refine J.icmp_ge dX4_append_9 (by decide) (tgt := 32) (by unfold inI; omega) (by unfold inI; omega) (fun h => ?_) (fun h => ?_)
  · refine J.vret dX4_append_32 rfl (by decide) (by decide) ?_
    exact ⟨rfl, (if_neg (by omega)).symm⟩
  · refine J.ald_n dX4_append_12 rfl ?_
    refine gf_X4_9 rfl dX4_append_13 e0 ?_
    refine J.ald_n dX4_append_16 rfl ?_
    refine gf_X4_15 rfl dX4_append_17 e0 ?_
    refine J.ild_n dX4_append_20 rfl ?_
    refine J.iast n dX4_append_21 e1 h5 rfl (by omega) (by omega) ?_
    refine J.ald_n dX4_append_22 rfl ?_
    refine J.dup dX4_append_23 rfl ?_
    refine gf_X4_15 rfl dX4_append_24 ((jset_ne _ _ (by omega)).trans e0) ?_
    refine J.iconst dX4_append_27 ?_
    refine J.iadd dX4_append_28 ?_
    rw [show (((n : Nat) : Int) : Int) + 1 = ((n + 1 : Nat) : Int) from by push_cast; rfl]
    refine pf_X4_15 rfl dX4_append_29 ((jset_ne _ _ (by omega)).trans e0) ?_
    refine J.vret dX4_append_32 rfl (by decide) (by decide) ?_
    exact ⟨rfl, (if_pos (by omega)).symm⟩
end
