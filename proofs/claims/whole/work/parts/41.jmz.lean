set_option maxRecDepth 20000 in
theorem m_digest {X : jX} {σ : jS} {pr : Int} {ln : Nat} {lw : Nat → Int} {bn : Nat → Nat} {cd sz : Nat → Nat → Nat} {ph : Nat → Nat → Int} {mn : Nat} {mg : Nat → Int} {kn : Nat} {kr : Nat → Int} {ks : Nat → Nat} {kt : Nat → Nat → Int} {rd : Nat} {rg : Nat → Int} {th : Int}  (hM : MW σ th pr ln lw bn cd sz ph mn mg kn kr ks kt rd rg) (hI : CI pr ln lw bn cd sz ph mn mg kn kr ks kt rd rg)  : JM X mX7_digest rX7_digest [.ref 37] σ (fun o σ1 => o = oL (kmU kr ks kn 0 (mxF mg mn 0 ((dgB (bn 2) (cd 2) (sz 2) (ph 2) (dgB (bn 1) (cd 1) (sz 1) (ph 1) (dgB (bn 0) (cd 0) (sz 0) (ph 0) (mxF lw ln 0 ((379 * 31 + pr) * 31 + ((ln : Nat) : Int)))))) * 31 + ((mn : Nat) : Int)) * 31 + ((kn : Nat) : Int))) ∧ MW σ1 0 pr ln lw bn cd sz ph mn mg kn kr ks kt rd rg ∧ FrM σ σ1) := by
  refine JM.of (lc := [.ref 37, .null, .null, .null, .null, .null]) rfl ?_
  obtain ⟨hpr, ⟨hln, hlw⟩, hbk, ⟨hmn, hmg⟩, hki, hrd, hrg⟩ := id hI
  obtain ⟨⟨pa, ps, hO⟩, ⟨ml, h38, hml, hmi⟩, h39, ⟨Kw, h40, hw9, hkw⟩, h41, ⟨Mc, h42, hMc⟩, ⟨Ms, h43, hMs⟩, ⟨Mp, h44, hMp⟩, h45, h46, ⟨lf, h47⟩, ⟨pc, h48⟩⟩ := id hM
  have hkn := hki.1
  generalize hDF : (kmU kr ks kn 0 (mxF mg mn 0 ((dgB (bn 2) (cd 2) (sz 2) (ph 2) (dgB (bn 1) (cd 1) (sz 1) (ph 1) (dgB (bn 0) (cd 0) (sz 0) (ph 0) (mxF lw ln 0 ((379 * 31 + pr) * 31 + ((ln : Nat) : Int)))))) * 31 + ((mn : Nat) : Int)) * 31 + ((kn : Nat) : Int))) = DF
  have hDF2 : kmU kr ks kn 0 (mxF mg mn 0 (dgU bn cd sz ph 3 0 (mxF lw ln 0 ((379 * 31 + pr) * 31 + ((ln : Nat) : Int))) * 31 + ((mn : Nat) : Int)) * 31 + ((kn : Nat) : Int)) = DF := hDF
  refine J.ald_n dX7_digest_0 rfl ?_
  refine J.iconst dX7_digest_1 ?_
  refine pf_X7_47 rfl dX7_digest_2 hO ?_
  have L4 : ∀ (t k : Nat) (d : Int) (u4 u5 : Value), k + t = kn → u4.category = 1 → u5.category = 1 → kmU kr ks t k d = DF → J X mX7_digest rX7_digest 236 [.ref 37, vL d, .null, vI ((k : Nat) : Int), u4, u5] [] 0 0 (jset σ 37 (jO 6 [vI 0, vI pr, .ref 38, vI ((ln : Nat) : Int), vI ((kn : Nat) : Int), .ref 39, .ref 40, .ref 41, .ref 42, .ref 43, .ref 44, vI ((mn : Nat) : Int), .ref 45, vI ((rd : Nat) : Int), .ref 46, .ref 47, .ref 48, vI pa, vI ps])) (fun o σ1 => o = oL DF ∧ MW σ1 0 pr ln lw bn cd sz ph mn mg kn kr ks kt rd rg ∧ FrM σ σ1) := by
    intro t
    induction t with
    | zero =>
      intro k d u4 u5 hk hu4 hu5 hd
      refine J.ild_n dX7_digest_236 rfl ?_
      refine J.ald_n dX7_digest_237 rfl ?_
      refine gf_X7_66 rfl dX7_digest_238 (jset_eq _ _ _) ?_
      refine J.icmp_ge dX7_digest_241 (by decide) (tgt := 304) (by unfold inI; omega) (by unfold inI; omega) (fun h => ?_) (fun h => ?_)
      · refine J.lld_n dX7_digest_304 rfl ?_
        have hd9 : d = DF := hd
        subst hd9
        refine J.lret dX7_digest_305 rfl (by decide) (by decide) ?_
        exact ⟨rfl, ⟨⟨pa, ps, (jset_eq _ _ _)⟩, ⟨ml, ((jset_ne _ _ (by omega)).trans h38), hml, hmi⟩, ((jset_ne _ _ (by omega)).trans h39), ⟨Kw, ((jset_ne _ _ (by omega)).trans h40), hw9, hkw⟩, ((jset_ne _ _ (by omega)).trans h41), ⟨Mc, ((jset_ne _ _ (by omega)).trans h42), hMc⟩, ⟨Ms, ((jset_ne _ _ (by omega)).trans h43), hMs⟩, ⟨Mp, ((jset_ne _ _ (by omega)).trans h44), hMp⟩, ((jset_ne _ _ (by omega)).trans h45), ((jset_ne _ _ (by omega)).trans h46), ⟨_, ((jset_ne _ _ (by omega)).trans h47)⟩, ⟨_, ((jset_ne _ _ (by omega)).trans h48)⟩⟩, rfl, fun j hj => ((jset_ne _ _ (by omega)).trans (rfl : σ.2 j = σ.2 j))⟩
      · omega
    | succ t ih =>
      intro k d u4 u5 hk hu4 hu5 hd
      have hke := hki.2.1 k (by omega)
      refine J.ild_n dX7_digest_236 rfl ?_
      refine J.ald_n dX7_digest_237 rfl ?_
      refine gf_X7_66 rfl dX7_digest_238 (jset_eq _ _ _) ?_
      refine J.icmp_ge dX7_digest_241 (by decide) (tgt := 304) (by unfold inI; omega) (by unfold inI; omega) (fun h => ?_) (fun h => ?_)
      · omega
      · refine J.lld_n dX7_digest_244 rfl ?_
        refine J.ldc2 (b := 31) dX7_digest_245 kl_X7_169 (by decide) ?_
        refine J.lmul dX7_digest_248 ?_
        refine J.ald_n dX7_digest_249 rfl ?_
        refine gf_X7_17 rfl dX7_digest_250 (jset_eq _ _ _) ?_
        refine J.ild_n dX7_digest_253 rfl ?_
        refine J.iald k dX7_digest_254 ((jset_ne _ _ (by omega)).trans h39) rfl (by omega) (by omega) ?_
        refine J.i2l dX7_digest_255 (by unfold inI; omega) ?_
        refine J.ladd dX7_digest_256 ?_
        refine J.lst_n dX7_digest_257 (by decide) (jnc_of rfl rfl) ?_
        refine J.iconst dX7_digest_258 ?_
        refine J.ist dX7_digest_259 (by decide) (jnc_of rfl rfl) ?_
        have LK : ∀ (t2 i : Nat) (d : Int), i + t2 = ks k → kmU kr ks t (k + 1) (mxF kr t2 (k * 41 + i) d) = DF → J X mX7_digest rX7_digest 261 [.ref 37, vL d, .null, vI ((k : Nat) : Int), vI ((i : Nat) : Int), u5] [] 0 0 (jset σ 37 (jO 6 [vI 0, vI pr, .ref 38, vI ((ln : Nat) : Int), vI ((kn : Nat) : Int), .ref 39, .ref 40, .ref 41, .ref 42, .ref 43, .ref 44, vI ((mn : Nat) : Int), .ref 45, vI ((rd : Nat) : Int), .ref 46, .ref 47, .ref 48, vI pa, vI ps])) (fun o σ1 => o = oL DF ∧ MW σ1 0 pr ln lw bn cd sz ph mn mg kn kr ks kt rd rg ∧ FrM σ σ1) := by
          intro t2
          induction t2 with
          | zero =>
            intro i d hi hd
            refine J.ild dX7_digest_261 rfl ?_
            refine J.ald_n dX7_digest_263 rfl ?_
            refine gf_X7_17 rfl dX7_digest_264 (jset_eq _ _ _) ?_
            refine J.ild_n dX7_digest_267 rfl ?_
            refine J.iald k dX7_digest_268 ((jset_ne _ _ (by omega)).trans h39) rfl (by omega) (by omega) ?_
            refine J.icmp_ge dX7_digest_269 (by decide) (tgt := 298) (by unfold inI; omega) (by unfold inI; omega) (fun h5 => ?_) (fun h5 => ?_)
            · refine J.iinc (v := ((k + 1 : Nat) : Int)) dX7_digest_298 rfl (by first | rfl | omega) (by decide) (jnc_of rfl rfl) ?_
              refine J.goto dX7_digest_301 (by decide) (tgt := 236) ?_
              exact ih (k + 1) d _ _ (by omega) rfl (by first | rfl | assumption) hd
            · omega
          | succ t2 ih2 =>
            intro i d hi hd
            have hwi := hw9 k i (by omega) (by omega)
            have hwb := hki.pos (z := ks k) (a := k * 41 + 0) (t := i) ⟨k, 0, by omega, by omega, rfl⟩ (by omega)
            rw [Nat.add_zero] at hwb
            refine J.ild dX7_digest_261 rfl ?_
            refine J.ald_n dX7_digest_263 rfl ?_
            refine gf_X7_17 rfl dX7_digest_264 (jset_eq _ _ _) ?_
            refine J.ild_n dX7_digest_267 rfl ?_
            refine J.iald k dX7_digest_268 ((jset_ne _ _ (by omega)).trans h39) rfl (by omega) (by omega) ?_
            refine J.icmp_ge dX7_digest_269 (by decide) (tgt := 298) (by unfold inI; omega) (by unfold inI; omega) (fun h5 => ?_) (fun h5 => ?_)
            · omega
            · refine J.lld_n dX7_digest_272 rfl ?_
              refine J.ldc2 (b := 31) dX7_digest_273 kl_X7_169 (by decide) ?_
              refine J.lmul dX7_digest_276 ?_
              refine J.ald_n dX7_digest_277 rfl ?_
              refine gf_X7_20 rfl dX7_digest_278 (jset_eq _ _ _) ?_
              refine J.bipush dX7_digest_281 (by decide) ?_
              refine J.ild_n dX7_digest_283 rfl ?_
              refine J.imul dX7_digest_284 ?_
              rw [show (40 : Int) * ((k : Nat) : Int) = ((40 * k : Nat) : Int) from by push_cast; rfl]
              refine J.ild dX7_digest_285 rfl ?_
              refine J.iadd dX7_digest_287 ?_
              rw [show (((40 * k : Nat) : Int) : Int) + ((i : Nat) : Int) = (((40 * k) + i : Nat) : Int) from by push_cast; rfl]
              refine J.iald ((40 * k) + i) dX7_digest_288 ((jset_ne _ _ (by omega)).trans h40) rfl (by omega) (by omega) ?_
              rw [show Kw ((40 * k) + i) = (kr (k * 41 + i)) from hwi]
              refine J.i2l dX7_digest_289 (by unfold inI; omega) ?_
              refine J.ladd dX7_digest_290 ?_
              refine J.lst_n dX7_digest_291 (by decide) (jnc_of rfl rfl) ?_
              refine J.iinc (v := ((i + 1 : Nat) : Int)) dX7_digest_292 rfl (by first | rfl | omega) (by decide) (jnc_of rfl rfl) ?_
              refine J.goto dX7_digest_295 (by decide) (tgt := 261) ?_
              exact ih2 (i + 1) _ (by omega) hd
        exact LK (ks k) 0 _ (by omega) hd
  have L3 : ∀ (t g : Nat) (d : Int) (u4 u5 : Value), g + t = mn → u4.category = 1 → u5.category = 1 → kmU kr ks kn 0 (mxF mg t g d * 31 + ((kn : Nat) : Int)) = DF → J X mX7_digest rX7_digest 194 [.ref 37, vL d, .null, vI ((g : Nat) : Int), u4, u5] [] 0 0 (jset σ 37 (jO 6 [vI 0, vI pr, .ref 38, vI ((ln : Nat) : Int), vI ((kn : Nat) : Int), .ref 39, .ref 40, .ref 41, .ref 42, .ref 43, .ref 44, vI ((mn : Nat) : Int), .ref 45, vI ((rd : Nat) : Int), .ref 46, .ref 47, .ref 48, vI pa, vI ps])) (fun o σ1 => o = oL DF ∧ MW σ1 0 pr ln lw bn cd sz ph mn mg kn kr ks kt rd rg ∧ FrM σ σ1) := by
    intro t
    induction t with
    | zero =>
      intro g d u4 u5 hg hu4 hu5 hd
      refine J.ild_n dX7_digest_194 rfl ?_
      refine J.ald_n dX7_digest_195 rfl ?_
      refine gf_X7_124 rfl dX7_digest_196 (jset_eq _ _ _) ?_
      refine J.icmp_ge dX7_digest_199 (by decide) (tgt := 222) (by unfold inI; omega) (by unfold inI; omega) (fun h => ?_) (fun h => ?_)
      · refine J.lld_n dX7_digest_222 rfl ?_
        refine J.ldc2 (b := 31) dX7_digest_223 kl_X7_169 (by decide) ?_
        refine J.lmul dX7_digest_226 ?_
        refine J.ald_n dX7_digest_227 rfl ?_
        refine gf_X7_66 rfl dX7_digest_228 (jset_eq _ _ _) ?_
        refine J.i2l dX7_digest_231 (by unfold inI; omega) ?_
        refine J.ladd dX7_digest_232 ?_
        refine J.lst_n dX7_digest_233 (by decide) (jnc_of rfl rfl) ?_
        refine J.iconst dX7_digest_234 ?_
        refine J.ist_n dX7_digest_235 (by decide) (jnc_of rfl rfl) ?_
        exact L4 kn 0 _ _ _ (by omega) hu4 hu5 hd
      · omega
    | succ t ih =>
      intro g d u4 u5 hg hu4 hu5 hd
      have hmgg := hmg g
      refine J.ild_n dX7_digest_194 rfl ?_
      refine J.ald_n dX7_digest_195 rfl ?_
      refine gf_X7_124 rfl dX7_digest_196 (jset_eq _ _ _) ?_
      refine J.icmp_ge dX7_digest_199 (by decide) (tgt := 222) (by unfold inI; omega) (by unfold inI; omega) (fun h => ?_) (fun h => ?_)
      · omega
      · refine J.lld_n dX7_digest_202 rfl ?_
        refine J.ldc2 (b := 31) dX7_digest_203 kl_X7_169 (by decide) ?_
        refine J.lmul dX7_digest_206 ?_
        refine J.ald_n dX7_digest_207 rfl ?_
        refine gf_X7_35 rfl dX7_digest_208 (jset_eq _ _ _) ?_
        refine J.ild_n dX7_digest_211 rfl ?_
        refine J.iald g dX7_digest_212 ((jset_ne _ _ (by omega)).trans h45) rfl (by omega) (by omega) ?_
        refine J.i2l dX7_digest_213 (by unfold inI; omega) ?_
        refine J.ladd dX7_digest_214 ?_
        refine J.lst_n dX7_digest_215 (by decide) (jnc_of rfl rfl) ?_
        refine J.iinc (v := ((g + 1 : Nat) : Int)) dX7_digest_216 rfl (by first | rfl | omega) (by decide) (jnc_of rfl rfl) ?_
        refine J.goto dX7_digest_219 (by decide) (tgt := 194) ?_
        exact ih (g + 1) _ _ _ (by omega) hu4 hu5 hd
  have L2 : ∀ (t b : Nat) (d : Int) (u4 u5 : Value), b + t = 3 → u4.category = 1 → u5.category = 1 → kmU kr ks kn 0 (mxF mg mn 0 (dgU bn cd sz ph t b d * 31 + ((mn : Nat) : Int)) * 31 + ((kn : Nat) : Int)) = DF → J X mX7_digest rX7_digest 57 [.ref 37, vL d, .null, vI ((b : Nat) : Int), u4, u5] [] 0 0 (jset σ 37 (jO 6 [vI 0, vI pr, .ref 38, vI ((ln : Nat) : Int), vI ((kn : Nat) : Int), .ref 39, .ref 40, .ref 41, .ref 42, .ref 43, .ref 44, vI ((mn : Nat) : Int), .ref 45, vI ((rd : Nat) : Int), .ref 46, .ref 47, .ref 48, vI pa, vI ps])) (fun o σ1 => o = oL DF ∧ MW σ1 0 pr ln lw bn cd sz ph mn mg kn kr ks kt rd rg ∧ FrM σ σ1) := by
    intro t
    induction t with
    | zero =>
      intro b d u4 u5 hb hu4 hu5 hd
      refine J.ild_n dX7_digest_57 rfl ?_
      refine J.iconst dX7_digest_58 ?_
      refine J.icmp_ge dX7_digest_59 (by decide) (tgt := 180) (by unfold inI; omega) (by unfold inI; omega) (fun h => ?_) (fun h => ?_)
      · refine J.lld_n dX7_digest_180 rfl ?_
        refine J.ldc2 (b := 31) dX7_digest_181 kl_X7_169 (by decide) ?_
        refine J.lmul dX7_digest_184 ?_
        refine J.ald_n dX7_digest_185 rfl ?_
        refine gf_X7_124 rfl dX7_digest_186 (jset_eq _ _ _) ?_
        refine J.i2l dX7_digest_189 (by unfold inI; omega) ?_
        refine J.ladd dX7_digest_190 ?_
        refine J.lst_n dX7_digest_191 (by decide) (jnc_of rfl rfl) ?_
        refine J.iconst dX7_digest_192 ?_
        refine J.ist_n dX7_digest_193 (by decide) (jnc_of rfl rfl) ?_
        exact L3 mn 0 _ _ _ (by omega) hu4 hu5 hd
      · omega
    | succ t ih =>
      intro b d u4 u5 hb3 hu4 hu5 hd
      have hb : b < 3 := by omega
      have hbn := (hbk b hb).1
      have hcd := (hbk b hb).2.1
      have hsz := (hbk b hb).2.2.1
      have hph := (hbk b hb).2.2.2
      have hc9 := fun e he => hMc b e hb he
      have hs9 := fun e he => hMs b e hb he
      have hp9 := fun t ht => hMp b t hb ht
      refine J.ild_n dX7_digest_57 rfl ?_
      refine J.iconst dX7_digest_58 ?_
      refine J.icmp_ge dX7_digest_59 (by decide) (tgt := 180) (by unfold inI; omega) (by unfold inI; omega) (fun h => ?_) (fun h => ?_)
      · omega
      · refine J.lld_n dX7_digest_62 rfl ?_
        refine J.ldc2 (b := 31) dX7_digest_63 kl_X7_169 (by decide) ?_
        refine J.lmul dX7_digest_66 ?_
        refine J.ald_n dX7_digest_67 rfl ?_
        refine gf_X7_23 rfl dX7_digest_68 (jset_eq _ _ _) ?_
        refine J.ild_n dX7_digest_71 rfl ?_
        refine J.iald b dX7_digest_72 ((jset_ne _ _ (by omega)).trans h41) rfl (by omega) (by omega) ?_
        refine J.i2l dX7_digest_73 (by unfold inI; omega) ?_
        refine J.ladd dX7_digest_74 ?_
        refine J.lst_n dX7_digest_75 (by decide) (jnc_of rfl rfl) ?_
        refine J.bipush dX7_digest_76 (by decide) ?_
        refine J.ild_n dX7_digest_78 rfl ?_
        refine J.imul dX7_digest_79 ?_
        rw [show (40 : Int) * ((b : Nat) : Int) = ((40 * b : Nat) : Int) from by push_cast; rfl]
        refine J.ist dX7_digest_80 (by decide) (jnc_of rfl rfl) ?_
        have LE : ∀ (t2 e : Nat) (d : Int) (u5 : Value), e + t2 = bn b → u5.category = 1 → kmU kr ks kn 0 (mxF mg mn 0 (dgU bn cd sz ph t (b + 1) (bmU (cd b) (sz b) (ph b) t2 e d) * 31 + ((mn : Nat) : Int)) * 31 + ((kn : Nat) : Int)) = DF → J X mX7_digest rX7_digest 82 [.ref 37, vL d, .null, vI ((b : Nat) : Int), vI ((40 * b + e : Nat) : Int), u5] [] 0 0 (jset σ 37 (jO 6 [vI 0, vI pr, .ref 38, vI ((ln : Nat) : Int), vI ((kn : Nat) : Int), .ref 39, .ref 40, .ref 41, .ref 42, .ref 43, .ref 44, vI ((mn : Nat) : Int), .ref 45, vI ((rd : Nat) : Int), .ref 46, .ref 47, .ref 48, vI pa, vI ps])) (fun o σ1 => o = oL DF ∧ MW σ1 0 pr ln lw bn cd sz ph mn mg kn kr ks kt rd rg ∧ FrM σ σ1) := by
          intro t2
          induction t2 with
          | zero =>
            intro e d u5 he hu5 hd
            refine J.ild dX7_digest_82 rfl ?_
            refine J.bipush dX7_digest_84 (by decide) ?_
            refine J.ild_n dX7_digest_86 rfl ?_
            refine J.imul dX7_digest_87 ?_
            rw [show (40 : Int) * ((b : Nat) : Int) = ((40 * b : Nat) : Int) from by push_cast; rfl]
            refine J.ald_n dX7_digest_88 rfl ?_
            refine gf_X7_23 rfl dX7_digest_89 (jset_eq _ _ _) ?_
            refine J.ild_n dX7_digest_92 rfl ?_
            refine J.iald b dX7_digest_93 ((jset_ne _ _ (by omega)).trans h41) rfl (by omega) (by omega) ?_
            refine J.iadd dX7_digest_94 ?_
            rw [show (((40 * b : Nat) : Int) : Int) + ((bn b : Nat) : Int) = (((40 * b) + (bn b) : Nat) : Int) from by push_cast; rfl]
            refine J.icmp_ge dX7_digest_95 (by decide) (tgt := 174) (by unfold inI; omega) (by unfold inI; omega) (fun h4 => ?_) (fun h4 => ?_)
            · refine J.iinc (v := ((b + 1 : Nat) : Int)) dX7_digest_174 rfl (by first | rfl | omega) (by decide) (jnc_of rfl rfl) ?_
              refine J.goto dX7_digest_177 (by decide) (tgt := 57) ?_
              exact ih (b + 1) d _ _ (by omega) rfl hu5 hd
            · omega
          | succ t2 ih2 =>
            intro e d u5 he hu5 hd
            have hce := hcd e
            have hse := hsz e (by omega)
            refine J.ild dX7_digest_82 rfl ?_
            refine J.bipush dX7_digest_84 (by decide) ?_
            refine J.ild_n dX7_digest_86 rfl ?_
            refine J.imul dX7_digest_87 ?_
            rw [show (40 : Int) * ((b : Nat) : Int) = ((40 * b : Nat) : Int) from by push_cast; rfl]
            refine J.ald_n dX7_digest_88 rfl ?_
            refine gf_X7_23 rfl dX7_digest_89 (jset_eq _ _ _) ?_
            refine J.ild_n dX7_digest_92 rfl ?_
            refine J.iald b dX7_digest_93 ((jset_ne _ _ (by omega)).trans h41) rfl (by omega) (by omega) ?_
            refine J.iadd dX7_digest_94 ?_
            rw [show (((40 * b : Nat) : Int) : Int) + ((bn b : Nat) : Int) = (((40 * b) + (bn b) : Nat) : Int) from by push_cast; rfl]
            refine J.icmp_ge dX7_digest_95 (by decide) (tgt := 174) (by unfold inI; omega) (by unfold inI; omega) (fun h4 => ?_) (fun h4 => ?_)
            · omega
            · refine J.lld_n dX7_digest_98 rfl ?_
              refine J.ldc2 (b := 31) dX7_digest_99 kl_X7_169 (by decide) ?_
              refine J.lmul dX7_digest_102 ?_
              refine J.ald_n dX7_digest_103 rfl ?_
              refine gf_X7_26 rfl dX7_digest_104 (jset_eq _ _ _) ?_
              refine J.ild dX7_digest_107 rfl ?_
              refine J.iald (40 * b + e) dX7_digest_109 ((jset_ne _ _ (by omega)).trans h42) rfl (by omega) (by omega) ?_
              rw [show Mc (40 * b + e) = ((cd b e : Nat) : Int) from by rw [hc9 e (by omega)]]
              refine J.i2l dX7_digest_110 (by unfold inI; omega) ?_
              refine J.ladd dX7_digest_111 ?_
              refine J.ldc2 (b := 31) dX7_digest_112 kl_X7_169 (by decide) ?_
              refine J.lmul dX7_digest_115 ?_
              refine J.ald_n dX7_digest_116 rfl ?_
              refine gf_X7_29 rfl dX7_digest_117 (jset_eq _ _ _) ?_
              refine J.ild dX7_digest_120 rfl ?_
              refine J.iald (40 * b + e) dX7_digest_122 ((jset_ne _ _ (by omega)).trans h43) rfl (by omega) (by omega) ?_
              rw [show Ms (40 * b + e) = ((sz b e : Nat) : Int) from by rw [hs9 e (by omega)]]
              refine J.i2l dX7_digest_123 (by unfold inI; omega) ?_
              refine J.ladd dX7_digest_124 ?_
              refine J.lst_n dX7_digest_125 (by decide) (jnc_of rfl rfl) ?_
              refine J.iconst dX7_digest_126 ?_
              refine J.ist dX7_digest_127 (by decide) (jnc_of rfl rfl) ?_
              have LW : ∀ (t3 i : Nat) (d : Int), i + t3 = sz b e → kmU kr ks kn 0 (mxF mg mn 0 (dgU bn cd sz ph t (b + 1) (bmU (cd b) (sz b) (ph b) t2 (e + 1) (mxF (ph b) t3 (e * 6 + i) d)) * 31 + ((mn : Nat) : Int)) * 31 + ((kn : Nat) : Int)) = DF → J X mX7_digest rX7_digest 129 [.ref 37, vL d, .null, vI ((b : Nat) : Int), vI ((40 * b + e : Nat) : Int), vI ((i : Nat) : Int)] [] 0 0 (jset σ 37 (jO 6 [vI 0, vI pr, .ref 38, vI ((ln : Nat) : Int), vI ((kn : Nat) : Int), .ref 39, .ref 40, .ref 41, .ref 42, .ref 43, .ref 44, vI ((mn : Nat) : Int), .ref 45, vI ((rd : Nat) : Int), .ref 46, .ref 47, .ref 48, vI pa, vI ps])) (fun o σ1 => o = oL DF ∧ MW σ1 0 pr ln lw bn cd sz ph mn mg kn kr ks kt rd rg ∧ FrM σ σ1) := by
                intro t3
                induction t3 with
                | zero =>
                  intro i d hi hd
                  refine J.ild dX7_digest_129 rfl ?_
                  refine J.ald_n dX7_digest_131 rfl ?_
                  refine gf_X7_29 rfl dX7_digest_132 (jset_eq _ _ _) ?_
                  refine J.ild dX7_digest_135 rfl ?_
                  refine J.iald (40 * b + e) dX7_digest_137 ((jset_ne _ _ (by omega)).trans h43) rfl (by omega) (by omega) ?_
                  rw [show Ms (40 * b + e) = ((sz b e : Nat) : Int) from by rw [hs9 e (by omega)]]
                  refine J.icmp_ge dX7_digest_138 (by decide) (tgt := 168) (by unfold inI; omega) (by unfold inI; omega) (fun h6 => ?_) (fun h6 => ?_)
                  · refine J.iinc (v := ((40 * b + e + 1 : Nat) : Int)) dX7_digest_168 rfl (by first | rfl | omega) (by decide) (jnc_of rfl rfl) ?_
                    refine J.goto dX7_digest_171 (by decide) (tgt := 82) ?_
                    exact ih2 (e + 1) d _ (by omega) rfl hd
                  · omega
                | succ t3 ih3 =>
                  intro i d hi hd
                  have hpb := hph (e * 6 + i)
                  refine J.ild dX7_digest_129 rfl ?_
                  refine J.ald_n dX7_digest_131 rfl ?_
                  refine gf_X7_29 rfl dX7_digest_132 (jset_eq _ _ _) ?_
                  refine J.ild dX7_digest_135 rfl ?_
                  refine J.iald (40 * b + e) dX7_digest_137 ((jset_ne _ _ (by omega)).trans h43) rfl (by omega) (by omega) ?_
                  rw [show Ms (40 * b + e) = ((sz b e : Nat) : Int) from by rw [hs9 e (by omega)]]
                  refine J.icmp_ge dX7_digest_138 (by decide) (tgt := 168) (by unfold inI; omega) (by unfold inI; omega) (fun h6 => ?_) (fun h6 => ?_)
                  · omega
                  · refine J.lld_n dX7_digest_141 rfl ?_
                    refine J.ldc2 (b := 31) dX7_digest_142 kl_X7_169 (by decide) ?_
                    refine J.lmul dX7_digest_145 ?_
                    refine J.ald_n dX7_digest_146 rfl ?_
                    refine gf_X7_32 rfl dX7_digest_147 (jset_eq _ _ _) ?_
                    refine J.bipush dX7_digest_150 (by decide) ?_
                    refine J.ild dX7_digest_152 rfl ?_
                    refine J.imul dX7_digest_154 ?_
                    rw [show (6 : Int) * ((40 * b + e : Nat) : Int) = ((6 * (40 * b + e) : Nat) : Int) from by push_cast; rfl]
                    refine J.ild dX7_digest_155 rfl ?_
                    refine J.iadd dX7_digest_157 ?_
                    rw [show (((6 * (40 * b + e) : Nat) : Int) : Int) + ((i : Nat) : Int) = (((6 * (40 * b + e)) + i : Nat) : Int) from by push_cast; rfl]
                    refine J.iald (240 * b + (e * 6 + i)) dX7_digest_158 ((jset_ne _ _ (by omega)).trans h44) (by omega) (by omega) (by omega) ?_
                    rw [show Mp (240 * b + (e * 6 + i)) = (ph b (e * 6 + i)) from hp9 (e * 6 + i) (by omega)]
                    refine J.i2l dX7_digest_159 (by unfold inI; omega) ?_
                    refine J.ladd dX7_digest_160 ?_
                    refine J.lst_n dX7_digest_161 (by decide) (jnc_of rfl rfl) ?_
                    refine J.iinc (v := ((i + 1 : Nat) : Int)) dX7_digest_162 rfl (by first | rfl | omega) (by decide) (jnc_of rfl rfl) ?_
                    refine J.goto dX7_digest_165 (by decide) (tgt := 129) ?_
                    exact ih3 (i + 1) _ (by omega) hd
              exact LW (sz b e) 0 _ (by omega) hd
        exact LE (bn b) 0 _ _ (by omega) hu5 hd
  refine J.ldc2 (b := 11749) dX7_digest_5 kl_X7_167 (by decide) ?_
  refine J.ald_n dX7_digest_8 rfl ?_
  refine gf_X7_7 rfl dX7_digest_9 (jset_eq _ _ _) ?_
  refine J.i2l dX7_digest_12 (by unfold inI; omega) ?_
  refine J.ladd dX7_digest_13 ?_
  refine J.ldc2 (b := 31) dX7_digest_14 kl_X7_169 (by decide) ?_
  refine J.lmul dX7_digest_17 ?_
  refine J.ald_n dX7_digest_18 rfl ?_
  refine gf_X7_63 rfl dX7_digest_19 (jset_eq _ _ _) ?_
  refine J.i2l dX7_digest_22 (by unfold inI; omega) ?_
  refine J.ladd dX7_digest_23 ?_
  refine J.lst_n dX7_digest_24 (by decide) (jnc_of rfl rfl) ?_
  refine J.iconst dX7_digest_25 ?_
  refine J.ist_n dX7_digest_26 (by decide) (jnc_of rfl rfl) ?_
  have L1 : ∀ (t a : Nat) (d : Int) (u4 u5 : Value), a + t = ln → u4.category = 1 → u5.category = 1 → kmU kr ks kn 0 (mxF mg mn 0 (dgU bn cd sz ph 3 0 (mxF lw t a d) * 31 + ((mn : Nat) : Int)) * 31 + ((kn : Nat) : Int)) = DF → J X mX7_digest rX7_digest 27 [.ref 37, vL d, .null, vI ((a : Nat) : Int), u4, u5] [] 0 0 (jset σ 37 (jO 6 [vI 0, vI pr, .ref 38, vI ((ln : Nat) : Int), vI ((kn : Nat) : Int), .ref 39, .ref 40, .ref 41, .ref 42, .ref 43, .ref 44, vI ((mn : Nat) : Int), .ref 45, vI ((rd : Nat) : Int), .ref 46, .ref 47, .ref 48, vI pa, vI ps])) (fun o σ1 => o = oL DF ∧ MW σ1 0 pr ln lw bn cd sz ph mn mg kn kr ks kt rd rg ∧ FrM σ σ1) := by
    intro t
    induction t with
    | zero =>
      intro a d u4 u5 ha hu4 hu5 hd
      refine J.ild_n dX7_digest_27 rfl ?_
      refine J.ald_n dX7_digest_28 rfl ?_
      refine gf_X7_63 rfl dX7_digest_29 (jset_eq _ _ _) ?_
      refine J.icmp_ge dX7_digest_32 (by decide) (tgt := 55) (by unfold inI; omega) (by unfold inI; omega) (fun h => ?_) (fun h => ?_)
      · refine J.iconst dX7_digest_55 ?_
        refine J.ist_n dX7_digest_56 (by decide) (jnc_of rfl rfl) ?_
        exact L2 3 0 _ _ _ (by omega) hu4 hu5 hd
      · omega
    | succ t ih =>
      intro a d u4 u5 ha hu4 hu5 hd
      have hmla := hml a (by omega)
      have hlwa := hlw a
      refine J.ild_n dX7_digest_27 rfl ?_
      refine J.ald_n dX7_digest_28 rfl ?_
      refine gf_X7_63 rfl dX7_digest_29 (jset_eq _ _ _) ?_
      refine J.icmp_ge dX7_digest_32 (by decide) (tgt := 55) (by unfold inI; omega) (by unfold inI; omega) (fun h => ?_) (fun h => ?_)
      · omega
      · refine J.lld_n dX7_digest_35 rfl ?_
        refine J.ldc2 (b := 31) dX7_digest_36 kl_X7_169 (by decide) ?_
        refine J.lmul dX7_digest_39 ?_
        refine J.ald_n dX7_digest_40 rfl ?_
        refine gf_X7_13 rfl dX7_digest_41 (jset_eq _ _ _) ?_
        refine J.ild_n dX7_digest_44 rfl ?_
        refine J.iald a dX7_digest_45 ((jset_ne _ _ (by omega)).trans h38) rfl (by omega) (by omega) ?_
        rw [show ml a = (lw a) from hmla]
        refine J.i2l dX7_digest_46 (by unfold inI; omega) ?_
        refine J.ladd dX7_digest_47 ?_
        refine J.lst_n dX7_digest_48 (by decide) (jnc_of rfl rfl) ?_
        refine J.iinc (v := ((a + 1 : Nat) : Int)) dX7_digest_49 rfl (by first | rfl | omega) (by decide) (jnc_of rfl rfl) ?_
        refine J.goto dX7_digest_52 (by decide) (tgt := 27) ?_
        exact ih (a + 1) _ _ _ (by omega) hu4 hu5 hd
  exact L1 ln 0 _ .null .null (by omega) rfl rfl hDF2
