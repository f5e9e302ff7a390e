abbrev rX6_init : Room := { frames := 2, cells := 31, slots := 4648, locals := 62 }
abbrev rX0_init : Room := { frames := 1, cells := 3, slots := 320, locals := 12 }
abbrev rX4_init : Room := { frames := 1, cells := 1, slots := 40, locals := 12 }
abbrev rX3_init : Room := { frames := 1, cells := 9, slots := 3461, locals := 23 }
abbrev rJ7_fill_53178 : Room := { frames := 0, cells := 0, slots := 0, locals := 0 }
abbrev rX5_init : Room := { frames := 1, cells := 1, slots := 40, locals := 12 }
abbrev rX2_init : Room := { frames := 1, cells := 2, slots := 81, locals := 12 }
abbrev rX6_words : Room := { frames := 0, cells := 0, slots := 0, locals := 0 }
abbrev rX6_wordAt : Room := { frames := 6, cells := 1, slots := 6, locals := 90 }
abbrev rX6_recall : Room := { frames := 6, cells := 1, slots := 6, locals := 90 }
abbrev rX4_clear : Room := { frames := 0, cells := 0, slots := 0, locals := 0 }
abbrev rX3_startOf : Room := { frames := 0, cells := 0, slots := 0, locals := 0 }
abbrev rX4_appendAll : Room := { frames := 1, cells := 0, slots := 0, locals := 21 }
abbrev rX4_append : Room := { frames := 0, cells := 0, slots := 0, locals := 0 }
abbrev rX6_entries : Room := { frames := 7, cells := 1, slots := 6, locals := 111 }
abbrev rX6_requireBook : Room := { frames := 6, cells := 1, slots := 6, locals := 90 }
abbrev rX6_entry : Room := { frames := 7, cells := 3, slots := 18, locals := 111 }
abbrev rX6_requireEntry : Room := { frames := 6, cells := 1, slots := 6, locals := 90 }
abbrev rX0_startOf : Room := { frames := 0, cells := 0, slots := 0, locals := 0 }
abbrev rX6_find : Room := { frames := 7, cells := 2, slots := 12, locals := 111 }
abbrev rX6_requireCode : Room := { frames := 6, cells := 1, slots := 6, locals := 90 }
abbrev rX0_entryWith : Room := { frames := 0, cells := 0, slots := 0, locals := 0 }
abbrev rX6_setPrice : Room := { frames := 6, cells := 1, slots := 6, locals := 90 }
abbrev rX6_encode : Room := { frames := 7, cells := 1, slots := 6, locals := 111 }
abbrev rX2_divide : Room := { frames := 2, cells := 0, slots := 0, locals := 56 }
abbrev rX2_bestPiece : Room := { frames := 1, cells := 0, slots := 0, locals := 25 }
abbrev rX6_sameWords : Room := { frames := 0, cells := 0, slots := 0, locals := 0 }
abbrev rX0_goesAhead : Room := { frames := 0, cells := 0, slots := 0, locals := 0 }
abbrev rX5_clear : Room := { frames := 0, cells := 0, slots := 0, locals := 0 }
abbrev rX5_plain : Room := { frames := 0, cells := 0, slots := 0, locals := 0 }
abbrev rX5_append : Room := { frames := 0, cells := 0, slots := 0, locals := 0 }
abbrev rX6_groups : Room := { frames := 0, cells := 0, slots := 0, locals := 0 }
abbrev rX6_group : Room := { frames := 7, cells := 1, slots := 6, locals := 111 }
abbrev rX6_requireGroup : Room := { frames := 6, cells := 1, slots := 6, locals := 90 }
abbrev rX6_garble : Room := { frames := 7, cells := 4, slots := 24, locals := 111 }
abbrev rX6_requirePlace : Room := { frames := 6, cells := 1, slots := 6, locals := 90 }
abbrev rX6_requireCodeWord : Room := { frames := 6, cells := 1, slots := 6, locals := 90 }
abbrev rX5_isPlain : Room := { frames := 0, cells := 0, slots := 0, locals := 0 }
abbrev rX1_withLetter : Room := { frames := 1, cells := 0, slots := 0, locals := 23 }
abbrev rX1_letterAt : Room := { frames := 0, cells := 0, slots := 0, locals := 0 }
abbrev rX6_decode : Room := { frames := 7, cells := 1, slots := 6, locals := 111 }
abbrev rX6_read : Room := { frames := 2, cells := 0, slots := 0, locals := 49 }
abbrev rX5_wordOf : Room := { frames := 0, cells := 0, slots := 0, locals := 0 }
abbrev rX0_onlyEntryLike : Room := { frames := 1, cells := 0, slots := 0, locals := 26 }
abbrev rX1_likeness : Room := { frames := 0, cells := 0, slots := 0, locals := 0 }
abbrev rX6_how : Room := { frames := 6, cells := 1, slots := 6, locals := 90 }
abbrev rX6_cost : Room := { frames := 2, cells := 0, slots := 0, locals := 43 }
abbrev rX5_costAt : Room := { frames := 1, cells := 0, slots := 0, locals := 20 }
abbrev rX6_time : Room := { frames := 3, cells := 0, slots := 0, locals := 67 }
abbrev rX5_units : Room := { frames := 2, cells := 0, slots := 0, locals := 45 }
abbrev rX5_wordUnits : Room := { frames := 1, cells := 0, slots := 0, locals := 22 }
abbrev rJ9_floorMod_7cf53 : Room := { frames := 0, cells := 0, slots := 0, locals := 0 }
abbrev rX1_units : Room := { frames := 1, cells := 0, slots := 0, locals := 22 }
abbrev rX6_share : Room := { frames := 7, cells := 1, slots := 6, locals := 111 }
abbrev rX6_learn : Room := { frames := 7, cells := 2, slots := 12, locals := 111 }
abbrev rX6_learnOne : Room := { frames := 3, cells := 0, slots := 0, locals := 79 }
abbrev rX3_proposeOn : Room := { frames := 2, cells := 0, slots := 0, locals := 49 }
abbrev rX0_hasPhrase : Room := { frames := 1, cells := 0, slots := 0, locals := 25 }
abbrev rX0_latestCode : Room := { frames := 0, cells := 0, slots := 0, locals := 0 }
abbrev rX0_fitFrom : Room := { frames := 2, cells := 0, slots := 0, locals := 50 }
abbrev rX0_reasonAgainst : Room := { frames := 1, cells := 0, slots := 0, locals := 26 }
abbrev rX0_add : Room := { frames := 1, cells := 0, slots := 0, locals := 48 }
abbrev rL_below : Room := { frames := 0, cells := 0, slots := 0, locals := 0 }
abbrev rL_cell : Room := { frames := 0, cells := 0, slots := 0, locals := 0 }
abbrev rL_letter : Room := { frames := 0, cells := 0, slots := 0, locals := 0 }
abbrev rL_off : Room := { frames := 1, cells := 0, slots := 0, locals := 23 }
abbrev rL_keep : Room := { frames := 7, cells := 200, slots := 1200, locals := 117 }
abbrev rX6_say : Room := { frames := 6, cells := 1, slots := 6, locals := 90 }
abbrev rX6_keep : Room := { frames := 6, cells := 1, slots := 6, locals := 97 }
abbrev rX3_add : Room := { frames := 3, cells := 0, slots := 0, locals := 74 }
abbrev rX3_countPhrases : Room := { frames := 2, cells := 0, slots := 0, locals := 48 }
abbrev rX3_firstFinding : Room := { frames := 1, cells := 0, slots := 0, locals := 25 }
theorem gs_X5_35 : Cond.fieldLinkNest RX5 35 "WireBook" "DIGIT_UNITS" "[I" "WireBook" ∈ lw_tbl := List.mem_of_getElem? (i := 444) (by decide +kernel)
theorem gs_X1_19 : Cond.fieldLinkNest RX1 19 "WireBook" "LETTER_UNITS" "[I" "WireBook" ∈ lw_tbl := List.mem_of_getElem? (i := 452) (by decide +kernel)
theorem jnc_of {lc : List Value} {i : Nat} {w : Value} (h : lc[i - 1]? = some w) (hc : w.category = 1) : jnc lc i := fun v hv _ => by
  rw [h] at hv
  cases hv
  exact hc
theorem jnc_0 {lc : List Value} : jnc lc 0 := fun v _ h => absurd h (by decide)
/-- one end: the answer, the world -/
abbrev jEnd (o1 : jOut) (σ1 : jS) : jOut → jS → Prop := fun o σ' => o = o1 ∧ σ' = σ1
abbrev oI (a : Int) : jOut := .inl (some (vI a))
abbrev oR (i : Nat) : jOut := .inl (some (.ref i))
abbrev oL (a : Int) : jOut := .inl (some (vL a))
abbrev oV : jOut := .inl none
abbrev bI (b : Prop) [Decidable b] : Int := if b then 1 else 0
abbrev eIae : String := "java/lang/IllegalArgumentException"
abbrev eIse : String := "java/lang/IllegalStateException"
abbrev eIob : String := "java/lang/IndexOutOfBoundsException"
theorem JM.of {X : jX} {M : jMt} {rm : Room} {as lc : List Value} {σ : jS} {Q : jOut → jS → Prop} (h : jlc M.2.2.1 as = lc) (hJ : J X M rm 0 lc [] 0 0 σ Q) : JM X M rm as σ Q := by
  subst h
  exact hJ
