abbrev rm_X6_value : Room := { frames := 2, cells := 0, slots := 0, locals := 42 }
theorem hd_X6_value : yX6_value.cls ≠ "java/lang/invoke/MethodHandle" ∧ yX6_value.cls ≠ "java/lang/invoke/VarHandle" ∧ (parseMethodDescriptor yX6_value.desc).map (fun d => d.parameters.length) = some 2 := by decide +kernel
def f_X6_value (vl : Nat → Int32) (x1 : Int32) (x2 : Int32) : Option (Int32 × (Nat → Int32)) :=
  (f_X6_isGood x1).bind fun o1 =>
  if o1 = 0 then
    some ((0 : Int32), vl)
  else
    (f_X6_isWithin x2 (0 : Int32) (10000 : Int32)).bind fun o4 =>
    if o4 = 0 then
      some ((0 : Int32), vl)
    else
      ck x1 12 <|
      some ((1 : Int32), (upd vl x1.toNatClampNeg x2))
set_option maxHeartbeats 4000000 in
set_option maxRecDepth 100000 in
theorem c_X6_value {l : Launch} {D : va_G} {cI cJ cZ : ClassId} {a : Nat → Nat} {sz : Nat} {vl : Nat → Int32} {hs : Nat → Int32} {isz : Nat → Int32} {igd : Nat → Int32} {iup : Nat → Int32} {idn : Nat → Int32} {osz : Nat → Int32} {ogd : Nat → Int32} {oup : Nat → Int32} {odn : Nat → Int32} {dep : Nat → Int32} {rsz : Int32} {lgd : Nat → Int32} {llf : Nat → Int64} {ldb : Nat → Int64} {ldy : Nat → Int32} {lsz : Int32} {lti : Int64} {pgd : Nat → Int32} {plf : Nat → Int64} {pun : Nat → Int32} {psz : Int32} {bgd : Nat → Int32} {bam : Nat → Int64} {bwt : Nat → Int64} {bsh : Nat → Int64} {brm : Nat → Int64} {bsz : Int32} {cab : Nat → Int64} {cbl : Nat → Int64} {tod : Int32} {imp : Int64} {dis : Int64} {owe : Int64} {itr : Int64} {x1 : Int32} {x2 : Int32} {o : Int32 × (Nat → Int32)} (hf : f_X6_value vl x1 x2 = some o) : gMi l yX6_value wsX6_value rm_X6_value D (gT cI cJ cZ) (cW a cI cJ cZ vl hs isz igd iup idn osz ogd oup odn dep rsz lgd llf ldb ldy lsz lti pgd plf pun psz bgd bam bwt bsh brm bsz cab cbl tod imp dis owe itr) (cW a cI cJ cZ o.2 hs isz igd iup idn osz ogd oup odn dep rsz lgd llf ldb ldy lsz lti pgd plf pun psz bgd bam bwt bsh brm bsz cab cbl tod imp dis owe itr) sz [.ref (a 0), .int x1, .int x2] o.1 := by
  refine g_of (cc := cX6_value) (maxL := 3) (ret := (some .boolean)) (by decide) rfl (Nat.le_of_ble_eq_true rfl) ?_
  intro p e s m below meth c A ls hAe C hl E
  rw [← hAe]
  obtain ⟨hx, hb, hr, hml, hown, hts, hlocks, hN, hA⟩ := id C
  have hl : lv_has ls 3 [(0, .ref (a 0)), (1, .int x1), (2, .int x2)] := hl
  have E : vE s A D (gT cI cJ cZ) (cW a cI cJ cZ vl hs isz igd iup idn osz ogd oup odn dep rsz lgd llf ldb ldy lsz lti pgd plf pun psz bgd bam bwt bsh brm bsz cab cbl tod imp dis owe itr) s.heap [] := E
  rw [f_X6_value] at hf
  refine lv_iload_n hx hb dX6_value_0 rfl (lv_at hl 1 rfl) ?_
  obtain ⟨o1, e2, hf⟩ := bd_some hf
  refine g_calli (w' := (cW a cI cJ cZ vl hs isz igd iup idn osz ogd oup odn dep rsz lgd llf ldb ldy lsz lti pgd plf pun psz bgd bam bwt bsh brm bsz cab cbl tod imp dis owe itr)) C E (g_runS (As := [.int x1]) (rest := []) C E (c_X6_isGood e2) (va_cwS 1 hts gX6_value_X6_isGood rfl rfl rfl hd_X6_isGood ⟨Nat.le_of_ble_eq_true rfl, Nat.le_of_ble_eq_true rfl⟩) rfl hl.1 rfl (Nat.le_of_ble_eq_true rfl) dX6_value_1 ⟨Nat.le_of_ble_eq_true rfl, Nat.le_of_ble_eq_true rfl⟩) (fun H locs E => ?_)
  refine lv_if_eq (tgt := 18) hx hb dX6_value_4 (by decide) (fun c3 => ?_) (fun c3 => ?_)
  · rw [if_pos c3] at hf
    refine lv_iconst (v := 0) hx hb dX6_value_18 (by decide) ?_
    obtain rfl := Option.some.inj hf
    exact g_zret (r := 0) C E rfl dX6_value_19
  · rw [if_neg c3] at hf
    refine lv_iload_n hx hb dX6_value_7 rfl (lv_at hl 2 rfl) ?_
    refine lv_iconst (v := 0) hx hb dX6_value_8 (by decide) ?_
    refine lv_sipush (v := 10000) hx hb dX6_value_9 (by decide) ?_
    obtain ⟨o4, e5, hf⟩ := bd_some hf
    refine g_calli (w' := (cW a cI cJ cZ vl hs isz igd iup idn osz ogd oup odn dep rsz lgd llf ldb ldy lsz lti pgd plf pun psz bgd bam bwt bsh brm bsz cab cbl tod imp dis owe itr)) C E (g_runS (As := [.int x2, .int (0 : Int32), .int (10000 : Int32)]) (rest := []) C E (c_X6_isWithin e5) (va_cwS 3 hts gX6_value_X6_isWithin rfl rfl rfl hd_X6_isWithin ⟨Nat.le_of_ble_eq_true rfl, Nat.le_of_ble_eq_true rfl⟩) rfl hl.1 rfl (Nat.le_of_ble_eq_true rfl) dX6_value_12 ⟨Nat.le_of_ble_eq_true rfl, Nat.le_of_ble_eq_true rfl⟩) (fun H locs E => ?_)
    refine lv_if_ne (tgt := 20) hx hb dX6_value_15 (by decide) (fun c6 => ?_) (fun c6 => ?_)
    · rw [if_neg c6] at hf
      refine lv_aload_n hx hb dX6_value_20 rfl (lv_at hl 0 rfl) ?_
      refine g_get C E 0 0 (fun _ h => List.mem_cons_of_mem _ (List.mem_append_right _ h)) rfl rfl (by decide) (List.mem_of_getElem? (i := 1) rfl) rfl rfl dX6_value_21 ?_
      refine lv_iload_n hx hb dX6_value_24 rfl (lv_at hl 1 rfl) ?_
      refine lv_iload_n hx hb dX6_value_25 rfl (lv_at hl 2 rfl) ?_
      obtain ⟨h7, hf⟩ := ck_some hf
      refine g_iast (w' := (cW a cI cJ cZ (upd vl x1.toNatClampNeg x2) hs isz igd iup idn osz ogd oup odn dep rsz lgd llf ldb ldy lsz lti pgd plf pun psz bgd bam bwt bsh brm bsz cab cbl tod imp dis owe itr)) C E 1 rfl h7 dX6_value_26 rfl (fun H locs E => ?_)
      refine lv_iconst (v := 1) hx hb dX6_value_27 (by decide) ?_
      obtain rfl := Option.some.inj hf
      exact g_zret (r := 1) C E rfl dX6_value_28
    · rw [if_pos c6] at hf
      refine lv_iconst (v := 0) hx hb dX6_value_18 (by decide) ?_
      obtain rfl := Option.some.inj hf
      exact g_zret (r := 0) C E rfl dX6_value_19
abbrev rm_X6_recipe : Room := { frames := 2, cells := 0, slots := 0, locals := 42 }
theorem hd_X6_recipe : yX6_recipe.cls ≠ "java/lang/invoke/MethodHandle" ∧ yX6_recipe.cls ≠ "java/lang/invoke/VarHandle" ∧ (parseMethodDescriptor yX6_recipe.desc).map (fun d => d.parameters.length) = some 1 := by decide +kernel
def f_X6_recipe (hs : Nat → Int32) (rsz : Int32) (x1 : Int32) : Option (Int32 × (Nat → Int32) × (Int32)) :=
  (f_X6_isGood x1).bind fun o1 =>
  if o1 = 0 then
    some ((0 : Int32), hs, rsz)
  else
    ck x1 12 <|
    if (hs x1.toNatClampNeg) = 0 then
      ck x1 12 <|
      some ((1 : Int32), (upd hs x1.toNatClampNeg (vp_nar .boolean (1 : Int32))), (rsz + (1 : Int32)))
    else
      some ((0 : Int32), hs, rsz)
set_option maxHeartbeats 4000000 in
set_option maxRecDepth 100000 in
theorem c_X6_recipe {l : Launch} {D : va_G} {cI cJ cZ : ClassId} {a : Nat → Nat} {sz : Nat} {vl : Nat → Int32} {hs : Nat → Int32} {isz : Nat → Int32} {igd : Nat → Int32} {iup : Nat → Int32} {idn : Nat → Int32} {osz : Nat → Int32} {ogd : Nat → Int32} {oup : Nat → Int32} {odn : Nat → Int32} {dep : Nat → Int32} {rsz : Int32} {lgd : Nat → Int32} {llf : Nat → Int64} {ldb : Nat → Int64} {ldy : Nat → Int32} {lsz : Int32} {lti : Int64} {pgd : Nat → Int32} {plf : Nat → Int64} {pun : Nat → Int32} {psz : Int32} {bgd : Nat → Int32} {bam : Nat → Int64} {bwt : Nat → Int64} {bsh : Nat → Int64} {brm : Nat → Int64} {bsz : Int32} {cab : Nat → Int64} {cbl : Nat → Int64} {tod : Int32} {imp : Int64} {dis : Int64} {owe : Int64} {itr : Int64} {x1 : Int32} {o : Int32 × (Nat → Int32) × (Int32)} (hf : f_X6_recipe hs rsz x1 = some o) : gMi l yX6_recipe wsX6_recipe rm_X6_recipe D (gT cI cJ cZ) (cW a cI cJ cZ vl hs isz igd iup idn osz ogd oup odn dep rsz lgd llf ldb ldy lsz lti pgd plf pun psz bgd bam bwt bsh brm bsz cab cbl tod imp dis owe itr) (cW a cI cJ cZ vl o.2.1 isz igd iup idn osz ogd oup odn dep o.2.2 lgd llf ldb ldy lsz lti pgd plf pun psz bgd bam bwt bsh brm bsz cab cbl tod imp dis owe itr) sz [.ref (a 0), .int x1] o.1 := by
  refine g_of (cc := cX6_recipe) (maxL := 2) (ret := (some .boolean)) (by decide) rfl (Nat.le_of_ble_eq_true rfl) ?_
  intro p e s m below meth c A ls hAe C hl E
  rw [← hAe]
  obtain ⟨hx, hb, hr, hml, hown, hts, hlocks, hN, hA⟩ := id C
  have hl : lv_has ls 2 [(0, .ref (a 0)), (1, .int x1)] := hl
  have E : vE s A D (gT cI cJ cZ) (cW a cI cJ cZ vl hs isz igd iup idn osz ogd oup odn dep rsz lgd llf ldb ldy lsz lti pgd plf pun psz bgd bam bwt bsh brm bsz cab cbl tod imp dis owe itr) s.heap [] := E
  rw [f_X6_recipe] at hf
  refine lv_iload_n hx hb dX6_recipe_0 rfl (lv_at hl 1 rfl) ?_
  obtain ⟨o1, e2, hf⟩ := bd_some hf
  refine g_calli (w' := (cW a cI cJ cZ vl hs isz igd iup idn osz ogd oup odn dep rsz lgd llf ldb ldy lsz lti pgd plf pun psz bgd bam bwt bsh brm bsz cab cbl tod imp dis owe itr)) C E (g_runS (As := [.int x1]) (rest := []) C E (c_X6_isGood e2) (va_cwS 1 hts gX6_recipe_X6_isGood rfl rfl rfl hd_X6_isGood ⟨Nat.le_of_ble_eq_true rfl, Nat.le_of_ble_eq_true rfl⟩) rfl hl.1 rfl (Nat.le_of_ble_eq_true rfl) dX6_recipe_1 ⟨Nat.le_of_ble_eq_true rfl, Nat.le_of_ble_eq_true rfl⟩) (fun H locs E => ?_)
  refine lv_if_eq (tgt := 19) hx hb dX6_recipe_4 (by decide) (fun c3 => ?_) (fun c3 => ?_)
  · rw [if_pos c3] at hf
    refine lv_iconst (v := 0) hx hb dX6_recipe_19 (by decide) ?_
    obtain rfl := Option.some.inj hf
    exact g_zret (r := 0) C E rfl dX6_recipe_20
  · rw [if_neg c3] at hf
    refine lv_aload_n hx hb dX6_recipe_7 rfl (lv_at hl 0 rfl) ?_
    refine g_get C E 0 1 (fun _ h => List.mem_cons_of_mem _ (List.mem_append_left _ (List.mem_append_right _ h))) rfl rfl (by decide) (List.mem_of_getElem? (i := 1) rfl) rfl rfl dX6_recipe_8 ?_
    refine g_get C E 2 0 (fun _ h => List.mem_cons_of_mem _ (List.mem_append_right _ h)) rfl rfl (by decide) (List.mem_of_getElem? (i := 2) rfl) rfl rfl dX6_recipe_11 ?_
    refine lv_iload_n hx hb dX6_recipe_14 rfl (lv_at hl 1 rfl) ?_
    obtain ⟨h4, hf⟩ := ck_some hf
    refine g_zald C E 3 rfl h4 dX6_recipe_15 ?_
    refine lv_if_eq (tgt := 21) hx hb dX6_recipe_16 (by decide) (fun c5 => ?_) (fun c5 => ?_)
    · rw [if_pos c5] at hf
      refine lv_aload_n hx hb dX6_recipe_21 rfl (lv_at hl 0 rfl) ?_
      refine g_get C E 0 1 (fun _ h => List.mem_cons_of_mem _ (List.mem_append_left _ (List.mem_append_right _ h))) rfl rfl (by decide) (List.mem_of_getElem? (i := 1) rfl) rfl rfl dX6_recipe_22 ?_
      refine g_get C E 2 0 (fun _ h => List.mem_cons_of_mem _ (List.mem_append_right _ h)) rfl rfl (by decide) (List.mem_of_getElem? (i := 2) rfl) rfl rfl dX6_recipe_25 ?_
      refine lv_iload_n hx hb dX6_recipe_28 rfl (lv_at hl 1 rfl) ?_
      refine lv_iconst (v := 1) hx hb dX6_recipe_29 (by decide) ?_
      obtain ⟨h6, hf⟩ := ck_some hf
      refine g_zast (w' := (cW a cI cJ cZ vl (upd hs x1.toNatClampNeg (vp_nar .boolean (1 : Int32))) isz igd iup idn osz ogd oup odn dep rsz lgd llf ldb ldy lsz lti pgd plf pun psz bgd bam bwt bsh brm bsz cab cbl tod imp dis owe itr)) C E 3 rfl h6 dX6_recipe_30 rfl (fun H locs E => ?_)
      refine lv_aload_n hx hb dX6_recipe_31 rfl (lv_at hl 0 rfl) ?_
      refine g_get C E 0 1 (fun _ h => List.mem_cons_of_mem _ (List.mem_append_left _ (List.mem_append_right _ h))) rfl rfl (by decide) (List.mem_of_getElem? (i := 1) rfl) rfl rfl dX6_recipe_32 ?_
      refine lv_dup hx hb dX6_recipe_35 rfl ?_
      refine g_get C E 2 4 (fun _ h => List.mem_cons_of_mem _ (List.mem_append_right _ h)) rfl rfl (by decide) (List.mem_of_getElem? (i := 3) rfl) rfl rfl dX6_recipe_36 ?_
      refine lv_iconst (v := 1) hx hb dX6_recipe_39 (by decide) ?_
      refine lv_iadd hx hb dX6_recipe_40 ?_
      refine g_put (w' := (cW a cI cJ cZ vl (upd hs x1.toNatClampNeg (vp_nar .boolean (1 : Int32))) isz igd iup idn osz ogd oup odn dep (rsz + (1 : Int32)) lgd llf ldb ldy lsz lti pgd plf pun psz bgd bam bwt bsh brm bsz cab cbl tod imp dis owe itr)) C E 2 4 tyX5 tyX5_ok nmX5 (fun _ h => List.mem_cons_of_mem _ (List.mem_append_right _ h)) rfl rfl (by decide) (List.mem_of_getElem? (i := 3) rfl) rfl rfl rfl rfl rfl (Nat.le_of_ble_eq_true rfl) dX6_recipe_41 rfl (fun H locs E => ?_)
      refine lv_iconst (v := 1) hx hb dX6_recipe_44 (by decide) ?_
      obtain rfl := Option.some.inj hf
      exact g_zret (r := 1) C E rfl dX6_recipe_45
    · rw [if_neg c5] at hf
      refine lv_iconst (v := 0) hx hb dX6_recipe_19 (by decide) ?_
      obtain rfl := Option.some.inj hf
      exact g_zret (r := 0) C E rfl dX6_recipe_20
abbrev rm_X6_day : Room := { frames := 1, cells := 0, slots := 0, locals := 22 }
theorem hd_X6_day : yX6_day.cls ≠ "java/lang/invoke/MethodHandle" ∧ yX6_day.cls ≠ "java/lang/invoke/VarHandle" ∧ (parseMethodDescriptor yX6_day.desc).map (fun d => d.parameters.length) = some 1 := by decide +kernel
def f_X6_day (tod : Int32) (x1 : Int32) : Option (Int32 × (Int32)) :=
  (f_X6_isWithin x1 tod (100000 : Int32)).bind fun o1 =>
  if o1 = 0 then
    some ((0 : Int32), tod)
  else
    some ((1 : Int32), x1)
set_option maxHeartbeats 4000000 in
set_option maxRecDepth 100000 in
theorem c_X6_day {l : Launch} {D : va_G} {cI cJ cZ : ClassId} {a : Nat → Nat} {sz : Nat} {vl : Nat → Int32} {hs : Nat → Int32} {isz : Nat → Int32} {igd : Nat → Int32} {iup : Nat → Int32} {idn : Nat → Int32} {osz : Nat → Int32} {ogd : Nat → Int32} {oup : Nat → Int32} {odn : Nat → Int32} {dep : Nat → Int32} {rsz : Int32} {lgd : Nat → Int32} {llf : Nat → Int64} {ldb : Nat → Int64} {ldy : Nat → Int32} {lsz : Int32} {lti : Int64} {pgd : Nat → Int32} {plf : Nat → Int64} {pun : Nat → Int32} {psz : Int32} {bgd : Nat → Int32} {bam : Nat → Int64} {bwt : Nat → Int64} {bsh : Nat → Int64} {brm : Nat → Int64} {bsz : Int32} {cab : Nat → Int64} {cbl : Nat → Int64} {tod : Int32} {imp : Int64} {dis : Int64} {owe : Int64} {itr : Int64} {x1 : Int32} {o : Int32 × (Int32)} (hf : f_X6_day tod x1 = some o) : gMi l yX6_day wsX6_day rm_X6_day D (gT cI cJ cZ) (cW a cI cJ cZ vl hs isz igd iup idn osz ogd oup odn dep rsz lgd llf ldb ldy lsz lti pgd plf pun psz bgd bam bwt bsh brm bsz cab cbl tod imp dis owe itr) (cW a cI cJ cZ vl hs isz igd iup idn osz ogd oup odn dep rsz lgd llf ldb ldy lsz lti pgd plf pun psz bgd bam bwt bsh brm bsz cab cbl o.2 imp dis owe itr) sz [.ref (a 0), .int x1] o.1 := by
  refine g_of (cc := cX6_day) (maxL := 2) (ret := (some .boolean)) (by decide) rfl (Nat.le_of_ble_eq_true rfl) ?_
  intro p e s m below meth c A ls hAe C hl E
  rw [← hAe]
  obtain ⟨hx, hb, hr, hml, hown, hts, hlocks, hN, hA⟩ := id C
  have hl : lv_has ls 2 [(0, .ref (a 0)), (1, .int x1)] := hl
  have E : vE s A D (gT cI cJ cZ) (cW a cI cJ cZ vl hs isz igd iup idn osz ogd oup odn dep rsz lgd llf ldb ldy lsz lti pgd plf pun psz bgd bam bwt bsh brm bsz cab cbl tod imp dis owe itr) s.heap [] := E
  rw [f_X6_day] at hf
  refine lv_iload_n hx hb dX6_day_0 rfl (lv_at hl 1 rfl) ?_
  refine lv_aload_n hx hb dX6_day_1 rfl (lv_at hl 0 rfl) ?_
  refine g_get C E 0 6 (fun _ h => List.mem_cons_of_mem _ (List.mem_append_right _ h)) rfl rfl (by decide) (List.mem_of_getElem? (i := 1) rfl) rfl rfl dX6_day_2 ?_
  refine lv_ldc (v := 100000) hx hb hown (hts (.constant RX6 174 (100000)) (List.mem_of_getElem? (i := 2) rfl)) dX6_day_5 ?_
  obtain ⟨o1, e2, hf⟩ := bd_some hf
  refine g_calli (w' := (cW a cI cJ cZ vl hs isz igd iup idn osz ogd oup odn dep rsz lgd llf ldb ldy lsz lti pgd plf pun psz bgd bam bwt bsh brm bsz cab cbl tod imp dis owe itr)) C E (g_runS (As := [.int x1, .int tod, .int (100000 : Int32)]) (rest := []) C E (c_X6_isWithin e2) (va_cwS 3 hts gX6_day_X6_isWithin rfl rfl rfl hd_X6_isWithin ⟨Nat.le_of_ble_eq_true rfl, Nat.le_of_ble_eq_true rfl⟩) rfl hl.1 rfl (Nat.le_of_ble_eq_true rfl) dX6_day_7 ⟨Nat.le_of_ble_eq_true rfl, Nat.le_of_ble_eq_true rfl⟩) (fun H locs E => ?_)
  refine lv_if_ne (tgt := 15) hx hb dX6_day_10 (by decide) (fun c3 => ?_) (fun c3 => ?_)
  · rw [if_neg c3] at hf
    refine lv_aload_n hx hb dX6_day_15 rfl (lv_at hl 0 rfl) ?_
    refine lv_iload_n hx hb dX6_day_16 rfl (lv_at hl 1 rfl) ?_
    refine g_put (w' := (cW a cI cJ cZ vl hs isz igd iup idn osz ogd oup odn dep rsz lgd llf ldb ldy lsz lti pgd plf pun psz bgd bam bwt bsh brm bsz cab cbl x1 imp dis owe itr)) C E 0 6 tyX6 tyX6_ok nmX6 (fun _ h => List.mem_cons_of_mem _ (List.mem_append_right _ h)) rfl rfl (by decide) (List.mem_of_getElem? (i := 1) rfl) rfl rfl rfl rfl rfl (Nat.le_of_ble_eq_true rfl) dX6_day_17 rfl (fun H locs E => ?_)
    refine lv_iconst (v := 1) hx hb dX6_day_20 (by decide) ?_
    obtain rfl := Option.some.inj hf
    exact g_zret (r := 1) C E rfl dX6_day_21
  · rw [if_pos c3] at hf
    refine lv_iconst (v := 0) hx hb dX6_day_13 (by decide) ?_
    obtain rfl := Option.some.inj hf
    exact g_zret (r := 0) C E rfl dX6_day_14
abbrev rm_X6_sum : Room := { frames := 1, cells := 0, slots := 0, locals := 23 }
theorem hd_X6_sum : yX6_sum.cls ≠ "java/lang/invoke/MethodHandle" ∧ yX6_sum.cls ≠ "java/lang/invoke/VarHandle" ∧ (parseMethodDescriptor yX6_sum.desc).map (fun d => d.parameters.length) = some 1 := by decide +kernel
def f_X6_sum (ldb : Nat → Int64) (lsz : Int32) (imp : Int64) (dis : Int64) (owe : Int64) (itr : Int64) (x1 : Int32) : Option (Int64) :=
  if x1 = 0 then
    some (imp)
  else
  if x1 = 1 then
    some (dis)
  else
  if x1 = 2 then
    some (owe)
  else
  if x1 = 3 then
    some (itr)
  else
  if x1 = 4 then
    (f_X2_wholeDebt ldb lsz).bind fun o6 =>
    some (o6)
  else
  some ((-1 : Int64))
set_option maxHeartbeats 4000000 in
set_option maxRecDepth 100000 in
theorem c_X6_sum {l : Launch} {D : va_G} {cI cJ cZ : ClassId} {a : Nat → Nat} {sz : Nat} {vl : Nat → Int32} {hs : Nat → Int32} {isz : Nat → Int32} {igd : Nat → Int32} {iup : Nat → Int32} {idn : Nat → Int32} {osz : Nat → Int32} {ogd : Nat → Int32} {oup : Nat → Int32} {odn : Nat → Int32} {dep : Nat → Int32} {rsz : Int32} {lgd : Nat → Int32} {llf : Nat → Int64} {ldb : Nat → Int64} {ldy : Nat → Int32} {lsz : Int32} {lti : Int64} {pgd : Nat → Int32} {plf : Nat → Int64} {pun : Nat → Int32} {psz : Int32} {bgd : Nat → Int32} {bam : Nat → Int64} {bwt : Nat → Int64} {bsh : Nat → Int64} {brm : Nat → Int64} {bsz : Int32} {cab : Nat → Int64} {cbl : Nat → Int64} {tod : Int32} {imp : Int64} {dis : Int64} {owe : Int64} {itr : Int64} {x1 : Int32} {o : Int64} (hf : f_X6_sum ldb lsz imp dis owe itr x1 = some o) : gMl l yX6_sum wsX6_sum rm_X6_sum D (gT cI cJ cZ) (cW a cI cJ cZ vl hs isz igd iup idn osz ogd oup odn dep rsz lgd llf ldb ldy lsz lti pgd plf pun psz bgd bam bwt bsh brm bsz cab cbl tod imp dis owe itr) (cW a cI cJ cZ vl hs isz igd iup idn osz ogd oup odn dep rsz lgd llf ldb ldy lsz lti pgd plf pun psz bgd bam bwt bsh brm bsz cab cbl tod imp dis owe itr) sz [.ref (a 0), .int x1] o := by
  refine g_of (cc := cX6_sum) (maxL := 2) (ret := (some .long)) (by decide) rfl (Nat.le_of_ble_eq_true rfl) ?_
  intro p e s m below meth c A ls hAe C hl E
  rw [← hAe]
  obtain ⟨hx, hb, hr, hml, hown, hts, hlocks, hN, hA⟩ := id C
  have hl : lv_has ls 2 [(0, .ref (a 0)), (1, .int x1)] := hl
  have E : vE s A D (gT cI cJ cZ) (cW a cI cJ cZ vl hs isz igd iup idn osz ogd oup odn dep rsz lgd llf ldb ldy lsz lti pgd plf pun psz bgd bam bwt bsh brm bsz cab cbl tod imp dis owe itr) s.heap [] := E
  rw [f_X6_sum] at hf
  refine lv_iload_n hx hb dX6_sum_0 rfl (lv_at hl 1 rfl) ?_
  by_cases c1 : x1 = 0
  · rw [if_pos c1] at hf
    refine lv_tableIn (tgt := 36) (off := 35) hx hb dX6_sum_1 (by rw [c1]; decide) (by rw [c1]; decide) (by rw [c1]; rfl) (by decide) ?_
    refine lv_aload_n hx hb dX6_sum_36 rfl (lv_at hl 0 rfl) ?_
    refine g_get C E 0 7 (fun _ h => List.mem_cons_of_mem _ (List.mem_append_left _ (List.mem_append_right _ h))) rfl rfl (by decide) (List.mem_of_getElem? (i := 1) rfl) rfl rfl dX6_sum_37 ?_
    obtain rfl := Option.some.inj hf
    exact g_lret C E dX6_sum_40
  rw [if_neg c1] at hf
  by_cases c2 : x1 = 1
  · rw [if_pos c2] at hf
    refine lv_tableIn (tgt := 41) (off := 40) hx hb dX6_sum_1 (by rw [c2]; decide) (by rw [c2]; decide) (by rw [c2]; rfl) (by decide) ?_
    refine lv_aload_n hx hb dX6_sum_41 rfl (lv_at hl 0 rfl) ?_
    refine g_get C E 0 8 (fun _ h => List.mem_cons_of_mem _ (List.mem_append_left _ (List.mem_append_right _ h))) rfl rfl (by decide) (List.mem_of_getElem? (i := 2) rfl) rfl rfl dX6_sum_42 ?_
    obtain rfl := Option.some.inj hf
    exact g_lret C E dX6_sum_45
  rw [if_neg c2] at hf
  by_cases c3 : x1 = 2
  · rw [if_pos c3] at hf
    refine lv_tableIn (tgt := 46) (off := 45) hx hb dX6_sum_1 (by rw [c3]; decide) (by rw [c3]; decide) (by rw [c3]; rfl) (by decide) ?_
    refine lv_aload_n hx hb dX6_sum_46 rfl (lv_at hl 0 rfl) ?_
    refine g_get C E 0 9 (fun _ h => List.mem_cons_of_mem _ (List.mem_append_left _ (List.mem_append_right _ h))) rfl rfl (by decide) (List.mem_of_getElem? (i := 3) rfl) rfl rfl dX6_sum_47 ?_
    obtain rfl := Option.some.inj hf
    exact g_lret C E dX6_sum_50
  rw [if_neg c3] at hf
  by_cases c4 : x1 = 3
  · rw [if_pos c4] at hf
    refine lv_tableIn (tgt := 51) (off := 50) hx hb dX6_sum_1 (by rw [c4]; decide) (by rw [c4]; decide) (by rw [c4]; rfl) (by decide) ?_
    refine lv_aload_n hx hb dX6_sum_51 rfl (lv_at hl 0 rfl) ?_
    refine g_get C E 0 10 (fun _ h => List.mem_cons_of_mem _ (List.mem_append_left _ (List.mem_append_right _ h))) rfl rfl (by decide) (List.mem_of_getElem? (i := 4) rfl) rfl rfl dX6_sum_52 ?_
    obtain rfl := Option.some.inj hf
    exact g_lret C E dX6_sum_55
  rw [if_neg c4] at hf
  by_cases c5 : x1 = 4
  · rw [if_pos c5] at hf
    refine lv_tableIn (tgt := 56) (off := 55) hx hb dX6_sum_1 (by rw [c5]; decide) (by rw [c5]; decide) (by rw [c5]; rfl) (by decide) ?_
    refine lv_aload_n hx hb dX6_sum_56 rfl (lv_at hl 0 rfl) ?_
    refine g_get C E 0 2 (fun _ h => List.mem_cons_of_mem _ (List.mem_append_left _ (List.mem_append_right _ h))) rfl rfl (by decide) (List.mem_of_getElem? (i := 5) rfl) rfl rfl dX6_sum_57 ?_
    obtain ⟨o6, e7, hf⟩ := bd_some hf
    refine g_calll (w' := (cW a cI cJ cZ vl hs isz igd iup idn osz ogd oup odn dep rsz lgd llf ldb ldy lsz lti pgd plf pun psz bgd bam bwt bsh brm bsz cab cbl tod imp dis owe itr)) C E (g_runV (As := []) (rest := []) C E (c_X2_wholeDebt e7) (cwV 0 hts gX6_sum_X2_wholeDebt rfl rfl rfl ⟨rfl, hd_X2_wholeDebt⟩ ⟨Nat.le_of_ble_eq_true rfl, Nat.le_of_ble_eq_true rfl⟩) (q0 := 15) (ci := 2) rfl rfl rfl rfl hl.1 rfl (Nat.le_of_ble_eq_true rfl) dX6_sum_60 ⟨Nat.le_of_ble_eq_true rfl, Nat.le_of_ble_eq_true rfl⟩) (fun H locs E => ?_)
    obtain rfl := Option.some.inj hf
    exact g_lret C E dX6_sum_63
  rw [if_neg c5] at hf
  refine lv_tableOut (tgt := 64) hx hb dX6_sum_1 (by have := lv_neT (a := 0) c1 (by decide); have := lv_neT (a := 1) c2 (by decide); have := lv_neT (a := 2) c3 (by decide); have := lv_neT (a := 3) c4 (by decide); have := lv_neT (a := 4) c5 (by decide); omega) (by decide) ?_
  refine lv_ldc2 (v := -1) hx hb hown (hts (.constantLong RX6 159 (-1)) (List.mem_of_getElem? (i := 6) rfl)) dX6_sum_64 ?_
  obtain rfl := Option.some.inj hf
  exact g_lret C E dX6_sum_67
abbrev rm_X6_count : Room := { frames := 0, cells := 0, slots := 0, locals := 0 }
theorem hd_X6_count : yX6_count.cls ≠ "java/lang/invoke/MethodHandle" ∧ yX6_count.cls ≠ "java/lang/invoke/VarHandle" ∧ (parseMethodDescriptor yX6_count.desc).map (fun d => d.parameters.length) = some 1 := by decide +kernel
def f_X6_count (rsz : Int32) (lsz : Int32) (psz : Int32) (tod : Int32) (x1 : Int32) : Option (Int32) :=
  if x1 = 0 then
    some (lsz)
  else
  if x1 = 1 then
    some (rsz)
  else
  if x1 = 2 then
    some (psz)
  else
  if x1 = 3 then
    some (tod)
  else
  some ((-1 : Int32))
set_option maxHeartbeats 4000000 in
set_option maxRecDepth 100000 in
theorem c_X6_count {l : Launch} {D : va_G} {cI cJ cZ : ClassId} {a : Nat → Nat} {sz : Nat} {vl : Nat → Int32} {hs : Nat → Int32} {isz : Nat → Int32} {igd : Nat → Int32} {iup : Nat → Int32} {idn : Nat → Int32} {osz : Nat → Int32} {ogd : Nat → Int32} {oup : Nat → Int32} {odn : Nat → Int32} {dep : Nat → Int32} {rsz : Int32} {lgd : Nat → Int32} {llf : Nat → Int64} {ldb : Nat → Int64} {ldy : Nat → Int32} {lsz : Int32} {lti : Int64} {pgd : Nat → Int32} {plf : Nat → Int64} {pun : Nat → Int32} {psz : Int32} {bgd : Nat → Int32} {bam : Nat → Int64} {bwt : Nat → Int64} {bsh : Nat → Int64} {brm : Nat → Int64} {bsz : Int32} {cab : Nat → Int64} {cbl : Nat → Int64} {tod : Int32} {imp : Int64} {dis : Int64} {owe : Int64} {itr : Int64} {x1 : Int32} {o : Int32} (hf : f_X6_count rsz lsz psz tod x1 = some o) : gMi l yX6_count wsX6_count rm_X6_count D (gT cI cJ cZ) (cW a cI cJ cZ vl hs isz igd iup idn osz ogd oup odn dep rsz lgd llf ldb ldy lsz lti pgd plf pun psz bgd bam bwt bsh brm bsz cab cbl tod imp dis owe itr) (cW a cI cJ cZ vl hs isz igd iup idn osz ogd oup odn dep rsz lgd llf ldb ldy lsz lti pgd plf pun psz bgd bam bwt bsh brm bsz cab cbl tod imp dis owe itr) sz [.ref (a 0), .int x1] o := by
  refine g_of (cc := cX6_count) (maxL := 2) (ret := (some .int)) (by decide) rfl (Nat.le_of_ble_eq_true rfl) ?_
  intro p e s m below meth c A ls hAe C hl E
  rw [← hAe]
  obtain ⟨hx, hb, hr, hml, hown, hts, hlocks, hN, hA⟩ := id C
  have hl : lv_has ls 2 [(0, .ref (a 0)), (1, .int x1)] := hl
  have E : vE s A D (gT cI cJ cZ) (cW a cI cJ cZ vl hs isz igd iup idn osz ogd oup odn dep rsz lgd llf ldb ldy lsz lti pgd plf pun psz bgd bam bwt bsh brm bsz cab cbl tod imp dis owe itr) s.heap [] := E
  rw [f_X6_count] at hf
  refine lv_iload_n hx hb dX6_count_0 rfl (lv_at hl 1 rfl) ?_
  by_cases c1 : x1 = 0
  · rw [if_pos c1] at hf
    refine lv_tableIn (tgt := 32) (off := 31) hx hb dX6_count_1 (by rw [c1]; decide) (by rw [c1]; decide) (by rw [c1]; rfl) (by decide) ?_
    refine lv_aload_n hx hb dX6_count_32 rfl (lv_at hl 0 rfl) ?_
    refine g_get C E 0 2 (fun _ h => List.mem_cons_of_mem _ (List.mem_append_left _ (List.mem_append_left _ (List.mem_append_left _ (List.mem_append_right _ h))))) rfl rfl (by decide) (List.mem_of_getElem? (i := 1) rfl) rfl rfl dX6_count_33 ?_
    refine g_get C E 15 4 (fun _ h => List.mem_cons_of_mem _ (List.mem_append_left _ (List.mem_append_left _ (List.mem_append_right _ h)))) rfl rfl (by decide) (List.mem_of_getElem? (i := 2) rfl) rfl rfl dX6_count_36 ?_
    obtain rfl := Option.some.inj hf
    exact g_iret C E dX6_count_39
  rw [if_neg c1] at hf
  by_cases c2 : x1 = 1
  · rw [if_pos c2] at hf
    refine lv_tableIn (tgt := 40) (off := 39) hx hb dX6_count_1 (by rw [c2]; decide) (by rw [c2]; decide) (by rw [c2]; rfl) (by decide) ?_
    refine lv_aload_n hx hb dX6_count_40 rfl (lv_at hl 0 rfl) ?_
    refine g_get C E 0 1 (fun _ h => List.mem_cons_of_mem _ (List.mem_append_left _ (List.mem_append_left _ (List.mem_append_left _ (List.mem_append_right _ h))))) rfl rfl (by decide) (List.mem_of_getElem? (i := 3) rfl) rfl rfl dX6_count_41 ?_
    refine g_get C E 2 4 (fun _ h => List.mem_cons_of_mem _ (List.mem_append_left _ (List.mem_append_right _ h))) rfl rfl (by decide) (List.mem_of_getElem? (i := 4) rfl) rfl rfl dX6_count_44 ?_
    obtain rfl := Option.some.inj hf
    exact g_iret C E dX6_count_47
  rw [if_neg c2] at hf
  by_cases c3 : x1 = 2
  · rw [if_pos c3] at hf
    refine lv_tableIn (tgt := 48) (off := 47) hx hb dX6_count_1 (by rw [c3]; decide) (by rw [c3]; decide) (by rw [c3]; rfl) (by decide) ?_
    refine lv_aload_n hx hb dX6_count_48 rfl (lv_at hl 0 rfl) ?_
    refine g_get C E 0 3 (fun _ h => List.mem_cons_of_mem _ (List.mem_append_left _ (List.mem_append_left _ (List.mem_append_left _ (List.mem_append_right _ h))))) rfl rfl (by decide) (List.mem_of_getElem? (i := 5) rfl) rfl rfl dX6_count_49 ?_
    refine g_get C E 20 3 (fun _ h => List.mem_cons_of_mem _ (List.mem_append_right _ h)) rfl rfl (by decide) (List.mem_of_getElem? (i := 6) rfl) rfl rfl dX6_count_52 ?_
    obtain rfl := Option.some.inj hf
    exact g_iret C E dX6_count_55
  rw [if_neg c3] at hf
  by_cases c4 : x1 = 3
  · rw [if_pos c4] at hf
    refine lv_tableIn (tgt := 56) (off := 55) hx hb dX6_count_1 (by rw [c4]; decide) (by rw [c4]; decide) (by rw [c4]; rfl) (by decide) ?_
    refine lv_aload_n hx hb dX6_count_56 rfl (lv_at hl 0 rfl) ?_
    refine g_get C E 0 6 (fun _ h => List.mem_cons_of_mem _ (List.mem_append_left _ (List.mem_append_left _ (List.mem_append_left _ (List.mem_append_right _ h))))) rfl rfl (by decide) (List.mem_of_getElem? (i := 7) rfl) rfl rfl dX6_count_57 ?_
    obtain rfl := Option.some.inj hf
    exact g_iret C E dX6_count_60
  rw [if_neg c4] at hf
  refine lv_tableOut (tgt := 61) hx hb dX6_count_1 (by have := lv_neT (a := 0) c1 (by decide); have := lv_neT (a := 1) c2 (by decide); have := lv_neT (a := 2) c3 (by decide); have := lv_neT (a := 3) c4 (by decide); omega) (by decide) ?_
  refine lv_iconst (v := -1) hx hb dX6_count_61 (by decide) ?_
  obtain rfl := Option.some.inj hf
  exact g_iret C E dX6_count_62
abbrev rm_X6_suffices : Room := { frames := 3, cells := 0, slots := 0, locals := 70 }
theorem hd_X6_suffices : yX6_suffices.cls ≠ "java/lang/invoke/MethodHandle" ∧ yX6_suffices.cls ≠ "java/lang/invoke/VarHandle" ∧ (parseMethodDescriptor yX6_suffices.desc).map (fun d => d.parameters.length) = some 2 := by decide +kernel
def f_X6_suffices_L11 (isz : Nat → Int32) (igd : Nat → Int32) (iup : Nat → Int32) (idn : Nat → Int32) (lgd : Nat → Int32) (llf : Nat → Int64) (lsz : Int32) (x1 : Int32) (x2 : Int32) : Nat → Int32 → Option (Int32)
  | 0, _ => none
  | n + 1, x4 =>
  ck x1 12 <|
  if (isz x1.toNatClampNeg) ≤ x4 then
    some ((1 : Int32))
  else
    (f_X3_goodAt_i igd x1 x4).bind fun o3 =>
    (f_X2_stockOf lgd llf lsz o3).bind fun o5 =>
    (f_X3_roundedUp_i iup idn x1 x4 x2).bind fun o7 =>
    if 0 ≤ (lg_cmp o5 o7) then
      f_X6_suffices_L11 isz igd iup idn lgd llf lsz x1 x2 n (x4 + 1)
    else
      some ((0 : Int32))
set_option maxHeartbeats 4000000 in
set_option maxRecDepth 100000 in
theorem w_X6_suffices_L11 {p : Program} {l : Launch} {e : Env} {s : State} {m : MethodId} {args : Array Value} {below : List Frame} {meth : Method} {c : Code} {A : Nat → Prop} {D : va_G} {cI cJ cZ : ClassId} {a : Nat → Nat} {vl : Nat → Int32} {hs : Nat → Int32} {isz : Nat → Int32} {igd : Nat → Int32} {iup : Nat → Int32} {idn : Nat → Int32} {osz : Nat → Int32} {ogd : Nat → Int32} {oup : Nat → Int32} {odn : Nat → Int32} {dep : Nat → Int32} {rsz : Int32} {lgd : Nat → Int32} {llf : Nat → Int64} {ldb : Nat → Int64} {ldy : Nat → Int32} {lsz : Int32} {lti : Int64} {pgd : Nat → Int32} {plf : Nat → Int64} {pun : Nat → Int32} {psz : Int32} {bgd : Nat → Int32} {bam : Nat → Int64} {bwt : Nat → Int64} {bsh : Nat → Int64} {brm : Nat → Int64} {bsz : Int32} {cab : Nat → Int64} {cbl : Nat → Int64} {tod : Int32} {imp : Int64} {dis : Int64} {owe : Int64} {itr : Int64} (C : gC p s m args meth c cX6_suffices 5 (some .boolean) wsX6_suffices RX6 A) {x1 : Int32} {x2 : Int32} {o : Int32} :
    ∀ (n : Nat) (x4 : Int32) (H : Heap) (locs : List Loc) (ls : Array Slot), vE s A D (gT cI cJ cZ) (cW a cI cJ cZ vl hs isz igd iup idn osz ogd oup odn dep rsz lgd llf ldb ldy lsz lti pgd plf pun psz bgd bam bwt bsh brm bsz cab cbl tod imp dis owe itr) H locs → lv_has ls 5 [(0, .ref (a 0)), (1, .int x1), (2, .int x2), (3, .ref (a 4)), (4, .int x4)] → f_X6_suffices_L11 isz igd iup idn lgd llf lsz x1 x2 n x4 = some o → W p l e rm_X6_suffices s m args below meth c H locs 0 0 (MQ below (gQi D (gT cI cJ cZ) A (cW a cI cJ cZ vl hs isz igd iup idn osz ogd oup odn dep rsz lgd llf ldb ldy lsz lti pgd plf pun psz bgd bam bwt bsh brm bsz cab cbl tod imp dis owe itr) o) args s 0 0 A) (F0 m 11 ls []) := by
  obtain ⟨hx, hb, hr, hml, hown, hts, hlocks, hN, hA⟩ := id C
  intro n
  induction n with
  | zero =>
    intro x4 H locs ls E hl hf
    rw [f_X6_suffices_L11] at hf
    cases hf
  | succ n ih =>
    intro x4 H locs ls E hl hf
    rw [f_X6_suffices_L11] at hf
    refine lv_iload hx hb dX6_suffices_11 (lv_at hl 4 rfl) ?_
    refine lv_aload_n hx hb dX6_suffices_13 rfl (lv_at hl 3 rfl) ?_
    refine g_get C E 4 1 (fun _ h => List.mem_cons_of_mem _ (List.mem_append_left _ (List.mem_append_right _ h))) rfl rfl (by decide) (List.mem_of_getElem? (i := 3) rfl) rfl rfl dX6_suffices_14 ?_
    refine lv_iload_n hx hb dX6_suffices_17 rfl (lv_at hl 1 rfl) ?_
    obtain ⟨h1, hf⟩ := ck_some hf
    refine g_iald C E 5 rfl h1 dX6_suffices_18 ?_
    refine lv_icmp_ge (tgt := 56) hx hb dX6_suffices_19 (by decide) (fun c2 => ?_) (fun c2 => ?_)
    · rw [if_pos c2] at hf
      refine lv_iconst (v := 1) hx hb dX6_suffices_56 (by decide) ?_
      obtain rfl := Option.some.inj hf
      exact g_zret (r := 1) C E rfl dX6_suffices_57
    · rw [if_neg c2] at hf
      refine lv_aload_n hx hb dX6_suffices_22 rfl (lv_at hl 0 rfl) ?_
      refine g_get C E 0 2 (fun _ h => List.mem_cons_of_mem _ (List.mem_append_left _ (List.mem_append_left _ (List.mem_append_left _ (List.mem_append_right _ h))))) rfl rfl (by decide) (List.mem_of_getElem? (i := 4) rfl) rfl rfl dX6_suffices_23 ?_
      refine lv_aload_n hx hb dX6_suffices_26 rfl (lv_at hl 3 rfl) ?_
      refine lv_iload_n hx hb dX6_suffices_27 rfl (lv_at hl 1 rfl) ?_
      refine lv_iload hx hb dX6_suffices_28 (lv_at hl 4 rfl) ?_
      obtain ⟨o3, e4, hf⟩ := bd_some hf
      refine g_calli (w' := (cW a cI cJ cZ vl hs isz igd iup idn osz ogd oup odn dep rsz lgd llf ldb ldy lsz lti pgd plf pun psz bgd bam bwt bsh brm bsz cab cbl tod imp dis owe itr)) C E (g_runV (As := [.int x1, .int x4]) (rest := [.ref (a 15)]) C E (c_X3_goodAt_i e4) (cwV 2 hts gX6_suffices_X3_goodAt rfl rfl rfl ⟨rfl, hd_X3_goodAt_i⟩ ⟨Nat.le_of_ble_eq_true rfl, Nat.le_of_ble_eq_true rfl⟩) (q0 := 4) (ci := 3) rfl rfl rfl rfl hl.1 rfl (Nat.le_of_ble_eq_true rfl) dX6_suffices_30 ⟨Nat.le_of_ble_eq_true rfl, Nat.le_of_ble_eq_true rfl⟩) (fun H locs E => ?_)
      obtain ⟨o5, e6, hf⟩ := bd_some hf
      refine g_calll (w' := (cW a cI cJ cZ vl hs isz igd iup idn osz ogd oup odn dep rsz lgd llf ldb ldy lsz lti pgd plf pun psz bgd bam bwt bsh brm bsz cab cbl tod imp dis owe itr)) C E (g_runV (As := [.int o3]) (rest := []) C E (c_X2_stockOf e6) (cwV 1 hts gX6_suffices_X2_stockOf rfl rfl rfl ⟨rfl, hd_X2_stockOf⟩ ⟨Nat.le_of_ble_eq_true rfl, Nat.le_of_ble_eq_true rfl⟩) (q0 := 15) (ci := 2) rfl rfl rfl rfl hl.1 rfl (Nat.le_of_ble_eq_true rfl) dX6_suffices_33 ⟨Nat.le_of_ble_eq_true rfl, Nat.le_of_ble_eq_true rfl⟩) (fun H locs E => ?_)
      refine lv_aload_n hx hb dX6_suffices_36 rfl (lv_at hl 3 rfl) ?_
      refine lv_iload_n hx hb dX6_suffices_37 rfl (lv_at hl 1 rfl) ?_
      refine lv_iload hx hb dX6_suffices_38 (lv_at hl 4 rfl) ?_
      refine lv_iload_n hx hb dX6_suffices_40 rfl (lv_at hl 2 rfl) ?_
      obtain ⟨o7, e8, hf⟩ := bd_some hf
      refine g_calll (w' := (cW a cI cJ cZ vl hs isz igd iup idn osz ogd oup odn dep rsz lgd llf ldb ldy lsz lti pgd plf pun psz bgd bam bwt bsh brm bsz cab cbl tod imp dis owe itr)) C E (g_runV (As := [.int x1, .int x4, .int x2]) (rest := [.long o5]) C E (c_X3_roundedUp_i e8) (cwV 3 hts gX6_suffices_X3_roundedUp rfl rfl rfl ⟨rfl, hd_X3_roundedUp_i⟩ ⟨Nat.le_of_ble_eq_true rfl, Nat.le_of_ble_eq_true rfl⟩) (q0 := 4) (ci := 3) rfl rfl rfl rfl hl.1 rfl (Nat.le_of_ble_eq_true rfl) dX6_suffices_41 ⟨Nat.le_of_ble_eq_true rfl, Nat.le_of_ble_eq_true rfl⟩) (fun H locs E => ?_)
      refine W.lcmp hx hb dX6_suffices_44 ?_
      refine lv_if_ge (tgt := 50) hx hb dX6_suffices_45 (by decide) (fun c9 => ?_) (fun c9 => ?_)
      · rw [if_pos c9] at hf
        refine lv_iinc (v := (x4 + 1)) (lv' := [(4, .int (x4 + 1)), (0, .ref (a 0)), (1, .int x1), (2, .int x2), (3, .ref (a 4))]) hx hb dX6_suffices_50 hl (k := 4) rfl rfl (by decide) rfl (fun ls hl => ?_)
        refine lv_goto (tgt := 11) hx hb dX6_suffices_53 (by decide) ?_
        exact ih (x4 + 1) _ _ _ E (lv_sub hl [1, 2, 3, 4, 0] rfl) hf
      · rw [if_neg c9] at hf
        refine lv_iconst (v := 0) hx hb dX6_suffices_48 (by decide) ?_
        obtain rfl := Option.some.inj hf
        exact g_zret (r := 0) C E rfl dX6_suffices_49
def f_X6_suffices (isz : Nat → Int32) (igd : Nat → Int32) (iup : Nat → Int32) (idn : Nat → Int32) (lgd : Nat → Int32) (llf : Nat → Int64) (lsz : Int32) (x1 : Int32) (x2 : Int32) : Option (Int32) :=
  f_X6_suffices_L11 isz igd iup idn lgd llf lsz x1 x2 FU (0 : Int32)
set_option maxHeartbeats 4000000 in
set_option maxRecDepth 100000 in
theorem c_X6_suffices {l : Launch} {D : va_G} {cI cJ cZ : ClassId} {a : Nat → Nat} {sz : Nat} {vl : Nat → Int32} {hs : Nat → Int32} {isz : Nat → Int32} {igd : Nat → Int32} {iup : Nat → Int32} {idn : Nat → Int32} {osz : Nat → Int32} {ogd : Nat → Int32} {oup : Nat → Int32} {odn : Nat → Int32} {dep : Nat → Int32} {rsz : Int32} {lgd : Nat → Int32} {llf : Nat → Int64} {ldb : Nat → Int64} {ldy : Nat → Int32} {lsz : Int32} {lti : Int64} {pgd : Nat → Int32} {plf : Nat → Int64} {pun : Nat → Int32} {psz : Int32} {bgd : Nat → Int32} {bam : Nat → Int64} {bwt : Nat → Int64} {bsh : Nat → Int64} {brm : Nat → Int64} {bsz : Int32} {cab : Nat → Int64} {cbl : Nat → Int64} {tod : Int32} {imp : Int64} {dis : Int64} {owe : Int64} {itr : Int64} {x1 : Int32} {x2 : Int32} {o : Int32} (hf : f_X6_suffices isz igd iup idn lgd llf lsz x1 x2 = some o) : gMi l yX6_suffices wsX6_suffices rm_X6_suffices D (gT cI cJ cZ) (cW a cI cJ cZ vl hs isz igd iup idn osz ogd oup odn dep rsz lgd llf ldb ldy lsz lti pgd plf pun psz bgd bam bwt bsh brm bsz cab cbl tod imp dis owe itr) (cW a cI cJ cZ vl hs isz igd iup idn osz ogd oup odn dep rsz lgd llf ldb ldy lsz lti pgd plf pun psz bgd bam bwt bsh brm bsz cab cbl tod imp dis owe itr) sz [.ref (a 0), .int x1, .int x2] o := by
  refine g_of (cc := cX6_suffices) (maxL := 5) (ret := (some .boolean)) (by decide) rfl (Nat.le_of_ble_eq_true rfl) ?_
  intro p e s m below meth c A ls hAe C hl E
  rw [← hAe]
  obtain ⟨hx, hb, hr, hml, hown, hts, hlocks, hN, hA⟩ := id C
  have hl : lv_has ls 5 [(0, .ref (a 0)), (1, .int x1), (2, .int x2)] := hl
  have E : vE s A D (gT cI cJ cZ) (cW a cI cJ cZ vl hs isz igd iup idn osz ogd oup odn dep rsz lgd llf ldb ldy lsz lti pgd plf pun psz bgd bam bwt bsh brm bsz cab cbl tod imp dis owe itr) s.heap [] := E
  rw [f_X6_suffices] at hf
  refine lv_aload_n hx hb dX6_suffices_0 rfl (lv_at hl 0 rfl) ?_
  refine g_get C E 0 1 (fun _ h => List.mem_cons_of_mem _ (List.mem_append_left _ (List.mem_append_left _ (List.mem_append_left _ (List.mem_append_right _ h))))) rfl rfl (by decide) (List.mem_of_getElem? (i := 1) rfl) rfl rfl dX6_suffices_1 ?_
  refine g_get C E 2 1 (fun _ h => List.mem_cons_of_mem _ (List.mem_append_left _ (List.mem_append_left _ (List.mem_append_right _ h)))) rfl rfl (by decide) (List.mem_of_getElem? (i := 2) rfl) rfl rfl dX6_suffices_4 ?_
  refine lv_astore_n (lv' := [(3, .ref (a 4)), (0, .ref (a 0)), (1, .int x1), (2, .int x2)]) hx hb dX6_suffices_7 rfl hl (by decide) rfl (fun ls hl => ?_)
  refine lv_iconst (v := 0) hx hb dX6_suffices_8 (by decide) ?_
  refine lv_istore (lv' := [(4, .int (0 : Int32)), (3, .ref (a 4)), (0, .ref (a 0)), (1, .int x1), (2, .int x2)]) hx hb dX6_suffices_9 hl (by decide) rfl (fun ls hl => ?_)
  exact w_X6_suffices_L11 C  FU (0 : Int32) _ _ _ E (lv_sub hl [2, 3, 4, 1, 0] rfl) hf
abbrev rm_X6_takeNeeds : Room := { frames := 4, cells := 0, slots := 0, locals := 101 }
theorem hd_X6_takeNeeds : yX6_takeNeeds.cls ≠ "java/lang/invoke/MethodHandle" ∧ yX6_takeNeeds.cls ≠ "java/lang/invoke/VarHandle" ∧ (parseMethodDescriptor yX6_takeNeeds.desc).map (fun d => d.parameters.length) = some 2 := by decide +kernel
def f_X6_takeNeeds_L14 (isz : Nat → Int32) (igd : Nat → Int32) (iup : Nat → Int32) (idn : Nat → Int32) (lgd : Nat → Int32) (ldy : Nat → Int32) (lsz : Int32) (tod : Int32) (x1 : Int32) (x2 : Int32) : Nat → (Nat → Int64) → (Nat → Int64) → (Int64) → Int64 → Int32 → Option (Int64 × (Nat → Int64) × (Nat → Int64) × (Int64))
  | 0, _, _, _, _, _ => none
  | n + 1, llf, ldb, lti, x4, x6 =>
  ck x1 12 <|
  if (isz x1.toNatClampNeg) ≤ x6 then
    some (x4, llf, ldb, lti)
  else
    (f_X3_goodAt_i igd x1 x6).bind fun o3 =>
    (f_X3_roundedUp_i iup idn x1 x6 x2).bind fun o5 =>
    (f_X2_take lgd llf ldb ldy lsz lti o3 o5 tod).bind fun o7 =>
    f_X6_takeNeeds_L14 isz igd iup idn lgd ldy lsz tod x1 x2 n o7.2.1 o7.2.2.1 o7.2.2.2 (x4 + o7.1) (x6 + 1)
set_option maxHeartbeats 4000000 in
set_option maxRecDepth 100000 in
theorem w_X6_takeNeeds_L14 {p : Program} {l : Launch} {e : Env} {s : State} {m : MethodId} {args : Array Value} {below : List Frame} {meth : Method} {c : Code} {A : Nat → Prop} {D : va_G} {cI cJ cZ : ClassId} {a : Nat → Nat} {vl : Nat → Int32} {hs : Nat → Int32} {isz : Nat → Int32} {igd : Nat → Int32} {iup : Nat → Int32} {idn : Nat → Int32} {osz : Nat → Int32} {ogd : Nat → Int32} {oup : Nat → Int32} {odn : Nat → Int32} {dep : Nat → Int32} {rsz : Int32} {lgd : Nat → Int32} {ldy : Nat → Int32} {lsz : Int32} {pgd : Nat → Int32} {plf : Nat → Int64} {pun : Nat → Int32} {psz : Int32} {bgd : Nat → Int32} {bam : Nat → Int64} {bwt : Nat → Int64} {bsh : Nat → Int64} {brm : Nat → Int64} {bsz : Int32} {cab : Nat → Int64} {cbl : Nat → Int64} {tod : Int32} {imp : Int64} {dis : Int64} {owe : Int64} {itr : Int64} (C : gC p s m args meth c cX6_takeNeeds 7 (some .long) wsX6_takeNeeds RX6 A) {x1 : Int32} {x2 : Int32} {o : Int64 × (Nat → Int64) × (Nat → Int64) × (Int64)} :
    ∀ (n : Nat) (llf : Nat → Int64) (ldb : Nat → Int64) (lti : Int64) (x4 : Int64) (x6 : Int32) (H : Heap) (locs : List Loc) (ls : Array Slot), vE s A D (gT cI cJ cZ) (cW a cI cJ cZ vl hs isz igd iup idn osz ogd oup odn dep rsz lgd llf ldb ldy lsz lti pgd plf pun psz bgd bam bwt bsh brm bsz cab cbl tod imp dis owe itr) H locs → lv_has ls 7 [(0, .ref (a 0)), (1, .int x1), (2, .int x2), (3, .ref (a 4)), (4, .long x4), (6, .int x6)] → f_X6_takeNeeds_L14 isz igd iup idn lgd ldy lsz tod x1 x2 n llf ldb lti x4 x6 = some o → W p l e rm_X6_takeNeeds s m args below meth c H locs 0 0 (MQ below (gQl D (gT cI cJ cZ) A (cW a cI cJ cZ vl hs isz igd iup idn osz ogd oup odn dep rsz lgd o.2.1 o.2.2.1 ldy lsz o.2.2.2 pgd plf pun psz bgd bam bwt bsh brm bsz cab cbl tod imp dis owe itr) o.1) args s 0 0 A) (F0 m 14 ls []) := by
  obtain ⟨hx, hb, hr, hml, hown, hts, hlocks, hN, hA⟩ := id C
  intro n
  induction n with
  | zero =>
    intro llf ldb lti x4 x6 H locs ls E hl hf
    rw [f_X6_takeNeeds_L14] at hf
    cases hf
  | succ n ih =>
    intro llf ldb lti x4 x6 H locs ls E hl hf
    rw [f_X6_takeNeeds_L14] at hf
    refine lv_iload hx hb dX6_takeNeeds_14 (lv_at hl 5 rfl) ?_
    refine lv_aload_n hx hb dX6_takeNeeds_16 rfl (lv_at hl 3 rfl) ?_
    refine g_get C E 4 1 (fun _ h => List.mem_cons_of_mem _ (List.mem_append_left _ (List.mem_append_right _ h))) rfl rfl (by decide) (List.mem_of_getElem? (i := 3) rfl) rfl rfl dX6_takeNeeds_17 ?_
    refine lv_iload_n hx hb dX6_takeNeeds_20 rfl (lv_at hl 1 rfl) ?_
    obtain ⟨h1, hf⟩ := ck_some hf
    refine g_iald C E 5 rfl h1 dX6_takeNeeds_21 ?_
    refine lv_icmp_ge (tgt := 62) hx hb dX6_takeNeeds_22 (by decide) (fun c2 => ?_) (fun c2 => ?_)
    · rw [if_pos c2] at hf
      refine lv_lload hx hb dX6_takeNeeds_62 (lv_at hl 4 rfl) ?_
      obtain rfl := Option.some.inj hf
      exact g_lret C E dX6_takeNeeds_64
    · rw [if_neg c2] at hf
      refine lv_lload hx hb dX6_takeNeeds_25 (lv_at hl 4 rfl) ?_
      refine lv_aload_n hx hb dX6_takeNeeds_27 rfl (lv_at hl 0 rfl) ?_
      refine g_get C E 0 2 (fun _ h => List.mem_cons_of_mem _ (List.mem_append_left _ (List.mem_append_left _ (List.mem_append_left _ (List.mem_append_right _ h))))) rfl rfl (by decide) (List.mem_of_getElem? (i := 4) rfl) rfl rfl dX6_takeNeeds_28 ?_
      refine lv_aload_n hx hb dX6_takeNeeds_31 rfl (lv_at hl 3 rfl) ?_
      refine lv_iload_n hx hb dX6_takeNeeds_32 rfl (lv_at hl 1 rfl) ?_
      refine lv_iload hx hb dX6_takeNeeds_33 (lv_at hl 5 rfl) ?_
      obtain ⟨o3, e4, hf⟩ := bd_some hf
      refine g_calli (w' := (cW a cI cJ cZ vl hs isz igd iup idn osz ogd oup odn dep rsz lgd llf ldb ldy lsz lti pgd plf pun psz bgd bam bwt bsh brm bsz cab cbl tod imp dis owe itr)) C E (g_runV (As := [.int x1, .int x6]) (rest := [.ref (a 15), .long x4]) C E (c_X3_goodAt_i e4) (cwV 2 hts gX6_takeNeeds_X3_goodAt rfl rfl rfl ⟨rfl, hd_X3_goodAt_i⟩ ⟨Nat.le_of_ble_eq_true rfl, Nat.le_of_ble_eq_true rfl⟩) (q0 := 4) (ci := 3) rfl rfl rfl rfl hl.1 rfl (Nat.le_of_ble_eq_true rfl) dX6_takeNeeds_35 ⟨Nat.le_of_ble_eq_true rfl, Nat.le_of_ble_eq_true rfl⟩) (fun H locs E => ?_)
      refine lv_aload_n hx hb dX6_takeNeeds_38 rfl (lv_at hl 3 rfl) ?_
      refine lv_iload_n hx hb dX6_takeNeeds_39 rfl (lv_at hl 1 rfl) ?_
      refine lv_iload hx hb dX6_takeNeeds_40 (lv_at hl 5 rfl) ?_
      refine lv_iload_n hx hb dX6_takeNeeds_42 rfl (lv_at hl 2 rfl) ?_
      obtain ⟨o5, e6, hf⟩ := bd_some hf
      refine g_calll (w' := (cW a cI cJ cZ vl hs isz igd iup idn osz ogd oup odn dep rsz lgd llf ldb ldy lsz lti pgd plf pun psz bgd bam bwt bsh brm bsz cab cbl tod imp dis owe itr)) C E (g_runV (As := [.int x1, .int x6, .int x2]) (rest := [.int o3, .ref (a 15), .long x4]) C E (c_X3_roundedUp_i e6) (cwV 3 hts gX6_takeNeeds_X3_roundedUp rfl rfl rfl ⟨rfl, hd_X3_roundedUp_i⟩ ⟨Nat.le_of_ble_eq_true rfl, Nat.le_of_ble_eq_true rfl⟩) (q0 := 4) (ci := 3) rfl rfl rfl rfl hl.1 rfl (Nat.le_of_ble_eq_true rfl) dX6_takeNeeds_43 ⟨Nat.le_of_ble_eq_true rfl, Nat.le_of_ble_eq_true rfl⟩) (fun H locs E => ?_)
      refine lv_aload_n hx hb dX6_takeNeeds_46 rfl (lv_at hl 0 rfl) ?_
      refine g_get C E 0 6 (fun _ h => List.mem_cons_of_mem _ (List.mem_append_left _ (List.mem_append_left _ (List.mem_append_left _ (List.mem_append_right _ h))))) rfl rfl (by decide) (List.mem_of_getElem? (i := 5) rfl) rfl rfl dX6_takeNeeds_47 ?_
      obtain ⟨o7, e8, hf⟩ := bd_some hf
      refine g_calll (w' := (cW a cI cJ cZ vl hs isz igd iup idn osz ogd oup odn dep rsz lgd o7.2.1 o7.2.2.1 ldy lsz o7.2.2.2 pgd plf pun psz bgd bam bwt bsh brm bsz cab cbl tod imp dis owe itr)) C E (g_runV (As := [.int o3, .long o5, .int tod]) (rest := [.long x4]) C E (c_X2_take e8) (cwV 3 hts gX6_takeNeeds_X2_take rfl rfl rfl ⟨rfl, hd_X2_take⟩ ⟨Nat.le_of_ble_eq_true rfl, Nat.le_of_ble_eq_true rfl⟩) (q0 := 15) (ci := 2) rfl rfl rfl rfl hl.1 rfl (Nat.le_of_ble_eq_true rfl) dX6_takeNeeds_50 ⟨Nat.le_of_ble_eq_true rfl, Nat.le_of_ble_eq_true rfl⟩) (fun H locs E => ?_)
      refine lv_ladd hx hb dX6_takeNeeds_53 ?_
      refine lv_lstore (lv' := [(4, .long (x4 + o7.1)), (0, .ref (a 0)), (1, .int x1), (2, .int x2), (3, .ref (a 4)), (6, .int x6)]) hx hb dX6_takeNeeds_54 hl (by decide) rfl (fun ls hl => ?_)
      refine lv_iinc (v := (x6 + 1)) (lv' := [(6, .int (x6 + 1)), (4, .long (x4 + o7.1)), (0, .ref (a 0)), (1, .int x1), (2, .int x2), (3, .ref (a 4))]) hx hb dX6_takeNeeds_56 hl (k := 5) rfl rfl (by decide) rfl (fun ls hl => ?_)
      refine lv_goto (tgt := 14) hx hb dX6_takeNeeds_59 (by decide) ?_
      exact ih o7.2.1 o7.2.2.1 o7.2.2.2 (x4 + o7.1) (x6 + 1) _ _ _ E (lv_sub hl [2, 3, 4, 5, 1, 0] rfl) hf
def f_X6_takeNeeds (isz : Nat → Int32) (igd : Nat → Int32) (iup : Nat → Int32) (idn : Nat → Int32) (lgd : Nat → Int32) (llf : Nat → Int64) (ldb : Nat → Int64) (ldy : Nat → Int32) (lsz : Int32) (lti : Int64) (tod : Int32) (x1 : Int32) (x2 : Int32) : Option (Int64 × (Nat → Int64) × (Nat → Int64) × (Int64)) :=
  f_X6_takeNeeds_L14 isz igd iup idn lgd ldy lsz tod x1 x2 FU llf ldb lti (0 : Int64) (0 : Int32)
set_option maxHeartbeats 4000000 in
set_option maxRecDepth 100000 in
theorem c_X6_takeNeeds {l : Launch} {D : va_G} {cI cJ cZ : ClassId} {a : Nat → Nat} {sz : Nat} {vl : Nat → Int32} {hs : Nat → Int32} {isz : Nat → Int32} {igd : Nat → Int32} {iup : Nat → Int32} {idn : Nat → Int32} {osz : Nat → Int32} {ogd : Nat → Int32} {oup : Nat → Int32} {odn : Nat → Int32} {dep : Nat → Int32} {rsz : Int32} {lgd : Nat → Int32} {llf : Nat → Int64} {ldb : Nat → Int64} {ldy : Nat → Int32} {lsz : Int32} {lti : Int64} {pgd : Nat → Int32} {plf : Nat → Int64} {pun : Nat → Int32} {psz : Int32} {bgd : Nat → Int32} {bam : Nat → Int64} {bwt : Nat → Int64} {bsh : Nat → Int64} {brm : Nat → Int64} {bsz : Int32} {cab : Nat → Int64} {cbl : Nat → Int64} {tod : Int32} {imp : Int64} {dis : Int64} {owe : Int64} {itr : Int64} {x1 : Int32} {x2 : Int32} {o : Int64 × (Nat → Int64) × (Nat → Int64) × (Int64)} (hf : f_X6_takeNeeds isz igd iup idn lgd llf ldb ldy lsz lti tod x1 x2 = some o) : gMl l yX6_takeNeeds wsX6_takeNeeds rm_X6_takeNeeds D (gT cI cJ cZ) (cW a cI cJ cZ vl hs isz igd iup idn osz ogd oup odn dep rsz lgd llf ldb ldy lsz lti pgd plf pun psz bgd bam bwt bsh brm bsz cab cbl tod imp dis owe itr) (cW a cI cJ cZ vl hs isz igd iup idn osz ogd oup odn dep rsz lgd o.2.1 o.2.2.1 ldy lsz o.2.2.2 pgd plf pun psz bgd bam bwt bsh brm bsz cab cbl tod imp dis owe itr) sz [.ref (a 0), .int x1, .int x2] o.1 := by
  refine g_of (cc := cX6_takeNeeds) (maxL := 7) (ret := (some .long)) (by decide) rfl (Nat.le_of_ble_eq_true rfl) ?_
  intro p e s m below meth c A ls hAe C hl E
  rw [← hAe]
  obtain ⟨hx, hb, hr, hml, hown, hts, hlocks, hN, hA⟩ := id C
  have hl : lv_has ls 7 [(0, .ref (a 0)), (1, .int x1), (2, .int x2)] := hl
  have E : vE s A D (gT cI cJ cZ) (cW a cI cJ cZ vl hs isz igd iup idn osz ogd oup odn dep rsz lgd llf ldb ldy lsz lti pgd plf pun psz bgd bam bwt bsh brm bsz cab cbl tod imp dis owe itr) s.heap [] := E
  rw [f_X6_takeNeeds] at hf
  refine lv_aload_n hx hb dX6_takeNeeds_0 rfl (lv_at hl 0 rfl) ?_
  refine g_get C E 0 1 (fun _ h => List.mem_cons_of_mem _ (List.mem_append_left _ (List.mem_append_left _ (List.mem_append_left _ (List.mem_append_right _ h))))) rfl rfl (by decide) (List.mem_of_getElem? (i := 1) rfl) rfl rfl dX6_takeNeeds_1 ?_
  refine g_get C E 2 1 (fun _ h => List.mem_cons_of_mem _ (List.mem_append_left _ (List.mem_append_left _ (List.mem_append_right _ h)))) rfl rfl (by decide) (List.mem_of_getElem? (i := 2) rfl) rfl rfl dX6_takeNeeds_4 ?_
  refine lv_astore_n (lv' := [(3, .ref (a 4)), (0, .ref (a 0)), (1, .int x1), (2, .int x2)]) hx hb dX6_takeNeeds_7 rfl hl (by decide) rfl (fun ls hl => ?_)
  refine lv_lconst (v := 0) hx hb dX6_takeNeeds_8 (by decide) ?_
  refine lv_lstore (lv' := [(4, .long (0 : Int64)), (3, .ref (a 4)), (0, .ref (a 0)), (1, .int x1), (2, .int x2)]) hx hb dX6_takeNeeds_9 hl (by decide) rfl (fun ls hl => ?_)
  refine lv_iconst (v := 0) hx hb dX6_takeNeeds_11 (by decide) ?_
  refine lv_istore (lv' := [(6, .int (0 : Int32)), (4, .long (0 : Int64)), (3, .ref (a 4)), (0, .ref (a 0)), (1, .int x1), (2, .int x2)]) hx hb dX6_takeNeeds_12 hl (by decide) rfl (fun ls hl => ?_)
  exact w_X6_takeNeeds_L14 C  FU llf ldb lti (0 : Int64) (0 : Int32) _ _ _ E (lv_sub hl [3, 4, 5, 2, 1, 0] rfl) hf
