abbrev rm_X6_checkPart : Room := { frames := 6, cells := 1, slots := 6, locals := 90 }
theorem hd_X6_checkPart : yX6_checkPart.cls ≠ "java/lang/invoke/MethodHandle" ∧ yX6_checkPart.cls ≠ "java/lang/invoke/VarHandle" ∧ (parseMethodDescriptor yX6_checkPart.desc).map (fun d => d.parameters.length) = some 4 := by decide +kernel
def f_X6_checkPart  (x0 : Int32) (x1 : Int32) (x2 : Int32) (x3 : Int32) : Option ((Unit ⊕ String)) :=
  (f_X6_isGood x0).bind fun o1 =>
  if o1 = 0 then
    some ((Sum.inr "java/lang/IllegalArgumentException"))
  else
    (f_X6_isGood x1).bind fun o4 =>
    if o4 = 0 then
      some ((Sum.inr "java/lang/IllegalArgumentException"))
    else
      (f_X6_isWithin x2 (1 : Int32) (12 : Int32)).bind fun o7 =>
      if o7 = 0 then
        some ((Sum.inr "java/lang/IllegalArgumentException"))
      else
        (f_X6_isWithin x3 (1 : Int32) (12 : Int32)).bind fun o10 =>
        if o10 = 0 then
          some ((Sum.inr "java/lang/IllegalArgumentException"))
        else
          some ((Sum.inl ()))
set_option maxHeartbeats 4000000 in
set_option maxRecDepth 100000 in
theorem c_X6_checkPart {l : Launch} {D : va_G} {tys : List (ClassId × FieldType)} {w : va_W} {sz : Nat} {x0 : Int32} {x1 : Int32} {x2 : Int32} {x3 : Int32} {o : (Unit ⊕ String)} (hl0 : l.stackTraces = false) (hf : f_X6_checkPart x0 x1 x2 x3 = some o) : gMXv l yX6_checkPart wsX6_checkPart rm_X6_checkPart D tys w w sz [.int x0, .int x1, .int x2, .int x3] o := by
  refine gx_of hl0 (cc := cX6_checkPart) (maxL := 4) (ret := none) (by decide) rfl (Nat.le_of_ble_eq_true rfl) ?_
  intro p e s m below meth c A ls hAe C hZ hl E
  rw [← hAe]
  obtain ⟨hx, hb, hr, hml, hown, hts, hlocks, hN, hA⟩ := id C
  have hl : lv_has ls 4 [(0, .int x0), (1, .int x1), (2, .int x2), (3, .int x3)] := hl
  have E : vE s A D tys w s.heap [] := E
  rw [f_X6_checkPart] at hf
  refine lv_iload_n hx hb dX6_checkPart_0 rfl (lv_at hl 0 rfl) ?_
  obtain ⟨o1, e2, hf⟩ := bd_some hf
  refine g_calli (w' := w) C E (g_runS (As := [.int x0]) (rest := []) C E (c_X6_isGood e2) (va_cwS 1 hts gX6_checkPart_X6_isGood rfl rfl rfl hd_X6_isGood ⟨Nat.le_of_ble_eq_true rfl, Nat.le_of_ble_eq_true rfl⟩) rfl hl.1 rfl (Nat.le_of_ble_eq_true rfl) dX6_checkPart_1 ⟨Nat.le_of_ble_eq_true rfl, Nat.le_of_ble_eq_true rfl⟩) (fun H locs E => ?_)
  refine lv_if_eq (tgt := 34) hx hb dX6_checkPart_4 (by decide) (fun c3 => ?_) (fun c3 => ?_)
  · rw [if_pos c3] at hf
    obtain rfl := Option.some.inj hf
    exact gx_throw (En := "java/lang/IllegalArgumentException") (text := "no such goods, or up or down is not 1 .. 12") C hZ E rfl (by decide) (by decide +kernel) (List.mem_of_getElem? (i := 1) rfl) (List.mem_of_getElem? (i := 2) rfl) (List.mem_of_getElem? (i := 8) rfl) (fun _ h => List.mem_cons_of_mem _ (List.mem_append_right _ h)) nb_IAE gg_IAE hl.1 dX6_checkPart_34 dX6_checkPart_37 dX6_checkPart_38 dX6_checkPart_40 dX6_checkPart_43 (Nat.le_of_ble_eq_true rfl) (Nat.le_of_ble_eq_true rfl) (Nat.le_of_ble_eq_true rfl) (Nat.le_of_ble_eq_true rfl) (Nat.le_of_ble_eq_true rfl) (Nat.le_of_ble_eq_true rfl)
  · rw [if_neg c3] at hf
    refine lv_iload_n hx hb dX6_checkPart_7 rfl (lv_at hl 1 rfl) ?_
    obtain ⟨o4, e5, hf⟩ := bd_some hf
    refine g_calli (w' := w) C E (g_runS (As := [.int x1]) (rest := []) C E (c_X6_isGood e5) (va_cwS 1 hts gX6_checkPart_X6_isGood rfl rfl rfl hd_X6_isGood ⟨Nat.le_of_ble_eq_true rfl, Nat.le_of_ble_eq_true rfl⟩) rfl hl.1 rfl (Nat.le_of_ble_eq_true rfl) dX6_checkPart_8 ⟨Nat.le_of_ble_eq_true rfl, Nat.le_of_ble_eq_true rfl⟩) (fun H locs E => ?_)
    refine lv_if_eq (tgt := 34) hx hb dX6_checkPart_11 (by decide) (fun c6 => ?_) (fun c6 => ?_)
    · rw [if_pos c6] at hf
      obtain rfl := Option.some.inj hf
      exact gx_throw (En := "java/lang/IllegalArgumentException") (text := "no such goods, or up or down is not 1 .. 12") C hZ E rfl (by decide) (by decide +kernel) (List.mem_of_getElem? (i := 1) rfl) (List.mem_of_getElem? (i := 2) rfl) (List.mem_of_getElem? (i := 8) rfl) (fun _ h => List.mem_cons_of_mem _ (List.mem_append_right _ h)) nb_IAE gg_IAE hl.1 dX6_checkPart_34 dX6_checkPart_37 dX6_checkPart_38 dX6_checkPart_40 dX6_checkPart_43 (Nat.le_of_ble_eq_true rfl) (Nat.le_of_ble_eq_true rfl) (Nat.le_of_ble_eq_true rfl) (Nat.le_of_ble_eq_true rfl) (Nat.le_of_ble_eq_true rfl) (Nat.le_of_ble_eq_true rfl)
    · rw [if_neg c6] at hf
      refine lv_iload_n hx hb dX6_checkPart_14 rfl (lv_at hl 2 rfl) ?_
      refine lv_iconst (v := 1) hx hb dX6_checkPart_15 (by decide) ?_
      refine lv_bipush (v := 12) hx hb dX6_checkPart_16 (by decide) ?_
      obtain ⟨o7, e8, hf⟩ := bd_some hf
      refine g_calli (w' := w) C E (g_runS (As := [.int x2, .int (1 : Int32), .int (12 : Int32)]) (rest := []) C E (c_X6_isWithin e8) (va_cwS 3 hts gX6_checkPart_X6_isWithin rfl rfl rfl hd_X6_isWithin ⟨Nat.le_of_ble_eq_true rfl, Nat.le_of_ble_eq_true rfl⟩) rfl hl.1 rfl (Nat.le_of_ble_eq_true rfl) dX6_checkPart_18 ⟨Nat.le_of_ble_eq_true rfl, Nat.le_of_ble_eq_true rfl⟩) (fun H locs E => ?_)
      refine lv_if_eq (tgt := 34) hx hb dX6_checkPart_21 (by decide) (fun c9 => ?_) (fun c9 => ?_)
      · rw [if_pos c9] at hf
        obtain rfl := Option.some.inj hf
        exact gx_throw (En := "java/lang/IllegalArgumentException") (text := "no such goods, or up or down is not 1 .. 12") C hZ E rfl (by decide) (by decide +kernel) (List.mem_of_getElem? (i := 1) rfl) (List.mem_of_getElem? (i := 2) rfl) (List.mem_of_getElem? (i := 8) rfl) (fun _ h => List.mem_cons_of_mem _ (List.mem_append_right _ h)) nb_IAE gg_IAE hl.1 dX6_checkPart_34 dX6_checkPart_37 dX6_checkPart_38 dX6_checkPart_40 dX6_checkPart_43 (Nat.le_of_ble_eq_true rfl) (Nat.le_of_ble_eq_true rfl) (Nat.le_of_ble_eq_true rfl) (Nat.le_of_ble_eq_true rfl) (Nat.le_of_ble_eq_true rfl) (Nat.le_of_ble_eq_true rfl)
      · rw [if_neg c9] at hf
        refine lv_iload_n hx hb dX6_checkPart_24 rfl (lv_at hl 3 rfl) ?_
        refine lv_iconst (v := 1) hx hb dX6_checkPart_25 (by decide) ?_
        refine lv_bipush (v := 12) hx hb dX6_checkPart_26 (by decide) ?_
        obtain ⟨o10, e11, hf⟩ := bd_some hf
        refine g_calli (w' := w) C E (g_runS (As := [.int x3, .int (1 : Int32), .int (12 : Int32)]) (rest := []) C E (c_X6_isWithin e11) (va_cwS 3 hts gX6_checkPart_X6_isWithin rfl rfl rfl hd_X6_isWithin ⟨Nat.le_of_ble_eq_true rfl, Nat.le_of_ble_eq_true rfl⟩) rfl hl.1 rfl (Nat.le_of_ble_eq_true rfl) dX6_checkPart_28 ⟨Nat.le_of_ble_eq_true rfl, Nat.le_of_ble_eq_true rfl⟩) (fun H locs E => ?_)
        refine lv_if_ne (tgt := 44) hx hb dX6_checkPart_31 (by decide) (fun c12 => ?_) (fun c12 => ?_)
        · rw [if_neg c12] at hf
          obtain rfl := Option.some.inj hf
          exact gx_vret C E (Nat.le_of_ble_eq_true rfl) (Nat.le_of_ble_eq_true rfl) dX6_checkPart_44
        · rw [if_pos c12] at hf
          obtain rfl := Option.some.inj hf
          exact gx_throw (En := "java/lang/IllegalArgumentException") (text := "no such goods, or up or down is not 1 .. 12") C hZ E rfl (by decide) (by decide +kernel) (List.mem_of_getElem? (i := 1) rfl) (List.mem_of_getElem? (i := 2) rfl) (List.mem_of_getElem? (i := 8) rfl) (fun _ h => List.mem_cons_of_mem _ (List.mem_append_right _ h)) nb_IAE gg_IAE hl.1 dX6_checkPart_34 dX6_checkPart_37 dX6_checkPart_38 dX6_checkPart_40 dX6_checkPart_43 (Nat.le_of_ble_eq_true rfl) (Nat.le_of_ble_eq_true rfl) (Nat.le_of_ble_eq_true rfl) (Nat.le_of_ble_eq_true rfl) (Nat.le_of_ble_eq_true rfl) (Nat.le_of_ble_eq_true rfl)
abbrev rm_X6_checkTaking : Room := { frames := 6, cells := 1, slots := 6, locals := 90 }
theorem hd_X6_checkTaking : yX6_checkTaking.cls ≠ "java/lang/invoke/MethodHandle" ∧ yX6_checkTaking.cls ≠ "java/lang/invoke/VarHandle" ∧ (parseMethodDescriptor yX6_checkTaking.desc).map (fun d => d.parameters.length) = some 2 := by decide +kernel
def f_X6_checkTaking  (x0 : Int32) (x1 : Int32) : Option ((Unit ⊕ String)) :=
  (f_X6_isGood x0).bind fun o1 =>
  if o1 = 0 then
    some ((Sum.inr "java/lang/IllegalArgumentException"))
  else
    if (1 : Int32) ≤ x1 then
      some ((Sum.inl ()))
    else
      some ((Sum.inr "java/lang/IllegalArgumentException"))
set_option maxHeartbeats 4000000 in
set_option maxRecDepth 100000 in
theorem c_X6_checkTaking {l : Launch} {D : va_G} {tys : List (ClassId × FieldType)} {w : va_W} {sz : Nat} {x0 : Int32} {x1 : Int32} {o : (Unit ⊕ String)} (hl0 : l.stackTraces = false) (hf : f_X6_checkTaking x0 x1 = some o) : gMXv l yX6_checkTaking wsX6_checkTaking rm_X6_checkTaking D tys w w sz [.int x0, .int x1] o := by
  refine gx_of hl0 (cc := cX6_checkTaking) (maxL := 2) (ret := none) (by decide) rfl (Nat.le_of_ble_eq_true rfl) ?_
  intro p e s m below meth c A ls hAe C hZ hl E
  rw [← hAe]
  obtain ⟨hx, hb, hr, hml, hown, hts, hlocks, hN, hA⟩ := id C
  have hl : lv_has ls 2 [(0, .int x0), (1, .int x1)] := hl
  have E : vE s A D tys w s.heap [] := E
  rw [f_X6_checkTaking] at hf
  refine lv_iload_n hx hb dX6_checkTaking_0 rfl (lv_at hl 0 rfl) ?_
  obtain ⟨o1, e2, hf⟩ := bd_some hf
  refine g_calli (w' := w) C E (g_runS (As := [.int x0]) (rest := []) C E (c_X6_isGood e2) (va_cwS 1 hts gX6_checkTaking_X6_isGood rfl rfl rfl hd_X6_isGood ⟨Nat.le_of_ble_eq_true rfl, Nat.le_of_ble_eq_true rfl⟩) rfl hl.1 rfl (Nat.le_of_ble_eq_true rfl) dX6_checkTaking_1 ⟨Nat.le_of_ble_eq_true rfl, Nat.le_of_ble_eq_true rfl⟩) (fun H locs E => ?_)
  refine lv_if_eq (tgt := 12) hx hb dX6_checkTaking_4 (by decide) (fun c3 => ?_) (fun c3 => ?_)
  · rw [if_pos c3] at hf
    obtain rfl := Option.some.inj hf
    exact gx_throw (En := "java/lang/IllegalArgumentException") (text := "no such good, or an amount below 1") C hZ E rfl (by decide) (by decide +kernel) (List.mem_of_getElem? (i := 1) rfl) (List.mem_of_getElem? (i := 2) rfl) (List.mem_of_getElem? (i := 9) rfl) (fun _ h => List.mem_cons_of_mem _ (List.mem_append_right _ h)) nb_IAE gg_IAE hl.1 dX6_checkTaking_12 dX6_checkTaking_15 dX6_checkTaking_16 dX6_checkTaking_18 dX6_checkTaking_21 (Nat.le_of_ble_eq_true rfl) (Nat.le_of_ble_eq_true rfl) (Nat.le_of_ble_eq_true rfl) (Nat.le_of_ble_eq_true rfl) (Nat.le_of_ble_eq_true rfl) (Nat.le_of_ble_eq_true rfl)
  · rw [if_neg c3] at hf
    refine lv_iload_n hx hb dX6_checkTaking_7 rfl (lv_at hl 1 rfl) ?_
    refine lv_iconst (v := 1) hx hb dX6_checkTaking_8 (by decide) ?_
    refine lv_icmp_ge (tgt := 22) hx hb dX6_checkTaking_9 (by decide) (fun c4 => ?_) (fun c4 => ?_)
    · rw [if_pos c4] at hf
      obtain rfl := Option.some.inj hf
      exact gx_vret C E (Nat.le_of_ble_eq_true rfl) (Nat.le_of_ble_eq_true rfl) dX6_checkTaking_22
    · rw [if_neg c4] at hf
      obtain rfl := Option.some.inj hf
      exact gx_throw (En := "java/lang/IllegalArgumentException") (text := "no such good, or an amount below 1") C hZ E rfl (by decide) (by decide +kernel) (List.mem_of_getElem? (i := 1) rfl) (List.mem_of_getElem? (i := 2) rfl) (List.mem_of_getElem? (i := 9) rfl) (fun _ h => List.mem_cons_of_mem _ (List.mem_append_right _ h)) nb_IAE gg_IAE hl.1 dX6_checkTaking_12 dX6_checkTaking_15 dX6_checkTaking_16 dX6_checkTaking_18 dX6_checkTaking_21 (Nat.le_of_ble_eq_true rfl) (Nat.le_of_ble_eq_true rfl) (Nat.le_of_ble_eq_true rfl) (Nat.le_of_ble_eq_true rfl) (Nat.le_of_ble_eq_true rfl) (Nat.le_of_ble_eq_true rfl)
abbrev rm_X6_needs : Room := { frames := 7, cells := 1, slots := 6, locals := 115 }
theorem hd_X6_needs : yX6_needs.cls ≠ "java/lang/invoke/MethodHandle" ∧ yX6_needs.cls ≠ "java/lang/invoke/VarHandle" ∧ (parseMethodDescriptor yX6_needs.desc).map (fun d => d.parameters.length) = some 4 := by decide +kernel
def f_X6_needs (hs : Nat → Int32) (isz : Nat → Int32) (igd : Nat → Int32) (iup : Nat → Int32) (idn : Nat → Int32) (dep : Nat → Int32) (x1 : Int32) (x2 : Int32) (x3 : Int32) (x4 : Int32) : Option ((Int32 ⊕ String) × (Nat → Int32) × (Nat → Int32) × (Nat → Int32) × (Nat → Int32) × (Nat → Int32)) :=
  (f_X6_checkPart x1 x2 x3 x4).bind fun o3 =>
  xb o3 (fun _ =>
    (f_X5_addNeed hs isz igd iup idn dep x1 x2 x3 x4).bind fun o6 =>
    if o6.1 = 0 then
      some ((Sum.inl (0 : Int32)), o6.2.1, o6.2.2.1, o6.2.2.2.1, o6.2.2.2.2.1, o6.2.2.2.2.2)
    else
      some ((Sum.inl (1 : Int32)), o6.2.1, o6.2.2.1, o6.2.2.2.1, o6.2.2.2.2.1, o6.2.2.2.2.2)) (fun En => some ((Sum.inr En), isz, igd, iup, idn, dep))
set_option maxHeartbeats 4000000 in
set_option maxRecDepth 100000 in
theorem c_X6_needs {l : Launch} {D : va_G} {cI cJ cZ : ClassId} {a : Nat → Nat} {sz : Nat} {vl : Nat → Int32} {hs : Nat → Int32} {isz : Nat → Int32} {igd : Nat → Int32} {iup : Nat → Int32} {idn : Nat → Int32} {osz : Nat → Int32} {ogd : Nat → Int32} {oup : Nat → Int32} {odn : Nat → Int32} {dep : Nat → Int32} {rsz : Int32} {lgd : Nat → Int32} {llf : Nat → Int64} {ldb : Nat → Int64} {ldy : Nat → Int32} {lsz : Int32} {lti : Int64} {pgd : Nat → Int32} {plf : Nat → Int64} {pun : Nat → Int32} {psz : Int32} {bgd : Nat → Int32} {bam : Nat → Int64} {bwt : Nat → Int64} {bsh : Nat → Int64} {brm : Nat → Int64} {bsz : Int32} {cab : Nat → Int64} {cbl : Nat → Int64} {tod : Int32} {imp : Int64} {dis : Int64} {owe : Int64} {itr : Int64} {x1 : Int32} {x2 : Int32} {x3 : Int32} {x4 : Int32} {o : (Int32 ⊕ String) × (Nat → Int32) × (Nat → Int32) × (Nat → Int32) × (Nat → Int32) × (Nat → Int32)} (hl0 : l.stackTraces = false) (hf : f_X6_needs hs isz igd iup idn dep x1 x2 x3 x4 = some o) : gMXi l yX6_needs wsX6_needs rm_X6_needs D (gT cI cJ cZ) (cW a cI cJ cZ vl hs isz igd iup idn osz ogd oup odn dep rsz lgd llf ldb ldy lsz lti pgd plf pun psz bgd bam bwt bsh brm bsz cab cbl tod imp dis owe itr) (cW a cI cJ cZ vl hs o.2.1 o.2.2.1 o.2.2.2.1 o.2.2.2.2.1 osz ogd oup odn o.2.2.2.2.2 rsz lgd llf ldb ldy lsz lti pgd plf pun psz bgd bam bwt bsh brm bsz cab cbl tod imp dis owe itr) sz [.ref (a 0), .int x1, .int x2, .int x3, .int x4] o.1 := by
  refine gx_of hl0 (cc := cX6_needs) (maxL := 5) (ret := (some .int)) (by decide) rfl (Nat.le_of_ble_eq_true rfl) ?_
  intro p e s m below meth c A ls hAe C hZ hl E
  rw [← hAe]
  obtain ⟨hx, hb, hr, hml, hown, hts, hlocks, hN, hA⟩ := id C
  have hl : lv_has ls 5 [(0, .ref (a 0)), (1, .int x1), (2, .int x2), (3, .int x3), (4, .int x4)] := hl
  have E : vE s A D (gT cI cJ cZ) (cW a cI cJ cZ vl hs isz igd iup idn osz ogd oup odn dep rsz lgd llf ldb ldy lsz lti pgd plf pun psz bgd bam bwt bsh brm bsz cab cbl tod imp dis owe itr) s.heap [] := E
  rw [f_X6_needs] at hf
  refine lv_iload_n hx hb dX6_needs_0 rfl (lv_at hl 1 rfl) ?_
  refine lv_iload_n hx hb dX6_needs_1 rfl (lv_at hl 2 rfl) ?_
  refine lv_iload_n hx hb dX6_needs_2 rfl (lv_at hl 3 rfl) ?_
  refine lv_iload hx hb dX6_needs_3 (lv_at hl 4 rfl) ?_
  obtain ⟨o3, e4, hf⟩ := bd_some hf
  refine g_xcallv (w' := (cW a cI cJ cZ vl hs isz igd iup idn osz ogd oup odn dep rsz lgd llf ldb ldy lsz lti pgd plf pun psz bgd bam bwt bsh brm bsz cab cbl tod imp dis owe itr)) C hZ E (Nat.le_of_ble_eq_true rfl) (Nat.le_of_ble_eq_true rfl) (g_runXS (As := [.int x1, .int x2, .int x3, .int x4]) (rest := []) C E hZ (c_X6_checkPart hZ.1 e4) (va_cwS 4 hts gX6_needs_X6_checkPart rfl rfl rfl hd_X6_checkPart ⟨Nat.le_of_ble_eq_true rfl, Nat.le_of_ble_eq_true rfl⟩) rfl hl.1 rfl (Nat.le_of_ble_eq_true rfl) dX6_needs_5 ⟨Nat.le_of_ble_eq_true rfl, Nat.le_of_ble_eq_true rfl⟩) (fun En q5 => ?_) (fun q5 H locs E => ?_)
  · rw [q5, xb_r] at hf
    obtain rfl := Option.some.inj hf
    exact ⟨rfl, rfl⟩
  · rw [q5, xb_l] at hf
    refine lv_aload_n hx hb dX6_needs_8 rfl (lv_at hl 0 rfl) ?_
    refine g_get C E 0 1 (fun _ h => List.mem_cons_of_mem _ (List.mem_append_left _ (List.mem_append_left _ (List.mem_append_left _ (List.mem_append_right _ h))))) rfl rfl (by decide) (List.mem_of_getElem? (i := 1) rfl) rfl rfl dX6_needs_9 ?_
    refine lv_iload_n hx hb dX6_needs_12 rfl (lv_at hl 1 rfl) ?_
    refine lv_iload_n hx hb dX6_needs_13 rfl (lv_at hl 2 rfl) ?_
    refine lv_iload_n hx hb dX6_needs_14 rfl (lv_at hl 3 rfl) ?_
    refine lv_iload hx hb dX6_needs_15 (lv_at hl 4 rfl) ?_
    obtain ⟨o6, e7, hf⟩ := bd_some hf
    refine g_calli (w' := (cW a cI cJ cZ vl hs o6.2.1 o6.2.2.1 o6.2.2.2.1 o6.2.2.2.2.1 osz ogd oup odn o6.2.2.2.2.2 rsz lgd llf ldb ldy lsz lti pgd plf pun psz bgd bam bwt bsh brm bsz cab cbl tod imp dis owe itr)) C E (g_runV (As := [.int x1, .int x2, .int x3, .int x4]) (rest := []) C E (c_X5_addNeed e7) (cwV 4 hts gX6_needs_X5_addNeed rfl rfl rfl ⟨rfl, hd_X5_addNeed⟩ ⟨Nat.le_of_ble_eq_true rfl, Nat.le_of_ble_eq_true rfl⟩) (q0 := 2) (ci := 5) rfl rfl rfl rfl hl.1 rfl (Nat.le_of_ble_eq_true rfl) dX6_needs_17 ⟨Nat.le_of_ble_eq_true rfl, Nat.le_of_ble_eq_true rfl⟩) (fun H locs E => ?_)
    refine lv_if_eq (tgt := 27) hx hb dX6_needs_20 (by decide) (fun c8 => ?_) (fun c8 => ?_)
    · rw [if_pos c8] at hf
      refine lv_iconst (v := 0) hx hb dX6_needs_27 (by decide) ?_
      obtain rfl := Option.some.inj hf
      exact gx_iret C E (Nat.le_of_ble_eq_true rfl) (Nat.le_of_ble_eq_true rfl) dX6_needs_28
    · rw [if_neg c8] at hf
      refine lv_iconst (v := 1) hx hb dX6_needs_23 (by decide) ?_
      refine lv_goto (tgt := 28) hx hb dX6_needs_24 (by decide) ?_
      obtain rfl := Option.some.inj hf
      exact gx_iret C E (Nat.le_of_ble_eq_true rfl) (Nat.le_of_ble_eq_true rfl) dX6_needs_28
abbrev rm_X6_yields : Room := { frames := 7, cells := 1, slots := 6, locals := 115 }
theorem hd_X6_yields : yX6_yields.cls ≠ "java/lang/invoke/MethodHandle" ∧ yX6_yields.cls ≠ "java/lang/invoke/VarHandle" ∧ (parseMethodDescriptor yX6_yields.desc).map (fun d => d.parameters.length) = some 4 := by decide +kernel
def f_X6_yields (hs : Nat → Int32) (osz : Nat → Int32) (ogd : Nat → Int32) (oup : Nat → Int32) (odn : Nat → Int32) (x1 : Int32) (x2 : Int32) (x3 : Int32) (x4 : Int32) : Option ((Int32 ⊕ String) × (Nat → Int32) × (Nat → Int32) × (Nat → Int32) × (Nat → Int32)) :=
  (f_X6_checkPart x1 x2 x3 x4).bind fun o3 =>
  xb o3 (fun _ =>
    (f_X5_addByProduct hs osz ogd oup odn x1 x2 x3 x4).bind fun o6 =>
    if o6.1 = 0 then
      some ((Sum.inl (0 : Int32)), o6.2.1, o6.2.2.1, o6.2.2.2.1, o6.2.2.2.2)
    else
      some ((Sum.inl (1 : Int32)), o6.2.1, o6.2.2.1, o6.2.2.2.1, o6.2.2.2.2)) (fun En => some ((Sum.inr En), osz, ogd, oup, odn))
set_option maxHeartbeats 4000000 in
set_option maxRecDepth 100000 in
theorem c_X6_yields {l : Launch} {D : va_G} {cI cJ cZ : ClassId} {a : Nat → Nat} {sz : Nat} {vl : Nat → Int32} {hs : Nat → Int32} {isz : Nat → Int32} {igd : Nat → Int32} {iup : Nat → Int32} {idn : Nat → Int32} {osz : Nat → Int32} {ogd : Nat → Int32} {oup : Nat → Int32} {odn : Nat → Int32} {dep : Nat → Int32} {rsz : Int32} {lgd : Nat → Int32} {llf : Nat → Int64} {ldb : Nat → Int64} {ldy : Nat → Int32} {lsz : Int32} {lti : Int64} {pgd : Nat → Int32} {plf : Nat → Int64} {pun : Nat → Int32} {psz : Int32} {bgd : Nat → Int32} {bam : Nat → Int64} {bwt : Nat → Int64} {bsh : Nat → Int64} {brm : Nat → Int64} {bsz : Int32} {cab : Nat → Int64} {cbl : Nat → Int64} {tod : Int32} {imp : Int64} {dis : Int64} {owe : Int64} {itr : Int64} {x1 : Int32} {x2 : Int32} {x3 : Int32} {x4 : Int32} {o : (Int32 ⊕ String) × (Nat → Int32) × (Nat → Int32) × (Nat → Int32) × (Nat → Int32)} (hl0 : l.stackTraces = false) (hf : f_X6_yields hs osz ogd oup odn x1 x2 x3 x4 = some o) : gMXi l yX6_yields wsX6_yields rm_X6_yields D (gT cI cJ cZ) (cW a cI cJ cZ vl hs isz igd iup idn osz ogd oup odn dep rsz lgd llf ldb ldy lsz lti pgd plf pun psz bgd bam bwt bsh brm bsz cab cbl tod imp dis owe itr) (cW a cI cJ cZ vl hs isz igd iup idn o.2.1 o.2.2.1 o.2.2.2.1 o.2.2.2.2 dep rsz lgd llf ldb ldy lsz lti pgd plf pun psz bgd bam bwt bsh brm bsz cab cbl tod imp dis owe itr) sz [.ref (a 0), .int x1, .int x2, .int x3, .int x4] o.1 := by
  refine gx_of hl0 (cc := cX6_yields) (maxL := 5) (ret := (some .int)) (by decide) rfl (Nat.le_of_ble_eq_true rfl) ?_
  intro p e s m below meth c A ls hAe C hZ hl E
  rw [← hAe]
  obtain ⟨hx, hb, hr, hml, hown, hts, hlocks, hN, hA⟩ := id C
  have hl : lv_has ls 5 [(0, .ref (a 0)), (1, .int x1), (2, .int x2), (3, .int x3), (4, .int x4)] := hl
  have E : vE s A D (gT cI cJ cZ) (cW a cI cJ cZ vl hs isz igd iup idn osz ogd oup odn dep rsz lgd llf ldb ldy lsz lti pgd plf pun psz bgd bam bwt bsh brm bsz cab cbl tod imp dis owe itr) s.heap [] := E
  rw [f_X6_yields] at hf
  refine lv_iload_n hx hb dX6_yields_0 rfl (lv_at hl 1 rfl) ?_
  refine lv_iload_n hx hb dX6_yields_1 rfl (lv_at hl 2 rfl) ?_
  refine lv_iload_n hx hb dX6_yields_2 rfl (lv_at hl 3 rfl) ?_
  refine lv_iload hx hb dX6_yields_3 (lv_at hl 4 rfl) ?_
  obtain ⟨o3, e4, hf⟩ := bd_some hf
  refine g_xcallv (w' := (cW a cI cJ cZ vl hs isz igd iup idn osz ogd oup odn dep rsz lgd llf ldb ldy lsz lti pgd plf pun psz bgd bam bwt bsh brm bsz cab cbl tod imp dis owe itr)) C hZ E (Nat.le_of_ble_eq_true rfl) (Nat.le_of_ble_eq_true rfl) (g_runXS (As := [.int x1, .int x2, .int x3, .int x4]) (rest := []) C E hZ (c_X6_checkPart hZ.1 e4) (va_cwS 4 hts gX6_yields_X6_checkPart rfl rfl rfl hd_X6_checkPart ⟨Nat.le_of_ble_eq_true rfl, Nat.le_of_ble_eq_true rfl⟩) rfl hl.1 rfl (Nat.le_of_ble_eq_true rfl) dX6_yields_5 ⟨Nat.le_of_ble_eq_true rfl, Nat.le_of_ble_eq_true rfl⟩) (fun En q5 => ?_) (fun q5 H locs E => ?_)
  · rw [q5, xb_r] at hf
    obtain rfl := Option.some.inj hf
    exact ⟨rfl, rfl⟩
  · rw [q5, xb_l] at hf
    refine lv_aload_n hx hb dX6_yields_8 rfl (lv_at hl 0 rfl) ?_
    refine g_get C E 0 1 (fun _ h => List.mem_cons_of_mem _ (List.mem_append_left _ (List.mem_append_left _ (List.mem_append_left _ (List.mem_append_right _ h))))) rfl rfl (by decide) (List.mem_of_getElem? (i := 1) rfl) rfl rfl dX6_yields_9 ?_
    refine lv_iload_n hx hb dX6_yields_12 rfl (lv_at hl 1 rfl) ?_
    refine lv_iload_n hx hb dX6_yields_13 rfl (lv_at hl 2 rfl) ?_
    refine lv_iload_n hx hb dX6_yields_14 rfl (lv_at hl 3 rfl) ?_
    refine lv_iload hx hb dX6_yields_15 (lv_at hl 4 rfl) ?_
    obtain ⟨o6, e7, hf⟩ := bd_some hf
    refine g_calli (w' := (cW a cI cJ cZ vl hs isz igd iup idn o6.2.1 o6.2.2.1 o6.2.2.2.1 o6.2.2.2.2 dep rsz lgd llf ldb ldy lsz lti pgd plf pun psz bgd bam bwt bsh brm bsz cab cbl tod imp dis owe itr)) C E (g_runV (As := [.int x1, .int x2, .int x3, .int x4]) (rest := []) C E (c_X5_addByProduct e7) (cwV 4 hts gX6_yields_X5_addByProduct rfl rfl rfl ⟨rfl, hd_X5_addByProduct⟩ ⟨Nat.le_of_ble_eq_true rfl, Nat.le_of_ble_eq_true rfl⟩) (q0 := 2) (ci := 5) rfl rfl rfl rfl hl.1 rfl (Nat.le_of_ble_eq_true rfl) dX6_yields_17 ⟨Nat.le_of_ble_eq_true rfl, Nat.le_of_ble_eq_true rfl⟩) (fun H locs E => ?_)
    refine lv_if_eq (tgt := 27) hx hb dX6_yields_20 (by decide) (fun c8 => ?_) (fun c8 => ?_)
    · rw [if_pos c8] at hf
      refine lv_iconst (v := 0) hx hb dX6_yields_27 (by decide) ?_
      obtain rfl := Option.some.inj hf
      exact gx_iret C E (Nat.le_of_ble_eq_true rfl) (Nat.le_of_ble_eq_true rfl) dX6_yields_28
    · rw [if_neg c8] at hf
      refine lv_iconst (v := 1) hx hb dX6_yields_23 (by decide) ?_
      refine lv_goto (tgt := 28) hx hb dX6_yields_24 (by decide) ?_
      obtain rfl := Option.some.inj hf
      exact gx_iret C E (Nat.le_of_ble_eq_true rfl) (Nat.le_of_ble_eq_true rfl) dX6_yields_28
abbrev rm_X6_export : Room := { frames := 7, cells := 1, slots := 6, locals := 111 }
theorem hd_X6_export : yX6_export.cls ≠ "java/lang/invoke/MethodHandle" ∧ yX6_export.cls ≠ "java/lang/invoke/VarHandle" ∧ (parseMethodDescriptor yX6_export.desc).map (fun d => d.parameters.length) = some 2 := by decide +kernel
def f_X6_export (lgd : Nat → Int32) (llf : Nat → Int64) (ldb : Nat → Int64) (ldy : Nat → Int32) (lsz : Int32) (lti : Int64) (tod : Int32) (dis : Int64) (x1 : Int32) (x2 : Int32) : Option ((Int64 ⊕ String) × (Nat → Int64) × (Nat → Int64) × (Int64) × (Int64)) :=
  (f_X6_checkTaking x1 x2).bind fun o3 =>
  xb o3 (fun _ =>
    (f_X2_stockOf lgd llf lsz x1).bind fun o6 =>
    if 0 ≤ (lg_cmp o6 x2.toInt64) then
      (f_X2_take lgd llf ldb ldy lsz lti x1 x2.toInt64 tod).bind fun o9 =>
      some ((Sum.inl o9.1), o9.2.1, o9.2.2.1, o9.2.2.2, (dis + o9.1))
    else
      some ((Sum.inl (-1 : Int64)), llf, ldb, lti, dis)) (fun En => some ((Sum.inr En), llf, ldb, lti, dis))
set_option maxHeartbeats 4000000 in
set_option maxRecDepth 100000 in
theorem c_X6_export {l : Launch} {D : va_G} {cI cJ cZ : ClassId} {a : Nat → Nat} {sz : Nat} {vl : Nat → Int32} {hs : Nat → Int32} {isz : Nat → Int32} {igd : Nat → Int32} {iup : Nat → Int32} {idn : Nat → Int32} {osz : Nat → Int32} {ogd : Nat → Int32} {oup : Nat → Int32} {odn : Nat → Int32} {dep : Nat → Int32} {rsz : Int32} {lgd : Nat → Int32} {llf : Nat → Int64} {ldb : Nat → Int64} {ldy : Nat → Int32} {lsz : Int32} {lti : Int64} {pgd : Nat → Int32} {plf : Nat → Int64} {pun : Nat → Int32} {psz : Int32} {bgd : Nat → Int32} {bam : Nat → Int64} {bwt : Nat → Int64} {bsh : Nat → Int64} {brm : Nat → Int64} {bsz : Int32} {cab : Nat → Int64} {cbl : Nat → Int64} {tod : Int32} {imp : Int64} {dis : Int64} {owe : Int64} {itr : Int64} {x1 : Int32} {x2 : Int32} {o : (Int64 ⊕ String) × (Nat → Int64) × (Nat → Int64) × (Int64) × (Int64)} (hl0 : l.stackTraces = false) (hf : f_X6_export lgd llf ldb ldy lsz lti tod dis x1 x2 = some o) : gMXl l yX6_export wsX6_export rm_X6_export D (gT cI cJ cZ) (cW a cI cJ cZ vl hs isz igd iup idn osz ogd oup odn dep rsz lgd llf ldb ldy lsz lti pgd plf pun psz bgd bam bwt bsh brm bsz cab cbl tod imp dis owe itr) (cW a cI cJ cZ vl hs isz igd iup idn osz ogd oup odn dep rsz lgd o.2.1 o.2.2.1 ldy lsz o.2.2.2.1 pgd plf pun psz bgd bam bwt bsh brm bsz cab cbl tod imp o.2.2.2.2 owe itr) sz [.ref (a 0), .int x1, .int x2] o.1 := by
  refine gx_of hl0 (cc := cX6_export) (maxL := 5) (ret := (some .long)) (by decide) rfl (Nat.le_of_ble_eq_true rfl) ?_
  intro p e s m below meth c A ls hAe C hZ hl E
  rw [← hAe]
  obtain ⟨hx, hb, hr, hml, hown, hts, hlocks, hN, hA⟩ := id C
  have hl : lv_has ls 5 [(0, .ref (a 0)), (1, .int x1), (2, .int x2)] := hl
  have E : vE s A D (gT cI cJ cZ) (cW a cI cJ cZ vl hs isz igd iup idn osz ogd oup odn dep rsz lgd llf ldb ldy lsz lti pgd plf pun psz bgd bam bwt bsh brm bsz cab cbl tod imp dis owe itr) s.heap [] := E
  rw [f_X6_export] at hf
  refine lv_iload_n hx hb dX6_export_0 rfl (lv_at hl 1 rfl) ?_
  refine lv_iload_n hx hb dX6_export_1 rfl (lv_at hl 2 rfl) ?_
  obtain ⟨o3, e4, hf⟩ := bd_some hf
  refine g_xcallv (w' := (cW a cI cJ cZ vl hs isz igd iup idn osz ogd oup odn dep rsz lgd llf ldb ldy lsz lti pgd plf pun psz bgd bam bwt bsh brm bsz cab cbl tod imp dis owe itr)) C hZ E (Nat.le_of_ble_eq_true rfl) (Nat.le_of_ble_eq_true rfl) (g_runXS (As := [.int x1, .int x2]) (rest := []) C E hZ (c_X6_checkTaking hZ.1 e4) (va_cwS 2 hts gX6_export_X6_checkTaking rfl rfl rfl hd_X6_checkTaking ⟨Nat.le_of_ble_eq_true rfl, Nat.le_of_ble_eq_true rfl⟩) rfl hl.1 rfl (Nat.le_of_ble_eq_true rfl) dX6_export_2 ⟨Nat.le_of_ble_eq_true rfl, Nat.le_of_ble_eq_true rfl⟩) (fun En q5 => ?_) (fun q5 H locs E => ?_)
  · rw [q5, xb_r] at hf
    obtain rfl := Option.some.inj hf
    exact ⟨rfl, rfl⟩
  · rw [q5, xb_l] at hf
    refine lv_aload_n hx hb dX6_export_5 rfl (lv_at hl 0 rfl) ?_
    refine g_get C E 0 2 (fun _ h => List.mem_cons_of_mem _ (List.mem_append_left _ (List.mem_append_left _ (List.mem_append_right _ h)))) rfl rfl (by decide) (List.mem_of_getElem? (i := 1) rfl) rfl rfl dX6_export_6 ?_
    refine lv_iload_n hx hb dX6_export_9 rfl (lv_at hl 1 rfl) ?_
    obtain ⟨o6, e7, hf⟩ := bd_some hf
    refine g_calll (w' := (cW a cI cJ cZ vl hs isz igd iup idn osz ogd oup odn dep rsz lgd llf ldb ldy lsz lti pgd plf pun psz bgd bam bwt bsh brm bsz cab cbl tod imp dis owe itr)) C E (g_runV (As := [.int x1]) (rest := []) C E (c_X2_stockOf e7) (cwV 1 hts gX6_export_X2_stockOf rfl rfl rfl ⟨rfl, hd_X2_stockOf⟩ ⟨Nat.le_of_ble_eq_true rfl, Nat.le_of_ble_eq_true rfl⟩) (q0 := 15) (ci := 2) rfl rfl rfl rfl hl.1 rfl (Nat.le_of_ble_eq_true rfl) dX6_export_10 ⟨Nat.le_of_ble_eq_true rfl, Nat.le_of_ble_eq_true rfl⟩) (fun H locs E => ?_)
    refine lv_iload_n hx hb dX6_export_13 rfl (lv_at hl 2 rfl) ?_
    refine lv_i2l hx hb dX6_export_14 rfl ?_
    refine W.lcmp hx hb dX6_export_15 ?_
    refine lv_if_ge (tgt := 23) hx hb dX6_export_16 (by decide) (fun c8 => ?_) (fun c8 => ?_)
    · rw [if_pos c8] at hf
      refine lv_aload_n hx hb dX6_export_23 rfl (lv_at hl 0 rfl) ?_
      refine g_get C E 0 2 (fun _ h => List.mem_cons_of_mem _ (List.mem_append_left _ (List.mem_append_left _ (List.mem_append_right _ h)))) rfl rfl (by decide) (List.mem_of_getElem? (i := 1) rfl) rfl rfl dX6_export_24 ?_
      refine lv_iload_n hx hb dX6_export_27 rfl (lv_at hl 1 rfl) ?_
      refine lv_iload_n hx hb dX6_export_28 rfl (lv_at hl 2 rfl) ?_
      refine lv_i2l hx hb dX6_export_29 rfl ?_
      refine lv_aload_n hx hb dX6_export_30 rfl (lv_at hl 0 rfl) ?_
      refine g_get C E 0 6 (fun _ h => List.mem_cons_of_mem _ (List.mem_append_left _ (List.mem_append_left _ (List.mem_append_right _ h)))) rfl rfl (by decide) (List.mem_of_getElem? (i := 3) rfl) rfl rfl dX6_export_31 ?_
      obtain ⟨o9, e10, hf⟩ := bd_some hf
      refine g_calll (w' := (cW a cI cJ cZ vl hs isz igd iup idn osz ogd oup odn dep rsz lgd o9.2.1 o9.2.2.1 ldy lsz o9.2.2.2 pgd plf pun psz bgd bam bwt bsh brm bsz cab cbl tod imp dis owe itr)) C E (g_runV (As := [.int x1, .long x2.toInt64, .int tod]) (rest := []) C E (c_X2_take e10) (cwV 3 hts gX6_export_X2_take rfl rfl rfl ⟨rfl, hd_X2_take⟩ ⟨Nat.le_of_ble_eq_true rfl, Nat.le_of_ble_eq_true rfl⟩) (q0 := 15) (ci := 2) rfl rfl rfl rfl hl.1 rfl (Nat.le_of_ble_eq_true rfl) dX6_export_34 ⟨Nat.le_of_ble_eq_true rfl, Nat.le_of_ble_eq_true rfl⟩) (fun H locs E => ?_)
      refine lv_lstore_n (lv' := [(3, .long o9.1), (0, .ref (a 0)), (1, .int x1), (2, .int x2)]) hx hb dX6_export_37 rfl hl (by decide) rfl (fun ls hl => ?_)
      refine lv_aload_n hx hb dX6_export_38 rfl (lv_at hl 1 rfl) ?_
      refine lv_dup hx hb dX6_export_39 rfl ?_
      refine g_get C E 0 8 (fun _ h => List.mem_cons_of_mem _ (List.mem_append_left _ (List.mem_append_left _ (List.mem_append_right _ h)))) rfl rfl (by decide) (List.mem_of_getElem? (i := 4) rfl) rfl rfl dX6_export_40 ?_
      refine lv_lload_n hx hb dX6_export_43 rfl (lv_at hl 0 rfl) ?_
      refine lv_ladd hx hb dX6_export_44 ?_
      refine g_put (w' := (cW a cI cJ cZ vl hs isz igd iup idn osz ogd oup odn dep rsz lgd o9.2.1 o9.2.2.1 ldy lsz o9.2.2.2 pgd plf pun psz bgd bam bwt bsh brm bsz cab cbl tod imp (dis + o9.1) owe itr)) C E 0 8 tyX6 tyX6_ok nmX6 (fun _ h => List.mem_cons_of_mem _ (List.mem_append_left _ (List.mem_append_left _ (List.mem_append_right _ h)))) rfl rfl (by decide) (List.mem_of_getElem? (i := 4) rfl) rfl rfl rfl rfl rfl (Nat.le_of_ble_eq_true rfl) dX6_export_45 rfl (fun H locs E => ?_)
      refine lv_lload_n hx hb dX6_export_48 rfl (lv_at hl 0 rfl) ?_
      obtain rfl := Option.some.inj hf
      exact gx_lret C E (Nat.le_of_ble_eq_true rfl) (Nat.le_of_ble_eq_true rfl) dX6_export_49
    · rw [if_neg c8] at hf
      refine lv_ldc2 (v := -1) hx hb hown (hts (.constantLong RX6 159 (-1)) (List.mem_of_getElem? (i := 2) rfl)) dX6_export_19 ?_
      obtain rfl := Option.some.inj hf
      exact gx_lret C E (Nat.le_of_ble_eq_true rfl) (Nat.le_of_ble_eq_true rfl) dX6_export_22
abbrev rm_X6_release : Room := { frames := 7, cells := 1, slots := 6, locals := 111 }
theorem hd_X6_release : yX6_release.cls ≠ "java/lang/invoke/MethodHandle" ∧ yX6_release.cls ≠ "java/lang/invoke/VarHandle" ∧ (parseMethodDescriptor yX6_release.desc).map (fun d => d.parameters.length) = some 2 := by decide +kernel
def f_X6_release (lgd : Nat → Int32) (llf : Nat → Int64) (ldb : Nat → Int64) (ldy : Nat → Int32) (lsz : Int32) (lti : Int64) (tod : Int32) (owe : Int64) (itr : Int64) (x1 : Int32) (x2 : Int32) : Option ((Int64 ⊕ String) × (Nat → Int64) × (Nat → Int64) × (Int64) × (Int64) × (Int64)) :=
  (f_X6_checkTaking x1 x2).bind fun o3 =>
  xb o3 (fun _ =>
    (f_X2_stockOf lgd llf lsz x1).bind fun o6 =>
    if 0 ≤ (lg_cmp o6 x2.toInt64) then
      (f_X2_take lgd llf ldb ldy lsz lti x1 x2.toInt64 tod).bind fun o9 =>
      some ((Sum.inl (o9.1 + o9.2.2.2)), o9.2.1, o9.2.2.1, o9.2.2.2, (owe + o9.1), (itr + o9.2.2.2))
    else
      some ((Sum.inl (-1 : Int64)), llf, ldb, lti, owe, itr)) (fun En => some ((Sum.inr En), llf, ldb, lti, owe, itr))
set_option maxHeartbeats 4000000 in
set_option maxRecDepth 100000 in
theorem c_X6_release {l : Launch} {D : va_G} {cI cJ cZ : ClassId} {a : Nat → Nat} {sz : Nat} {vl : Nat → Int32} {hs : Nat → Int32} {isz : Nat → Int32} {igd : Nat → Int32} {iup : Nat → Int32} {idn : Nat → Int32} {osz : Nat → Int32} {ogd : Nat → Int32} {oup : Nat → Int32} {odn : Nat → Int32} {dep : Nat → Int32} {rsz : Int32} {lgd : Nat → Int32} {llf : Nat → Int64} {ldb : Nat → Int64} {ldy : Nat → Int32} {lsz : Int32} {lti : Int64} {pgd : Nat → Int32} {plf : Nat → Int64} {pun : Nat → Int32} {psz : Int32} {bgd : Nat → Int32} {bam : Nat → Int64} {bwt : Nat → Int64} {bsh : Nat → Int64} {brm : Nat → Int64} {bsz : Int32} {cab : Nat → Int64} {cbl : Nat → Int64} {tod : Int32} {imp : Int64} {dis : Int64} {owe : Int64} {itr : Int64} {x1 : Int32} {x2 : Int32} {o : (Int64 ⊕ String) × (Nat → Int64) × (Nat → Int64) × (Int64) × (Int64) × (Int64)} (hl0 : l.stackTraces = false) (hf : f_X6_release lgd llf ldb ldy lsz lti tod owe itr x1 x2 = some o) : gMXl l yX6_release wsX6_release rm_X6_release D (gT cI cJ cZ) (cW a cI cJ cZ vl hs isz igd iup idn osz ogd oup odn dep rsz lgd llf ldb ldy lsz lti pgd plf pun psz bgd bam bwt bsh brm bsz cab cbl tod imp dis owe itr) (cW a cI cJ cZ vl hs isz igd iup idn osz ogd oup odn dep rsz lgd o.2.1 o.2.2.1 ldy lsz o.2.2.2.1 pgd plf pun psz bgd bam bwt bsh brm bsz cab cbl tod imp dis o.2.2.2.2.1 o.2.2.2.2.2) sz [.ref (a 0), .int x1, .int x2] o.1 := by
  refine gx_of hl0 (cc := cX6_release) (maxL := 5) (ret := (some .long)) (by decide) rfl (Nat.le_of_ble_eq_true rfl) ?_
  intro p e s m below meth c A ls hAe C hZ hl E
  rw [← hAe]
  obtain ⟨hx, hb, hr, hml, hown, hts, hlocks, hN, hA⟩ := id C
  have hl : lv_has ls 5 [(0, .ref (a 0)), (1, .int x1), (2, .int x2)] := hl
  have E : vE s A D (gT cI cJ cZ) (cW a cI cJ cZ vl hs isz igd iup idn osz ogd oup odn dep rsz lgd llf ldb ldy lsz lti pgd plf pun psz bgd bam bwt bsh brm bsz cab cbl tod imp dis owe itr) s.heap [] := E
  rw [f_X6_release] at hf
  refine lv_iload_n hx hb dX6_release_0 rfl (lv_at hl 1 rfl) ?_
  refine lv_iload_n hx hb dX6_release_1 rfl (lv_at hl 2 rfl) ?_
  obtain ⟨o3, e4, hf⟩ := bd_some hf
  refine g_xcallv (w' := (cW a cI cJ cZ vl hs isz igd iup idn osz ogd oup odn dep rsz lgd llf ldb ldy lsz lti pgd plf pun psz bgd bam bwt bsh brm bsz cab cbl tod imp dis owe itr)) C hZ E (Nat.le_of_ble_eq_true rfl) (Nat.le_of_ble_eq_true rfl) (g_runXS (As := [.int x1, .int x2]) (rest := []) C E hZ (c_X6_checkTaking hZ.1 e4) (va_cwS 2 hts gX6_release_X6_checkTaking rfl rfl rfl hd_X6_checkTaking ⟨Nat.le_of_ble_eq_true rfl, Nat.le_of_ble_eq_true rfl⟩) rfl hl.1 rfl (Nat.le_of_ble_eq_true rfl) dX6_release_2 ⟨Nat.le_of_ble_eq_true rfl, Nat.le_of_ble_eq_true rfl⟩) (fun En q5 => ?_) (fun q5 H locs E => ?_)
  · rw [q5, xb_r] at hf
    obtain rfl := Option.some.inj hf
    exact ⟨rfl, rfl⟩
  · rw [q5, xb_l] at hf
    refine lv_aload_n hx hb dX6_release_5 rfl (lv_at hl 0 rfl) ?_
    refine g_get C E 0 2 (fun _ h => List.mem_cons_of_mem _ (List.mem_append_left _ (List.mem_append_left _ (List.mem_append_right _ h)))) rfl rfl (by decide) (List.mem_of_getElem? (i := 1) rfl) rfl rfl dX6_release_6 ?_
    refine lv_iload_n hx hb dX6_release_9 rfl (lv_at hl 1 rfl) ?_
    obtain ⟨o6, e7, hf⟩ := bd_some hf
    refine g_calll (w' := (cW a cI cJ cZ vl hs isz igd iup idn osz ogd oup odn dep rsz lgd llf ldb ldy lsz lti pgd plf pun psz bgd bam bwt bsh brm bsz cab cbl tod imp dis owe itr)) C E (g_runV (As := [.int x1]) (rest := []) C E (c_X2_stockOf e7) (cwV 1 hts gX6_release_X2_stockOf rfl rfl rfl ⟨rfl, hd_X2_stockOf⟩ ⟨Nat.le_of_ble_eq_true rfl, Nat.le_of_ble_eq_true rfl⟩) (q0 := 15) (ci := 2) rfl rfl rfl rfl hl.1 rfl (Nat.le_of_ble_eq_true rfl) dX6_release_10 ⟨Nat.le_of_ble_eq_true rfl, Nat.le_of_ble_eq_true rfl⟩) (fun H locs E => ?_)
    refine lv_iload_n hx hb dX6_release_13 rfl (lv_at hl 2 rfl) ?_
    refine lv_i2l hx hb dX6_release_14 rfl ?_
    refine W.lcmp hx hb dX6_release_15 ?_
    refine lv_if_ge (tgt := 23) hx hb dX6_release_16 (by decide) (fun c8 => ?_) (fun c8 => ?_)
    · rw [if_pos c8] at hf
      refine lv_aload_n hx hb dX6_release_23 rfl (lv_at hl 0 rfl) ?_
      refine g_get C E 0 2 (fun _ h => List.mem_cons_of_mem _ (List.mem_append_left _ (List.mem_append_left _ (List.mem_append_right _ h)))) rfl rfl (by decide) (List.mem_of_getElem? (i := 1) rfl) rfl rfl dX6_release_24 ?_
      refine lv_iload_n hx hb dX6_release_27 rfl (lv_at hl 1 rfl) ?_
      refine lv_iload_n hx hb dX6_release_28 rfl (lv_at hl 2 rfl) ?_
      refine lv_i2l hx hb dX6_release_29 rfl ?_
      refine lv_aload_n hx hb dX6_release_30 rfl (lv_at hl 0 rfl) ?_
      refine g_get C E 0 6 (fun _ h => List.mem_cons_of_mem _ (List.mem_append_left _ (List.mem_append_left _ (List.mem_append_right _ h)))) rfl rfl (by decide) (List.mem_of_getElem? (i := 3) rfl) rfl rfl dX6_release_31 ?_
      obtain ⟨o9, e10, hf⟩ := bd_some hf
      refine g_calll (w' := (cW a cI cJ cZ vl hs isz igd iup idn osz ogd oup odn dep rsz lgd o9.2.1 o9.2.2.1 ldy lsz o9.2.2.2 pgd plf pun psz bgd bam bwt bsh brm bsz cab cbl tod imp dis owe itr)) C E (g_runV (As := [.int x1, .long x2.toInt64, .int tod]) (rest := []) C E (c_X2_take e10) (cwV 3 hts gX6_release_X2_take rfl rfl rfl ⟨rfl, hd_X2_take⟩ ⟨Nat.le_of_ble_eq_true rfl, Nat.le_of_ble_eq_true rfl⟩) (q0 := 15) (ci := 2) rfl rfl rfl rfl hl.1 rfl (Nat.le_of_ble_eq_true rfl) dX6_release_34 ⟨Nat.le_of_ble_eq_true rfl, Nat.le_of_ble_eq_true rfl⟩) (fun H locs E => ?_)
      refine lv_lstore_n (lv' := [(3, .long o9.1), (0, .ref (a 0)), (1, .int x1), (2, .int x2)]) hx hb dX6_release_37 rfl hl (by decide) rfl (fun ls hl => ?_)
      refine lv_aload_n hx hb dX6_release_38 rfl (lv_at hl 1 rfl) ?_
      refine lv_dup hx hb dX6_release_39 rfl ?_
      refine g_get C E 0 9 (fun _ h => List.mem_cons_of_mem _ (List.mem_append_left _ (List.mem_append_left _ (List.mem_append_right _ h)))) rfl rfl (by decide) (List.mem_of_getElem? (i := 4) rfl) rfl rfl dX6_release_40 ?_
      refine lv_lload_n hx hb dX6_release_43 rfl (lv_at hl 0 rfl) ?_
      refine lv_ladd hx hb dX6_release_44 ?_
      refine g_put (w' := (cW a cI cJ cZ vl hs isz igd iup idn osz ogd oup odn dep rsz lgd o9.2.1 o9.2.2.1 ldy lsz o9.2.2.2 pgd plf pun psz bgd bam bwt bsh brm bsz cab cbl tod imp dis (owe + o9.1) itr)) C E 0 9 tyX6 tyX6_ok nmX6 (fun _ h => List.mem_cons_of_mem _ (List.mem_append_left _ (List.mem_append_left _ (List.mem_append_right _ h)))) rfl rfl (by decide) (List.mem_of_getElem? (i := 4) rfl) rfl rfl rfl rfl rfl (Nat.le_of_ble_eq_true rfl) dX6_release_45 rfl (fun H locs E => ?_)
      refine lv_aload_n hx hb dX6_release_48 rfl (lv_at hl 1 rfl) ?_
      refine lv_dup hx hb dX6_release_49 rfl ?_
      refine g_get C E 0 10 (fun _ h => List.mem_cons_of_mem _ (List.mem_append_left _ (List.mem_append_left _ (List.mem_append_right _ h)))) rfl rfl (by decide) (List.mem_of_getElem? (i := 5) rfl) rfl rfl dX6_release_50 ?_
      refine lv_aload_n hx hb dX6_release_53 rfl (lv_at hl 1 rfl) ?_
      refine g_get C E 0 2 (fun _ h => List.mem_cons_of_mem _ (List.mem_append_left _ (List.mem_append_left _ (List.mem_append_right _ h)))) rfl rfl (by decide) (List.mem_of_getElem? (i := 1) rfl) rfl rfl dX6_release_54 ?_
      refine g_get C E 15 5 (fun _ h => List.mem_cons_of_mem _ (List.mem_append_left _ (List.mem_append_right _ h))) rfl rfl (by decide) (List.mem_of_getElem? (i := 6) rfl) rfl rfl dX6_release_57 ?_
      refine lv_ladd hx hb dX6_release_60 ?_
      refine g_put (w' := (cW a cI cJ cZ vl hs isz igd iup idn osz ogd oup odn dep rsz lgd o9.2.1 o9.2.2.1 ldy lsz o9.2.2.2 pgd plf pun psz bgd bam bwt bsh brm bsz cab cbl tod imp dis (owe + o9.1) (itr + o9.2.2.2))) C E 0 10 tyX6 tyX6_ok nmX6 (fun _ h => List.mem_cons_of_mem _ (List.mem_append_left _ (List.mem_append_left _ (List.mem_append_right _ h)))) rfl rfl (by decide) (List.mem_of_getElem? (i := 5) rfl) rfl rfl rfl rfl rfl (Nat.le_of_ble_eq_true rfl) dX6_release_61 rfl (fun H locs E => ?_)
      refine lv_lload_n hx hb dX6_release_64 rfl (lv_at hl 0 rfl) ?_
      refine lv_aload_n hx hb dX6_release_65 rfl (lv_at hl 1 rfl) ?_
      refine g_get C E 0 2 (fun _ h => List.mem_cons_of_mem _ (List.mem_append_left _ (List.mem_append_left _ (List.mem_append_right _ h)))) rfl rfl (by decide) (List.mem_of_getElem? (i := 1) rfl) rfl rfl dX6_release_66 ?_
      refine g_get C E 15 5 (fun _ h => List.mem_cons_of_mem _ (List.mem_append_left _ (List.mem_append_right _ h))) rfl rfl (by decide) (List.mem_of_getElem? (i := 6) rfl) rfl rfl dX6_release_69 ?_
      refine lv_ladd hx hb dX6_release_72 ?_
      obtain rfl := Option.some.inj hf
      exact gx_lret C E (Nat.le_of_ble_eq_true rfl) (Nat.le_of_ble_eq_true rfl) dX6_release_73
    · rw [if_neg c8] at hf
      refine lv_ldc2 (v := -1) hx hb hown (hts (.constantLong RX6 159 (-1)) (List.mem_of_getElem? (i := 2) rfl)) dX6_release_19 ?_
      obtain rfl := Option.some.inj hf
      exact gx_lret C E (Nat.le_of_ble_eq_true rfl) (Nat.le_of_ble_eq_true rfl) dX6_release_22
abbrev rm_X6_quotient : Room := { frames := 6, cells := 1, slots := 6, locals := 90 }
theorem hd_X6_quotient : yX6_quotient.cls ≠ "java/lang/invoke/MethodHandle" ∧ yX6_quotient.cls ≠ "java/lang/invoke/VarHandle" ∧ (parseMethodDescriptor yX6_quotient.desc).map (fun d => d.parameters.length) = some 2 := by decide +kernel
def f_X6_quotient  (x1 : Int32) (x2 : Int32) : Option ((Int64 ⊕ String)) :=
  (f_X6_isWithin x1 (0 : Int32) (1000000000 : Int32)).bind fun o1 =>
  if o1 = 0 then
    some ((Sum.inr "java/lang/IllegalArgumentException"))
  else
    (f_X6_isWithin x2 (0 : Int32) (1000000000 : Int32)).bind fun o4 =>
    if o4 = 0 then
      some ((Sum.inr "java/lang/IllegalArgumentException"))
    else
      if x2 = 0 then
        some ((Sum.inr "java/lang/ArithmeticException"))
      else
        nzI x2 <|
        some ((Sum.inl ((x1 / x2).toInt64)))
set_option maxHeartbeats 4000000 in
set_option maxRecDepth 100000 in
theorem c_X6_quotient {l : Launch} {D : va_G} {cI cJ cZ : ClassId} {a : Nat → Nat} {sz : Nat} {vl : Nat → Int32} {hs : Nat → Int32} {isz : Nat → Int32} {igd : Nat → Int32} {iup : Nat → Int32} {idn : Nat → Int32} {osz : Nat → Int32} {ogd : Nat → Int32} {oup : Nat → Int32} {odn : Nat → Int32} {dep : Nat → Int32} {rsz : Int32} {lgd : Nat → Int32} {llf : Nat → Int64} {ldb : Nat → Int64} {ldy : Nat → Int32} {lsz : Int32} {lti : Int64} {pgd : Nat → Int32} {plf : Nat → Int64} {pun : Nat → Int32} {psz : Int32} {bgd : Nat → Int32} {bam : Nat → Int64} {bwt : Nat → Int64} {bsh : Nat → Int64} {brm : Nat → Int64} {bsz : Int32} {cab : Nat → Int64} {cbl : Nat → Int64} {tod : Int32} {imp : Int64} {dis : Int64} {owe : Int64} {itr : Int64} {x1 : Int32} {x2 : Int32} {o : (Int64 ⊕ String)} (hl0 : l.stackTraces = false) (hf : f_X6_quotient x1 x2 = some o) : gMXl l yX6_quotient wsX6_quotient rm_X6_quotient D (gT cI cJ cZ) (cW a cI cJ cZ vl hs isz igd iup idn osz ogd oup odn dep rsz lgd llf ldb ldy lsz lti pgd plf pun psz bgd bam bwt bsh brm bsz cab cbl tod imp dis owe itr) (cW a cI cJ cZ vl hs isz igd iup idn osz ogd oup odn dep rsz lgd llf ldb ldy lsz lti pgd plf pun psz bgd bam bwt bsh brm bsz cab cbl tod imp dis owe itr) sz [.ref (a 0), .int x1, .int x2] o := by
  refine gx_of hl0 (cc := cX6_quotient) (maxL := 3) (ret := (some .long)) (by decide) rfl (Nat.le_of_ble_eq_true rfl) ?_
  intro p e s m below meth c A ls hAe C hZ hl E
  rw [← hAe]
  obtain ⟨hx, hb, hr, hml, hown, hts, hlocks, hN, hA⟩ := id C
  have hl : lv_has ls 3 [(0, .ref (a 0)), (1, .int x1), (2, .int x2)] := hl
  have E : vE s A D (gT cI cJ cZ) (cW a cI cJ cZ vl hs isz igd iup idn osz ogd oup odn dep rsz lgd llf ldb ldy lsz lti pgd plf pun psz bgd bam bwt bsh brm bsz cab cbl tod imp dis owe itr) s.heap [] := E
  rw [f_X6_quotient] at hf
  refine lv_iload_n hx hb dX6_quotient_0 rfl (lv_at hl 1 rfl) ?_
  refine lv_iconst (v := 0) hx hb dX6_quotient_1 (by decide) ?_
  refine lv_ldc (v := 1000000000) hx hb hown (hts (.constant RX6 232 (1000000000)) (List.mem_of_getElem? (i := 5) rfl)) dX6_quotient_2 ?_
  obtain ⟨o1, e2, hf⟩ := bd_some hf
  refine g_calli (w' := (cW a cI cJ cZ vl hs isz igd iup idn osz ogd oup odn dep rsz lgd llf ldb ldy lsz lti pgd plf pun psz bgd bam bwt bsh brm bsz cab cbl tod imp dis owe itr)) C E (g_runS (As := [.int x1, .int (0 : Int32), .int (1000000000 : Int32)]) (rest := []) C E (c_X6_isWithin e2) (va_cwS 3 hts gX6_quotient_X6_isWithin rfl rfl rfl hd_X6_isWithin ⟨Nat.le_of_ble_eq_true rfl, Nat.le_of_ble_eq_true rfl⟩) rfl hl.1 rfl (Nat.le_of_ble_eq_true rfl) dX6_quotient_4 ⟨Nat.le_of_ble_eq_true rfl, Nat.le_of_ble_eq_true rfl⟩) (fun H locs E => ?_)
  refine lv_if_eq (tgt := 20) hx hb dX6_quotient_7 (by decide) (fun c3 => ?_) (fun c3 => ?_)
  · rw [if_pos c3] at hf
    obtain rfl := Option.some.inj hf
    exact gx_throw (En := "java/lang/IllegalArgumentException") (text := "not 0 .. 1000000000") C hZ E rfl (by decide) (by decide +kernel) (List.mem_of_getElem? (i := 1) rfl) (List.mem_of_getElem? (i := 2) rfl) (List.mem_of_getElem? (i := 6) rfl) (fun _ h => List.mem_cons_of_mem _ (List.mem_append_left _ (List.mem_append_right _ h))) nb_IAE gg_IAE hl.1 dX6_quotient_20 dX6_quotient_23 dX6_quotient_24 dX6_quotient_26 dX6_quotient_29 (Nat.le_of_ble_eq_true rfl) (Nat.le_of_ble_eq_true rfl) (Nat.le_of_ble_eq_true rfl) (Nat.le_of_ble_eq_true rfl) (Nat.le_of_ble_eq_true rfl) (Nat.le_of_ble_eq_true rfl)
  · rw [if_neg c3] at hf
    refine lv_iload_n hx hb dX6_quotient_10 rfl (lv_at hl 2 rfl) ?_
    refine lv_iconst (v := 0) hx hb dX6_quotient_11 (by decide) ?_
    refine lv_ldc (v := 1000000000) hx hb hown (hts (.constant RX6 232 (1000000000)) (List.mem_of_getElem? (i := 5) rfl)) dX6_quotient_12 ?_
    obtain ⟨o4, e5, hf⟩ := bd_some hf
    refine g_calli (w' := (cW a cI cJ cZ vl hs isz igd iup idn osz ogd oup odn dep rsz lgd llf ldb ldy lsz lti pgd plf pun psz bgd bam bwt bsh brm bsz cab cbl tod imp dis owe itr)) C E (g_runS (As := [.int x2, .int (0 : Int32), .int (1000000000 : Int32)]) (rest := []) C E (c_X6_isWithin e5) (va_cwS 3 hts gX6_quotient_X6_isWithin rfl rfl rfl hd_X6_isWithin ⟨Nat.le_of_ble_eq_true rfl, Nat.le_of_ble_eq_true rfl⟩) rfl hl.1 rfl (Nat.le_of_ble_eq_true rfl) dX6_quotient_14 ⟨Nat.le_of_ble_eq_true rfl, Nat.le_of_ble_eq_true rfl⟩) (fun H locs E => ?_)
    refine lv_if_ne (tgt := 30) hx hb dX6_quotient_17 (by decide) (fun c6 => ?_) (fun c6 => ?_)
    · rw [if_neg c6] at hf
      refine lv_iload_n hx hb dX6_quotient_30 rfl (lv_at hl 2 rfl) ?_
      refine lv_if_ne (tgt := 44) hx hb dX6_quotient_31 (by decide) (fun c7 => ?_) (fun c7 => ?_)
      · rw [if_neg c7] at hf
        refine lv_iload_n hx hb dX6_quotient_44 rfl (lv_at hl 1 rfl) ?_
        refine lv_iload_n hx hb dX6_quotient_45 rfl (lv_at hl 2 rfl) ?_
        obtain ⟨h8, hf⟩ := nzI_some hf
        refine lv_idiv hx hb dX6_quotient_46 h8 ?_
        refine lv_i2l hx hb dX6_quotient_47 rfl ?_
        obtain rfl := Option.some.inj hf
        exact gx_lret C E (Nat.le_of_ble_eq_true rfl) (Nat.le_of_ble_eq_true rfl) dX6_quotient_48
      · rw [if_pos c7] at hf
        obtain rfl := Option.some.inj hf
        exact gx_throw (En := "java/lang/ArithmeticException") (text := "a yield of 0") C hZ E rfl (by decide) (by decide +kernel) (List.mem_of_getElem? (i := 3) rfl) (List.mem_of_getElem? (i := 4) rfl) (List.mem_of_getElem? (i := 7) rfl) (fun _ h => List.mem_cons_of_mem _ (List.mem_append_right _ h)) nb_ARE gg_ARE hl.1 dX6_quotient_34 dX6_quotient_37 dX6_quotient_38 dX6_quotient_40 dX6_quotient_43 (Nat.le_of_ble_eq_true rfl) (Nat.le_of_ble_eq_true rfl) (Nat.le_of_ble_eq_true rfl) (Nat.le_of_ble_eq_true rfl) (Nat.le_of_ble_eq_true rfl) (Nat.le_of_ble_eq_true rfl)
    · rw [if_pos c6] at hf
      obtain rfl := Option.some.inj hf
      exact gx_throw (En := "java/lang/IllegalArgumentException") (text := "not 0 .. 1000000000") C hZ E rfl (by decide) (by decide +kernel) (List.mem_of_getElem? (i := 1) rfl) (List.mem_of_getElem? (i := 2) rfl) (List.mem_of_getElem? (i := 6) rfl) (fun _ h => List.mem_cons_of_mem _ (List.mem_append_left _ (List.mem_append_right _ h))) nb_IAE gg_IAE hl.1 dX6_quotient_20 dX6_quotient_23 dX6_quotient_24 dX6_quotient_26 dX6_quotient_29 (Nat.le_of_ble_eq_true rfl) (Nat.le_of_ble_eq_true rfl) (Nat.le_of_ble_eq_true rfl) (Nat.le_of_ble_eq_true rfl) (Nat.le_of_ble_eq_true rfl) (Nat.le_of_ble_eq_true rfl)
