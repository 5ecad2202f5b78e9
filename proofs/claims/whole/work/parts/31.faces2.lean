abbrev rm_X6_made : Room := { frames := 6, cells := 1, slots := 6, locals := 127 }
theorem hd_X6_made : yX6_made.cls ≠ "java/lang/invoke/MethodHandle" ∧ yX6_made.cls ≠ "java/lang/invoke/VarHandle" ∧ (parseMethodDescriptor yX6_made.desc).map (fun d => d.parameters.length) = some 3 := by decide +kernel
def f_X6_made (vl : Nat → Int32) (isz : Nat → Int32) (igd : Nat → Int32) (iup : Nat → Int32) (idn : Nat → Int32) (osz : Nat → Int32) (ogd : Nat → Int32) (oup : Nat → Int32) (odn : Nat → Int32) (lgd : Nat → Int32) (llf : Nat → Int64) (ldb : Nat → Int64) (ldy : Nat → Int32) (lsz : Int32) (lti : Int64) (bgd : Nat → Int32) (bam : Nat → Int64) (bwt : Nat → Int64) (bsh : Nat → Int64) (brm : Nat → Int64) (bsz : Int32) (tod : Int32) (x1 : Int32) (x2 : Int32) (x3 : Int32) : Option ((Int32 ⊕ String) × (Nat → Int32) × (Nat → Int64) × (Nat → Int64) × (Nat → Int32) × (Int32) × (Int64) × (Nat → Int32) × (Nat → Int64) × (Nat → Int64) × (Nat → Int64) × (Nat → Int64) × (Int32)) :=
  (f_X6_isGood x1).bind fun o1 =>
  if o1 = 0 then
    some ((Sum.inr "java/lang/IllegalArgumentException"), lgd, llf, ldb, ldy, lsz, lti, bgd, bam, bwt, bsh, brm, bsz)
  else
    ck x1 12 <|
    if (isz x1.toNatClampNeg) < (1 : Int32) then
      some ((Sum.inr "java/lang/IllegalArgumentException"), lgd, llf, ldb, ldy, lsz, lti, bgd, bam, bwt, bsh, brm, bsz)
    else
      (f_X6_isWithin x2 (1 : Int32) (10000 : Int32)).bind fun o6 =>
      if o6 = 0 then
        some ((Sum.inr "java/lang/IllegalArgumentException"), lgd, llf, ldb, ldy, lsz, lti, bgd, bam, bwt, bsh, brm, bsz)
      else
        (f_X0_plan osz ogd oup odn bgd bam bsz x1 x2).bind fun o9 =>
        (f_X6_suffices isz igd iup idn lgd llf lsz x1 x2).bind fun o11 =>
        if o11 = 0 then
          some ((Sum.inl (0 : Int32)), lgd, llf, ldb, ldy, lsz, lti, o9.1, o9.2.1, bwt, bsh, brm, o9.2.2)
        else
          (f_X2_free lsz).bind fun o14 =>
          (f_X0_lotsToAdd o9.2.1 o9.2.2).bind fun o16 =>
          if o16 ≤ o14 then
            (f_X0_weigh vl o9.1 o9.2.1 bwt o9.2.2 x3).bind fun o19 =>
            (f_X6_takeNeeds isz igd iup idn lgd llf ldb ldy lsz lti tod x1 x2).bind fun o21 =>
            (f_X0_apportion o19 bsh brm o9.2.2 o21.1).bind fun o23 =>
            (f_X0_store lgd o21.2.1 o21.2.2.1 ldy lsz o9.1 o9.2.1 o23.1 o9.2.2 tod).bind fun o25 =>
            some ((Sum.inl (1 : Int32)), o25.1, o25.2.1, o25.2.2.1, o25.2.2.2.1, o25.2.2.2.2, o21.2.2.2, o9.1, o9.2.1, o19, o23.1, o23.2, o9.2.2)
          else
            some ((Sum.inl (0 : Int32)), lgd, llf, ldb, ldy, lsz, lti, o9.1, o9.2.1, bwt, bsh, brm, o9.2.2)
set_option maxHeartbeats 4000000 in
set_option maxRecDepth 100000 in
theorem c_X6_made {l : Launch} {D : va_G} {cI cJ cZ : ClassId} {a : Nat → Nat} {sz : Nat} {vl : Nat → Int32} {hs : Nat → Int32} {isz : Nat → Int32} {igd : Nat → Int32} {iup : Nat → Int32} {idn : Nat → Int32} {osz : Nat → Int32} {ogd : Nat → Int32} {oup : Nat → Int32} {odn : Nat → Int32} {dep : Nat → Int32} {rsz : Int32} {lgd : Nat → Int32} {llf : Nat → Int64} {ldb : Nat → Int64} {ldy : Nat → Int32} {lsz : Int32} {lti : Int64} {pgd : Nat → Int32} {plf : Nat → Int64} {pun : Nat → Int32} {psz : Int32} {bgd : Nat → Int32} {bam : Nat → Int64} {bwt : Nat → Int64} {bsh : Nat → Int64} {brm : Nat → Int64} {bsz : Int32} {cab : Nat → Int64} {cbl : Nat → Int64} {tod : Int32} {imp : Int64} {dis : Int64} {owe : Int64} {itr : Int64} {x1 : Int32} {x2 : Int32} {x3 : Int32} {o : (Int32 ⊕ String) × (Nat → Int32) × (Nat → Int64) × (Nat → Int64) × (Nat → Int32) × (Int32) × (Int64) × (Nat → Int32) × (Nat → Int64) × (Nat → Int64) × (Nat → Int64) × (Nat → Int64) × (Int32)} (hl0 : l.stackTraces = false) (hf : f_X6_made vl isz igd iup idn osz ogd oup odn lgd llf ldb ldy lsz lti bgd bam bwt bsh brm bsz tod x1 x2 x3 = some o) : gMXi l yX6_made wsX6_made rm_X6_made D (gT cI cJ cZ) (cW a cI cJ cZ vl hs isz igd iup idn osz ogd oup odn dep rsz lgd llf ldb ldy lsz lti pgd plf pun psz bgd bam bwt bsh brm bsz cab cbl tod imp dis owe itr) (cW a cI cJ cZ vl hs isz igd iup idn osz ogd oup odn dep rsz o.2.1 o.2.2.1 o.2.2.2.1 o.2.2.2.2.1 o.2.2.2.2.2.1 o.2.2.2.2.2.2.1 pgd plf pun psz o.2.2.2.2.2.2.2.1 o.2.2.2.2.2.2.2.2.1 o.2.2.2.2.2.2.2.2.2.1 o.2.2.2.2.2.2.2.2.2.2.1 o.2.2.2.2.2.2.2.2.2.2.2.1 o.2.2.2.2.2.2.2.2.2.2.2.2 cab cbl tod imp dis owe itr) sz [.ref (a 0), .int x1, .int x2, .int x3] o.1 := by
  refine gx_of hl0 (cc := cX6_made) (maxL := 4) (ret := (some .int)) (by decide) rfl (Nat.le_of_ble_eq_true rfl) ?_
  intro p e s m below meth c A ls hAe C hZ hl E
  rw [← hAe]
  obtain ⟨hx, hb, hr, hml, hown, hts, hlocks, hN, hA⟩ := id C
  have hl : lv_has ls 4 [(0, .ref (a 0)), (1, .int x1), (2, .int x2), (3, .int x3)] := hl
  have E : vE s A D (gT cI cJ cZ) (cW a cI cJ cZ vl hs isz igd iup idn osz ogd oup odn dep rsz lgd llf ldb ldy lsz lti pgd plf pun psz bgd bam bwt bsh brm bsz cab cbl tod imp dis owe itr) s.heap [] := E
  rw [f_X6_made] at hf
  refine lv_iload_n hx hb dX6_made_0 rfl (lv_at hl 1 rfl) ?_
  obtain ⟨o1, e2, hf⟩ := bd_some hf
  refine g_calli (w' := (cW a cI cJ cZ vl hs isz igd iup idn osz ogd oup odn dep rsz lgd llf ldb ldy lsz lti pgd plf pun psz bgd bam bwt bsh brm bsz cab cbl tod imp dis owe itr)) C E (g_runS (As := [.int x1]) (rest := []) C E (c_X6_isGood e2) (va_cwS 1 hts gX6_made_X6_isGood rfl rfl rfl hd_X6_isGood ⟨Nat.le_of_ble_eq_true rfl, Nat.le_of_ble_eq_true rfl⟩) rfl hl.1 rfl (Nat.le_of_ble_eq_true rfl) dX6_made_1 ⟨Nat.le_of_ble_eq_true rfl, Nat.le_of_ble_eq_true rfl⟩) (fun H locs E => ?_)
  refine lv_if_eq (tgt := 34) hx hb dX6_made_4 (by decide) (fun c3 => ?_) (fun c3 => ?_)
  · rw [if_pos c3] at hf
    obtain rfl := Option.some.inj hf
    exact gx_throw (En := "java/lang/IllegalArgumentException") (text := "no such good with needs, or no such amount") C hZ E rfl (by decide) (by decide +kernel) (List.mem_of_getElem? (i := 1) rfl) (List.mem_of_getElem? (i := 2) rfl) (List.mem_of_getElem? (i := 0) rfl) (fun _ h => List.mem_cons_of_mem _ (List.mem_append_right _ h)) nb_IAE gg_IAE hl.1 dX6_made_34 dX6_made_37 dX6_made_38 dX6_made_40 dX6_made_43 (Nat.le_of_ble_eq_true rfl) (Nat.le_of_ble_eq_true rfl) (Nat.le_of_ble_eq_true rfl) (Nat.le_of_ble_eq_true rfl) (Nat.le_of_ble_eq_true rfl) (Nat.le_of_ble_eq_true rfl)
  · rw [if_neg c3] at hf
    refine lv_aload_n hx hb dX6_made_7 rfl (lv_at hl 0 rfl) ?_
    refine g_get C E 0 1 (fun _ h => List.mem_cons_of_mem _ (List.mem_append_left _ (List.mem_append_left _ (List.mem_append_left _ (List.mem_append_left _ (List.mem_append_left _ (List.mem_append_right _ h))))))) rfl rfl (by decide) (List.mem_of_getElem? (i := 3) rfl) rfl rfl dX6_made_8 ?_
    refine g_get C E 2 1 (fun _ h => List.mem_cons_of_mem _ (List.mem_append_left _ (List.mem_append_left _ (List.mem_append_left _ (List.mem_append_left _ (List.mem_append_right _ h)))))) rfl rfl (by decide) (List.mem_of_getElem? (i := 4) rfl) rfl rfl dX6_made_11 ?_
    refine g_get C E 4 1 (fun _ h => List.mem_cons_of_mem _ (List.mem_append_left _ (List.mem_append_left _ (List.mem_append_left _ (List.mem_append_right _ h))))) rfl rfl (by decide) (List.mem_of_getElem? (i := 5) rfl) rfl rfl dX6_made_14 ?_
    refine lv_iload_n hx hb dX6_made_17 rfl (lv_at hl 1 rfl) ?_
    obtain ⟨h4, hf⟩ := ck_some hf
    refine g_iald C E 5 rfl h4 dX6_made_18 ?_
    refine lv_iconst (v := 1) hx hb dX6_made_19 (by decide) ?_
    refine lv_icmp_lt (tgt := 34) hx hb dX6_made_20 (by decide) (fun c5 => ?_) (fun c5 => ?_)
    · rw [if_pos c5] at hf
      obtain rfl := Option.some.inj hf
      exact gx_throw (En := "java/lang/IllegalArgumentException") (text := "no such good with needs, or no such amount") C hZ E rfl (by decide) (by decide +kernel) (List.mem_of_getElem? (i := 1) rfl) (List.mem_of_getElem? (i := 2) rfl) (List.mem_of_getElem? (i := 0) rfl) (fun _ h => List.mem_cons_of_mem _ (List.mem_append_right _ h)) nb_IAE gg_IAE hl.1 dX6_made_34 dX6_made_37 dX6_made_38 dX6_made_40 dX6_made_43 (Nat.le_of_ble_eq_true rfl) (Nat.le_of_ble_eq_true rfl) (Nat.le_of_ble_eq_true rfl) (Nat.le_of_ble_eq_true rfl) (Nat.le_of_ble_eq_true rfl) (Nat.le_of_ble_eq_true rfl)
    · rw [if_neg c5] at hf
      refine lv_iload_n hx hb dX6_made_23 rfl (lv_at hl 2 rfl) ?_
      refine lv_iconst (v := 1) hx hb dX6_made_24 (by decide) ?_
      refine lv_sipush (v := 10000) hx hb dX6_made_25 (by decide) ?_
      obtain ⟨o6, e7, hf⟩ := bd_some hf
      refine g_calli (w' := (cW a cI cJ cZ vl hs isz igd iup idn osz ogd oup odn dep rsz lgd llf ldb ldy lsz lti pgd plf pun psz bgd bam bwt bsh brm bsz cab cbl tod imp dis owe itr)) C E (g_runS (As := [.int x2, .int (1 : Int32), .int (10000 : Int32)]) (rest := []) C E (c_X6_isWithin e7) (va_cwS 3 hts gX6_made_X6_isWithin rfl rfl rfl hd_X6_isWithin ⟨Nat.le_of_ble_eq_true rfl, Nat.le_of_ble_eq_true rfl⟩) rfl hl.1 rfl (Nat.le_of_ble_eq_true rfl) dX6_made_28 ⟨Nat.le_of_ble_eq_true rfl, Nat.le_of_ble_eq_true rfl⟩) (fun H locs E => ?_)
      refine lv_if_ne (tgt := 44) hx hb dX6_made_31 (by decide) (fun c8 => ?_) (fun c8 => ?_)
      · rw [if_neg c8] at hf
        refine lv_aload_n hx hb dX6_made_44 rfl (lv_at hl 0 rfl) ?_
        refine g_get C E 0 4 (fun _ h => List.mem_cons_of_mem _ (List.mem_append_left _ (List.mem_append_left _ (List.mem_append_left _ (List.mem_append_left _ (List.mem_append_left _ (List.mem_append_right _ h))))))) rfl rfl (by decide) (List.mem_of_getElem? (i := 6) rfl) rfl rfl dX6_made_45 ?_
        refine lv_aload_n hx hb dX6_made_48 rfl (lv_at hl 0 rfl) ?_
        refine g_get C E 0 1 (fun _ h => List.mem_cons_of_mem _ (List.mem_append_left _ (List.mem_append_left _ (List.mem_append_left _ (List.mem_append_left _ (List.mem_append_left _ (List.mem_append_right _ h))))))) rfl rfl (by decide) (List.mem_of_getElem? (i := 3) rfl) rfl rfl dX6_made_49 ?_
        refine g_get C E 2 2 (fun _ h => List.mem_cons_of_mem _ (List.mem_append_left _ (List.mem_append_left _ (List.mem_append_left _ (List.mem_append_left _ (List.mem_append_right _ h)))))) rfl rfl (by decide) (List.mem_of_getElem? (i := 7) rfl) rfl rfl dX6_made_52 ?_
        refine lv_iload_n hx hb dX6_made_55 rfl (lv_at hl 1 rfl) ?_
        refine lv_iload_n hx hb dX6_made_56 rfl (lv_at hl 2 rfl) ?_
        obtain ⟨o9, e10, hf⟩ := bd_some hf
        refine g_callv (w' := (cW a cI cJ cZ vl hs isz igd iup idn osz ogd oup odn dep rsz lgd llf ldb ldy lsz lti pgd plf pun psz o9.1 o9.2.1 bwt bsh brm o9.2.2 cab cbl tod imp dis owe itr)) C E (g_runV (As := [.ref (a 9), .int x1, .int x2]) (rest := []) C E (c_X0_plan e10) (cwV 3 hts gX6_made_X0_plan rfl rfl rfl ⟨rfl, hd_X0_plan⟩ ⟨Nat.le_of_ble_eq_true rfl, Nat.le_of_ble_eq_true rfl⟩) (q0 := 24) (ci := 0) rfl rfl rfl rfl hl.1 rfl (Nat.le_of_ble_eq_true rfl) dX6_made_57 ⟨Nat.le_of_ble_eq_true rfl, Nat.le_of_ble_eq_true rfl⟩) (fun H locs E => ?_)
        refine lv_aload_n hx hb dX6_made_60 rfl (lv_at hl 0 rfl) ?_
        refine lv_iload_n hx hb dX6_made_61 rfl (lv_at hl 1 rfl) ?_
        refine lv_iload_n hx hb dX6_made_62 rfl (lv_at hl 2 rfl) ?_
        obtain ⟨o11, e12, hf⟩ := bd_some hf
        refine g_calli (w' := (cW a cI cJ cZ vl hs isz igd iup idn osz ogd oup odn dep rsz lgd llf ldb ldy lsz lti pgd plf pun psz o9.1 o9.2.1 bwt bsh brm o9.2.2 cab cbl tod imp dis owe itr)) C E (g_runV (As := [.int x1, .int x2]) (rest := []) C E (c_X6_suffices e12) (cwV 2 hts gX6_made_X6_suffices rfl rfl rfl ⟨rfl, hd_X6_suffices⟩ ⟨Nat.le_of_ble_eq_true rfl, Nat.le_of_ble_eq_true rfl⟩) (q0 := 0) (ci := 6) rfl rfl rfl rfl hl.1 rfl (Nat.le_of_ble_eq_true rfl) dX6_made_63 ⟨Nat.le_of_ble_eq_true rfl, Nat.le_of_ble_eq_true rfl⟩) (fun H locs E => ?_)
        refine lv_if_eq (tgt := 86) hx hb dX6_made_66 (by decide) (fun c13 => ?_) (fun c13 => ?_)
        · rw [if_pos c13] at hf
          refine lv_iconst (v := 0) hx hb dX6_made_86 (by decide) ?_
          obtain rfl := Option.some.inj hf
          exact gx_iret C E (Nat.le_of_ble_eq_true rfl) (Nat.le_of_ble_eq_true rfl) dX6_made_87
        · rw [if_neg c13] at hf
          refine lv_aload_n hx hb dX6_made_69 rfl (lv_at hl 0 rfl) ?_
          refine g_get C E 0 2 (fun _ h => List.mem_cons_of_mem _ (List.mem_append_left _ (List.mem_append_left _ (List.mem_append_left _ (List.mem_append_left _ (List.mem_append_left _ (List.mem_append_right _ h))))))) rfl rfl (by decide) (List.mem_of_getElem? (i := 8) rfl) rfl rfl dX6_made_70 ?_
          obtain ⟨o14, e15, hf⟩ := bd_some hf
          refine g_calli (w' := (cW a cI cJ cZ vl hs isz igd iup idn osz ogd oup odn dep rsz lgd llf ldb ldy lsz lti pgd plf pun psz o9.1 o9.2.1 bwt bsh brm o9.2.2 cab cbl tod imp dis owe itr)) C E (g_runV (As := []) (rest := []) C E (c_X2_free e15) (cwV 0 hts gX6_made_X2_free rfl rfl rfl ⟨rfl, hd_X2_free⟩ ⟨Nat.le_of_ble_eq_true rfl, Nat.le_of_ble_eq_true rfl⟩) (q0 := 15) (ci := 2) rfl rfl rfl rfl hl.1 rfl (Nat.le_of_ble_eq_true rfl) dX6_made_73 ⟨Nat.le_of_ble_eq_true rfl, Nat.le_of_ble_eq_true rfl⟩) (fun H locs E => ?_)
          refine lv_aload_n hx hb dX6_made_76 rfl (lv_at hl 0 rfl) ?_
          refine g_get C E 0 4 (fun _ h => List.mem_cons_of_mem _ (List.mem_append_left _ (List.mem_append_left _ (List.mem_append_left _ (List.mem_append_left _ (List.mem_append_left _ (List.mem_append_right _ h))))))) rfl rfl (by decide) (List.mem_of_getElem? (i := 6) rfl) rfl rfl dX6_made_77 ?_
          obtain ⟨o16, e17, hf⟩ := bd_some hf
          refine g_calli (w' := (cW a cI cJ cZ vl hs isz igd iup idn osz ogd oup odn dep rsz lgd llf ldb ldy lsz lti pgd plf pun psz o9.1 o9.2.1 bwt bsh brm o9.2.2 cab cbl tod imp dis owe itr)) C E (g_runV (As := []) (rest := [.int o14]) C E (c_X0_lotsToAdd e17) (cwV 0 hts gX6_made_X0_lotsToAdd rfl rfl rfl ⟨rfl, hd_X0_lotsToAdd⟩ ⟨Nat.le_of_ble_eq_true rfl, Nat.le_of_ble_eq_true rfl⟩) (q0 := 24) (ci := 0) rfl rfl rfl rfl hl.1 rfl (Nat.le_of_ble_eq_true rfl) dX6_made_80 ⟨Nat.le_of_ble_eq_true rfl, Nat.le_of_ble_eq_true rfl⟩) (fun H locs E => ?_)
          refine lv_icmp_ge (tgt := 88) hx hb dX6_made_83 (by decide) (fun c18 => ?_) (fun c18 => ?_)
          · rw [if_pos c18] at hf
            refine lv_aload_n hx hb dX6_made_88 rfl (lv_at hl 0 rfl) ?_
            refine g_get C E 0 4 (fun _ h => List.mem_cons_of_mem _ (List.mem_append_left _ (List.mem_append_left _ (List.mem_append_left _ (List.mem_append_left _ (List.mem_append_left _ (List.mem_append_right _ h))))))) rfl rfl (by decide) (List.mem_of_getElem? (i := 6) rfl) rfl rfl dX6_made_89 ?_
            refine lv_aload_n hx hb dX6_made_92 rfl (lv_at hl 0 rfl) ?_
            refine g_get C E 0 0 (fun _ h => List.mem_cons_of_mem _ (List.mem_append_left _ (List.mem_append_left _ (List.mem_append_left _ (List.mem_append_left _ (List.mem_append_left _ (List.mem_append_right _ h))))))) rfl rfl (by decide) (List.mem_of_getElem? (i := 9) rfl) rfl rfl dX6_made_93 ?_
            refine lv_iload_n hx hb dX6_made_96 rfl (lv_at hl 3 rfl) ?_
            obtain ⟨o19, e20, hf⟩ := bd_some hf
            refine g_callv (w' := (cW a cI cJ cZ vl hs isz igd iup idn osz ogd oup odn dep rsz lgd llf ldb ldy lsz lti pgd plf pun psz o9.1 o9.2.1 o19 bsh brm o9.2.2 cab cbl tod imp dis owe itr)) C E (g_runV (As := [.ref (a 1), .int x3]) (rest := []) C E (c_X0_weigh e20) (cwV 2 hts gX6_made_X0_weigh rfl rfl rfl ⟨rfl, hd_X0_weigh⟩ ⟨Nat.le_of_ble_eq_true rfl, Nat.le_of_ble_eq_true rfl⟩) (q0 := 24) (ci := 0) rfl rfl rfl rfl hl.1 rfl (Nat.le_of_ble_eq_true rfl) dX6_made_97 ⟨Nat.le_of_ble_eq_true rfl, Nat.le_of_ble_eq_true rfl⟩) (fun H locs E => ?_)
            refine lv_aload_n hx hb dX6_made_100 rfl (lv_at hl 0 rfl) ?_
            refine g_get C E 0 4 (fun _ h => List.mem_cons_of_mem _ (List.mem_append_left _ (List.mem_append_left _ (List.mem_append_left _ (List.mem_append_left _ (List.mem_append_left _ (List.mem_append_right _ h))))))) rfl rfl (by decide) (List.mem_of_getElem? (i := 6) rfl) rfl rfl dX6_made_101 ?_
            refine lv_aload_n hx hb dX6_made_104 rfl (lv_at hl 0 rfl) ?_
            refine lv_iload_n hx hb dX6_made_105 rfl (lv_at hl 1 rfl) ?_
            refine lv_iload_n hx hb dX6_made_106 rfl (lv_at hl 2 rfl) ?_
            obtain ⟨o21, e22, hf⟩ := bd_some hf
            refine g_calll (w' := (cW a cI cJ cZ vl hs isz igd iup idn osz ogd oup odn dep rsz lgd o21.2.1 o21.2.2.1 ldy lsz o21.2.2.2 pgd plf pun psz o9.1 o9.2.1 o19 bsh brm o9.2.2 cab cbl tod imp dis owe itr)) C E (g_runV (As := [.int x1, .int x2]) (rest := [.ref (a 24)]) C E (c_X6_takeNeeds e22) (cwV 2 hts gX6_made_X6_takeNeeds rfl rfl rfl ⟨rfl, hd_X6_takeNeeds⟩ ⟨Nat.le_of_ble_eq_true rfl, Nat.le_of_ble_eq_true rfl⟩) (q0 := 0) (ci := 6) rfl rfl rfl rfl hl.1 rfl (Nat.le_of_ble_eq_true rfl) dX6_made_107 ⟨Nat.le_of_ble_eq_true rfl, Nat.le_of_ble_eq_true rfl⟩) (fun H locs E => ?_)
            obtain ⟨o23, e24, hf⟩ := bd_some hf
            refine g_callv (w' := (cW a cI cJ cZ vl hs isz igd iup idn osz ogd oup odn dep rsz lgd o21.2.1 o21.2.2.1 ldy lsz o21.2.2.2 pgd plf pun psz o9.1 o9.2.1 o19 o23.1 o23.2 o9.2.2 cab cbl tod imp dis owe itr)) C E (g_runV (As := [.long o21.1]) (rest := []) C E (c_X0_apportion e24) (cwV 1 hts gX6_made_X0_apportion rfl rfl rfl ⟨rfl, hd_X0_apportion⟩ ⟨Nat.le_of_ble_eq_true rfl, Nat.le_of_ble_eq_true rfl⟩) (q0 := 24) (ci := 0) rfl rfl rfl rfl hl.1 rfl (Nat.le_of_ble_eq_true rfl) dX6_made_110 ⟨Nat.le_of_ble_eq_true rfl, Nat.le_of_ble_eq_true rfl⟩) (fun H locs E => ?_)
            refine lv_aload_n hx hb dX6_made_113 rfl (lv_at hl 0 rfl) ?_
            refine g_get C E 0 4 (fun _ h => List.mem_cons_of_mem _ (List.mem_append_left _ (List.mem_append_left _ (List.mem_append_left _ (List.mem_append_left _ (List.mem_append_left _ (List.mem_append_right _ h))))))) rfl rfl (by decide) (List.mem_of_getElem? (i := 6) rfl) rfl rfl dX6_made_114 ?_
            refine lv_aload_n hx hb dX6_made_117 rfl (lv_at hl 0 rfl) ?_
            refine g_get C E 0 2 (fun _ h => List.mem_cons_of_mem _ (List.mem_append_left _ (List.mem_append_left _ (List.mem_append_left _ (List.mem_append_left _ (List.mem_append_left _ (List.mem_append_right _ h))))))) rfl rfl (by decide) (List.mem_of_getElem? (i := 8) rfl) rfl rfl dX6_made_118 ?_
            refine lv_aload_n hx hb dX6_made_121 rfl (lv_at hl 0 rfl) ?_
            refine g_get C E 0 6 (fun _ h => List.mem_cons_of_mem _ (List.mem_append_left _ (List.mem_append_left _ (List.mem_append_left _ (List.mem_append_left _ (List.mem_append_left _ (List.mem_append_right _ h))))))) rfl rfl (by decide) (List.mem_of_getElem? (i := 10) rfl) rfl rfl dX6_made_122 ?_
            obtain ⟨o25, e26, hf⟩ := bd_some hf
            refine g_callv (w' := (cW a cI cJ cZ vl hs isz igd iup idn osz ogd oup odn dep rsz o25.1 o25.2.1 o25.2.2.1 o25.2.2.2.1 o25.2.2.2.2 o21.2.2.2 pgd plf pun psz o9.1 o9.2.1 o19 o23.1 o23.2 o9.2.2 cab cbl tod imp dis owe itr)) C E (g_runV (As := [.ref (a 15), .int tod]) (rest := []) C E (c_X0_store e26) (cwV 2 hts gX6_made_X0_store rfl rfl rfl ⟨rfl, hd_X0_store⟩ ⟨Nat.le_of_ble_eq_true rfl, Nat.le_of_ble_eq_true rfl⟩) (q0 := 24) (ci := 0) rfl rfl rfl rfl hl.1 rfl (Nat.le_of_ble_eq_true rfl) dX6_made_125 ⟨Nat.le_of_ble_eq_true rfl, Nat.le_of_ble_eq_true rfl⟩) (fun H locs E => ?_)
            refine lv_iconst (v := 1) hx hb dX6_made_128 (by decide) ?_
            obtain rfl := Option.some.inj hf
            exact gx_iret C E (Nat.le_of_ble_eq_true rfl) (Nat.le_of_ble_eq_true rfl) dX6_made_129
          · rw [if_neg c18] at hf
            refine lv_iconst (v := 0) hx hb dX6_made_86 (by decide) ?_
            obtain rfl := Option.some.inj hf
            exact gx_iret C E (Nat.le_of_ble_eq_true rfl) (Nat.le_of_ble_eq_true rfl) dX6_made_87
      · rw [if_pos c8] at hf
        obtain rfl := Option.some.inj hf
        exact gx_throw (En := "java/lang/IllegalArgumentException") (text := "no such good with needs, or no such amount") C hZ E rfl (by decide) (by decide +kernel) (List.mem_of_getElem? (i := 1) rfl) (List.mem_of_getElem? (i := 2) rfl) (List.mem_of_getElem? (i := 0) rfl) (fun _ h => List.mem_cons_of_mem _ (List.mem_append_right _ h)) nb_IAE gg_IAE hl.1 dX6_made_34 dX6_made_37 dX6_made_38 dX6_made_40 dX6_made_43 (Nat.le_of_ble_eq_true rfl) (Nat.le_of_ble_eq_true rfl) (Nat.le_of_ble_eq_true rfl) (Nat.le_of_ble_eq_true rfl) (Nat.le_of_ble_eq_true rfl) (Nat.le_of_ble_eq_true rfl)
abbrev rm_X6_look : Room := { frames := 6, cells := 1, slots := 6, locals := 90 }
theorem hd_X6_look : yX6_look.cls ≠ "java/lang/invoke/MethodHandle" ∧ yX6_look.cls ≠ "java/lang/invoke/VarHandle" ∧ (parseMethodDescriptor yX6_look.desc).map (fun d => d.parameters.length) = some 2 := by decide +kernel
def f_X6_look (vl : Nat → Int32) (hs : Nat → Int32) (isz : Nat → Int32) (osz : Nat → Int32) (dep : Nat → Int32) (lgd : Nat → Int32) (llf : Nat → Int64) (ldb : Nat → Int64) (lsz : Int32) (pgd : Nat → Int32) (plf : Nat → Int64) (pun : Nat → Int32) (psz : Int32) (tod : Int32) (x1 : Int32) (x2 : Int32) : Option ((Int64 ⊕ String)) :=
  (f_X6_isGood x1).bind fun o1 =>
  if o1 = 0 then
    some ((Sum.inr "java/lang/IndexOutOfBoundsException"))
  else
    (f_X6_isWithin x2 (0 : Int32) (7 : Int32)).bind fun o4 =>
    if o4 = 0 then
      some ((Sum.inr "java/lang/IndexOutOfBoundsException"))
    else
      if x2 = 0 then
        (f_X2_stockOf lgd llf lsz x1).bind fun o8 =>
        some ((Sum.inl o8))
      else
      if x2 = 1 then
        (f_X2_debtOf lgd ldb lsz x1).bind fun o11 =>
        some ((Sum.inl o11))
      else
      if x2 = 2 then
        (f_X2_openOf lgd llf lsz x1).bind fun o14 =>
        some ((Sum.inl o14.toInt64))
      else
      if x2 = 3 then
        ck x1 12 <|
        if (hs x1.toNatClampNeg) = 0 then
          some ((Sum.inl (-1 : Int64)))
        else
          ck x1 12 <|
          some ((Sum.inl ((isz x1.toNatClampNeg).toInt64)))
      else
      if x2 = 4 then
        ck x1 12 <|
        if (hs x1.toNatClampNeg) = 0 then
          some ((Sum.inl (-1 : Int64)))
        else
          ck x1 12 <|
          some ((Sum.inl ((osz x1.toNatClampNeg).toInt64)))
      else
      if x2 = 5 then
        ck x1 12 <|
        some ((Sum.inl ((dep x1.toNatClampNeg).toInt64)))
      else
      if x2 = 6 then
        ck x1 12 <|
        some ((Sum.inl ((vl x1.toNatClampNeg).toInt64)))
      else
      (f_X4_openOf pgd plf pun psz x1 tod).bind fun o28 =>
      some ((Sum.inl o28))
set_option maxHeartbeats 4000000 in
set_option maxRecDepth 100000 in
theorem c_X6_look {l : Launch} {D : va_G} {cI cJ cZ : ClassId} {a : Nat → Nat} {sz : Nat} {vl : Nat → Int32} {hs : Nat → Int32} {isz : Nat → Int32} {igd : Nat → Int32} {iup : Nat → Int32} {idn : Nat → Int32} {osz : Nat → Int32} {ogd : Nat → Int32} {oup : Nat → Int32} {odn : Nat → Int32} {dep : Nat → Int32} {rsz : Int32} {lgd : Nat → Int32} {llf : Nat → Int64} {ldb : Nat → Int64} {ldy : Nat → Int32} {lsz : Int32} {lti : Int64} {pgd : Nat → Int32} {plf : Nat → Int64} {pun : Nat → Int32} {psz : Int32} {bgd : Nat → Int32} {bam : Nat → Int64} {bwt : Nat → Int64} {bsh : Nat → Int64} {brm : Nat → Int64} {bsz : Int32} {cab : Nat → Int64} {cbl : Nat → Int64} {tod : Int32} {imp : Int64} {dis : Int64} {owe : Int64} {itr : Int64} {x1 : Int32} {x2 : Int32} {o : (Int64 ⊕ String)} (hl0 : l.stackTraces = false) (hf : f_X6_look vl hs isz osz dep lgd llf ldb lsz pgd plf pun psz tod x1 x2 = some o) : gMXl l yX6_look wsX6_look rm_X6_look D (gT cI cJ cZ) (cW a cI cJ cZ vl hs isz igd iup idn osz ogd oup odn dep rsz lgd llf ldb ldy lsz lti pgd plf pun psz bgd bam bwt bsh brm bsz cab cbl tod imp dis owe itr) (cW a cI cJ cZ vl hs isz igd iup idn osz ogd oup odn dep rsz lgd llf ldb ldy lsz lti pgd plf pun psz bgd bam bwt bsh brm bsz cab cbl tod imp dis owe itr) sz [.ref (a 0), .int x1, .int x2] o := by
  refine gx_of hl0 (cc := cX6_look) (maxL := 3) (ret := (some .long)) (by decide) rfl (Nat.le_of_ble_eq_true rfl) ?_
  intro p e s m below meth c A ls hAe C hZ hl E
  rw [← hAe]
  obtain ⟨hx, hb, hr, hml, hown, hts, hlocks, hN, hA⟩ := id C
  have hl : lv_has ls 3 [(0, .ref (a 0)), (1, .int x1), (2, .int x2)] := hl
  have E : vE s A D (gT cI cJ cZ) (cW a cI cJ cZ vl hs isz igd iup idn osz ogd oup odn dep rsz lgd llf ldb ldy lsz lti pgd plf pun psz bgd bam bwt bsh brm bsz cab cbl tod imp dis owe itr) s.heap [] := E
  rw [f_X6_look] at hf
  refine lv_iload_n hx hb dX6_look_0 rfl (lv_at hl 1 rfl) ?_
  obtain ⟨o1, e2, hf⟩ := bd_some hf
  refine g_calli (w' := (cW a cI cJ cZ vl hs isz igd iup idn osz ogd oup odn dep rsz lgd llf ldb ldy lsz lti pgd plf pun psz bgd bam bwt bsh brm bsz cab cbl tod imp dis owe itr)) C E (g_runS (As := [.int x1]) (rest := []) C E (c_X6_isGood e2) (va_cwS 1 hts gX6_look_X6_isGood rfl rfl rfl hd_X6_isGood ⟨Nat.le_of_ble_eq_true rfl, Nat.le_of_ble_eq_true rfl⟩) rfl hl.1 rfl (Nat.le_of_ble_eq_true rfl) dX6_look_1 ⟨Nat.le_of_ble_eq_true rfl, Nat.le_of_ble_eq_true rfl⟩) (fun H locs E => ?_)
  refine lv_if_eq (tgt := 17) hx hb dX6_look_4 (by decide) (fun c3 => ?_) (fun c3 => ?_)
  · rw [if_pos c3] at hf
    obtain rfl := Option.some.inj hf
    exact gx_throw (En := "java/lang/IndexOutOfBoundsException") (text := "no such good or what") C hZ E rfl (by decide) (by decide +kernel) (List.mem_of_getElem? (i := 1) rfl) (List.mem_of_getElem? (i := 2) rfl) (List.mem_of_getElem? (i := 4) rfl) (fun _ h => List.mem_cons_of_mem _ (List.mem_append_right _ h)) nb_IOE gg_IOE hl.1 dX6_look_17 dX6_look_20 dX6_look_21 dX6_look_23 dX6_look_26 (Nat.le_of_ble_eq_true rfl) (Nat.le_of_ble_eq_true rfl) (Nat.le_of_ble_eq_true rfl) (Nat.le_of_ble_eq_true rfl) (Nat.le_of_ble_eq_true rfl) (Nat.le_of_ble_eq_true rfl)
  · rw [if_neg c3] at hf
    refine lv_iload_n hx hb dX6_look_7 rfl (lv_at hl 2 rfl) ?_
    refine lv_iconst (v := 0) hx hb dX6_look_8 (by decide) ?_
    refine lv_bipush (v := 7) hx hb dX6_look_9 (by decide) ?_
    obtain ⟨o4, e5, hf⟩ := bd_some hf
    refine g_calli (w' := (cW a cI cJ cZ vl hs isz igd iup idn osz ogd oup odn dep rsz lgd llf ldb ldy lsz lti pgd plf pun psz bgd bam bwt bsh brm bsz cab cbl tod imp dis owe itr)) C E (g_runS (As := [.int x2, .int (0 : Int32), .int (7 : Int32)]) (rest := []) C E (c_X6_isWithin e5) (va_cwS 3 hts gX6_look_X6_isWithin rfl rfl rfl hd_X6_isWithin ⟨Nat.le_of_ble_eq_true rfl, Nat.le_of_ble_eq_true rfl⟩) rfl hl.1 rfl (Nat.le_of_ble_eq_true rfl) dX6_look_11 ⟨Nat.le_of_ble_eq_true rfl, Nat.le_of_ble_eq_true rfl⟩) (fun H locs E => ?_)
    refine lv_if_ne (tgt := 27) hx hb dX6_look_14 (by decide) (fun c6 => ?_) (fun c6 => ?_)
    · rw [if_neg c6] at hf
      refine lv_iload_n hx hb dX6_look_27 rfl (lv_at hl 2 rfl) ?_
      by_cases c7 : x2 = 0
      · rw [if_pos c7] at hf
        refine lv_tableIn (tgt := 72) (off := 44) hx hb dX6_look_28 (by rw [c7]; decide) (by rw [c7]; decide) (by rw [c7]; rfl) (by decide) ?_
        refine lv_aload_n hx hb dX6_look_72 rfl (lv_at hl 0 rfl) ?_
        refine g_get C E 0 2 (fun _ h => List.mem_cons_of_mem _ (List.mem_append_left _ (List.mem_append_left _ (List.mem_append_left _ (List.mem_append_left _ (List.mem_append_left _ (List.mem_append_right _ h))))))) rfl rfl (by decide) (List.mem_of_getElem? (i := 3) rfl) rfl rfl dX6_look_73 ?_
        refine lv_iload_n hx hb dX6_look_76 rfl (lv_at hl 1 rfl) ?_
        obtain ⟨o8, e9, hf⟩ := bd_some hf
        refine g_calll (w' := (cW a cI cJ cZ vl hs isz igd iup idn osz ogd oup odn dep rsz lgd llf ldb ldy lsz lti pgd plf pun psz bgd bam bwt bsh brm bsz cab cbl tod imp dis owe itr)) C E (g_runV (As := [.int x1]) (rest := []) C E (c_X2_stockOf e9) (cwV 1 hts gX6_look_X2_stockOf rfl rfl rfl ⟨rfl, hd_X2_stockOf⟩ ⟨Nat.le_of_ble_eq_true rfl, Nat.le_of_ble_eq_true rfl⟩) (q0 := 15) (ci := 2) rfl rfl rfl rfl hl.1 rfl (Nat.le_of_ble_eq_true rfl) dX6_look_77 ⟨Nat.le_of_ble_eq_true rfl, Nat.le_of_ble_eq_true rfl⟩) (fun H locs E => ?_)
        obtain rfl := Option.some.inj hf
        exact gx_lret C E (Nat.le_of_ble_eq_true rfl) (Nat.le_of_ble_eq_true rfl) dX6_look_80
      rw [if_neg c7] at hf
      by_cases c10 : x2 = 1
      · rw [if_pos c10] at hf
        refine lv_tableIn (tgt := 81) (off := 53) hx hb dX6_look_28 (by rw [c10]; decide) (by rw [c10]; decide) (by rw [c10]; rfl) (by decide) ?_
        refine lv_aload_n hx hb dX6_look_81 rfl (lv_at hl 0 rfl) ?_
        refine g_get C E 0 2 (fun _ h => List.mem_cons_of_mem _ (List.mem_append_left _ (List.mem_append_left _ (List.mem_append_left _ (List.mem_append_left _ (List.mem_append_left _ (List.mem_append_right _ h))))))) rfl rfl (by decide) (List.mem_of_getElem? (i := 3) rfl) rfl rfl dX6_look_82 ?_
        refine lv_iload_n hx hb dX6_look_85 rfl (lv_at hl 1 rfl) ?_
        obtain ⟨o11, e12, hf⟩ := bd_some hf
        refine g_calll (w' := (cW a cI cJ cZ vl hs isz igd iup idn osz ogd oup odn dep rsz lgd llf ldb ldy lsz lti pgd plf pun psz bgd bam bwt bsh brm bsz cab cbl tod imp dis owe itr)) C E (g_runV (As := [.int x1]) (rest := []) C E (c_X2_debtOf e12) (cwV 1 hts gX6_look_X2_debtOf rfl rfl rfl ⟨rfl, hd_X2_debtOf⟩ ⟨Nat.le_of_ble_eq_true rfl, Nat.le_of_ble_eq_true rfl⟩) (q0 := 15) (ci := 2) rfl rfl rfl rfl hl.1 rfl (Nat.le_of_ble_eq_true rfl) dX6_look_86 ⟨Nat.le_of_ble_eq_true rfl, Nat.le_of_ble_eq_true rfl⟩) (fun H locs E => ?_)
        obtain rfl := Option.some.inj hf
        exact gx_lret C E (Nat.le_of_ble_eq_true rfl) (Nat.le_of_ble_eq_true rfl) dX6_look_89
      rw [if_neg c10] at hf
      by_cases c13 : x2 = 2
      · rw [if_pos c13] at hf
        refine lv_tableIn (tgt := 90) (off := 62) hx hb dX6_look_28 (by rw [c13]; decide) (by rw [c13]; decide) (by rw [c13]; rfl) (by decide) ?_
        refine lv_aload_n hx hb dX6_look_90 rfl (lv_at hl 0 rfl) ?_
        refine g_get C E 0 2 (fun _ h => List.mem_cons_of_mem _ (List.mem_append_left _ (List.mem_append_left _ (List.mem_append_left _ (List.mem_append_left _ (List.mem_append_left _ (List.mem_append_right _ h))))))) rfl rfl (by decide) (List.mem_of_getElem? (i := 3) rfl) rfl rfl dX6_look_91 ?_
        refine lv_iload_n hx hb dX6_look_94 rfl (lv_at hl 1 rfl) ?_
        obtain ⟨o14, e15, hf⟩ := bd_some hf
        refine g_calli (w' := (cW a cI cJ cZ vl hs isz igd iup idn osz ogd oup odn dep rsz lgd llf ldb ldy lsz lti pgd plf pun psz bgd bam bwt bsh brm bsz cab cbl tod imp dis owe itr)) C E (g_runV (As := [.int x1]) (rest := []) C E (c_X2_openOf e15) (cwV 1 hts gX6_look_X2_openOf rfl rfl rfl ⟨rfl, hd_X2_openOf⟩ ⟨Nat.le_of_ble_eq_true rfl, Nat.le_of_ble_eq_true rfl⟩) (q0 := 15) (ci := 2) rfl rfl rfl rfl hl.1 rfl (Nat.le_of_ble_eq_true rfl) dX6_look_95 ⟨Nat.le_of_ble_eq_true rfl, Nat.le_of_ble_eq_true rfl⟩) (fun H locs E => ?_)
        refine lv_i2l hx hb dX6_look_98 rfl ?_
        obtain rfl := Option.some.inj hf
        exact gx_lret C E (Nat.le_of_ble_eq_true rfl) (Nat.le_of_ble_eq_true rfl) dX6_look_99
      rw [if_neg c13] at hf
      by_cases c16 : x2 = 3
      · rw [if_pos c16] at hf
        refine lv_tableIn (tgt := 100) (off := 72) hx hb dX6_look_28 (by rw [c16]; decide) (by rw [c16]; decide) (by rw [c16]; rfl) (by decide) ?_
        refine lv_aload_n hx hb dX6_look_100 rfl (lv_at hl 0 rfl) ?_
        refine g_get C E 0 1 (fun _ h => List.mem_cons_of_mem _ (List.mem_append_left _ (List.mem_append_left _ (List.mem_append_left _ (List.mem_append_left _ (List.mem_append_left _ (List.mem_append_right _ h))))))) rfl rfl (by decide) (List.mem_of_getElem? (i := 4) rfl) rfl rfl dX6_look_101 ?_
        refine g_get C E 2 0 (fun _ h => List.mem_cons_of_mem _ (List.mem_append_left _ (List.mem_append_left _ (List.mem_append_left _ (List.mem_append_left _ (List.mem_append_right _ h)))))) rfl rfl (by decide) (List.mem_of_getElem? (i := 5) rfl) rfl rfl dX6_look_104 ?_
        refine lv_iload_n hx hb dX6_look_107 rfl (lv_at hl 1 rfl) ?_
        obtain ⟨h17, hf⟩ := ck_some hf
        refine g_zald C E 3 rfl h17 dX6_look_108 ?_
        refine lv_if_eq (tgt := 128) hx hb dX6_look_109 (by decide) (fun c18 => ?_) (fun c18 => ?_)
        · rw [if_pos c18] at hf
          refine lv_ldc2 (v := -1) hx hb hown (hts (.constantLong RX6 159 (-1)) (List.mem_of_getElem? (i := 8) rfl)) dX6_look_128 ?_
          obtain rfl := Option.some.inj hf
          exact gx_lret C E (Nat.le_of_ble_eq_true rfl) (Nat.le_of_ble_eq_true rfl) dX6_look_131
        · rw [if_neg c18] at hf
          refine lv_aload_n hx hb dX6_look_112 rfl (lv_at hl 0 rfl) ?_
          refine g_get C E 0 1 (fun _ h => List.mem_cons_of_mem _ (List.mem_append_left _ (List.mem_append_left _ (List.mem_append_left _ (List.mem_append_left _ (List.mem_append_left _ (List.mem_append_right _ h))))))) rfl rfl (by decide) (List.mem_of_getElem? (i := 4) rfl) rfl rfl dX6_look_113 ?_
          refine g_get C E 2 1 (fun _ h => List.mem_cons_of_mem _ (List.mem_append_left _ (List.mem_append_left _ (List.mem_append_left _ (List.mem_append_left _ (List.mem_append_right _ h)))))) rfl rfl (by decide) (List.mem_of_getElem? (i := 6) rfl) rfl rfl dX6_look_116 ?_
          refine g_get C E 4 1 (fun _ h => List.mem_cons_of_mem _ (List.mem_append_left _ (List.mem_append_left _ (List.mem_append_left _ (List.mem_append_right _ h))))) rfl rfl (by decide) (List.mem_of_getElem? (i := 7) rfl) rfl rfl dX6_look_119 ?_
          refine lv_iload_n hx hb dX6_look_122 rfl (lv_at hl 1 rfl) ?_
          obtain ⟨h19, hf⟩ := ck_some hf
          refine g_iald C E 5 rfl h19 dX6_look_123 ?_
          refine lv_i2l hx hb dX6_look_124 rfl ?_
          refine lv_goto (tgt := 131) hx hb dX6_look_125 (by decide) ?_
          obtain rfl := Option.some.inj hf
          exact gx_lret C E (Nat.le_of_ble_eq_true rfl) (Nat.le_of_ble_eq_true rfl) dX6_look_131
      rw [if_neg c16] at hf
      by_cases c20 : x2 = 4
      · rw [if_pos c20] at hf
        refine lv_tableIn (tgt := 132) (off := 104) hx hb dX6_look_28 (by rw [c20]; decide) (by rw [c20]; decide) (by rw [c20]; rfl) (by decide) ?_
        refine lv_aload_n hx hb dX6_look_132 rfl (lv_at hl 0 rfl) ?_
        refine g_get C E 0 1 (fun _ h => List.mem_cons_of_mem _ (List.mem_append_left _ (List.mem_append_left _ (List.mem_append_left _ (List.mem_append_left _ (List.mem_append_left _ (List.mem_append_right _ h))))))) rfl rfl (by decide) (List.mem_of_getElem? (i := 4) rfl) rfl rfl dX6_look_133 ?_
        refine g_get C E 2 0 (fun _ h => List.mem_cons_of_mem _ (List.mem_append_left _ (List.mem_append_left _ (List.mem_append_left _ (List.mem_append_left _ (List.mem_append_right _ h)))))) rfl rfl (by decide) (List.mem_of_getElem? (i := 5) rfl) rfl rfl dX6_look_136 ?_
        refine lv_iload_n hx hb dX6_look_139 rfl (lv_at hl 1 rfl) ?_
        obtain ⟨h21, hf⟩ := ck_some hf
        refine g_zald C E 3 rfl h21 dX6_look_140 ?_
        refine lv_if_eq (tgt := 160) hx hb dX6_look_141 (by decide) (fun c22 => ?_) (fun c22 => ?_)
        · rw [if_pos c22] at hf
          refine lv_ldc2 (v := -1) hx hb hown (hts (.constantLong RX6 159 (-1)) (List.mem_of_getElem? (i := 8) rfl)) dX6_look_160 ?_
          obtain rfl := Option.some.inj hf
          exact gx_lret C E (Nat.le_of_ble_eq_true rfl) (Nat.le_of_ble_eq_true rfl) dX6_look_163
        · rw [if_neg c22] at hf
          refine lv_aload_n hx hb dX6_look_144 rfl (lv_at hl 0 rfl) ?_
          refine g_get C E 0 1 (fun _ h => List.mem_cons_of_mem _ (List.mem_append_left _ (List.mem_append_left _ (List.mem_append_left _ (List.mem_append_left _ (List.mem_append_left _ (List.mem_append_right _ h))))))) rfl rfl (by decide) (List.mem_of_getElem? (i := 4) rfl) rfl rfl dX6_look_145 ?_
          refine g_get C E 2 2 (fun _ h => List.mem_cons_of_mem _ (List.mem_append_left _ (List.mem_append_left _ (List.mem_append_left _ (List.mem_append_left _ (List.mem_append_right _ h)))))) rfl rfl (by decide) (List.mem_of_getElem? (i := 9) rfl) rfl rfl dX6_look_148 ?_
          refine g_get C E 9 1 (fun _ h => List.mem_cons_of_mem _ (List.mem_append_left _ (List.mem_append_left _ (List.mem_append_left _ (List.mem_append_right _ h))))) rfl rfl (by decide) (List.mem_of_getElem? (i := 7) rfl) rfl rfl dX6_look_151 ?_
          refine lv_iload_n hx hb dX6_look_154 rfl (lv_at hl 1 rfl) ?_
          obtain ⟨h23, hf⟩ := ck_some hf
          refine g_iald C E 10 rfl h23 dX6_look_155 ?_
          refine lv_i2l hx hb dX6_look_156 rfl ?_
          refine lv_goto (tgt := 163) hx hb dX6_look_157 (by decide) ?_
          obtain rfl := Option.some.inj hf
          exact gx_lret C E (Nat.le_of_ble_eq_true rfl) (Nat.le_of_ble_eq_true rfl) dX6_look_163
      rw [if_neg c20] at hf
      by_cases c24 : x2 = 5
      · rw [if_pos c24] at hf
        refine lv_tableIn (tgt := 164) (off := 136) hx hb dX6_look_28 (by rw [c24]; decide) (by rw [c24]; decide) (by rw [c24]; rfl) (by decide) ?_
        refine lv_aload_n hx hb dX6_look_164 rfl (lv_at hl 0 rfl) ?_
        refine g_get C E 0 1 (fun _ h => List.mem_cons_of_mem _ (List.mem_append_left _ (List.mem_append_left _ (List.mem_append_left _ (List.mem_append_left _ (List.mem_append_left _ (List.mem_append_right _ h))))))) rfl rfl (by decide) (List.mem_of_getElem? (i := 4) rfl) rfl rfl dX6_look_165 ?_
        refine g_get C E 2 3 (fun _ h => List.mem_cons_of_mem _ (List.mem_append_left _ (List.mem_append_left _ (List.mem_append_left _ (List.mem_append_left _ (List.mem_append_right _ h)))))) rfl rfl (by decide) (List.mem_of_getElem? (i := 10) rfl) rfl rfl dX6_look_168 ?_
        refine lv_iload_n hx hb dX6_look_171 rfl (lv_at hl 1 rfl) ?_
        obtain ⟨h25, hf⟩ := ck_some hf
        refine g_iald C E 14 rfl h25 dX6_look_172 ?_
        refine lv_i2l hx hb dX6_look_173 rfl ?_
        obtain rfl := Option.some.inj hf
        exact gx_lret C E (Nat.le_of_ble_eq_true rfl) (Nat.le_of_ble_eq_true rfl) dX6_look_174
      rw [if_neg c24] at hf
      by_cases c26 : x2 = 6
      · rw [if_pos c26] at hf
        refine lv_tableIn (tgt := 175) (off := 147) hx hb dX6_look_28 (by rw [c26]; decide) (by rw [c26]; decide) (by rw [c26]; rfl) (by decide) ?_
        refine lv_aload_n hx hb dX6_look_175 rfl (lv_at hl 0 rfl) ?_
        refine g_get C E 0 0 (fun _ h => List.mem_cons_of_mem _ (List.mem_append_left _ (List.mem_append_left _ (List.mem_append_left _ (List.mem_append_left _ (List.mem_append_left _ (List.mem_append_right _ h))))))) rfl rfl (by decide) (List.mem_of_getElem? (i := 11) rfl) rfl rfl dX6_look_176 ?_
        refine lv_iload_n hx hb dX6_look_179 rfl (lv_at hl 1 rfl) ?_
        obtain ⟨h27, hf⟩ := ck_some hf
        refine g_iald C E 1 rfl h27 dX6_look_180 ?_
        refine lv_i2l hx hb dX6_look_181 rfl ?_
        obtain rfl := Option.some.inj hf
        exact gx_lret C E (Nat.le_of_ble_eq_true rfl) (Nat.le_of_ble_eq_true rfl) dX6_look_182
      rw [if_neg c26] at hf
      refine lv_tableOut (tgt := 183) hx hb dX6_look_28 (by have := lv_neT (a := 0) c7 (by decide); have := lv_neT (a := 1) c10 (by decide); have := lv_neT (a := 2) c13 (by decide); have := lv_neT (a := 3) c16 (by decide); have := lv_neT (a := 4) c20 (by decide); have := lv_neT (a := 5) c24 (by decide); have := lv_neT (a := 6) c26 (by decide); omega) (by decide) ?_
      refine lv_aload_n hx hb dX6_look_183 rfl (lv_at hl 0 rfl) ?_
      refine g_get C E 0 3 (fun _ h => List.mem_cons_of_mem _ (List.mem_append_left _ (List.mem_append_left _ (List.mem_append_left _ (List.mem_append_left _ (List.mem_append_left _ (List.mem_append_right _ h))))))) rfl rfl (by decide) (List.mem_of_getElem? (i := 12) rfl) rfl rfl dX6_look_184 ?_
      refine lv_iload_n hx hb dX6_look_187 rfl (lv_at hl 1 rfl) ?_
      refine lv_aload_n hx hb dX6_look_188 rfl (lv_at hl 0 rfl) ?_
      refine g_get C E 0 6 (fun _ h => List.mem_cons_of_mem _ (List.mem_append_left _ (List.mem_append_left _ (List.mem_append_left _ (List.mem_append_left _ (List.mem_append_left _ (List.mem_append_right _ h))))))) rfl rfl (by decide) (List.mem_of_getElem? (i := 13) rfl) rfl rfl dX6_look_189 ?_
      obtain ⟨o28, e29, hf⟩ := bd_some hf
      refine g_calll (w' := (cW a cI cJ cZ vl hs isz igd iup idn osz ogd oup odn dep rsz lgd llf ldb ldy lsz lti pgd plf pun psz bgd bam bwt bsh brm bsz cab cbl tod imp dis owe itr)) C E (g_runV (As := [.int x1, .int tod]) (rest := []) C E (c_X4_openOf e29) (cwV 2 hts gX6_look_X4_openOf rfl rfl rfl ⟨rfl, hd_X4_openOf⟩ ⟨Nat.le_of_ble_eq_true rfl, Nat.le_of_ble_eq_true rfl⟩) (q0 := 20) (ci := 4) rfl rfl rfl rfl hl.1 rfl (Nat.le_of_ble_eq_true rfl) dX6_look_192 ⟨Nat.le_of_ble_eq_true rfl, Nat.le_of_ble_eq_true rfl⟩) (fun H locs E => ?_)
      obtain rfl := Option.some.inj hf
      exact gx_lret C E (Nat.le_of_ble_eq_true rfl) (Nat.le_of_ble_eq_true rfl) dX6_look_195
    · rw [if_pos c6] at hf
      obtain rfl := Option.some.inj hf
      exact gx_throw (En := "java/lang/IndexOutOfBoundsException") (text := "no such good or what") C hZ E rfl (by decide) (by decide +kernel) (List.mem_of_getElem? (i := 1) rfl) (List.mem_of_getElem? (i := 2) rfl) (List.mem_of_getElem? (i := 4) rfl) (fun _ h => List.mem_cons_of_mem _ (List.mem_append_right _ h)) nb_IOE gg_IOE hl.1 dX6_look_17 dX6_look_20 dX6_look_21 dX6_look_23 dX6_look_26 (Nat.le_of_ble_eq_true rfl) (Nat.le_of_ble_eq_true rfl) (Nat.le_of_ble_eq_true rfl) (Nat.le_of_ble_eq_true rfl) (Nat.le_of_ble_eq_true rfl) (Nat.le_of_ble_eq_true rfl)
