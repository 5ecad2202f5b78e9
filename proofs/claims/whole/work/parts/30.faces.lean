abbrev rm_X6_in : Room := { frames := 6, cells := 1, slots := 6, locals := 90 }
theorem hd_X6_in : yX6_in.cls ≠ "java/lang/invoke/MethodHandle" ∧ yX6_in.cls ≠ "java/lang/invoke/VarHandle" ∧ (parseMethodDescriptor yX6_in.desc).map (fun d => d.parameters.length) = some 3 := by decide +kernel
def f_X6_in (lgd : Nat → Int32) (llf : Nat → Int64) (ldb : Nat → Int64) (ldy : Nat → Int32) (lsz : Int32) (pgd : Nat → Int32) (plf : Nat → Int64) (pun : Nat → Int32) (psz : Int32) (tod : Int32) (imp : Int64) (dis : Int64) (x1 : Int32) (x2 : Int32) (x3 : Int32) : Option ((Int32 ⊕ String) × (Nat → Int32) × (Nat → Int64) × (Nat → Int64) × (Nat → Int32) × (Int32) × (Nat → Int64) × (Int64) × (Int64)) :=
  (f_X6_isGood x1).bind fun o1 =>
  if o1 = 0 then
    some ((Sum.inr "java/lang/IllegalArgumentException"), lgd, llf, ldb, ldy, lsz, plf, imp, dis)
  else
    (f_X6_isWithin x2 (1 : Int32) (10000 : Int32)).bind fun o4 =>
    if o4 = 0 then
      some ((Sum.inr "java/lang/IllegalArgumentException"), lgd, llf, ldb, ldy, lsz, plf, imp, dis)
    else
      (f_X6_isWithin x3 (0 : Int32) (1000000 : Int32)).bind fun o7 =>
      if o7 = 0 then
        some ((Sum.inr "java/lang/IllegalArgumentException"), lgd, llf, ldb, ldy, lsz, plf, imp, dis)
      else
        (f_X2_free lsz).bind fun o10 =>
        if (1 : Int32) ≤ o10 then
          (f_X2_add lgd llf ldb ldy lsz x1 x2.toInt64 x3.toInt64 tod).bind fun o13 =>
          (f_X4_meet o13.2.1 o13.2.2.1 o13.2.2.2.1 o13.2.2.2.2.2 pgd plf pun psz o13.1 tod).bind fun o15 =>
          some ((Sum.inl o13.1), o13.2.1, o15.2.1, o15.2.2.1, o13.2.2.2.2.1, o13.2.2.2.2.2, o15.2.2.2, (imp + x3.toInt64), (dis + o15.1))
        else
          some ((Sum.inr "java/lang/IllegalStateException"), lgd, llf, ldb, ldy, lsz, plf, imp, dis)
set_option maxHeartbeats 4000000 in
set_option maxRecDepth 100000 in
theorem c_X6_in {l : Launch} {D : va_G} {cI cJ cZ : ClassId} {a : Nat → Nat} {sz : Nat} {vl : Nat → Int32} {hs : Nat → Int32} {isz : Nat → Int32} {igd : Nat → Int32} {iup : Nat → Int32} {idn : Nat → Int32} {osz : Nat → Int32} {ogd : Nat → Int32} {oup : Nat → Int32} {odn : Nat → Int32} {dep : Nat → Int32} {rsz : Int32} {lgd : Nat → Int32} {llf : Nat → Int64} {ldb : Nat → Int64} {ldy : Nat → Int32} {lsz : Int32} {lti : Int64} {pgd : Nat → Int32} {plf : Nat → Int64} {pun : Nat → Int32} {psz : Int32} {bgd : Nat → Int32} {bam : Nat → Int64} {bwt : Nat → Int64} {bsh : Nat → Int64} {brm : Nat → Int64} {bsz : Int32} {cab : Nat → Int64} {cbl : Nat → Int64} {tod : Int32} {imp : Int64} {dis : Int64} {owe : Int64} {itr : Int64} {x1 : Int32} {x2 : Int32} {x3 : Int32} {o : (Int32 ⊕ String) × (Nat → Int32) × (Nat → Int64) × (Nat → Int64) × (Nat → Int32) × (Int32) × (Nat → Int64) × (Int64) × (Int64)} (hl0 : l.stackTraces = false) (hf : f_X6_in lgd llf ldb ldy lsz pgd plf pun psz tod imp dis x1 x2 x3 = some o) : gMXi l yX6_in wsX6_in rm_X6_in D (gT cI cJ cZ) (cW a cI cJ cZ vl hs isz igd iup idn osz ogd oup odn dep rsz lgd llf ldb ldy lsz lti pgd plf pun psz bgd bam bwt bsh brm bsz cab cbl tod imp dis owe itr) (cW a cI cJ cZ vl hs isz igd iup idn osz ogd oup odn dep rsz o.2.1 o.2.2.1 o.2.2.2.1 o.2.2.2.2.1 o.2.2.2.2.2.1 lti pgd o.2.2.2.2.2.2.1 pun psz bgd bam bwt bsh brm bsz cab cbl tod o.2.2.2.2.2.2.2.1 o.2.2.2.2.2.2.2.2 owe itr) sz [.ref (a 0), .int x1, .int x2, .int x3] o.1 := by
  refine gx_of hl0 (cc := cX6_in) (maxL := 5) (ret := (some .int)) (by decide) rfl (Nat.le_of_ble_eq_true rfl) ?_
  intro p e s m below meth c A ls hAe C hZ hl E
  rw [← hAe]
  obtain ⟨hx, hb, hr, hml, hown, hts, hlocks, hN, hA⟩ := id C
  have hl : lv_has ls 5 [(0, .ref (a 0)), (1, .int x1), (2, .int x2), (3, .int x3)] := hl
  have E : vE s A D (gT cI cJ cZ) (cW a cI cJ cZ vl hs isz igd iup idn osz ogd oup odn dep rsz lgd llf ldb ldy lsz lti pgd plf pun psz bgd bam bwt bsh brm bsz cab cbl tod imp dis owe itr) s.heap [] := E
  rw [f_X6_in] at hf
  refine lv_iload_n hx hb dX6_in_0 rfl (lv_at hl 1 rfl) ?_
  obtain ⟨o1, e2, hf⟩ := bd_some hf
  refine g_calli (w' := (cW a cI cJ cZ vl hs isz igd iup idn osz ogd oup odn dep rsz lgd llf ldb ldy lsz lti pgd plf pun psz bgd bam bwt bsh brm bsz cab cbl tod imp dis owe itr)) C E (g_runS (As := [.int x1]) (rest := []) C E (c_X6_isGood e2) (va_cwS 1 hts gX6_in_X6_isGood rfl rfl rfl hd_X6_isGood ⟨Nat.le_of_ble_eq_true rfl, Nat.le_of_ble_eq_true rfl⟩) rfl hl.1 rfl (Nat.le_of_ble_eq_true rfl) dX6_in_1 ⟨Nat.le_of_ble_eq_true rfl, Nat.le_of_ble_eq_true rfl⟩) (fun H locs E => ?_)
  refine lv_if_eq (tgt := 28) hx hb dX6_in_4 (by decide) (fun c3 => ?_) (fun c3 => ?_)
  · rw [if_pos c3] at hf
    obtain rfl := Option.some.inj hf
    exact gx_throw (En := "java/lang/IllegalArgumentException") (text := "no such good, amount or debt") C hZ E rfl (by decide) (by decide +kernel) (List.mem_of_getElem? (i := 1) rfl) (List.mem_of_getElem? (i := 2) rfl) (List.mem_of_getElem? (i := 10) rfl) (fun _ h => List.mem_cons_of_mem _ (List.mem_append_left _ (List.mem_append_right _ h))) nb_IAE gg_IAE hl.1 dX6_in_28 dX6_in_31 dX6_in_32 dX6_in_34 dX6_in_37 (Nat.le_of_ble_eq_true rfl) (Nat.le_of_ble_eq_true rfl) (Nat.le_of_ble_eq_true rfl) (Nat.le_of_ble_eq_true rfl) (Nat.le_of_ble_eq_true rfl) (Nat.le_of_ble_eq_true rfl)
  · rw [if_neg c3] at hf
    refine lv_iload_n hx hb dX6_in_7 rfl (lv_at hl 2 rfl) ?_
    refine lv_iconst (v := 1) hx hb dX6_in_8 (by decide) ?_
    refine lv_sipush (v := 10000) hx hb dX6_in_9 (by decide) ?_
    obtain ⟨o4, e5, hf⟩ := bd_some hf
    refine g_calli (w' := (cW a cI cJ cZ vl hs isz igd iup idn osz ogd oup odn dep rsz lgd llf ldb ldy lsz lti pgd plf pun psz bgd bam bwt bsh brm bsz cab cbl tod imp dis owe itr)) C E (g_runS (As := [.int x2, .int (1 : Int32), .int (10000 : Int32)]) (rest := []) C E (c_X6_isWithin e5) (va_cwS 3 hts gX6_in_X6_isWithin rfl rfl rfl hd_X6_isWithin ⟨Nat.le_of_ble_eq_true rfl, Nat.le_of_ble_eq_true rfl⟩) rfl hl.1 rfl (Nat.le_of_ble_eq_true rfl) dX6_in_12 ⟨Nat.le_of_ble_eq_true rfl, Nat.le_of_ble_eq_true rfl⟩) (fun H locs E => ?_)
    refine lv_if_eq (tgt := 28) hx hb dX6_in_15 (by decide) (fun c6 => ?_) (fun c6 => ?_)
    · rw [if_pos c6] at hf
      obtain rfl := Option.some.inj hf
      exact gx_throw (En := "java/lang/IllegalArgumentException") (text := "no such good, amount or debt") C hZ E rfl (by decide) (by decide +kernel) (List.mem_of_getElem? (i := 1) rfl) (List.mem_of_getElem? (i := 2) rfl) (List.mem_of_getElem? (i := 10) rfl) (fun _ h => List.mem_cons_of_mem _ (List.mem_append_left _ (List.mem_append_right _ h))) nb_IAE gg_IAE hl.1 dX6_in_28 dX6_in_31 dX6_in_32 dX6_in_34 dX6_in_37 (Nat.le_of_ble_eq_true rfl) (Nat.le_of_ble_eq_true rfl) (Nat.le_of_ble_eq_true rfl) (Nat.le_of_ble_eq_true rfl) (Nat.le_of_ble_eq_true rfl) (Nat.le_of_ble_eq_true rfl)
    · rw [if_neg c6] at hf
      refine lv_iload_n hx hb dX6_in_18 rfl (lv_at hl 3 rfl) ?_
      refine lv_iconst (v := 0) hx hb dX6_in_19 (by decide) ?_
      refine lv_ldc (v := 1000000) hx hb hown (hts (.constant RX6 75 (1000000)) (List.mem_of_getElem? (i := 5) rfl)) dX6_in_20 ?_
      obtain ⟨o7, e8, hf⟩ := bd_some hf
      refine g_calli (w' := (cW a cI cJ cZ vl hs isz igd iup idn osz ogd oup odn dep rsz lgd llf ldb ldy lsz lti pgd plf pun psz bgd bam bwt bsh brm bsz cab cbl tod imp dis owe itr)) C E (g_runS (As := [.int x3, .int (0 : Int32), .int (1000000 : Int32)]) (rest := []) C E (c_X6_isWithin e8) (va_cwS 3 hts gX6_in_X6_isWithin rfl rfl rfl hd_X6_isWithin ⟨Nat.le_of_ble_eq_true rfl, Nat.le_of_ble_eq_true rfl⟩) rfl hl.1 rfl (Nat.le_of_ble_eq_true rfl) dX6_in_22 ⟨Nat.le_of_ble_eq_true rfl, Nat.le_of_ble_eq_true rfl⟩) (fun H locs E => ?_)
      refine lv_if_ne (tgt := 38) hx hb dX6_in_25 (by decide) (fun c9 => ?_) (fun c9 => ?_)
      · rw [if_neg c9] at hf
        refine lv_aload_n hx hb dX6_in_38 rfl (lv_at hl 0 rfl) ?_
        refine g_get C E 0 2 (fun _ h => List.mem_cons_of_mem _ (List.mem_append_left _ (List.mem_append_left _ (List.mem_append_left _ (List.mem_append_left _ (List.mem_append_right _ h)))))) rfl rfl (by decide) (List.mem_of_getElem? (i := 6) rfl) rfl rfl dX6_in_39 ?_
        obtain ⟨o10, e11, hf⟩ := bd_some hf
        refine g_calli (w' := (cW a cI cJ cZ vl hs isz igd iup idn osz ogd oup odn dep rsz lgd llf ldb ldy lsz lti pgd plf pun psz bgd bam bwt bsh brm bsz cab cbl tod imp dis owe itr)) C E (g_runV (As := []) (rest := []) C E (c_X2_free e11) (cwV 0 hts gX6_in_X2_free rfl rfl rfl ⟨rfl, hd_X2_free⟩ ⟨Nat.le_of_ble_eq_true rfl, Nat.le_of_ble_eq_true rfl⟩) (q0 := 15) (ci := 2) rfl rfl rfl rfl hl.1 rfl (Nat.le_of_ble_eq_true rfl) dX6_in_42 ⟨Nat.le_of_ble_eq_true rfl, Nat.le_of_ble_eq_true rfl⟩) (fun H locs E => ?_)
        refine lv_iconst (v := 1) hx hb dX6_in_45 (by decide) ?_
        refine lv_icmp_ge (tgt := 59) hx hb dX6_in_46 (by decide) (fun c12 => ?_) (fun c12 => ?_)
        · rw [if_pos c12] at hf
          refine lv_aload_n hx hb dX6_in_59 rfl (lv_at hl 0 rfl) ?_
          refine g_get C E 0 2 (fun _ h => List.mem_cons_of_mem _ (List.mem_append_left _ (List.mem_append_left _ (List.mem_append_left _ (List.mem_append_left _ (List.mem_append_right _ h)))))) rfl rfl (by decide) (List.mem_of_getElem? (i := 6) rfl) rfl rfl dX6_in_60 ?_
          refine lv_iload_n hx hb dX6_in_63 rfl (lv_at hl 1 rfl) ?_
          refine lv_iload_n hx hb dX6_in_64 rfl (lv_at hl 2 rfl) ?_
          refine lv_i2l hx hb dX6_in_65 rfl ?_
          refine lv_iload_n hx hb dX6_in_66 rfl (lv_at hl 3 rfl) ?_
          refine lv_i2l hx hb dX6_in_67 rfl ?_
          refine lv_aload_n hx hb dX6_in_68 rfl (lv_at hl 0 rfl) ?_
          refine g_get C E 0 6 (fun _ h => List.mem_cons_of_mem _ (List.mem_append_left _ (List.mem_append_left _ (List.mem_append_left _ (List.mem_append_left _ (List.mem_append_right _ h)))))) rfl rfl (by decide) (List.mem_of_getElem? (i := 7) rfl) rfl rfl dX6_in_69 ?_
          obtain ⟨o13, e14, hf⟩ := bd_some hf
          refine g_calli (w' := (cW a cI cJ cZ vl hs isz igd iup idn osz ogd oup odn dep rsz o13.2.1 o13.2.2.1 o13.2.2.2.1 o13.2.2.2.2.1 o13.2.2.2.2.2 lti pgd plf pun psz bgd bam bwt bsh brm bsz cab cbl tod imp dis owe itr)) C E (g_runV (As := [.int x1, .long x2.toInt64, .long x3.toInt64, .int tod]) (rest := []) C E (c_X2_add e14) (cwV 4 hts gX6_in_X2_add rfl rfl rfl ⟨rfl, hd_X2_add⟩ ⟨Nat.le_of_ble_eq_true rfl, Nat.le_of_ble_eq_true rfl⟩) (q0 := 15) (ci := 2) rfl rfl rfl rfl hl.1 rfl (Nat.le_of_ble_eq_true rfl) dX6_in_72 ⟨Nat.le_of_ble_eq_true rfl, Nat.le_of_ble_eq_true rfl⟩) (fun H locs E => ?_)
          refine lv_istore (lv' := [(4, .int o13.1), (0, .ref (a 0)), (1, .int x1), (2, .int x2), (3, .int x3)]) hx hb dX6_in_75 hl (by decide) rfl (fun ls hl => ?_)
          refine lv_aload_n hx hb dX6_in_77 rfl (lv_at hl 1 rfl) ?_
          refine lv_dup hx hb dX6_in_78 rfl ?_
          refine g_get C E 0 7 (fun _ h => List.mem_cons_of_mem _ (List.mem_append_left _ (List.mem_append_left _ (List.mem_append_left _ (List.mem_append_left _ (List.mem_append_right _ h)))))) rfl rfl (by decide) (List.mem_of_getElem? (i := 8) rfl) rfl rfl dX6_in_79 ?_
          refine lv_iload_n hx hb dX6_in_82 rfl (lv_at hl 4 rfl) ?_
          refine lv_i2l hx hb dX6_in_83 rfl ?_
          refine lv_ladd hx hb dX6_in_84 ?_
          refine g_put (w' := (cW a cI cJ cZ vl hs isz igd iup idn osz ogd oup odn dep rsz o13.2.1 o13.2.2.1 o13.2.2.2.1 o13.2.2.2.2.1 o13.2.2.2.2.2 lti pgd plf pun psz bgd bam bwt bsh brm bsz cab cbl tod (imp + x3.toInt64) dis owe itr)) C E 0 7 tyX6 tyX6_ok nmX6 (fun _ h => List.mem_cons_of_mem _ (List.mem_append_left _ (List.mem_append_left _ (List.mem_append_left _ (List.mem_append_left _ (List.mem_append_right _ h)))))) rfl rfl (by decide) (List.mem_of_getElem? (i := 8) rfl) rfl rfl rfl rfl rfl (Nat.le_of_ble_eq_true rfl) dX6_in_85 rfl (fun H locs E => ?_)
          refine lv_aload_n hx hb dX6_in_88 rfl (lv_at hl 1 rfl) ?_
          refine lv_dup hx hb dX6_in_89 rfl ?_
          refine g_get C E 0 8 (fun _ h => List.mem_cons_of_mem _ (List.mem_append_left _ (List.mem_append_left _ (List.mem_append_left _ (List.mem_append_left _ (List.mem_append_right _ h)))))) rfl rfl (by decide) (List.mem_of_getElem? (i := 9) rfl) rfl rfl dX6_in_90 ?_
          refine lv_aload_n hx hb dX6_in_93 rfl (lv_at hl 1 rfl) ?_
          refine g_get C E 0 3 (fun _ h => List.mem_cons_of_mem _ (List.mem_append_left _ (List.mem_append_left _ (List.mem_append_left _ (List.mem_append_left _ (List.mem_append_right _ h)))))) rfl rfl (by decide) (List.mem_of_getElem? (i := 10) rfl) rfl rfl dX6_in_94 ?_
          refine lv_aload_n hx hb dX6_in_97 rfl (lv_at hl 1 rfl) ?_
          refine g_get C E 0 2 (fun _ h => List.mem_cons_of_mem _ (List.mem_append_left _ (List.mem_append_left _ (List.mem_append_left _ (List.mem_append_left _ (List.mem_append_right _ h)))))) rfl rfl (by decide) (List.mem_of_getElem? (i := 6) rfl) rfl rfl dX6_in_98 ?_
          refine lv_iload hx hb dX6_in_101 (lv_at hl 0 rfl) ?_
          refine lv_aload_n hx hb dX6_in_103 rfl (lv_at hl 1 rfl) ?_
          refine g_get C E 0 6 (fun _ h => List.mem_cons_of_mem _ (List.mem_append_left _ (List.mem_append_left _ (List.mem_append_left _ (List.mem_append_left _ (List.mem_append_right _ h)))))) rfl rfl (by decide) (List.mem_of_getElem? (i := 7) rfl) rfl rfl dX6_in_104 ?_
          obtain ⟨o15, e16, hf⟩ := bd_some hf
          refine g_calll (w' := (cW a cI cJ cZ vl hs isz igd iup idn osz ogd oup odn dep rsz o13.2.1 o15.2.1 o15.2.2.1 o13.2.2.2.2.1 o13.2.2.2.2.2 lti pgd o15.2.2.2 pun psz bgd bam bwt bsh brm bsz cab cbl tod (imp + x3.toInt64) dis owe itr)) C E (g_runV (As := [.ref (a 15), .int o13.1, .int tod]) (rest := [.long dis, .ref (a 0)]) C E (c_X4_meet e16) (cwV 3 hts gX6_in_X4_meet rfl rfl rfl ⟨rfl, hd_X4_meet⟩ ⟨Nat.le_of_ble_eq_true rfl, Nat.le_of_ble_eq_true rfl⟩) (q0 := 20) (ci := 4) rfl rfl rfl rfl hl.1 rfl (Nat.le_of_ble_eq_true rfl) dX6_in_107 ⟨Nat.le_of_ble_eq_true rfl, Nat.le_of_ble_eq_true rfl⟩) (fun H locs E => ?_)
          refine lv_ladd hx hb dX6_in_110 ?_
          refine g_put (w' := (cW a cI cJ cZ vl hs isz igd iup idn osz ogd oup odn dep rsz o13.2.1 o15.2.1 o15.2.2.1 o13.2.2.2.2.1 o13.2.2.2.2.2 lti pgd o15.2.2.2 pun psz bgd bam bwt bsh brm bsz cab cbl tod (imp + x3.toInt64) (dis + o15.1) owe itr)) C E 0 8 tyX6 tyX6_ok nmX6 (fun _ h => List.mem_cons_of_mem _ (List.mem_append_left _ (List.mem_append_left _ (List.mem_append_left _ (List.mem_append_left _ (List.mem_append_right _ h)))))) rfl rfl (by decide) (List.mem_of_getElem? (i := 9) rfl) rfl rfl rfl rfl rfl (Nat.le_of_ble_eq_true rfl) dX6_in_111 rfl (fun H locs E => ?_)
          refine lv_iload hx hb dX6_in_114 (lv_at hl 0 rfl) ?_
          obtain rfl := Option.some.inj hf
          exact gx_iret C E (Nat.le_of_ble_eq_true rfl) (Nat.le_of_ble_eq_true rfl) dX6_in_116
        · rw [if_neg c12] at hf
          obtain rfl := Option.some.inj hf
          exact gx_throw (En := "java/lang/IllegalStateException") (text := "no room for a lot") C hZ E rfl (by decide) (by decide +kernel) (List.mem_of_getElem? (i := 3) rfl) (List.mem_of_getElem? (i := 4) rfl) (List.mem_of_getElem? (i := 11) rfl) (fun _ h => List.mem_cons_of_mem _ (List.mem_append_right _ h)) nb_ISE gg_ISE hl.1 dX6_in_49 dX6_in_52 dX6_in_53 dX6_in_55 dX6_in_58 (Nat.le_of_ble_eq_true rfl) (Nat.le_of_ble_eq_true rfl) (Nat.le_of_ble_eq_true rfl) (Nat.le_of_ble_eq_true rfl) (Nat.le_of_ble_eq_true rfl) (Nat.le_of_ble_eq_true rfl)
      · rw [if_pos c9] at hf
        obtain rfl := Option.some.inj hf
        exact gx_throw (En := "java/lang/IllegalArgumentException") (text := "no such good, amount or debt") C hZ E rfl (by decide) (by decide +kernel) (List.mem_of_getElem? (i := 1) rfl) (List.mem_of_getElem? (i := 2) rfl) (List.mem_of_getElem? (i := 10) rfl) (fun _ h => List.mem_cons_of_mem _ (List.mem_append_left _ (List.mem_append_right _ h))) nb_IAE gg_IAE hl.1 dX6_in_28 dX6_in_31 dX6_in_32 dX6_in_34 dX6_in_37 (Nat.le_of_ble_eq_true rfl) (Nat.le_of_ble_eq_true rfl) (Nat.le_of_ble_eq_true rfl) (Nat.le_of_ble_eq_true rfl) (Nat.le_of_ble_eq_true rfl) (Nat.le_of_ble_eq_true rfl)
abbrev rm_X6_prior : Room := { frames := 6, cells := 1, slots := 6, locals := 90 }
theorem hd_X6_prior : yX6_prior.cls ≠ "java/lang/invoke/MethodHandle" ∧ yX6_prior.cls ≠ "java/lang/invoke/VarHandle" ∧ (parseMethodDescriptor yX6_prior.desc).map (fun d => d.parameters.length) = some 3 := by decide +kernel
def f_X6_prior (pgd : Nat → Int32) (plf : Nat → Int64) (pun : Nat → Int32) (psz : Int32) (x1 : Int32) (x2 : Int32) (x3 : Int32) : Option ((Int32 ⊕ String) × (Nat → Int32) × (Nat → Int64) × (Nat → Int32) × (Int32)) :=
  (f_X6_isGood x1).bind fun o1 =>
  if o1 = 0 then
    some ((Sum.inr "java/lang/IllegalArgumentException"), pgd, plf, pun, psz)
  else
    (f_X6_isWithin x2 (1 : Int32) (10000 : Int32)).bind fun o4 =>
    if o4 = 0 then
      some ((Sum.inr "java/lang/IllegalArgumentException"), pgd, plf, pun, psz)
    else
      (f_X6_isWithin x3 (0 : Int32) (100000 : Int32)).bind fun o7 =>
      if o7 = 0 then
        some ((Sum.inr "java/lang/IllegalArgumentException"), pgd, plf, pun, psz)
      else
        if psz < (40 : Int32) then
          (f_X4_add pgd plf pun psz x1 x2 x3).bind fun o11 =>
          some ((Sum.inl o11.2.2.2), o11.1, o11.2.1, o11.2.2.1, o11.2.2.2)
        else
          some ((Sum.inr "java/lang/IllegalStateException"), pgd, plf, pun, psz)
set_option maxHeartbeats 4000000 in
set_option maxRecDepth 100000 in
theorem c_X6_prior {l : Launch} {D : va_G} {cI cJ cZ : ClassId} {a : Nat → Nat} {sz : Nat} {vl : Nat → Int32} {hs : Nat → Int32} {isz : Nat → Int32} {igd : Nat → Int32} {iup : Nat → Int32} {idn : Nat → Int32} {osz : Nat → Int32} {ogd : Nat → Int32} {oup : Nat → Int32} {odn : Nat → Int32} {dep : Nat → Int32} {rsz : Int32} {lgd : Nat → Int32} {llf : Nat → Int64} {ldb : Nat → Int64} {ldy : Nat → Int32} {lsz : Int32} {lti : Int64} {pgd : Nat → Int32} {plf : Nat → Int64} {pun : Nat → Int32} {psz : Int32} {bgd : Nat → Int32} {bam : Nat → Int64} {bwt : Nat → Int64} {bsh : Nat → Int64} {brm : Nat → Int64} {bsz : Int32} {cab : Nat → Int64} {cbl : Nat → Int64} {tod : Int32} {imp : Int64} {dis : Int64} {owe : Int64} {itr : Int64} {x1 : Int32} {x2 : Int32} {x3 : Int32} {o : (Int32 ⊕ String) × (Nat → Int32) × (Nat → Int64) × (Nat → Int32) × (Int32)} (hl0 : l.stackTraces = false) (hf : f_X6_prior pgd plf pun psz x1 x2 x3 = some o) : gMXi l yX6_prior wsX6_prior rm_X6_prior D (gT cI cJ cZ) (cW a cI cJ cZ vl hs isz igd iup idn osz ogd oup odn dep rsz lgd llf ldb ldy lsz lti pgd plf pun psz bgd bam bwt bsh brm bsz cab cbl tod imp dis owe itr) (cW a cI cJ cZ vl hs isz igd iup idn osz ogd oup odn dep rsz lgd llf ldb ldy lsz lti o.2.1 o.2.2.1 o.2.2.2.1 o.2.2.2.2 bgd bam bwt bsh brm bsz cab cbl tod imp dis owe itr) sz [.ref (a 0), .int x1, .int x2, .int x3] o.1 := by
  refine gx_of hl0 (cc := cX6_prior) (maxL := 4) (ret := (some .int)) (by decide) rfl (Nat.le_of_ble_eq_true rfl) ?_
  intro p e s m below meth c A ls hAe C hZ hl E
  rw [← hAe]
  obtain ⟨hx, hb, hr, hml, hown, hts, hlocks, hN, hA⟩ := id C
  have hl : lv_has ls 4 [(0, .ref (a 0)), (1, .int x1), (2, .int x2), (3, .int x3)] := hl
  have E : vE s A D (gT cI cJ cZ) (cW a cI cJ cZ vl hs isz igd iup idn osz ogd oup odn dep rsz lgd llf ldb ldy lsz lti pgd plf pun psz bgd bam bwt bsh brm bsz cab cbl tod imp dis owe itr) s.heap [] := E
  rw [f_X6_prior] at hf
  refine lv_iload_n hx hb dX6_prior_0 rfl (lv_at hl 1 rfl) ?_
  obtain ⟨o1, e2, hf⟩ := bd_some hf
  refine g_calli (w' := (cW a cI cJ cZ vl hs isz igd iup idn osz ogd oup odn dep rsz lgd llf ldb ldy lsz lti pgd plf pun psz bgd bam bwt bsh brm bsz cab cbl tod imp dis owe itr)) C E (g_runS (As := [.int x1]) (rest := []) C E (c_X6_isGood e2) (va_cwS 1 hts gX6_prior_X6_isGood rfl rfl rfl hd_X6_isGood ⟨Nat.le_of_ble_eq_true rfl, Nat.le_of_ble_eq_true rfl⟩) rfl hl.1 rfl (Nat.le_of_ble_eq_true rfl) dX6_prior_1 ⟨Nat.le_of_ble_eq_true rfl, Nat.le_of_ble_eq_true rfl⟩) (fun H locs E => ?_)
  refine lv_if_eq (tgt := 28) hx hb dX6_prior_4 (by decide) (fun c3 => ?_) (fun c3 => ?_)
  · rw [if_pos c3] at hf
    obtain rfl := Option.some.inj hf
    exact gx_throw (En := "java/lang/IllegalArgumentException") (text := "no such good, amount or day") C hZ E rfl (by decide) (by decide +kernel) (List.mem_of_getElem? (i := 1) rfl) (List.mem_of_getElem? (i := 2) rfl) (List.mem_of_getElem? (i := 1) rfl) (fun _ h => List.mem_cons_of_mem _ (List.mem_append_left _ (List.mem_append_right _ h))) nb_IAE gg_IAE hl.1 dX6_prior_28 dX6_prior_31 dX6_prior_32 dX6_prior_34 dX6_prior_37 (Nat.le_of_ble_eq_true rfl) (Nat.le_of_ble_eq_true rfl) (Nat.le_of_ble_eq_true rfl) (Nat.le_of_ble_eq_true rfl) (Nat.le_of_ble_eq_true rfl) (Nat.le_of_ble_eq_true rfl)
  · rw [if_neg c3] at hf
    refine lv_iload_n hx hb dX6_prior_7 rfl (lv_at hl 2 rfl) ?_
    refine lv_iconst (v := 1) hx hb dX6_prior_8 (by decide) ?_
    refine lv_sipush (v := 10000) hx hb dX6_prior_9 (by decide) ?_
    obtain ⟨o4, e5, hf⟩ := bd_some hf
    refine g_calli (w' := (cW a cI cJ cZ vl hs isz igd iup idn osz ogd oup odn dep rsz lgd llf ldb ldy lsz lti pgd plf pun psz bgd bam bwt bsh brm bsz cab cbl tod imp dis owe itr)) C E (g_runS (As := [.int x2, .int (1 : Int32), .int (10000 : Int32)]) (rest := []) C E (c_X6_isWithin e5) (va_cwS 3 hts gX6_prior_X6_isWithin rfl rfl rfl hd_X6_isWithin ⟨Nat.le_of_ble_eq_true rfl, Nat.le_of_ble_eq_true rfl⟩) rfl hl.1 rfl (Nat.le_of_ble_eq_true rfl) dX6_prior_12 ⟨Nat.le_of_ble_eq_true rfl, Nat.le_of_ble_eq_true rfl⟩) (fun H locs E => ?_)
    refine lv_if_eq (tgt := 28) hx hb dX6_prior_15 (by decide) (fun c6 => ?_) (fun c6 => ?_)
    · rw [if_pos c6] at hf
      obtain rfl := Option.some.inj hf
      exact gx_throw (En := "java/lang/IllegalArgumentException") (text := "no such good, amount or day") C hZ E rfl (by decide) (by decide +kernel) (List.mem_of_getElem? (i := 1) rfl) (List.mem_of_getElem? (i := 2) rfl) (List.mem_of_getElem? (i := 1) rfl) (fun _ h => List.mem_cons_of_mem _ (List.mem_append_left _ (List.mem_append_right _ h))) nb_IAE gg_IAE hl.1 dX6_prior_28 dX6_prior_31 dX6_prior_32 dX6_prior_34 dX6_prior_37 (Nat.le_of_ble_eq_true rfl) (Nat.le_of_ble_eq_true rfl) (Nat.le_of_ble_eq_true rfl) (Nat.le_of_ble_eq_true rfl) (Nat.le_of_ble_eq_true rfl) (Nat.le_of_ble_eq_true rfl)
    · rw [if_neg c6] at hf
      refine lv_iload_n hx hb dX6_prior_18 rfl (lv_at hl 3 rfl) ?_
      refine lv_iconst (v := 0) hx hb dX6_prior_19 (by decide) ?_
      refine lv_ldc (v := 100000) hx hb hown (hts (.constant RX6 174 (100000)) (List.mem_of_getElem? (i := 5) rfl)) dX6_prior_20 ?_
      obtain ⟨o7, e8, hf⟩ := bd_some hf
      refine g_calli (w' := (cW a cI cJ cZ vl hs isz igd iup idn osz ogd oup odn dep rsz lgd llf ldb ldy lsz lti pgd plf pun psz bgd bam bwt bsh brm bsz cab cbl tod imp dis owe itr)) C E (g_runS (As := [.int x3, .int (0 : Int32), .int (100000 : Int32)]) (rest := []) C E (c_X6_isWithin e8) (va_cwS 3 hts gX6_prior_X6_isWithin rfl rfl rfl hd_X6_isWithin ⟨Nat.le_of_ble_eq_true rfl, Nat.le_of_ble_eq_true rfl⟩) rfl hl.1 rfl (Nat.le_of_ble_eq_true rfl) dX6_prior_22 ⟨Nat.le_of_ble_eq_true rfl, Nat.le_of_ble_eq_true rfl⟩) (fun H locs E => ?_)
      refine lv_if_ne (tgt := 38) hx hb dX6_prior_25 (by decide) (fun c9 => ?_) (fun c9 => ?_)
      · rw [if_neg c9] at hf
        refine lv_aload_n hx hb dX6_prior_38 rfl (lv_at hl 0 rfl) ?_
        refine g_get C E 0 3 (fun _ h => List.mem_cons_of_mem _ (List.mem_append_left _ (List.mem_append_left _ (List.mem_append_left _ (List.mem_append_right _ h))))) rfl rfl (by decide) (List.mem_of_getElem? (i := 6) rfl) rfl rfl dX6_prior_39 ?_
        refine g_get C E 20 3 (fun _ h => List.mem_cons_of_mem _ (List.mem_append_left _ (List.mem_append_left _ (List.mem_append_right _ h)))) rfl rfl (by decide) (List.mem_of_getElem? (i := 7) rfl) rfl rfl dX6_prior_42 ?_
        refine lv_bipush (v := 40) hx hb dX6_prior_45 (by decide) ?_
        refine lv_icmp_lt (tgt := 60) hx hb dX6_prior_47 (by decide) (fun c10 => ?_) (fun c10 => ?_)
        · rw [if_pos c10] at hf
          refine lv_aload_n hx hb dX6_prior_60 rfl (lv_at hl 0 rfl) ?_
          refine g_get C E 0 3 (fun _ h => List.mem_cons_of_mem _ (List.mem_append_left _ (List.mem_append_left _ (List.mem_append_left _ (List.mem_append_right _ h))))) rfl rfl (by decide) (List.mem_of_getElem? (i := 6) rfl) rfl rfl dX6_prior_61 ?_
          refine lv_iload_n hx hb dX6_prior_64 rfl (lv_at hl 1 rfl) ?_
          refine lv_iload_n hx hb dX6_prior_65 rfl (lv_at hl 2 rfl) ?_
          refine lv_iload_n hx hb dX6_prior_66 rfl (lv_at hl 3 rfl) ?_
          obtain ⟨o11, e12, hf⟩ := bd_some hf
          refine g_callv (w' := (cW a cI cJ cZ vl hs isz igd iup idn osz ogd oup odn dep rsz lgd llf ldb ldy lsz lti o11.1 o11.2.1 o11.2.2.1 o11.2.2.2 bgd bam bwt bsh brm bsz cab cbl tod imp dis owe itr)) C E (g_runV (As := [.int x1, .int x2, .int x3]) (rest := []) C E (c_X4_add e12) (cwV 3 hts gX6_prior_X4_add rfl rfl rfl ⟨rfl, hd_X4_add⟩ ⟨Nat.le_of_ble_eq_true rfl, Nat.le_of_ble_eq_true rfl⟩) (q0 := 20) (ci := 4) rfl rfl rfl rfl hl.1 rfl (Nat.le_of_ble_eq_true rfl) dX6_prior_67 ⟨Nat.le_of_ble_eq_true rfl, Nat.le_of_ble_eq_true rfl⟩) (fun H locs E => ?_)
          refine lv_aload_n hx hb dX6_prior_70 rfl (lv_at hl 0 rfl) ?_
          refine g_get C E 0 3 (fun _ h => List.mem_cons_of_mem _ (List.mem_append_left _ (List.mem_append_left _ (List.mem_append_left _ (List.mem_append_right _ h))))) rfl rfl (by decide) (List.mem_of_getElem? (i := 6) rfl) rfl rfl dX6_prior_71 ?_
          refine g_get C E 20 3 (fun _ h => List.mem_cons_of_mem _ (List.mem_append_left _ (List.mem_append_left _ (List.mem_append_right _ h)))) rfl rfl (by decide) (List.mem_of_getElem? (i := 7) rfl) rfl rfl dX6_prior_74 ?_
          obtain rfl := Option.some.inj hf
          exact gx_iret C E (Nat.le_of_ble_eq_true rfl) (Nat.le_of_ble_eq_true rfl) dX6_prior_77
        · rw [if_neg c10] at hf
          obtain rfl := Option.some.inj hf
          exact gx_throw (En := "java/lang/IllegalStateException") (text := "no room for a prior export") C hZ E rfl (by decide) (by decide +kernel) (List.mem_of_getElem? (i := 3) rfl) (List.mem_of_getElem? (i := 4) rfl) (List.mem_of_getElem? (i := 2) rfl) (fun _ h => List.mem_cons_of_mem _ (List.mem_append_right _ h)) nb_ISE gg_ISE hl.1 dX6_prior_50 dX6_prior_53 dX6_prior_54 dX6_prior_56 dX6_prior_59 (Nat.le_of_ble_eq_true rfl) (Nat.le_of_ble_eq_true rfl) (Nat.le_of_ble_eq_true rfl) (Nat.le_of_ble_eq_true rfl) (Nat.le_of_ble_eq_true rfl) (Nat.le_of_ble_eq_true rfl)
      · rw [if_pos c9] at hf
        obtain rfl := Option.some.inj hf
        exact gx_throw (En := "java/lang/IllegalArgumentException") (text := "no such good, amount or day") C hZ E rfl (by decide) (by decide +kernel) (List.mem_of_getElem? (i := 1) rfl) (List.mem_of_getElem? (i := 2) rfl) (List.mem_of_getElem? (i := 1) rfl) (fun _ h => List.mem_cons_of_mem _ (List.mem_append_left _ (List.mem_append_right _ h))) nb_IAE gg_IAE hl.1 dX6_prior_28 dX6_prior_31 dX6_prior_32 dX6_prior_34 dX6_prior_37 (Nat.le_of_ble_eq_true rfl) (Nat.le_of_ble_eq_true rfl) (Nat.le_of_ble_eq_true rfl) (Nat.le_of_ble_eq_true rfl) (Nat.le_of_ble_eq_true rfl) (Nat.le_of_ble_eq_true rfl)
abbrev rm_X6_chain : Room := { frames := 6, cells := 1, slots := 6, locals := 139 }
theorem hd_X6_chain : yX6_chain.cls ≠ "java/lang/invoke/MethodHandle" ∧ yX6_chain.cls ≠ "java/lang/invoke/VarHandle" ∧ (parseMethodDescriptor yX6_chain.desc).map (fun d => d.parameters.length) = some 3 := by decide +kernel
def f_X6_chain (isz : Nat → Int32) (igd : Nat → Int32) (iup : Nat → Int32) (idn : Nat → Int32) (dep : Nat → Int32) (cab : Nat → Int64) (cbl : Nat → Int64) (x1 : Int32) (x2 : Int32) (x3 : Int32) : Option ((Int64 ⊕ String) × (Nat → Int64) × (Nat → Int64)) :=
  (f_X6_isGood x1).bind fun o1 =>
  if o1 = 0 then
    some ((Sum.inr "java/lang/IllegalArgumentException"), cab, cbl)
  else
    (f_X6_isGood x2).bind fun o4 =>
    if o4 = 0 then
      some ((Sum.inr "java/lang/IllegalArgumentException"), cab, cbl)
    else
      (f_X6_isWithin x3 (0 : Int32) (1 : Int32)).bind fun o7 =>
      if o7 = 0 then
        some ((Sum.inr "java/lang/IllegalArgumentException"), cab, cbl)
      else
        (f_X1_trace isz igd iup idn dep cab cbl x2).bind fun o10 =>
        if x3 = 0 then
          ck x1 12 <|
          some ((Sum.inl (o10.1 x1.toNatClampNeg)), o10.1, o10.2)
        else
          ck x1 12 <|
          some ((Sum.inl (o10.2 x1.toNatClampNeg)), o10.1, o10.2)
set_option maxHeartbeats 4000000 in
set_option maxRecDepth 100000 in
theorem c_X6_chain {l : Launch} {D : va_G} {cI cJ cZ : ClassId} {a : Nat → Nat} {sz : Nat} {vl : Nat → Int32} {hs : Nat → Int32} {isz : Nat → Int32} {igd : Nat → Int32} {iup : Nat → Int32} {idn : Nat → Int32} {osz : Nat → Int32} {ogd : Nat → Int32} {oup : Nat → Int32} {odn : Nat → Int32} {dep : Nat → Int32} {rsz : Int32} {lgd : Nat → Int32} {llf : Nat → Int64} {ldb : Nat → Int64} {ldy : Nat → Int32} {lsz : Int32} {lti : Int64} {pgd : Nat → Int32} {plf : Nat → Int64} {pun : Nat → Int32} {psz : Int32} {bgd : Nat → Int32} {bam : Nat → Int64} {bwt : Nat → Int64} {bsh : Nat → Int64} {brm : Nat → Int64} {bsz : Int32} {cab : Nat → Int64} {cbl : Nat → Int64} {tod : Int32} {imp : Int64} {dis : Int64} {owe : Int64} {itr : Int64} {x1 : Int32} {x2 : Int32} {x3 : Int32} {o : (Int64 ⊕ String) × (Nat → Int64) × (Nat → Int64)} (hl0 : l.stackTraces = false) (hf : f_X6_chain isz igd iup idn dep cab cbl x1 x2 x3 = some o) : gMXl l yX6_chain wsX6_chain rm_X6_chain D (gT cI cJ cZ) (cW a cI cJ cZ vl hs isz igd iup idn osz ogd oup odn dep rsz lgd llf ldb ldy lsz lti pgd plf pun psz bgd bam bwt bsh brm bsz cab cbl tod imp dis owe itr) (cW a cI cJ cZ vl hs isz igd iup idn osz ogd oup odn dep rsz lgd llf ldb ldy lsz lti pgd plf pun psz bgd bam bwt bsh brm bsz o.2.1 o.2.2 tod imp dis owe itr) sz [.ref (a 0), .int x1, .int x2, .int x3] o.1 := by
  refine gx_of hl0 (cc := cX6_chain) (maxL := 4) (ret := (some .long)) (by decide) rfl (Nat.le_of_ble_eq_true rfl) ?_
  intro p e s m below meth c A ls hAe C hZ hl E
  rw [← hAe]
  obtain ⟨hx, hb, hr, hml, hown, hts, hlocks, hN, hA⟩ := id C
  have hl : lv_has ls 4 [(0, .ref (a 0)), (1, .int x1), (2, .int x2), (3, .int x3)] := hl
  have E : vE s A D (gT cI cJ cZ) (cW a cI cJ cZ vl hs isz igd iup idn osz ogd oup odn dep rsz lgd llf ldb ldy lsz lti pgd plf pun psz bgd bam bwt bsh brm bsz cab cbl tod imp dis owe itr) s.heap [] := E
  rw [f_X6_chain] at hf
  refine lv_iload_n hx hb dX6_chain_0 rfl (lv_at hl 1 rfl) ?_
  obtain ⟨o1, e2, hf⟩ := bd_some hf
  refine g_calli (w' := (cW a cI cJ cZ vl hs isz igd iup idn osz ogd oup odn dep rsz lgd llf ldb ldy lsz lti pgd plf pun psz bgd bam bwt bsh brm bsz cab cbl tod imp dis owe itr)) C E (g_runS (As := [.int x1]) (rest := []) C E (c_X6_isGood e2) (va_cwS 1 hts gX6_chain_X6_isGood rfl rfl rfl hd_X6_isGood ⟨Nat.le_of_ble_eq_true rfl, Nat.le_of_ble_eq_true rfl⟩) rfl hl.1 rfl (Nat.le_of_ble_eq_true rfl) dX6_chain_1 ⟨Nat.le_of_ble_eq_true rfl, Nat.le_of_ble_eq_true rfl⟩) (fun H locs E => ?_)
  refine lv_if_eq (tgt := 23) hx hb dX6_chain_4 (by decide) (fun c3 => ?_) (fun c3 => ?_)
  · rw [if_pos c3] at hf
    obtain rfl := Option.some.inj hf
    exact gx_throw (En := "java/lang/IllegalArgumentException") (text := "no such goods or side") C hZ E rfl (by decide) (by decide +kernel) (List.mem_of_getElem? (i := 1) rfl) (List.mem_of_getElem? (i := 2) rfl) (List.mem_of_getElem? (i := 3) rfl) (fun _ h => List.mem_cons_of_mem _ (List.mem_append_right _ h)) nb_IAE gg_IAE hl.1 dX6_chain_23 dX6_chain_26 dX6_chain_27 dX6_chain_29 dX6_chain_32 (Nat.le_of_ble_eq_true rfl) (Nat.le_of_ble_eq_true rfl) (Nat.le_of_ble_eq_true rfl) (Nat.le_of_ble_eq_true rfl) (Nat.le_of_ble_eq_true rfl) (Nat.le_of_ble_eq_true rfl)
  · rw [if_neg c3] at hf
    refine lv_iload_n hx hb dX6_chain_7 rfl (lv_at hl 2 rfl) ?_
    obtain ⟨o4, e5, hf⟩ := bd_some hf
    refine g_calli (w' := (cW a cI cJ cZ vl hs isz igd iup idn osz ogd oup odn dep rsz lgd llf ldb ldy lsz lti pgd plf pun psz bgd bam bwt bsh brm bsz cab cbl tod imp dis owe itr)) C E (g_runS (As := [.int x2]) (rest := []) C E (c_X6_isGood e5) (va_cwS 1 hts gX6_chain_X6_isGood rfl rfl rfl hd_X6_isGood ⟨Nat.le_of_ble_eq_true rfl, Nat.le_of_ble_eq_true rfl⟩) rfl hl.1 rfl (Nat.le_of_ble_eq_true rfl) dX6_chain_8 ⟨Nat.le_of_ble_eq_true rfl, Nat.le_of_ble_eq_true rfl⟩) (fun H locs E => ?_)
    refine lv_if_eq (tgt := 23) hx hb dX6_chain_11 (by decide) (fun c6 => ?_) (fun c6 => ?_)
    · rw [if_pos c6] at hf
      obtain rfl := Option.some.inj hf
      exact gx_throw (En := "java/lang/IllegalArgumentException") (text := "no such goods or side") C hZ E rfl (by decide) (by decide +kernel) (List.mem_of_getElem? (i := 1) rfl) (List.mem_of_getElem? (i := 2) rfl) (List.mem_of_getElem? (i := 3) rfl) (fun _ h => List.mem_cons_of_mem _ (List.mem_append_right _ h)) nb_IAE gg_IAE hl.1 dX6_chain_23 dX6_chain_26 dX6_chain_27 dX6_chain_29 dX6_chain_32 (Nat.le_of_ble_eq_true rfl) (Nat.le_of_ble_eq_true rfl) (Nat.le_of_ble_eq_true rfl) (Nat.le_of_ble_eq_true rfl) (Nat.le_of_ble_eq_true rfl) (Nat.le_of_ble_eq_true rfl)
    · rw [if_neg c6] at hf
      refine lv_iload_n hx hb dX6_chain_14 rfl (lv_at hl 3 rfl) ?_
      refine lv_iconst (v := 0) hx hb dX6_chain_15 (by decide) ?_
      refine lv_iconst (v := 1) hx hb dX6_chain_16 (by decide) ?_
      obtain ⟨o7, e8, hf⟩ := bd_some hf
      refine g_calli (w' := (cW a cI cJ cZ vl hs isz igd iup idn osz ogd oup odn dep rsz lgd llf ldb ldy lsz lti pgd plf pun psz bgd bam bwt bsh brm bsz cab cbl tod imp dis owe itr)) C E (g_runS (As := [.int x3, .int (0 : Int32), .int (1 : Int32)]) (rest := []) C E (c_X6_isWithin e8) (va_cwS 3 hts gX6_chain_X6_isWithin rfl rfl rfl hd_X6_isWithin ⟨Nat.le_of_ble_eq_true rfl, Nat.le_of_ble_eq_true rfl⟩) rfl hl.1 rfl (Nat.le_of_ble_eq_true rfl) dX6_chain_17 ⟨Nat.le_of_ble_eq_true rfl, Nat.le_of_ble_eq_true rfl⟩) (fun H locs E => ?_)
      refine lv_if_ne (tgt := 33) hx hb dX6_chain_20 (by decide) (fun c9 => ?_) (fun c9 => ?_)
      · rw [if_neg c9] at hf
        refine lv_aload_n hx hb dX6_chain_33 rfl (lv_at hl 0 rfl) ?_
        refine g_get C E 0 5 (fun _ h => List.mem_cons_of_mem _ (List.mem_append_left _ (List.mem_append_left _ (List.mem_append_left _ (List.mem_append_left _ (List.mem_append_right _ h)))))) rfl rfl (by decide) (List.mem_of_getElem? (i := 3) rfl) rfl rfl dX6_chain_34 ?_
        refine lv_aload_n hx hb dX6_chain_37 rfl (lv_at hl 0 rfl) ?_
        refine g_get C E 0 1 (fun _ h => List.mem_cons_of_mem _ (List.mem_append_left _ (List.mem_append_left _ (List.mem_append_left _ (List.mem_append_left _ (List.mem_append_right _ h)))))) rfl rfl (by decide) (List.mem_of_getElem? (i := 4) rfl) rfl rfl dX6_chain_38 ?_
        refine lv_iload_n hx hb dX6_chain_41 rfl (lv_at hl 2 rfl) ?_
        obtain ⟨o10, e11, hf⟩ := bd_some hf
        refine g_callv (w' := (cW a cI cJ cZ vl hs isz igd iup idn osz ogd oup odn dep rsz lgd llf ldb ldy lsz lti pgd plf pun psz bgd bam bwt bsh brm bsz o10.1 o10.2 tod imp dis owe itr)) C E (g_runV (As := [.ref (a 2), .int x2]) (rest := []) C E (c_X1_trace e11) (cwV 2 hts gX6_chain_X1_trace rfl rfl rfl ⟨rfl, hd_X1_trace⟩ ⟨Nat.le_of_ble_eq_true rfl, Nat.le_of_ble_eq_true rfl⟩) (q0 := 30) (ci := 1) rfl rfl rfl rfl hl.1 rfl (Nat.le_of_ble_eq_true rfl) dX6_chain_42 ⟨Nat.le_of_ble_eq_true rfl, Nat.le_of_ble_eq_true rfl⟩) (fun H locs E => ?_)
        refine lv_iload_n hx hb dX6_chain_45 rfl (lv_at hl 3 rfl) ?_
        refine lv_if_ne (tgt := 61) hx hb dX6_chain_46 (by decide) (fun c12 => ?_) (fun c12 => ?_)
        · rw [if_neg c12] at hf
          refine lv_aload_n hx hb dX6_chain_61 rfl (lv_at hl 0 rfl) ?_
          refine g_get C E 0 5 (fun _ h => List.mem_cons_of_mem _ (List.mem_append_left _ (List.mem_append_left _ (List.mem_append_left _ (List.mem_append_left _ (List.mem_append_right _ h)))))) rfl rfl (by decide) (List.mem_of_getElem? (i := 3) rfl) rfl rfl dX6_chain_62 ?_
          refine g_get C E 30 1 (fun _ h => List.mem_cons_of_mem _ (List.mem_append_left _ (List.mem_append_left _ (List.mem_append_left _ (List.mem_append_right _ h))))) rfl rfl (by decide) (List.mem_of_getElem? (i := 6) rfl) rfl rfl dX6_chain_65 ?_
          refine lv_iload_n hx hb dX6_chain_68 rfl (lv_at hl 1 rfl) ?_
          obtain ⟨h13, hf⟩ := ck_some hf
          refine g_lald C E 32 rfl h13 dX6_chain_69 ?_
          obtain rfl := Option.some.inj hf
          exact gx_lret C E (Nat.le_of_ble_eq_true rfl) (Nat.le_of_ble_eq_true rfl) dX6_chain_70
        · rw [if_pos c12] at hf
          refine lv_aload_n hx hb dX6_chain_49 rfl (lv_at hl 0 rfl) ?_
          refine g_get C E 0 5 (fun _ h => List.mem_cons_of_mem _ (List.mem_append_left _ (List.mem_append_left _ (List.mem_append_left _ (List.mem_append_left _ (List.mem_append_right _ h)))))) rfl rfl (by decide) (List.mem_of_getElem? (i := 3) rfl) rfl rfl dX6_chain_50 ?_
          refine g_get C E 30 0 (fun _ h => List.mem_cons_of_mem _ (List.mem_append_left _ (List.mem_append_left _ (List.mem_append_left _ (List.mem_append_right _ h))))) rfl rfl (by decide) (List.mem_of_getElem? (i := 5) rfl) rfl rfl dX6_chain_53 ?_
          refine lv_iload_n hx hb dX6_chain_56 rfl (lv_at hl 1 rfl) ?_
          obtain ⟨h14, hf⟩ := ck_some hf
          refine g_lald C E 31 rfl h14 dX6_chain_57 ?_
          refine lv_goto (tgt := 70) hx hb dX6_chain_58 (by decide) ?_
          obtain rfl := Option.some.inj hf
          exact gx_lret C E (Nat.le_of_ble_eq_true rfl) (Nat.le_of_ble_eq_true rfl) dX6_chain_70
      · rw [if_pos c9] at hf
        obtain rfl := Option.some.inj hf
        exact gx_throw (En := "java/lang/IllegalArgumentException") (text := "no such goods or side") C hZ E rfl (by decide) (by decide +kernel) (List.mem_of_getElem? (i := 1) rfl) (List.mem_of_getElem? (i := 2) rfl) (List.mem_of_getElem? (i := 3) rfl) (fun _ h => List.mem_cons_of_mem _ (List.mem_append_right _ h)) nb_IAE gg_IAE hl.1 dX6_chain_23 dX6_chain_26 dX6_chain_27 dX6_chain_29 dX6_chain_32 (Nat.le_of_ble_eq_true rfl) (Nat.le_of_ble_eq_true rfl) (Nat.le_of_ble_eq_true rfl) (Nat.le_of_ble_eq_true rfl) (Nat.le_of_ble_eq_true rfl) (Nat.le_of_ble_eq_true rfl)
abbrev rm_X6_lot : Room := { frames := 6, cells := 1, slots := 6, locals := 90 }
theorem hd_X6_lot : yX6_lot.cls ≠ "java/lang/invoke/MethodHandle" ∧ yX6_lot.cls ≠ "java/lang/invoke/VarHandle" ∧ (parseMethodDescriptor yX6_lot.desc).map (fun d => d.parameters.length) = some 2 := by decide +kernel
def f_X6_lot (lgd : Nat → Int32) (llf : Nat → Int64) (ldb : Nat → Int64) (ldy : Nat → Int32) (lsz : Int32) (x1 : Int32) (x2 : Int32) : Option ((Int64 ⊕ String)) :=
  (f_X6_isWithin x1 (0 : Int32) (lsz - (1 : Int32))).bind fun o1 =>
  if o1 = 0 then
    some ((Sum.inr "java/lang/IndexOutOfBoundsException"))
  else
    (f_X6_isWithin x2 (0 : Int32) (3 : Int32)).bind fun o4 =>
    if o4 = 0 then
      some ((Sum.inr "java/lang/IndexOutOfBoundsException"))
    else
      if x2 = 0 then
        ck x1 200 <|
        some ((Sum.inl ((lgd x1.toNatClampNeg).toInt64)))
      else
      if x2 = 1 then
        ck x1 200 <|
        some ((Sum.inl (llf x1.toNatClampNeg)))
      else
      if x2 = 2 then
        ck x1 200 <|
        some ((Sum.inl (ldb x1.toNatClampNeg)))
      else
      ck x1 200 <|
      some ((Sum.inl ((ldy x1.toNatClampNeg).toInt64)))
set_option maxHeartbeats 4000000 in
set_option maxRecDepth 100000 in
theorem c_X6_lot {l : Launch} {D : va_G} {cI cJ cZ : ClassId} {a : Nat → Nat} {sz : Nat} {vl : Nat → Int32} {hs : Nat → Int32} {isz : Nat → Int32} {igd : Nat → Int32} {iup : Nat → Int32} {idn : Nat → Int32} {osz : Nat → Int32} {ogd : Nat → Int32} {oup : Nat → Int32} {odn : Nat → Int32} {dep : Nat → Int32} {rsz : Int32} {lgd : Nat → Int32} {llf : Nat → Int64} {ldb : Nat → Int64} {ldy : Nat → Int32} {lsz : Int32} {lti : Int64} {pgd : Nat → Int32} {plf : Nat → Int64} {pun : Nat → Int32} {psz : Int32} {bgd : Nat → Int32} {bam : Nat → Int64} {bwt : Nat → Int64} {bsh : Nat → Int64} {brm : Nat → Int64} {bsz : Int32} {cab : Nat → Int64} {cbl : Nat → Int64} {tod : Int32} {imp : Int64} {dis : Int64} {owe : Int64} {itr : Int64} {x1 : Int32} {x2 : Int32} {o : (Int64 ⊕ String)} (hl0 : l.stackTraces = false) (hf : f_X6_lot lgd llf ldb ldy lsz x1 x2 = some o) : gMXl l yX6_lot wsX6_lot rm_X6_lot D (gT cI cJ cZ) (cW a cI cJ cZ vl hs isz igd iup idn osz ogd oup odn dep rsz lgd llf ldb ldy lsz lti pgd plf pun psz bgd bam bwt bsh brm bsz cab cbl tod imp dis owe itr) (cW a cI cJ cZ vl hs isz igd iup idn osz ogd oup odn dep rsz lgd llf ldb ldy lsz lti pgd plf pun psz bgd bam bwt bsh brm bsz cab cbl tod imp dis owe itr) sz [.ref (a 0), .int x1, .int x2] o := by
  refine gx_of hl0 (cc := cX6_lot) (maxL := 3) (ret := (some .long)) (by decide) rfl (Nat.le_of_ble_eq_true rfl) ?_
  intro p e s m below meth c A ls hAe C hZ hl E
  rw [← hAe]
  obtain ⟨hx, hb, hr, hml, hown, hts, hlocks, hN, hA⟩ := id C
  have hl : lv_has ls 3 [(0, .ref (a 0)), (1, .int x1), (2, .int x2)] := hl
  have E : vE s A D (gT cI cJ cZ) (cW a cI cJ cZ vl hs isz igd iup idn osz ogd oup odn dep rsz lgd llf ldb ldy lsz lti pgd plf pun psz bgd bam bwt bsh brm bsz cab cbl tod imp dis owe itr) s.heap [] := E
  rw [f_X6_lot] at hf
  refine lv_iload_n hx hb dX6_lot_0 rfl (lv_at hl 1 rfl) ?_
  refine lv_iconst (v := 0) hx hb dX6_lot_1 (by decide) ?_
  refine lv_aload_n hx hb dX6_lot_2 rfl (lv_at hl 0 rfl) ?_
  refine g_get C E 0 2 (fun _ h => List.mem_cons_of_mem _ (List.mem_append_left _ (List.mem_append_left _ (List.mem_append_right _ h)))) rfl rfl (by decide) (List.mem_of_getElem? (i := 3) rfl) rfl rfl dX6_lot_3 ?_
  refine g_get C E 15 4 (fun _ h => List.mem_cons_of_mem _ (List.mem_append_left _ (List.mem_append_right _ h))) rfl rfl (by decide) (List.mem_of_getElem? (i := 4) rfl) rfl rfl dX6_lot_6 ?_
  refine lv_iconst (v := 1) hx hb dX6_lot_9 (by decide) ?_
  refine lv_isub hx hb dX6_lot_10 ?_
  obtain ⟨o1, e2, hf⟩ := bd_some hf
  refine g_calli (w' := (cW a cI cJ cZ vl hs isz igd iup idn osz ogd oup odn dep rsz lgd llf ldb ldy lsz lti pgd plf pun psz bgd bam bwt bsh brm bsz cab cbl tod imp dis owe itr)) C E (g_runS (As := [.int x1, .int (0 : Int32), .int (lsz - (1 : Int32))]) (rest := []) C E (c_X6_isWithin e2) (va_cwS 3 hts gX6_lot_X6_isWithin rfl rfl rfl hd_X6_isWithin ⟨Nat.le_of_ble_eq_true rfl, Nat.le_of_ble_eq_true rfl⟩) rfl hl.1 rfl (Nat.le_of_ble_eq_true rfl) dX6_lot_11 ⟨Nat.le_of_ble_eq_true rfl, Nat.le_of_ble_eq_true rfl⟩) (fun H locs E => ?_)
  refine lv_if_eq (tgt := 26) hx hb dX6_lot_14 (by decide) (fun c3 => ?_) (fun c3 => ?_)
  · rw [if_pos c3] at hf
    obtain rfl := Option.some.inj hf
    exact gx_throw (En := "java/lang/IndexOutOfBoundsException") (text := "no such lot or what") C hZ E rfl (by decide) (by decide +kernel) (List.mem_of_getElem? (i := 1) rfl) (List.mem_of_getElem? (i := 2) rfl) (List.mem_of_getElem? (i := 5) rfl) (fun _ h => List.mem_cons_of_mem _ (List.mem_append_right _ h)) nb_IOE gg_IOE hl.1 dX6_lot_26 dX6_lot_29 dX6_lot_30 dX6_lot_32 dX6_lot_35 (Nat.le_of_ble_eq_true rfl) (Nat.le_of_ble_eq_true rfl) (Nat.le_of_ble_eq_true rfl) (Nat.le_of_ble_eq_true rfl) (Nat.le_of_ble_eq_true rfl) (Nat.le_of_ble_eq_true rfl)
  · rw [if_neg c3] at hf
    refine lv_iload_n hx hb dX6_lot_17 rfl (lv_at hl 2 rfl) ?_
    refine lv_iconst (v := 0) hx hb dX6_lot_18 (by decide) ?_
    refine lv_iconst (v := 3) hx hb dX6_lot_19 (by decide) ?_
    obtain ⟨o4, e5, hf⟩ := bd_some hf
    refine g_calli (w' := (cW a cI cJ cZ vl hs isz igd iup idn osz ogd oup odn dep rsz lgd llf ldb ldy lsz lti pgd plf pun psz bgd bam bwt bsh brm bsz cab cbl tod imp dis owe itr)) C E (g_runS (As := [.int x2, .int (0 : Int32), .int (3 : Int32)]) (rest := []) C E (c_X6_isWithin e5) (va_cwS 3 hts gX6_lot_X6_isWithin rfl rfl rfl hd_X6_isWithin ⟨Nat.le_of_ble_eq_true rfl, Nat.le_of_ble_eq_true rfl⟩) rfl hl.1 rfl (Nat.le_of_ble_eq_true rfl) dX6_lot_20 ⟨Nat.le_of_ble_eq_true rfl, Nat.le_of_ble_eq_true rfl⟩) (fun H locs E => ?_)
    refine lv_if_ne (tgt := 36) hx hb dX6_lot_23 (by decide) (fun c6 => ?_) (fun c6 => ?_)
    · rw [if_neg c6] at hf
      refine lv_iload_n hx hb dX6_lot_36 rfl (lv_at hl 2 rfl) ?_
      by_cases c7 : x2 = 0
      · rw [if_pos c7] at hf
        refine lv_tableIn (tgt := 64) (off := 27) hx hb dX6_lot_37 (by rw [c7]; decide) (by rw [c7]; decide) (by rw [c7]; rfl) (by decide) ?_
        refine lv_aload_n hx hb dX6_lot_64 rfl (lv_at hl 0 rfl) ?_
        refine g_get C E 0 2 (fun _ h => List.mem_cons_of_mem _ (List.mem_append_left _ (List.mem_append_left _ (List.mem_append_right _ h)))) rfl rfl (by decide) (List.mem_of_getElem? (i := 3) rfl) rfl rfl dX6_lot_65 ?_
        refine g_get C E 15 0 (fun _ h => List.mem_cons_of_mem _ (List.mem_append_left _ (List.mem_append_right _ h))) rfl rfl (by decide) (List.mem_of_getElem? (i := 5) rfl) rfl rfl dX6_lot_68 ?_
        refine lv_iload_n hx hb dX6_lot_71 rfl (lv_at hl 1 rfl) ?_
        obtain ⟨h8, hf⟩ := ck_some hf
        refine g_iald C E 16 rfl h8 dX6_lot_72 ?_
        refine lv_i2l hx hb dX6_lot_73 rfl ?_
        obtain rfl := Option.some.inj hf
        exact gx_lret C E (Nat.le_of_ble_eq_true rfl) (Nat.le_of_ble_eq_true rfl) dX6_lot_74
      rw [if_neg c7] at hf
      by_cases c9 : x2 = 1
      · rw [if_pos c9] at hf
        refine lv_tableIn (tgt := 75) (off := 38) hx hb dX6_lot_37 (by rw [c9]; decide) (by rw [c9]; decide) (by rw [c9]; rfl) (by decide) ?_
        refine lv_aload_n hx hb dX6_lot_75 rfl (lv_at hl 0 rfl) ?_
        refine g_get C E 0 2 (fun _ h => List.mem_cons_of_mem _ (List.mem_append_left _ (List.mem_append_left _ (List.mem_append_right _ h)))) rfl rfl (by decide) (List.mem_of_getElem? (i := 3) rfl) rfl rfl dX6_lot_76 ?_
        refine g_get C E 15 1 (fun _ h => List.mem_cons_of_mem _ (List.mem_append_left _ (List.mem_append_right _ h))) rfl rfl (by decide) (List.mem_of_getElem? (i := 6) rfl) rfl rfl dX6_lot_79 ?_
        refine lv_iload_n hx hb dX6_lot_82 rfl (lv_at hl 1 rfl) ?_
        obtain ⟨h10, hf⟩ := ck_some hf
        refine g_lald C E 17 rfl h10 dX6_lot_83 ?_
        obtain rfl := Option.some.inj hf
        exact gx_lret C E (Nat.le_of_ble_eq_true rfl) (Nat.le_of_ble_eq_true rfl) dX6_lot_84
      rw [if_neg c9] at hf
      by_cases c11 : x2 = 2
      · rw [if_pos c11] at hf
        refine lv_tableIn (tgt := 85) (off := 48) hx hb dX6_lot_37 (by rw [c11]; decide) (by rw [c11]; decide) (by rw [c11]; rfl) (by decide) ?_
        refine lv_aload_n hx hb dX6_lot_85 rfl (lv_at hl 0 rfl) ?_
        refine g_get C E 0 2 (fun _ h => List.mem_cons_of_mem _ (List.mem_append_left _ (List.mem_append_left _ (List.mem_append_right _ h)))) rfl rfl (by decide) (List.mem_of_getElem? (i := 3) rfl) rfl rfl dX6_lot_86 ?_
        refine g_get C E 15 2 (fun _ h => List.mem_cons_of_mem _ (List.mem_append_left _ (List.mem_append_right _ h))) rfl rfl (by decide) (List.mem_of_getElem? (i := 7) rfl) rfl rfl dX6_lot_89 ?_
        refine lv_iload_n hx hb dX6_lot_92 rfl (lv_at hl 1 rfl) ?_
        obtain ⟨h12, hf⟩ := ck_some hf
        refine g_lald C E 18 rfl h12 dX6_lot_93 ?_
        obtain rfl := Option.some.inj hf
        exact gx_lret C E (Nat.le_of_ble_eq_true rfl) (Nat.le_of_ble_eq_true rfl) dX6_lot_94
      rw [if_neg c11] at hf
      refine lv_tableOut (tgt := 95) hx hb dX6_lot_37 (by have := lv_neT (a := 0) c7 (by decide); have := lv_neT (a := 1) c9 (by decide); have := lv_neT (a := 2) c11 (by decide); omega) (by decide) ?_
      refine lv_aload_n hx hb dX6_lot_95 rfl (lv_at hl 0 rfl) ?_
      refine g_get C E 0 2 (fun _ h => List.mem_cons_of_mem _ (List.mem_append_left _ (List.mem_append_left _ (List.mem_append_right _ h)))) rfl rfl (by decide) (List.mem_of_getElem? (i := 3) rfl) rfl rfl dX6_lot_96 ?_
      refine g_get C E 15 3 (fun _ h => List.mem_cons_of_mem _ (List.mem_append_left _ (List.mem_append_right _ h))) rfl rfl (by decide) (List.mem_of_getElem? (i := 8) rfl) rfl rfl dX6_lot_99 ?_
      refine lv_iload_n hx hb dX6_lot_102 rfl (lv_at hl 1 rfl) ?_
      obtain ⟨h13, hf⟩ := ck_some hf
      refine g_iald C E 19 rfl h13 dX6_lot_103 ?_
      refine lv_i2l hx hb dX6_lot_104 rfl ?_
      obtain rfl := Option.some.inj hf
      exact gx_lret C E (Nat.le_of_ble_eq_true rfl) (Nat.le_of_ble_eq_true rfl) dX6_lot_105
    · rw [if_pos c6] at hf
      obtain rfl := Option.some.inj hf
      exact gx_throw (En := "java/lang/IndexOutOfBoundsException") (text := "no such lot or what") C hZ E rfl (by decide) (by decide +kernel) (List.mem_of_getElem? (i := 1) rfl) (List.mem_of_getElem? (i := 2) rfl) (List.mem_of_getElem? (i := 5) rfl) (fun _ h => List.mem_cons_of_mem _ (List.mem_append_right _ h)) nb_IOE gg_IOE hl.1 dX6_lot_26 dX6_lot_29 dX6_lot_30 dX6_lot_32 dX6_lot_35 (Nat.le_of_ble_eq_true rfl) (Nat.le_of_ble_eq_true rfl) (Nat.le_of_ble_eq_true rfl) (Nat.le_of_ble_eq_true rfl) (Nat.le_of_ble_eq_true rfl) (Nat.le_of_ble_eq_true rfl)
