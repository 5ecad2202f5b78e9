abbrev rm_X1_addFraction : Room := { frames := 2, cells := 0, slots := 0, locals := 53 }
theorem hd_X1_addFraction : yX1_addFraction.cls ≠ "java/lang/invoke/MethodHandle" ∧ yX1_addFraction.cls ≠ "java/lang/invoke/VarHandle" ∧ (parseMethodDescriptor yX1_addFraction.desc).map (fun d => d.parameters.length) = some 3 := by decide +kernel
def f_X1_addFraction (cab : Nat → Int64) (cbl : Nat → Int64) (x1 : Int32) (x2 : Int64) (x4 : Int64) : Option ((Nat → Int64) × (Nat → Int64)) :=
  (f_X6_greatestDivisor x2 x4).bind fun o1 =>
  (f_X6_floorOf x2 o1).bind fun o3 =>
  (f_X6_floorOf x4 o1).bind fun o5 =>
  ck x1 12 <|
  ck x1 12 <|
  (f_X6_greatestDivisor (cbl x1.toNatClampNeg) o5).bind fun o9 =>
  (f_X6_floorOf (cbl x1.toNatClampNeg) o9).bind fun o11 =>
  ck x1 12 <|
  ck x1 12 <|
  (f_X6_floorOf (o11 * o5) (cbl x1.toNatClampNeg)).bind fun o15 =>
  (f_X6_floorOf (o11 * o5) o5).bind fun o17 =>
  (f_X6_greatestDivisor (((cab x1.toNatClampNeg) * o15) + (o3 * o17)) (o11 * o5)).bind fun o19 =>
  (f_X6_floorOf (((cab x1.toNatClampNeg) * o15) + (o3 * o17)) o19).bind fun o21 =>
  ck x1 12 <|
  (f_X6_floorOf (o11 * o5) o19).bind fun o24 =>
  ck x1 12 <|
  some ((vp_updL cab x1.toNatClampNeg o21), (vp_updL cbl x1.toNatClampNeg o24))
set_option maxHeartbeats 4000000 in
set_option maxRecDepth 100000 in
theorem c_X1_addFraction {l : Launch} {D : va_G} {cI cJ cZ : ClassId} {a : Nat → Nat} {sz : Nat} {vl : Nat → Int32} {hs : Nat → Int32} {isz : Nat → Int32} {igd : Nat → Int32} {iup : Nat → Int32} {idn : Nat → Int32} {osz : Nat → Int32} {ogd : Nat → Int32} {oup : Nat → Int32} {odn : Nat → Int32} {dep : Nat → Int32} {rsz : Int32} {lgd : Nat → Int32} {llf : Nat → Int64} {ldb : Nat → Int64} {ldy : Nat → Int32} {lsz : Int32} {lti : Int64} {pgd : Nat → Int32} {plf : Nat → Int64} {pun : Nat → Int32} {psz : Int32} {bgd : Nat → Int32} {bam : Nat → Int64} {bwt : Nat → Int64} {bsh : Nat → Int64} {brm : Nat → Int64} {bsz : Int32} {cab : Nat → Int64} {cbl : Nat → Int64} {tod : Int32} {imp : Int64} {dis : Int64} {owe : Int64} {itr : Int64} {x1 : Int32} {x2 : Int64} {x4 : Int64} {o : (Nat → Int64) × (Nat → Int64)} (hf : f_X1_addFraction cab cbl x1 x2 x4 = some o) : gMv l yX1_addFraction wsX1_addFraction rm_X1_addFraction D (gT cI cJ cZ) (cW a cI cJ cZ vl hs isz igd iup idn osz ogd oup odn dep rsz lgd llf ldb ldy lsz lti pgd plf pun psz bgd bam bwt bsh brm bsz cab cbl tod imp dis owe itr) (cW a cI cJ cZ vl hs isz igd iup idn osz ogd oup odn dep rsz lgd llf ldb ldy lsz lti pgd plf pun psz bgd bam bwt bsh brm bsz o.1 o.2 tod imp dis owe itr) sz [.ref (a 30), .int x1, .long x2, .long x4] := by
  refine g_of (cc := cX1_addFraction) (maxL := 18) (ret := none) (by decide) rfl (Nat.le_of_ble_eq_true rfl) ?_
  intro p e s m below meth c A ls hAe C hl E
  rw [← hAe]
  obtain ⟨hx, hb, hr, hml, hown, hts, hlocks, hN, hA⟩ := id C
  have hl : lv_has ls 18 [(0, .ref (a 30)), (1, .int x1), (2, .long x2), (4, .long x4)] := hl
  have E : vE s A D (gT cI cJ cZ) (cW a cI cJ cZ vl hs isz igd iup idn osz ogd oup odn dep rsz lgd llf ldb ldy lsz lti pgd plf pun psz bgd bam bwt bsh brm bsz cab cbl tod imp dis owe itr) s.heap [] := E
  rw [f_X1_addFraction] at hf
  refine lv_lload_n hx hb dX1_addFraction_0 rfl (lv_at hl 2 rfl) ?_
  refine lv_lload hx hb dX1_addFraction_1 (lv_at hl 3 rfl) ?_
  obtain ⟨o1, e2, hf⟩ := bd_some hf
  refine g_calll (w' := (cW a cI cJ cZ vl hs isz igd iup idn osz ogd oup odn dep rsz lgd llf ldb ldy lsz lti pgd plf pun psz bgd bam bwt bsh brm bsz cab cbl tod imp dis owe itr)) C E (g_runSN (As := [.long x2, .long x4]) (rest := []) C E (c_X6_greatestDivisor e2) ⟨va_cnB 2 hts gX1_addFraction_X6_greatestDivisor_n54 rfl rfl rfl (hN.1 _ (List.mem_of_getElem? (i := 6) rfl)) (hts (.initialized RX6) (List.mem_of_getElem? (i := 4) rfl)) hd_X6_greatestDivisor ⟨Nat.le_of_ble_eq_true rfl, Nat.le_of_ble_eq_true rfl⟩, hts (.static yX6_greatestDivisor) (List.mem_of_getElem? (i := 3) rfl), trivial⟩ rfl hl.1 rfl (Nat.le_of_ble_eq_true rfl) dX1_addFraction_3 ⟨Nat.le_of_ble_eq_true rfl, Nat.le_of_ble_eq_true rfl⟩) (fun H locs E => ?_)
  refine lv_lstore (lv' := [(6, .long o1), (0, .ref (a 30)), (1, .int x1), (2, .long x2), (4, .long x4)]) hx hb dX1_addFraction_6 hl (by decide) rfl (fun ls hl => ?_)
  refine lv_lload_n hx hb dX1_addFraction_8 rfl (lv_at hl 3 rfl) ?_
  refine lv_lload hx hb dX1_addFraction_9 (lv_at hl 0 rfl) ?_
  obtain ⟨o3, e4, hf⟩ := bd_some hf
  refine g_calll (w' := (cW a cI cJ cZ vl hs isz igd iup idn osz ogd oup odn dep rsz lgd llf ldb ldy lsz lti pgd plf pun psz bgd bam bwt bsh brm bsz cab cbl tod imp dis owe itr)) C E (g_runSN (As := [.long x2, .long o1]) (rest := []) C E (c_X6_floorOf e4) ⟨va_cnB 2 hts gX1_addFraction_X6_floorOf_n58 rfl rfl rfl (hN.1 _ (List.mem_of_getElem? (i := 7) rfl)) (hts (.initialized RX6) (List.mem_of_getElem? (i := 4) rfl)) hd_X6_floorOf ⟨Nat.le_of_ble_eq_true rfl, Nat.le_of_ble_eq_true rfl⟩, hts (.static yX6_floorOf) (List.mem_of_getElem? (i := 7) rfl), trivial⟩ rfl hl.1 rfl (Nat.le_of_ble_eq_true rfl) dX1_addFraction_11 ⟨Nat.le_of_ble_eq_true rfl, Nat.le_of_ble_eq_true rfl⟩) (fun H locs E => ?_)
  refine lv_lstore (lv' := [(8, .long o3), (6, .long o1), (0, .ref (a 30)), (1, .int x1), (2, .long x2), (4, .long x4)]) hx hb dX1_addFraction_14 hl (by decide) rfl (fun ls hl => ?_)
  refine lv_lload hx hb dX1_addFraction_16 (lv_at hl 5 rfl) ?_
  refine lv_lload hx hb dX1_addFraction_18 (lv_at hl 1 rfl) ?_
  obtain ⟨o5, e6, hf⟩ := bd_some hf
  refine g_calll (w' := (cW a cI cJ cZ vl hs isz igd iup idn osz ogd oup odn dep rsz lgd llf ldb ldy lsz lti pgd plf pun psz bgd bam bwt bsh brm bsz cab cbl tod imp dis owe itr)) C E (g_runSN (As := [.long x4, .long o1]) (rest := []) C E (c_X6_floorOf e6) ⟨va_cnB 2 hts gX1_addFraction_X6_floorOf_n58 rfl rfl rfl (hN.1 _ (List.mem_of_getElem? (i := 7) rfl)) (hts (.initialized RX6) (List.mem_of_getElem? (i := 4) rfl)) hd_X6_floorOf ⟨Nat.le_of_ble_eq_true rfl, Nat.le_of_ble_eq_true rfl⟩, hts (.static yX6_floorOf) (List.mem_of_getElem? (i := 7) rfl), trivial⟩ rfl hl.1 rfl (Nat.le_of_ble_eq_true rfl) dX1_addFraction_20 ⟨Nat.le_of_ble_eq_true rfl, Nat.le_of_ble_eq_true rfl⟩) (fun H locs E => ?_)
  refine lv_lstore (lv' := [(10, .long o5), (8, .long o3), (6, .long o1), (0, .ref (a 30)), (1, .int x1), (2, .long x2), (4, .long x4)]) hx hb dX1_addFraction_23 hl (by decide) rfl (fun ls hl => ?_)
  refine lv_aload_n hx hb dX1_addFraction_25 rfl (lv_at hl 3 rfl) ?_
  refine g_get C E 30 1 (fun _ h => List.mem_cons_of_mem _ (List.mem_append_right _ h)) rfl rfl (by decide) (List.mem_of_getElem? (i := 1) rfl) rfl rfl dX1_addFraction_26 ?_
  refine lv_iload_n hx hb dX1_addFraction_29 rfl (lv_at hl 4 rfl) ?_
  obtain ⟨h7, hf⟩ := ck_some hf
  refine g_lald C E 32 rfl h7 dX1_addFraction_30 ?_
  refine lv_aload_n hx hb dX1_addFraction_31 rfl (lv_at hl 3 rfl) ?_
  refine g_get C E 30 1 (fun _ h => List.mem_cons_of_mem _ (List.mem_append_right _ h)) rfl rfl (by decide) (List.mem_of_getElem? (i := 1) rfl) rfl rfl dX1_addFraction_32 ?_
  refine lv_iload_n hx hb dX1_addFraction_35 rfl (lv_at hl 4 rfl) ?_
  obtain ⟨h8, hf⟩ := ck_some hf
  refine g_lald C E 32 rfl h8 dX1_addFraction_36 ?_
  refine lv_lload hx hb dX1_addFraction_37 (lv_at hl 0 rfl) ?_
  obtain ⟨o9, e10, hf⟩ := bd_some hf
  refine g_calll (w' := (cW a cI cJ cZ vl hs isz igd iup idn osz ogd oup odn dep rsz lgd llf ldb ldy lsz lti pgd plf pun psz bgd bam bwt bsh brm bsz cab cbl tod imp dis owe itr)) C E (g_runSN (As := [.long (cbl x1.toNatClampNeg), .long o5]) (rest := [.long (cbl x1.toNatClampNeg)]) C E (c_X6_greatestDivisor e10) ⟨va_cnB 2 hts gX1_addFraction_X6_greatestDivisor_n54 rfl rfl rfl (hN.1 _ (List.mem_of_getElem? (i := 6) rfl)) (hts (.initialized RX6) (List.mem_of_getElem? (i := 4) rfl)) hd_X6_greatestDivisor ⟨Nat.le_of_ble_eq_true rfl, Nat.le_of_ble_eq_true rfl⟩, hts (.static yX6_greatestDivisor) (List.mem_of_getElem? (i := 3) rfl), trivial⟩ rfl hl.1 rfl (Nat.le_of_ble_eq_true rfl) dX1_addFraction_39 ⟨Nat.le_of_ble_eq_true rfl, Nat.le_of_ble_eq_true rfl⟩) (fun H locs E => ?_)
  obtain ⟨o11, e12, hf⟩ := bd_some hf
  refine g_calll (w' := (cW a cI cJ cZ vl hs isz igd iup idn osz ogd oup odn dep rsz lgd llf ldb ldy lsz lti pgd plf pun psz bgd bam bwt bsh brm bsz cab cbl tod imp dis owe itr)) C E (g_runSN (As := [.long (cbl x1.toNatClampNeg), .long o9]) (rest := []) C E (c_X6_floorOf e12) ⟨va_cnB 2 hts gX1_addFraction_X6_floorOf_n58 rfl rfl rfl (hN.1 _ (List.mem_of_getElem? (i := 7) rfl)) (hts (.initialized RX6) (List.mem_of_getElem? (i := 4) rfl)) hd_X6_floorOf ⟨Nat.le_of_ble_eq_true rfl, Nat.le_of_ble_eq_true rfl⟩, hts (.static yX6_floorOf) (List.mem_of_getElem? (i := 7) rfl), trivial⟩ rfl hl.1 rfl (Nat.le_of_ble_eq_true rfl) dX1_addFraction_42 ⟨Nat.le_of_ble_eq_true rfl, Nat.le_of_ble_eq_true rfl⟩) (fun H locs E => ?_)
  refine lv_lload hx hb dX1_addFraction_45 (lv_at hl 0 rfl) ?_
  refine lv_lmul hx hb dX1_addFraction_47 ?_
  refine lv_lstore (lv' := [(12, .long (o11 * o5)), (10, .long o5), (8, .long o3), (6, .long o1), (0, .ref (a 30)), (1, .int x1), (2, .long x2), (4, .long x4)]) hx hb dX1_addFraction_48 hl (by decide) rfl (fun ls hl => ?_)
  refine lv_aload_n hx hb dX1_addFraction_50 rfl (lv_at hl 4 rfl) ?_
  refine g_get C E 30 0 (fun _ h => List.mem_cons_of_mem _ (List.mem_append_right _ h)) rfl rfl (by decide) (List.mem_of_getElem? (i := 2) rfl) rfl rfl dX1_addFraction_51 ?_
  refine lv_iload_n hx hb dX1_addFraction_54 rfl (lv_at hl 5 rfl) ?_
  obtain ⟨h13, hf⟩ := ck_some hf
  refine g_lald C E 31 rfl h13 dX1_addFraction_55 ?_
  refine lv_lload hx hb dX1_addFraction_56 (lv_at hl 0 rfl) ?_
  refine lv_aload_n hx hb dX1_addFraction_58 rfl (lv_at hl 4 rfl) ?_
  refine g_get C E 30 1 (fun _ h => List.mem_cons_of_mem _ (List.mem_append_right _ h)) rfl rfl (by decide) (List.mem_of_getElem? (i := 1) rfl) rfl rfl dX1_addFraction_59 ?_
  refine lv_iload_n hx hb dX1_addFraction_62 rfl (lv_at hl 5 rfl) ?_
  obtain ⟨h14, hf⟩ := ck_some hf
  refine g_lald C E 32 rfl h14 dX1_addFraction_63 ?_
  obtain ⟨o15, e16, hf⟩ := bd_some hf
  refine g_calll (w' := (cW a cI cJ cZ vl hs isz igd iup idn osz ogd oup odn dep rsz lgd llf ldb ldy lsz lti pgd plf pun psz bgd bam bwt bsh brm bsz cab cbl tod imp dis owe itr)) C E (g_runSN (As := [.long (o11 * o5), .long (cbl x1.toNatClampNeg)]) (rest := [.long (cab x1.toNatClampNeg)]) C E (c_X6_floorOf e16) ⟨va_cnB 2 hts gX1_addFraction_X6_floorOf_n58 rfl rfl rfl (hN.1 _ (List.mem_of_getElem? (i := 7) rfl)) (hts (.initialized RX6) (List.mem_of_getElem? (i := 4) rfl)) hd_X6_floorOf ⟨Nat.le_of_ble_eq_true rfl, Nat.le_of_ble_eq_true rfl⟩, hts (.static yX6_floorOf) (List.mem_of_getElem? (i := 7) rfl), trivial⟩ rfl hl.1 rfl (Nat.le_of_ble_eq_true rfl) dX1_addFraction_64 ⟨Nat.le_of_ble_eq_true rfl, Nat.le_of_ble_eq_true rfl⟩) (fun H locs E => ?_)
  refine lv_lmul hx hb dX1_addFraction_67 ?_
  refine lv_lload hx hb dX1_addFraction_68 (lv_at hl 2 rfl) ?_
  refine lv_lload hx hb dX1_addFraction_70 (lv_at hl 0 rfl) ?_
  refine lv_lload hx hb dX1_addFraction_72 (lv_at hl 1 rfl) ?_
  obtain ⟨o17, e18, hf⟩ := bd_some hf
  refine g_calll (w' := (cW a cI cJ cZ vl hs isz igd iup idn osz ogd oup odn dep rsz lgd llf ldb ldy lsz lti pgd plf pun psz bgd bam bwt bsh brm bsz cab cbl tod imp dis owe itr)) C E (g_runSN (As := [.long (o11 * o5), .long o5]) (rest := [.long o3, .long ((cab x1.toNatClampNeg) * o15)]) C E (c_X6_floorOf e18) ⟨va_cnB 2 hts gX1_addFraction_X6_floorOf_n58 rfl rfl rfl (hN.1 _ (List.mem_of_getElem? (i := 7) rfl)) (hts (.initialized RX6) (List.mem_of_getElem? (i := 4) rfl)) hd_X6_floorOf ⟨Nat.le_of_ble_eq_true rfl, Nat.le_of_ble_eq_true rfl⟩, hts (.static yX6_floorOf) (List.mem_of_getElem? (i := 7) rfl), trivial⟩ rfl hl.1 rfl (Nat.le_of_ble_eq_true rfl) dX1_addFraction_74 ⟨Nat.le_of_ble_eq_true rfl, Nat.le_of_ble_eq_true rfl⟩) (fun H locs E => ?_)
  refine lv_lmul hx hb dX1_addFraction_77 ?_
  refine lv_ladd hx hb dX1_addFraction_78 ?_
  refine lv_lstore (lv' := [(14, .long (((cab x1.toNatClampNeg) * o15) + (o3 * o17))), (12, .long (o11 * o5)), (10, .long o5), (8, .long o3), (6, .long o1), (0, .ref (a 30)), (1, .int x1), (2, .long x2), (4, .long x4)]) hx hb dX1_addFraction_79 hl (by decide) rfl (fun ls hl => ?_)
  refine lv_lload hx hb dX1_addFraction_81 (lv_at hl 0 rfl) ?_
  refine lv_lload hx hb dX1_addFraction_83 (lv_at hl 1 rfl) ?_
  obtain ⟨o19, e20, hf⟩ := bd_some hf
  refine g_calll (w' := (cW a cI cJ cZ vl hs isz igd iup idn osz ogd oup odn dep rsz lgd llf ldb ldy lsz lti pgd plf pun psz bgd bam bwt bsh brm bsz cab cbl tod imp dis owe itr)) C E (g_runSN (As := [.long (((cab x1.toNatClampNeg) * o15) + (o3 * o17)), .long (o11 * o5)]) (rest := []) C E (c_X6_greatestDivisor e20) ⟨va_cnB 2 hts gX1_addFraction_X6_greatestDivisor_n54 rfl rfl rfl (hN.1 _ (List.mem_of_getElem? (i := 6) rfl)) (hts (.initialized RX6) (List.mem_of_getElem? (i := 4) rfl)) hd_X6_greatestDivisor ⟨Nat.le_of_ble_eq_true rfl, Nat.le_of_ble_eq_true rfl⟩, hts (.static yX6_greatestDivisor) (List.mem_of_getElem? (i := 3) rfl), trivial⟩ rfl hl.1 rfl (Nat.le_of_ble_eq_true rfl) dX1_addFraction_85 ⟨Nat.le_of_ble_eq_true rfl, Nat.le_of_ble_eq_true rfl⟩) (fun H locs E => ?_)
  refine lv_lstore (lv' := [(16, .long o19), (14, .long (((cab x1.toNatClampNeg) * o15) + (o3 * o17))), (12, .long (o11 * o5)), (10, .long o5), (8, .long o3), (6, .long o1), (0, .ref (a 30)), (1, .int x1), (2, .long x2), (4, .long x4)]) hx hb dX1_addFraction_88 hl (by decide) rfl (fun ls hl => ?_)
  refine lv_aload_n hx hb dX1_addFraction_90 rfl (lv_at hl 6 rfl) ?_
  refine g_get C E 30 0 (fun _ h => List.mem_cons_of_mem _ (List.mem_append_right _ h)) rfl rfl (by decide) (List.mem_of_getElem? (i := 2) rfl) rfl rfl dX1_addFraction_91 ?_
  refine lv_iload_n hx hb dX1_addFraction_94 rfl (lv_at hl 7 rfl) ?_
  refine lv_lload hx hb dX1_addFraction_95 (lv_at hl 1 rfl) ?_
  refine lv_lload hx hb dX1_addFraction_97 (lv_at hl 0 rfl) ?_
  obtain ⟨o21, e22, hf⟩ := bd_some hf
  refine g_calll (w' := (cW a cI cJ cZ vl hs isz igd iup idn osz ogd oup odn dep rsz lgd llf ldb ldy lsz lti pgd plf pun psz bgd bam bwt bsh brm bsz cab cbl tod imp dis owe itr)) C E (g_runSN (As := [.long (((cab x1.toNatClampNeg) * o15) + (o3 * o17)), .long o19]) (rest := [.int x1, .ref (a 31)]) C E (c_X6_floorOf e22) ⟨va_cnB 2 hts gX1_addFraction_X6_floorOf_n58 rfl rfl rfl (hN.1 _ (List.mem_of_getElem? (i := 7) rfl)) (hts (.initialized RX6) (List.mem_of_getElem? (i := 4) rfl)) hd_X6_floorOf ⟨Nat.le_of_ble_eq_true rfl, Nat.le_of_ble_eq_true rfl⟩, hts (.static yX6_floorOf) (List.mem_of_getElem? (i := 7) rfl), trivial⟩ rfl hl.1 rfl (Nat.le_of_ble_eq_true rfl) dX1_addFraction_99 ⟨Nat.le_of_ble_eq_true rfl, Nat.le_of_ble_eq_true rfl⟩) (fun H locs E => ?_)
  obtain ⟨h23, hf⟩ := ck_some hf
  refine g_last (w' := (cW a cI cJ cZ vl hs isz igd iup idn osz ogd oup odn dep rsz lgd llf ldb ldy lsz lti pgd plf pun psz bgd bam bwt bsh brm bsz (vp_updL cab x1.toNatClampNeg o21) cbl tod imp dis owe itr)) C E 31 rfl h23 dX1_addFraction_102 rfl (fun H locs E => ?_)
  refine lv_aload_n hx hb dX1_addFraction_103 rfl (lv_at hl 6 rfl) ?_
  refine g_get C E 30 1 (fun _ h => List.mem_cons_of_mem _ (List.mem_append_right _ h)) rfl rfl (by decide) (List.mem_of_getElem? (i := 1) rfl) rfl rfl dX1_addFraction_104 ?_
  refine lv_iload_n hx hb dX1_addFraction_107 rfl (lv_at hl 7 rfl) ?_
  refine lv_lload hx hb dX1_addFraction_108 (lv_at hl 2 rfl) ?_
  refine lv_lload hx hb dX1_addFraction_110 (lv_at hl 0 rfl) ?_
  obtain ⟨o24, e25, hf⟩ := bd_some hf
  refine g_calll (w' := (cW a cI cJ cZ vl hs isz igd iup idn osz ogd oup odn dep rsz lgd llf ldb ldy lsz lti pgd plf pun psz bgd bam bwt bsh brm bsz (vp_updL cab x1.toNatClampNeg o21) cbl tod imp dis owe itr)) C E (g_runSN (As := [.long (o11 * o5), .long o19]) (rest := [.int x1, .ref (a 32)]) C E (c_X6_floorOf e25) ⟨va_cnB 2 hts gX1_addFraction_X6_floorOf_n58 rfl rfl rfl (hN.1 _ (List.mem_of_getElem? (i := 7) rfl)) (hts (.initialized RX6) (List.mem_of_getElem? (i := 4) rfl)) hd_X6_floorOf ⟨Nat.le_of_ble_eq_true rfl, Nat.le_of_ble_eq_true rfl⟩, hts (.static yX6_floorOf) (List.mem_of_getElem? (i := 7) rfl), trivial⟩ rfl hl.1 rfl (Nat.le_of_ble_eq_true rfl) dX1_addFraction_112 ⟨Nat.le_of_ble_eq_true rfl, Nat.le_of_ble_eq_true rfl⟩) (fun H locs E => ?_)
  obtain ⟨h26, hf⟩ := ck_some hf
  refine g_last (w' := (cW a cI cJ cZ vl hs isz igd iup idn osz ogd oup odn dep rsz lgd llf ldb ldy lsz lti pgd plf pun psz bgd bam bwt bsh brm bsz (vp_updL cab x1.toNatClampNeg o21) (vp_updL cbl x1.toNatClampNeg o24) tod imp dis owe itr)) C E 32 rfl h26 dX1_addFraction_115 rfl (fun H locs E => ?_)
  obtain rfl := Option.some.inj hf
  exact g_vret C E dX1_addFraction_116
abbrev rm_X1_gather : Room := { frames := 3, cells := 0, slots := 0, locals := 90 }
theorem hd_X1_gather : yX1_gather.cls ≠ "java/lang/invoke/MethodHandle" ∧ yX1_gather.cls ≠ "java/lang/invoke/VarHandle" ∧ (parseMethodDescriptor yX1_gather.desc).map (fun d => d.parameters.length) = some 2 := by decide +kernel
def f_X1_gather_L2 (isz : Nat → Int32) (igd : Nat → Int32) (iup : Nat → Int32) (idn : Nat → Int32) (x2 : Int32) : Nat → (Nat → Int64) → (Nat → Int64) → Int32 → Option ((Nat → Int64) × (Nat → Int64))
  | 0, _, _, _ => none
  | n + 1, cab, cbl, x3 =>
  ck x2 12 <|
  if (isz x2.toNatClampNeg) ≤ x3 then
    some (cab, cbl)
  else
    (f_X3_place x2 x3).bind fun o3 =>
    ck o3 48 <|
    ck (igd o3.toNatClampNeg) 12 <|
    ck o3 48 <|
    ck (igd o3.toNatClampNeg) 12 <|
    ck o3 48 <|
    (f_X1_addFraction cab cbl x2 ((cab (igd o3.toNatClampNeg).toNatClampNeg) * (iup o3.toNatClampNeg).toInt64) ((cbl (igd o3.toNatClampNeg).toNatClampNeg) * (idn o3.toNatClampNeg).toInt64)).bind fun o10 =>
    f_X1_gather_L2 isz igd iup idn x2 n o10.1 o10.2 (x3 + 1)
set_option maxHeartbeats 4000000 in
set_option maxRecDepth 100000 in
theorem w_X1_gather_L2 {p : Program} {l : Launch} {e : Env} {s : State} {m : MethodId} {args : Array Value} {below : List Frame} {meth : Method} {c : Code} {A : Nat → Prop} {D : va_G} {cI cJ cZ : ClassId} {a : Nat → Nat} {vl : Nat → Int32} {hs : Nat → Int32} {isz : Nat → Int32} {igd : Nat → Int32} {iup : Nat → Int32} {idn : Nat → Int32} {osz : Nat → Int32} {ogd : Nat → Int32} {oup : Nat → Int32} {odn : Nat → Int32} {dep : Nat → Int32} {rsz : Int32} {lgd : Nat → Int32} {llf : Nat → Int64} {ldb : Nat → Int64} {ldy : Nat → Int32} {lsz : Int32} {lti : Int64} {pgd : Nat → Int32} {plf : Nat → Int64} {pun : Nat → Int32} {psz : Int32} {bgd : Nat → Int32} {bam : Nat → Int64} {bwt : Nat → Int64} {bsh : Nat → Int64} {brm : Nat → Int64} {bsz : Int32} {tod : Int32} {imp : Int64} {dis : Int64} {owe : Int64} {itr : Int64} (C : gC p s m args meth c cX1_gather 6 none wsX1_gather RX1 A) {x2 : Int32} {o : (Nat → Int64) × (Nat → Int64)} :
    ∀ (n : Nat) (cab : Nat → Int64) (cbl : Nat → Int64) (x3 : Int32) (H : Heap) (locs : List Loc) (ls : Array Slot), vE s A D (gT cI cJ cZ) (cW a cI cJ cZ vl hs isz igd iup idn osz ogd oup odn dep rsz lgd llf ldb ldy lsz lti pgd plf pun psz bgd bam bwt bsh brm bsz cab cbl tod imp dis owe itr) H locs → lv_has ls 6 [(0, .ref (a 30)), (1, .ref (a 4)), (2, .int x2), (3, .int x3)] → f_X1_gather_L2 isz igd iup idn x2 n cab cbl x3 = some o → W p l e rm_X1_gather s m args below meth c H locs 0 0 (MQ below (gQv D (gT cI cJ cZ) A (cW a cI cJ cZ vl hs isz igd iup idn osz ogd oup odn dep rsz lgd llf ldb ldy lsz lti pgd plf pun psz bgd bam bwt bsh brm bsz o.1 o.2 tod imp dis owe itr)) args s 0 0 A) (F0 m 2 ls []) := by
  obtain ⟨hx, hb, hr, hml, hown, hts, hlocks, hN, hA⟩ := id C
  intro n
  induction n with
  | zero =>
    intro cab cbl x3 H locs ls E hl hf
    rw [f_X1_gather_L2] at hf
    cases hf
  | succ n ih =>
    intro cab cbl x3 H locs ls E hl hf
    rw [f_X1_gather_L2] at hf
    refine lv_iload_n hx hb dX1_gather_2 rfl (lv_at hl 3 rfl) ?_
    refine lv_aload_n hx hb dX1_gather_3 rfl (lv_at hl 1 rfl) ?_
    refine g_get C E 4 1 (fun _ h => List.mem_cons_of_mem _ (List.mem_append_left _ (List.mem_append_right _ h))) rfl rfl (by decide) (List.mem_of_getElem? (i := 1) rfl) rfl rfl dX1_gather_4 ?_
    refine lv_iload_n hx hb dX1_gather_7 rfl (lv_at hl 2 rfl) ?_
    obtain ⟨h1, hf⟩ := ck_some hf
    refine g_iald C E 5 rfl h1 dX1_gather_8 ?_
    refine lv_icmp_ge (tgt := 71) hx hb dX1_gather_9 (by decide) (fun c2 => ?_) (fun c2 => ?_)
    · rw [if_pos c2] at hf
      obtain rfl := Option.some.inj hf
      exact g_vret C E dX1_gather_71
    · rw [if_neg c2] at hf
      refine lv_iload_n hx hb dX1_gather_12 rfl (lv_at hl 2 rfl) ?_
      refine lv_iload_n hx hb dX1_gather_13 rfl (lv_at hl 3 rfl) ?_
      obtain ⟨o3, e4, hf⟩ := bd_some hf
      refine g_calli (w' := (cW a cI cJ cZ vl hs isz igd iup idn osz ogd oup odn dep rsz lgd llf ldb ldy lsz lti pgd plf pun psz bgd bam bwt bsh brm bsz cab cbl tod imp dis owe itr)) C E (g_runS (As := [.int x2, .int x3]) (rest := []) C E (c_X3_place e4) (va_cwS 2 hts gX1_gather_X3_place rfl rfl rfl hd_X3_place ⟨Nat.le_of_ble_eq_true rfl, Nat.le_of_ble_eq_true rfl⟩) rfl hl.1 rfl (Nat.le_of_ble_eq_true rfl) dX1_gather_14 ⟨Nat.le_of_ble_eq_true rfl, Nat.le_of_ble_eq_true rfl⟩) (fun H locs E => ?_)
      refine lv_istore (lv' := [(4, .int o3), (0, .ref (a 30)), (1, .ref (a 4)), (2, .int x2), (3, .int x3)]) hx hb dX1_gather_17 hl (by decide) rfl (fun ls hl => ?_)
      refine lv_aload_n hx hb dX1_gather_19 rfl (lv_at hl 2 rfl) ?_
      refine g_get C E 4 2 (fun _ h => List.mem_cons_of_mem _ (List.mem_append_left _ (List.mem_append_right _ h))) rfl rfl (by decide) (List.mem_of_getElem? (i := 2) rfl) rfl rfl dX1_gather_20 ?_
      refine lv_iload hx hb dX1_gather_23 (lv_at hl 0 rfl) ?_
      obtain ⟨h5, hf⟩ := ck_some hf
      refine g_iald C E 6 rfl h5 dX1_gather_25 ?_
      refine lv_istore (lv' := [(5, .int (igd o3.toNatClampNeg)), (4, .int o3), (0, .ref (a 30)), (1, .ref (a 4)), (2, .int x2), (3, .int x3)]) hx hb dX1_gather_26 hl (by decide) rfl (fun ls hl => ?_)
      refine lv_aload_n hx hb dX1_gather_28 rfl (lv_at hl 2 rfl) ?_
      refine lv_iload_n hx hb dX1_gather_29 rfl (lv_at hl 4 rfl) ?_
      refine lv_aload_n hx hb dX1_gather_30 rfl (lv_at hl 2 rfl) ?_
      refine g_get C E 30 0 (fun _ h => List.mem_cons_of_mem _ (List.mem_append_right _ h)) rfl rfl (by decide) (List.mem_of_getElem? (i := 3) rfl) rfl rfl dX1_gather_31 ?_
      refine lv_iload hx hb dX1_gather_34 (lv_at hl 0 rfl) ?_
      obtain ⟨h6, hf⟩ := ck_some hf
      refine g_lald C E 31 rfl h6 dX1_gather_36 ?_
      refine lv_aload_n hx hb dX1_gather_37 rfl (lv_at hl 3 rfl) ?_
      refine g_get C E 4 3 (fun _ h => List.mem_cons_of_mem _ (List.mem_append_left _ (List.mem_append_right _ h))) rfl rfl (by decide) (List.mem_of_getElem? (i := 4) rfl) rfl rfl dX1_gather_38 ?_
      refine lv_iload hx hb dX1_gather_41 (lv_at hl 1 rfl) ?_
      obtain ⟨h7, hf⟩ := ck_some hf
      refine g_iald C E 7 rfl h7 dX1_gather_43 ?_
      refine lv_i2l hx hb dX1_gather_44 rfl ?_
      refine lv_lmul hx hb dX1_gather_45 ?_
      refine lv_aload_n hx hb dX1_gather_46 rfl (lv_at hl 2 rfl) ?_
      refine g_get C E 30 1 (fun _ h => List.mem_cons_of_mem _ (List.mem_append_right _ h)) rfl rfl (by decide) (List.mem_of_getElem? (i := 5) rfl) rfl rfl dX1_gather_47 ?_
      refine lv_iload hx hb dX1_gather_50 (lv_at hl 0 rfl) ?_
      obtain ⟨h8, hf⟩ := ck_some hf
      refine g_lald C E 32 rfl h8 dX1_gather_52 ?_
      refine lv_aload_n hx hb dX1_gather_53 rfl (lv_at hl 3 rfl) ?_
      refine g_get C E 4 4 (fun _ h => List.mem_cons_of_mem _ (List.mem_append_left _ (List.mem_append_right _ h))) rfl rfl (by decide) (List.mem_of_getElem? (i := 6) rfl) rfl rfl dX1_gather_54 ?_
      refine lv_iload hx hb dX1_gather_57 (lv_at hl 1 rfl) ?_
      obtain ⟨h9, hf⟩ := ck_some hf
      refine g_iald C E 8 rfl h9 dX1_gather_59 ?_
      refine lv_i2l hx hb dX1_gather_60 rfl ?_
      refine lv_lmul hx hb dX1_gather_61 ?_
      obtain ⟨o10, e11, hf⟩ := bd_some hf
      refine g_callv (w' := (cW a cI cJ cZ vl hs isz igd iup idn osz ogd oup odn dep rsz lgd llf ldb ldy lsz lti pgd plf pun psz bgd bam bwt bsh brm bsz o10.1 o10.2 tod imp dis owe itr)) C E (g_runV (As := [.int x2, .long ((cab (igd o3.toNatClampNeg).toNatClampNeg) * (iup o3.toNatClampNeg).toInt64), .long ((cbl (igd o3.toNatClampNeg).toNatClampNeg) * (idn o3.toNatClampNeg).toInt64)]) (rest := []) C E (c_X1_addFraction e11) (cwV 3 hts gX1_gather_X1_addFraction rfl rfl rfl ⟨rfl, hd_X1_addFraction⟩ ⟨Nat.le_of_ble_eq_true rfl, Nat.le_of_ble_eq_true rfl⟩) (q0 := 30) (ci := 1) rfl rfl rfl rfl hl.1 rfl (Nat.le_of_ble_eq_true rfl) dX1_gather_62 ⟨Nat.le_of_ble_eq_true rfl, Nat.le_of_ble_eq_true rfl⟩) (fun H locs E => ?_)
      refine lv_iinc (v := (x3 + 1)) (lv' := [(3, .int (x3 + 1)), (5, .int (igd o3.toNatClampNeg)), (4, .int o3), (0, .ref (a 30)), (1, .ref (a 4)), (2, .int x2)]) hx hb dX1_gather_65 hl (k := 5) rfl rfl (by decide) rfl (fun ls hl => ?_)
      refine lv_goto (tgt := 2) hx hb dX1_gather_68 (by decide) ?_
      exact ih o10.1 o10.2 (x3 + 1) _ _ _ E (lv_sub hl [3, 4, 5, 0] rfl) hf
def f_X1_gather (isz : Nat → Int32) (igd : Nat → Int32) (iup : Nat → Int32) (idn : Nat → Int32) (cab : Nat → Int64) (cbl : Nat → Int64) (x2 : Int32) : Option ((Nat → Int64) × (Nat → Int64)) :=
  f_X1_gather_L2 isz igd iup idn x2 FU cab cbl (0 : Int32)
set_option maxHeartbeats 4000000 in
set_option maxRecDepth 100000 in
theorem c_X1_gather {l : Launch} {D : va_G} {cI cJ cZ : ClassId} {a : Nat → Nat} {sz : Nat} {vl : Nat → Int32} {hs : Nat → Int32} {isz : Nat → Int32} {igd : Nat → Int32} {iup : Nat → Int32} {idn : Nat → Int32} {osz : Nat → Int32} {ogd : Nat → Int32} {oup : Nat → Int32} {odn : Nat → Int32} {dep : Nat → Int32} {rsz : Int32} {lgd : Nat → Int32} {llf : Nat → Int64} {ldb : Nat → Int64} {ldy : Nat → Int32} {lsz : Int32} {lti : Int64} {pgd : Nat → Int32} {plf : Nat → Int64} {pun : Nat → Int32} {psz : Int32} {bgd : Nat → Int32} {bam : Nat → Int64} {bwt : Nat → Int64} {bsh : Nat → Int64} {brm : Nat → Int64} {bsz : Int32} {cab : Nat → Int64} {cbl : Nat → Int64} {tod : Int32} {imp : Int64} {dis : Int64} {owe : Int64} {itr : Int64} {x2 : Int32} {o : (Nat → Int64) × (Nat → Int64)} (hf : f_X1_gather isz igd iup idn cab cbl x2 = some o) : gMv l yX1_gather wsX1_gather rm_X1_gather D (gT cI cJ cZ) (cW a cI cJ cZ vl hs isz igd iup idn osz ogd oup odn dep rsz lgd llf ldb ldy lsz lti pgd plf pun psz bgd bam bwt bsh brm bsz cab cbl tod imp dis owe itr) (cW a cI cJ cZ vl hs isz igd iup idn osz ogd oup odn dep rsz lgd llf ldb ldy lsz lti pgd plf pun psz bgd bam bwt bsh brm bsz o.1 o.2 tod imp dis owe itr) sz [.ref (a 30), .ref (a 4), .int x2] := by
  refine g_of (cc := cX1_gather) (maxL := 6) (ret := none) (by decide) rfl (Nat.le_of_ble_eq_true rfl) ?_
  intro p e s m below meth c A ls hAe C hl E
  rw [← hAe]
  obtain ⟨hx, hb, hr, hml, hown, hts, hlocks, hN, hA⟩ := id C
  have hl : lv_has ls 6 [(0, .ref (a 30)), (1, .ref (a 4)), (2, .int x2)] := hl
  have E : vE s A D (gT cI cJ cZ) (cW a cI cJ cZ vl hs isz igd iup idn osz ogd oup odn dep rsz lgd llf ldb ldy lsz lti pgd plf pun psz bgd bam bwt bsh brm bsz cab cbl tod imp dis owe itr) s.heap [] := E
  rw [f_X1_gather] at hf
  refine lv_iconst (v := 0) hx hb dX1_gather_0 (by decide) ?_
  refine lv_istore_n (lv' := [(3, .int (0 : Int32)), (0, .ref (a 30)), (1, .ref (a 4)), (2, .int x2)]) hx hb dX1_gather_1 rfl hl (by decide) rfl (fun ls hl => ?_)
  exact w_X1_gather_L2 C  FU cab cbl (0 : Int32) _ _ _ E (lv_sub hl [1, 2, 3, 0] rfl) hf
abbrev rm_X1_trace : Room := { frames := 4, cells := 0, slots := 0, locals := 115 }
theorem hd_X1_trace : yX1_trace.cls ≠ "java/lang/invoke/MethodHandle" ∧ yX1_trace.cls ≠ "java/lang/invoke/VarHandle" ∧ (parseMethodDescriptor yX1_trace.desc).map (fun d => d.parameters.length) = some 2 := by decide +kernel
def f_X1_trace_L47 (isz : Nat → Int32) (igd : Nat → Int32) (iup : Nat → Int32) (idn : Nat → Int32) (dep : Nat → Int32) (x2 : Int32) (x3 : Int32) (k39 : (Nat → Int64) → (Nat → Int64) → Int32 → Option ((Nat → Int64) × (Nat → Int64))) : Nat → (Nat → Int64) → (Nat → Int64) → Int32 → Option ((Nat → Int64) × (Nat → Int64))
  | 0, _, _, _ => none
  | n + 1, cab, cbl, x4 =>
  if (12 : Int32) ≤ x4 then
    k39 cab cbl (x3 + 1)
  else
    ck x4 12 <|
    if (dep x4.toNatClampNeg) = x3 then
      if x4 = x2 then
        f_X1_trace_L47 isz igd iup idn dep x2 x3 k39 n cab cbl (x4 + 1)
      else
        (f_X1_gather isz igd iup idn cab cbl x4).bind fun o5 =>
        f_X1_trace_L47 isz igd iup idn dep x2 x3 k39 n o5.1 o5.2 (x4 + 1)
    else
      f_X1_trace_L47 isz igd iup idn dep x2 x3 k39 n cab cbl (x4 + 1)
set_option maxHeartbeats 4000000 in
set_option maxRecDepth 100000 in
theorem w_X1_trace_L47 {p : Program} {l : Launch} {e : Env} {s : State} {m : MethodId} {args : Array Value} {below : List Frame} {meth : Method} {c : Code} {A : Nat → Prop} {D : va_G} {cI cJ cZ : ClassId} {a : Nat → Nat} {vl : Nat → Int32} {hs : Nat → Int32} {isz : Nat → Int32} {igd : Nat → Int32} {iup : Nat → Int32} {idn : Nat → Int32} {osz : Nat → Int32} {ogd : Nat → Int32} {oup : Nat → Int32} {odn : Nat → Int32} {dep : Nat → Int32} {rsz : Int32} {lgd : Nat → Int32} {llf : Nat → Int64} {ldb : Nat → Int64} {ldy : Nat → Int32} {lsz : Int32} {lti : Int64} {pgd : Nat → Int32} {plf : Nat → Int64} {pun : Nat → Int32} {psz : Int32} {bgd : Nat → Int32} {bam : Nat → Int64} {bwt : Nat → Int64} {bsh : Nat → Int64} {brm : Nat → Int64} {bsz : Int32} {tod : Int32} {imp : Int64} {dis : Int64} {owe : Int64} {itr : Int64} (C : gC p s m args meth c cX1_trace 5 none wsX1_trace RX1 A) {x2 : Int32} {x3 : Int32} {o : (Nat → Int64) × (Nat → Int64)} {k39 : (Nat → Int64) → (Nat → Int64) → Int32 → Option ((Nat → Int64) × (Nat → Int64))} (hk39 : ∀ (cab : Nat → Int64) (cbl : Nat → Int64) (x3 : Int32) (H : Heap) (locs : List Loc) (ls : Array Slot), vE s A D (gT cI cJ cZ) (cW a cI cJ cZ vl hs isz igd iup idn osz ogd oup odn dep rsz lgd llf ldb ldy lsz lti pgd plf pun psz bgd bam bwt bsh brm bsz cab cbl tod imp dis owe itr) H locs → lv_has ls 5 [(0, .ref (a 30)), (1, .ref (a 2)), (2, .int x2), (3, .int x3)] → k39 cab cbl x3 = some o → W p l e rm_X1_trace s m args below meth c H locs 0 0 (MQ below (gQv D (gT cI cJ cZ) A (cW a cI cJ cZ vl hs isz igd iup idn osz ogd oup odn dep rsz lgd llf ldb ldy lsz lti pgd plf pun psz bgd bam bwt bsh brm bsz o.1 o.2 tod imp dis owe itr)) args s 0 0 A) (F0 m 39 ls [])) :
    ∀ (n : Nat) (cab : Nat → Int64) (cbl : Nat → Int64) (x4 : Int32) (H : Heap) (locs : List Loc) (ls : Array Slot), vE s A D (gT cI cJ cZ) (cW a cI cJ cZ vl hs isz igd iup idn osz ogd oup odn dep rsz lgd llf ldb ldy lsz lti pgd plf pun psz bgd bam bwt bsh brm bsz cab cbl tod imp dis owe itr) H locs → lv_has ls 5 [(0, .ref (a 30)), (1, .ref (a 2)), (2, .int x2), (3, .int x3), (4, .int x4)] → f_X1_trace_L47 isz igd iup idn dep x2 x3 k39 n cab cbl x4 = some o → W p l e rm_X1_trace s m args below meth c H locs 0 0 (MQ below (gQv D (gT cI cJ cZ) A (cW a cI cJ cZ vl hs isz igd iup idn osz ogd oup odn dep rsz lgd llf ldb ldy lsz lti pgd plf pun psz bgd bam bwt bsh brm bsz o.1 o.2 tod imp dis owe itr)) args s 0 0 A) (F0 m 47 ls []) := by
  obtain ⟨hx, hb, hr, hml, hown, hts, hlocks, hN, hA⟩ := id C
  intro n
  induction n with
  | zero =>
    intro cab cbl x4 H locs ls E hl hf
    rw [f_X1_trace_L47] at hf
    cases hf
  | succ n ih =>
    intro cab cbl x4 H locs ls E hl hf
    rw [f_X1_trace_L47] at hf
    refine lv_iload hx hb dX1_trace_47 (lv_at hl 4 rfl) ?_
    refine lv_bipush (v := 12) hx hb dX1_trace_49 (by decide) ?_
    refine lv_icmp_ge (tgt := 87) hx hb dX1_trace_51 (by decide) (fun c1 => ?_) (fun c1 => ?_)
    · rw [if_pos c1] at hf
      refine lv_iinc (v := (x3 + 1)) (lv' := [(3, .int (x3 + 1)), (0, .ref (a 30)), (1, .ref (a 2)), (2, .int x2), (4, .int x4)]) hx hb dX1_trace_87 hl (k := 3) rfl rfl (by decide) rfl (fun ls hl => ?_)
      refine lv_goto (tgt := 39) hx hb dX1_trace_90 (by decide) ?_
      exact hk39 cab cbl (x3 + 1) _ _ _ E (lv_sub hl [1, 2, 3, 0] rfl) hf
    · rw [if_neg c1] at hf
      refine lv_aload_n hx hb dX1_trace_54 rfl (lv_at hl 1 rfl) ?_
      refine g_get C E 2 3 (fun _ h => List.mem_cons_of_mem _ (List.mem_append_left _ (List.mem_append_right _ h))) rfl rfl (by decide) (List.mem_of_getElem? (i := 3) rfl) rfl rfl dX1_trace_55 ?_
      refine lv_iload hx hb dX1_trace_58 (lv_at hl 4 rfl) ?_
      obtain ⟨h2, hf⟩ := ck_some hf
      refine g_iald C E 14 rfl h2 dX1_trace_60 ?_
      refine lv_iload_n hx hb dX1_trace_61 rfl (lv_at hl 3 rfl) ?_
      refine lv_icmp_ne (tgt := 81) hx hb dX1_trace_62 (by decide) (fun c3 => ?_) (fun c3 => ?_)
      · rw [if_neg c3] at hf
        refine lv_iinc (v := (x4 + 1)) (lv' := [(4, .int (x4 + 1)), (0, .ref (a 30)), (1, .ref (a 2)), (2, .int x2), (3, .int x3)]) hx hb dX1_trace_81 hl (k := 4) rfl rfl (by decide) rfl (fun ls hl => ?_)
        refine lv_goto (tgt := 47) hx hb dX1_trace_84 (by decide) ?_
        exact ih cab cbl (x4 + 1) _ _ _ E (lv_sub hl [1, 2, 3, 4, 0] rfl) hf
      · rw [if_pos c3] at hf
        refine lv_iload hx hb dX1_trace_65 (lv_at hl 4 rfl) ?_
        refine lv_iload_n hx hb dX1_trace_67 rfl (lv_at hl 2 rfl) ?_
        refine lv_icmp_eq (tgt := 81) hx hb dX1_trace_68 (by decide) (fun c4 => ?_) (fun c4 => ?_)
        · rw [if_pos c4] at hf
          refine lv_iinc (v := (x4 + 1)) (lv' := [(4, .int (x4 + 1)), (0, .ref (a 30)), (1, .ref (a 2)), (2, .int x2), (3, .int x3)]) hx hb dX1_trace_81 hl (k := 4) rfl rfl (by decide) rfl (fun ls hl => ?_)
          refine lv_goto (tgt := 47) hx hb dX1_trace_84 (by decide) ?_
          exact ih cab cbl (x4 + 1) _ _ _ E (lv_sub hl [1, 2, 3, 4, 0] rfl) hf
        · rw [if_neg c4] at hf
          refine lv_aload_n hx hb dX1_trace_71 rfl (lv_at hl 0 rfl) ?_
          refine lv_aload_n hx hb dX1_trace_72 rfl (lv_at hl 1 rfl) ?_
          refine g_get C E 2 1 (fun _ h => List.mem_cons_of_mem _ (List.mem_append_left _ (List.mem_append_right _ h))) rfl rfl (by decide) (List.mem_of_getElem? (i := 4) rfl) rfl rfl dX1_trace_73 ?_
          refine lv_iload hx hb dX1_trace_76 (lv_at hl 4 rfl) ?_
          obtain ⟨o5, e6, hf⟩ := bd_some hf
          refine g_callv (w' := (cW a cI cJ cZ vl hs isz igd iup idn osz ogd oup odn dep rsz lgd llf ldb ldy lsz lti pgd plf pun psz bgd bam bwt bsh brm bsz o5.1 o5.2 tod imp dis owe itr)) C E (g_runV (As := [.ref (a 4), .int x4]) (rest := []) C E (c_X1_gather e6) (cwV 2 hts gX1_trace_X1_gather rfl rfl rfl ⟨rfl, hd_X1_gather⟩ ⟨Nat.le_of_ble_eq_true rfl, Nat.le_of_ble_eq_true rfl⟩) (q0 := 30) (ci := 1) rfl rfl rfl rfl hl.1 rfl (Nat.le_of_ble_eq_true rfl) dX1_trace_78 ⟨Nat.le_of_ble_eq_true rfl, Nat.le_of_ble_eq_true rfl⟩) (fun H locs E => ?_)
          refine lv_iinc (v := (x4 + 1)) (lv' := [(4, .int (x4 + 1)), (0, .ref (a 30)), (1, .ref (a 2)), (2, .int x2), (3, .int x3)]) hx hb dX1_trace_81 hl (k := 4) rfl rfl (by decide) rfl (fun ls hl => ?_)
          refine lv_goto (tgt := 47) hx hb dX1_trace_84 (by decide) ?_
          exact ih o5.1 o5.2 (x4 + 1) _ _ _ E (lv_sub hl [1, 2, 3, 4, 0] rfl) hf
def f_X1_trace_L39 (isz : Nat → Int32) (igd : Nat → Int32) (iup : Nat → Int32) (idn : Nat → Int32) (dep : Nat → Int32) (x2 : Int32) : Nat → (Nat → Int64) → (Nat → Int64) → Int32 → Option ((Nat → Int64) × (Nat → Int64))
  | 0, _, _, _ => none
  | n + 1, cab, cbl, x3 =>
  if (3 : Int32) < x3 then
    some (cab, cbl)
  else
    f_X1_trace_L47 isz igd iup idn dep x2 x3 (fun cab cbl x3 => f_X1_trace_L39 isz igd iup idn dep x2 n cab cbl x3) FU cab cbl (0 : Int32)
set_option maxHeartbeats 4000000 in
set_option maxRecDepth 100000 in
theorem w_X1_trace_L39 {p : Program} {l : Launch} {e : Env} {s : State} {m : MethodId} {args : Array Value} {below : List Frame} {meth : Method} {c : Code} {A : Nat → Prop} {D : va_G} {cI cJ cZ : ClassId} {a : Nat → Nat} {vl : Nat → Int32} {hs : Nat → Int32} {isz : Nat → Int32} {igd : Nat → Int32} {iup : Nat → Int32} {idn : Nat → Int32} {osz : Nat → Int32} {ogd : Nat → Int32} {oup : Nat → Int32} {odn : Nat → Int32} {dep : Nat → Int32} {rsz : Int32} {lgd : Nat → Int32} {llf : Nat → Int64} {ldb : Nat → Int64} {ldy : Nat → Int32} {lsz : Int32} {lti : Int64} {pgd : Nat → Int32} {plf : Nat → Int64} {pun : Nat → Int32} {psz : Int32} {bgd : Nat → Int32} {bam : Nat → Int64} {bwt : Nat → Int64} {bsh : Nat → Int64} {brm : Nat → Int64} {bsz : Int32} {tod : Int32} {imp : Int64} {dis : Int64} {owe : Int64} {itr : Int64} (C : gC p s m args meth c cX1_trace 5 none wsX1_trace RX1 A) {x2 : Int32} {o : (Nat → Int64) × (Nat → Int64)} :
    ∀ (n : Nat) (cab : Nat → Int64) (cbl : Nat → Int64) (x3 : Int32) (H : Heap) (locs : List Loc) (ls : Array Slot), vE s A D (gT cI cJ cZ) (cW a cI cJ cZ vl hs isz igd iup idn osz ogd oup odn dep rsz lgd llf ldb ldy lsz lti pgd plf pun psz bgd bam bwt bsh brm bsz cab cbl tod imp dis owe itr) H locs → lv_has ls 5 [(0, .ref (a 30)), (1, .ref (a 2)), (2, .int x2), (3, .int x3)] → f_X1_trace_L39 isz igd iup idn dep x2 n cab cbl x3 = some o → W p l e rm_X1_trace s m args below meth c H locs 0 0 (MQ below (gQv D (gT cI cJ cZ) A (cW a cI cJ cZ vl hs isz igd iup idn osz ogd oup odn dep rsz lgd llf ldb ldy lsz lti pgd plf pun psz bgd bam bwt bsh brm bsz o.1 o.2 tod imp dis owe itr)) args s 0 0 A) (F0 m 39 ls []) := by
  obtain ⟨hx, hb, hr, hml, hown, hts, hlocks, hN, hA⟩ := id C
  intro n
  induction n with
  | zero =>
    intro cab cbl x3 H locs ls E hl hf
    rw [f_X1_trace_L39] at hf
    cases hf
  | succ n ih =>
    intro cab cbl x3 H locs ls E hl hf
    rw [f_X1_trace_L39] at hf
    refine lv_iload_n hx hb dX1_trace_39 rfl (lv_at hl 3 rfl) ?_
    refine lv_iconst (v := 3) hx hb dX1_trace_40 (by decide) ?_
    refine lv_icmp_gt (tgt := 93) hx hb dX1_trace_41 (by decide) (fun c1 => ?_) (fun c1 => ?_)
    · rw [if_pos c1] at hf
      obtain rfl := Option.some.inj hf
      exact g_vret C E dX1_trace_93
    · rw [if_neg c1] at hf
      refine lv_iconst (v := 0) hx hb dX1_trace_44 (by decide) ?_
      refine lv_istore (lv' := [(4, .int (0 : Int32)), (0, .ref (a 30)), (1, .ref (a 2)), (2, .int x2), (3, .int x3)]) hx hb dX1_trace_45 hl (by decide) rfl (fun ls hl => ?_)
      exact w_X1_trace_L47 C ih FU cab cbl (0 : Int32) _ _ _ E (lv_sub hl [1, 2, 3, 4, 0] rfl) hf
def f_X1_trace_L2 (isz : Nat → Int32) (igd : Nat → Int32) (iup : Nat → Int32) (idn : Nat → Int32) (dep : Nat → Int32) (x2 : Int32) : Nat → (Nat → Int64) → (Nat → Int64) → Int32 → Option ((Nat → Int64) × (Nat → Int64))
  | 0, _, _, _ => none
  | n + 1, cab, cbl, x3 =>
  if (12 : Int32) ≤ x3 then
    f_X1_trace_L39 isz igd iup idn dep x2 FU cab cbl (1 : Int32)
  else
    if x3 = x2 then
      ck x3 12 <|
      ck x3 12 <|
      f_X1_trace_L2 isz igd iup idn dep x2 n (vp_updL cab x3.toNatClampNeg (1 : Int64)) (vp_updL cbl x3.toNatClampNeg (1 : Int64)) (x3 + 1)
    else
      ck x3 12 <|
      ck x3 12 <|
      f_X1_trace_L2 isz igd iup idn dep x2 n (vp_updL cab x3.toNatClampNeg (0 : Int64)) (vp_updL cbl x3.toNatClampNeg (1 : Int64)) (x3 + 1)
set_option maxHeartbeats 4000000 in
set_option maxRecDepth 100000 in
theorem w_X1_trace_L2 {p : Program} {l : Launch} {e : Env} {s : State} {m : MethodId} {args : Array Value} {below : List Frame} {meth : Method} {c : Code} {A : Nat → Prop} {D : va_G} {cI cJ cZ : ClassId} {a : Nat → Nat} {vl : Nat → Int32} {hs : Nat → Int32} {isz : Nat → Int32} {igd : Nat → Int32} {iup : Nat → Int32} {idn : Nat → Int32} {osz : Nat → Int32} {ogd : Nat → Int32} {oup : Nat → Int32} {odn : Nat → Int32} {dep : Nat → Int32} {rsz : Int32} {lgd : Nat → Int32} {llf : Nat → Int64} {ldb : Nat → Int64} {ldy : Nat → Int32} {lsz : Int32} {lti : Int64} {pgd : Nat → Int32} {plf : Nat → Int64} {pun : Nat → Int32} {psz : Int32} {bgd : Nat → Int32} {bam : Nat → Int64} {bwt : Nat → Int64} {bsh : Nat → Int64} {brm : Nat → Int64} {bsz : Int32} {tod : Int32} {imp : Int64} {dis : Int64} {owe : Int64} {itr : Int64} (C : gC p s m args meth c cX1_trace 5 none wsX1_trace RX1 A) {x2 : Int32} {o : (Nat → Int64) × (Nat → Int64)} :
    ∀ (n : Nat) (cab : Nat → Int64) (cbl : Nat → Int64) (x3 : Int32) (H : Heap) (locs : List Loc) (ls : Array Slot), vE s A D (gT cI cJ cZ) (cW a cI cJ cZ vl hs isz igd iup idn osz ogd oup odn dep rsz lgd llf ldb ldy lsz lti pgd plf pun psz bgd bam bwt bsh brm bsz cab cbl tod imp dis owe itr) H locs → lv_has ls 5 [(0, .ref (a 30)), (1, .ref (a 2)), (2, .int x2), (3, .int x3)] → f_X1_trace_L2 isz igd iup idn dep x2 n cab cbl x3 = some o → W p l e rm_X1_trace s m args below meth c H locs 0 0 (MQ below (gQv D (gT cI cJ cZ) A (cW a cI cJ cZ vl hs isz igd iup idn osz ogd oup odn dep rsz lgd llf ldb ldy lsz lti pgd plf pun psz bgd bam bwt bsh brm bsz o.1 o.2 tod imp dis owe itr)) args s 0 0 A) (F0 m 2 ls []) := by
  obtain ⟨hx, hb, hr, hml, hown, hts, hlocks, hN, hA⟩ := id C
  intro n
  induction n with
  | zero =>
    intro cab cbl x3 H locs ls E hl hf
    rw [f_X1_trace_L2] at hf
    cases hf
  | succ n ih =>
    intro cab cbl x3 H locs ls E hl hf
    rw [f_X1_trace_L2] at hf
    refine lv_iload_n hx hb dX1_trace_2 rfl (lv_at hl 3 rfl) ?_
    refine lv_bipush (v := 12) hx hb dX1_trace_3 (by decide) ?_
    refine lv_icmp_ge (tgt := 37) hx hb dX1_trace_5 (by decide) (fun c1 => ?_) (fun c1 => ?_)
    · rw [if_pos c1] at hf
      refine lv_iconst (v := 1) hx hb dX1_trace_37 (by decide) ?_
      refine lv_istore_n (lv' := [(3, .int (1 : Int32)), (0, .ref (a 30)), (1, .ref (a 2)), (2, .int x2)]) hx hb dX1_trace_38 rfl hl (by decide) rfl (fun ls hl => ?_)
      exact w_X1_trace_L39 C  FU cab cbl (1 : Int32) _ _ _ E (lv_sub hl [1, 2, 3, 0] rfl) hf
    · rw [if_neg c1] at hf
      refine lv_aload_n hx hb dX1_trace_8 rfl (lv_at hl 0 rfl) ?_
      refine g_get C E 30 0 (fun _ h => List.mem_cons_of_mem _ (List.mem_append_left _ (List.mem_append_left _ (List.mem_append_right _ h)))) rfl rfl (by decide) (List.mem_of_getElem? (i := 1) rfl) rfl rfl dX1_trace_9 ?_
      refine lv_iload_n hx hb dX1_trace_12 rfl (lv_at hl 3 rfl) ?_
      refine lv_iload_n hx hb dX1_trace_13 rfl (lv_at hl 3 rfl) ?_
      refine lv_iload_n hx hb dX1_trace_14 rfl (lv_at hl 2 rfl) ?_
      refine lv_icmp_ne (tgt := 22) hx hb dX1_trace_15 (by decide) (fun c2 => ?_) (fun c2 => ?_)
      · rw [if_neg c2] at hf
        refine lv_lconst (v := 0) hx hb dX1_trace_22 (by decide) ?_
        obtain ⟨h3, hf⟩ := ck_some hf
        refine g_last (w' := (cW a cI cJ cZ vl hs isz igd iup idn osz ogd oup odn dep rsz lgd llf ldb ldy lsz lti pgd plf pun psz bgd bam bwt bsh brm bsz (vp_updL cab x3.toNatClampNeg (0 : Int64)) cbl tod imp dis owe itr)) C E 31 rfl h3 dX1_trace_23 rfl (fun H locs E => ?_)
        refine lv_aload_n hx hb dX1_trace_24 rfl (lv_at hl 0 rfl) ?_
        refine g_get C E 30 1 (fun _ h => List.mem_cons_of_mem _ (List.mem_append_left _ (List.mem_append_left _ (List.mem_append_right _ h)))) rfl rfl (by decide) (List.mem_of_getElem? (i := 2) rfl) rfl rfl dX1_trace_25 ?_
        refine lv_iload_n hx hb dX1_trace_28 rfl (lv_at hl 3 rfl) ?_
        refine lv_lconst (v := 1) hx hb dX1_trace_29 (by decide) ?_
        obtain ⟨h4, hf⟩ := ck_some hf
        refine g_last (w' := (cW a cI cJ cZ vl hs isz igd iup idn osz ogd oup odn dep rsz lgd llf ldb ldy lsz lti pgd plf pun psz bgd bam bwt bsh brm bsz (vp_updL cab x3.toNatClampNeg (0 : Int64)) (vp_updL cbl x3.toNatClampNeg (1 : Int64)) tod imp dis owe itr)) C E 32 rfl h4 dX1_trace_30 rfl (fun H locs E => ?_)
        refine lv_iinc (v := (x3 + 1)) (lv' := [(3, .int (x3 + 1)), (0, .ref (a 30)), (1, .ref (a 2)), (2, .int x2)]) hx hb dX1_trace_31 hl (k := 3) rfl rfl (by decide) rfl (fun ls hl => ?_)
        refine lv_goto (tgt := 2) hx hb dX1_trace_34 (by decide) ?_
        exact ih (vp_updL cab x3.toNatClampNeg (0 : Int64)) (vp_updL cbl x3.toNatClampNeg (1 : Int64)) (x3 + 1) _ _ _ E (lv_sub hl [1, 2, 3, 0] rfl) hf
      · rw [if_pos c2] at hf
        refine lv_lconst (v := 1) hx hb dX1_trace_18 (by decide) ?_
        refine lv_goto (tgt := 23) hx hb dX1_trace_19 (by decide) ?_
        obtain ⟨h5, hf⟩ := ck_some hf
        refine g_last (w' := (cW a cI cJ cZ vl hs isz igd iup idn osz ogd oup odn dep rsz lgd llf ldb ldy lsz lti pgd plf pun psz bgd bam bwt bsh brm bsz (vp_updL cab x3.toNatClampNeg (1 : Int64)) cbl tod imp dis owe itr)) C E 31 rfl h5 dX1_trace_23 rfl (fun H locs E => ?_)
        refine lv_aload_n hx hb dX1_trace_24 rfl (lv_at hl 0 rfl) ?_
        refine g_get C E 30 1 (fun _ h => List.mem_cons_of_mem _ (List.mem_append_left _ (List.mem_append_left _ (List.mem_append_right _ h)))) rfl rfl (by decide) (List.mem_of_getElem? (i := 2) rfl) rfl rfl dX1_trace_25 ?_
        refine lv_iload_n hx hb dX1_trace_28 rfl (lv_at hl 3 rfl) ?_
        refine lv_lconst (v := 1) hx hb dX1_trace_29 (by decide) ?_
        obtain ⟨h6, hf⟩ := ck_some hf
        refine g_last (w' := (cW a cI cJ cZ vl hs isz igd iup idn osz ogd oup odn dep rsz lgd llf ldb ldy lsz lti pgd plf pun psz bgd bam bwt bsh brm bsz (vp_updL cab x3.toNatClampNeg (1 : Int64)) (vp_updL cbl x3.toNatClampNeg (1 : Int64)) tod imp dis owe itr)) C E 32 rfl h6 dX1_trace_30 rfl (fun H locs E => ?_)
        refine lv_iinc (v := (x3 + 1)) (lv' := [(3, .int (x3 + 1)), (0, .ref (a 30)), (1, .ref (a 2)), (2, .int x2)]) hx hb dX1_trace_31 hl (k := 3) rfl rfl (by decide) rfl (fun ls hl => ?_)
        refine lv_goto (tgt := 2) hx hb dX1_trace_34 (by decide) ?_
        exact ih (vp_updL cab x3.toNatClampNeg (1 : Int64)) (vp_updL cbl x3.toNatClampNeg (1 : Int64)) (x3 + 1) _ _ _ E (lv_sub hl [1, 2, 3, 0] rfl) hf
def f_X1_trace (isz : Nat → Int32) (igd : Nat → Int32) (iup : Nat → Int32) (idn : Nat → Int32) (dep : Nat → Int32) (cab : Nat → Int64) (cbl : Nat → Int64) (x2 : Int32) : Option ((Nat → Int64) × (Nat → Int64)) :=
  f_X1_trace_L2 isz igd iup idn dep x2 FU cab cbl (0 : Int32)
set_option maxHeartbeats 4000000 in
set_option maxRecDepth 100000 in
theorem c_X1_trace {l : Launch} {D : va_G} {cI cJ cZ : ClassId} {a : Nat → Nat} {sz : Nat} {vl : Nat → Int32} {hs : Nat → Int32} {isz : Nat → Int32} {igd : Nat → Int32} {iup : Nat → Int32} {idn : Nat → Int32} {osz : Nat → Int32} {ogd : Nat → Int32} {oup : Nat → Int32} {odn : Nat → Int32} {dep : Nat → Int32} {rsz : Int32} {lgd : Nat → Int32} {llf : Nat → Int64} {ldb : Nat → Int64} {ldy : Nat → Int32} {lsz : Int32} {lti : Int64} {pgd : Nat → Int32} {plf : Nat → Int64} {pun : Nat → Int32} {psz : Int32} {bgd : Nat → Int32} {bam : Nat → Int64} {bwt : Nat → Int64} {bsh : Nat → Int64} {brm : Nat → Int64} {bsz : Int32} {cab : Nat → Int64} {cbl : Nat → Int64} {tod : Int32} {imp : Int64} {dis : Int64} {owe : Int64} {itr : Int64} {x2 : Int32} {o : (Nat → Int64) × (Nat → Int64)} (hf : f_X1_trace isz igd iup idn dep cab cbl x2 = some o) : gMv l yX1_trace wsX1_trace rm_X1_trace D (gT cI cJ cZ) (cW a cI cJ cZ vl hs isz igd iup idn osz ogd oup odn dep rsz lgd llf ldb ldy lsz lti pgd plf pun psz bgd bam bwt bsh brm bsz cab cbl tod imp dis owe itr) (cW a cI cJ cZ vl hs isz igd iup idn osz ogd oup odn dep rsz lgd llf ldb ldy lsz lti pgd plf pun psz bgd bam bwt bsh brm bsz o.1 o.2 tod imp dis owe itr) sz [.ref (a 30), .ref (a 2), .int x2] := by
  refine g_of (cc := cX1_trace) (maxL := 5) (ret := none) (by decide) rfl (Nat.le_of_ble_eq_true rfl) ?_
  intro p e s m below meth c A ls hAe C hl E
  rw [← hAe]
  obtain ⟨hx, hb, hr, hml, hown, hts, hlocks, hN, hA⟩ := id C
  have hl : lv_has ls 5 [(0, .ref (a 30)), (1, .ref (a 2)), (2, .int x2)] := hl
  have E : vE s A D (gT cI cJ cZ) (cW a cI cJ cZ vl hs isz igd iup idn osz ogd oup odn dep rsz lgd llf ldb ldy lsz lti pgd plf pun psz bgd bam bwt bsh brm bsz cab cbl tod imp dis owe itr) s.heap [] := E
  rw [f_X1_trace] at hf
  refine lv_iconst (v := 0) hx hb dX1_trace_0 (by decide) ?_
  refine lv_istore_n (lv' := [(3, .int (0 : Int32)), (0, .ref (a 30)), (1, .ref (a 2)), (2, .int x2)]) hx hb dX1_trace_1 rfl hl (by decide) rfl (fun ls hl => ?_)
  exact w_X1_trace_L2 C  FU cab cbl (0 : Int32) _ _ _ E (lv_sub hl [1, 2, 3, 0] rfl) hf
