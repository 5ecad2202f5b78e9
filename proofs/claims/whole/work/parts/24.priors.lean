abbrev rm_X4_add : Room := { frames := 0, cells := 0, slots := 0, locals := 0 }
theorem hd_X4_add : yX4_add.cls ≠ "java/lang/invoke/MethodHandle" ∧ yX4_add.cls ≠ "java/lang/invoke/VarHandle" ∧ (parseMethodDescriptor yX4_add.desc).map (fun d => d.parameters.length) = some 3 := by decide +kernel
def f_X4_add (pgd : Nat → Int32) (plf : Nat → Int64) (pun : Nat → Int32) (psz : Int32) (x1 : Int32) (x2 : Int32) (x3 : Int32) : Option ((Nat → Int32) × (Nat → Int64) × (Nat → Int32) × (Int32)) :=
  if (40 : Int32) ≤ psz then
    some (pgd, plf, pun, psz)
  else
    ck psz 40 <|
    ck psz 40 <|
    ck psz 40 <|
    some ((upd pgd psz.toNatClampNeg x1), (vp_updL plf psz.toNatClampNeg x2.toInt64), (upd pun psz.toNatClampNeg x3), (psz + (1 : Int32)))
set_option maxHeartbeats 4000000 in
set_option maxRecDepth 100000 in
theorem c_X4_add {l : Launch} {D : va_G} {cI cJ cZ : ClassId} {a : Nat → Nat} {sz : Nat} {vl : Nat → Int32} {hs : Nat → Int32} {isz : Nat → Int32} {igd : Nat → Int32} {iup : Nat → Int32} {idn : Nat → Int32} {osz : Nat → Int32} {ogd : Nat → Int32} {oup : Nat → Int32} {odn : Nat → Int32} {dep : Nat → Int32} {rsz : Int32} {lgd : Nat → Int32} {llf : Nat → Int64} {ldb : Nat → Int64} {ldy : Nat → Int32} {lsz : Int32} {lti : Int64} {pgd : Nat → Int32} {plf : Nat → Int64} {pun : Nat → Int32} {psz : Int32} {bgd : Nat → Int32} {bam : Nat → Int64} {bwt : Nat → Int64} {bsh : Nat → Int64} {brm : Nat → Int64} {bsz : Int32} {cab : Nat → Int64} {cbl : Nat → Int64} {tod : Int32} {imp : Int64} {dis : Int64} {owe : Int64} {itr : Int64} {x1 : Int32} {x2 : Int32} {x3 : Int32} {o : (Nat → Int32) × (Nat → Int64) × (Nat → Int32) × (Int32)} (hf : f_X4_add pgd plf pun psz x1 x2 x3 = some o) : gMv l yX4_add wsX4_add rm_X4_add D (gT cI cJ cZ) (cW a cI cJ cZ vl hs isz igd iup idn osz ogd oup odn dep rsz lgd llf ldb ldy lsz lti pgd plf pun psz bgd bam bwt bsh brm bsz cab cbl tod imp dis owe itr) (cW a cI cJ cZ vl hs isz igd iup idn osz ogd oup odn dep rsz lgd llf ldb ldy lsz lti o.1 o.2.1 o.2.2.1 o.2.2.2 bgd bam bwt bsh brm bsz cab cbl tod imp dis owe itr) sz [.ref (a 20), .int x1, .int x2, .int x3] := by
  refine g_of (cc := cX4_add) (maxL := 4) (ret := none) (by decide) rfl (Nat.le_of_ble_eq_true rfl) ?_
  intro p e s m below meth c A ls hAe C hl E
  rw [← hAe]
  obtain ⟨hx, hb, hr, hml, hown, hts, hlocks, hN, hA⟩ := id C
  have hl : lv_has ls 4 [(0, .ref (a 20)), (1, .int x1), (2, .int x2), (3, .int x3)] := hl
  have E : vE s A D (gT cI cJ cZ) (cW a cI cJ cZ vl hs isz igd iup idn osz ogd oup odn dep rsz lgd llf ldb ldy lsz lti pgd plf pun psz bgd bam bwt bsh brm bsz cab cbl tod imp dis owe itr) s.heap [] := E
  rw [f_X4_add] at hf
  refine lv_aload_n hx hb dX4_add_0 rfl (lv_at hl 0 rfl) ?_
  refine g_get C E 20 3 (fun _ h => List.mem_cons_of_mem _ (List.mem_append_right _ h)) rfl rfl (by decide) (List.mem_of_getElem? (i := 1) rfl) rfl rfl dX4_add_1 ?_
  refine lv_bipush (v := 40) hx hb dX4_add_4 (by decide) ?_
  refine lv_icmp_ge (tgt := 50) hx hb dX4_add_6 (by decide) (fun c1 => ?_) (fun c1 => ?_)
  · rw [if_pos c1] at hf
    obtain rfl := Option.some.inj hf
    exact g_vret C E dX4_add_50
  · rw [if_neg c1] at hf
    refine lv_aload_n hx hb dX4_add_9 rfl (lv_at hl 0 rfl) ?_
    refine g_get C E 20 0 (fun _ h => List.mem_cons_of_mem _ (List.mem_append_right _ h)) rfl rfl (by decide) (List.mem_of_getElem? (i := 2) rfl) rfl rfl dX4_add_10 ?_
    refine lv_aload_n hx hb dX4_add_13 rfl (lv_at hl 0 rfl) ?_
    refine g_get C E 20 3 (fun _ h => List.mem_cons_of_mem _ (List.mem_append_right _ h)) rfl rfl (by decide) (List.mem_of_getElem? (i := 1) rfl) rfl rfl dX4_add_14 ?_
    refine lv_iload_n hx hb dX4_add_17 rfl (lv_at hl 1 rfl) ?_
    obtain ⟨h2, hf⟩ := ck_some hf
    refine g_iast (w' := (cW a cI cJ cZ vl hs isz igd iup idn osz ogd oup odn dep rsz lgd llf ldb ldy lsz lti (upd pgd psz.toNatClampNeg x1) plf pun psz bgd bam bwt bsh brm bsz cab cbl tod imp dis owe itr)) C E 21 rfl h2 dX4_add_18 rfl (fun H locs E => ?_)
    refine lv_aload_n hx hb dX4_add_19 rfl (lv_at hl 0 rfl) ?_
    refine g_get C E 20 1 (fun _ h => List.mem_cons_of_mem _ (List.mem_append_right _ h)) rfl rfl (by decide) (List.mem_of_getElem? (i := 3) rfl) rfl rfl dX4_add_20 ?_
    refine lv_aload_n hx hb dX4_add_23 rfl (lv_at hl 0 rfl) ?_
    refine g_get C E 20 3 (fun _ h => List.mem_cons_of_mem _ (List.mem_append_right _ h)) rfl rfl (by decide) (List.mem_of_getElem? (i := 1) rfl) rfl rfl dX4_add_24 ?_
    refine lv_iload_n hx hb dX4_add_27 rfl (lv_at hl 2 rfl) ?_
    refine lv_i2l hx hb dX4_add_28 rfl ?_
    obtain ⟨h3, hf⟩ := ck_some hf
    refine g_last (w' := (cW a cI cJ cZ vl hs isz igd iup idn osz ogd oup odn dep rsz lgd llf ldb ldy lsz lti (upd pgd psz.toNatClampNeg x1) (vp_updL plf psz.toNatClampNeg x2.toInt64) pun psz bgd bam bwt bsh brm bsz cab cbl tod imp dis owe itr)) C E 22 rfl h3 dX4_add_29 rfl (fun H locs E => ?_)
    refine lv_aload_n hx hb dX4_add_30 rfl (lv_at hl 0 rfl) ?_
    refine g_get C E 20 2 (fun _ h => List.mem_cons_of_mem _ (List.mem_append_right _ h)) rfl rfl (by decide) (List.mem_of_getElem? (i := 4) rfl) rfl rfl dX4_add_31 ?_
    refine lv_aload_n hx hb dX4_add_34 rfl (lv_at hl 0 rfl) ?_
    refine g_get C E 20 3 (fun _ h => List.mem_cons_of_mem _ (List.mem_append_right _ h)) rfl rfl (by decide) (List.mem_of_getElem? (i := 1) rfl) rfl rfl dX4_add_35 ?_
    refine lv_iload_n hx hb dX4_add_38 rfl (lv_at hl 3 rfl) ?_
    obtain ⟨h4, hf⟩ := ck_some hf
    refine g_iast (w' := (cW a cI cJ cZ vl hs isz igd iup idn osz ogd oup odn dep rsz lgd llf ldb ldy lsz lti (upd pgd psz.toNatClampNeg x1) (vp_updL plf psz.toNatClampNeg x2.toInt64) (upd pun psz.toNatClampNeg x3) psz bgd bam bwt bsh brm bsz cab cbl tod imp dis owe itr)) C E 23 rfl h4 dX4_add_39 rfl (fun H locs E => ?_)
    refine lv_aload_n hx hb dX4_add_40 rfl (lv_at hl 0 rfl) ?_
    refine lv_dup hx hb dX4_add_41 rfl ?_
    refine g_get C E 20 3 (fun _ h => List.mem_cons_of_mem _ (List.mem_append_right _ h)) rfl rfl (by decide) (List.mem_of_getElem? (i := 1) rfl) rfl rfl dX4_add_42 ?_
    refine lv_iconst (v := 1) hx hb dX4_add_45 (by decide) ?_
    refine lv_iadd hx hb dX4_add_46 ?_
    refine g_put (w' := (cW a cI cJ cZ vl hs isz igd iup idn osz ogd oup odn dep rsz lgd llf ldb ldy lsz lti (upd pgd psz.toNatClampNeg x1) (vp_updL plf psz.toNatClampNeg x2.toInt64) (upd pun psz.toNatClampNeg x3) (psz + (1 : Int32)) bgd bam bwt bsh brm bsz cab cbl tod imp dis owe itr)) C E 20 3 tyX4 tyX4_ok nmX4 (fun _ h => List.mem_cons_of_mem _ (List.mem_append_right _ h)) rfl rfl (by decide) (List.mem_of_getElem? (i := 1) rfl) rfl rfl rfl rfl rfl (Nat.le_of_ble_eq_true rfl) dX4_add_47 rfl (fun H locs E => ?_)
    obtain rfl := Option.some.inj hf
    exact g_vret C E dX4_add_50
abbrev rm_X4_isOpen : Room := { frames := 0, cells := 0, slots := 0, locals := 0 }
theorem hd_X4_isOpen : yX4_isOpen.cls ≠ "java/lang/invoke/MethodHandle" ∧ yX4_isOpen.cls ≠ "java/lang/invoke/VarHandle" ∧ (parseMethodDescriptor yX4_isOpen.desc).map (fun d => d.parameters.length) = some 3 := by decide +kernel
def f_X4_isOpen (pgd : Nat → Int32) (plf : Nat → Int64) (pun : Nat → Int32) (x1 : Int32) (x2 : Int32) (x3 : Int32) : Option (Int32) :=
  ck x1 40 <|
  if (pgd x1.toNatClampNeg) = x2 then
    ck x1 40 <|
    if (lg_cmp (plf x1.toNatClampNeg) (0 : Int64)) ≤ 0 then
      some ((0 : Int32))
    else
      ck x1 40 <|
      if (pun x1.toNatClampNeg) < x3 then
        some ((0 : Int32))
      else
        some ((1 : Int32))
  else
    some ((0 : Int32))
set_option maxHeartbeats 4000000 in
set_option maxRecDepth 100000 in
theorem c_X4_isOpen {l : Launch} {D : va_G} {cI cJ cZ : ClassId} {a : Nat → Nat} {sz : Nat} {vl : Nat → Int32} {hs : Nat → Int32} {isz : Nat → Int32} {igd : Nat → Int32} {iup : Nat → Int32} {idn : Nat → Int32} {osz : Nat → Int32} {ogd : Nat → Int32} {oup : Nat → Int32} {odn : Nat → Int32} {dep : Nat → Int32} {rsz : Int32} {lgd : Nat → Int32} {llf : Nat → Int64} {ldb : Nat → Int64} {ldy : Nat → Int32} {lsz : Int32} {lti : Int64} {pgd : Nat → Int32} {plf : Nat → Int64} {pun : Nat → Int32} {psz : Int32} {bgd : Nat → Int32} {bam : Nat → Int64} {bwt : Nat → Int64} {bsh : Nat → Int64} {brm : Nat → Int64} {bsz : Int32} {cab : Nat → Int64} {cbl : Nat → Int64} {tod : Int32} {imp : Int64} {dis : Int64} {owe : Int64} {itr : Int64} {x1 : Int32} {x2 : Int32} {x3 : Int32} {o : Int32} (hf : f_X4_isOpen pgd plf pun x1 x2 x3 = some o) : gMi l yX4_isOpen wsX4_isOpen rm_X4_isOpen D (gT cI cJ cZ) (cW a cI cJ cZ vl hs isz igd iup idn osz ogd oup odn dep rsz lgd llf ldb ldy lsz lti pgd plf pun psz bgd bam bwt bsh brm bsz cab cbl tod imp dis owe itr) (cW a cI cJ cZ vl hs isz igd iup idn osz ogd oup odn dep rsz lgd llf ldb ldy lsz lti pgd plf pun psz bgd bam bwt bsh brm bsz cab cbl tod imp dis owe itr) sz [.ref (a 20), .int x1, .int x2, .int x3] o := by
  refine g_of (cc := cX4_isOpen) (maxL := 4) (ret := (some .boolean)) (by decide) rfl (Nat.le_of_ble_eq_true rfl) ?_
  intro p e s m below meth c A ls hAe C hl E
  rw [← hAe]
  obtain ⟨hx, hb, hr, hml, hown, hts, hlocks, hN, hA⟩ := id C
  have hl : lv_has ls 4 [(0, .ref (a 20)), (1, .int x1), (2, .int x2), (3, .int x3)] := hl
  have E : vE s A D (gT cI cJ cZ) (cW a cI cJ cZ vl hs isz igd iup idn osz ogd oup odn dep rsz lgd llf ldb ldy lsz lti pgd plf pun psz bgd bam bwt bsh brm bsz cab cbl tod imp dis owe itr) s.heap [] := E
  rw [f_X4_isOpen] at hf
  refine lv_aload_n hx hb dX4_isOpen_0 rfl (lv_at hl 0 rfl) ?_
  refine g_get C E 20 0 (fun _ h => List.mem_cons_of_mem _ (List.mem_append_right _ h)) rfl rfl (by decide) (List.mem_of_getElem? (i := 1) rfl) rfl rfl dX4_isOpen_1 ?_
  refine lv_iload_n hx hb dX4_isOpen_4 rfl (lv_at hl 1 rfl) ?_
  obtain ⟨h1, hf⟩ := ck_some hf
  refine g_iald C E 21 rfl h1 dX4_isOpen_5 ?_
  refine lv_iload_n hx hb dX4_isOpen_6 rfl (lv_at hl 2 rfl) ?_
  refine lv_icmp_ne (tgt := 35) hx hb dX4_isOpen_7 (by decide) (fun c2 => ?_) (fun c2 => ?_)
  · rw [if_neg c2] at hf
    refine lv_iconst (v := 0) hx hb dX4_isOpen_35 (by decide) ?_
    obtain rfl := Option.some.inj hf
    exact g_zret (r := 0) C E rfl dX4_isOpen_36
  · rw [if_pos c2] at hf
    refine lv_aload_n hx hb dX4_isOpen_10 rfl (lv_at hl 0 rfl) ?_
    refine g_get C E 20 1 (fun _ h => List.mem_cons_of_mem _ (List.mem_append_right _ h)) rfl rfl (by decide) (List.mem_of_getElem? (i := 2) rfl) rfl rfl dX4_isOpen_11 ?_
    refine lv_iload_n hx hb dX4_isOpen_14 rfl (lv_at hl 1 rfl) ?_
    obtain ⟨h3, hf⟩ := ck_some hf
    refine g_lald C E 22 rfl h3 dX4_isOpen_15 ?_
    refine lv_lconst (v := 0) hx hb dX4_isOpen_16 (by decide) ?_
    refine W.lcmp hx hb dX4_isOpen_17 ?_
    refine lv_if_le (tgt := 35) hx hb dX4_isOpen_18 (by decide) (fun c4 => ?_) (fun c4 => ?_)
    · rw [if_pos c4] at hf
      refine lv_iconst (v := 0) hx hb dX4_isOpen_35 (by decide) ?_
      obtain rfl := Option.some.inj hf
      exact g_zret (r := 0) C E rfl dX4_isOpen_36
    · rw [if_neg c4] at hf
      refine lv_aload_n hx hb dX4_isOpen_21 rfl (lv_at hl 0 rfl) ?_
      refine g_get C E 20 2 (fun _ h => List.mem_cons_of_mem _ (List.mem_append_right _ h)) rfl rfl (by decide) (List.mem_of_getElem? (i := 3) rfl) rfl rfl dX4_isOpen_22 ?_
      refine lv_iload_n hx hb dX4_isOpen_25 rfl (lv_at hl 1 rfl) ?_
      obtain ⟨h5, hf⟩ := ck_some hf
      refine g_iald C E 23 rfl h5 dX4_isOpen_26 ?_
      refine lv_iload_n hx hb dX4_isOpen_27 rfl (lv_at hl 3 rfl) ?_
      refine lv_icmp_lt (tgt := 35) hx hb dX4_isOpen_28 (by decide) (fun c6 => ?_) (fun c6 => ?_)
      · rw [if_pos c6] at hf
        refine lv_iconst (v := 0) hx hb dX4_isOpen_35 (by decide) ?_
        obtain rfl := Option.some.inj hf
        exact g_zret (r := 0) C E rfl dX4_isOpen_36
      · rw [if_neg c6] at hf
        refine lv_iconst (v := 1) hx hb dX4_isOpen_31 (by decide) ?_
        refine lv_goto (tgt := 36) hx hb dX4_isOpen_32 (by decide) ?_
        obtain rfl := Option.some.inj hf
        exact g_zret (r := 1) C E rfl dX4_isOpen_36
abbrev rm_X4_openOf : Room := { frames := 1, cells := 0, slots := 0, locals := 23 }
theorem hd_X4_openOf : yX4_openOf.cls ≠ "java/lang/invoke/MethodHandle" ∧ yX4_openOf.cls ≠ "java/lang/invoke/VarHandle" ∧ (parseMethodDescriptor yX4_openOf.desc).map (fun d => d.parameters.length) = some 2 := by decide +kernel
def f_X4_openOf_L5 (pgd : Nat → Int32) (plf : Nat → Int64) (pun : Nat → Int32) (psz : Int32) (x1 : Int32) (x2 : Int32) : Nat → Int64 → Int32 → Option (Int64)
  | 0, _, _ => none
  | n + 1, x3, x5 =>
  if psz ≤ x5 then
    some (x3)
  else
    (f_X4_isOpen pgd plf pun x5 x1 x2).bind fun o2 =>
    if o2 = 0 then
      f_X4_openOf_L5 pgd plf pun psz x1 x2 n (x3 + (0 : Int64)) (x5 + 1)
    else
      ck x5 40 <|
      f_X4_openOf_L5 pgd plf pun psz x1 x2 n (x3 + (plf x5.toNatClampNeg)) (x5 + 1)
set_option maxHeartbeats 4000000 in
set_option maxRecDepth 100000 in
theorem w_X4_openOf_L5 {p : Program} {l : Launch} {e : Env} {s : State} {m : MethodId} {args : Array Value} {below : List Frame} {meth : Method} {c : Code} {A : Nat → Prop} {D : va_G} {cI cJ cZ : ClassId} {a : Nat → Nat} {vl : Nat → Int32} {hs : Nat → Int32} {isz : Nat → Int32} {igd : Nat → Int32} {iup : Nat → Int32} {idn : Nat → Int32} {osz : Nat → Int32} {ogd : Nat → Int32} {oup : Nat → Int32} {odn : Nat → Int32} {dep : Nat → Int32} {rsz : Int32} {lgd : Nat → Int32} {llf : Nat → Int64} {ldb : Nat → Int64} {ldy : Nat → Int32} {lsz : Int32} {lti : Int64} {pgd : Nat → Int32} {plf : Nat → Int64} {pun : Nat → Int32} {psz : Int32} {bgd : Nat → Int32} {bam : Nat → Int64} {bwt : Nat → Int64} {bsh : Nat → Int64} {brm : Nat → Int64} {bsz : Int32} {cab : Nat → Int64} {cbl : Nat → Int64} {tod : Int32} {imp : Int64} {dis : Int64} {owe : Int64} {itr : Int64} (C : gC p s m args meth c cX4_openOf 6 (some .long) wsX4_openOf RX4 A) {x1 : Int32} {x2 : Int32} {o : Int64} :
    ∀ (n : Nat) (x3 : Int64) (x5 : Int32) (H : Heap) (locs : List Loc) (ls : Array Slot), vE s A D (gT cI cJ cZ) (cW a cI cJ cZ vl hs isz igd iup idn osz ogd oup odn dep rsz lgd llf ldb ldy lsz lti pgd plf pun psz bgd bam bwt bsh brm bsz cab cbl tod imp dis owe itr) H locs → lv_has ls 6 [(0, .ref (a 20)), (1, .int x1), (2, .int x2), (3, .long x3), (5, .int x5)] → f_X4_openOf_L5 pgd plf pun psz x1 x2 n x3 x5 = some o → W p l e rm_X4_openOf s m args below meth c H locs 0 0 (MQ below (gQl D (gT cI cJ cZ) A (cW a cI cJ cZ vl hs isz igd iup idn osz ogd oup odn dep rsz lgd llf ldb ldy lsz lti pgd plf pun psz bgd bam bwt bsh brm bsz cab cbl tod imp dis owe itr) o) args s 0 0 A) (F0 m 5 ls []) := by
  obtain ⟨hx, hb, hr, hml, hown, hts, hlocks, hN, hA⟩ := id C
  intro n
  induction n with
  | zero =>
    intro x3 x5 H locs ls E hl hf
    rw [f_X4_openOf_L5] at hf
    cases hf
  | succ n ih =>
    intro x3 x5 H locs ls E hl hf
    rw [f_X4_openOf_L5] at hf
    refine lv_iload hx hb dX4_openOf_5 (lv_at hl 4 rfl) ?_
    refine lv_aload_n hx hb dX4_openOf_7 rfl (lv_at hl 0 rfl) ?_
    refine g_get C E 20 3 (fun _ h => List.mem_cons_of_mem _ (List.mem_append_right _ h)) rfl rfl (by decide) (List.mem_of_getElem? (i := 1) rfl) rfl rfl dX4_openOf_8 ?_
    refine lv_icmp_ge (tgt := 45) hx hb dX4_openOf_11 (by decide) (fun c1 => ?_) (fun c1 => ?_)
    · rw [if_pos c1] at hf
      refine lv_lload_n hx hb dX4_openOf_45 rfl (lv_at hl 3 rfl) ?_
      obtain rfl := Option.some.inj hf
      exact g_lret C E dX4_openOf_46
    · rw [if_neg c1] at hf
      refine lv_lload_n hx hb dX4_openOf_14 rfl (lv_at hl 3 rfl) ?_
      refine lv_aload_n hx hb dX4_openOf_15 rfl (lv_at hl 0 rfl) ?_
      refine lv_iload hx hb dX4_openOf_16 (lv_at hl 4 rfl) ?_
      refine lv_iload_n hx hb dX4_openOf_18 rfl (lv_at hl 1 rfl) ?_
      refine lv_iload_n hx hb dX4_openOf_19 rfl (lv_at hl 2 rfl) ?_
      obtain ⟨o2, e3, hf⟩ := bd_some hf
      refine g_calli (w' := (cW a cI cJ cZ vl hs isz igd iup idn osz ogd oup odn dep rsz lgd llf ldb ldy lsz lti pgd plf pun psz bgd bam bwt bsh brm bsz cab cbl tod imp dis owe itr)) C E (g_runV (As := [.int x5, .int x1, .int x2]) (rest := [.long x3]) C E (c_X4_isOpen e3) (cwV 3 hts gX4_openOf_X4_isOpen rfl rfl rfl ⟨rfl, hd_X4_isOpen⟩ ⟨Nat.le_of_ble_eq_true rfl, Nat.le_of_ble_eq_true rfl⟩) (q0 := 20) (ci := 4) rfl rfl rfl rfl hl.1 rfl (Nat.le_of_ble_eq_true rfl) dX4_openOf_20 ⟨Nat.le_of_ble_eq_true rfl, Nat.le_of_ble_eq_true rfl⟩) (fun H locs E => ?_)
      refine lv_if_eq (tgt := 36) hx hb dX4_openOf_23 (by decide) (fun c4 => ?_) (fun c4 => ?_)
      · rw [if_pos c4] at hf
        refine lv_lconst (v := 0) hx hb dX4_openOf_36 (by decide) ?_
        refine lv_ladd hx hb dX4_openOf_37 ?_
        refine lv_lstore_n (lv' := [(3, .long (x3 + (0 : Int64))), (0, .ref (a 20)), (1, .int x1), (2, .int x2), (5, .int x5)]) hx hb dX4_openOf_38 rfl hl (by decide) rfl (fun ls hl => ?_)
        refine lv_iinc (v := (x5 + 1)) (lv' := [(5, .int (x5 + 1)), (3, .long (x3 + (0 : Int64))), (0, .ref (a 20)), (1, .int x1), (2, .int x2)]) hx hb dX4_openOf_39 hl (k := 4) rfl rfl (by decide) rfl (fun ls hl => ?_)
        refine lv_goto (tgt := 5) hx hb dX4_openOf_42 (by decide) ?_
        exact ih (x3 + (0 : Int64)) (x5 + 1) _ _ _ E (lv_sub hl [2, 3, 4, 1, 0] rfl) hf
      · rw [if_neg c4] at hf
        refine lv_aload_n hx hb dX4_openOf_26 rfl (lv_at hl 0 rfl) ?_
        refine g_get C E 20 1 (fun _ h => List.mem_cons_of_mem _ (List.mem_append_right _ h)) rfl rfl (by decide) (List.mem_of_getElem? (i := 2) rfl) rfl rfl dX4_openOf_27 ?_
        refine lv_iload hx hb dX4_openOf_30 (lv_at hl 4 rfl) ?_
        obtain ⟨h5, hf⟩ := ck_some hf
        refine g_lald C E 22 rfl h5 dX4_openOf_32 ?_
        refine lv_goto (tgt := 37) hx hb dX4_openOf_33 (by decide) ?_
        refine lv_ladd hx hb dX4_openOf_37 ?_
        refine lv_lstore_n (lv' := [(3, .long (x3 + (plf x5.toNatClampNeg))), (0, .ref (a 20)), (1, .int x1), (2, .int x2), (5, .int x5)]) hx hb dX4_openOf_38 rfl hl (by decide) rfl (fun ls hl => ?_)
        refine lv_iinc (v := (x5 + 1)) (lv' := [(5, .int (x5 + 1)), (3, .long (x3 + (plf x5.toNatClampNeg))), (0, .ref (a 20)), (1, .int x1), (2, .int x2)]) hx hb dX4_openOf_39 hl (k := 4) rfl rfl (by decide) rfl (fun ls hl => ?_)
        refine lv_goto (tgt := 5) hx hb dX4_openOf_42 (by decide) ?_
        exact ih (x3 + (plf x5.toNatClampNeg)) (x5 + 1) _ _ _ E (lv_sub hl [2, 3, 4, 1, 0] rfl) hf
def f_X4_openOf (pgd : Nat → Int32) (plf : Nat → Int64) (pun : Nat → Int32) (psz : Int32) (x1 : Int32) (x2 : Int32) : Option (Int64) :=
  f_X4_openOf_L5 pgd plf pun psz x1 x2 FU (0 : Int64) (0 : Int32)
set_option maxHeartbeats 4000000 in
set_option maxRecDepth 100000 in
theorem c_X4_openOf {l : Launch} {D : va_G} {cI cJ cZ : ClassId} {a : Nat → Nat} {sz : Nat} {vl : Nat → Int32} {hs : Nat → Int32} {isz : Nat → Int32} {igd : Nat → Int32} {iup : Nat → Int32} {idn : Nat → Int32} {osz : Nat → Int32} {ogd : Nat → Int32} {oup : Nat → Int32} {odn : Nat → Int32} {dep : Nat → Int32} {rsz : Int32} {lgd : Nat → Int32} {llf : Nat → Int64} {ldb : Nat → Int64} {ldy : Nat → Int32} {lsz : Int32} {lti : Int64} {pgd : Nat → Int32} {plf : Nat → Int64} {pun : Nat → Int32} {psz : Int32} {bgd : Nat → Int32} {bam : Nat → Int64} {bwt : Nat → Int64} {bsh : Nat → Int64} {brm : Nat → Int64} {bsz : Int32} {cab : Nat → Int64} {cbl : Nat → Int64} {tod : Int32} {imp : Int64} {dis : Int64} {owe : Int64} {itr : Int64} {x1 : Int32} {x2 : Int32} {o : Int64} (hf : f_X4_openOf pgd plf pun psz x1 x2 = some o) : gMl l yX4_openOf wsX4_openOf rm_X4_openOf D (gT cI cJ cZ) (cW a cI cJ cZ vl hs isz igd iup idn osz ogd oup odn dep rsz lgd llf ldb ldy lsz lti pgd plf pun psz bgd bam bwt bsh brm bsz cab cbl tod imp dis owe itr) (cW a cI cJ cZ vl hs isz igd iup idn osz ogd oup odn dep rsz lgd llf ldb ldy lsz lti pgd plf pun psz bgd bam bwt bsh brm bsz cab cbl tod imp dis owe itr) sz [.ref (a 20), .int x1, .int x2] o := by
  refine g_of (cc := cX4_openOf) (maxL := 6) (ret := (some .long)) (by decide) rfl (Nat.le_of_ble_eq_true rfl) ?_
  intro p e s m below meth c A ls hAe C hl E
  rw [← hAe]
  obtain ⟨hx, hb, hr, hml, hown, hts, hlocks, hN, hA⟩ := id C
  have hl : lv_has ls 6 [(0, .ref (a 20)), (1, .int x1), (2, .int x2)] := hl
  have E : vE s A D (gT cI cJ cZ) (cW a cI cJ cZ vl hs isz igd iup idn osz ogd oup odn dep rsz lgd llf ldb ldy lsz lti pgd plf pun psz bgd bam bwt bsh brm bsz cab cbl tod imp dis owe itr) s.heap [] := E
  rw [f_X4_openOf] at hf
  refine lv_lconst (v := 0) hx hb dX4_openOf_0 (by decide) ?_
  refine lv_lstore_n (lv' := [(3, .long (0 : Int64)), (0, .ref (a 20)), (1, .int x1), (2, .int x2)]) hx hb dX4_openOf_1 rfl hl (by decide) rfl (fun ls hl => ?_)
  refine lv_iconst (v := 0) hx hb dX4_openOf_2 (by decide) ?_
  refine lv_istore (lv' := [(5, .int (0 : Int32)), (3, .long (0 : Int64)), (0, .ref (a 20)), (1, .int x1), (2, .int x2)]) hx hb dX4_openOf_3 hl (by decide) rfl (fun ls hl => ?_)
  exact w_X4_openOf_L5 C  FU (0 : Int64) (0 : Int32) _ _ _ E (lv_sub hl [2, 3, 4, 1, 0] rfl) hf
abbrev rm_X4_meet : Room := { frames := 2, cells := 0, slots := 0, locals := 48 }
theorem hd_X4_meet : yX4_meet.cls ≠ "java/lang/invoke/MethodHandle" ∧ yX4_meet.cls ≠ "java/lang/invoke/VarHandle" ∧ (parseMethodDescriptor yX4_meet.desc).map (fun d => d.parameters.length) = some 3 := by decide +kernel
def f_X4_meet_L23 (lgd : Nat → Int32) (pgd : Nat → Int32) (pun : Nat → Int32) (psz : Int32) (x2 : Int32) (x3 : Int32) : Nat → (Nat → Int64) → (Nat → Int64) → (Nat → Int64) → Int64 → Int32 → Option (Int64 × (Nat → Int64) × (Nat → Int64) × (Nat → Int64))
  | 0, _, _, _, _, _ => none
  | n + 1, llf, ldb, plf, x4, x6 =>
  if psz ≤ x6 then
    some (x4, llf, ldb, plf)
  else
    ck x2 200 <|
    if (lg_cmp (llf x2.toNatClampNeg) (0 : Int64)) ≤ 0 then
      some (x4, llf, ldb, plf)
    else
      ck x2 200 <|
      (f_X4_isOpen pgd plf pun x6 (lgd x2.toNatClampNeg) x3).bind fun o5 =>
      if o5 = 0 then
        f_X4_meet_L23 lgd pgd pun psz x2 x3 n llf ldb plf x4 (x6 + 1)
      else
        ck x6 40 <|
        ck x2 200 <|
        (f_X2_takeFrom llf ldb x2 (if (llf x2.toNatClampNeg) < (plf x6.toNatClampNeg) then (llf x2.toNatClampNeg) else (plf x6.toNatClampNeg))).bind fun o10 =>
        ck x6 40 <|
        ck x6 40 <|
        f_X4_meet_L23 lgd pgd pun psz x2 x3 n o10.2.1 o10.2.2 (vp_updL plf x6.toNatClampNeg ((plf x6.toNatClampNeg) - (if (llf x2.toNatClampNeg) < (plf x6.toNatClampNeg) then (llf x2.toNatClampNeg) else (plf x6.toNatClampNeg)))) (x4 + o10.1) (x6 + 1)
set_option maxHeartbeats 4000000 in
set_option maxRecDepth 100000 in
theorem w_X4_meet_L23 {p : Program} {l : Launch} {e : Env} {s : State} {m : MethodId} {args : Array Value} {below : List Frame} {meth : Method} {c : Code} {A : Nat → Prop} {D : va_G} {cI cJ cZ : ClassId} {a : Nat → Nat} {vl : Nat → Int32} {hs : Nat → Int32} {isz : Nat → Int32} {igd : Nat → Int32} {iup : Nat → Int32} {idn : Nat → Int32} {osz : Nat → Int32} {ogd : Nat → Int32} {oup : Nat → Int32} {odn : Nat → Int32} {dep : Nat → Int32} {rsz : Int32} {lgd : Nat → Int32} {ldy : Nat → Int32} {lsz : Int32} {lti : Int64} {pgd : Nat → Int32} {pun : Nat → Int32} {psz : Int32} {bgd : Nat → Int32} {bam : Nat → Int64} {bwt : Nat → Int64} {bsh : Nat → Int64} {brm : Nat → Int64} {bsz : Int32} {cab : Nat → Int64} {cbl : Nat → Int64} {tod : Int32} {imp : Int64} {dis : Int64} {owe : Int64} {itr : Int64} (C : gC p s m args meth c cX4_meet 9 (some .long) wsX4_meet RX4 A) {x2 : Int32} {x3 : Int32} {o : Int64 × (Nat → Int64) × (Nat → Int64) × (Nat → Int64)} :
    ∀ (n : Nat) (llf : Nat → Int64) (ldb : Nat → Int64) (plf : Nat → Int64) (x4 : Int64) (x6 : Int32) (H : Heap) (locs : List Loc) (ls : Array Slot), vE s A D (gT cI cJ cZ) (cW a cI cJ cZ vl hs isz igd iup idn osz ogd oup odn dep rsz lgd llf ldb ldy lsz lti pgd plf pun psz bgd bam bwt bsh brm bsz cab cbl tod imp dis owe itr) H locs → lv_has ls 9 [(0, .ref (a 20)), (1, .ref (a 15)), (2, .int x2), (3, .int x3), (4, .long x4), (6, .int x6)] → f_X4_meet_L23 lgd pgd pun psz x2 x3 n llf ldb plf x4 x6 = some o → W p l e rm_X4_meet s m args below meth c H locs 0 0 (MQ below (gQl D (gT cI cJ cZ) A (cW a cI cJ cZ vl hs isz igd iup idn osz ogd oup odn dep rsz lgd o.2.1 o.2.2.1 ldy lsz lti pgd o.2.2.2 pun psz bgd bam bwt bsh brm bsz cab cbl tod imp dis owe itr) o.1) args s 0 0 A) (F0 m 23 ls []) := by
  obtain ⟨hx, hb, hr, hml, hown, hts, hlocks, hN, hA⟩ := id C
  intro n
  induction n with
  | zero =>
    intro llf ldb plf x4 x6 H locs ls E hl hf
    rw [f_X4_meet_L23] at hf
    cases hf
  | succ n ih =>
    intro llf ldb plf x4 x6 H locs ls E hl hf
    rw [f_X4_meet_L23] at hf
    refine lv_iload hx hb dX4_meet_23 (lv_at hl 5 rfl) ?_
    refine lv_aload_n hx hb dX4_meet_25 rfl (lv_at hl 0 rfl) ?_
    refine g_get C E 20 3 (fun _ h => List.mem_cons_of_mem _ (List.mem_append_right _ h)) rfl rfl (by decide) (List.mem_of_getElem? (i := 2) rfl) rfl rfl dX4_meet_26 ?_
    refine lv_icmp_ge (tgt := 107) hx hb dX4_meet_29 (by decide) (fun c1 => ?_) (fun c1 => ?_)
    · rw [if_pos c1] at hf
      refine lv_lload hx hb dX4_meet_107 (lv_at hl 4 rfl) ?_
      obtain rfl := Option.some.inj hf
      exact g_lret C E dX4_meet_109
    · rw [if_neg c1] at hf
      refine lv_aload_n hx hb dX4_meet_32 rfl (lv_at hl 1 rfl) ?_
      refine g_get C E 15 1 (fun _ h => List.mem_cons_of_mem _ (List.mem_append_left _ (List.mem_append_right _ h))) rfl rfl (by decide) (List.mem_of_getElem? (i := 3) rfl) rfl rfl dX4_meet_33 ?_
      refine lv_iload_n hx hb dX4_meet_36 rfl (lv_at hl 2 rfl) ?_
      obtain ⟨h2, hf⟩ := ck_some hf
      refine g_lald C E 17 rfl h2 dX4_meet_37 ?_
      refine lv_lconst (v := 0) hx hb dX4_meet_38 (by decide) ?_
      refine W.lcmp hx hb dX4_meet_39 ?_
      refine lv_if_le (tgt := 107) hx hb dX4_meet_40 (by decide) (fun c3 => ?_) (fun c3 => ?_)
      · rw [if_pos c3] at hf
        refine lv_lload hx hb dX4_meet_107 (lv_at hl 4 rfl) ?_
        obtain rfl := Option.some.inj hf
        exact g_lret C E dX4_meet_109
      · rw [if_neg c3] at hf
        refine lv_aload_n hx hb dX4_meet_43 rfl (lv_at hl 0 rfl) ?_
        refine lv_iload hx hb dX4_meet_44 (lv_at hl 5 rfl) ?_
        refine lv_aload_n hx hb dX4_meet_46 rfl (lv_at hl 1 rfl) ?_
        refine g_get C E 15 0 (fun _ h => List.mem_cons_of_mem _ (List.mem_append_left _ (List.mem_append_right _ h))) rfl rfl (by decide) (List.mem_of_getElem? (i := 4) rfl) rfl rfl dX4_meet_47 ?_
        refine lv_iload_n hx hb dX4_meet_50 rfl (lv_at hl 2 rfl) ?_
        obtain ⟨h4, hf⟩ := ck_some hf
        refine g_iald C E 16 rfl h4 dX4_meet_51 ?_
        refine lv_iload_n hx hb dX4_meet_52 rfl (lv_at hl 3 rfl) ?_
        obtain ⟨o5, e6, hf⟩ := bd_some hf
        refine g_calli (w' := (cW a cI cJ cZ vl hs isz igd iup idn osz ogd oup odn dep rsz lgd llf ldb ldy lsz lti pgd plf pun psz bgd bam bwt bsh brm bsz cab cbl tod imp dis owe itr)) C E (g_runV (As := [.int x6, .int (lgd x2.toNatClampNeg), .int x3]) (rest := []) C E (c_X4_isOpen e6) (cwV 3 hts gX4_meet_X4_isOpen rfl rfl rfl ⟨rfl, hd_X4_isOpen⟩ ⟨Nat.le_of_ble_eq_true rfl, Nat.le_of_ble_eq_true rfl⟩) (q0 := 20) (ci := 4) rfl rfl rfl rfl hl.1 rfl (Nat.le_of_ble_eq_true rfl) dX4_meet_53 ⟨Nat.le_of_ble_eq_true rfl, Nat.le_of_ble_eq_true rfl⟩) (fun H locs E => ?_)
        refine lv_if_eq (tgt := 101) hx hb dX4_meet_56 (by decide) (fun c7 => ?_) (fun c7 => ?_)
        · rw [if_pos c7] at hf
          refine lv_iinc (v := (x6 + 1)) (lv' := [(6, .int (x6 + 1)), (0, .ref (a 20)), (1, .ref (a 15)), (2, .int x2), (3, .int x3), (4, .long x4)]) hx hb dX4_meet_101 hl (k := 5) rfl rfl (by decide) rfl (fun ls hl => ?_)
          refine lv_goto (tgt := 23) hx hb dX4_meet_104 (by decide) ?_
          exact ih llf ldb plf x4 (x6 + 1) _ _ _ E (lv_sub hl [1, 2, 3, 4, 5, 0] rfl) hf
        · rw [if_neg c7] at hf
          refine lv_aload_n hx hb dX4_meet_59 rfl (lv_at hl 0 rfl) ?_
          refine g_get C E 20 1 (fun _ h => List.mem_cons_of_mem _ (List.mem_append_right _ h)) rfl rfl (by decide) (List.mem_of_getElem? (i := 5) rfl) rfl rfl dX4_meet_60 ?_
          refine lv_iload hx hb dX4_meet_63 (lv_at hl 5 rfl) ?_
          obtain ⟨h8, hf⟩ := ck_some hf
          refine g_lald C E 22 rfl h8 dX4_meet_65 ?_
          refine lv_aload_n hx hb dX4_meet_66 rfl (lv_at hl 1 rfl) ?_
          refine g_get C E 15 1 (fun _ h => List.mem_cons_of_mem _ (List.mem_append_left _ (List.mem_append_right _ h))) rfl rfl (by decide) (List.mem_of_getElem? (i := 3) rfl) rfl rfl dX4_meet_67 ?_
          refine lv_iload_n hx hb dX4_meet_70 rfl (lv_at hl 2 rfl) ?_
          obtain ⟨h9, hf⟩ := ck_some hf
          refine g_lald C E 17 rfl h9 dX4_meet_71 ?_
          refine va_mmin_long hx hb (hml.trans hl.1.symm) hown (hts (.methodLink RX4 38 Lib.MathLoose.min_long.x) (List.mem_of_getElem? (i := 6) rfl)) (hts (.static Lib.MathLoose.min_long.x) (List.mem_of_getElem? (i := 7) rfl)) (hts (.initialized "java/lang/Math") (List.mem_of_getElem? (i := 8) rfl)) (hts (.code Lib.MathLoose.min_long.x Lib.MathLoose.min_long.code 4 (some .long)) (List.mem_of_getElem? (i := 9) rfl)) (Nat.le_of_ble_eq_true rfl) (Nat.le_of_ble_eq_true rfl) (Nat.le_of_ble_eq_true rfl) (Nat.le_of_ble_eq_true rfl) dX4_meet_72 ?_
          refine lv_lstore (lv' := [(7, .long (if (llf x2.toNatClampNeg) < (plf x6.toNatClampNeg) then (llf x2.toNatClampNeg) else (plf x6.toNatClampNeg))), (0, .ref (a 20)), (1, .ref (a 15)), (2, .int x2), (3, .int x3), (4, .long x4), (6, .int x6)]) hx hb dX4_meet_75 hl (by decide) rfl (fun ls hl => ?_)
          refine lv_lload hx hb dX4_meet_77 (lv_at hl 5 rfl) ?_
          refine lv_aload_n hx hb dX4_meet_79 rfl (lv_at hl 2 rfl) ?_
          refine lv_iload_n hx hb dX4_meet_80 rfl (lv_at hl 3 rfl) ?_
          refine lv_lload hx hb dX4_meet_81 (lv_at hl 0 rfl) ?_
          obtain ⟨o10, e11, hf⟩ := bd_some hf
          refine g_calll (w' := (cW a cI cJ cZ vl hs isz igd iup idn osz ogd oup odn dep rsz lgd o10.2.1 o10.2.2 ldy lsz lti pgd plf pun psz bgd bam bwt bsh brm bsz cab cbl tod imp dis owe itr)) C E (g_runV (As := [.int x2, .long (if (llf x2.toNatClampNeg) < (plf x6.toNatClampNeg) then (llf x2.toNatClampNeg) else (plf x6.toNatClampNeg))]) (rest := [.long x4]) C E (c_X2_takeFrom e11) (cwV 2 hts gX4_meet_X2_takeFrom rfl rfl rfl ⟨rfl, hd_X2_takeFrom⟩ ⟨Nat.le_of_ble_eq_true rfl, Nat.le_of_ble_eq_true rfl⟩) (q0 := 15) (ci := 2) rfl rfl rfl rfl hl.1 rfl (Nat.le_of_ble_eq_true rfl) dX4_meet_83 ⟨Nat.le_of_ble_eq_true rfl, Nat.le_of_ble_eq_true rfl⟩) (fun H locs E => ?_)
          refine lv_ladd hx hb dX4_meet_86 ?_
          refine lv_lstore (lv' := [(4, .long (x4 + o10.1)), (7, .long (if (llf x2.toNatClampNeg) < (plf x6.toNatClampNeg) then (llf x2.toNatClampNeg) else (plf x6.toNatClampNeg))), (0, .ref (a 20)), (1, .ref (a 15)), (2, .int x2), (3, .int x3), (6, .int x6)]) hx hb dX4_meet_87 hl (by decide) rfl (fun ls hl => ?_)
          refine lv_aload_n hx hb dX4_meet_89 rfl (lv_at hl 2 rfl) ?_
          refine g_get C E 20 1 (fun _ h => List.mem_cons_of_mem _ (List.mem_append_right _ h)) rfl rfl (by decide) (List.mem_of_getElem? (i := 5) rfl) rfl rfl dX4_meet_90 ?_
          refine lv_iload hx hb dX4_meet_93 (lv_at hl 6 rfl) ?_
          refine lv_dup2_11 hx hb dX4_meet_95 rfl rfl ?_
          obtain ⟨h12, hf⟩ := ck_some hf
          refine g_lald C E 22 rfl h12 dX4_meet_96 ?_
          refine lv_lload hx hb dX4_meet_97 (lv_at hl 1 rfl) ?_
          refine lv_lsub hx hb dX4_meet_99 ?_
          obtain ⟨h13, hf⟩ := ck_some hf
          refine g_last (w' := (cW a cI cJ cZ vl hs isz igd iup idn osz ogd oup odn dep rsz lgd o10.2.1 o10.2.2 ldy lsz lti pgd (vp_updL plf x6.toNatClampNeg ((plf x6.toNatClampNeg) - (if (llf x2.toNatClampNeg) < (plf x6.toNatClampNeg) then (llf x2.toNatClampNeg) else (plf x6.toNatClampNeg)))) pun psz bgd bam bwt bsh brm bsz cab cbl tod imp dis owe itr)) C E 22 rfl h13 dX4_meet_100 rfl (fun H locs E => ?_)
          refine lv_iinc (v := (x6 + 1)) (lv' := [(6, .int (x6 + 1)), (4, .long (x4 + o10.1)), (7, .long (if (llf x2.toNatClampNeg) < (plf x6.toNatClampNeg) then (llf x2.toNatClampNeg) else (plf x6.toNatClampNeg))), (0, .ref (a 20)), (1, .ref (a 15)), (2, .int x2), (3, .int x3)]) hx hb dX4_meet_101 hl (k := 6) rfl rfl (by decide) rfl (fun ls hl => ?_)
          refine lv_goto (tgt := 23) hx hb dX4_meet_104 (by decide) ?_
          exact ih o10.2.1 o10.2.2 (vp_updL plf x6.toNatClampNeg ((plf x6.toNatClampNeg) - (if (llf x2.toNatClampNeg) < (plf x6.toNatClampNeg) then (llf x2.toNatClampNeg) else (plf x6.toNatClampNeg)))) (x4 + o10.1) (x6 + 1) _ _ _ E (lv_sub hl [3, 4, 5, 6, 1, 0] rfl) hf
def f_X4_meet (lgd : Nat → Int32) (llf : Nat → Int64) (ldb : Nat → Int64) (lsz : Int32) (pgd : Nat → Int32) (plf : Nat → Int64) (pun : Nat → Int32) (psz : Int32) (x2 : Int32) (x3 : Int32) : Option (Int64 × (Nat → Int64) × (Nat → Int64) × (Nat → Int64)) :=
  (f_X6_isWithin x2 (0 : Int32) (lsz - (1 : Int32))).bind fun o1 =>
  if o1 = 0 then
    some ((0 : Int64), llf, ldb, plf)
  else
    f_X4_meet_L23 lgd pgd pun psz x2 x3 FU llf ldb plf (0 : Int64) (0 : Int32)
set_option maxHeartbeats 4000000 in
set_option maxRecDepth 100000 in
theorem c_X4_meet {l : Launch} {D : va_G} {cI cJ cZ : ClassId} {a : Nat → Nat} {sz : Nat} {vl : Nat → Int32} {hs : Nat → Int32} {isz : Nat → Int32} {igd : Nat → Int32} {iup : Nat → Int32} {idn : Nat → Int32} {osz : Nat → Int32} {ogd : Nat → Int32} {oup : Nat → Int32} {odn : Nat → Int32} {dep : Nat → Int32} {rsz : Int32} {lgd : Nat → Int32} {llf : Nat → Int64} {ldb : Nat → Int64} {ldy : Nat → Int32} {lsz : Int32} {lti : Int64} {pgd : Nat → Int32} {plf : Nat → Int64} {pun : Nat → Int32} {psz : Int32} {bgd : Nat → Int32} {bam : Nat → Int64} {bwt : Nat → Int64} {bsh : Nat → Int64} {brm : Nat → Int64} {bsz : Int32} {cab : Nat → Int64} {cbl : Nat → Int64} {tod : Int32} {imp : Int64} {dis : Int64} {owe : Int64} {itr : Int64} {x2 : Int32} {x3 : Int32} {o : Int64 × (Nat → Int64) × (Nat → Int64) × (Nat → Int64)} (hf : f_X4_meet lgd llf ldb lsz pgd plf pun psz x2 x3 = some o) : gMl l yX4_meet wsX4_meet rm_X4_meet D (gT cI cJ cZ) (cW a cI cJ cZ vl hs isz igd iup idn osz ogd oup odn dep rsz lgd llf ldb ldy lsz lti pgd plf pun psz bgd bam bwt bsh brm bsz cab cbl tod imp dis owe itr) (cW a cI cJ cZ vl hs isz igd iup idn osz ogd oup odn dep rsz lgd o.2.1 o.2.2.1 ldy lsz lti pgd o.2.2.2 pun psz bgd bam bwt bsh brm bsz cab cbl tod imp dis owe itr) sz [.ref (a 20), .ref (a 15), .int x2, .int x3] o.1 := by
  refine g_of (cc := cX4_meet) (maxL := 9) (ret := (some .long)) (by decide) rfl (Nat.le_of_ble_eq_true rfl) ?_
  intro p e s m below meth c A ls hAe C hl E
  rw [← hAe]
  obtain ⟨hx, hb, hr, hml, hown, hts, hlocks, hN, hA⟩ := id C
  have hl : lv_has ls 9 [(0, .ref (a 20)), (1, .ref (a 15)), (2, .int x2), (3, .int x3)] := hl
  have E : vE s A D (gT cI cJ cZ) (cW a cI cJ cZ vl hs isz igd iup idn osz ogd oup odn dep rsz lgd llf ldb ldy lsz lti pgd plf pun psz bgd bam bwt bsh brm bsz cab cbl tod imp dis owe itr) s.heap [] := E
  rw [f_X4_meet] at hf
  refine lv_lconst (v := 0) hx hb dX4_meet_0 (by decide) ?_
  refine lv_lstore (lv' := [(4, .long (0 : Int64)), (0, .ref (a 20)), (1, .ref (a 15)), (2, .int x2), (3, .int x3)]) hx hb dX4_meet_1 hl (by decide) rfl (fun ls hl => ?_)
  refine lv_iload_n hx hb dX4_meet_3 rfl (lv_at hl 3 rfl) ?_
  refine lv_iconst (v := 0) hx hb dX4_meet_4 (by decide) ?_
  refine lv_aload_n hx hb dX4_meet_5 rfl (lv_at hl 2 rfl) ?_
  refine g_get C E 15 4 (fun _ h => List.mem_cons_of_mem _ (List.mem_append_left _ (List.mem_append_right _ h))) rfl rfl (by decide) (List.mem_of_getElem? (i := 1) rfl) rfl rfl dX4_meet_6 ?_
  refine lv_iconst (v := 1) hx hb dX4_meet_9 (by decide) ?_
  refine lv_isub hx hb dX4_meet_10 ?_
  obtain ⟨o1, e2, hf⟩ := bd_some hf
  refine g_calli (w' := (cW a cI cJ cZ vl hs isz igd iup idn osz ogd oup odn dep rsz lgd llf ldb ldy lsz lti pgd plf pun psz bgd bam bwt bsh brm bsz cab cbl tod imp dis owe itr)) C E (g_runSN (As := [.int x2, .int (0 : Int32), .int (lsz - (1 : Int32))]) (rest := []) C E (c_X6_isWithin e2) ⟨va_cnB 3 hts gX4_meet_X6_isWithin_n33 rfl rfl rfl (hN.1 _ (List.mem_of_getElem? (i := 12) rfl)) (hts (.initialized RX6) (List.mem_of_getElem? (i := 11) rfl)) hd_X6_isWithin ⟨Nat.le_of_ble_eq_true rfl, Nat.le_of_ble_eq_true rfl⟩, hts (.static yX6_isWithin) (List.mem_of_getElem? (i := 10) rfl), trivial⟩ rfl hl.1 rfl (Nat.le_of_ble_eq_true rfl) dX4_meet_11 ⟨Nat.le_of_ble_eq_true rfl, Nat.le_of_ble_eq_true rfl⟩) (fun H locs E => ?_)
  refine lv_if_ne (tgt := 20) hx hb dX4_meet_14 (by decide) (fun c3 => ?_) (fun c3 => ?_)
  · rw [if_neg c3] at hf
    refine lv_iconst (v := 0) hx hb dX4_meet_20 (by decide) ?_
    refine lv_istore (lv' := [(6, .int (0 : Int32)), (4, .long (0 : Int64)), (0, .ref (a 20)), (1, .ref (a 15)), (2, .int x2), (3, .int x3)]) hx hb dX4_meet_21 hl (by decide) rfl (fun ls hl => ?_)
    exact w_X4_meet_L23 C  FU llf ldb plf (0 : Int64) (0 : Int32) _ _ _ E (lv_sub hl [2, 3, 4, 5, 1, 0] rfl) hf
  · rw [if_pos c3] at hf
    refine lv_lload hx hb dX4_meet_17 (lv_at hl 0 rfl) ?_
    obtain rfl := Option.some.inj hf
    exact g_lret C E dX4_meet_19
