abbrev rm_X2_free : Room := { frames := 0, cells := 0, slots := 0, locals := 0 }
theorem hd_X2_free : yX2_free.cls ≠ "java/lang/invoke/MethodHandle" ∧ yX2_free.cls ≠ "java/lang/invoke/VarHandle" ∧ (parseMethodDescriptor yX2_free.desc).map (fun d => d.parameters.length) = some 0 := by decide +kernel
def f_X2_free (lsz : Int32)  : Option (Int32) :=
  some (((200 : Int32) - lsz))
set_option maxHeartbeats 4000000 in
set_option maxRecDepth 100000 in
theorem c_X2_free {l : Launch} {D : va_G} {cI cJ cZ : ClassId} {a : Nat → Nat} {sz : Nat} {vl : Nat → Int32} {hs : Nat → Int32} {isz : Nat → Int32} {igd : Nat → Int32} {iup : Nat → Int32} {idn : Nat → Int32} {osz : Nat → Int32} {ogd : Nat → Int32} {oup : Nat → Int32} {odn : Nat → Int32} {dep : Nat → Int32} {rsz : Int32} {lgd : Nat → Int32} {llf : Nat → Int64} {ldb : Nat → Int64} {ldy : Nat → Int32} {lsz : Int32} {lti : Int64} {pgd : Nat → Int32} {plf : Nat → Int64} {pun : Nat → Int32} {psz : Int32} {bgd : Nat → Int32} {bam : Nat → Int64} {bwt : Nat → Int64} {bsh : Nat → Int64} {brm : Nat → Int64} {bsz : Int32} {cab : Nat → Int64} {cbl : Nat → Int64} {tod : Int32} {imp : Int64} {dis : Int64} {owe : Int64} {itr : Int64} {o : Int32} (hf : f_X2_free lsz = some o) : gMi l yX2_free wsX2_free rm_X2_free D (gT cI cJ cZ) (cW a cI cJ cZ vl hs isz igd iup idn osz ogd oup odn dep rsz lgd llf ldb ldy lsz lti pgd plf pun psz bgd bam bwt bsh brm bsz cab cbl tod imp dis owe itr) (cW a cI cJ cZ vl hs isz igd iup idn osz ogd oup odn dep rsz lgd llf ldb ldy lsz lti pgd plf pun psz bgd bam bwt bsh brm bsz cab cbl tod imp dis owe itr) sz [.ref (a 15)] o := by
  refine g_of (cc := cX2_free) (maxL := 1) (ret := (some .int)) (by decide) rfl (Nat.le_of_ble_eq_true rfl) ?_
  intro p e s m below meth c A ls hAe C hl E
  rw [← hAe]
  obtain ⟨hx, hb, hr, hml, hown, hts, hlocks, hN, hA⟩ := id C
  have hl : lv_has ls 1 [(0, .ref (a 15))] := hl
  have E : vE s A D (gT cI cJ cZ) (cW a cI cJ cZ vl hs isz igd iup idn osz ogd oup odn dep rsz lgd llf ldb ldy lsz lti pgd plf pun psz bgd bam bwt bsh brm bsz cab cbl tod imp dis owe itr) s.heap [] := E
  rw [f_X2_free] at hf
  refine lv_sipush (v := 200) hx hb dX2_free_0 (by decide) ?_
  refine lv_aload_n hx hb dX2_free_3 rfl (lv_at hl 0 rfl) ?_
  refine g_get C E 15 4 (fun _ h => List.mem_cons_of_mem _ (List.mem_append_right _ h)) rfl rfl (by decide) (List.mem_of_getElem? (i := 1) rfl) rfl rfl dX2_free_4 ?_
  refine lv_isub hx hb dX2_free_7 ?_
  obtain rfl := Option.some.inj hf
  exact g_iret C E dX2_free_8
abbrev rm_X2_add : Room := { frames := 0, cells := 0, slots := 0, locals := 0 }
theorem hd_X2_add : yX2_add.cls ≠ "java/lang/invoke/MethodHandle" ∧ yX2_add.cls ≠ "java/lang/invoke/VarHandle" ∧ (parseMethodDescriptor yX2_add.desc).map (fun d => d.parameters.length) = some 4 := by decide +kernel
def f_X2_add (lgd : Nat → Int32) (llf : Nat → Int64) (ldb : Nat → Int64) (ldy : Nat → Int32) (lsz : Int32) (x1 : Int32) (x2 : Int64) (x4 : Int64) (x6 : Int32) : Option (Int32 × (Nat → Int32) × (Nat → Int64) × (Nat → Int64) × (Nat → Int32) × (Int32)) :=
  if lsz < (200 : Int32) then
    ck lsz 200 <|
    ck lsz 200 <|
    ck lsz 200 <|
    ck lsz 200 <|
    some (((lsz + (1 : Int32)) - (1 : Int32)), (upd lgd lsz.toNatClampNeg x1), (vp_updL llf lsz.toNatClampNeg x2), (vp_updL ldb lsz.toNatClampNeg x4), (upd ldy lsz.toNatClampNeg x6), (lsz + (1 : Int32)))
  else
    some ((-1 : Int32), lgd, llf, ldb, ldy, lsz)
set_option maxHeartbeats 4000000 in
set_option maxRecDepth 100000 in
theorem c_X2_add {l : Launch} {D : va_G} {cI cJ cZ : ClassId} {a : Nat → Nat} {sz : Nat} {vl : Nat → Int32} {hs : Nat → Int32} {isz : Nat → Int32} {igd : Nat → Int32} {iup : Nat → Int32} {idn : Nat → Int32} {osz : Nat → Int32} {ogd : Nat → Int32} {oup : Nat → Int32} {odn : Nat → Int32} {dep : Nat → Int32} {rsz : Int32} {lgd : Nat → Int32} {llf : Nat → Int64} {ldb : Nat → Int64} {ldy : Nat → Int32} {lsz : Int32} {lti : Int64} {pgd : Nat → Int32} {plf : Nat → Int64} {pun : Nat → Int32} {psz : Int32} {bgd : Nat → Int32} {bam : Nat → Int64} {bwt : Nat → Int64} {bsh : Nat → Int64} {brm : Nat → Int64} {bsz : Int32} {cab : Nat → Int64} {cbl : Nat → Int64} {tod : Int32} {imp : Int64} {dis : Int64} {owe : Int64} {itr : Int64} {x1 : Int32} {x2 : Int64} {x4 : Int64} {x6 : Int32} {o : Int32 × (Nat → Int32) × (Nat → Int64) × (Nat → Int64) × (Nat → Int32) × (Int32)} (hf : f_X2_add lgd llf ldb ldy lsz x1 x2 x4 x6 = some o) : gMi l yX2_add wsX2_add rm_X2_add D (gT cI cJ cZ) (cW a cI cJ cZ vl hs isz igd iup idn osz ogd oup odn dep rsz lgd llf ldb ldy lsz lti pgd plf pun psz bgd bam bwt bsh brm bsz cab cbl tod imp dis owe itr) (cW a cI cJ cZ vl hs isz igd iup idn osz ogd oup odn dep rsz o.2.1 o.2.2.1 o.2.2.2.1 o.2.2.2.2.1 o.2.2.2.2.2 lti pgd plf pun psz bgd bam bwt bsh brm bsz cab cbl tod imp dis owe itr) sz [.ref (a 15), .int x1, .long x2, .long x4, .int x6] o.1 := by
  refine g_of (cc := cX2_add) (maxL := 7) (ret := (some .int)) (by decide) rfl (Nat.le_of_ble_eq_true rfl) ?_
  intro p e s m below meth c A ls hAe C hl E
  rw [← hAe]
  obtain ⟨hx, hb, hr, hml, hown, hts, hlocks, hN, hA⟩ := id C
  have hl : lv_has ls 7 [(0, .ref (a 15)), (1, .int x1), (2, .long x2), (4, .long x4), (6, .int x6)] := hl
  have E : vE s A D (gT cI cJ cZ) (cW a cI cJ cZ vl hs isz igd iup idn osz ogd oup odn dep rsz lgd llf ldb ldy lsz lti pgd plf pun psz bgd bam bwt bsh brm bsz cab cbl tod imp dis owe itr) s.heap [] := E
  rw [f_X2_add] at hf
  refine lv_aload_n hx hb dX2_add_0 rfl (lv_at hl 0 rfl) ?_
  refine g_get C E 15 4 (fun _ h => List.mem_cons_of_mem _ (List.mem_append_right _ h)) rfl rfl (by decide) (List.mem_of_getElem? (i := 1) rfl) rfl rfl dX2_add_1 ?_
  refine lv_sipush (v := 200) hx hb dX2_add_4 (by decide) ?_
  refine lv_icmp_lt (tgt := 12) hx hb dX2_add_7 (by decide) (fun c1 => ?_) (fun c1 => ?_)
  · rw [if_pos c1] at hf
    refine lv_aload_n hx hb dX2_add_12 rfl (lv_at hl 0 rfl) ?_
    refine g_get C E 15 0 (fun _ h => List.mem_cons_of_mem _ (List.mem_append_right _ h)) rfl rfl (by decide) (List.mem_of_getElem? (i := 2) rfl) rfl rfl dX2_add_13 ?_
    refine lv_aload_n hx hb dX2_add_16 rfl (lv_at hl 0 rfl) ?_
    refine g_get C E 15 4 (fun _ h => List.mem_cons_of_mem _ (List.mem_append_right _ h)) rfl rfl (by decide) (List.mem_of_getElem? (i := 1) rfl) rfl rfl dX2_add_17 ?_
    refine lv_iload_n hx hb dX2_add_20 rfl (lv_at hl 1 rfl) ?_
    obtain ⟨h2, hf⟩ := ck_some hf
    refine g_iast (w' := (cW a cI cJ cZ vl hs isz igd iup idn osz ogd oup odn dep rsz (upd lgd lsz.toNatClampNeg x1) llf ldb ldy lsz lti pgd plf pun psz bgd bam bwt bsh brm bsz cab cbl tod imp dis owe itr)) C E 16 rfl h2 dX2_add_21 rfl (fun H locs E => ?_)
    refine lv_aload_n hx hb dX2_add_22 rfl (lv_at hl 0 rfl) ?_
    refine g_get C E 15 1 (fun _ h => List.mem_cons_of_mem _ (List.mem_append_right _ h)) rfl rfl (by decide) (List.mem_of_getElem? (i := 3) rfl) rfl rfl dX2_add_23 ?_
    refine lv_aload_n hx hb dX2_add_26 rfl (lv_at hl 0 rfl) ?_
    refine g_get C E 15 4 (fun _ h => List.mem_cons_of_mem _ (List.mem_append_right _ h)) rfl rfl (by decide) (List.mem_of_getElem? (i := 1) rfl) rfl rfl dX2_add_27 ?_
    refine lv_lload_n hx hb dX2_add_30 rfl (lv_at hl 2 rfl) ?_
    obtain ⟨h3, hf⟩ := ck_some hf
    refine g_last (w' := (cW a cI cJ cZ vl hs isz igd iup idn osz ogd oup odn dep rsz (upd lgd lsz.toNatClampNeg x1) (vp_updL llf lsz.toNatClampNeg x2) ldb ldy lsz lti pgd plf pun psz bgd bam bwt bsh brm bsz cab cbl tod imp dis owe itr)) C E 17 rfl h3 dX2_add_31 rfl (fun H locs E => ?_)
    refine lv_aload_n hx hb dX2_add_32 rfl (lv_at hl 0 rfl) ?_
    refine g_get C E 15 2 (fun _ h => List.mem_cons_of_mem _ (List.mem_append_right _ h)) rfl rfl (by decide) (List.mem_of_getElem? (i := 4) rfl) rfl rfl dX2_add_33 ?_
    refine lv_aload_n hx hb dX2_add_36 rfl (lv_at hl 0 rfl) ?_
    refine g_get C E 15 4 (fun _ h => List.mem_cons_of_mem _ (List.mem_append_right _ h)) rfl rfl (by decide) (List.mem_of_getElem? (i := 1) rfl) rfl rfl dX2_add_37 ?_
    refine lv_lload hx hb dX2_add_40 (lv_at hl 3 rfl) ?_
    obtain ⟨h4, hf⟩ := ck_some hf
    refine g_last (w' := (cW a cI cJ cZ vl hs isz igd iup idn osz ogd oup odn dep rsz (upd lgd lsz.toNatClampNeg x1) (vp_updL llf lsz.toNatClampNeg x2) (vp_updL ldb lsz.toNatClampNeg x4) ldy lsz lti pgd plf pun psz bgd bam bwt bsh brm bsz cab cbl tod imp dis owe itr)) C E 18 rfl h4 dX2_add_42 rfl (fun H locs E => ?_)
    refine lv_aload_n hx hb dX2_add_43 rfl (lv_at hl 0 rfl) ?_
    refine g_get C E 15 3 (fun _ h => List.mem_cons_of_mem _ (List.mem_append_right _ h)) rfl rfl (by decide) (List.mem_of_getElem? (i := 5) rfl) rfl rfl dX2_add_44 ?_
    refine lv_aload_n hx hb dX2_add_47 rfl (lv_at hl 0 rfl) ?_
    refine g_get C E 15 4 (fun _ h => List.mem_cons_of_mem _ (List.mem_append_right _ h)) rfl rfl (by decide) (List.mem_of_getElem? (i := 1) rfl) rfl rfl dX2_add_48 ?_
    refine lv_iload hx hb dX2_add_51 (lv_at hl 4 rfl) ?_
    obtain ⟨h5, hf⟩ := ck_some hf
    refine g_iast (w' := (cW a cI cJ cZ vl hs isz igd iup idn osz ogd oup odn dep rsz (upd lgd lsz.toNatClampNeg x1) (vp_updL llf lsz.toNatClampNeg x2) (vp_updL ldb lsz.toNatClampNeg x4) (upd ldy lsz.toNatClampNeg x6) lsz lti pgd plf pun psz bgd bam bwt bsh brm bsz cab cbl tod imp dis owe itr)) C E 19 rfl h5 dX2_add_53 rfl (fun H locs E => ?_)
    refine lv_aload_n hx hb dX2_add_54 rfl (lv_at hl 0 rfl) ?_
    refine lv_dup hx hb dX2_add_55 rfl ?_
    refine g_get C E 15 4 (fun _ h => List.mem_cons_of_mem _ (List.mem_append_right _ h)) rfl rfl (by decide) (List.mem_of_getElem? (i := 1) rfl) rfl rfl dX2_add_56 ?_
    refine lv_iconst (v := 1) hx hb dX2_add_59 (by decide) ?_
    refine lv_iadd hx hb dX2_add_60 ?_
    refine g_put (w' := (cW a cI cJ cZ vl hs isz igd iup idn osz ogd oup odn dep rsz (upd lgd lsz.toNatClampNeg x1) (vp_updL llf lsz.toNatClampNeg x2) (vp_updL ldb lsz.toNatClampNeg x4) (upd ldy lsz.toNatClampNeg x6) (lsz + (1 : Int32)) lti pgd plf pun psz bgd bam bwt bsh brm bsz cab cbl tod imp dis owe itr)) C E 15 4 tyX2 tyX2_ok nmX2 (fun _ h => List.mem_cons_of_mem _ (List.mem_append_right _ h)) rfl rfl (by decide) (List.mem_of_getElem? (i := 1) rfl) rfl rfl rfl rfl rfl (Nat.le_of_ble_eq_true rfl) dX2_add_61 rfl (fun H locs E => ?_)
    refine lv_aload_n hx hb dX2_add_64 rfl (lv_at hl 0 rfl) ?_
    refine g_get C E 15 4 (fun _ h => List.mem_cons_of_mem _ (List.mem_append_right _ h)) rfl rfl (by decide) (List.mem_of_getElem? (i := 1) rfl) rfl rfl dX2_add_65 ?_
    refine lv_iconst (v := 1) hx hb dX2_add_68 (by decide) ?_
    refine lv_isub hx hb dX2_add_69 ?_
    obtain rfl := Option.some.inj hf
    exact g_iret C E dX2_add_70
  · rw [if_neg c1] at hf
    refine lv_iconst (v := -1) hx hb dX2_add_10 (by decide) ?_
    obtain rfl := Option.some.inj hf
    exact g_iret C E dX2_add_11
abbrev rm_X2_stockOf : Room := { frames := 0, cells := 0, slots := 0, locals := 0 }
theorem hd_X2_stockOf : yX2_stockOf.cls ≠ "java/lang/invoke/MethodHandle" ∧ yX2_stockOf.cls ≠ "java/lang/invoke/VarHandle" ∧ (parseMethodDescriptor yX2_stockOf.desc).map (fun d => d.parameters.length) = some 1 := by decide +kernel
def f_X2_stockOf_L5 (lgd : Nat → Int32) (llf : Nat → Int64) (lsz : Int32) (x1 : Int32) : Nat → Int64 → Int32 → Option (Int64)
  | 0, _, _ => none
  | n + 1, x2, x4 =>
  if lsz ≤ x4 then
    some (x2)
  else
    ck x4 200 <|
    if (lgd x4.toNatClampNeg) = x1 then
      ck x4 200 <|
      f_X2_stockOf_L5 lgd llf lsz x1 n (x2 + (llf x4.toNatClampNeg)) (x4 + 1)
    else
      f_X2_stockOf_L5 lgd llf lsz x1 n (x2 + (0 : Int64)) (x4 + 1)
set_option maxHeartbeats 4000000 in
set_option maxRecDepth 100000 in
theorem w_X2_stockOf_L5 {p : Program} {l : Launch} {e : Env} {s : State} {m : MethodId} {args : Array Value} {below : List Frame} {meth : Method} {c : Code} {A : Nat → Prop} {D : va_G} {cI cJ cZ : ClassId} {a : Nat → Nat} {vl : Nat → Int32} {hs : Nat → Int32} {isz : Nat → Int32} {igd : Nat → Int32} {iup : Nat → Int32} {idn : Nat → Int32} {osz : Nat → Int32} {ogd : Nat → Int32} {oup : Nat → Int32} {odn : Nat → Int32} {dep : Nat → Int32} {rsz : Int32} {lgd : Nat → Int32} {llf : Nat → Int64} {ldb : Nat → Int64} {ldy : Nat → Int32} {lsz : Int32} {lti : Int64} {pgd : Nat → Int32} {plf : Nat → Int64} {pun : Nat → Int32} {psz : Int32} {bgd : Nat → Int32} {bam : Nat → Int64} {bwt : Nat → Int64} {bsh : Nat → Int64} {brm : Nat → Int64} {bsz : Int32} {cab : Nat → Int64} {cbl : Nat → Int64} {tod : Int32} {imp : Int64} {dis : Int64} {owe : Int64} {itr : Int64} (C : gC p s m args meth c cX2_stockOf 5 (some .long) wsX2_stockOf RX2 A) {x1 : Int32} {o : Int64} :
    ∀ (n : Nat) (x2 : Int64) (x4 : Int32) (H : Heap) (locs : List Loc) (ls : Array Slot), vE s A D (gT cI cJ cZ) (cW a cI cJ cZ vl hs isz igd iup idn osz ogd oup odn dep rsz lgd llf ldb ldy lsz lti pgd plf pun psz bgd bam bwt bsh brm bsz cab cbl tod imp dis owe itr) H locs → lv_has ls 5 [(0, .ref (a 15)), (1, .int x1), (2, .long x2), (4, .int x4)] → f_X2_stockOf_L5 lgd llf lsz x1 n x2 x4 = some o → W p l e rm_X2_stockOf s m args below meth c H locs 0 0 (MQ below (gQl D (gT cI cJ cZ) A (cW a cI cJ cZ vl hs isz igd iup idn osz ogd oup odn dep rsz lgd llf ldb ldy lsz lti pgd plf pun psz bgd bam bwt bsh brm bsz cab cbl tod imp dis owe itr) o) args s 0 0 A) (F0 m 5 ls []) := by
  obtain ⟨hx, hb, hr, hml, hown, hts, hlocks, hN, hA⟩ := id C
  intro n
  induction n with
  | zero =>
    intro x2 x4 H locs ls E hl hf
    rw [f_X2_stockOf_L5] at hf
    cases hf
  | succ n ih =>
    intro x2 x4 H locs ls E hl hf
    rw [f_X2_stockOf_L5] at hf
    refine lv_iload hx hb dX2_stockOf_5 (lv_at hl 3 rfl) ?_
    refine lv_aload_n hx hb dX2_stockOf_7 rfl (lv_at hl 0 rfl) ?_
    refine g_get C E 15 4 (fun _ h => List.mem_cons_of_mem _ (List.mem_append_right _ h)) rfl rfl (by decide) (List.mem_of_getElem? (i := 1) rfl) rfl rfl dX2_stockOf_8 ?_
    refine lv_icmp_ge (tgt := 45) hx hb dX2_stockOf_11 (by decide) (fun c1 => ?_) (fun c1 => ?_)
    · rw [if_pos c1] at hf
      refine lv_lload_n hx hb dX2_stockOf_45 rfl (lv_at hl 2 rfl) ?_
      obtain rfl := Option.some.inj hf
      exact g_lret C E dX2_stockOf_46
    · rw [if_neg c1] at hf
      refine lv_lload_n hx hb dX2_stockOf_14 rfl (lv_at hl 2 rfl) ?_
      refine lv_aload_n hx hb dX2_stockOf_15 rfl (lv_at hl 0 rfl) ?_
      refine g_get C E 15 0 (fun _ h => List.mem_cons_of_mem _ (List.mem_append_right _ h)) rfl rfl (by decide) (List.mem_of_getElem? (i := 2) rfl) rfl rfl dX2_stockOf_16 ?_
      refine lv_iload hx hb dX2_stockOf_19 (lv_at hl 3 rfl) ?_
      obtain ⟨h2, hf⟩ := ck_some hf
      refine g_iald C E 16 rfl h2 dX2_stockOf_21 ?_
      refine lv_iload_n hx hb dX2_stockOf_22 rfl (lv_at hl 1 rfl) ?_
      refine lv_icmp_ne (tgt := 36) hx hb dX2_stockOf_23 (by decide) (fun c3 => ?_) (fun c3 => ?_)
      · rw [if_neg c3] at hf
        refine lv_lconst (v := 0) hx hb dX2_stockOf_36 (by decide) ?_
        refine lv_ladd hx hb dX2_stockOf_37 ?_
        refine lv_lstore_n (lv' := [(2, .long (x2 + (0 : Int64))), (0, .ref (a 15)), (1, .int x1), (4, .int x4)]) hx hb dX2_stockOf_38 rfl hl (by decide) rfl (fun ls hl => ?_)
        refine lv_iinc (v := (x4 + 1)) (lv' := [(4, .int (x4 + 1)), (2, .long (x2 + (0 : Int64))), (0, .ref (a 15)), (1, .int x1)]) hx hb dX2_stockOf_39 hl (k := 3) rfl rfl (by decide) rfl (fun ls hl => ?_)
        refine lv_goto (tgt := 5) hx hb dX2_stockOf_42 (by decide) ?_
        exact ih (x2 + (0 : Int64)) (x4 + 1) _ _ _ E (lv_sub hl [2, 3, 1, 0] rfl) hf
      · rw [if_pos c3] at hf
        refine lv_aload_n hx hb dX2_stockOf_26 rfl (lv_at hl 0 rfl) ?_
        refine g_get C E 15 1 (fun _ h => List.mem_cons_of_mem _ (List.mem_append_right _ h)) rfl rfl (by decide) (List.mem_of_getElem? (i := 3) rfl) rfl rfl dX2_stockOf_27 ?_
        refine lv_iload hx hb dX2_stockOf_30 (lv_at hl 3 rfl) ?_
        obtain ⟨h4, hf⟩ := ck_some hf
        refine g_lald C E 17 rfl h4 dX2_stockOf_32 ?_
        refine lv_goto (tgt := 37) hx hb dX2_stockOf_33 (by decide) ?_
        refine lv_ladd hx hb dX2_stockOf_37 ?_
        refine lv_lstore_n (lv' := [(2, .long (x2 + (llf x4.toNatClampNeg))), (0, .ref (a 15)), (1, .int x1), (4, .int x4)]) hx hb dX2_stockOf_38 rfl hl (by decide) rfl (fun ls hl => ?_)
        refine lv_iinc (v := (x4 + 1)) (lv' := [(4, .int (x4 + 1)), (2, .long (x2 + (llf x4.toNatClampNeg))), (0, .ref (a 15)), (1, .int x1)]) hx hb dX2_stockOf_39 hl (k := 3) rfl rfl (by decide) rfl (fun ls hl => ?_)
        refine lv_goto (tgt := 5) hx hb dX2_stockOf_42 (by decide) ?_
        exact ih (x2 + (llf x4.toNatClampNeg)) (x4 + 1) _ _ _ E (lv_sub hl [2, 3, 1, 0] rfl) hf
def f_X2_stockOf (lgd : Nat → Int32) (llf : Nat → Int64) (lsz : Int32) (x1 : Int32) : Option (Int64) :=
  f_X2_stockOf_L5 lgd llf lsz x1 FU (0 : Int64) (0 : Int32)
set_option maxHeartbeats 4000000 in
set_option maxRecDepth 100000 in
theorem c_X2_stockOf {l : Launch} {D : va_G} {cI cJ cZ : ClassId} {a : Nat → Nat} {sz : Nat} {vl : Nat → Int32} {hs : Nat → Int32} {isz : Nat → Int32} {igd : Nat → Int32} {iup : Nat → Int32} {idn : Nat → Int32} {osz : Nat → Int32} {ogd : Nat → Int32} {oup : Nat → Int32} {odn : Nat → Int32} {dep : Nat → Int32} {rsz : Int32} {lgd : Nat → Int32} {llf : Nat → Int64} {ldb : Nat → Int64} {ldy : Nat → Int32} {lsz : Int32} {lti : Int64} {pgd : Nat → Int32} {plf : Nat → Int64} {pun : Nat → Int32} {psz : Int32} {bgd : Nat → Int32} {bam : Nat → Int64} {bwt : Nat → Int64} {bsh : Nat → Int64} {brm : Nat → Int64} {bsz : Int32} {cab : Nat → Int64} {cbl : Nat → Int64} {tod : Int32} {imp : Int64} {dis : Int64} {owe : Int64} {itr : Int64} {x1 : Int32} {o : Int64} (hf : f_X2_stockOf lgd llf lsz x1 = some o) : gMl l yX2_stockOf wsX2_stockOf rm_X2_stockOf D (gT cI cJ cZ) (cW a cI cJ cZ vl hs isz igd iup idn osz ogd oup odn dep rsz lgd llf ldb ldy lsz lti pgd plf pun psz bgd bam bwt bsh brm bsz cab cbl tod imp dis owe itr) (cW a cI cJ cZ vl hs isz igd iup idn osz ogd oup odn dep rsz lgd llf ldb ldy lsz lti pgd plf pun psz bgd bam bwt bsh brm bsz cab cbl tod imp dis owe itr) sz [.ref (a 15), .int x1] o := by
  refine g_of (cc := cX2_stockOf) (maxL := 5) (ret := (some .long)) (by decide) rfl (Nat.le_of_ble_eq_true rfl) ?_
  intro p e s m below meth c A ls hAe C hl E
  rw [← hAe]
  obtain ⟨hx, hb, hr, hml, hown, hts, hlocks, hN, hA⟩ := id C
  have hl : lv_has ls 5 [(0, .ref (a 15)), (1, .int x1)] := hl
  have E : vE s A D (gT cI cJ cZ) (cW a cI cJ cZ vl hs isz igd iup idn osz ogd oup odn dep rsz lgd llf ldb ldy lsz lti pgd plf pun psz bgd bam bwt bsh brm bsz cab cbl tod imp dis owe itr) s.heap [] := E
  rw [f_X2_stockOf] at hf
  refine lv_lconst (v := 0) hx hb dX2_stockOf_0 (by decide) ?_
  refine lv_lstore_n (lv' := [(2, .long (0 : Int64)), (0, .ref (a 15)), (1, .int x1)]) hx hb dX2_stockOf_1 rfl hl (by decide) rfl (fun ls hl => ?_)
  refine lv_iconst (v := 0) hx hb dX2_stockOf_2 (by decide) ?_
  refine lv_istore (lv' := [(4, .int (0 : Int32)), (2, .long (0 : Int64)), (0, .ref (a 15)), (1, .int x1)]) hx hb dX2_stockOf_3 hl (by decide) rfl (fun ls hl => ?_)
  exact w_X2_stockOf_L5 C  FU (0 : Int64) (0 : Int32) _ _ _ E (lv_sub hl [2, 3, 1, 0] rfl) hf
abbrev rm_X2_debtOf : Room := { frames := 0, cells := 0, slots := 0, locals := 0 }
theorem hd_X2_debtOf : yX2_debtOf.cls ≠ "java/lang/invoke/MethodHandle" ∧ yX2_debtOf.cls ≠ "java/lang/invoke/VarHandle" ∧ (parseMethodDescriptor yX2_debtOf.desc).map (fun d => d.parameters.length) = some 1 := by decide +kernel
def f_X2_debtOf_L5 (lgd : Nat → Int32) (ldb : Nat → Int64) (lsz : Int32) (x1 : Int32) : Nat → Int64 → Int32 → Option (Int64)
  | 0, _, _ => none
  | n + 1, x2, x4 =>
  if lsz ≤ x4 then
    some (x2)
  else
    ck x4 200 <|
    if (lgd x4.toNatClampNeg) = x1 then
      ck x4 200 <|
      f_X2_debtOf_L5 lgd ldb lsz x1 n (x2 + (ldb x4.toNatClampNeg)) (x4 + 1)
    else
      f_X2_debtOf_L5 lgd ldb lsz x1 n (x2 + (0 : Int64)) (x4 + 1)
set_option maxHeartbeats 4000000 in
set_option maxRecDepth 100000 in
theorem w_X2_debtOf_L5 {p : Program} {l : Launch} {e : Env} {s : State} {m : MethodId} {args : Array Value} {below : List Frame} {meth : Method} {c : Code} {A : Nat → Prop} {D : va_G} {cI cJ cZ : ClassId} {a : Nat → Nat} {vl : Nat → Int32} {hs : Nat → Int32} {isz : Nat → Int32} {igd : Nat → Int32} {iup : Nat → Int32} {idn : Nat → Int32} {osz : Nat → Int32} {ogd : Nat → Int32} {oup : Nat → Int32} {odn : Nat → Int32} {dep : Nat → Int32} {rsz : Int32} {lgd : Nat → Int32} {llf : Nat → Int64} {ldb : Nat → Int64} {ldy : Nat → Int32} {lsz : Int32} {lti : Int64} {pgd : Nat → Int32} {plf : Nat → Int64} {pun : Nat → Int32} {psz : Int32} {bgd : Nat → Int32} {bam : Nat → Int64} {bwt : Nat → Int64} {bsh : Nat → Int64} {brm : Nat → Int64} {bsz : Int32} {cab : Nat → Int64} {cbl : Nat → Int64} {tod : Int32} {imp : Int64} {dis : Int64} {owe : Int64} {itr : Int64} (C : gC p s m args meth c cX2_debtOf 5 (some .long) wsX2_debtOf RX2 A) {x1 : Int32} {o : Int64} :
    ∀ (n : Nat) (x2 : Int64) (x4 : Int32) (H : Heap) (locs : List Loc) (ls : Array Slot), vE s A D (gT cI cJ cZ) (cW a cI cJ cZ vl hs isz igd iup idn osz ogd oup odn dep rsz lgd llf ldb ldy lsz lti pgd plf pun psz bgd bam bwt bsh brm bsz cab cbl tod imp dis owe itr) H locs → lv_has ls 5 [(0, .ref (a 15)), (1, .int x1), (2, .long x2), (4, .int x4)] → f_X2_debtOf_L5 lgd ldb lsz x1 n x2 x4 = some o → W p l e rm_X2_debtOf s m args below meth c H locs 0 0 (MQ below (gQl D (gT cI cJ cZ) A (cW a cI cJ cZ vl hs isz igd iup idn osz ogd oup odn dep rsz lgd llf ldb ldy lsz lti pgd plf pun psz bgd bam bwt bsh brm bsz cab cbl tod imp dis owe itr) o) args s 0 0 A) (F0 m 5 ls []) := by
  obtain ⟨hx, hb, hr, hml, hown, hts, hlocks, hN, hA⟩ := id C
  intro n
  induction n with
  | zero =>
    intro x2 x4 H locs ls E hl hf
    rw [f_X2_debtOf_L5] at hf
    cases hf
  | succ n ih =>
    intro x2 x4 H locs ls E hl hf
    rw [f_X2_debtOf_L5] at hf
    refine lv_iload hx hb dX2_debtOf_5 (lv_at hl 3 rfl) ?_
    refine lv_aload_n hx hb dX2_debtOf_7 rfl (lv_at hl 0 rfl) ?_
    refine g_get C E 15 4 (fun _ h => List.mem_cons_of_mem _ (List.mem_append_right _ h)) rfl rfl (by decide) (List.mem_of_getElem? (i := 1) rfl) rfl rfl dX2_debtOf_8 ?_
    refine lv_icmp_ge (tgt := 45) hx hb dX2_debtOf_11 (by decide) (fun c1 => ?_) (fun c1 => ?_)
    · rw [if_pos c1] at hf
      refine lv_lload_n hx hb dX2_debtOf_45 rfl (lv_at hl 2 rfl) ?_
      obtain rfl := Option.some.inj hf
      exact g_lret C E dX2_debtOf_46
    · rw [if_neg c1] at hf
      refine lv_lload_n hx hb dX2_debtOf_14 rfl (lv_at hl 2 rfl) ?_
      refine lv_aload_n hx hb dX2_debtOf_15 rfl (lv_at hl 0 rfl) ?_
      refine g_get C E 15 0 (fun _ h => List.mem_cons_of_mem _ (List.mem_append_right _ h)) rfl rfl (by decide) (List.mem_of_getElem? (i := 2) rfl) rfl rfl dX2_debtOf_16 ?_
      refine lv_iload hx hb dX2_debtOf_19 (lv_at hl 3 rfl) ?_
      obtain ⟨h2, hf⟩ := ck_some hf
      refine g_iald C E 16 rfl h2 dX2_debtOf_21 ?_
      refine lv_iload_n hx hb dX2_debtOf_22 rfl (lv_at hl 1 rfl) ?_
      refine lv_icmp_ne (tgt := 36) hx hb dX2_debtOf_23 (by decide) (fun c3 => ?_) (fun c3 => ?_)
      · rw [if_neg c3] at hf
        refine lv_lconst (v := 0) hx hb dX2_debtOf_36 (by decide) ?_
        refine lv_ladd hx hb dX2_debtOf_37 ?_
        refine lv_lstore_n (lv' := [(2, .long (x2 + (0 : Int64))), (0, .ref (a 15)), (1, .int x1), (4, .int x4)]) hx hb dX2_debtOf_38 rfl hl (by decide) rfl (fun ls hl => ?_)
        refine lv_iinc (v := (x4 + 1)) (lv' := [(4, .int (x4 + 1)), (2, .long (x2 + (0 : Int64))), (0, .ref (a 15)), (1, .int x1)]) hx hb dX2_debtOf_39 hl (k := 3) rfl rfl (by decide) rfl (fun ls hl => ?_)
        refine lv_goto (tgt := 5) hx hb dX2_debtOf_42 (by decide) ?_
        exact ih (x2 + (0 : Int64)) (x4 + 1) _ _ _ E (lv_sub hl [2, 3, 1, 0] rfl) hf
      · rw [if_pos c3] at hf
        refine lv_aload_n hx hb dX2_debtOf_26 rfl (lv_at hl 0 rfl) ?_
        refine g_get C E 15 2 (fun _ h => List.mem_cons_of_mem _ (List.mem_append_right _ h)) rfl rfl (by decide) (List.mem_of_getElem? (i := 3) rfl) rfl rfl dX2_debtOf_27 ?_
        refine lv_iload hx hb dX2_debtOf_30 (lv_at hl 3 rfl) ?_
        obtain ⟨h4, hf⟩ := ck_some hf
        refine g_lald C E 18 rfl h4 dX2_debtOf_32 ?_
        refine lv_goto (tgt := 37) hx hb dX2_debtOf_33 (by decide) ?_
        refine lv_ladd hx hb dX2_debtOf_37 ?_
        refine lv_lstore_n (lv' := [(2, .long (x2 + (ldb x4.toNatClampNeg))), (0, .ref (a 15)), (1, .int x1), (4, .int x4)]) hx hb dX2_debtOf_38 rfl hl (by decide) rfl (fun ls hl => ?_)
        refine lv_iinc (v := (x4 + 1)) (lv' := [(4, .int (x4 + 1)), (2, .long (x2 + (ldb x4.toNatClampNeg))), (0, .ref (a 15)), (1, .int x1)]) hx hb dX2_debtOf_39 hl (k := 3) rfl rfl (by decide) rfl (fun ls hl => ?_)
        refine lv_goto (tgt := 5) hx hb dX2_debtOf_42 (by decide) ?_
        exact ih (x2 + (ldb x4.toNatClampNeg)) (x4 + 1) _ _ _ E (lv_sub hl [2, 3, 1, 0] rfl) hf
def f_X2_debtOf (lgd : Nat → Int32) (ldb : Nat → Int64) (lsz : Int32) (x1 : Int32) : Option (Int64) :=
  f_X2_debtOf_L5 lgd ldb lsz x1 FU (0 : Int64) (0 : Int32)
set_option maxHeartbeats 4000000 in
set_option maxRecDepth 100000 in
theorem c_X2_debtOf {l : Launch} {D : va_G} {cI cJ cZ : ClassId} {a : Nat → Nat} {sz : Nat} {vl : Nat → Int32} {hs : Nat → Int32} {isz : Nat → Int32} {igd : Nat → Int32} {iup : Nat → Int32} {idn : Nat → Int32} {osz : Nat → Int32} {ogd : Nat → Int32} {oup : Nat → Int32} {odn : Nat → Int32} {dep : Nat → Int32} {rsz : Int32} {lgd : Nat → Int32} {llf : Nat → Int64} {ldb : Nat → Int64} {ldy : Nat → Int32} {lsz : Int32} {lti : Int64} {pgd : Nat → Int32} {plf : Nat → Int64} {pun : Nat → Int32} {psz : Int32} {bgd : Nat → Int32} {bam : Nat → Int64} {bwt : Nat → Int64} {bsh : Nat → Int64} {brm : Nat → Int64} {bsz : Int32} {cab : Nat → Int64} {cbl : Nat → Int64} {tod : Int32} {imp : Int64} {dis : Int64} {owe : Int64} {itr : Int64} {x1 : Int32} {o : Int64} (hf : f_X2_debtOf lgd ldb lsz x1 = some o) : gMl l yX2_debtOf wsX2_debtOf rm_X2_debtOf D (gT cI cJ cZ) (cW a cI cJ cZ vl hs isz igd iup idn osz ogd oup odn dep rsz lgd llf ldb ldy lsz lti pgd plf pun psz bgd bam bwt bsh brm bsz cab cbl tod imp dis owe itr) (cW a cI cJ cZ vl hs isz igd iup idn osz ogd oup odn dep rsz lgd llf ldb ldy lsz lti pgd plf pun psz bgd bam bwt bsh brm bsz cab cbl tod imp dis owe itr) sz [.ref (a 15), .int x1] o := by
  refine g_of (cc := cX2_debtOf) (maxL := 5) (ret := (some .long)) (by decide) rfl (Nat.le_of_ble_eq_true rfl) ?_
  intro p e s m below meth c A ls hAe C hl E
  rw [← hAe]
  obtain ⟨hx, hb, hr, hml, hown, hts, hlocks, hN, hA⟩ := id C
  have hl : lv_has ls 5 [(0, .ref (a 15)), (1, .int x1)] := hl
  have E : vE s A D (gT cI cJ cZ) (cW a cI cJ cZ vl hs isz igd iup idn osz ogd oup odn dep rsz lgd llf ldb ldy lsz lti pgd plf pun psz bgd bam bwt bsh brm bsz cab cbl tod imp dis owe itr) s.heap [] := E
  rw [f_X2_debtOf] at hf
  refine lv_lconst (v := 0) hx hb dX2_debtOf_0 (by decide) ?_
  refine lv_lstore_n (lv' := [(2, .long (0 : Int64)), (0, .ref (a 15)), (1, .int x1)]) hx hb dX2_debtOf_1 rfl hl (by decide) rfl (fun ls hl => ?_)
  refine lv_iconst (v := 0) hx hb dX2_debtOf_2 (by decide) ?_
  refine lv_istore (lv' := [(4, .int (0 : Int32)), (2, .long (0 : Int64)), (0, .ref (a 15)), (1, .int x1)]) hx hb dX2_debtOf_3 hl (by decide) rfl (fun ls hl => ?_)
  exact w_X2_debtOf_L5 C  FU (0 : Int64) (0 : Int32) _ _ _ E (lv_sub hl [2, 3, 1, 0] rfl) hf
abbrev rm_X2_openOf : Room := { frames := 0, cells := 0, slots := 0, locals := 0 }
theorem hd_X2_openOf : yX2_openOf.cls ≠ "java/lang/invoke/MethodHandle" ∧ yX2_openOf.cls ≠ "java/lang/invoke/VarHandle" ∧ (parseMethodDescriptor yX2_openOf.desc).map (fun d => d.parameters.length) = some 1 := by decide +kernel
def f_X2_openOf_L4 (lgd : Nat → Int32) (llf : Nat → Int64) (lsz : Int32) (x1 : Int32) : Nat → Int32 → Int32 → Option (Int32)
  | 0, _, _ => none
  | n + 1, x2, x3 =>
  if lsz ≤ x3 then
    some (x2)
  else
    ck x3 200 <|
    if (lgd x3.toNatClampNeg) = x1 then
      ck x3 200 <|
      if (lg_cmp (llf x3.toNatClampNeg) (0 : Int64)) ≤ 0 then
        f_X2_openOf_L4 lgd llf lsz x1 n (x2 + (0 : Int32)) (x3 + 1)
      else
        f_X2_openOf_L4 lgd llf lsz x1 n (x2 + (1 : Int32)) (x3 + 1)
    else
      f_X2_openOf_L4 lgd llf lsz x1 n (x2 + (0 : Int32)) (x3 + 1)
set_option maxHeartbeats 4000000 in
set_option maxRecDepth 100000 in
theorem w_X2_openOf_L4 {p : Program} {l : Launch} {e : Env} {s : State} {m : MethodId} {args : Array Value} {below : List Frame} {meth : Method} {c : Code} {A : Nat → Prop} {D : va_G} {cI cJ cZ : ClassId} {a : Nat → Nat} {vl : Nat → Int32} {hs : Nat → Int32} {isz : Nat → Int32} {igd : Nat → Int32} {iup : Nat → Int32} {idn : Nat → Int32} {osz : Nat → Int32} {ogd : Nat → Int32} {oup : Nat → Int32} {odn : Nat → Int32} {dep : Nat → Int32} {rsz : Int32} {lgd : Nat → Int32} {llf : Nat → Int64} {ldb : Nat → Int64} {ldy : Nat → Int32} {lsz : Int32} {lti : Int64} {pgd : Nat → Int32} {plf : Nat → Int64} {pun : Nat → Int32} {psz : Int32} {bgd : Nat → Int32} {bam : Nat → Int64} {bwt : Nat → Int64} {bsh : Nat → Int64} {brm : Nat → Int64} {bsz : Int32} {cab : Nat → Int64} {cbl : Nat → Int64} {tod : Int32} {imp : Int64} {dis : Int64} {owe : Int64} {itr : Int64} (C : gC p s m args meth c cX2_openOf 4 (some .int) wsX2_openOf RX2 A) {x1 : Int32} {o : Int32} :
    ∀ (n : Nat) (x2 : Int32) (x3 : Int32) (H : Heap) (locs : List Loc) (ls : Array Slot), vE s A D (gT cI cJ cZ) (cW a cI cJ cZ vl hs isz igd iup idn osz ogd oup odn dep rsz lgd llf ldb ldy lsz lti pgd plf pun psz bgd bam bwt bsh brm bsz cab cbl tod imp dis owe itr) H locs → lv_has ls 4 [(0, .ref (a 15)), (1, .int x1), (2, .int x2), (3, .int x3)] → f_X2_openOf_L4 lgd llf lsz x1 n x2 x3 = some o → W p l e rm_X2_openOf s m args below meth c H locs 0 0 (MQ below (gQi D (gT cI cJ cZ) A (cW a cI cJ cZ vl hs isz igd iup idn osz ogd oup odn dep rsz lgd llf ldb ldy lsz lti pgd plf pun psz bgd bam bwt bsh brm bsz cab cbl tod imp dis owe itr) o) args s 0 0 A) (F0 m 4 ls []) := by
  obtain ⟨hx, hb, hr, hml, hown, hts, hlocks, hN, hA⟩ := id C
  intro n
  induction n with
  | zero =>
    intro x2 x3 H locs ls E hl hf
    rw [f_X2_openOf_L4] at hf
    cases hf
  | succ n ih =>
    intro x2 x3 H locs ls E hl hf
    rw [f_X2_openOf_L4] at hf
    refine lv_iload_n hx hb dX2_openOf_4 rfl (lv_at hl 3 rfl) ?_
    refine lv_aload_n hx hb dX2_openOf_5 rfl (lv_at hl 0 rfl) ?_
    refine g_get C E 15 4 (fun _ h => List.mem_cons_of_mem _ (List.mem_append_right _ h)) rfl rfl (by decide) (List.mem_of_getElem? (i := 1) rfl) rfl rfl dX2_openOf_6 ?_
    refine lv_icmp_ge (tgt := 47) hx hb dX2_openOf_9 (by decide) (fun c1 => ?_) (fun c1 => ?_)
    · rw [if_pos c1] at hf
      refine lv_iload_n hx hb dX2_openOf_47 rfl (lv_at hl 2 rfl) ?_
      obtain rfl := Option.some.inj hf
      exact g_iret C E dX2_openOf_48
    · rw [if_neg c1] at hf
      refine lv_iload_n hx hb dX2_openOf_12 rfl (lv_at hl 2 rfl) ?_
      refine lv_aload_n hx hb dX2_openOf_13 rfl (lv_at hl 0 rfl) ?_
      refine g_get C E 15 0 (fun _ h => List.mem_cons_of_mem _ (List.mem_append_right _ h)) rfl rfl (by decide) (List.mem_of_getElem? (i := 2) rfl) rfl rfl dX2_openOf_14 ?_
      refine lv_iload_n hx hb dX2_openOf_17 rfl (lv_at hl 3 rfl) ?_
      obtain ⟨h2, hf⟩ := ck_some hf
      refine g_iald C E 16 rfl h2 dX2_openOf_18 ?_
      refine lv_iload_n hx hb dX2_openOf_19 rfl (lv_at hl 1 rfl) ?_
      refine lv_icmp_ne (tgt := 38) hx hb dX2_openOf_20 (by decide) (fun c3 => ?_) (fun c3 => ?_)
      · rw [if_neg c3] at hf
        refine lv_iconst (v := 0) hx hb dX2_openOf_38 (by decide) ?_
        refine lv_iadd hx hb dX2_openOf_39 ?_
        refine lv_istore_n (lv' := [(2, .int (x2 + (0 : Int32))), (0, .ref (a 15)), (1, .int x1), (3, .int x3)]) hx hb dX2_openOf_40 rfl hl (by decide) rfl (fun ls hl => ?_)
        refine lv_iinc (v := (x3 + 1)) (lv' := [(3, .int (x3 + 1)), (2, .int (x2 + (0 : Int32))), (0, .ref (a 15)), (1, .int x1)]) hx hb dX2_openOf_41 hl (k := 3) rfl rfl (by decide) rfl (fun ls hl => ?_)
        refine lv_goto (tgt := 4) hx hb dX2_openOf_44 (by decide) ?_
        exact ih (x2 + (0 : Int32)) (x3 + 1) _ _ _ E (lv_sub hl [2, 3, 1, 0] rfl) hf
      · rw [if_pos c3] at hf
        refine lv_aload_n hx hb dX2_openOf_23 rfl (lv_at hl 0 rfl) ?_
        refine g_get C E 15 1 (fun _ h => List.mem_cons_of_mem _ (List.mem_append_right _ h)) rfl rfl (by decide) (List.mem_of_getElem? (i := 3) rfl) rfl rfl dX2_openOf_24 ?_
        refine lv_iload_n hx hb dX2_openOf_27 rfl (lv_at hl 3 rfl) ?_
        obtain ⟨h4, hf⟩ := ck_some hf
        refine g_lald C E 17 rfl h4 dX2_openOf_28 ?_
        refine lv_lconst (v := 0) hx hb dX2_openOf_29 (by decide) ?_
        refine W.lcmp hx hb dX2_openOf_30 ?_
        refine lv_if_le (tgt := 38) hx hb dX2_openOf_31 (by decide) (fun c5 => ?_) (fun c5 => ?_)
        · rw [if_pos c5] at hf
          refine lv_iconst (v := 0) hx hb dX2_openOf_38 (by decide) ?_
          refine lv_iadd hx hb dX2_openOf_39 ?_
          refine lv_istore_n (lv' := [(2, .int (x2 + (0 : Int32))), (0, .ref (a 15)), (1, .int x1), (3, .int x3)]) hx hb dX2_openOf_40 rfl hl (by decide) rfl (fun ls hl => ?_)
          refine lv_iinc (v := (x3 + 1)) (lv' := [(3, .int (x3 + 1)), (2, .int (x2 + (0 : Int32))), (0, .ref (a 15)), (1, .int x1)]) hx hb dX2_openOf_41 hl (k := 3) rfl rfl (by decide) rfl (fun ls hl => ?_)
          refine lv_goto (tgt := 4) hx hb dX2_openOf_44 (by decide) ?_
          exact ih (x2 + (0 : Int32)) (x3 + 1) _ _ _ E (lv_sub hl [2, 3, 1, 0] rfl) hf
        · rw [if_neg c5] at hf
          refine lv_iconst (v := 1) hx hb dX2_openOf_34 (by decide) ?_
          refine lv_goto (tgt := 39) hx hb dX2_openOf_35 (by decide) ?_
          refine lv_iadd hx hb dX2_openOf_39 ?_
          refine lv_istore_n (lv' := [(2, .int (x2 + (1 : Int32))), (0, .ref (a 15)), (1, .int x1), (3, .int x3)]) hx hb dX2_openOf_40 rfl hl (by decide) rfl (fun ls hl => ?_)
          refine lv_iinc (v := (x3 + 1)) (lv' := [(3, .int (x3 + 1)), (2, .int (x2 + (1 : Int32))), (0, .ref (a 15)), (1, .int x1)]) hx hb dX2_openOf_41 hl (k := 3) rfl rfl (by decide) rfl (fun ls hl => ?_)
          refine lv_goto (tgt := 4) hx hb dX2_openOf_44 (by decide) ?_
          exact ih (x2 + (1 : Int32)) (x3 + 1) _ _ _ E (lv_sub hl [2, 3, 1, 0] rfl) hf
def f_X2_openOf (lgd : Nat → Int32) (llf : Nat → Int64) (lsz : Int32) (x1 : Int32) : Option (Int32) :=
  f_X2_openOf_L4 lgd llf lsz x1 FU (0 : Int32) (0 : Int32)
set_option maxHeartbeats 4000000 in
set_option maxRecDepth 100000 in
theorem c_X2_openOf {l : Launch} {D : va_G} {cI cJ cZ : ClassId} {a : Nat → Nat} {sz : Nat} {vl : Nat → Int32} {hs : Nat → Int32} {isz : Nat → Int32} {igd : Nat → Int32} {iup : Nat → Int32} {idn : Nat → Int32} {osz : Nat → Int32} {ogd : Nat → Int32} {oup : Nat → Int32} {odn : Nat → Int32} {dep : Nat → Int32} {rsz : Int32} {lgd : Nat → Int32} {llf : Nat → Int64} {ldb : Nat → Int64} {ldy : Nat → Int32} {lsz : Int32} {lti : Int64} {pgd : Nat → Int32} {plf : Nat → Int64} {pun : Nat → Int32} {psz : Int32} {bgd : Nat → Int32} {bam : Nat → Int64} {bwt : Nat → Int64} {bsh : Nat → Int64} {brm : Nat → Int64} {bsz : Int32} {cab : Nat → Int64} {cbl : Nat → Int64} {tod : Int32} {imp : Int64} {dis : Int64} {owe : Int64} {itr : Int64} {x1 : Int32} {o : Int32} (hf : f_X2_openOf lgd llf lsz x1 = some o) : gMi l yX2_openOf wsX2_openOf rm_X2_openOf D (gT cI cJ cZ) (cW a cI cJ cZ vl hs isz igd iup idn osz ogd oup odn dep rsz lgd llf ldb ldy lsz lti pgd plf pun psz bgd bam bwt bsh brm bsz cab cbl tod imp dis owe itr) (cW a cI cJ cZ vl hs isz igd iup idn osz ogd oup odn dep rsz lgd llf ldb ldy lsz lti pgd plf pun psz bgd bam bwt bsh brm bsz cab cbl tod imp dis owe itr) sz [.ref (a 15), .int x1] o := by
  refine g_of (cc := cX2_openOf) (maxL := 4) (ret := (some .int)) (by decide) rfl (Nat.le_of_ble_eq_true rfl) ?_
  intro p e s m below meth c A ls hAe C hl E
  rw [← hAe]
  obtain ⟨hx, hb, hr, hml, hown, hts, hlocks, hN, hA⟩ := id C
  have hl : lv_has ls 4 [(0, .ref (a 15)), (1, .int x1)] := hl
  have E : vE s A D (gT cI cJ cZ) (cW a cI cJ cZ vl hs isz igd iup idn osz ogd oup odn dep rsz lgd llf ldb ldy lsz lti pgd plf pun psz bgd bam bwt bsh brm bsz cab cbl tod imp dis owe itr) s.heap [] := E
  rw [f_X2_openOf] at hf
  refine lv_iconst (v := 0) hx hb dX2_openOf_0 (by decide) ?_
  refine lv_istore_n (lv' := [(2, .int (0 : Int32)), (0, .ref (a 15)), (1, .int x1)]) hx hb dX2_openOf_1 rfl hl (by decide) rfl (fun ls hl => ?_)
  refine lv_iconst (v := 0) hx hb dX2_openOf_2 (by decide) ?_
  refine lv_istore_n (lv' := [(3, .int (0 : Int32)), (2, .int (0 : Int32)), (0, .ref (a 15)), (1, .int x1)]) hx hb dX2_openOf_3 rfl hl (by decide) rfl (fun ls hl => ?_)
  exact w_X2_openOf_L4 C  FU (0 : Int32) (0 : Int32) _ _ _ E (lv_sub hl [2, 3, 1, 0] rfl) hf
abbrev rm_X2_wholeDebt : Room := { frames := 0, cells := 0, slots := 0, locals := 0 }
theorem hd_X2_wholeDebt : yX2_wholeDebt.cls ≠ "java/lang/invoke/MethodHandle" ∧ yX2_wholeDebt.cls ≠ "java/lang/invoke/VarHandle" ∧ (parseMethodDescriptor yX2_wholeDebt.desc).map (fun d => d.parameters.length) = some 0 := by decide +kernel
def f_X2_wholeDebt_L4 (ldb : Nat → Int64) (lsz : Int32) : Nat → Int64 → Int32 → Option (Int64)
  | 0, _, _ => none
  | n + 1, x1, x3 =>
  if lsz ≤ x3 then
    some (x1)
  else
    ck x3 200 <|
    f_X2_wholeDebt_L4 ldb lsz n (x1 + (ldb x3.toNatClampNeg)) (x3 + 1)
set_option maxHeartbeats 4000000 in
set_option maxRecDepth 100000 in
theorem w_X2_wholeDebt_L4 {p : Program} {l : Launch} {e : Env} {s : State} {m : MethodId} {args : Array Value} {below : List Frame} {meth : Method} {c : Code} {A : Nat → Prop} {D : va_G} {cI cJ cZ : ClassId} {a : Nat → Nat} {vl : Nat → Int32} {hs : Nat → Int32} {isz : Nat → Int32} {igd : Nat → Int32} {iup : Nat → Int32} {idn : Nat → Int32} {osz : Nat → Int32} {ogd : Nat → Int32} {oup : Nat → Int32} {odn : Nat → Int32} {dep : Nat → Int32} {rsz : Int32} {lgd : Nat → Int32} {llf : Nat → Int64} {ldb : Nat → Int64} {ldy : Nat → Int32} {lsz : Int32} {lti : Int64} {pgd : Nat → Int32} {plf : Nat → Int64} {pun : Nat → Int32} {psz : Int32} {bgd : Nat → Int32} {bam : Nat → Int64} {bwt : Nat → Int64} {bsh : Nat → Int64} {brm : Nat → Int64} {bsz : Int32} {cab : Nat → Int64} {cbl : Nat → Int64} {tod : Int32} {imp : Int64} {dis : Int64} {owe : Int64} {itr : Int64} (C : gC p s m args meth c cX2_wholeDebt 4 (some .long) wsX2_wholeDebt RX2 A) {o : Int64} :
    ∀ (n : Nat) (x1 : Int64) (x3 : Int32) (H : Heap) (locs : List Loc) (ls : Array Slot), vE s A D (gT cI cJ cZ) (cW a cI cJ cZ vl hs isz igd iup idn osz ogd oup odn dep rsz lgd llf ldb ldy lsz lti pgd plf pun psz bgd bam bwt bsh brm bsz cab cbl tod imp dis owe itr) H locs → lv_has ls 4 [(0, .ref (a 15)), (1, .long x1), (3, .int x3)] → f_X2_wholeDebt_L4 ldb lsz n x1 x3 = some o → W p l e rm_X2_wholeDebt s m args below meth c H locs 0 0 (MQ below (gQl D (gT cI cJ cZ) A (cW a cI cJ cZ vl hs isz igd iup idn osz ogd oup odn dep rsz lgd llf ldb ldy lsz lti pgd plf pun psz bgd bam bwt bsh brm bsz cab cbl tod imp dis owe itr) o) args s 0 0 A) (F0 m 4 ls []) := by
  obtain ⟨hx, hb, hr, hml, hown, hts, hlocks, hN, hA⟩ := id C
  intro n
  induction n with
  | zero =>
    intro x1 x3 H locs ls E hl hf
    rw [f_X2_wholeDebt_L4] at hf
    cases hf
  | succ n ih =>
    intro x1 x3 H locs ls E hl hf
    rw [f_X2_wholeDebt_L4] at hf
    refine lv_iload_n hx hb dX2_wholeDebt_4 rfl (lv_at hl 2 rfl) ?_
    refine lv_aload_n hx hb dX2_wholeDebt_5 rfl (lv_at hl 0 rfl) ?_
    refine g_get C E 15 4 (fun _ h => List.mem_cons_of_mem _ (List.mem_append_right _ h)) rfl rfl (by decide) (List.mem_of_getElem? (i := 1) rfl) rfl rfl dX2_wholeDebt_6 ?_
    refine lv_icmp_ge (tgt := 27) hx hb dX2_wholeDebt_9 (by decide) (fun c1 => ?_) (fun c1 => ?_)
    · rw [if_pos c1] at hf
      refine lv_lload_n hx hb dX2_wholeDebt_27 rfl (lv_at hl 1 rfl) ?_
      obtain rfl := Option.some.inj hf
      exact g_lret C E dX2_wholeDebt_28
    · rw [if_neg c1] at hf
      refine lv_lload_n hx hb dX2_wholeDebt_12 rfl (lv_at hl 1 rfl) ?_
      refine lv_aload_n hx hb dX2_wholeDebt_13 rfl (lv_at hl 0 rfl) ?_
      refine g_get C E 15 2 (fun _ h => List.mem_cons_of_mem _ (List.mem_append_right _ h)) rfl rfl (by decide) (List.mem_of_getElem? (i := 2) rfl) rfl rfl dX2_wholeDebt_14 ?_
      refine lv_iload_n hx hb dX2_wholeDebt_17 rfl (lv_at hl 2 rfl) ?_
      obtain ⟨h2, hf⟩ := ck_some hf
      refine g_lald C E 18 rfl h2 dX2_wholeDebt_18 ?_
      refine lv_ladd hx hb dX2_wholeDebt_19 ?_
      refine lv_lstore_n (lv' := [(1, .long (x1 + (ldb x3.toNatClampNeg))), (0, .ref (a 15)), (3, .int x3)]) hx hb dX2_wholeDebt_20 rfl hl (by decide) rfl (fun ls hl => ?_)
      refine lv_iinc (v := (x3 + 1)) (lv' := [(3, .int (x3 + 1)), (1, .long (x1 + (ldb x3.toNatClampNeg))), (0, .ref (a 15))]) hx hb dX2_wholeDebt_21 hl (k := 2) rfl rfl (by decide) rfl (fun ls hl => ?_)
      refine lv_goto (tgt := 4) hx hb dX2_wholeDebt_24 (by decide) ?_
      exact ih (x1 + (ldb x3.toNatClampNeg)) (x3 + 1) _ _ _ E (lv_sub hl [2, 1, 0] rfl) hf
def f_X2_wholeDebt (ldb : Nat → Int64) (lsz : Int32)  : Option (Int64) :=
  f_X2_wholeDebt_L4 ldb lsz FU (0 : Int64) (0 : Int32)
set_option maxHeartbeats 4000000 in
set_option maxRecDepth 100000 in
theorem c_X2_wholeDebt {l : Launch} {D : va_G} {cI cJ cZ : ClassId} {a : Nat → Nat} {sz : Nat} {vl : Nat → Int32} {hs : Nat → Int32} {isz : Nat → Int32} {igd : Nat → Int32} {iup : Nat → Int32} {idn : Nat → Int32} {osz : Nat → Int32} {ogd : Nat → Int32} {oup : Nat → Int32} {odn : Nat → Int32} {dep : Nat → Int32} {rsz : Int32} {lgd : Nat → Int32} {llf : Nat → Int64} {ldb : Nat → Int64} {ldy : Nat → Int32} {lsz : Int32} {lti : Int64} {pgd : Nat → Int32} {plf : Nat → Int64} {pun : Nat → Int32} {psz : Int32} {bgd : Nat → Int32} {bam : Nat → Int64} {bwt : Nat → Int64} {bsh : Nat → Int64} {brm : Nat → Int64} {bsz : Int32} {cab : Nat → Int64} {cbl : Nat → Int64} {tod : Int32} {imp : Int64} {dis : Int64} {owe : Int64} {itr : Int64} {o : Int64} (hf : f_X2_wholeDebt ldb lsz = some o) : gMl l yX2_wholeDebt wsX2_wholeDebt rm_X2_wholeDebt D (gT cI cJ cZ) (cW a cI cJ cZ vl hs isz igd iup idn osz ogd oup odn dep rsz lgd llf ldb ldy lsz lti pgd plf pun psz bgd bam bwt bsh brm bsz cab cbl tod imp dis owe itr) (cW a cI cJ cZ vl hs isz igd iup idn osz ogd oup odn dep rsz lgd llf ldb ldy lsz lti pgd plf pun psz bgd bam bwt bsh brm bsz cab cbl tod imp dis owe itr) sz [.ref (a 15)] o := by
  refine g_of (cc := cX2_wholeDebt) (maxL := 4) (ret := (some .long)) (by decide) rfl (Nat.le_of_ble_eq_true rfl) ?_
  intro p e s m below meth c A ls hAe C hl E
  rw [← hAe]
  obtain ⟨hx, hb, hr, hml, hown, hts, hlocks, hN, hA⟩ := id C
  have hl : lv_has ls 4 [(0, .ref (a 15))] := hl
  have E : vE s A D (gT cI cJ cZ) (cW a cI cJ cZ vl hs isz igd iup idn osz ogd oup odn dep rsz lgd llf ldb ldy lsz lti pgd plf pun psz bgd bam bwt bsh brm bsz cab cbl tod imp dis owe itr) s.heap [] := E
  rw [f_X2_wholeDebt] at hf
  refine lv_lconst (v := 0) hx hb dX2_wholeDebt_0 (by decide) ?_
  refine lv_lstore_n (lv' := [(1, .long (0 : Int64)), (0, .ref (a 15))]) hx hb dX2_wholeDebt_1 rfl hl (by decide) rfl (fun ls hl => ?_)
  refine lv_iconst (v := 0) hx hb dX2_wholeDebt_2 (by decide) ?_
  refine lv_istore_n (lv' := [(3, .int (0 : Int32)), (1, .long (0 : Int64)), (0, .ref (a 15))]) hx hb dX2_wholeDebt_3 rfl hl (by decide) rfl (fun ls hl => ?_)
  exact w_X2_wholeDebt_L4 C  FU (0 : Int64) (0 : Int32) _ _ _ E (lv_sub hl [2, 1, 0] rfl) hf
abbrev rm_X2_takeFrom : Room := { frames := 1, cells := 0, slots := 0, locals := 23 }
theorem hd_X2_takeFrom : yX2_takeFrom.cls ≠ "java/lang/invoke/MethodHandle" ∧ yX2_takeFrom.cls ≠ "java/lang/invoke/VarHandle" ∧ (parseMethodDescriptor yX2_takeFrom.desc).map (fun d => d.parameters.length) = some 2 := by decide +kernel
def f_X2_takeFrom (llf : Nat → Int64) (ldb : Nat → Int64) (x1 : Int32) (x2 : Int64) : Option (Int64 × (Nat → Int64) × (Nat → Int64)) :=
  ck x1 200 <|
  if (lg_cmp x2 (llf x1.toNatClampNeg)) = 0 then
    ck x1 200 <|
    ck x1 200 <|
    ck x1 200 <|
    ck x1 200 <|
    ck x1 200 <|
    some ((ldb x1.toNatClampNeg), (vp_updL llf x1.toNatClampNeg ((llf x1.toNatClampNeg) - x2)), (vp_updL ldb x1.toNatClampNeg ((ldb x1.toNatClampNeg) - (ldb x1.toNatClampNeg))))
  else
    ck x1 200 <|
    ck x1 200 <|
    (f_X6_floorOf ((ldb x1.toNatClampNeg) * x2) (llf x1.toNatClampNeg)).bind fun o5 =>
    ck x1 200 <|
    ck x1 200 <|
    ck x1 200 <|
    ck x1 200 <|
    some (o5, (vp_updL llf x1.toNatClampNeg ((llf x1.toNatClampNeg) - x2)), (vp_updL ldb x1.toNatClampNeg ((ldb x1.toNatClampNeg) - o5)))
set_option maxHeartbeats 4000000 in
set_option maxRecDepth 100000 in
theorem c_X2_takeFrom {l : Launch} {D : va_G} {cI cJ cZ : ClassId} {a : Nat → Nat} {sz : Nat} {vl : Nat → Int32} {hs : Nat → Int32} {isz : Nat → Int32} {igd : Nat → Int32} {iup : Nat → Int32} {idn : Nat → Int32} {osz : Nat → Int32} {ogd : Nat → Int32} {oup : Nat → Int32} {odn : Nat → Int32} {dep : Nat → Int32} {rsz : Int32} {lgd : Nat → Int32} {llf : Nat → Int64} {ldb : Nat → Int64} {ldy : Nat → Int32} {lsz : Int32} {lti : Int64} {pgd : Nat → Int32} {plf : Nat → Int64} {pun : Nat → Int32} {psz : Int32} {bgd : Nat → Int32} {bam : Nat → Int64} {bwt : Nat → Int64} {bsh : Nat → Int64} {brm : Nat → Int64} {bsz : Int32} {cab : Nat → Int64} {cbl : Nat → Int64} {tod : Int32} {imp : Int64} {dis : Int64} {owe : Int64} {itr : Int64} {x1 : Int32} {x2 : Int64} {o : Int64 × (Nat → Int64) × (Nat → Int64)} (hf : f_X2_takeFrom llf ldb x1 x2 = some o) : gMl l yX2_takeFrom wsX2_takeFrom rm_X2_takeFrom D (gT cI cJ cZ) (cW a cI cJ cZ vl hs isz igd iup idn osz ogd oup odn dep rsz lgd llf ldb ldy lsz lti pgd plf pun psz bgd bam bwt bsh brm bsz cab cbl tod imp dis owe itr) (cW a cI cJ cZ vl hs isz igd iup idn osz ogd oup odn dep rsz lgd o.2.1 o.2.2 ldy lsz lti pgd plf pun psz bgd bam bwt bsh brm bsz cab cbl tod imp dis owe itr) sz [.ref (a 15), .int x1, .long x2] o.1 := by
  refine g_of (cc := cX2_takeFrom) (maxL := 6) (ret := (some .long)) (by decide) rfl (Nat.le_of_ble_eq_true rfl) ?_
  intro p e s m below meth c A ls hAe C hl E
  rw [← hAe]
  obtain ⟨hx, hb, hr, hml, hown, hts, hlocks, hN, hA⟩ := id C
  have hl : lv_has ls 6 [(0, .ref (a 15)), (1, .int x1), (2, .long x2)] := hl
  have E : vE s A D (gT cI cJ cZ) (cW a cI cJ cZ vl hs isz igd iup idn osz ogd oup odn dep rsz lgd llf ldb ldy lsz lti pgd plf pun psz bgd bam bwt bsh brm bsz cab cbl tod imp dis owe itr) s.heap [] := E
  rw [f_X2_takeFrom] at hf
  refine lv_lload_n hx hb dX2_takeFrom_0 rfl (lv_at hl 2 rfl) ?_
  refine lv_aload_n hx hb dX2_takeFrom_1 rfl (lv_at hl 0 rfl) ?_
  refine g_get C E 15 1 (fun _ h => List.mem_cons_of_mem _ (List.mem_append_right _ h)) rfl rfl (by decide) (List.mem_of_getElem? (i := 1) rfl) rfl rfl dX2_takeFrom_2 ?_
  refine lv_iload_n hx hb dX2_takeFrom_5 rfl (lv_at hl 1 rfl) ?_
  obtain ⟨h1, hf⟩ := ck_some hf
  refine g_lald C E 17 rfl h1 dX2_takeFrom_6 ?_
  refine W.lcmp hx hb dX2_takeFrom_7 ?_
  refine lv_if_ne (tgt := 20) hx hb dX2_takeFrom_8 (by decide) (fun c2 => ?_) (fun c2 => ?_)
  · rw [if_neg c2] at hf
    refine lv_aload_n hx hb dX2_takeFrom_20 rfl (lv_at hl 0 rfl) ?_
    refine g_get C E 15 2 (fun _ h => List.mem_cons_of_mem _ (List.mem_append_right _ h)) rfl rfl (by decide) (List.mem_of_getElem? (i := 2) rfl) rfl rfl dX2_takeFrom_21 ?_
    refine lv_iload_n hx hb dX2_takeFrom_24 rfl (lv_at hl 1 rfl) ?_
    obtain ⟨h3, hf⟩ := ck_some hf
    refine g_lald C E 18 rfl h3 dX2_takeFrom_25 ?_
    refine lv_lload_n hx hb dX2_takeFrom_26 rfl (lv_at hl 2 rfl) ?_
    refine lv_lmul hx hb dX2_takeFrom_27 ?_
    refine lv_aload_n hx hb dX2_takeFrom_28 rfl (lv_at hl 0 rfl) ?_
    refine g_get C E 15 1 (fun _ h => List.mem_cons_of_mem _ (List.mem_append_right _ h)) rfl rfl (by decide) (List.mem_of_getElem? (i := 1) rfl) rfl rfl dX2_takeFrom_29 ?_
    refine lv_iload_n hx hb dX2_takeFrom_32 rfl (lv_at hl 1 rfl) ?_
    obtain ⟨h4, hf⟩ := ck_some hf
    refine g_lald C E 17 rfl h4 dX2_takeFrom_33 ?_
    obtain ⟨o5, e6, hf⟩ := bd_some hf
    refine g_calll (w' := (cW a cI cJ cZ vl hs isz igd iup idn osz ogd oup odn dep rsz lgd llf ldb ldy lsz lti pgd plf pun psz bgd bam bwt bsh brm bsz cab cbl tod imp dis owe itr)) C E (g_runSN (As := [.long ((ldb x1.toNatClampNeg) * x2), .long (llf x1.toNatClampNeg)]) (rest := []) C E (c_X6_floorOf e6) ⟨va_cnB 2 hts gX2_takeFrom_X6_floorOf_n49 rfl rfl rfl (hN.1 _ (List.mem_of_getElem? (i := 8) rfl)) (hts (.initialized RX6) (List.mem_of_getElem? (i := 4) rfl)) hd_X6_floorOf ⟨Nat.le_of_ble_eq_true rfl, Nat.le_of_ble_eq_true rfl⟩, hts (.static yX6_floorOf) (List.mem_of_getElem? (i := 3) rfl), trivial⟩ rfl hl.1 rfl (Nat.le_of_ble_eq_true rfl) dX2_takeFrom_34 ⟨Nat.le_of_ble_eq_true rfl, Nat.le_of_ble_eq_true rfl⟩) (fun H locs E => ?_)
    refine lv_lstore (lv' := [(4, .long o5), (0, .ref (a 15)), (1, .int x1), (2, .long x2)]) hx hb dX2_takeFrom_37 hl (by decide) rfl (fun ls hl => ?_)
    refine lv_aload_n hx hb dX2_takeFrom_39 rfl (lv_at hl 1 rfl) ?_
    refine g_get C E 15 1 (fun _ h => List.mem_cons_of_mem _ (List.mem_append_right _ h)) rfl rfl (by decide) (List.mem_of_getElem? (i := 1) rfl) rfl rfl dX2_takeFrom_40 ?_
    refine lv_iload_n hx hb dX2_takeFrom_43 rfl (lv_at hl 2 rfl) ?_
    refine lv_dup2_11 hx hb dX2_takeFrom_44 rfl rfl ?_
    obtain ⟨h7, hf⟩ := ck_some hf
    refine g_lald C E 17 rfl h7 dX2_takeFrom_45 ?_
    refine lv_lload_n hx hb dX2_takeFrom_46 rfl (lv_at hl 3 rfl) ?_
    refine lv_lsub hx hb dX2_takeFrom_47 ?_
    obtain ⟨h8, hf⟩ := ck_some hf
    refine g_last (w' := (cW a cI cJ cZ vl hs isz igd iup idn osz ogd oup odn dep rsz lgd (vp_updL llf x1.toNatClampNeg ((llf x1.toNatClampNeg) - x2)) ldb ldy lsz lti pgd plf pun psz bgd bam bwt bsh brm bsz cab cbl tod imp dis owe itr)) C E 17 rfl h8 dX2_takeFrom_48 rfl (fun H locs E => ?_)
    refine lv_aload_n hx hb dX2_takeFrom_49 rfl (lv_at hl 1 rfl) ?_
    refine g_get C E 15 2 (fun _ h => List.mem_cons_of_mem _ (List.mem_append_right _ h)) rfl rfl (by decide) (List.mem_of_getElem? (i := 2) rfl) rfl rfl dX2_takeFrom_50 ?_
    refine lv_iload_n hx hb dX2_takeFrom_53 rfl (lv_at hl 2 rfl) ?_
    refine lv_dup2_11 hx hb dX2_takeFrom_54 rfl rfl ?_
    obtain ⟨h9, hf⟩ := ck_some hf
    refine g_lald C E 18 rfl h9 dX2_takeFrom_55 ?_
    refine lv_lload hx hb dX2_takeFrom_56 (lv_at hl 0 rfl) ?_
    refine lv_lsub hx hb dX2_takeFrom_58 ?_
    obtain ⟨h10, hf⟩ := ck_some hf
    refine g_last (w' := (cW a cI cJ cZ vl hs isz igd iup idn osz ogd oup odn dep rsz lgd (vp_updL llf x1.toNatClampNeg ((llf x1.toNatClampNeg) - x2)) (vp_updL ldb x1.toNatClampNeg ((ldb x1.toNatClampNeg) - o5)) ldy lsz lti pgd plf pun psz bgd bam bwt bsh brm bsz cab cbl tod imp dis owe itr)) C E 18 rfl h10 dX2_takeFrom_59 rfl (fun H locs E => ?_)
    refine lv_lload hx hb dX2_takeFrom_60 (lv_at hl 0 rfl) ?_
    obtain rfl := Option.some.inj hf
    exact g_lret C E dX2_takeFrom_62
  · rw [if_pos c2] at hf
    refine lv_aload_n hx hb dX2_takeFrom_11 rfl (lv_at hl 0 rfl) ?_
    refine g_get C E 15 2 (fun _ h => List.mem_cons_of_mem _ (List.mem_append_right _ h)) rfl rfl (by decide) (List.mem_of_getElem? (i := 2) rfl) rfl rfl dX2_takeFrom_12 ?_
    refine lv_iload_n hx hb dX2_takeFrom_15 rfl (lv_at hl 1 rfl) ?_
    obtain ⟨h11, hf⟩ := ck_some hf
    refine g_lald C E 18 rfl h11 dX2_takeFrom_16 ?_
    refine lv_goto (tgt := 37) hx hb dX2_takeFrom_17 (by decide) ?_
    refine lv_lstore (lv' := [(4, .long (ldb x1.toNatClampNeg)), (0, .ref (a 15)), (1, .int x1), (2, .long x2)]) hx hb dX2_takeFrom_37 hl (by decide) rfl (fun ls hl => ?_)
    refine lv_aload_n hx hb dX2_takeFrom_39 rfl (lv_at hl 1 rfl) ?_
    refine g_get C E 15 1 (fun _ h => List.mem_cons_of_mem _ (List.mem_append_right _ h)) rfl rfl (by decide) (List.mem_of_getElem? (i := 1) rfl) rfl rfl dX2_takeFrom_40 ?_
    refine lv_iload_n hx hb dX2_takeFrom_43 rfl (lv_at hl 2 rfl) ?_
    refine lv_dup2_11 hx hb dX2_takeFrom_44 rfl rfl ?_
    obtain ⟨h12, hf⟩ := ck_some hf
    refine g_lald C E 17 rfl h12 dX2_takeFrom_45 ?_
    refine lv_lload_n hx hb dX2_takeFrom_46 rfl (lv_at hl 3 rfl) ?_
    refine lv_lsub hx hb dX2_takeFrom_47 ?_
    obtain ⟨h13, hf⟩ := ck_some hf
    refine g_last (w' := (cW a cI cJ cZ vl hs isz igd iup idn osz ogd oup odn dep rsz lgd (vp_updL llf x1.toNatClampNeg ((llf x1.toNatClampNeg) - x2)) ldb ldy lsz lti pgd plf pun psz bgd bam bwt bsh brm bsz cab cbl tod imp dis owe itr)) C E 17 rfl h13 dX2_takeFrom_48 rfl (fun H locs E => ?_)
    refine lv_aload_n hx hb dX2_takeFrom_49 rfl (lv_at hl 1 rfl) ?_
    refine g_get C E 15 2 (fun _ h => List.mem_cons_of_mem _ (List.mem_append_right _ h)) rfl rfl (by decide) (List.mem_of_getElem? (i := 2) rfl) rfl rfl dX2_takeFrom_50 ?_
    refine lv_iload_n hx hb dX2_takeFrom_53 rfl (lv_at hl 2 rfl) ?_
    refine lv_dup2_11 hx hb dX2_takeFrom_54 rfl rfl ?_
    obtain ⟨h14, hf⟩ := ck_some hf
    refine g_lald C E 18 rfl h14 dX2_takeFrom_55 ?_
    refine lv_lload hx hb dX2_takeFrom_56 (lv_at hl 0 rfl) ?_
    refine lv_lsub hx hb dX2_takeFrom_58 ?_
    obtain ⟨h15, hf⟩ := ck_some hf
    refine g_last (w' := (cW a cI cJ cZ vl hs isz igd iup idn osz ogd oup odn dep rsz lgd (vp_updL llf x1.toNatClampNeg ((llf x1.toNatClampNeg) - x2)) (vp_updL ldb x1.toNatClampNeg ((ldb x1.toNatClampNeg) - (ldb x1.toNatClampNeg))) ldy lsz lti pgd plf pun psz bgd bam bwt bsh brm bsz cab cbl tod imp dis owe itr)) C E 18 rfl h15 dX2_takeFrom_59 rfl (fun H locs E => ?_)
    refine lv_lload hx hb dX2_takeFrom_60 (lv_at hl 0 rfl) ?_
    obtain rfl := Option.some.inj hf
    exact g_lret C E dX2_takeFrom_62
abbrev rm_X2_months : Room := { frames := 2, cells := 0, slots := 0, locals := 46 }
theorem hd_X2_months : yX2_months.cls ≠ "java/lang/invoke/MethodHandle" ∧ yX2_months.cls ≠ "java/lang/invoke/VarHandle" ∧ (parseMethodDescriptor yX2_months.desc).map (fun d => d.parameters.length) = some 2 := by decide +kernel
def f_X2_months (ldy : Nat → Int32) (x1 : Int32) (x2 : Int32) : Option (Int64) :=
  ck x1 200 <|
  (f_X6_ceilOf ((x2 - (ldy x1.toNatClampNeg)).toInt64) (30 : Int64)).bind fun o2 =>
  some (o2)
set_option maxHeartbeats 4000000 in
set_option maxRecDepth 100000 in
theorem c_X2_months {l : Launch} {D : va_G} {cI cJ cZ : ClassId} {a : Nat → Nat} {sz : Nat} {vl : Nat → Int32} {hs : Nat → Int32} {isz : Nat → Int32} {igd : Nat → Int32} {iup : Nat → Int32} {idn : Nat → Int32} {osz : Nat → Int32} {ogd : Nat → Int32} {oup : Nat → Int32} {odn : Nat → Int32} {dep : Nat → Int32} {rsz : Int32} {lgd : Nat → Int32} {llf : Nat → Int64} {ldb : Nat → Int64} {ldy : Nat → Int32} {lsz : Int32} {lti : Int64} {pgd : Nat → Int32} {plf : Nat → Int64} {pun : Nat → Int32} {psz : Int32} {bgd : Nat → Int32} {bam : Nat → Int64} {bwt : Nat → Int64} {bsh : Nat → Int64} {brm : Nat → Int64} {bsz : Int32} {cab : Nat → Int64} {cbl : Nat → Int64} {tod : Int32} {imp : Int64} {dis : Int64} {owe : Int64} {itr : Int64} {x1 : Int32} {x2 : Int32} {o : Int64} (hf : f_X2_months ldy x1 x2 = some o) : gMl l yX2_months wsX2_months rm_X2_months D (gT cI cJ cZ) (cW a cI cJ cZ vl hs isz igd iup idn osz ogd oup odn dep rsz lgd llf ldb ldy lsz lti pgd plf pun psz bgd bam bwt bsh brm bsz cab cbl tod imp dis owe itr) (cW a cI cJ cZ vl hs isz igd iup idn osz ogd oup odn dep rsz lgd llf ldb ldy lsz lti pgd plf pun psz bgd bam bwt bsh brm bsz cab cbl tod imp dis owe itr) sz [.ref (a 15), .int x1, .int x2] o := by
  refine g_of (cc := cX2_months) (maxL := 3) (ret := (some .long)) (by decide) rfl (Nat.le_of_ble_eq_true rfl) ?_
  intro p e s m below meth c A ls hAe C hl E
  rw [← hAe]
  obtain ⟨hx, hb, hr, hml, hown, hts, hlocks, hN, hA⟩ := id C
  have hl : lv_has ls 3 [(0, .ref (a 15)), (1, .int x1), (2, .int x2)] := hl
  have E : vE s A D (gT cI cJ cZ) (cW a cI cJ cZ vl hs isz igd iup idn osz ogd oup odn dep rsz lgd llf ldb ldy lsz lti pgd plf pun psz bgd bam bwt bsh brm bsz cab cbl tod imp dis owe itr) s.heap [] := E
  rw [f_X2_months] at hf
  refine lv_iload_n hx hb dX2_months_0 rfl (lv_at hl 2 rfl) ?_
  refine lv_aload_n hx hb dX2_months_1 rfl (lv_at hl 0 rfl) ?_
  refine g_get C E 15 3 (fun _ h => List.mem_cons_of_mem _ (List.mem_append_right _ h)) rfl rfl (by decide) (List.mem_of_getElem? (i := 1) rfl) rfl rfl dX2_months_2 ?_
  refine lv_iload_n hx hb dX2_months_5 rfl (lv_at hl 1 rfl) ?_
  obtain ⟨h1, hf⟩ := ck_some hf
  refine g_iald C E 19 rfl h1 dX2_months_6 ?_
  refine lv_isub hx hb dX2_months_7 ?_
  refine lv_i2l hx hb dX2_months_8 rfl ?_
  refine lv_ldc2 (v := 30) hx hb hown (hts (.constantLong RX2 52 (30)) (List.mem_of_getElem? (i := 2) rfl)) dX2_months_9 ?_
  obtain ⟨o2, e3, hf⟩ := bd_some hf
  refine g_calll (w' := (cW a cI cJ cZ vl hs isz igd iup idn osz ogd oup odn dep rsz lgd llf ldb ldy lsz lti pgd plf pun psz bgd bam bwt bsh brm bsz cab cbl tod imp dis owe itr)) C E (g_runSN (As := [.long ((x2 - (ldy x1.toNatClampNeg)).toInt64), .long (30 : Int64)]) (rest := []) C E (c_X6_ceilOf e3) ⟨va_cnB 2 hts gX2_months_X6_ceilOf_n54 rfl rfl rfl (hN.1 _ (List.mem_of_getElem? (i := 9) rfl)) (hts (.initialized RX6) (List.mem_of_getElem? (i := 4) rfl)) hd_X6_ceilOf ⟨Nat.le_of_ble_eq_true rfl, Nat.le_of_ble_eq_true rfl⟩, hts (.static yX6_ceilOf) (List.mem_of_getElem? (i := 3) rfl), trivial⟩ rfl hl.1 rfl (Nat.le_of_ble_eq_true rfl) dX2_months_12 ⟨Nat.le_of_ble_eq_true rfl, Nat.le_of_ble_eq_true rfl⟩) (fun H locs E => ?_)
  obtain rfl := Option.some.inj hf
  exact g_lret C E dX2_months_15
abbrev rm_X2_take : Room := { frames := 3, cells := 0, slots := 0, locals := 68 }
theorem hd_X2_take : yX2_take.cls ≠ "java/lang/invoke/MethodHandle" ∧ yX2_take.cls ≠ "java/lang/invoke/VarHandle" ∧ (parseMethodDescriptor yX2_take.desc).map (fun d => d.parameters.length) = some 3 := by decide +kernel
def f_X2_take_L14 (lgd : Nat → Int32) (ldy : Nat → Int32) (lsz : Int32) (x1 : Int32) (x4 : Int32) : Nat → (Nat → Int64) → (Nat → Int64) → (Int64) → Int64 → Int64 → Int32 → Option (Int64 × (Nat → Int64) × (Nat → Int64) × (Int64))
  | 0, _, _, _, _, _, _ => none
  | n + 1, llf, ldb, lti, x5, x7, x9 =>
  if lsz ≤ x9 then
    some (x7, llf, ldb, lti)
  else
    if (lg_cmp x5 (0 : Int64)) ≤ 0 then
      some (x7, llf, ldb, lti)
    else
      ck x9 200 <|
      if (lgd x9.toNatClampNeg) = x1 then
        ck x9 200 <|
        if (lg_cmp (llf x9.toNatClampNeg) (0 : Int64)) ≤ 0 then
          f_X2_take_L14 lgd ldy lsz x1 x4 n llf ldb lti x5 x7 (x9 + 1)
        else
          ck x9 200 <|
          (f_X2_takeFrom llf ldb x9 (if (llf x9.toNatClampNeg) < x5 then (llf x9.toNatClampNeg) else x5)).bind fun o8 =>
          (f_X2_months ldy x9 x4).bind fun o10 =>
          f_X2_take_L14 lgd ldy lsz x1 x4 n o8.2.1 o8.2.2 (lti + ((o8.1 * o10) / (100 : Int64))) (x5 - (if (llf x9.toNatClampNeg) < x5 then (llf x9.toNatClampNeg) else x5)) (x7 + o8.1) (x9 + 1)
      else
        f_X2_take_L14 lgd ldy lsz x1 x4 n llf ldb lti x5 x7 (x9 + 1)
set_option maxHeartbeats 4000000 in
set_option maxRecDepth 100000 in
theorem w_X2_take_L14 {p : Program} {l : Launch} {e : Env} {s : State} {m : MethodId} {args : Array Value} {below : List Frame} {meth : Method} {c : Code} {A : Nat → Prop} {D : va_G} {cI cJ cZ : ClassId} {a : Nat → Nat} {vl : Nat → Int32} {hs : Nat → Int32} {isz : Nat → Int32} {igd : Nat → Int32} {iup : Nat → Int32} {idn : Nat → Int32} {osz : Nat → Int32} {ogd : Nat → Int32} {oup : Nat → Int32} {odn : Nat → Int32} {dep : Nat → Int32} {rsz : Int32} {lgd : Nat → Int32} {ldy : Nat → Int32} {lsz : Int32} {pgd : Nat → Int32} {plf : Nat → Int64} {pun : Nat → Int32} {psz : Int32} {bgd : Nat → Int32} {bam : Nat → Int64} {bwt : Nat → Int64} {bsh : Nat → Int64} {brm : Nat → Int64} {bsz : Int32} {cab : Nat → Int64} {cbl : Nat → Int64} {tod : Int32} {imp : Int64} {dis : Int64} {owe : Int64} {itr : Int64} (C : gC p s m args meth c cX2_take 14 (some .long) wsX2_take RX2 A) {x1 : Int32} {x4 : Int32} {o : Int64 × (Nat → Int64) × (Nat → Int64) × (Int64)} :
    ∀ (n : Nat) (llf : Nat → Int64) (ldb : Nat → Int64) (lti : Int64) (x5 : Int64) (x7 : Int64) (x9 : Int32) (H : Heap) (locs : List Loc) (ls : Array Slot), vE s A D (gT cI cJ cZ) (cW a cI cJ cZ vl hs isz igd iup idn osz ogd oup odn dep rsz lgd llf ldb ldy lsz lti pgd plf pun psz bgd bam bwt bsh brm bsz cab cbl tod imp dis owe itr) H locs → lv_has ls 14 [(0, .ref (a 15)), (1, .int x1), (4, .int x4), (5, .long x5), (7, .long x7), (9, .int x9)] → f_X2_take_L14 lgd ldy lsz x1 x4 n llf ldb lti x5 x7 x9 = some o → W p l e rm_X2_take s m args below meth c H locs 0 0 (MQ below (gQl D (gT cI cJ cZ) A (cW a cI cJ cZ vl hs isz igd iup idn osz ogd oup odn dep rsz lgd o.2.1 o.2.2.1 ldy lsz o.2.2.2 pgd plf pun psz bgd bam bwt bsh brm bsz cab cbl tod imp dis owe itr) o.1) args s 0 0 A) (F0 m 14 ls []) := by
  obtain ⟨hx, hb, hr, hml, hown, hts, hlocks, hN, hA⟩ := id C
  intro n
  induction n with
  | zero =>
    intro llf ldb lti x5 x7 x9 H locs ls E hl hf
    rw [f_X2_take_L14] at hf
    cases hf
  | succ n ih =>
    intro llf ldb lti x5 x7 x9 H locs ls E hl hf
    rw [f_X2_take_L14] at hf
    refine lv_iload hx hb dX2_take_14 (lv_at hl 5 rfl) ?_
    refine lv_aload_n hx hb dX2_take_16 rfl (lv_at hl 0 rfl) ?_
    refine g_get C E 15 4 (fun _ h => List.mem_cons_of_mem _ (List.mem_append_right _ h)) rfl rfl (by decide) (List.mem_of_getElem? (i := 2) rfl) rfl rfl dX2_take_17 ?_
    refine lv_icmp_ge (tgt := 121) hx hb dX2_take_20 (by decide) (fun c1 => ?_) (fun c1 => ?_)
    · rw [if_pos c1] at hf
      refine lv_lload hx hb dX2_take_121 (lv_at hl 4 rfl) ?_
      obtain rfl := Option.some.inj hf
      exact g_lret C E dX2_take_123
    · rw [if_neg c1] at hf
      refine lv_lload hx hb dX2_take_23 (lv_at hl 3 rfl) ?_
      refine lv_lconst (v := 0) hx hb dX2_take_25 (by decide) ?_
      refine W.lcmp hx hb dX2_take_26 ?_
      refine lv_if_le (tgt := 121) hx hb dX2_take_27 (by decide) (fun c2 => ?_) (fun c2 => ?_)
      · rw [if_pos c2] at hf
        refine lv_lload hx hb dX2_take_121 (lv_at hl 4 rfl) ?_
        obtain rfl := Option.some.inj hf
        exact g_lret C E dX2_take_123
      · rw [if_neg c2] at hf
        refine lv_aload_n hx hb dX2_take_30 rfl (lv_at hl 0 rfl) ?_
        refine g_get C E 15 0 (fun _ h => List.mem_cons_of_mem _ (List.mem_append_right _ h)) rfl rfl (by decide) (List.mem_of_getElem? (i := 3) rfl) rfl rfl dX2_take_31 ?_
        refine lv_iload hx hb dX2_take_34 (lv_at hl 5 rfl) ?_
        obtain ⟨h3, hf⟩ := ck_some hf
        refine g_iald C E 16 rfl h3 dX2_take_36 ?_
        refine lv_iload_n hx hb dX2_take_37 rfl (lv_at hl 1 rfl) ?_
        refine lv_icmp_ne (tgt := 115) hx hb dX2_take_38 (by decide) (fun c4 => ?_) (fun c4 => ?_)
        · rw [if_neg c4] at hf
          refine lv_iinc (v := (x9 + 1)) (lv' := [(9, .int (x9 + 1)), (0, .ref (a 15)), (1, .int x1), (4, .int x4), (5, .long x5), (7, .long x7)]) hx hb dX2_take_115 hl (k := 5) rfl rfl (by decide) rfl (fun ls hl => ?_)
          refine lv_goto (tgt := 14) hx hb dX2_take_118 (by decide) ?_
          exact ih llf ldb lti x5 x7 (x9 + 1) _ _ _ E (lv_sub hl [1, 2, 3, 4, 5, 0] rfl) hf
        · rw [if_pos c4] at hf
          refine lv_aload_n hx hb dX2_take_41 rfl (lv_at hl 0 rfl) ?_
          refine g_get C E 15 1 (fun _ h => List.mem_cons_of_mem _ (List.mem_append_right _ h)) rfl rfl (by decide) (List.mem_of_getElem? (i := 4) rfl) rfl rfl dX2_take_42 ?_
          refine lv_iload hx hb dX2_take_45 (lv_at hl 5 rfl) ?_
          obtain ⟨h5, hf⟩ := ck_some hf
          refine g_lald C E 17 rfl h5 dX2_take_47 ?_
          refine lv_lconst (v := 0) hx hb dX2_take_48 (by decide) ?_
          refine W.lcmp hx hb dX2_take_49 ?_
          refine lv_if_le (tgt := 115) hx hb dX2_take_50 (by decide) (fun c6 => ?_) (fun c6 => ?_)
          · rw [if_pos c6] at hf
            refine lv_iinc (v := (x9 + 1)) (lv' := [(9, .int (x9 + 1)), (0, .ref (a 15)), (1, .int x1), (4, .int x4), (5, .long x5), (7, .long x7)]) hx hb dX2_take_115 hl (k := 5) rfl rfl (by decide) rfl (fun ls hl => ?_)
            refine lv_goto (tgt := 14) hx hb dX2_take_118 (by decide) ?_
            exact ih llf ldb lti x5 x7 (x9 + 1) _ _ _ E (lv_sub hl [1, 2, 3, 4, 5, 0] rfl) hf
          · rw [if_neg c6] at hf
            refine lv_lload hx hb dX2_take_53 (lv_at hl 3 rfl) ?_
            refine lv_aload_n hx hb dX2_take_55 rfl (lv_at hl 0 rfl) ?_
            refine g_get C E 15 1 (fun _ h => List.mem_cons_of_mem _ (List.mem_append_right _ h)) rfl rfl (by decide) (List.mem_of_getElem? (i := 4) rfl) rfl rfl dX2_take_56 ?_
            refine lv_iload hx hb dX2_take_59 (lv_at hl 5 rfl) ?_
            obtain ⟨h7, hf⟩ := ck_some hf
            refine g_lald C E 17 rfl h7 dX2_take_61 ?_
            refine va_mmin_long hx hb (hml.trans hl.1.symm) hown (hts (.methodLink RX2 33 Lib.MathLoose.min_long.x) (List.mem_of_getElem? (i := 5) rfl)) (hts (.static Lib.MathLoose.min_long.x) (List.mem_of_getElem? (i := 6) rfl)) (hts (.initialized "java/lang/Math") (List.mem_of_getElem? (i := 7) rfl)) (hts (.code Lib.MathLoose.min_long.x Lib.MathLoose.min_long.code 4 (some .long)) (List.mem_of_getElem? (i := 8) rfl)) (Nat.le_of_ble_eq_true rfl) (Nat.le_of_ble_eq_true rfl) (Nat.le_of_ble_eq_true rfl) (Nat.le_of_ble_eq_true rfl) dX2_take_62 ?_
            refine lv_lstore (lv' := [(10, .long (if (llf x9.toNatClampNeg) < x5 then (llf x9.toNatClampNeg) else x5)), (0, .ref (a 15)), (1, .int x1), (4, .int x4), (5, .long x5), (7, .long x7), (9, .int x9)]) hx hb dX2_take_65 hl (by decide) rfl (fun ls hl => ?_)
            refine lv_aload_n hx hb dX2_take_67 rfl (lv_at hl 1 rfl) ?_
            refine lv_iload hx hb dX2_take_68 (lv_at hl 6 rfl) ?_
            refine lv_lload hx hb dX2_take_70 (lv_at hl 0 rfl) ?_
            obtain ⟨o8, e9, hf⟩ := bd_some hf
            refine g_calll (w' := (cW a cI cJ cZ vl hs isz igd iup idn osz ogd oup odn dep rsz lgd o8.2.1 o8.2.2 ldy lsz lti pgd plf pun psz bgd bam bwt bsh brm bsz cab cbl tod imp dis owe itr)) C E (g_runV (As := [.int x9, .long (if (llf x9.toNatClampNeg) < x5 then (llf x9.toNatClampNeg) else x5)]) (rest := []) C E (c_X2_takeFrom e9) (cwV 2 hts gX2_take_X2_takeFrom rfl rfl rfl ⟨rfl, hd_X2_takeFrom⟩ ⟨Nat.le_of_ble_eq_true rfl, Nat.le_of_ble_eq_true rfl⟩) (q0 := 15) (ci := 2) rfl rfl rfl rfl hl.1 rfl (Nat.le_of_ble_eq_true rfl) dX2_take_72 ⟨Nat.le_of_ble_eq_true rfl, Nat.le_of_ble_eq_true rfl⟩) (fun H locs E => ?_)
            refine lv_lstore (lv' := [(12, .long o8.1), (10, .long (if (llf x9.toNatClampNeg) < x5 then (llf x9.toNatClampNeg) else x5)), (0, .ref (a 15)), (1, .int x1), (4, .int x4), (5, .long x5), (7, .long x7), (9, .int x9)]) hx hb dX2_take_75 hl (by decide) rfl (fun ls hl => ?_)
            refine lv_aload_n hx hb dX2_take_77 rfl (lv_at hl 2 rfl) ?_
            refine lv_dup hx hb dX2_take_78 rfl ?_
            refine g_get C E 15 5 (fun _ h => List.mem_cons_of_mem _ (List.mem_append_right _ h)) rfl rfl (by decide) (List.mem_of_getElem? (i := 1) rfl) rfl rfl dX2_take_79 ?_
            refine lv_lload hx hb dX2_take_82 (lv_at hl 0 rfl) ?_
            refine lv_aload_n hx hb dX2_take_84 rfl (lv_at hl 2 rfl) ?_
            refine lv_iload hx hb dX2_take_85 (lv_at hl 7 rfl) ?_
            refine lv_iload hx hb dX2_take_87 (lv_at hl 4 rfl) ?_
            obtain ⟨o10, e11, hf⟩ := bd_some hf
            refine g_calll (w' := (cW a cI cJ cZ vl hs isz igd iup idn osz ogd oup odn dep rsz lgd o8.2.1 o8.2.2 ldy lsz lti pgd plf pun psz bgd bam bwt bsh brm bsz cab cbl tod imp dis owe itr)) C E (g_runV (As := [.int x9, .int x4]) (rest := [.long o8.1, .long lti, .ref (a 15)]) C E (c_X2_months e11) (cwV 2 hts gX2_take_X2_months rfl rfl rfl ⟨rfl, hd_X2_months⟩ ⟨Nat.le_of_ble_eq_true rfl, Nat.le_of_ble_eq_true rfl⟩) (q0 := 15) (ci := 2) rfl rfl rfl rfl hl.1 rfl (Nat.le_of_ble_eq_true rfl) dX2_take_89 ⟨Nat.le_of_ble_eq_true rfl, Nat.le_of_ble_eq_true rfl⟩) (fun H locs E => ?_)
            refine lv_lmul hx hb dX2_take_92 ?_
            refine lv_ldc2 (v := 100) hx hb hown (hts (.constantLong RX2 47 (100)) (List.mem_of_getElem? (i := 9) rfl)) dX2_take_93 ?_
            refine lv_ldiv hx hb dX2_take_96 (by decide) ?_
            refine lv_ladd hx hb dX2_take_97 ?_
            refine g_put (w' := (cW a cI cJ cZ vl hs isz igd iup idn osz ogd oup odn dep rsz lgd o8.2.1 o8.2.2 ldy lsz (lti + ((o8.1 * o10) / (100 : Int64))) pgd plf pun psz bgd bam bwt bsh brm bsz cab cbl tod imp dis owe itr)) C E 15 5 tyX2 tyX2_ok nmX2 (fun _ h => List.mem_cons_of_mem _ (List.mem_append_right _ h)) rfl rfl (by decide) (List.mem_of_getElem? (i := 1) rfl) rfl rfl rfl rfl rfl (Nat.le_of_ble_eq_true rfl) dX2_take_98 rfl (fun H locs E => ?_)
            refine lv_lload hx hb dX2_take_101 (lv_at hl 6 rfl) ?_
            refine lv_lload hx hb dX2_take_103 (lv_at hl 0 rfl) ?_
            refine lv_ladd hx hb dX2_take_105 ?_
            refine lv_lstore (lv' := [(7, .long (x7 + o8.1)), (12, .long o8.1), (10, .long (if (llf x9.toNatClampNeg) < x5 then (llf x9.toNatClampNeg) else x5)), (0, .ref (a 15)), (1, .int x1), (4, .int x4), (5, .long x5), (9, .int x9)]) hx hb dX2_take_106 hl (by decide) rfl (fun ls hl => ?_)
            refine lv_lload hx hb dX2_take_108 (lv_at hl 6 rfl) ?_
            refine lv_lload hx hb dX2_take_110 (lv_at hl 2 rfl) ?_
            refine lv_lsub hx hb dX2_take_112 ?_
            refine lv_lstore (lv' := [(5, .long (x5 - (if (llf x9.toNatClampNeg) < x5 then (llf x9.toNatClampNeg) else x5))), (7, .long (x7 + o8.1)), (12, .long o8.1), (10, .long (if (llf x9.toNatClampNeg) < x5 then (llf x9.toNatClampNeg) else x5)), (0, .ref (a 15)), (1, .int x1), (4, .int x4), (9, .int x9)]) hx hb dX2_take_113 hl (by decide) rfl (fun ls hl => ?_)
            refine lv_iinc (v := (x9 + 1)) (lv' := [(9, .int (x9 + 1)), (5, .long (x5 - (if (llf x9.toNatClampNeg) < x5 then (llf x9.toNatClampNeg) else x5))), (7, .long (x7 + o8.1)), (12, .long o8.1), (10, .long (if (llf x9.toNatClampNeg) < x5 then (llf x9.toNatClampNeg) else x5)), (0, .ref (a 15)), (1, .int x1), (4, .int x4)]) hx hb dX2_take_115 hl (k := 7) rfl rfl (by decide) rfl (fun ls hl => ?_)
            refine lv_goto (tgt := 14) hx hb dX2_take_118 (by decide) ?_
            exact ih o8.2.1 o8.2.2 (lti + ((o8.1 * o10) / (100 : Int64))) (x5 - (if (llf x9.toNatClampNeg) < x5 then (llf x9.toNatClampNeg) else x5)) (x7 + o8.1) (x9 + 1) _ _ _ E (lv_sub hl [5, 6, 7, 1, 2, 0] rfl) hf
def f_X2_take (lgd : Nat → Int32) (llf : Nat → Int64) (ldb : Nat → Int64) (ldy : Nat → Int32) (lsz : Int32) (lti : Int64) (x1 : Int32) (x2 : Int64) (x4 : Int32) : Option (Int64 × (Nat → Int64) × (Nat → Int64) × (Int64)) :=
  f_X2_take_L14 lgd ldy lsz x1 x4 FU llf ldb (0 : Int64) x2 (0 : Int64) (0 : Int32)
set_option maxHeartbeats 4000000 in
set_option maxRecDepth 100000 in
theorem c_X2_take {l : Launch} {D : va_G} {cI cJ cZ : ClassId} {a : Nat → Nat} {sz : Nat} {vl : Nat → Int32} {hs : Nat → Int32} {isz : Nat → Int32} {igd : Nat → Int32} {iup : Nat → Int32} {idn : Nat → Int32} {osz : Nat → Int32} {ogd : Nat → Int32} {oup : Nat → Int32} {odn : Nat → Int32} {dep : Nat → Int32} {rsz : Int32} {lgd : Nat → Int32} {llf : Nat → Int64} {ldb : Nat → Int64} {ldy : Nat → Int32} {lsz : Int32} {lti : Int64} {pgd : Nat → Int32} {plf : Nat → Int64} {pun : Nat → Int32} {psz : Int32} {bgd : Nat → Int32} {bam : Nat → Int64} {bwt : Nat → Int64} {bsh : Nat → Int64} {brm : Nat → Int64} {bsz : Int32} {cab : Nat → Int64} {cbl : Nat → Int64} {tod : Int32} {imp : Int64} {dis : Int64} {owe : Int64} {itr : Int64} {x1 : Int32} {x2 : Int64} {x4 : Int32} {o : Int64 × (Nat → Int64) × (Nat → Int64) × (Int64)} (hf : f_X2_take lgd llf ldb ldy lsz lti x1 x2 x4 = some o) : gMl l yX2_take wsX2_take rm_X2_take D (gT cI cJ cZ) (cW a cI cJ cZ vl hs isz igd iup idn osz ogd oup odn dep rsz lgd llf ldb ldy lsz lti pgd plf pun psz bgd bam bwt bsh brm bsz cab cbl tod imp dis owe itr) (cW a cI cJ cZ vl hs isz igd iup idn osz ogd oup odn dep rsz lgd o.2.1 o.2.2.1 ldy lsz o.2.2.2 pgd plf pun psz bgd bam bwt bsh brm bsz cab cbl tod imp dis owe itr) sz [.ref (a 15), .int x1, .long x2, .int x4] o.1 := by
  refine g_of (cc := cX2_take) (maxL := 14) (ret := (some .long)) (by decide) rfl (Nat.le_of_ble_eq_true rfl) ?_
  intro p e s m below meth c A ls hAe C hl E
  rw [← hAe]
  obtain ⟨hx, hb, hr, hml, hown, hts, hlocks, hN, hA⟩ := id C
  have hl : lv_has ls 14 [(0, .ref (a 15)), (1, .int x1), (2, .long x2), (4, .int x4)] := hl
  have E : vE s A D (gT cI cJ cZ) (cW a cI cJ cZ vl hs isz igd iup idn osz ogd oup odn dep rsz lgd llf ldb ldy lsz lti pgd plf pun psz bgd bam bwt bsh brm bsz cab cbl tod imp dis owe itr) s.heap [] := E
  rw [f_X2_take] at hf
  refine lv_lload_n hx hb dX2_take_0 rfl (lv_at hl 2 rfl) ?_
  refine lv_lstore (lv' := [(5, .long x2), (0, .ref (a 15)), (1, .int x1), (2, .long x2), (4, .int x4)]) hx hb dX2_take_1 hl (by decide) rfl (fun ls hl => ?_)
  refine lv_lconst (v := 0) hx hb dX2_take_3 (by decide) ?_
  refine lv_lstore (lv' := [(7, .long (0 : Int64)), (5, .long x2), (0, .ref (a 15)), (1, .int x1), (2, .long x2), (4, .int x4)]) hx hb dX2_take_4 hl (by decide) rfl (fun ls hl => ?_)
  refine lv_aload_n hx hb dX2_take_6 rfl (lv_at hl 2 rfl) ?_
  refine lv_lconst (v := 0) hx hb dX2_take_7 (by decide) ?_
  refine g_put (w' := (cW a cI cJ cZ vl hs isz igd iup idn osz ogd oup odn dep rsz lgd llf ldb ldy lsz (0 : Int64) pgd plf pun psz bgd bam bwt bsh brm bsz cab cbl tod imp dis owe itr)) C E 15 5 tyX2 tyX2_ok nmX2 (fun _ h => List.mem_cons_of_mem _ (List.mem_append_right _ h)) rfl rfl (by decide) (List.mem_of_getElem? (i := 1) rfl) rfl rfl rfl rfl rfl (Nat.le_of_ble_eq_true rfl) dX2_take_8 rfl (fun H locs E => ?_)
  refine lv_iconst (v := 0) hx hb dX2_take_11 (by decide) ?_
  refine lv_istore (lv' := [(9, .int (0 : Int32)), (7, .long (0 : Int64)), (5, .long x2), (0, .ref (a 15)), (1, .int x1), (2, .long x2), (4, .int x4)]) hx hb dX2_take_12 hl (by decide) rfl (fun ls hl => ?_)
  exact w_X2_take_L14 C  FU llf ldb (0 : Int64) x2 (0 : Int64) (0 : Int32) _ _ _ E (lv_sub hl [3, 4, 6, 2, 1, 0] rfl) hf
