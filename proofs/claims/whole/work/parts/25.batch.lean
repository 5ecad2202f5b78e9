abbrev rm_X0_plan : Room := { frames := 2, cells := 0, slots := 0, locals := 47 }
theorem hd_X0_plan : yX0_plan.cls ≠ "java/lang/invoke/MethodHandle" ∧ yX0_plan.cls ≠ "java/lang/invoke/VarHandle" ∧ (parseMethodDescriptor yX0_plan.desc).map (fun d => d.parameters.length) = some 3 := by decide +kernel
def f_X0_plan_L23 (osz : Nat → Int32) (ogd : Nat → Int32) (oup : Nat → Int32) (odn : Nat → Int32) (x2 : Int32) (x3 : Int32) : Nat → (Nat → Int32) → (Nat → Int64) → (Int32) → Int32 → Option ((Nat → Int32) × (Nat → Int64) × (Int32))
  | 0, _, _, _, _ => none
  | n + 1, bgd, bam, bsz, x4 =>
  ck x2 12 <|
  if (osz x2.toNatClampNeg) ≤ x4 then
    some (bgd, bam, bsz)
  else
    if (2 : Int32) < bsz then
      some (bgd, bam, bsz)
    else
      (f_X3_goodAt_o ogd x2 x4).bind fun o4 =>
      ck bsz 3 <|
      (f_X3_roundedDown_o oup odn x2 x4 x3).bind fun o7 =>
      ck bsz 3 <|
      f_X0_plan_L23 osz ogd oup odn x2 x3 n (upd bgd bsz.toNatClampNeg o4) (vp_updL bam bsz.toNatClampNeg o7) (bsz + (1 : Int32)) (x4 + 1)
set_option maxHeartbeats 4000000 in
set_option maxRecDepth 100000 in
theorem w_X0_plan_L23 {p : Program} {l : Launch} {e : Env} {s : State} {m : MethodId} {args : Array Value} {below : List Frame} {meth : Method} {c : Code} {A : Nat → Prop} {D : va_G} {cI cJ cZ : ClassId} {a : Nat → Nat} {vl : Nat → Int32} {hs : Nat → Int32} {isz : Nat → Int32} {igd : Nat → Int32} {iup : Nat → Int32} {idn : Nat → Int32} {osz : Nat → Int32} {ogd : Nat → Int32} {oup : Nat → Int32} {odn : Nat → Int32} {dep : Nat → Int32} {rsz : Int32} {lgd : Nat → Int32} {llf : Nat → Int64} {ldb : Nat → Int64} {ldy : Nat → Int32} {lsz : Int32} {lti : Int64} {pgd : Nat → Int32} {plf : Nat → Int64} {pun : Nat → Int32} {psz : Int32} {bwt : Nat → Int64} {bsh : Nat → Int64} {brm : Nat → Int64} {cab : Nat → Int64} {cbl : Nat → Int64} {tod : Int32} {imp : Int64} {dis : Int64} {owe : Int64} {itr : Int64} (C : gC p s m args meth c cX0_plan 5 none wsX0_plan RX0 A) {x2 : Int32} {x3 : Int32} {o : (Nat → Int32) × (Nat → Int64) × (Int32)} :
    ∀ (n : Nat) (bgd : Nat → Int32) (bam : Nat → Int64) (bsz : Int32) (x4 : Int32) (H : Heap) (locs : List Loc) (ls : Array Slot), vE s A D (gT cI cJ cZ) (cW a cI cJ cZ vl hs isz igd iup idn osz ogd oup odn dep rsz lgd llf ldb ldy lsz lti pgd plf pun psz bgd bam bwt bsh brm bsz cab cbl tod imp dis owe itr) H locs → lv_has ls 5 [(0, .ref (a 24)), (1, .ref (a 9)), (2, .int x2), (3, .int x3), (4, .int x4)] → f_X0_plan_L23 osz ogd oup odn x2 x3 n bgd bam bsz x4 = some o → W p l e rm_X0_plan s m args below meth c H locs 0 0 (MQ below (gQv D (gT cI cJ cZ) A (cW a cI cJ cZ vl hs isz igd iup idn osz ogd oup odn dep rsz lgd llf ldb ldy lsz lti pgd plf pun psz o.1 o.2.1 bwt bsh brm o.2.2 cab cbl tod imp dis owe itr)) args s 0 0 A) (F0 m 23 ls []) := by
  obtain ⟨hx, hb, hr, hml, hown, hts, hlocks, hN, hA⟩ := id C
  intro n
  induction n with
  | zero =>
    intro bgd bam bsz x4 H locs ls E hl hf
    rw [f_X0_plan_L23] at hf
    cases hf
  | succ n ih =>
    intro bgd bam bsz x4 H locs ls E hl hf
    rw [f_X0_plan_L23] at hf
    refine lv_iload hx hb dX0_plan_23 (lv_at hl 4 rfl) ?_
    refine lv_aload_n hx hb dX0_plan_25 rfl (lv_at hl 1 rfl) ?_
    refine g_get C E 9 1 (fun _ h => List.mem_cons_of_mem _ (List.mem_append_right _ h)) rfl rfl (by decide) (List.mem_of_getElem? (i := 4) rfl) rfl rfl dX0_plan_26 ?_
    refine lv_iload_n hx hb dX0_plan_29 rfl (lv_at hl 2 rfl) ?_
    obtain ⟨h1, hf⟩ := ck_some hf
    refine g_iald C E 10 rfl h1 dX0_plan_30 ?_
    refine lv_icmp_ge (tgt := 91) hx hb dX0_plan_31 (by decide) (fun c2 => ?_) (fun c2 => ?_)
    · rw [if_pos c2] at hf
      obtain rfl := Option.some.inj hf
      exact g_vret C E dX0_plan_91
    · rw [if_neg c2] at hf
      refine lv_aload_n hx hb dX0_plan_34 rfl (lv_at hl 0 rfl) ?_
      refine g_get C E 24 5 (fun _ h => List.mem_cons_of_mem _ (List.mem_append_left _ (List.mem_append_right _ h))) rfl rfl (by decide) (List.mem_of_getElem? (i := 3) rfl) rfl rfl dX0_plan_35 ?_
      refine lv_iconst (v := 2) hx hb dX0_plan_38 (by decide) ?_
      refine lv_icmp_gt (tgt := 91) hx hb dX0_plan_39 (by decide) (fun c3 => ?_) (fun c3 => ?_)
      · rw [if_pos c3] at hf
        obtain rfl := Option.some.inj hf
        exact g_vret C E dX0_plan_91
      · rw [if_neg c3] at hf
        refine lv_aload_n hx hb dX0_plan_42 rfl (lv_at hl 0 rfl) ?_
        refine g_get C E 24 0 (fun _ h => List.mem_cons_of_mem _ (List.mem_append_left _ (List.mem_append_right _ h))) rfl rfl (by decide) (List.mem_of_getElem? (i := 1) rfl) rfl rfl dX0_plan_43 ?_
        refine lv_aload_n hx hb dX0_plan_46 rfl (lv_at hl 0 rfl) ?_
        refine g_get C E 24 5 (fun _ h => List.mem_cons_of_mem _ (List.mem_append_left _ (List.mem_append_right _ h))) rfl rfl (by decide) (List.mem_of_getElem? (i := 3) rfl) rfl rfl dX0_plan_47 ?_
        refine lv_aload_n hx hb dX0_plan_50 rfl (lv_at hl 1 rfl) ?_
        refine lv_iload_n hx hb dX0_plan_51 rfl (lv_at hl 2 rfl) ?_
        refine lv_iload hx hb dX0_plan_52 (lv_at hl 4 rfl) ?_
        obtain ⟨o4, e5, hf⟩ := bd_some hf
        refine g_calli (w' := (cW a cI cJ cZ vl hs isz igd iup idn osz ogd oup odn dep rsz lgd llf ldb ldy lsz lti pgd plf pun psz bgd bam bwt bsh brm bsz cab cbl tod imp dis owe itr)) C E (g_runV (As := [.int x2, .int x4]) (rest := [.int bsz, .ref (a 25)]) C E (c_X3_goodAt_o e5) (cwV 2 hts gX0_plan_X3_goodAt rfl rfl rfl ⟨rfl, hd_X3_goodAt_o⟩ ⟨Nat.le_of_ble_eq_true rfl, Nat.le_of_ble_eq_true rfl⟩) (q0 := 9) (ci := 3) rfl rfl rfl rfl hl.1 rfl (Nat.le_of_ble_eq_true rfl) dX0_plan_54 ⟨Nat.le_of_ble_eq_true rfl, Nat.le_of_ble_eq_true rfl⟩) (fun H locs E => ?_)
        obtain ⟨h6, hf⟩ := ck_some hf
        refine g_iast (w' := (cW a cI cJ cZ vl hs isz igd iup idn osz ogd oup odn dep rsz lgd llf ldb ldy lsz lti pgd plf pun psz (upd bgd bsz.toNatClampNeg o4) bam bwt bsh brm bsz cab cbl tod imp dis owe itr)) C E 25 rfl h6 dX0_plan_57 rfl (fun H locs E => ?_)
        refine lv_aload_n hx hb dX0_plan_58 rfl (lv_at hl 0 rfl) ?_
        refine g_get C E 24 1 (fun _ h => List.mem_cons_of_mem _ (List.mem_append_left _ (List.mem_append_right _ h))) rfl rfl (by decide) (List.mem_of_getElem? (i := 2) rfl) rfl rfl dX0_plan_59 ?_
        refine lv_aload_n hx hb dX0_plan_62 rfl (lv_at hl 0 rfl) ?_
        refine g_get C E 24 5 (fun _ h => List.mem_cons_of_mem _ (List.mem_append_left _ (List.mem_append_right _ h))) rfl rfl (by decide) (List.mem_of_getElem? (i := 3) rfl) rfl rfl dX0_plan_63 ?_
        refine lv_aload_n hx hb dX0_plan_66 rfl (lv_at hl 1 rfl) ?_
        refine lv_iload_n hx hb dX0_plan_67 rfl (lv_at hl 2 rfl) ?_
        refine lv_iload hx hb dX0_plan_68 (lv_at hl 4 rfl) ?_
        refine lv_iload_n hx hb dX0_plan_70 rfl (lv_at hl 3 rfl) ?_
        obtain ⟨o7, e8, hf⟩ := bd_some hf
        refine g_calll (w' := (cW a cI cJ cZ vl hs isz igd iup idn osz ogd oup odn dep rsz lgd llf ldb ldy lsz lti pgd plf pun psz (upd bgd bsz.toNatClampNeg o4) bam bwt bsh brm bsz cab cbl tod imp dis owe itr)) C E (g_runV (As := [.int x2, .int x4, .int x3]) (rest := [.int bsz, .ref (a 26)]) C E (c_X3_roundedDown_o e8) (cwV 3 hts gX0_plan_X3_roundedDown rfl rfl rfl ⟨rfl, hd_X3_roundedDown_o⟩ ⟨Nat.le_of_ble_eq_true rfl, Nat.le_of_ble_eq_true rfl⟩) (q0 := 9) (ci := 3) rfl rfl rfl rfl hl.1 rfl (Nat.le_of_ble_eq_true rfl) dX0_plan_71 ⟨Nat.le_of_ble_eq_true rfl, Nat.le_of_ble_eq_true rfl⟩) (fun H locs E => ?_)
        obtain ⟨h9, hf⟩ := ck_some hf
        refine g_last (w' := (cW a cI cJ cZ vl hs isz igd iup idn osz ogd oup odn dep rsz lgd llf ldb ldy lsz lti pgd plf pun psz (upd bgd bsz.toNatClampNeg o4) (vp_updL bam bsz.toNatClampNeg o7) bwt bsh brm bsz cab cbl tod imp dis owe itr)) C E 26 rfl h9 dX0_plan_74 rfl (fun H locs E => ?_)
        refine lv_aload_n hx hb dX0_plan_75 rfl (lv_at hl 0 rfl) ?_
        refine lv_dup hx hb dX0_plan_76 rfl ?_
        refine g_get C E 24 5 (fun _ h => List.mem_cons_of_mem _ (List.mem_append_left _ (List.mem_append_right _ h))) rfl rfl (by decide) (List.mem_of_getElem? (i := 3) rfl) rfl rfl dX0_plan_77 ?_
        refine lv_iconst (v := 1) hx hb dX0_plan_80 (by decide) ?_
        refine lv_iadd hx hb dX0_plan_81 ?_
        refine g_put (w' := (cW a cI cJ cZ vl hs isz igd iup idn osz ogd oup odn dep rsz lgd llf ldb ldy lsz lti pgd plf pun psz (upd bgd bsz.toNatClampNeg o4) (vp_updL bam bsz.toNatClampNeg o7) bwt bsh brm (bsz + (1 : Int32)) cab cbl tod imp dis owe itr)) C E 24 5 tyX0 tyX0_ok nmX0 (fun _ h => List.mem_cons_of_mem _ (List.mem_append_left _ (List.mem_append_right _ h))) rfl rfl (by decide) (List.mem_of_getElem? (i := 3) rfl) rfl rfl rfl rfl rfl (Nat.le_of_ble_eq_true rfl) dX0_plan_82 rfl (fun H locs E => ?_)
        refine lv_iinc (v := (x4 + 1)) (lv' := [(4, .int (x4 + 1)), (0, .ref (a 24)), (1, .ref (a 9)), (2, .int x2), (3, .int x3)]) hx hb dX0_plan_85 hl (k := 4) rfl rfl (by decide) rfl (fun ls hl => ?_)
        refine lv_goto (tgt := 23) hx hb dX0_plan_88 (by decide) ?_
        exact ih (upd bgd bsz.toNatClampNeg o4) (vp_updL bam bsz.toNatClampNeg o7) (bsz + (1 : Int32)) (x4 + 1) _ _ _ E (lv_sub hl [1, 2, 3, 4, 0] rfl) hf
def f_X0_plan (osz : Nat → Int32) (ogd : Nat → Int32) (oup : Nat → Int32) (odn : Nat → Int32) (bgd : Nat → Int32) (bam : Nat → Int64) (bsz : Int32) (x2 : Int32) (x3 : Int32) : Option ((Nat → Int32) × (Nat → Int64) × (Int32)) :=
  ck (0 : Int32) 3 <|
  ck (0 : Int32) 3 <|
  f_X0_plan_L23 osz ogd oup odn x2 x3 FU (upd bgd (0 : Int32).toNatClampNeg x2) (vp_updL bam (0 : Int32).toNatClampNeg x3.toInt64) (1 : Int32) (0 : Int32)
set_option maxHeartbeats 4000000 in
set_option maxRecDepth 100000 in
theorem c_X0_plan {l : Launch} {D : va_G} {cI cJ cZ : ClassId} {a : Nat → Nat} {sz : Nat} {vl : Nat → Int32} {hs : Nat → Int32} {isz : Nat → Int32} {igd : Nat → Int32} {iup : Nat → Int32} {idn : Nat → Int32} {osz : Nat → Int32} {ogd : Nat → Int32} {oup : Nat → Int32} {odn : Nat → Int32} {dep : Nat → Int32} {rsz : Int32} {lgd : Nat → Int32} {llf : Nat → Int64} {ldb : Nat → Int64} {ldy : Nat → Int32} {lsz : Int32} {lti : Int64} {pgd : Nat → Int32} {plf : Nat → Int64} {pun : Nat → Int32} {psz : Int32} {bgd : Nat → Int32} {bam : Nat → Int64} {bwt : Nat → Int64} {bsh : Nat → Int64} {brm : Nat → Int64} {bsz : Int32} {cab : Nat → Int64} {cbl : Nat → Int64} {tod : Int32} {imp : Int64} {dis : Int64} {owe : Int64} {itr : Int64} {x2 : Int32} {x3 : Int32} {o : (Nat → Int32) × (Nat → Int64) × (Int32)} (hf : f_X0_plan osz ogd oup odn bgd bam bsz x2 x3 = some o) : gMv l yX0_plan wsX0_plan rm_X0_plan D (gT cI cJ cZ) (cW a cI cJ cZ vl hs isz igd iup idn osz ogd oup odn dep rsz lgd llf ldb ldy lsz lti pgd plf pun psz bgd bam bwt bsh brm bsz cab cbl tod imp dis owe itr) (cW a cI cJ cZ vl hs isz igd iup idn osz ogd oup odn dep rsz lgd llf ldb ldy lsz lti pgd plf pun psz o.1 o.2.1 bwt bsh brm o.2.2 cab cbl tod imp dis owe itr) sz [.ref (a 24), .ref (a 9), .int x2, .int x3] := by
  refine g_of (cc := cX0_plan) (maxL := 5) (ret := none) (by decide) rfl (Nat.le_of_ble_eq_true rfl) ?_
  intro p e s m below meth c A ls hAe C hl E
  rw [← hAe]
  obtain ⟨hx, hb, hr, hml, hown, hts, hlocks, hN, hA⟩ := id C
  have hl : lv_has ls 5 [(0, .ref (a 24)), (1, .ref (a 9)), (2, .int x2), (3, .int x3)] := hl
  have E : vE s A D (gT cI cJ cZ) (cW a cI cJ cZ vl hs isz igd iup idn osz ogd oup odn dep rsz lgd llf ldb ldy lsz lti pgd plf pun psz bgd bam bwt bsh brm bsz cab cbl tod imp dis owe itr) s.heap [] := E
  rw [f_X0_plan] at hf
  refine lv_aload_n hx hb dX0_plan_0 rfl (lv_at hl 0 rfl) ?_
  refine g_get C E 24 0 (fun _ h => List.mem_cons_of_mem _ (List.mem_append_left _ (List.mem_append_right _ h))) rfl rfl (by decide) (List.mem_of_getElem? (i := 1) rfl) rfl rfl dX0_plan_1 ?_
  refine lv_iconst (v := 0) hx hb dX0_plan_4 (by decide) ?_
  refine lv_iload_n hx hb dX0_plan_5 rfl (lv_at hl 2 rfl) ?_
  obtain ⟨h1, hf⟩ := ck_some hf
  refine g_iast (w' := (cW a cI cJ cZ vl hs isz igd iup idn osz ogd oup odn dep rsz lgd llf ldb ldy lsz lti pgd plf pun psz (upd bgd (0 : Int32).toNatClampNeg x2) bam bwt bsh brm bsz cab cbl tod imp dis owe itr)) C E 25 rfl h1 dX0_plan_6 rfl (fun H locs E => ?_)
  refine lv_aload_n hx hb dX0_plan_7 rfl (lv_at hl 0 rfl) ?_
  refine g_get C E 24 1 (fun _ h => List.mem_cons_of_mem _ (List.mem_append_left _ (List.mem_append_right _ h))) rfl rfl (by decide) (List.mem_of_getElem? (i := 2) rfl) rfl rfl dX0_plan_8 ?_
  refine lv_iconst (v := 0) hx hb dX0_plan_11 (by decide) ?_
  refine lv_iload_n hx hb dX0_plan_12 rfl (lv_at hl 3 rfl) ?_
  refine lv_i2l hx hb dX0_plan_13 rfl ?_
  obtain ⟨h2, hf⟩ := ck_some hf
  refine g_last (w' := (cW a cI cJ cZ vl hs isz igd iup idn osz ogd oup odn dep rsz lgd llf ldb ldy lsz lti pgd plf pun psz (upd bgd (0 : Int32).toNatClampNeg x2) (vp_updL bam (0 : Int32).toNatClampNeg x3.toInt64) bwt bsh brm bsz cab cbl tod imp dis owe itr)) C E 26 rfl h2 dX0_plan_14 rfl (fun H locs E => ?_)
  refine lv_aload_n hx hb dX0_plan_15 rfl (lv_at hl 0 rfl) ?_
  refine lv_iconst (v := 1) hx hb dX0_plan_16 (by decide) ?_
  refine g_put (w' := (cW a cI cJ cZ vl hs isz igd iup idn osz ogd oup odn dep rsz lgd llf ldb ldy lsz lti pgd plf pun psz (upd bgd (0 : Int32).toNatClampNeg x2) (vp_updL bam (0 : Int32).toNatClampNeg x3.toInt64) bwt bsh brm (1 : Int32) cab cbl tod imp dis owe itr)) C E 24 5 tyX0 tyX0_ok nmX0 (fun _ h => List.mem_cons_of_mem _ (List.mem_append_left _ (List.mem_append_right _ h))) rfl rfl (by decide) (List.mem_of_getElem? (i := 3) rfl) rfl rfl rfl rfl rfl (Nat.le_of_ble_eq_true rfl) dX0_plan_17 rfl (fun H locs E => ?_)
  refine lv_iconst (v := 0) hx hb dX0_plan_20 (by decide) ?_
  refine lv_istore (lv' := [(4, .int (0 : Int32)), (0, .ref (a 24)), (1, .ref (a 9)), (2, .int x2), (3, .int x3)]) hx hb dX0_plan_21 hl (by decide) rfl (fun ls hl => ?_)
  exact w_X0_plan_L23 C  FU (upd bgd (0 : Int32).toNatClampNeg x2) (vp_updL bam (0 : Int32).toNatClampNeg x3.toInt64) (1 : Int32) (0 : Int32) _ _ _ E (lv_sub hl [1, 2, 3, 4, 0] rfl) hf
abbrev rm_X0_lotsToAdd : Room := { frames := 0, cells := 0, slots := 0, locals := 0 }
theorem hd_X0_lotsToAdd : yX0_lotsToAdd.cls ≠ "java/lang/invoke/MethodHandle" ∧ yX0_lotsToAdd.cls ≠ "java/lang/invoke/VarHandle" ∧ (parseMethodDescriptor yX0_lotsToAdd.desc).map (fun d => d.parameters.length) = some 0 := by decide +kernel
def f_X0_lotsToAdd_L4 (bam : Nat → Int64) (bsz : Int32) : Nat → Int32 → Int32 → Option (Int32)
  | 0, _, _ => none
  | n + 1, x1, x2 =>
  if bsz ≤ x2 then
    some (x1)
  else
    ck x2 3 <|
    if (lg_cmp (bam x2.toNatClampNeg) (0 : Int64)) ≤ 0 then
      f_X0_lotsToAdd_L4 bam bsz n (x1 + (0 : Int32)) (x2 + 1)
    else
      f_X0_lotsToAdd_L4 bam bsz n (x1 + (1 : Int32)) (x2 + 1)
set_option maxHeartbeats 4000000 in
set_option maxRecDepth 100000 in
theorem w_X0_lotsToAdd_L4 {p : Program} {l : Launch} {e : Env} {s : State} {m : MethodId} {args : Array Value} {below : List Frame} {meth : Method} {c : Code} {A : Nat → Prop} {D : va_G} {cI cJ cZ : ClassId} {a : Nat → Nat} {vl : Nat → Int32} {hs : Nat → Int32} {isz : Nat → Int32} {igd : Nat → Int32} {iup : Nat → Int32} {idn : Nat → Int32} {osz : Nat → Int32} {ogd : Nat → Int32} {oup : Nat → Int32} {odn : Nat → Int32} {dep : Nat → Int32} {rsz : Int32} {lgd : Nat → Int32} {llf : Nat → Int64} {ldb : Nat → Int64} {ldy : Nat → Int32} {lsz : Int32} {lti : Int64} {pgd : Nat → Int32} {plf : Nat → Int64} {pun : Nat → Int32} {psz : Int32} {bgd : Nat → Int32} {bam : Nat → Int64} {bwt : Nat → Int64} {bsh : Nat → Int64} {brm : Nat → Int64} {bsz : Int32} {cab : Nat → Int64} {cbl : Nat → Int64} {tod : Int32} {imp : Int64} {dis : Int64} {owe : Int64} {itr : Int64} (C : gC p s m args meth c cX0_lotsToAdd 3 (some .int) wsX0_lotsToAdd RX0 A) {o : Int32} :
    ∀ (n : Nat) (x1 : Int32) (x2 : Int32) (H : Heap) (locs : List Loc) (ls : Array Slot), vE s A D (gT cI cJ cZ) (cW a cI cJ cZ vl hs isz igd iup idn osz ogd oup odn dep rsz lgd llf ldb ldy lsz lti pgd plf pun psz bgd bam bwt bsh brm bsz cab cbl tod imp dis owe itr) H locs → lv_has ls 3 [(0, .ref (a 24)), (1, .int x1), (2, .int x2)] → f_X0_lotsToAdd_L4 bam bsz n x1 x2 = some o → W p l e rm_X0_lotsToAdd s m args below meth c H locs 0 0 (MQ below (gQi D (gT cI cJ cZ) A (cW a cI cJ cZ vl hs isz igd iup idn osz ogd oup odn dep rsz lgd llf ldb ldy lsz lti pgd plf pun psz bgd bam bwt bsh brm bsz cab cbl tod imp dis owe itr) o) args s 0 0 A) (F0 m 4 ls []) := by
  obtain ⟨hx, hb, hr, hml, hown, hts, hlocks, hN, hA⟩ := id C
  intro n
  induction n with
  | zero =>
    intro x1 x2 H locs ls E hl hf
    rw [f_X0_lotsToAdd_L4] at hf
    cases hf
  | succ n ih =>
    intro x1 x2 H locs ls E hl hf
    rw [f_X0_lotsToAdd_L4] at hf
    refine lv_iload_n hx hb dX0_lotsToAdd_4 rfl (lv_at hl 2 rfl) ?_
    refine lv_aload_n hx hb dX0_lotsToAdd_5 rfl (lv_at hl 0 rfl) ?_
    refine g_get C E 24 5 (fun _ h => List.mem_cons_of_mem _ (List.mem_append_right _ h)) rfl rfl (by decide) (List.mem_of_getElem? (i := 1) rfl) rfl rfl dX0_lotsToAdd_6 ?_
    refine lv_icmp_ge (tgt := 37) hx hb dX0_lotsToAdd_9 (by decide) (fun c1 => ?_) (fun c1 => ?_)
    · rw [if_pos c1] at hf
      refine lv_iload_n hx hb dX0_lotsToAdd_37 rfl (lv_at hl 1 rfl) ?_
      obtain rfl := Option.some.inj hf
      exact g_iret C E dX0_lotsToAdd_38
    · rw [if_neg c1] at hf
      refine lv_iload_n hx hb dX0_lotsToAdd_12 rfl (lv_at hl 1 rfl) ?_
      refine lv_aload_n hx hb dX0_lotsToAdd_13 rfl (lv_at hl 0 rfl) ?_
      refine g_get C E 24 1 (fun _ h => List.mem_cons_of_mem _ (List.mem_append_right _ h)) rfl rfl (by decide) (List.mem_of_getElem? (i := 2) rfl) rfl rfl dX0_lotsToAdd_14 ?_
      refine lv_iload_n hx hb dX0_lotsToAdd_17 rfl (lv_at hl 2 rfl) ?_
      obtain ⟨h2, hf⟩ := ck_some hf
      refine g_lald C E 26 rfl h2 dX0_lotsToAdd_18 ?_
      refine lv_lconst (v := 0) hx hb dX0_lotsToAdd_19 (by decide) ?_
      refine W.lcmp hx hb dX0_lotsToAdd_20 ?_
      refine lv_if_le (tgt := 28) hx hb dX0_lotsToAdd_21 (by decide) (fun c3 => ?_) (fun c3 => ?_)
      · rw [if_pos c3] at hf
        refine lv_iconst (v := 0) hx hb dX0_lotsToAdd_28 (by decide) ?_
        refine lv_iadd hx hb dX0_lotsToAdd_29 ?_
        refine lv_istore_n (lv' := [(1, .int (x1 + (0 : Int32))), (0, .ref (a 24)), (2, .int x2)]) hx hb dX0_lotsToAdd_30 rfl hl (by decide) rfl (fun ls hl => ?_)
        refine lv_iinc (v := (x2 + 1)) (lv' := [(2, .int (x2 + 1)), (1, .int (x1 + (0 : Int32))), (0, .ref (a 24))]) hx hb dX0_lotsToAdd_31 hl (k := 2) rfl rfl (by decide) rfl (fun ls hl => ?_)
        refine lv_goto (tgt := 4) hx hb dX0_lotsToAdd_34 (by decide) ?_
        exact ih (x1 + (0 : Int32)) (x2 + 1) _ _ _ E (lv_sub hl [2, 1, 0] rfl) hf
      · rw [if_neg c3] at hf
        refine lv_iconst (v := 1) hx hb dX0_lotsToAdd_24 (by decide) ?_
        refine lv_goto (tgt := 29) hx hb dX0_lotsToAdd_25 (by decide) ?_
        refine lv_iadd hx hb dX0_lotsToAdd_29 ?_
        refine lv_istore_n (lv' := [(1, .int (x1 + (1 : Int32))), (0, .ref (a 24)), (2, .int x2)]) hx hb dX0_lotsToAdd_30 rfl hl (by decide) rfl (fun ls hl => ?_)
        refine lv_iinc (v := (x2 + 1)) (lv' := [(2, .int (x2 + 1)), (1, .int (x1 + (1 : Int32))), (0, .ref (a 24))]) hx hb dX0_lotsToAdd_31 hl (k := 2) rfl rfl (by decide) rfl (fun ls hl => ?_)
        refine lv_goto (tgt := 4) hx hb dX0_lotsToAdd_34 (by decide) ?_
        exact ih (x1 + (1 : Int32)) (x2 + 1) _ _ _ E (lv_sub hl [2, 1, 0] rfl) hf
def f_X0_lotsToAdd (bam : Nat → Int64) (bsz : Int32)  : Option (Int32) :=
  f_X0_lotsToAdd_L4 bam bsz FU (0 : Int32) (0 : Int32)
set_option maxHeartbeats 4000000 in
set_option maxRecDepth 100000 in
theorem c_X0_lotsToAdd {l : Launch} {D : va_G} {cI cJ cZ : ClassId} {a : Nat → Nat} {sz : Nat} {vl : Nat → Int32} {hs : Nat → Int32} {isz : Nat → Int32} {igd : Nat → Int32} {iup : Nat → Int32} {idn : Nat → Int32} {osz : Nat → Int32} {ogd : Nat → Int32} {oup : Nat → Int32} {odn : Nat → Int32} {dep : Nat → Int32} {rsz : Int32} {lgd : Nat → Int32} {llf : Nat → Int64} {ldb : Nat → Int64} {ldy : Nat → Int32} {lsz : Int32} {lti : Int64} {pgd : Nat → Int32} {plf : Nat → Int64} {pun : Nat → Int32} {psz : Int32} {bgd : Nat → Int32} {bam : Nat → Int64} {bwt : Nat → Int64} {bsh : Nat → Int64} {brm : Nat → Int64} {bsz : Int32} {cab : Nat → Int64} {cbl : Nat → Int64} {tod : Int32} {imp : Int64} {dis : Int64} {owe : Int64} {itr : Int64} {o : Int32} (hf : f_X0_lotsToAdd bam bsz = some o) : gMi l yX0_lotsToAdd wsX0_lotsToAdd rm_X0_lotsToAdd D (gT cI cJ cZ) (cW a cI cJ cZ vl hs isz igd iup idn osz ogd oup odn dep rsz lgd llf ldb ldy lsz lti pgd plf pun psz bgd bam bwt bsh brm bsz cab cbl tod imp dis owe itr) (cW a cI cJ cZ vl hs isz igd iup idn osz ogd oup odn dep rsz lgd llf ldb ldy lsz lti pgd plf pun psz bgd bam bwt bsh brm bsz cab cbl tod imp dis owe itr) sz [.ref (a 24)] o := by
  refine g_of (cc := cX0_lotsToAdd) (maxL := 3) (ret := (some .int)) (by decide) rfl (Nat.le_of_ble_eq_true rfl) ?_
  intro p e s m below meth c A ls hAe C hl E
  rw [← hAe]
  obtain ⟨hx, hb, hr, hml, hown, hts, hlocks, hN, hA⟩ := id C
  have hl : lv_has ls 3 [(0, .ref (a 24))] := hl
  have E : vE s A D (gT cI cJ cZ) (cW a cI cJ cZ vl hs isz igd iup idn osz ogd oup odn dep rsz lgd llf ldb ldy lsz lti pgd plf pun psz bgd bam bwt bsh brm bsz cab cbl tod imp dis owe itr) s.heap [] := E
  rw [f_X0_lotsToAdd] at hf
  refine lv_iconst (v := 0) hx hb dX0_lotsToAdd_0 (by decide) ?_
  refine lv_istore_n (lv' := [(1, .int (0 : Int32)), (0, .ref (a 24))]) hx hb dX0_lotsToAdd_1 rfl hl (by decide) rfl (fun ls hl => ?_)
  refine lv_iconst (v := 0) hx hb dX0_lotsToAdd_2 (by decide) ?_
  refine lv_istore_n (lv' := [(2, .int (0 : Int32)), (1, .int (0 : Int32)), (0, .ref (a 24))]) hx hb dX0_lotsToAdd_3 rfl hl (by decide) rfl (fun ls hl => ?_)
  exact w_X0_lotsToAdd_L4 C  FU (0 : Int32) (0 : Int32) _ _ _ E (lv_sub hl [2, 1, 0] rfl) hf
abbrev rm_X0_weigh : Room := { frames := 0, cells := 0, slots := 0, locals := 0 }
theorem hd_X0_weigh : yX0_weigh.cls ≠ "java/lang/invoke/MethodHandle" ∧ yX0_weigh.cls ≠ "java/lang/invoke/VarHandle" ∧ (parseMethodDescriptor yX0_weigh.desc).map (fun d => d.parameters.length) = some 2 := by decide +kernel
def f_X0_weigh_L2 (vl : Nat → Int32) (bgd : Nat → Int32) (bam : Nat → Int64) (bsz : Int32) (x2 : Int32) : Nat → (Nat → Int64) → Int32 → Option ((Nat → Int64))
  | 0, _, _ => none
  | n + 1, bwt, x3 =>
  if bsz ≤ x3 then
    some (bwt)
  else
    if x2 = 0 then
      ck x3 3 <|
      ck x3 3 <|
      f_X0_weigh_L2 vl bgd bam bsz x2 n (vp_updL bwt x3.toNatClampNeg (bam x3.toNatClampNeg)) (x3 + 1)
    else
      ck x3 3 <|
      ck x3 3 <|
      ck (bgd x3.toNatClampNeg) 12 <|
      ck x3 3 <|
      f_X0_weigh_L2 vl bgd bam bsz x2 n (vp_updL bwt x3.toNatClampNeg ((bam x3.toNatClampNeg) * (vl (bgd x3.toNatClampNeg).toNatClampNeg).toInt64)) (x3 + 1)
set_option maxHeartbeats 4000000 in
set_option maxRecDepth 100000 in
theorem w_X0_weigh_L2 {p : Program} {l : Launch} {e : Env} {s : State} {m : MethodId} {args : Array Value} {below : List Frame} {meth : Method} {c : Code} {A : Nat → Prop} {D : va_G} {cI cJ cZ : ClassId} {a : Nat → Nat} {vl : Nat → Int32} {hs : Nat → Int32} {isz : Nat → Int32} {igd : Nat → Int32} {iup : Nat → Int32} {idn : Nat → Int32} {osz : Nat → Int32} {ogd : Nat → Int32} {oup : Nat → Int32} {odn : Nat → Int32} {dep : Nat → Int32} {rsz : Int32} {lgd : Nat → Int32} {llf : Nat → Int64} {ldb : Nat → Int64} {ldy : Nat → Int32} {lsz : Int32} {lti : Int64} {pgd : Nat → Int32} {plf : Nat → Int64} {pun : Nat → Int32} {psz : Int32} {bgd : Nat → Int32} {bam : Nat → Int64} {bsh : Nat → Int64} {brm : Nat → Int64} {bsz : Int32} {cab : Nat → Int64} {cbl : Nat → Int64} {tod : Int32} {imp : Int64} {dis : Int64} {owe : Int64} {itr : Int64} (C : gC p s m args meth c cX0_weigh 4 none wsX0_weigh RX0 A) {x2 : Int32} {o : (Nat → Int64)} :
    ∀ (n : Nat) (bwt : Nat → Int64) (x3 : Int32) (H : Heap) (locs : List Loc) (ls : Array Slot), vE s A D (gT cI cJ cZ) (cW a cI cJ cZ vl hs isz igd iup idn osz ogd oup odn dep rsz lgd llf ldb ldy lsz lti pgd plf pun psz bgd bam bwt bsh brm bsz cab cbl tod imp dis owe itr) H locs → lv_has ls 4 [(0, .ref (a 24)), (1, .ref (a 1)), (2, .int x2), (3, .int x3)] → f_X0_weigh_L2 vl bgd bam bsz x2 n bwt x3 = some o → W p l e rm_X0_weigh s m args below meth c H locs 0 0 (MQ below (gQv D (gT cI cJ cZ) A (cW a cI cJ cZ vl hs isz igd iup idn osz ogd oup odn dep rsz lgd llf ldb ldy lsz lti pgd plf pun psz bgd bam o bsh brm bsz cab cbl tod imp dis owe itr)) args s 0 0 A) (F0 m 2 ls []) := by
  obtain ⟨hx, hb, hr, hml, hown, hts, hlocks, hN, hA⟩ := id C
  intro n
  induction n with
  | zero =>
    intro bwt x3 H locs ls E hl hf
    rw [f_X0_weigh_L2] at hf
    cases hf
  | succ n ih =>
    intro bwt x3 H locs ls E hl hf
    rw [f_X0_weigh_L2] at hf
    refine lv_iload_n hx hb dX0_weigh_2 rfl (lv_at hl 3 rfl) ?_
    refine lv_aload_n hx hb dX0_weigh_3 rfl (lv_at hl 0 rfl) ?_
    refine g_get C E 24 5 (fun _ h => List.mem_cons_of_mem _ (List.mem_append_right _ h)) rfl rfl (by decide) (List.mem_of_getElem? (i := 1) rfl) rfl rfl dX0_weigh_4 ?_
    refine lv_icmp_ge (tgt := 51) hx hb dX0_weigh_7 (by decide) (fun c1 => ?_) (fun c1 => ?_)
    · rw [if_pos c1] at hf
      obtain rfl := Option.some.inj hf
      exact g_vret C E dX0_weigh_51
    · rw [if_neg c1] at hf
      refine lv_aload_n hx hb dX0_weigh_10 rfl (lv_at hl 0 rfl) ?_
      refine g_get C E 24 2 (fun _ h => List.mem_cons_of_mem _ (List.mem_append_right _ h)) rfl rfl (by decide) (List.mem_of_getElem? (i := 2) rfl) rfl rfl dX0_weigh_11 ?_
      refine lv_iload_n hx hb dX0_weigh_14 rfl (lv_at hl 3 rfl) ?_
      refine lv_iload_n hx hb dX0_weigh_15 rfl (lv_at hl 2 rfl) ?_
      refine lv_if_eq (tgt := 38) hx hb dX0_weigh_16 (by decide) (fun c2 => ?_) (fun c2 => ?_)
      · rw [if_pos c2] at hf
        refine lv_aload_n hx hb dX0_weigh_38 rfl (lv_at hl 0 rfl) ?_
        refine g_get C E 24 1 (fun _ h => List.mem_cons_of_mem _ (List.mem_append_right _ h)) rfl rfl (by decide) (List.mem_of_getElem? (i := 3) rfl) rfl rfl dX0_weigh_39 ?_
        refine lv_iload_n hx hb dX0_weigh_42 rfl (lv_at hl 3 rfl) ?_
        obtain ⟨h3, hf⟩ := ck_some hf
        refine g_lald C E 26 rfl h3 dX0_weigh_43 ?_
        obtain ⟨h4, hf⟩ := ck_some hf
        refine g_last (w' := (cW a cI cJ cZ vl hs isz igd iup idn osz ogd oup odn dep rsz lgd llf ldb ldy lsz lti pgd plf pun psz bgd bam (vp_updL bwt x3.toNatClampNeg (bam x3.toNatClampNeg)) bsh brm bsz cab cbl tod imp dis owe itr)) C E 27 rfl h4 dX0_weigh_44 rfl (fun H locs E => ?_)
        refine lv_iinc (v := (x3 + 1)) (lv' := [(3, .int (x3 + 1)), (0, .ref (a 24)), (1, .ref (a 1)), (2, .int x2)]) hx hb dX0_weigh_45 hl (k := 3) rfl rfl (by decide) rfl (fun ls hl => ?_)
        refine lv_goto (tgt := 2) hx hb dX0_weigh_48 (by decide) ?_
        exact ih (vp_updL bwt x3.toNatClampNeg (bam x3.toNatClampNeg)) (x3 + 1) _ _ _ E (lv_sub hl [1, 2, 3, 0] rfl) hf
      · rw [if_neg c2] at hf
        refine lv_aload_n hx hb dX0_weigh_19 rfl (lv_at hl 0 rfl) ?_
        refine g_get C E 24 1 (fun _ h => List.mem_cons_of_mem _ (List.mem_append_right _ h)) rfl rfl (by decide) (List.mem_of_getElem? (i := 3) rfl) rfl rfl dX0_weigh_20 ?_
        refine lv_iload_n hx hb dX0_weigh_23 rfl (lv_at hl 3 rfl) ?_
        obtain ⟨h5, hf⟩ := ck_some hf
        refine g_lald C E 26 rfl h5 dX0_weigh_24 ?_
        refine lv_aload_n hx hb dX0_weigh_25 rfl (lv_at hl 1 rfl) ?_
        refine lv_aload_n hx hb dX0_weigh_26 rfl (lv_at hl 0 rfl) ?_
        refine g_get C E 24 0 (fun _ h => List.mem_cons_of_mem _ (List.mem_append_right _ h)) rfl rfl (by decide) (List.mem_of_getElem? (i := 4) rfl) rfl rfl dX0_weigh_27 ?_
        refine lv_iload_n hx hb dX0_weigh_30 rfl (lv_at hl 3 rfl) ?_
        obtain ⟨h6, hf⟩ := ck_some hf
        refine g_iald C E 25 rfl h6 dX0_weigh_31 ?_
        obtain ⟨h7, hf⟩ := ck_some hf
        refine g_iald C E 1 rfl h7 dX0_weigh_32 ?_
        refine lv_i2l hx hb dX0_weigh_33 rfl ?_
        refine lv_lmul hx hb dX0_weigh_34 ?_
        refine lv_goto (tgt := 44) hx hb dX0_weigh_35 (by decide) ?_
        obtain ⟨h8, hf⟩ := ck_some hf
        refine g_last (w' := (cW a cI cJ cZ vl hs isz igd iup idn osz ogd oup odn dep rsz lgd llf ldb ldy lsz lti pgd plf pun psz bgd bam (vp_updL bwt x3.toNatClampNeg ((bam x3.toNatClampNeg) * (vl (bgd x3.toNatClampNeg).toNatClampNeg).toInt64)) bsh brm bsz cab cbl tod imp dis owe itr)) C E 27 rfl h8 dX0_weigh_44 rfl (fun H locs E => ?_)
        refine lv_iinc (v := (x3 + 1)) (lv' := [(3, .int (x3 + 1)), (0, .ref (a 24)), (1, .ref (a 1)), (2, .int x2)]) hx hb dX0_weigh_45 hl (k := 3) rfl rfl (by decide) rfl (fun ls hl => ?_)
        refine lv_goto (tgt := 2) hx hb dX0_weigh_48 (by decide) ?_
        exact ih (vp_updL bwt x3.toNatClampNeg ((bam x3.toNatClampNeg) * (vl (bgd x3.toNatClampNeg).toNatClampNeg).toInt64)) (x3 + 1) _ _ _ E (lv_sub hl [1, 2, 3, 0] rfl) hf
def f_X0_weigh (vl : Nat → Int32) (bgd : Nat → Int32) (bam : Nat → Int64) (bwt : Nat → Int64) (bsz : Int32) (x2 : Int32) : Option ((Nat → Int64)) :=
  f_X0_weigh_L2 vl bgd bam bsz x2 FU bwt (0 : Int32)
set_option maxHeartbeats 4000000 in
set_option maxRecDepth 100000 in
theorem c_X0_weigh {l : Launch} {D : va_G} {cI cJ cZ : ClassId} {a : Nat → Nat} {sz : Nat} {vl : Nat → Int32} {hs : Nat → Int32} {isz : Nat → Int32} {igd : Nat → Int32} {iup : Nat → Int32} {idn : Nat → Int32} {osz : Nat → Int32} {ogd : Nat → Int32} {oup : Nat → Int32} {odn : Nat → Int32} {dep : Nat → Int32} {rsz : Int32} {lgd : Nat → Int32} {llf : Nat → Int64} {ldb : Nat → Int64} {ldy : Nat → Int32} {lsz : Int32} {lti : Int64} {pgd : Nat → Int32} {plf : Nat → Int64} {pun : Nat → Int32} {psz : Int32} {bgd : Nat → Int32} {bam : Nat → Int64} {bwt : Nat → Int64} {bsh : Nat → Int64} {brm : Nat → Int64} {bsz : Int32} {cab : Nat → Int64} {cbl : Nat → Int64} {tod : Int32} {imp : Int64} {dis : Int64} {owe : Int64} {itr : Int64} {x2 : Int32} {o : (Nat → Int64)} (hf : f_X0_weigh vl bgd bam bwt bsz x2 = some o) : gMv l yX0_weigh wsX0_weigh rm_X0_weigh D (gT cI cJ cZ) (cW a cI cJ cZ vl hs isz igd iup idn osz ogd oup odn dep rsz lgd llf ldb ldy lsz lti pgd plf pun psz bgd bam bwt bsh brm bsz cab cbl tod imp dis owe itr) (cW a cI cJ cZ vl hs isz igd iup idn osz ogd oup odn dep rsz lgd llf ldb ldy lsz lti pgd plf pun psz bgd bam o bsh brm bsz cab cbl tod imp dis owe itr) sz [.ref (a 24), .ref (a 1), .int x2] := by
  refine g_of (cc := cX0_weigh) (maxL := 4) (ret := none) (by decide) rfl (Nat.le_of_ble_eq_true rfl) ?_
  intro p e s m below meth c A ls hAe C hl E
  rw [← hAe]
  obtain ⟨hx, hb, hr, hml, hown, hts, hlocks, hN, hA⟩ := id C
  have hl : lv_has ls 4 [(0, .ref (a 24)), (1, .ref (a 1)), (2, .int x2)] := hl
  have E : vE s A D (gT cI cJ cZ) (cW a cI cJ cZ vl hs isz igd iup idn osz ogd oup odn dep rsz lgd llf ldb ldy lsz lti pgd plf pun psz bgd bam bwt bsh brm bsz cab cbl tod imp dis owe itr) s.heap [] := E
  rw [f_X0_weigh] at hf
  refine lv_iconst (v := 0) hx hb dX0_weigh_0 (by decide) ?_
  refine lv_istore_n (lv' := [(3, .int (0 : Int32)), (0, .ref (a 24)), (1, .ref (a 1)), (2, .int x2)]) hx hb dX0_weigh_1 rfl hl (by decide) rfl (fun ls hl => ?_)
  exact w_X0_weigh_L2 C  FU bwt (0 : Int32) _ _ _ E (lv_sub hl [1, 2, 3, 0] rfl) hf
abbrev rm_X0_greatestRemainder : Room := { frames := 0, cells := 0, slots := 0, locals := 0 }
theorem hd_X0_greatestRemainder : yX0_greatestRemainder.cls ≠ "java/lang/invoke/MethodHandle" ∧ yX0_greatestRemainder.cls ≠ "java/lang/invoke/VarHandle" ∧ (parseMethodDescriptor yX0_greatestRemainder.desc).map (fun d => d.parameters.length) = some 0 := by decide +kernel
def f_X0_greatestRemainder_L4 (brm : Nat → Int64) (bsz : Int32) : Nat → Int32 → Int32 → Option (Int32)
  | 0, _, _ => none
  | n + 1, x1, x2 =>
  if bsz ≤ x2 then
    some (x1)
  else
    ck x2 3 <|
    ck x1 3 <|
    if (lg_cmp (brm x2.toNatClampNeg) (brm x1.toNatClampNeg)) ≤ 0 then
      f_X0_greatestRemainder_L4 brm bsz n x1 (x2 + 1)
    else
      f_X0_greatestRemainder_L4 brm bsz n x2 (x2 + 1)
set_option maxHeartbeats 4000000 in
set_option maxRecDepth 100000 in
theorem w_X0_greatestRemainder_L4 {p : Program} {l : Launch} {e : Env} {s : State} {m : MethodId} {args : Array Value} {below : List Frame} {meth : Method} {c : Code} {A : Nat → Prop} {D : va_G} {cI cJ cZ : ClassId} {a : Nat → Nat} {vl : Nat → Int32} {hs : Nat → Int32} {isz : Nat → Int32} {igd : Nat → Int32} {iup : Nat → Int32} {idn : Nat → Int32} {osz : Nat → Int32} {ogd : Nat → Int32} {oup : Nat → Int32} {odn : Nat → Int32} {dep : Nat → Int32} {rsz : Int32} {lgd : Nat → Int32} {llf : Nat → Int64} {ldb : Nat → Int64} {ldy : Nat → Int32} {lsz : Int32} {lti : Int64} {pgd : Nat → Int32} {plf : Nat → Int64} {pun : Nat → Int32} {psz : Int32} {bgd : Nat → Int32} {bam : Nat → Int64} {bwt : Nat → Int64} {bsh : Nat → Int64} {brm : Nat → Int64} {bsz : Int32} {cab : Nat → Int64} {cbl : Nat → Int64} {tod : Int32} {imp : Int64} {dis : Int64} {owe : Int64} {itr : Int64} (C : gC p s m args meth c cX0_greatestRemainder 3 (some .int) wsX0_greatestRemainder RX0 A) {o : Int32} :
    ∀ (n : Nat) (x1 : Int32) (x2 : Int32) (H : Heap) (locs : List Loc) (ls : Array Slot), vE s A D (gT cI cJ cZ) (cW a cI cJ cZ vl hs isz igd iup idn osz ogd oup odn dep rsz lgd llf ldb ldy lsz lti pgd plf pun psz bgd bam bwt bsh brm bsz cab cbl tod imp dis owe itr) H locs → lv_has ls 3 [(0, .ref (a 24)), (1, .int x1), (2, .int x2)] → f_X0_greatestRemainder_L4 brm bsz n x1 x2 = some o → W p l e rm_X0_greatestRemainder s m args below meth c H locs 0 0 (MQ below (gQi D (gT cI cJ cZ) A (cW a cI cJ cZ vl hs isz igd iup idn osz ogd oup odn dep rsz lgd llf ldb ldy lsz lti pgd plf pun psz bgd bam bwt bsh brm bsz cab cbl tod imp dis owe itr) o) args s 0 0 A) (F0 m 4 ls []) := by
  obtain ⟨hx, hb, hr, hml, hown, hts, hlocks, hN, hA⟩ := id C
  intro n
  induction n with
  | zero =>
    intro x1 x2 H locs ls E hl hf
    rw [f_X0_greatestRemainder_L4] at hf
    cases hf
  | succ n ih =>
    intro x1 x2 H locs ls E hl hf
    rw [f_X0_greatestRemainder_L4] at hf
    refine lv_iload_n hx hb dX0_greatestRemainder_4 rfl (lv_at hl 2 rfl) ?_
    refine lv_aload_n hx hb dX0_greatestRemainder_5 rfl (lv_at hl 0 rfl) ?_
    refine g_get C E 24 5 (fun _ h => List.mem_cons_of_mem _ (List.mem_append_right _ h)) rfl rfl (by decide) (List.mem_of_getElem? (i := 1) rfl) rfl rfl dX0_greatestRemainder_6 ?_
    refine lv_icmp_ge (tgt := 36) hx hb dX0_greatestRemainder_9 (by decide) (fun c1 => ?_) (fun c1 => ?_)
    · rw [if_pos c1] at hf
      refine lv_iload_n hx hb dX0_greatestRemainder_36 rfl (lv_at hl 1 rfl) ?_
      obtain rfl := Option.some.inj hf
      exact g_iret C E dX0_greatestRemainder_37
    · rw [if_neg c1] at hf
      refine lv_aload_n hx hb dX0_greatestRemainder_12 rfl (lv_at hl 0 rfl) ?_
      refine g_get C E 24 4 (fun _ h => List.mem_cons_of_mem _ (List.mem_append_right _ h)) rfl rfl (by decide) (List.mem_of_getElem? (i := 2) rfl) rfl rfl dX0_greatestRemainder_13 ?_
      refine lv_iload_n hx hb dX0_greatestRemainder_16 rfl (lv_at hl 2 rfl) ?_
      obtain ⟨h2, hf⟩ := ck_some hf
      refine g_lald C E 29 rfl h2 dX0_greatestRemainder_17 ?_
      refine lv_aload_n hx hb dX0_greatestRemainder_18 rfl (lv_at hl 0 rfl) ?_
      refine g_get C E 24 4 (fun _ h => List.mem_cons_of_mem _ (List.mem_append_right _ h)) rfl rfl (by decide) (List.mem_of_getElem? (i := 2) rfl) rfl rfl dX0_greatestRemainder_19 ?_
      refine lv_iload_n hx hb dX0_greatestRemainder_22 rfl (lv_at hl 1 rfl) ?_
      obtain ⟨h3, hf⟩ := ck_some hf
      refine g_lald C E 29 rfl h3 dX0_greatestRemainder_23 ?_
      refine W.lcmp hx hb dX0_greatestRemainder_24 ?_
      refine lv_if_le (tgt := 30) hx hb dX0_greatestRemainder_25 (by decide) (fun c4 => ?_) (fun c4 => ?_)
      · rw [if_pos c4] at hf
        refine lv_iinc (v := (x2 + 1)) (lv' := [(2, .int (x2 + 1)), (0, .ref (a 24)), (1, .int x1)]) hx hb dX0_greatestRemainder_30 hl (k := 2) rfl rfl (by decide) rfl (fun ls hl => ?_)
        refine lv_goto (tgt := 4) hx hb dX0_greatestRemainder_33 (by decide) ?_
        exact ih x1 (x2 + 1) _ _ _ E (lv_sub hl [1, 2, 0] rfl) hf
      · rw [if_neg c4] at hf
        refine lv_iload_n hx hb dX0_greatestRemainder_28 rfl (lv_at hl 2 rfl) ?_
        refine lv_istore_n (lv' := [(1, .int x2), (0, .ref (a 24)), (2, .int x2)]) hx hb dX0_greatestRemainder_29 rfl hl (by decide) rfl (fun ls hl => ?_)
        refine lv_iinc (v := (x2 + 1)) (lv' := [(2, .int (x2 + 1)), (1, .int x2), (0, .ref (a 24))]) hx hb dX0_greatestRemainder_30 hl (k := 2) rfl rfl (by decide) rfl (fun ls hl => ?_)
        refine lv_goto (tgt := 4) hx hb dX0_greatestRemainder_33 (by decide) ?_
        exact ih x2 (x2 + 1) _ _ _ E (lv_sub hl [2, 1, 0] rfl) hf
def f_X0_greatestRemainder (brm : Nat → Int64) (bsz : Int32)  : Option (Int32) :=
  f_X0_greatestRemainder_L4 brm bsz FU (0 : Int32) (1 : Int32)
set_option maxHeartbeats 4000000 in
set_option maxRecDepth 100000 in
theorem c_X0_greatestRemainder {l : Launch} {D : va_G} {cI cJ cZ : ClassId} {a : Nat → Nat} {sz : Nat} {vl : Nat → Int32} {hs : Nat → Int32} {isz : Nat → Int32} {igd : Nat → Int32} {iup : Nat → Int32} {idn : Nat → Int32} {osz : Nat → Int32} {ogd : Nat → Int32} {oup : Nat → Int32} {odn : Nat → Int32} {dep : Nat → Int32} {rsz : Int32} {lgd : Nat → Int32} {llf : Nat → Int64} {ldb : Nat → Int64} {ldy : Nat → Int32} {lsz : Int32} {lti : Int64} {pgd : Nat → Int32} {plf : Nat → Int64} {pun : Nat → Int32} {psz : Int32} {bgd : Nat → Int32} {bam : Nat → Int64} {bwt : Nat → Int64} {bsh : Nat → Int64} {brm : Nat → Int64} {bsz : Int32} {cab : Nat → Int64} {cbl : Nat → Int64} {tod : Int32} {imp : Int64} {dis : Int64} {owe : Int64} {itr : Int64} {o : Int32} (hf : f_X0_greatestRemainder brm bsz = some o) : gMi l yX0_greatestRemainder wsX0_greatestRemainder rm_X0_greatestRemainder D (gT cI cJ cZ) (cW a cI cJ cZ vl hs isz igd iup idn osz ogd oup odn dep rsz lgd llf ldb ldy lsz lti pgd plf pun psz bgd bam bwt bsh brm bsz cab cbl tod imp dis owe itr) (cW a cI cJ cZ vl hs isz igd iup idn osz ogd oup odn dep rsz lgd llf ldb ldy lsz lti pgd plf pun psz bgd bam bwt bsh brm bsz cab cbl tod imp dis owe itr) sz [.ref (a 24)] o := by
  refine g_of (cc := cX0_greatestRemainder) (maxL := 3) (ret := (some .int)) (by decide) rfl (Nat.le_of_ble_eq_true rfl) ?_
  intro p e s m below meth c A ls hAe C hl E
  rw [← hAe]
  obtain ⟨hx, hb, hr, hml, hown, hts, hlocks, hN, hA⟩ := id C
  have hl : lv_has ls 3 [(0, .ref (a 24))] := hl
  have E : vE s A D (gT cI cJ cZ) (cW a cI cJ cZ vl hs isz igd iup idn osz ogd oup odn dep rsz lgd llf ldb ldy lsz lti pgd plf pun psz bgd bam bwt bsh brm bsz cab cbl tod imp dis owe itr) s.heap [] := E
  rw [f_X0_greatestRemainder] at hf
  refine lv_iconst (v := 0) hx hb dX0_greatestRemainder_0 (by decide) ?_
  refine lv_istore_n (lv' := [(1, .int (0 : Int32)), (0, .ref (a 24))]) hx hb dX0_greatestRemainder_1 rfl hl (by decide) rfl (fun ls hl => ?_)
  refine lv_iconst (v := 1) hx hb dX0_greatestRemainder_2 (by decide) ?_
  refine lv_istore_n (lv' := [(2, .int (1 : Int32)), (1, .int (0 : Int32)), (0, .ref (a 24))]) hx hb dX0_greatestRemainder_3 rfl hl (by decide) rfl (fun ls hl => ?_)
  exact w_X0_greatestRemainder_L4 C  FU (0 : Int32) (1 : Int32) _ _ _ E (lv_sub hl [2, 1, 0] rfl) hf
abbrev rm_X0_spread : Room := { frames := 1, cells := 0, slots := 0, locals := 22 }
theorem hd_X0_spread : yX0_spread.cls ≠ "java/lang/invoke/MethodHandle" ∧ yX0_spread.cls ≠ "java/lang/invoke/VarHandle" ∧ (parseMethodDescriptor yX0_spread.desc).map (fun d => d.parameters.length) = some 1 := by decide +kernel
def f_X0_spread_L2 (bsz : Int32) (x1 : Int64) : Nat → (Nat → Int64) → (Nat → Int64) → Int32 → Option ((Nat → Int64) × (Nat → Int64))
  | 0, _, _, _ => none
  | n + 1, bsh, brm, x3 =>
  if bsz ≤ x3 then
    some (bsh, brm)
  else
    if 0 ≤ (lg_cmp x3.toInt64 x1) then
      some (bsh, brm)
    else
      (f_X0_greatestRemainder brm bsz).bind fun o3 =>
      ck o3 3 <|
      ck o3 3 <|
      ck o3 3 <|
      f_X0_spread_L2 bsz x1 n (vp_updL bsh o3.toNatClampNeg ((bsh o3.toNatClampNeg) + (1 : Int64))) (vp_updL brm o3.toNatClampNeg (-1 : Int64)) (x3 + 1)
set_option maxHeartbeats 4000000 in
set_option maxRecDepth 100000 in
theorem w_X0_spread_L2 {p : Program} {l : Launch} {e : Env} {s : State} {m : MethodId} {args : Array Value} {below : List Frame} {meth : Method} {c : Code} {A : Nat → Prop} {D : va_G} {cI cJ cZ : ClassId} {a : Nat → Nat} {vl : Nat → Int32} {hs : Nat → Int32} {isz : Nat → Int32} {igd : Nat → Int32} {iup : Nat → Int32} {idn : Nat → Int32} {osz : Nat → Int32} {ogd : Nat → Int32} {oup : Nat → Int32} {odn : Nat → Int32} {dep : Nat → Int32} {rsz : Int32} {lgd : Nat → Int32} {llf : Nat → Int64} {ldb : Nat → Int64} {ldy : Nat → Int32} {lsz : Int32} {lti : Int64} {pgd : Nat → Int32} {plf : Nat → Int64} {pun : Nat → Int32} {psz : Int32} {bgd : Nat → Int32} {bam : Nat → Int64} {bwt : Nat → Int64} {bsz : Int32} {cab : Nat → Int64} {cbl : Nat → Int64} {tod : Int32} {imp : Int64} {dis : Int64} {owe : Int64} {itr : Int64} (C : gC p s m args meth c cX0_spread 5 none wsX0_spread RX0 A) {x1 : Int64} {o : (Nat → Int64) × (Nat → Int64)} :
    ∀ (n : Nat) (bsh : Nat → Int64) (brm : Nat → Int64) (x3 : Int32) (H : Heap) (locs : List Loc) (ls : Array Slot), vE s A D (gT cI cJ cZ) (cW a cI cJ cZ vl hs isz igd iup idn osz ogd oup odn dep rsz lgd llf ldb ldy lsz lti pgd plf pun psz bgd bam bwt bsh brm bsz cab cbl tod imp dis owe itr) H locs → lv_has ls 5 [(0, .ref (a 24)), (1, .long x1), (3, .int x3)] → f_X0_spread_L2 bsz x1 n bsh brm x3 = some o → W p l e rm_X0_spread s m args below meth c H locs 0 0 (MQ below (gQv D (gT cI cJ cZ) A (cW a cI cJ cZ vl hs isz igd iup idn osz ogd oup odn dep rsz lgd llf ldb ldy lsz lti pgd plf pun psz bgd bam bwt o.1 o.2 bsz cab cbl tod imp dis owe itr)) args s 0 0 A) (F0 m 2 ls []) := by
  obtain ⟨hx, hb, hr, hml, hown, hts, hlocks, hN, hA⟩ := id C
  intro n
  induction n with
  | zero =>
    intro bsh brm x3 H locs ls E hl hf
    rw [f_X0_spread_L2] at hf
    cases hf
  | succ n ih =>
    intro bsh brm x3 H locs ls E hl hf
    rw [f_X0_spread_L2] at hf
    refine lv_iload_n hx hb dX0_spread_2 rfl (lv_at hl 2 rfl) ?_
    refine lv_aload_n hx hb dX0_spread_3 rfl (lv_at hl 0 rfl) ?_
    refine g_get C E 24 5 (fun _ h => List.mem_cons_of_mem _ (List.mem_append_right _ h)) rfl rfl (by decide) (List.mem_of_getElem? (i := 1) rfl) rfl rfl dX0_spread_4 ?_
    refine lv_icmp_ge (tgt := 50) hx hb dX0_spread_7 (by decide) (fun c1 => ?_) (fun c1 => ?_)
    · rw [if_pos c1] at hf
      obtain rfl := Option.some.inj hf
      exact g_vret C E dX0_spread_50
    · rw [if_neg c1] at hf
      refine lv_iload_n hx hb dX0_spread_10 rfl (lv_at hl 2 rfl) ?_
      refine lv_i2l hx hb dX0_spread_11 rfl ?_
      refine lv_lload_n hx hb dX0_spread_12 rfl (lv_at hl 1 rfl) ?_
      refine W.lcmp hx hb dX0_spread_13 ?_
      refine lv_if_ge (tgt := 50) hx hb dX0_spread_14 (by decide) (fun c2 => ?_) (fun c2 => ?_)
      · rw [if_pos c2] at hf
        obtain rfl := Option.some.inj hf
        exact g_vret C E dX0_spread_50
      · rw [if_neg c2] at hf
        refine lv_aload_n hx hb dX0_spread_17 rfl (lv_at hl 0 rfl) ?_
        obtain ⟨o3, e4, hf⟩ := bd_some hf
        refine g_calli (w' := (cW a cI cJ cZ vl hs isz igd iup idn osz ogd oup odn dep rsz lgd llf ldb ldy lsz lti pgd plf pun psz bgd bam bwt bsh brm bsz cab cbl tod imp dis owe itr)) C E (g_runV (As := []) (rest := []) C E (c_X0_greatestRemainder e4) (cwV 0 hts gX0_spread_X0_greatestRemainder rfl rfl rfl ⟨rfl, hd_X0_greatestRemainder⟩ ⟨Nat.le_of_ble_eq_true rfl, Nat.le_of_ble_eq_true rfl⟩) (q0 := 24) (ci := 0) rfl rfl rfl rfl hl.1 rfl (Nat.le_of_ble_eq_true rfl) dX0_spread_18 ⟨Nat.le_of_ble_eq_true rfl, Nat.le_of_ble_eq_true rfl⟩) (fun H locs E => ?_)
        refine lv_istore (lv' := [(4, .int o3), (0, .ref (a 24)), (1, .long x1), (3, .int x3)]) hx hb dX0_spread_21 hl (by decide) rfl (fun ls hl => ?_)
        refine lv_aload_n hx hb dX0_spread_23 rfl (lv_at hl 1 rfl) ?_
        refine g_get C E 24 3 (fun _ h => List.mem_cons_of_mem _ (List.mem_append_right _ h)) rfl rfl (by decide) (List.mem_of_getElem? (i := 2) rfl) rfl rfl dX0_spread_24 ?_
        refine lv_iload hx hb dX0_spread_27 (lv_at hl 0 rfl) ?_
        refine lv_dup2_11 hx hb dX0_spread_29 rfl rfl ?_
        obtain ⟨h5, hf⟩ := ck_some hf
        refine g_lald C E 28 rfl h5 dX0_spread_30 ?_
        refine lv_lconst (v := 1) hx hb dX0_spread_31 (by decide) ?_
        refine lv_ladd hx hb dX0_spread_32 ?_
        obtain ⟨h6, hf⟩ := ck_some hf
        refine g_last (w' := (cW a cI cJ cZ vl hs isz igd iup idn osz ogd oup odn dep rsz lgd llf ldb ldy lsz lti pgd plf pun psz bgd bam bwt (vp_updL bsh o3.toNatClampNeg ((bsh o3.toNatClampNeg) + (1 : Int64))) brm bsz cab cbl tod imp dis owe itr)) C E 28 rfl h6 dX0_spread_33 rfl (fun H locs E => ?_)
        refine lv_aload_n hx hb dX0_spread_34 rfl (lv_at hl 1 rfl) ?_
        refine g_get C E 24 4 (fun _ h => List.mem_cons_of_mem _ (List.mem_append_right _ h)) rfl rfl (by decide) (List.mem_of_getElem? (i := 3) rfl) rfl rfl dX0_spread_35 ?_
        refine lv_iload hx hb dX0_spread_38 (lv_at hl 0 rfl) ?_
        refine lv_ldc2 (v := -1) hx hb hown (hts (.constantLong RX0 57 (-1)) (List.mem_of_getElem? (i := 4) rfl)) dX0_spread_40 ?_
        obtain ⟨h7, hf⟩ := ck_some hf
        refine g_last (w' := (cW a cI cJ cZ vl hs isz igd iup idn osz ogd oup odn dep rsz lgd llf ldb ldy lsz lti pgd plf pun psz bgd bam bwt (vp_updL bsh o3.toNatClampNeg ((bsh o3.toNatClampNeg) + (1 : Int64))) (vp_updL brm o3.toNatClampNeg (-1 : Int64)) bsz cab cbl tod imp dis owe itr)) C E 29 rfl h7 dX0_spread_43 rfl (fun H locs E => ?_)
        refine lv_iinc (v := (x3 + 1)) (lv' := [(3, .int (x3 + 1)), (4, .int o3), (0, .ref (a 24)), (1, .long x1)]) hx hb dX0_spread_44 hl (k := 3) rfl rfl (by decide) rfl (fun ls hl => ?_)
        refine lv_goto (tgt := 2) hx hb dX0_spread_47 (by decide) ?_
        exact ih (vp_updL bsh o3.toNatClampNeg ((bsh o3.toNatClampNeg) + (1 : Int64))) (vp_updL brm o3.toNatClampNeg (-1 : Int64)) (x3 + 1) _ _ _ E (lv_sub hl [2, 3, 0] rfl) hf
def f_X0_spread (bsh : Nat → Int64) (brm : Nat → Int64) (bsz : Int32) (x1 : Int64) : Option ((Nat → Int64) × (Nat → Int64)) :=
  f_X0_spread_L2 bsz x1 FU bsh brm (0 : Int32)
set_option maxHeartbeats 4000000 in
set_option maxRecDepth 100000 in
theorem c_X0_spread {l : Launch} {D : va_G} {cI cJ cZ : ClassId} {a : Nat → Nat} {sz : Nat} {vl : Nat → Int32} {hs : Nat → Int32} {isz : Nat → Int32} {igd : Nat → Int32} {iup : Nat → Int32} {idn : Nat → Int32} {osz : Nat → Int32} {ogd : Nat → Int32} {oup : Nat → Int32} {odn : Nat → Int32} {dep : Nat → Int32} {rsz : Int32} {lgd : Nat → Int32} {llf : Nat → Int64} {ldb : Nat → Int64} {ldy : Nat → Int32} {lsz : Int32} {lti : Int64} {pgd : Nat → Int32} {plf : Nat → Int64} {pun : Nat → Int32} {psz : Int32} {bgd : Nat → Int32} {bam : Nat → Int64} {bwt : Nat → Int64} {bsh : Nat → Int64} {brm : Nat → Int64} {bsz : Int32} {cab : Nat → Int64} {cbl : Nat → Int64} {tod : Int32} {imp : Int64} {dis : Int64} {owe : Int64} {itr : Int64} {x1 : Int64} {o : (Nat → Int64) × (Nat → Int64)} (hf : f_X0_spread bsh brm bsz x1 = some o) : gMv l yX0_spread wsX0_spread rm_X0_spread D (gT cI cJ cZ) (cW a cI cJ cZ vl hs isz igd iup idn osz ogd oup odn dep rsz lgd llf ldb ldy lsz lti pgd plf pun psz bgd bam bwt bsh brm bsz cab cbl tod imp dis owe itr) (cW a cI cJ cZ vl hs isz igd iup idn osz ogd oup odn dep rsz lgd llf ldb ldy lsz lti pgd plf pun psz bgd bam bwt o.1 o.2 bsz cab cbl tod imp dis owe itr) sz [.ref (a 24), .long x1] := by
  refine g_of (cc := cX0_spread) (maxL := 5) (ret := none) (by decide) rfl (Nat.le_of_ble_eq_true rfl) ?_
  intro p e s m below meth c A ls hAe C hl E
  rw [← hAe]
  obtain ⟨hx, hb, hr, hml, hown, hts, hlocks, hN, hA⟩ := id C
  have hl : lv_has ls 5 [(0, .ref (a 24)), (1, .long x1)] := hl
  have E : vE s A D (gT cI cJ cZ) (cW a cI cJ cZ vl hs isz igd iup idn osz ogd oup odn dep rsz lgd llf ldb ldy lsz lti pgd plf pun psz bgd bam bwt bsh brm bsz cab cbl tod imp dis owe itr) s.heap [] := E
  rw [f_X0_spread] at hf
  refine lv_iconst (v := 0) hx hb dX0_spread_0 (by decide) ?_
  refine lv_istore_n (lv' := [(3, .int (0 : Int32)), (0, .ref (a 24)), (1, .long x1)]) hx hb dX0_spread_1 rfl hl (by decide) rfl (fun ls hl => ?_)
  exact w_X0_spread_L2 C  FU bsh brm (0 : Int32) _ _ _ E (lv_sub hl [1, 2, 0] rfl) hf
abbrev rm_X0_apportion : Room := { frames := 2, cells := 0, slots := 0, locals := 46 }
theorem hd_X0_apportion : yX0_apportion.cls ≠ "java/lang/invoke/MethodHandle" ∧ yX0_apportion.cls ≠ "java/lang/invoke/VarHandle" ∧ (parseMethodDescriptor yX0_apportion.desc).map (fun d => d.parameters.length) = some 1 := by decide +kernel
def f_X0_apportion_L36 (bwt : Nat → Int64) (bsz : Int32) (x1 : Int64) (x3 : Int64) : Nat → (Nat → Int64) → (Nat → Int64) → Int64 → Int32 → Option ((Nat → Int64) × (Nat → Int64))
  | 0, _, _, _, _ => none
  | n + 1, bsh, brm, x5, x7 =>
  if bsz ≤ x7 then
    if (lg_cmp x3 (0 : Int64)) = 0 then
      ck (0 : Int32) 3 <|
      some ((vp_updL bsh (0 : Int32).toNatClampNeg x5), brm)
    else
      (f_X0_spread bsh brm bsz x5).bind fun o3 =>
      some (o3.1, o3.2)
  else
    ck x7 3 <|
    (f_X6_floorOf (x1 * (bwt x7.toNatClampNeg)) x3).bind fun o7 =>
    ck x7 3 <|
    ck x7 3 <|
    ck x7 3 <|
    ck x7 3 <|
    ck x7 3 <|
    f_X0_apportion_L36 bwt bsz x1 x3 n (vp_updL bsh x7.toNatClampNeg o7) (vp_updL brm x7.toNatClampNeg ((x1 * (bwt x7.toNatClampNeg)) - (((vp_updL bsh x7.toNatClampNeg o7) x7.toNatClampNeg) * x3))) (x5 - ((vp_updL bsh x7.toNatClampNeg o7) x7.toNatClampNeg)) (x7 + 1)
set_option maxHeartbeats 4000000 in
set_option maxRecDepth 100000 in
theorem w_X0_apportion_L36 {p : Program} {l : Launch} {e : Env} {s : State} {m : MethodId} {args : Array Value} {below : List Frame} {meth : Method} {c : Code} {A : Nat → Prop} {D : va_G} {cI cJ cZ : ClassId} {a : Nat → Nat} {vl : Nat → Int32} {hs : Nat → Int32} {isz : Nat → Int32} {igd : Nat → Int32} {iup : Nat → Int32} {idn : Nat → Int32} {osz : Nat → Int32} {ogd : Nat → Int32} {oup : Nat → Int32} {odn : Nat → Int32} {dep : Nat → Int32} {rsz : Int32} {lgd : Nat → Int32} {llf : Nat → Int64} {ldb : Nat → Int64} {ldy : Nat → Int32} {lsz : Int32} {lti : Int64} {pgd : Nat → Int32} {plf : Nat → Int64} {pun : Nat → Int32} {psz : Int32} {bgd : Nat → Int32} {bam : Nat → Int64} {bwt : Nat → Int64} {bsz : Int32} {cab : Nat → Int64} {cbl : Nat → Int64} {tod : Int32} {imp : Int64} {dis : Int64} {owe : Int64} {itr : Int64} (C : gC p s m args meth c cX0_apportion 8 none wsX0_apportion RX0 A) {x1 : Int64} {x3 : Int64} {o : (Nat → Int64) × (Nat → Int64)} :
    ∀ (n : Nat) (bsh : Nat → Int64) (brm : Nat → Int64) (x5 : Int64) (x7 : Int32) (H : Heap) (locs : List Loc) (ls : Array Slot), vE s A D (gT cI cJ cZ) (cW a cI cJ cZ vl hs isz igd iup idn osz ogd oup odn dep rsz lgd llf ldb ldy lsz lti pgd plf pun psz bgd bam bwt bsh brm bsz cab cbl tod imp dis owe itr) H locs → lv_has ls 8 [(0, .ref (a 24)), (1, .long x1), (3, .long x3), (5, .long x5), (7, .int x7)] → f_X0_apportion_L36 bwt bsz x1 x3 n bsh brm x5 x7 = some o → W p l e rm_X0_apportion s m args below meth c H locs 0 0 (MQ below (gQv D (gT cI cJ cZ) A (cW a cI cJ cZ vl hs isz igd iup idn osz ogd oup odn dep rsz lgd llf ldb ldy lsz lti pgd plf pun psz bgd bam bwt o.1 o.2 bsz cab cbl tod imp dis owe itr)) args s 0 0 A) (F0 m 36 ls []) := by
  obtain ⟨hx, hb, hr, hml, hown, hts, hlocks, hN, hA⟩ := id C
  intro n
  induction n with
  | zero =>
    intro bsh brm x5 x7 H locs ls E hl hf
    rw [f_X0_apportion_L36] at hf
    cases hf
  | succ n ih =>
    intro bsh brm x5 x7 H locs ls E hl hf
    rw [f_X0_apportion_L36] at hf
    refine lv_iload hx hb dX0_apportion_36 (lv_at hl 4 rfl) ?_
    refine lv_aload_n hx hb dX0_apportion_38 rfl (lv_at hl 0 rfl) ?_
    refine g_get C E 24 5 (fun _ h => List.mem_cons_of_mem _ (List.mem_append_right _ h)) rfl rfl (by decide) (List.mem_of_getElem? (i := 1) rfl) rfl rfl dX0_apportion_39 ?_
    refine lv_icmp_ge (tgt := 109) hx hb dX0_apportion_42 (by decide) (fun c1 => ?_) (fun c1 => ?_)
    · rw [if_pos c1] at hf
      refine lv_lload_n hx hb dX0_apportion_109 rfl (lv_at hl 2 rfl) ?_
      refine lv_lconst (v := 0) hx hb dX0_apportion_110 (by decide) ?_
      refine W.lcmp hx hb dX0_apportion_111 ?_
      refine lv_if_ne (tgt := 126) hx hb dX0_apportion_112 (by decide) (fun c2 => ?_) (fun c2 => ?_)
      · rw [if_neg c2] at hf
        refine lv_aload_n hx hb dX0_apportion_126 rfl (lv_at hl 0 rfl) ?_
        refine lv_lload hx hb dX0_apportion_127 (lv_at hl 3 rfl) ?_
        obtain ⟨o3, e4, hf⟩ := bd_some hf
        refine g_callv (w' := (cW a cI cJ cZ vl hs isz igd iup idn osz ogd oup odn dep rsz lgd llf ldb ldy lsz lti pgd plf pun psz bgd bam bwt o3.1 o3.2 bsz cab cbl tod imp dis owe itr)) C E (g_runV (As := [.long x5]) (rest := []) C E (c_X0_spread e4) (cwV 1 hts gX0_apportion_X0_spread rfl rfl rfl ⟨rfl, hd_X0_spread⟩ ⟨Nat.le_of_ble_eq_true rfl, Nat.le_of_ble_eq_true rfl⟩) (q0 := 24) (ci := 0) rfl rfl rfl rfl hl.1 rfl (Nat.le_of_ble_eq_true rfl) dX0_apportion_129 ⟨Nat.le_of_ble_eq_true rfl, Nat.le_of_ble_eq_true rfl⟩) (fun H locs E => ?_)
        obtain rfl := Option.some.inj hf
        exact g_vret C E dX0_apportion_132
      · rw [if_pos c2] at hf
        refine lv_aload_n hx hb dX0_apportion_115 rfl (lv_at hl 0 rfl) ?_
        refine g_get C E 24 3 (fun _ h => List.mem_cons_of_mem _ (List.mem_append_right _ h)) rfl rfl (by decide) (List.mem_of_getElem? (i := 3) rfl) rfl rfl dX0_apportion_116 ?_
        refine lv_iconst (v := 0) hx hb dX0_apportion_119 (by decide) ?_
        refine lv_lload hx hb dX0_apportion_120 (lv_at hl 3 rfl) ?_
        obtain ⟨h5, hf⟩ := ck_some hf
        refine g_last (w' := (cW a cI cJ cZ vl hs isz igd iup idn osz ogd oup odn dep rsz lgd llf ldb ldy lsz lti pgd plf pun psz bgd bam bwt (vp_updL bsh (0 : Int32).toNatClampNeg x5) brm bsz cab cbl tod imp dis owe itr)) C E 28 rfl h5 dX0_apportion_122 rfl (fun H locs E => ?_)
        refine lv_goto (tgt := 132) hx hb dX0_apportion_123 (by decide) ?_
        obtain rfl := Option.some.inj hf
        exact g_vret C E dX0_apportion_132
    · rw [if_neg c1] at hf
      refine lv_aload_n hx hb dX0_apportion_45 rfl (lv_at hl 0 rfl) ?_
      refine g_get C E 24 3 (fun _ h => List.mem_cons_of_mem _ (List.mem_append_right _ h)) rfl rfl (by decide) (List.mem_of_getElem? (i := 3) rfl) rfl rfl dX0_apportion_46 ?_
      refine lv_iload hx hb dX0_apportion_49 (lv_at hl 4 rfl) ?_
      refine lv_lload_n hx hb dX0_apportion_51 rfl (lv_at hl 1 rfl) ?_
      refine lv_aload_n hx hb dX0_apportion_52 rfl (lv_at hl 0 rfl) ?_
      refine g_get C E 24 2 (fun _ h => List.mem_cons_of_mem _ (List.mem_append_right _ h)) rfl rfl (by decide) (List.mem_of_getElem? (i := 2) rfl) rfl rfl dX0_apportion_53 ?_
      refine lv_iload hx hb dX0_apportion_56 (lv_at hl 4 rfl) ?_
      obtain ⟨h6, hf⟩ := ck_some hf
      refine g_lald C E 27 rfl h6 dX0_apportion_58 ?_
      refine lv_lmul hx hb dX0_apportion_59 ?_
      refine lv_lload_n hx hb dX0_apportion_60 rfl (lv_at hl 2 rfl) ?_
      obtain ⟨o7, e8, hf⟩ := bd_some hf
      refine g_calll (w' := (cW a cI cJ cZ vl hs isz igd iup idn osz ogd oup odn dep rsz lgd llf ldb ldy lsz lti pgd plf pun psz bgd bam bwt bsh brm bsz cab cbl tod imp dis owe itr)) C E (g_runSN (As := [.long (x1 * (bwt x7.toNatClampNeg)), .long x3]) (rest := [.int x7, .ref (a 28)]) C E (c_X6_floorOf e8) ⟨va_cnB 2 hts gX0_apportion_X6_floorOf_n45 rfl rfl rfl (hN.1 _ (List.mem_of_getElem? (i := 5) rfl)) (hts (.initialized RX6) (List.mem_of_getElem? (i := 6) rfl)) hd_X6_floorOf ⟨Nat.le_of_ble_eq_true rfl, Nat.le_of_ble_eq_true rfl⟩, hts (.static yX6_floorOf) (List.mem_of_getElem? (i := 5) rfl), trivial⟩ rfl hl.1 rfl (Nat.le_of_ble_eq_true rfl) dX0_apportion_61 ⟨Nat.le_of_ble_eq_true rfl, Nat.le_of_ble_eq_true rfl⟩) (fun H locs E => ?_)
      obtain ⟨h9, hf⟩ := ck_some hf
      refine g_last (w' := (cW a cI cJ cZ vl hs isz igd iup idn osz ogd oup odn dep rsz lgd llf ldb ldy lsz lti pgd plf pun psz bgd bam bwt (vp_updL bsh x7.toNatClampNeg o7) brm bsz cab cbl tod imp dis owe itr)) C E 28 rfl h9 dX0_apportion_64 rfl (fun H locs E => ?_)
      refine lv_aload_n hx hb dX0_apportion_65 rfl (lv_at hl 0 rfl) ?_
      refine g_get C E 24 4 (fun _ h => List.mem_cons_of_mem _ (List.mem_append_right _ h)) rfl rfl (by decide) (List.mem_of_getElem? (i := 4) rfl) rfl rfl dX0_apportion_66 ?_
      refine lv_iload hx hb dX0_apportion_69 (lv_at hl 4 rfl) ?_
      refine lv_lload_n hx hb dX0_apportion_71 rfl (lv_at hl 1 rfl) ?_
      refine lv_aload_n hx hb dX0_apportion_72 rfl (lv_at hl 0 rfl) ?_
      refine g_get C E 24 2 (fun _ h => List.mem_cons_of_mem _ (List.mem_append_right _ h)) rfl rfl (by decide) (List.mem_of_getElem? (i := 2) rfl) rfl rfl dX0_apportion_73 ?_
      refine lv_iload hx hb dX0_apportion_76 (lv_at hl 4 rfl) ?_
      obtain ⟨h10, hf⟩ := ck_some hf
      refine g_lald C E 27 rfl h10 dX0_apportion_78 ?_
      refine lv_lmul hx hb dX0_apportion_79 ?_
      refine lv_aload_n hx hb dX0_apportion_80 rfl (lv_at hl 0 rfl) ?_
      refine g_get C E 24 3 (fun _ h => List.mem_cons_of_mem _ (List.mem_append_right _ h)) rfl rfl (by decide) (List.mem_of_getElem? (i := 3) rfl) rfl rfl dX0_apportion_81 ?_
      refine lv_iload hx hb dX0_apportion_84 (lv_at hl 4 rfl) ?_
      obtain ⟨h11, hf⟩ := ck_some hf
      refine g_lald C E 28 rfl h11 dX0_apportion_86 ?_
      refine lv_lload_n hx hb dX0_apportion_87 rfl (lv_at hl 2 rfl) ?_
      refine lv_lmul hx hb dX0_apportion_88 ?_
      refine lv_lsub hx hb dX0_apportion_89 ?_
      obtain ⟨h12, hf⟩ := ck_some hf
      refine g_last (w' := (cW a cI cJ cZ vl hs isz igd iup idn osz ogd oup odn dep rsz lgd llf ldb ldy lsz lti pgd plf pun psz bgd bam bwt (vp_updL bsh x7.toNatClampNeg o7) (vp_updL brm x7.toNatClampNeg ((x1 * (bwt x7.toNatClampNeg)) - (((vp_updL bsh x7.toNatClampNeg o7) x7.toNatClampNeg) * x3))) bsz cab cbl tod imp dis owe itr)) C E 29 rfl h12 dX0_apportion_90 rfl (fun H locs E => ?_)
      refine lv_lload hx hb dX0_apportion_91 (lv_at hl 3 rfl) ?_
      refine lv_aload_n hx hb dX0_apportion_93 rfl (lv_at hl 0 rfl) ?_
      refine g_get C E 24 3 (fun _ h => List.mem_cons_of_mem _ (List.mem_append_right _ h)) rfl rfl (by decide) (List.mem_of_getElem? (i := 3) rfl) rfl rfl dX0_apportion_94 ?_
      refine lv_iload hx hb dX0_apportion_97 (lv_at hl 4 rfl) ?_
      obtain ⟨h13, hf⟩ := ck_some hf
      refine g_lald C E 28 rfl h13 dX0_apportion_99 ?_
      refine lv_lsub hx hb dX0_apportion_100 ?_
      refine lv_lstore (lv' := [(5, .long (x5 - ((vp_updL bsh x7.toNatClampNeg o7) x7.toNatClampNeg))), (0, .ref (a 24)), (1, .long x1), (3, .long x3), (7, .int x7)]) hx hb dX0_apportion_101 hl (by decide) rfl (fun ls hl => ?_)
      refine lv_iinc (v := (x7 + 1)) (lv' := [(7, .int (x7 + 1)), (5, .long (x5 - ((vp_updL bsh x7.toNatClampNeg o7) x7.toNatClampNeg))), (0, .ref (a 24)), (1, .long x1), (3, .long x3)]) hx hb dX0_apportion_103 hl (k := 4) rfl rfl (by decide) rfl (fun ls hl => ?_)
      refine lv_goto (tgt := 36) hx hb dX0_apportion_106 (by decide) ?_
      exact ih (vp_updL bsh x7.toNatClampNeg o7) (vp_updL brm x7.toNatClampNeg ((x1 * (bwt x7.toNatClampNeg)) - (((vp_updL bsh x7.toNatClampNeg o7) x7.toNatClampNeg) * x3))) (x5 - ((vp_updL bsh x7.toNatClampNeg o7) x7.toNatClampNeg)) (x7 + 1) _ _ _ E (lv_sub hl [2, 3, 4, 1, 0] rfl) hf
def f_X0_apportion_L5 (bwt : Nat → Int64) (bsh : Nat → Int64) (brm : Nat → Int64) (bsz : Int32) (x1 : Int64) : Nat → Int64 → Int32 → Option ((Nat → Int64) × (Nat → Int64))
  | 0, _, _ => none
  | n + 1, x3, x5 =>
  if bsz ≤ x5 then
    f_X0_apportion_L36 bwt bsz x1 x3 FU bsh brm x1 (0 : Int32)
  else
    ck x5 3 <|
    f_X0_apportion_L5 bwt bsh brm bsz x1 n (x3 + (bwt x5.toNatClampNeg)) (x5 + 1)
set_option maxHeartbeats 4000000 in
set_option maxRecDepth 100000 in
theorem w_X0_apportion_L5 {p : Program} {l : Launch} {e : Env} {s : State} {m : MethodId} {args : Array Value} {below : List Frame} {meth : Method} {c : Code} {A : Nat → Prop} {D : va_G} {cI cJ cZ : ClassId} {a : Nat → Nat} {vl : Nat → Int32} {hs : Nat → Int32} {isz : Nat → Int32} {igd : Nat → Int32} {iup : Nat → Int32} {idn : Nat → Int32} {osz : Nat → Int32} {ogd : Nat → Int32} {oup : Nat → Int32} {odn : Nat → Int32} {dep : Nat → Int32} {rsz : Int32} {lgd : Nat → Int32} {llf : Nat → Int64} {ldb : Nat → Int64} {ldy : Nat → Int32} {lsz : Int32} {lti : Int64} {pgd : Nat → Int32} {plf : Nat → Int64} {pun : Nat → Int32} {psz : Int32} {bgd : Nat → Int32} {bam : Nat → Int64} {bwt : Nat → Int64} {bsh : Nat → Int64} {brm : Nat → Int64} {bsz : Int32} {cab : Nat → Int64} {cbl : Nat → Int64} {tod : Int32} {imp : Int64} {dis : Int64} {owe : Int64} {itr : Int64} (C : gC p s m args meth c cX0_apportion 8 none wsX0_apportion RX0 A) {x1 : Int64} {o : (Nat → Int64) × (Nat → Int64)} :
    ∀ (n : Nat) (x3 : Int64) (x5 : Int32) (H : Heap) (locs : List Loc) (ls : Array Slot), vE s A D (gT cI cJ cZ) (cW a cI cJ cZ vl hs isz igd iup idn osz ogd oup odn dep rsz lgd llf ldb ldy lsz lti pgd plf pun psz bgd bam bwt bsh brm bsz cab cbl tod imp dis owe itr) H locs → lv_has ls 8 [(0, .ref (a 24)), (1, .long x1), (3, .long x3), (5, .int x5)] → f_X0_apportion_L5 bwt bsh brm bsz x1 n x3 x5 = some o → W p l e rm_X0_apportion s m args below meth c H locs 0 0 (MQ below (gQv D (gT cI cJ cZ) A (cW a cI cJ cZ vl hs isz igd iup idn osz ogd oup odn dep rsz lgd llf ldb ldy lsz lti pgd plf pun psz bgd bam bwt o.1 o.2 bsz cab cbl tod imp dis owe itr)) args s 0 0 A) (F0 m 5 ls []) := by
  obtain ⟨hx, hb, hr, hml, hown, hts, hlocks, hN, hA⟩ := id C
  intro n
  induction n with
  | zero =>
    intro x3 x5 H locs ls E hl hf
    rw [f_X0_apportion_L5] at hf
    cases hf
  | succ n ih =>
    intro x3 x5 H locs ls E hl hf
    rw [f_X0_apportion_L5] at hf
    refine lv_iload hx hb dX0_apportion_5 (lv_at hl 3 rfl) ?_
    refine lv_aload_n hx hb dX0_apportion_7 rfl (lv_at hl 0 rfl) ?_
    refine g_get C E 24 5 (fun _ h => List.mem_cons_of_mem _ (List.mem_append_right _ h)) rfl rfl (by decide) (List.mem_of_getElem? (i := 1) rfl) rfl rfl dX0_apportion_8 ?_
    refine lv_icmp_ge (tgt := 30) hx hb dX0_apportion_11 (by decide) (fun c1 => ?_) (fun c1 => ?_)
    · rw [if_pos c1] at hf
      refine lv_lload_n hx hb dX0_apportion_30 rfl (lv_at hl 1 rfl) ?_
      refine lv_lstore (lv' := [(5, .long x1), (0, .ref (a 24)), (1, .long x1), (3, .long x3)]) hx hb dX0_apportion_31 hl (by decide) rfl (fun ls hl => ?_)
      refine lv_iconst (v := 0) hx hb dX0_apportion_33 (by decide) ?_
      refine lv_istore (lv' := [(7, .int (0 : Int32)), (5, .long x1), (0, .ref (a 24)), (1, .long x1), (3, .long x3)]) hx hb dX0_apportion_34 hl (by decide) rfl (fun ls hl => ?_)
      exact w_X0_apportion_L36 C  FU bsh brm x1 (0 : Int32) _ _ _ E (lv_sub hl [2, 3, 4, 1, 0] rfl) hf
    · rw [if_neg c1] at hf
      refine lv_lload_n hx hb dX0_apportion_14 rfl (lv_at hl 2 rfl) ?_
      refine lv_aload_n hx hb dX0_apportion_15 rfl (lv_at hl 0 rfl) ?_
      refine g_get C E 24 2 (fun _ h => List.mem_cons_of_mem _ (List.mem_append_right _ h)) rfl rfl (by decide) (List.mem_of_getElem? (i := 2) rfl) rfl rfl dX0_apportion_16 ?_
      refine lv_iload hx hb dX0_apportion_19 (lv_at hl 3 rfl) ?_
      obtain ⟨h2, hf⟩ := ck_some hf
      refine g_lald C E 27 rfl h2 dX0_apportion_21 ?_
      refine lv_ladd hx hb dX0_apportion_22 ?_
      refine lv_lstore_n (lv' := [(3, .long (x3 + (bwt x5.toNatClampNeg))), (0, .ref (a 24)), (1, .long x1), (5, .int x5)]) hx hb dX0_apportion_23 rfl hl (by decide) rfl (fun ls hl => ?_)
      refine lv_iinc (v := (x5 + 1)) (lv' := [(5, .int (x5 + 1)), (3, .long (x3 + (bwt x5.toNatClampNeg))), (0, .ref (a 24)), (1, .long x1)]) hx hb dX0_apportion_24 hl (k := 3) rfl rfl (by decide) rfl (fun ls hl => ?_)
      refine lv_goto (tgt := 5) hx hb dX0_apportion_27 (by decide) ?_
      exact ih (x3 + (bwt x5.toNatClampNeg)) (x5 + 1) _ _ _ E (lv_sub hl [2, 3, 1, 0] rfl) hf
def f_X0_apportion (bwt : Nat → Int64) (bsh : Nat → Int64) (brm : Nat → Int64) (bsz : Int32) (x1 : Int64) : Option ((Nat → Int64) × (Nat → Int64)) :=
  f_X0_apportion_L5 bwt bsh brm bsz x1 FU (0 : Int64) (0 : Int32)
set_option maxHeartbeats 4000000 in
set_option maxRecDepth 100000 in
theorem c_X0_apportion {l : Launch} {D : va_G} {cI cJ cZ : ClassId} {a : Nat → Nat} {sz : Nat} {vl : Nat → Int32} {hs : Nat → Int32} {isz : Nat → Int32} {igd : Nat → Int32} {iup : Nat → Int32} {idn : Nat → Int32} {osz : Nat → Int32} {ogd : Nat → Int32} {oup : Nat → Int32} {odn : Nat → Int32} {dep : Nat → Int32} {rsz : Int32} {lgd : Nat → Int32} {llf : Nat → Int64} {ldb : Nat → Int64} {ldy : Nat → Int32} {lsz : Int32} {lti : Int64} {pgd : Nat → Int32} {plf : Nat → Int64} {pun : Nat → Int32} {psz : Int32} {bgd : Nat → Int32} {bam : Nat → Int64} {bwt : Nat → Int64} {bsh : Nat → Int64} {brm : Nat → Int64} {bsz : Int32} {cab : Nat → Int64} {cbl : Nat → Int64} {tod : Int32} {imp : Int64} {dis : Int64} {owe : Int64} {itr : Int64} {x1 : Int64} {o : (Nat → Int64) × (Nat → Int64)} (hf : f_X0_apportion bwt bsh brm bsz x1 = some o) : gMv l yX0_apportion wsX0_apportion rm_X0_apportion D (gT cI cJ cZ) (cW a cI cJ cZ vl hs isz igd iup idn osz ogd oup odn dep rsz lgd llf ldb ldy lsz lti pgd plf pun psz bgd bam bwt bsh brm bsz cab cbl tod imp dis owe itr) (cW a cI cJ cZ vl hs isz igd iup idn osz ogd oup odn dep rsz lgd llf ldb ldy lsz lti pgd plf pun psz bgd bam bwt o.1 o.2 bsz cab cbl tod imp dis owe itr) sz [.ref (a 24), .long x1] := by
  refine g_of (cc := cX0_apportion) (maxL := 8) (ret := none) (by decide) rfl (Nat.le_of_ble_eq_true rfl) ?_
  intro p e s m below meth c A ls hAe C hl E
  rw [← hAe]
  obtain ⟨hx, hb, hr, hml, hown, hts, hlocks, hN, hA⟩ := id C
  have hl : lv_has ls 8 [(0, .ref (a 24)), (1, .long x1)] := hl
  have E : vE s A D (gT cI cJ cZ) (cW a cI cJ cZ vl hs isz igd iup idn osz ogd oup odn dep rsz lgd llf ldb ldy lsz lti pgd plf pun psz bgd bam bwt bsh brm bsz cab cbl tod imp dis owe itr) s.heap [] := E
  rw [f_X0_apportion] at hf
  refine lv_lconst (v := 0) hx hb dX0_apportion_0 (by decide) ?_
  refine lv_lstore_n (lv' := [(3, .long (0 : Int64)), (0, .ref (a 24)), (1, .long x1)]) hx hb dX0_apportion_1 rfl hl (by decide) rfl (fun ls hl => ?_)
  refine lv_iconst (v := 0) hx hb dX0_apportion_2 (by decide) ?_
  refine lv_istore (lv' := [(5, .int (0 : Int32)), (3, .long (0 : Int64)), (0, .ref (a 24)), (1, .long x1)]) hx hb dX0_apportion_3 hl (by decide) rfl (fun ls hl => ?_)
  exact w_X0_apportion_L5 C  FU (0 : Int64) (0 : Int32) _ _ _ E (lv_sub hl [2, 3, 1, 0] rfl) hf
abbrev rm_X0_store : Room := { frames := 1, cells := 0, slots := 0, locals := 26 }
theorem hd_X0_store : yX0_store.cls ≠ "java/lang/invoke/MethodHandle" ∧ yX0_store.cls ≠ "java/lang/invoke/VarHandle" ∧ (parseMethodDescriptor yX0_store.desc).map (fun d => d.parameters.length) = some 2 := by decide +kernel
def f_X0_store_L2 (bgd : Nat → Int32) (bam : Nat → Int64) (bsh : Nat → Int64) (bsz : Int32) (x2 : Int32) : Nat → (Nat → Int32) → (Nat → Int64) → (Nat → Int64) → (Nat → Int32) → (Int32) → Int32 → Option ((Nat → Int32) × (Nat → Int64) × (Nat → Int64) × (Nat → Int32) × (Int32))
  | 0, _, _, _, _, _, _ => none
  | n + 1, lgd, llf, ldb, ldy, lsz, x3 =>
  if bsz ≤ x3 then
    some (lgd, llf, ldb, ldy, lsz)
  else
    ck x3 3 <|
    if (lg_cmp (bam x3.toNatClampNeg) (0 : Int64)) ≤ 0 then
      f_X0_store_L2 bgd bam bsh bsz x2 n lgd llf ldb ldy lsz (x3 + 1)
    else
      ck x3 3 <|
      ck x3 3 <|
      ck x3 3 <|
      (f_X2_add lgd llf ldb ldy lsz (bgd x3.toNatClampNeg) (bam x3.toNatClampNeg) (bsh x3.toNatClampNeg) x2).bind fun o7 =>
      f_X0_store_L2 bgd bam bsh bsz x2 n o7.2.1 o7.2.2.1 o7.2.2.2.1 o7.2.2.2.2.1 o7.2.2.2.2.2 (x3 + 1)
set_option maxHeartbeats 4000000 in
set_option maxRecDepth 100000 in
theorem w_X0_store_L2 {p : Program} {l : Launch} {e : Env} {s : State} {m : MethodId} {args : Array Value} {below : List Frame} {meth : Method} {c : Code} {A : Nat → Prop} {D : va_G} {cI cJ cZ : ClassId} {a : Nat → Nat} {vl : Nat → Int32} {hs : Nat → Int32} {isz : Nat → Int32} {igd : Nat → Int32} {iup : Nat → Int32} {idn : Nat → Int32} {osz : Nat → Int32} {ogd : Nat → Int32} {oup : Nat → Int32} {odn : Nat → Int32} {dep : Nat → Int32} {rsz : Int32} {lti : Int64} {pgd : Nat → Int32} {plf : Nat → Int64} {pun : Nat → Int32} {psz : Int32} {bgd : Nat → Int32} {bam : Nat → Int64} {bwt : Nat → Int64} {bsh : Nat → Int64} {brm : Nat → Int64} {bsz : Int32} {cab : Nat → Int64} {cbl : Nat → Int64} {tod : Int32} {imp : Int64} {dis : Int64} {owe : Int64} {itr : Int64} (C : gC p s m args meth c cX0_store 4 none wsX0_store RX0 A) {x2 : Int32} {o : (Nat → Int32) × (Nat → Int64) × (Nat → Int64) × (Nat → Int32) × (Int32)} :
    ∀ (n : Nat) (lgd : Nat → Int32) (llf : Nat → Int64) (ldb : Nat → Int64) (ldy : Nat → Int32) (lsz : Int32) (x3 : Int32) (H : Heap) (locs : List Loc) (ls : Array Slot), vE s A D (gT cI cJ cZ) (cW a cI cJ cZ vl hs isz igd iup idn osz ogd oup odn dep rsz lgd llf ldb ldy lsz lti pgd plf pun psz bgd bam bwt bsh brm bsz cab cbl tod imp dis owe itr) H locs → lv_has ls 4 [(0, .ref (a 24)), (1, .ref (a 15)), (2, .int x2), (3, .int x3)] → f_X0_store_L2 bgd bam bsh bsz x2 n lgd llf ldb ldy lsz x3 = some o → W p l e rm_X0_store s m args below meth c H locs 0 0 (MQ below (gQv D (gT cI cJ cZ) A (cW a cI cJ cZ vl hs isz igd iup idn osz ogd oup odn dep rsz o.1 o.2.1 o.2.2.1 o.2.2.2.1 o.2.2.2.2 lti pgd plf pun psz bgd bam bwt bsh brm bsz cab cbl tod imp dis owe itr)) args s 0 0 A) (F0 m 2 ls []) := by
  obtain ⟨hx, hb, hr, hml, hown, hts, hlocks, hN, hA⟩ := id C
  intro n
  induction n with
  | zero =>
    intro lgd llf ldb ldy lsz x3 H locs ls E hl hf
    rw [f_X0_store_L2] at hf
    cases hf
  | succ n ih =>
    intro lgd llf ldb ldy lsz x3 H locs ls E hl hf
    rw [f_X0_store_L2] at hf
    refine lv_iload_n hx hb dX0_store_2 rfl (lv_at hl 3 rfl) ?_
    refine lv_aload_n hx hb dX0_store_3 rfl (lv_at hl 0 rfl) ?_
    refine g_get C E 24 5 (fun _ h => List.mem_cons_of_mem _ (List.mem_append_left _ (List.mem_append_right _ h))) rfl rfl (by decide) (List.mem_of_getElem? (i := 1) rfl) rfl rfl dX0_store_4 ?_
    refine lv_icmp_ge (tgt := 51) hx hb dX0_store_7 (by decide) (fun c1 => ?_) (fun c1 => ?_)
    · rw [if_pos c1] at hf
      obtain rfl := Option.some.inj hf
      exact g_vret C E dX0_store_51
    · rw [if_neg c1] at hf
      refine lv_aload_n hx hb dX0_store_10 rfl (lv_at hl 0 rfl) ?_
      refine g_get C E 24 1 (fun _ h => List.mem_cons_of_mem _ (List.mem_append_left _ (List.mem_append_right _ h))) rfl rfl (by decide) (List.mem_of_getElem? (i := 2) rfl) rfl rfl dX0_store_11 ?_
      refine lv_iload_n hx hb dX0_store_14 rfl (lv_at hl 3 rfl) ?_
      obtain ⟨h2, hf⟩ := ck_some hf
      refine g_lald C E 26 rfl h2 dX0_store_15 ?_
      refine lv_lconst (v := 0) hx hb dX0_store_16 (by decide) ?_
      refine W.lcmp hx hb dX0_store_17 ?_
      refine lv_if_le (tgt := 45) hx hb dX0_store_18 (by decide) (fun c3 => ?_) (fun c3 => ?_)
      · rw [if_pos c3] at hf
        refine lv_iinc (v := (x3 + 1)) (lv' := [(3, .int (x3 + 1)), (0, .ref (a 24)), (1, .ref (a 15)), (2, .int x2)]) hx hb dX0_store_45 hl (k := 3) rfl rfl (by decide) rfl (fun ls hl => ?_)
        refine lv_goto (tgt := 2) hx hb dX0_store_48 (by decide) ?_
        exact ih lgd llf ldb ldy lsz (x3 + 1) _ _ _ E (lv_sub hl [1, 2, 3, 0] rfl) hf
      · rw [if_neg c3] at hf
        refine lv_aload_n hx hb dX0_store_21 rfl (lv_at hl 1 rfl) ?_
        refine lv_aload_n hx hb dX0_store_22 rfl (lv_at hl 0 rfl) ?_
        refine g_get C E 24 0 (fun _ h => List.mem_cons_of_mem _ (List.mem_append_left _ (List.mem_append_right _ h))) rfl rfl (by decide) (List.mem_of_getElem? (i := 3) rfl) rfl rfl dX0_store_23 ?_
        refine lv_iload_n hx hb dX0_store_26 rfl (lv_at hl 3 rfl) ?_
        obtain ⟨h4, hf⟩ := ck_some hf
        refine g_iald C E 25 rfl h4 dX0_store_27 ?_
        refine lv_aload_n hx hb dX0_store_28 rfl (lv_at hl 0 rfl) ?_
        refine g_get C E 24 1 (fun _ h => List.mem_cons_of_mem _ (List.mem_append_left _ (List.mem_append_right _ h))) rfl rfl (by decide) (List.mem_of_getElem? (i := 2) rfl) rfl rfl dX0_store_29 ?_
        refine lv_iload_n hx hb dX0_store_32 rfl (lv_at hl 3 rfl) ?_
        obtain ⟨h5, hf⟩ := ck_some hf
        refine g_lald C E 26 rfl h5 dX0_store_33 ?_
        refine lv_aload_n hx hb dX0_store_34 rfl (lv_at hl 0 rfl) ?_
        refine g_get C E 24 3 (fun _ h => List.mem_cons_of_mem _ (List.mem_append_left _ (List.mem_append_right _ h))) rfl rfl (by decide) (List.mem_of_getElem? (i := 4) rfl) rfl rfl dX0_store_35 ?_
        refine lv_iload_n hx hb dX0_store_38 rfl (lv_at hl 3 rfl) ?_
        obtain ⟨h6, hf⟩ := ck_some hf
        refine g_lald C E 28 rfl h6 dX0_store_39 ?_
        refine lv_iload_n hx hb dX0_store_40 rfl (lv_at hl 2 rfl) ?_
        obtain ⟨o7, e8, hf⟩ := bd_some hf
        refine g_calli (w' := (cW a cI cJ cZ vl hs isz igd iup idn osz ogd oup odn dep rsz o7.2.1 o7.2.2.1 o7.2.2.2.1 o7.2.2.2.2.1 o7.2.2.2.2.2 lti pgd plf pun psz bgd bam bwt bsh brm bsz cab cbl tod imp dis owe itr)) C E (g_runV (As := [.int (bgd x3.toNatClampNeg), .long (bam x3.toNatClampNeg), .long (bsh x3.toNatClampNeg), .int x2]) (rest := []) C E (c_X2_add e8) (cwV 4 hts gX0_store_X2_add rfl rfl rfl ⟨rfl, hd_X2_add⟩ ⟨Nat.le_of_ble_eq_true rfl, Nat.le_of_ble_eq_true rfl⟩) (q0 := 15) (ci := 2) rfl rfl rfl rfl hl.1 rfl (Nat.le_of_ble_eq_true rfl) dX0_store_41 ⟨Nat.le_of_ble_eq_true rfl, Nat.le_of_ble_eq_true rfl⟩) (fun H locs E => ?_)
        refine lv_pop hx hb dX0_store_44 rfl ?_
        refine lv_iinc (v := (x3 + 1)) (lv' := [(3, .int (x3 + 1)), (0, .ref (a 24)), (1, .ref (a 15)), (2, .int x2)]) hx hb dX0_store_45 hl (k := 3) rfl rfl (by decide) rfl (fun ls hl => ?_)
        refine lv_goto (tgt := 2) hx hb dX0_store_48 (by decide) ?_
        exact ih o7.2.1 o7.2.2.1 o7.2.2.2.1 o7.2.2.2.2.1 o7.2.2.2.2.2 (x3 + 1) _ _ _ E (lv_sub hl [1, 2, 3, 0] rfl) hf
def f_X0_store (lgd : Nat → Int32) (llf : Nat → Int64) (ldb : Nat → Int64) (ldy : Nat → Int32) (lsz : Int32) (bgd : Nat → Int32) (bam : Nat → Int64) (bsh : Nat → Int64) (bsz : Int32) (x2 : Int32) : Option ((Nat → Int32) × (Nat → Int64) × (Nat → Int64) × (Nat → Int32) × (Int32)) :=
  f_X0_store_L2 bgd bam bsh bsz x2 FU lgd llf ldb ldy lsz (0 : Int32)
set_option maxHeartbeats 4000000 in
set_option maxRecDepth 100000 in
theorem c_X0_store {l : Launch} {D : va_G} {cI cJ cZ : ClassId} {a : Nat → Nat} {sz : Nat} {vl : Nat → Int32} {hs : Nat → Int32} {isz : Nat → Int32} {igd : Nat → Int32} {iup : Nat → Int32} {idn : Nat → Int32} {osz : Nat → Int32} {ogd : Nat → Int32} {oup : Nat → Int32} {odn : Nat → Int32} {dep : Nat → Int32} {rsz : Int32} {lgd : Nat → Int32} {llf : Nat → Int64} {ldb : Nat → Int64} {ldy : Nat → Int32} {lsz : Int32} {lti : Int64} {pgd : Nat → Int32} {plf : Nat → Int64} {pun : Nat → Int32} {psz : Int32} {bgd : Nat → Int32} {bam : Nat → Int64} {bwt : Nat → Int64} {bsh : Nat → Int64} {brm : Nat → Int64} {bsz : Int32} {cab : Nat → Int64} {cbl : Nat → Int64} {tod : Int32} {imp : Int64} {dis : Int64} {owe : Int64} {itr : Int64} {x2 : Int32} {o : (Nat → Int32) × (Nat → Int64) × (Nat → Int64) × (Nat → Int32) × (Int32)} (hf : f_X0_store lgd llf ldb ldy lsz bgd bam bsh bsz x2 = some o) : gMv l yX0_store wsX0_store rm_X0_store D (gT cI cJ cZ) (cW a cI cJ cZ vl hs isz igd iup idn osz ogd oup odn dep rsz lgd llf ldb ldy lsz lti pgd plf pun psz bgd bam bwt bsh brm bsz cab cbl tod imp dis owe itr) (cW a cI cJ cZ vl hs isz igd iup idn osz ogd oup odn dep rsz o.1 o.2.1 o.2.2.1 o.2.2.2.1 o.2.2.2.2 lti pgd plf pun psz bgd bam bwt bsh brm bsz cab cbl tod imp dis owe itr) sz [.ref (a 24), .ref (a 15), .int x2] := by
  refine g_of (cc := cX0_store) (maxL := 4) (ret := none) (by decide) rfl (Nat.le_of_ble_eq_true rfl) ?_
  intro p e s m below meth c A ls hAe C hl E
  rw [← hAe]
  obtain ⟨hx, hb, hr, hml, hown, hts, hlocks, hN, hA⟩ := id C
  have hl : lv_has ls 4 [(0, .ref (a 24)), (1, .ref (a 15)), (2, .int x2)] := hl
  have E : vE s A D (gT cI cJ cZ) (cW a cI cJ cZ vl hs isz igd iup idn osz ogd oup odn dep rsz lgd llf ldb ldy lsz lti pgd plf pun psz bgd bam bwt bsh brm bsz cab cbl tod imp dis owe itr) s.heap [] := E
  rw [f_X0_store] at hf
  refine lv_iconst (v := 0) hx hb dX0_store_0 (by decide) ?_
  refine lv_istore_n (lv' := [(3, .int (0 : Int32)), (0, .ref (a 24)), (1, .ref (a 15)), (2, .int x2)]) hx hb dX0_store_1 rfl hl (by decide) rfl (fun ls hl => ?_)
  exact w_X0_store_L2 C  FU lgd llf ldb ldy lsz (0 : Int32) _ _ _ E (lv_sub hl [1, 2, 3, 0] rfl) hf
