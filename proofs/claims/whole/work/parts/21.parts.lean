abbrev rm_X3_goodAt_i : Room := { frames := 1, cells := 0, slots := 0, locals := 21 }
theorem hd_X3_goodAt_i : yX3_goodAt.cls ≠ "java/lang/invoke/MethodHandle" ∧ yX3_goodAt.cls ≠ "java/lang/invoke/VarHandle" ∧ (parseMethodDescriptor yX3_goodAt.desc).map (fun d => d.parameters.length) = some 2 := by decide +kernel
def f_X3_goodAt_i (igd : Nat → Int32) (x1 : Int32) (x2 : Int32) : Option (Int32) :=
  (f_X3_place x1 x2).bind fun o1 =>
  ck o1 48 <|
  some ((igd o1.toNatClampNeg))
set_option maxHeartbeats 4000000 in
set_option maxRecDepth 100000 in
theorem c_X3_goodAt_i {l : Launch} {D : va_G} {cI cJ cZ : ClassId} {a : Nat → Nat} {sz : Nat} {vl : Nat → Int32} {hs : Nat → Int32} {isz : Nat → Int32} {igd : Nat → Int32} {iup : Nat → Int32} {idn : Nat → Int32} {osz : Nat → Int32} {ogd : Nat → Int32} {oup : Nat → Int32} {odn : Nat → Int32} {dep : Nat → Int32} {rsz : Int32} {lgd : Nat → Int32} {llf : Nat → Int64} {ldb : Nat → Int64} {ldy : Nat → Int32} {lsz : Int32} {lti : Int64} {pgd : Nat → Int32} {plf : Nat → Int64} {pun : Nat → Int32} {psz : Int32} {bgd : Nat → Int32} {bam : Nat → Int64} {bwt : Nat → Int64} {bsh : Nat → Int64} {brm : Nat → Int64} {bsz : Int32} {cab : Nat → Int64} {cbl : Nat → Int64} {tod : Int32} {imp : Int64} {dis : Int64} {owe : Int64} {itr : Int64} {x1 : Int32} {x2 : Int32} {o : Int32} (hf : f_X3_goodAt_i igd x1 x2 = some o) : gMi l yX3_goodAt wsX3_goodAt rm_X3_goodAt_i D (gT cI cJ cZ) (cW a cI cJ cZ vl hs isz igd iup idn osz ogd oup odn dep rsz lgd llf ldb ldy lsz lti pgd plf pun psz bgd bam bwt bsh brm bsz cab cbl tod imp dis owe itr) (cW a cI cJ cZ vl hs isz igd iup idn osz ogd oup odn dep rsz lgd llf ldb ldy lsz lti pgd plf pun psz bgd bam bwt bsh brm bsz cab cbl tod imp dis owe itr) sz [.ref (a 4), .int x1, .int x2] o := by
  refine g_of (cc := cX3_goodAt) (maxL := 3) (ret := (some .int)) (by decide) rfl (Nat.le_of_ble_eq_true rfl) ?_
  intro p e s m below meth c A ls hAe C hl E
  rw [← hAe]
  obtain ⟨hx, hb, hr, hml, hown, hts, hlocks, hN, hA⟩ := id C
  have hl : lv_has ls 3 [(0, .ref (a 4)), (1, .int x1), (2, .int x2)] := hl
  have E : vE s A D (gT cI cJ cZ) (cW a cI cJ cZ vl hs isz igd iup idn osz ogd oup odn dep rsz lgd llf ldb ldy lsz lti pgd plf pun psz bgd bam bwt bsh brm bsz cab cbl tod imp dis owe itr) s.heap [] := E
  rw [f_X3_goodAt_i] at hf
  refine lv_aload_n hx hb dX3_goodAt_0 rfl (lv_at hl 0 rfl) ?_
  refine g_get C E 4 2 (fun _ h => List.mem_cons_of_mem _ (List.mem_append_right _ h)) rfl rfl (by decide) (List.mem_of_getElem? (i := 1) rfl) rfl rfl dX3_goodAt_1 ?_
  refine lv_iload_n hx hb dX3_goodAt_4 rfl (lv_at hl 1 rfl) ?_
  refine lv_iload_n hx hb dX3_goodAt_5 rfl (lv_at hl 2 rfl) ?_
  obtain ⟨o1, e2, hf⟩ := bd_some hf
  refine g_calli (w' := (cW a cI cJ cZ vl hs isz igd iup idn osz ogd oup odn dep rsz lgd llf ldb ldy lsz lti pgd plf pun psz bgd bam bwt bsh brm bsz cab cbl tod imp dis owe itr)) C E (g_runS (As := [.int x1, .int x2]) (rest := [.ref (a 6)]) C E (c_X3_place e2) (va_cwS 2 hts gX3_goodAt_X3_place rfl rfl rfl hd_X3_place ⟨Nat.le_of_ble_eq_true rfl, Nat.le_of_ble_eq_true rfl⟩) rfl hl.1 rfl (Nat.le_of_ble_eq_true rfl) dX3_goodAt_6 ⟨Nat.le_of_ble_eq_true rfl, Nat.le_of_ble_eq_true rfl⟩) (fun H locs E => ?_)
  obtain ⟨h3, hf⟩ := ck_some hf
  refine g_iald C E 6 rfl h3 dX3_goodAt_9 ?_
  obtain rfl := Option.some.inj hf
  exact g_iret C E dX3_goodAt_10
abbrev rm_X3_isTold_i : Room := { frames := 2, cells := 0, slots := 0, locals := 43 }
theorem hd_X3_isTold_i : yX3_isTold.cls ≠ "java/lang/invoke/MethodHandle" ∧ yX3_isTold.cls ≠ "java/lang/invoke/VarHandle" ∧ (parseMethodDescriptor yX3_isTold.desc).map (fun d => d.parameters.length) = some 2 := by decide +kernel
def f_X3_isTold_i_L2 (isz : Nat → Int32) (igd : Nat → Int32) (x1 : Int32) (x2 : Int32) : Nat → Int32 → Option (Int32)
  | 0, _ => none
  | n + 1, x3 =>
  ck x1 12 <|
  if (isz x1.toNatClampNeg) ≤ x3 then
    some ((0 : Int32))
  else
    (f_X3_goodAt_i igd x1 x3).bind fun o3 =>
    if o3 = x2 then
      some ((1 : Int32))
    else
      f_X3_isTold_i_L2 isz igd x1 x2 n (x3 + 1)
set_option maxHeartbeats 4000000 in
set_option maxRecDepth 100000 in
theorem w_X3_isTold_i_L2 {p : Program} {l : Launch} {e : Env} {s : State} {m : MethodId} {args : Array Value} {below : List Frame} {meth : Method} {c : Code} {A : Nat → Prop} {D : va_G} {cI cJ cZ : ClassId} {a : Nat → Nat} {vl : Nat → Int32} {hs : Nat → Int32} {isz : Nat → Int32} {igd : Nat → Int32} {iup : Nat → Int32} {idn : Nat → Int32} {osz : Nat → Int32} {ogd : Nat → Int32} {oup : Nat → Int32} {odn : Nat → Int32} {dep : Nat → Int32} {rsz : Int32} {lgd : Nat → Int32} {llf : Nat → Int64} {ldb : Nat → Int64} {ldy : Nat → Int32} {lsz : Int32} {lti : Int64} {pgd : Nat → Int32} {plf : Nat → Int64} {pun : Nat → Int32} {psz : Int32} {bgd : Nat → Int32} {bam : Nat → Int64} {bwt : Nat → Int64} {bsh : Nat → Int64} {brm : Nat → Int64} {bsz : Int32} {cab : Nat → Int64} {cbl : Nat → Int64} {tod : Int32} {imp : Int64} {dis : Int64} {owe : Int64} {itr : Int64} (C : gC p s m args meth c cX3_isTold 4 (some .boolean) wsX3_isTold RX3 A) {x1 : Int32} {x2 : Int32} {o : Int32} :
    ∀ (n : Nat) (x3 : Int32) (H : Heap) (locs : List Loc) (ls : Array Slot), vE s A D (gT cI cJ cZ) (cW a cI cJ cZ vl hs isz igd iup idn osz ogd oup odn dep rsz lgd llf ldb ldy lsz lti pgd plf pun psz bgd bam bwt bsh brm bsz cab cbl tod imp dis owe itr) H locs → lv_has ls 4 [(0, .ref (a 4)), (1, .int x1), (2, .int x2), (3, .int x3)] → f_X3_isTold_i_L2 isz igd x1 x2 n x3 = some o → W p l e rm_X3_isTold_i s m args below meth c H locs 0 0 (MQ below (gQi D (gT cI cJ cZ) A (cW a cI cJ cZ vl hs isz igd iup idn osz ogd oup odn dep rsz lgd llf ldb ldy lsz lti pgd plf pun psz bgd bam bwt bsh brm bsz cab cbl tod imp dis owe itr) o) args s 0 0 A) (F0 m 2 ls []) := by
  obtain ⟨hx, hb, hr, hml, hown, hts, hlocks, hN, hA⟩ := id C
  intro n
  induction n with
  | zero =>
    intro x3 H locs ls E hl hf
    rw [f_X3_isTold_i_L2] at hf
    cases hf
  | succ n ih =>
    intro x3 H locs ls E hl hf
    rw [f_X3_isTold_i_L2] at hf
    refine lv_iload_n hx hb dX3_isTold_2 rfl (lv_at hl 3 rfl) ?_
    refine lv_aload_n hx hb dX3_isTold_3 rfl (lv_at hl 0 rfl) ?_
    refine g_get C E 4 1 (fun _ h => List.mem_cons_of_mem _ (List.mem_append_right _ h)) rfl rfl (by decide) (List.mem_of_getElem? (i := 1) rfl) rfl rfl dX3_isTold_4 ?_
    refine lv_iload_n hx hb dX3_isTold_7 rfl (lv_at hl 1 rfl) ?_
    obtain ⟨h1, hf⟩ := ck_some hf
    refine g_iald C E 5 rfl h1 dX3_isTold_8 ?_
    refine lv_icmp_ge (tgt := 30) hx hb dX3_isTold_9 (by decide) (fun c2 => ?_) (fun c2 => ?_)
    · rw [if_pos c2] at hf
      refine lv_iconst (v := 0) hx hb dX3_isTold_30 (by decide) ?_
      obtain rfl := Option.some.inj hf
      exact g_zret (r := 0) C E rfl dX3_isTold_31
    · rw [if_neg c2] at hf
      refine lv_aload_n hx hb dX3_isTold_12 rfl (lv_at hl 0 rfl) ?_
      refine lv_iload_n hx hb dX3_isTold_13 rfl (lv_at hl 1 rfl) ?_
      refine lv_iload_n hx hb dX3_isTold_14 rfl (lv_at hl 3 rfl) ?_
      obtain ⟨o3, e4, hf⟩ := bd_some hf
      refine g_calli (w' := (cW a cI cJ cZ vl hs isz igd iup idn osz ogd oup odn dep rsz lgd llf ldb ldy lsz lti pgd plf pun psz bgd bam bwt bsh brm bsz cab cbl tod imp dis owe itr)) C E (g_runV (As := [.int x1, .int x3]) (rest := []) C E (c_X3_goodAt_i e4) (cwV 2 hts gX3_isTold_X3_goodAt rfl rfl rfl ⟨rfl, hd_X3_goodAt_i⟩ ⟨Nat.le_of_ble_eq_true rfl, Nat.le_of_ble_eq_true rfl⟩) (q0 := 4) (ci := 3) rfl rfl rfl rfl hl.1 rfl (Nat.le_of_ble_eq_true rfl) dX3_isTold_15 ⟨Nat.le_of_ble_eq_true rfl, Nat.le_of_ble_eq_true rfl⟩) (fun H locs E => ?_)
      refine lv_iload_n hx hb dX3_isTold_18 rfl (lv_at hl 2 rfl) ?_
      refine lv_icmp_ne (tgt := 24) hx hb dX3_isTold_19 (by decide) (fun c5 => ?_) (fun c5 => ?_)
      · rw [if_neg c5] at hf
        refine lv_iinc (v := (x3 + 1)) (lv' := [(3, .int (x3 + 1)), (0, .ref (a 4)), (1, .int x1), (2, .int x2)]) hx hb dX3_isTold_24 hl (k := 3) rfl rfl (by decide) rfl (fun ls hl => ?_)
        refine lv_goto (tgt := 2) hx hb dX3_isTold_27 (by decide) ?_
        exact ih (x3 + 1) _ _ _ E (lv_sub hl [1, 2, 3, 0] rfl) hf
      · rw [if_pos c5] at hf
        refine lv_iconst (v := 1) hx hb dX3_isTold_22 (by decide) ?_
        obtain rfl := Option.some.inj hf
        exact g_zret (r := 1) C E rfl dX3_isTold_23
def f_X3_isTold_i (isz : Nat → Int32) (igd : Nat → Int32) (x1 : Int32) (x2 : Int32) : Option (Int32) :=
  f_X3_isTold_i_L2 isz igd x1 x2 FU (0 : Int32)
set_option maxHeartbeats 4000000 in
set_option maxRecDepth 100000 in
theorem c_X3_isTold_i {l : Launch} {D : va_G} {cI cJ cZ : ClassId} {a : Nat → Nat} {sz : Nat} {vl : Nat → Int32} {hs : Nat → Int32} {isz : Nat → Int32} {igd : Nat → Int32} {iup : Nat → Int32} {idn : Nat → Int32} {osz : Nat → Int32} {ogd : Nat → Int32} {oup : Nat → Int32} {odn : Nat → Int32} {dep : Nat → Int32} {rsz : Int32} {lgd : Nat → Int32} {llf : Nat → Int64} {ldb : Nat → Int64} {ldy : Nat → Int32} {lsz : Int32} {lti : Int64} {pgd : Nat → Int32} {plf : Nat → Int64} {pun : Nat → Int32} {psz : Int32} {bgd : Nat → Int32} {bam : Nat → Int64} {bwt : Nat → Int64} {bsh : Nat → Int64} {brm : Nat → Int64} {bsz : Int32} {cab : Nat → Int64} {cbl : Nat → Int64} {tod : Int32} {imp : Int64} {dis : Int64} {owe : Int64} {itr : Int64} {x1 : Int32} {x2 : Int32} {o : Int32} (hf : f_X3_isTold_i isz igd x1 x2 = some o) : gMi l yX3_isTold wsX3_isTold rm_X3_isTold_i D (gT cI cJ cZ) (cW a cI cJ cZ vl hs isz igd iup idn osz ogd oup odn dep rsz lgd llf ldb ldy lsz lti pgd plf pun psz bgd bam bwt bsh brm bsz cab cbl tod imp dis owe itr) (cW a cI cJ cZ vl hs isz igd iup idn osz ogd oup odn dep rsz lgd llf ldb ldy lsz lti pgd plf pun psz bgd bam bwt bsh brm bsz cab cbl tod imp dis owe itr) sz [.ref (a 4), .int x1, .int x2] o := by
  refine g_of (cc := cX3_isTold) (maxL := 4) (ret := (some .boolean)) (by decide) rfl (Nat.le_of_ble_eq_true rfl) ?_
  intro p e s m below meth c A ls hAe C hl E
  rw [← hAe]
  obtain ⟨hx, hb, hr, hml, hown, hts, hlocks, hN, hA⟩ := id C
  have hl : lv_has ls 4 [(0, .ref (a 4)), (1, .int x1), (2, .int x2)] := hl
  have E : vE s A D (gT cI cJ cZ) (cW a cI cJ cZ vl hs isz igd iup idn osz ogd oup odn dep rsz lgd llf ldb ldy lsz lti pgd plf pun psz bgd bam bwt bsh brm bsz cab cbl tod imp dis owe itr) s.heap [] := E
  rw [f_X3_isTold_i] at hf
  refine lv_iconst (v := 0) hx hb dX3_isTold_0 (by decide) ?_
  refine lv_istore_n (lv' := [(3, .int (0 : Int32)), (0, .ref (a 4)), (1, .int x1), (2, .int x2)]) hx hb dX3_isTold_1 rfl hl (by decide) rfl (fun ls hl => ?_)
  exact w_X3_isTold_i_L2 C  FU (0 : Int32) _ _ _ E (lv_sub hl [1, 2, 3, 0] rfl) hf
abbrev rm_X3_add_i : Room := { frames := 3, cells := 0, slots := 0, locals := 66 }
theorem hd_X3_add_i : yX3_add.cls ≠ "java/lang/invoke/MethodHandle" ∧ yX3_add.cls ≠ "java/lang/invoke/VarHandle" ∧ (parseMethodDescriptor yX3_add.desc).map (fun d => d.parameters.length) = some 4 := by decide +kernel
def f_X3_add_i (isz : Nat → Int32) (igd : Nat → Int32) (iup : Nat → Int32) (idn : Nat → Int32) (x1 : Int32) (x2 : Int32) (x3 : Int32) (x4 : Int32) : Option (Int32 × (Nat → Int32) × (Nat → Int32) × (Nat → Int32) × (Nat → Int32)) :=
  if x1 = x2 then
    some ((0 : Int32), isz, igd, iup, idn)
  else
    ck x1 12 <|
    if (4 : Int32) ≤ (isz x1.toNatClampNeg) then
      some ((0 : Int32), isz, igd, iup, idn)
    else
      (f_X3_isTold_i isz igd x1 x2).bind fun o4 =>
      if o4 = 0 then
        ck x1 12 <|
        (f_X3_place x1 (isz x1.toNatClampNeg)).bind fun o8 =>
        ck o8 48 <|
        ck o8 48 <|
        ck o8 48 <|
        ck x1 12 <|
        ck x1 12 <|
        some ((1 : Int32), (upd isz x1.toNatClampNeg ((isz x1.toNatClampNeg) + (1 : Int32))), (upd igd o8.toNatClampNeg x2), (upd iup o8.toNatClampNeg x3), (upd idn o8.toNatClampNeg x4))
      else
        some ((0 : Int32), isz, igd, iup, idn)
set_option maxHeartbeats 4000000 in
set_option maxRecDepth 100000 in
theorem c_X3_add_i {l : Launch} {D : va_G} {cI cJ cZ : ClassId} {a : Nat → Nat} {sz : Nat} {vl : Nat → Int32} {hs : Nat → Int32} {isz : Nat → Int32} {igd : Nat → Int32} {iup : Nat → Int32} {idn : Nat → Int32} {osz : Nat → Int32} {ogd : Nat → Int32} {oup : Nat → Int32} {odn : Nat → Int32} {dep : Nat → Int32} {rsz : Int32} {lgd : Nat → Int32} {llf : Nat → Int64} {ldb : Nat → Int64} {ldy : Nat → Int32} {lsz : Int32} {lti : Int64} {pgd : Nat → Int32} {plf : Nat → Int64} {pun : Nat → Int32} {psz : Int32} {bgd : Nat → Int32} {bam : Nat → Int64} {bwt : Nat → Int64} {bsh : Nat → Int64} {brm : Nat → Int64} {bsz : Int32} {cab : Nat → Int64} {cbl : Nat → Int64} {tod : Int32} {imp : Int64} {dis : Int64} {owe : Int64} {itr : Int64} {x1 : Int32} {x2 : Int32} {x3 : Int32} {x4 : Int32} {o : Int32 × (Nat → Int32) × (Nat → Int32) × (Nat → Int32) × (Nat → Int32)} (hf : f_X3_add_i isz igd iup idn x1 x2 x3 x4 = some o) : gMi l yX3_add wsX3_add rm_X3_add_i D (gT cI cJ cZ) (cW a cI cJ cZ vl hs isz igd iup idn osz ogd oup odn dep rsz lgd llf ldb ldy lsz lti pgd plf pun psz bgd bam bwt bsh brm bsz cab cbl tod imp dis owe itr) (cW a cI cJ cZ vl hs o.2.1 o.2.2.1 o.2.2.2.1 o.2.2.2.2 osz ogd oup odn dep rsz lgd llf ldb ldy lsz lti pgd plf pun psz bgd bam bwt bsh brm bsz cab cbl tod imp dis owe itr) sz [.ref (a 4), .int x1, .int x2, .int x3, .int x4] o.1 := by
  refine g_of (cc := cX3_add) (maxL := 6) (ret := (some .boolean)) (by decide) rfl (Nat.le_of_ble_eq_true rfl) ?_
  intro p e s m below meth c A ls hAe C hl E
  rw [← hAe]
  obtain ⟨hx, hb, hr, hml, hown, hts, hlocks, hN, hA⟩ := id C
  have hl : lv_has ls 6 [(0, .ref (a 4)), (1, .int x1), (2, .int x2), (3, .int x3), (4, .int x4)] := hl
  have E : vE s A D (gT cI cJ cZ) (cW a cI cJ cZ vl hs isz igd iup idn osz ogd oup odn dep rsz lgd llf ldb ldy lsz lti pgd plf pun psz bgd bam bwt bsh brm bsz cab cbl tod imp dis owe itr) s.heap [] := E
  rw [f_X3_add_i] at hf
  refine lv_iload_n hx hb dX3_add_0 rfl (lv_at hl 1 rfl) ?_
  refine lv_iload_n hx hb dX3_add_1 rfl (lv_at hl 2 rfl) ?_
  refine lv_icmp_eq (tgt := 27) hx hb dX3_add_2 (by decide) (fun c1 => ?_) (fun c1 => ?_)
  · rw [if_pos c1] at hf
    refine lv_iconst (v := 0) hx hb dX3_add_27 (by decide) ?_
    obtain rfl := Option.some.inj hf
    exact g_zret (r := 0) C E rfl dX3_add_28
  · rw [if_neg c1] at hf
    refine lv_aload_n hx hb dX3_add_5 rfl (lv_at hl 0 rfl) ?_
    refine g_get C E 4 1 (fun _ h => List.mem_cons_of_mem _ (List.mem_append_right _ h)) rfl rfl (by decide) (List.mem_of_getElem? (i := 1) rfl) rfl rfl dX3_add_6 ?_
    refine lv_iload_n hx hb dX3_add_9 rfl (lv_at hl 1 rfl) ?_
    obtain ⟨h2, hf⟩ := ck_some hf
    refine g_iald C E 5 rfl h2 dX3_add_10 ?_
    refine lv_aload_n hx hb dX3_add_11 rfl (lv_at hl 0 rfl) ?_
    refine g_get C E 4 0 (fun _ h => List.mem_cons_of_mem _ (List.mem_append_right _ h)) rfl rfl (by decide) (List.mem_of_getElem? (i := 2) rfl) rfl rfl dX3_add_12 ?_
    refine lv_icmp_ge (tgt := 27) hx hb dX3_add_15 (by decide) (fun c3 => ?_) (fun c3 => ?_)
    · rw [if_pos c3] at hf
      refine lv_iconst (v := 0) hx hb dX3_add_27 (by decide) ?_
      obtain rfl := Option.some.inj hf
      exact g_zret (r := 0) C E rfl dX3_add_28
    · rw [if_neg c3] at hf
      refine lv_aload_n hx hb dX3_add_18 rfl (lv_at hl 0 rfl) ?_
      refine lv_iload_n hx hb dX3_add_19 rfl (lv_at hl 1 rfl) ?_
      refine lv_iload_n hx hb dX3_add_20 rfl (lv_at hl 2 rfl) ?_
      obtain ⟨o4, e5, hf⟩ := bd_some hf
      refine g_calli (w' := (cW a cI cJ cZ vl hs isz igd iup idn osz ogd oup odn dep rsz lgd llf ldb ldy lsz lti pgd plf pun psz bgd bam bwt bsh brm bsz cab cbl tod imp dis owe itr)) C E (g_runV (As := [.int x1, .int x2]) (rest := []) C E (c_X3_isTold_i e5) (cwV 2 hts gX3_add_X3_isTold rfl rfl rfl ⟨rfl, hd_X3_isTold_i⟩ ⟨Nat.le_of_ble_eq_true rfl, Nat.le_of_ble_eq_true rfl⟩) (q0 := 4) (ci := 3) rfl rfl rfl rfl hl.1 rfl (Nat.le_of_ble_eq_true rfl) dX3_add_21 ⟨Nat.le_of_ble_eq_true rfl, Nat.le_of_ble_eq_true rfl⟩) (fun H locs E => ?_)
      refine lv_if_eq (tgt := 29) hx hb dX3_add_24 (by decide) (fun c6 => ?_) (fun c6 => ?_)
      · rw [if_pos c6] at hf
        refine lv_iload_n hx hb dX3_add_29 rfl (lv_at hl 1 rfl) ?_
        refine lv_aload_n hx hb dX3_add_30 rfl (lv_at hl 0 rfl) ?_
        refine g_get C E 4 1 (fun _ h => List.mem_cons_of_mem _ (List.mem_append_right _ h)) rfl rfl (by decide) (List.mem_of_getElem? (i := 1) rfl) rfl rfl dX3_add_31 ?_
        refine lv_iload_n hx hb dX3_add_34 rfl (lv_at hl 1 rfl) ?_
        obtain ⟨h7, hf⟩ := ck_some hf
        refine g_iald C E 5 rfl h7 dX3_add_35 ?_
        obtain ⟨o8, e9, hf⟩ := bd_some hf
        refine g_calli (w' := (cW a cI cJ cZ vl hs isz igd iup idn osz ogd oup odn dep rsz lgd llf ldb ldy lsz lti pgd plf pun psz bgd bam bwt bsh brm bsz cab cbl tod imp dis owe itr)) C E (g_runS (As := [.int x1, .int (isz x1.toNatClampNeg)]) (rest := []) C E (c_X3_place e9) (va_cwS 2 hts gX3_add_X3_place rfl rfl rfl hd_X3_place ⟨Nat.le_of_ble_eq_true rfl, Nat.le_of_ble_eq_true rfl⟩) rfl hl.1 rfl (Nat.le_of_ble_eq_true rfl) dX3_add_36 ⟨Nat.le_of_ble_eq_true rfl, Nat.le_of_ble_eq_true rfl⟩) (fun H locs E => ?_)
        refine lv_istore (lv' := [(5, .int o8), (0, .ref (a 4)), (1, .int x1), (2, .int x2), (3, .int x3), (4, .int x4)]) hx hb dX3_add_39 hl (by decide) rfl (fun ls hl => ?_)
        refine lv_aload_n hx hb dX3_add_41 rfl (lv_at hl 1 rfl) ?_
        refine g_get C E 4 2 (fun _ h => List.mem_cons_of_mem _ (List.mem_append_right _ h)) rfl rfl (by decide) (List.mem_of_getElem? (i := 3) rfl) rfl rfl dX3_add_42 ?_
        refine lv_iload hx hb dX3_add_45 (lv_at hl 0 rfl) ?_
        refine lv_iload_n hx hb dX3_add_47 rfl (lv_at hl 3 rfl) ?_
        obtain ⟨h10, hf⟩ := ck_some hf
        refine g_iast (w' := (cW a cI cJ cZ vl hs isz (upd igd o8.toNatClampNeg x2) iup idn osz ogd oup odn dep rsz lgd llf ldb ldy lsz lti pgd plf pun psz bgd bam bwt bsh brm bsz cab cbl tod imp dis owe itr)) C E 6 rfl h10 dX3_add_48 rfl (fun H locs E => ?_)
        refine lv_aload_n hx hb dX3_add_49 rfl (lv_at hl 1 rfl) ?_
        refine g_get C E 4 3 (fun _ h => List.mem_cons_of_mem _ (List.mem_append_right _ h)) rfl rfl (by decide) (List.mem_of_getElem? (i := 4) rfl) rfl rfl dX3_add_50 ?_
        refine lv_iload hx hb dX3_add_53 (lv_at hl 0 rfl) ?_
        refine lv_iload_n hx hb dX3_add_55 rfl (lv_at hl 4 rfl) ?_
        obtain ⟨h11, hf⟩ := ck_some hf
        refine g_iast (w' := (cW a cI cJ cZ vl hs isz (upd igd o8.toNatClampNeg x2) (upd iup o8.toNatClampNeg x3) idn osz ogd oup odn dep rsz lgd llf ldb ldy lsz lti pgd plf pun psz bgd bam bwt bsh brm bsz cab cbl tod imp dis owe itr)) C E 7 rfl h11 dX3_add_56 rfl (fun H locs E => ?_)
        refine lv_aload_n hx hb dX3_add_57 rfl (lv_at hl 1 rfl) ?_
        refine g_get C E 4 4 (fun _ h => List.mem_cons_of_mem _ (List.mem_append_right _ h)) rfl rfl (by decide) (List.mem_of_getElem? (i := 5) rfl) rfl rfl dX3_add_58 ?_
        refine lv_iload hx hb dX3_add_61 (lv_at hl 0 rfl) ?_
        refine lv_iload hx hb dX3_add_63 (lv_at hl 5 rfl) ?_
        obtain ⟨h12, hf⟩ := ck_some hf
        refine g_iast (w' := (cW a cI cJ cZ vl hs isz (upd igd o8.toNatClampNeg x2) (upd iup o8.toNatClampNeg x3) (upd idn o8.toNatClampNeg x4) osz ogd oup odn dep rsz lgd llf ldb ldy lsz lti pgd plf pun psz bgd bam bwt bsh brm bsz cab cbl tod imp dis owe itr)) C E 8 rfl h12 dX3_add_65 rfl (fun H locs E => ?_)
        refine lv_aload_n hx hb dX3_add_66 rfl (lv_at hl 1 rfl) ?_
        refine g_get C E 4 1 (fun _ h => List.mem_cons_of_mem _ (List.mem_append_right _ h)) rfl rfl (by decide) (List.mem_of_getElem? (i := 1) rfl) rfl rfl dX3_add_67 ?_
        refine lv_iload_n hx hb dX3_add_70 rfl (lv_at hl 2 rfl) ?_
        refine lv_dup2_11 hx hb dX3_add_71 rfl rfl ?_
        obtain ⟨h13, hf⟩ := ck_some hf
        refine g_iald C E 5 rfl h13 dX3_add_72 ?_
        refine lv_iconst (v := 1) hx hb dX3_add_73 (by decide) ?_
        refine lv_iadd hx hb dX3_add_74 ?_
        obtain ⟨h14, hf⟩ := ck_some hf
        refine g_iast (w' := (cW a cI cJ cZ vl hs (upd isz x1.toNatClampNeg ((isz x1.toNatClampNeg) + (1 : Int32))) (upd igd o8.toNatClampNeg x2) (upd iup o8.toNatClampNeg x3) (upd idn o8.toNatClampNeg x4) osz ogd oup odn dep rsz lgd llf ldb ldy lsz lti pgd plf pun psz bgd bam bwt bsh brm bsz cab cbl tod imp dis owe itr)) C E 5 rfl h14 dX3_add_75 rfl (fun H locs E => ?_)
        refine lv_iconst (v := 1) hx hb dX3_add_76 (by decide) ?_
        obtain rfl := Option.some.inj hf
        exact g_zret (r := 1) C E rfl dX3_add_77
      · rw [if_neg c6] at hf
        refine lv_iconst (v := 0) hx hb dX3_add_27 (by decide) ?_
        obtain rfl := Option.some.inj hf
        exact g_zret (r := 0) C E rfl dX3_add_28
abbrev rm_X3_dropLast_i : Room := { frames := 0, cells := 0, slots := 0, locals := 0 }
theorem hd_X3_dropLast_i : yX3_dropLast.cls ≠ "java/lang/invoke/MethodHandle" ∧ yX3_dropLast.cls ≠ "java/lang/invoke/VarHandle" ∧ (parseMethodDescriptor yX3_dropLast.desc).map (fun d => d.parameters.length) = some 1 := by decide +kernel
def f_X3_dropLast_i (isz : Nat → Int32) (x1 : Int32) : Option ((Nat → Int32)) :=
  ck x1 12 <|
  if (isz x1.toNatClampNeg) ≤ 0 then
    some (isz)
  else
    ck x1 12 <|
    ck x1 12 <|
    some ((upd isz x1.toNatClampNeg ((isz x1.toNatClampNeg) - (1 : Int32))))
set_option maxHeartbeats 4000000 in
set_option maxRecDepth 100000 in
theorem c_X3_dropLast_i {l : Launch} {D : va_G} {cI cJ cZ : ClassId} {a : Nat → Nat} {sz : Nat} {vl : Nat → Int32} {hs : Nat → Int32} {isz : Nat → Int32} {igd : Nat → Int32} {iup : Nat → Int32} {idn : Nat → Int32} {osz : Nat → Int32} {ogd : Nat → Int32} {oup : Nat → Int32} {odn : Nat → Int32} {dep : Nat → Int32} {rsz : Int32} {lgd : Nat → Int32} {llf : Nat → Int64} {ldb : Nat → Int64} {ldy : Nat → Int32} {lsz : Int32} {lti : Int64} {pgd : Nat → Int32} {plf : Nat → Int64} {pun : Nat → Int32} {psz : Int32} {bgd : Nat → Int32} {bam : Nat → Int64} {bwt : Nat → Int64} {bsh : Nat → Int64} {brm : Nat → Int64} {bsz : Int32} {cab : Nat → Int64} {cbl : Nat → Int64} {tod : Int32} {imp : Int64} {dis : Int64} {owe : Int64} {itr : Int64} {x1 : Int32} {o : (Nat → Int32)} (hf : f_X3_dropLast_i isz x1 = some o) : gMv l yX3_dropLast wsX3_dropLast rm_X3_dropLast_i D (gT cI cJ cZ) (cW a cI cJ cZ vl hs isz igd iup idn osz ogd oup odn dep rsz lgd llf ldb ldy lsz lti pgd plf pun psz bgd bam bwt bsh brm bsz cab cbl tod imp dis owe itr) (cW a cI cJ cZ vl hs o igd iup idn osz ogd oup odn dep rsz lgd llf ldb ldy lsz lti pgd plf pun psz bgd bam bwt bsh brm bsz cab cbl tod imp dis owe itr) sz [.ref (a 4), .int x1] := by
  refine g_of (cc := cX3_dropLast) (maxL := 2) (ret := none) (by decide) rfl (Nat.le_of_ble_eq_true rfl) ?_
  intro p e s m below meth c A ls hAe C hl E
  rw [← hAe]
  obtain ⟨hx, hb, hr, hml, hown, hts, hlocks, hN, hA⟩ := id C
  have hl : lv_has ls 2 [(0, .ref (a 4)), (1, .int x1)] := hl
  have E : vE s A D (gT cI cJ cZ) (cW a cI cJ cZ vl hs isz igd iup idn osz ogd oup odn dep rsz lgd llf ldb ldy lsz lti pgd plf pun psz bgd bam bwt bsh brm bsz cab cbl tod imp dis owe itr) s.heap [] := E
  rw [f_X3_dropLast_i] at hf
  refine lv_aload_n hx hb dX3_dropLast_0 rfl (lv_at hl 0 rfl) ?_
  refine g_get C E 4 1 (fun _ h => List.mem_cons_of_mem _ (List.mem_append_right _ h)) rfl rfl (by decide) (List.mem_of_getElem? (i := 1) rfl) rfl rfl dX3_dropLast_1 ?_
  refine lv_iload_n hx hb dX3_dropLast_4 rfl (lv_at hl 1 rfl) ?_
  obtain ⟨h1, hf⟩ := ck_some hf
  refine g_iald C E 5 rfl h1 dX3_dropLast_5 ?_
  refine lv_if_le (tgt := 19) hx hb dX3_dropLast_6 (by decide) (fun c2 => ?_) (fun c2 => ?_)
  · rw [if_pos c2] at hf
    obtain rfl := Option.some.inj hf
    exact g_vret C E dX3_dropLast_19
  · rw [if_neg c2] at hf
    refine lv_aload_n hx hb dX3_dropLast_9 rfl (lv_at hl 0 rfl) ?_
    refine g_get C E 4 1 (fun _ h => List.mem_cons_of_mem _ (List.mem_append_right _ h)) rfl rfl (by decide) (List.mem_of_getElem? (i := 1) rfl) rfl rfl dX3_dropLast_10 ?_
    refine lv_iload_n hx hb dX3_dropLast_13 rfl (lv_at hl 1 rfl) ?_
    refine lv_dup2_11 hx hb dX3_dropLast_14 rfl rfl ?_
    obtain ⟨h3, hf⟩ := ck_some hf
    refine g_iald C E 5 rfl h3 dX3_dropLast_15 ?_
    refine lv_iconst (v := 1) hx hb dX3_dropLast_16 (by decide) ?_
    refine lv_isub hx hb dX3_dropLast_17 ?_
    obtain ⟨h4, hf⟩ := ck_some hf
    refine g_iast (w' := (cW a cI cJ cZ vl hs (upd isz x1.toNatClampNeg ((isz x1.toNatClampNeg) - (1 : Int32))) igd iup idn osz ogd oup odn dep rsz lgd llf ldb ldy lsz lti pgd plf pun psz bgd bam bwt bsh brm bsz cab cbl tod imp dis owe itr)) C E 5 rfl h4 dX3_dropLast_18 rfl (fun H locs E => ?_)
    obtain rfl := Option.some.inj hf
    exact g_vret C E dX3_dropLast_19
abbrev rm_X3_roundedUp_i : Room := { frames := 2, cells := 0, slots := 0, locals := 46 }
theorem hd_X3_roundedUp_i : yX3_roundedUp.cls ≠ "java/lang/invoke/MethodHandle" ∧ yX3_roundedUp.cls ≠ "java/lang/invoke/VarHandle" ∧ (parseMethodDescriptor yX3_roundedUp.desc).map (fun d => d.parameters.length) = some 3 := by decide +kernel
def f_X3_roundedUp_i (iup : Nat → Int32) (idn : Nat → Int32) (x1 : Int32) (x2 : Int32) (x3 : Int32) : Option (Int64) :=
  (f_X3_place x1 x2).bind fun o1 =>
  ck o1 48 <|
  ck o1 48 <|
  (f_X6_ceilOf (x3.toInt64 * (iup o1.toNatClampNeg).toInt64) ((idn o1.toNatClampNeg).toInt64)).bind fun o5 =>
  some (o5)
set_option maxHeartbeats 4000000 in
set_option maxRecDepth 100000 in
theorem c_X3_roundedUp_i {l : Launch} {D : va_G} {cI cJ cZ : ClassId} {a : Nat → Nat} {sz : Nat} {vl : Nat → Int32} {hs : Nat → Int32} {isz : Nat → Int32} {igd : Nat → Int32} {iup : Nat → Int32} {idn : Nat → Int32} {osz : Nat → Int32} {ogd : Nat → Int32} {oup : Nat → Int32} {odn : Nat → Int32} {dep : Nat → Int32} {rsz : Int32} {lgd : Nat → Int32} {llf : Nat → Int64} {ldb : Nat → Int64} {ldy : Nat → Int32} {lsz : Int32} {lti : Int64} {pgd : Nat → Int32} {plf : Nat → Int64} {pun : Nat → Int32} {psz : Int32} {bgd : Nat → Int32} {bam : Nat → Int64} {bwt : Nat → Int64} {bsh : Nat → Int64} {brm : Nat → Int64} {bsz : Int32} {cab : Nat → Int64} {cbl : Nat → Int64} {tod : Int32} {imp : Int64} {dis : Int64} {owe : Int64} {itr : Int64} {x1 : Int32} {x2 : Int32} {x3 : Int32} {o : Int64} (hf : f_X3_roundedUp_i iup idn x1 x2 x3 = some o) : gMl l yX3_roundedUp wsX3_roundedUp rm_X3_roundedUp_i D (gT cI cJ cZ) (cW a cI cJ cZ vl hs isz igd iup idn osz ogd oup odn dep rsz lgd llf ldb ldy lsz lti pgd plf pun psz bgd bam bwt bsh brm bsz cab cbl tod imp dis owe itr) (cW a cI cJ cZ vl hs isz igd iup idn osz ogd oup odn dep rsz lgd llf ldb ldy lsz lti pgd plf pun psz bgd bam bwt bsh brm bsz cab cbl tod imp dis owe itr) sz [.ref (a 4), .int x1, .int x2, .int x3] o := by
  refine g_of (cc := cX3_roundedUp) (maxL := 5) (ret := (some .long)) (by decide) rfl (Nat.le_of_ble_eq_true rfl) ?_
  intro p e s m below meth c A ls hAe C hl E
  rw [← hAe]
  obtain ⟨hx, hb, hr, hml, hown, hts, hlocks, hN, hA⟩ := id C
  have hl : lv_has ls 5 [(0, .ref (a 4)), (1, .int x1), (2, .int x2), (3, .int x3)] := hl
  have E : vE s A D (gT cI cJ cZ) (cW a cI cJ cZ vl hs isz igd iup idn osz ogd oup odn dep rsz lgd llf ldb ldy lsz lti pgd plf pun psz bgd bam bwt bsh brm bsz cab cbl tod imp dis owe itr) s.heap [] := E
  rw [f_X3_roundedUp_i] at hf
  refine lv_iload_n hx hb dX3_roundedUp_0 rfl (lv_at hl 1 rfl) ?_
  refine lv_iload_n hx hb dX3_roundedUp_1 rfl (lv_at hl 2 rfl) ?_
  obtain ⟨o1, e2, hf⟩ := bd_some hf
  refine g_calli (w' := (cW a cI cJ cZ vl hs isz igd iup idn osz ogd oup odn dep rsz lgd llf ldb ldy lsz lti pgd plf pun psz bgd bam bwt bsh brm bsz cab cbl tod imp dis owe itr)) C E (g_runS (As := [.int x1, .int x2]) (rest := []) C E (c_X3_place e2) (va_cwS 2 hts gX3_roundedUp_X3_place rfl rfl rfl hd_X3_place ⟨Nat.le_of_ble_eq_true rfl, Nat.le_of_ble_eq_true rfl⟩) rfl hl.1 rfl (Nat.le_of_ble_eq_true rfl) dX3_roundedUp_2 ⟨Nat.le_of_ble_eq_true rfl, Nat.le_of_ble_eq_true rfl⟩) (fun H locs E => ?_)
  refine lv_istore (lv' := [(4, .int o1), (0, .ref (a 4)), (1, .int x1), (2, .int x2), (3, .int x3)]) hx hb dX3_roundedUp_5 hl (by decide) rfl (fun ls hl => ?_)
  refine lv_iload_n hx hb dX3_roundedUp_7 rfl (lv_at hl 4 rfl) ?_
  refine lv_i2l hx hb dX3_roundedUp_8 rfl ?_
  refine lv_aload_n hx hb dX3_roundedUp_9 rfl (lv_at hl 1 rfl) ?_
  refine g_get C E 4 3 (fun _ h => List.mem_cons_of_mem _ (List.mem_append_right _ h)) rfl rfl (by decide) (List.mem_of_getElem? (i := 1) rfl) rfl rfl dX3_roundedUp_10 ?_
  refine lv_iload hx hb dX3_roundedUp_13 (lv_at hl 0 rfl) ?_
  obtain ⟨h3, hf⟩ := ck_some hf
  refine g_iald C E 7 rfl h3 dX3_roundedUp_15 ?_
  refine lv_i2l hx hb dX3_roundedUp_16 rfl ?_
  refine lv_lmul hx hb dX3_roundedUp_17 ?_
  refine lv_aload_n hx hb dX3_roundedUp_18 rfl (lv_at hl 1 rfl) ?_
  refine g_get C E 4 4 (fun _ h => List.mem_cons_of_mem _ (List.mem_append_right _ h)) rfl rfl (by decide) (List.mem_of_getElem? (i := 2) rfl) rfl rfl dX3_roundedUp_19 ?_
  refine lv_iload hx hb dX3_roundedUp_22 (lv_at hl 0 rfl) ?_
  obtain ⟨h4, hf⟩ := ck_some hf
  refine g_iald C E 8 rfl h4 dX3_roundedUp_24 ?_
  refine lv_i2l hx hb dX3_roundedUp_25 rfl ?_
  obtain ⟨o5, e6, hf⟩ := bd_some hf
  refine g_calll (w' := (cW a cI cJ cZ vl hs isz igd iup idn osz ogd oup odn dep rsz lgd llf ldb ldy lsz lti pgd plf pun psz bgd bam bwt bsh brm bsz cab cbl tod imp dis owe itr)) C E (g_runSN (As := [.long (x3.toInt64 * (iup o1.toNatClampNeg).toInt64), .long ((idn o1.toNatClampNeg).toInt64)]) (rest := []) C E (c_X6_ceilOf e6) ⟨va_cnB 2 hts gX3_roundedUp_X6_ceilOf_n44 rfl rfl rfl (hN.1 _ (List.mem_of_getElem? (i := 10) rfl)) (hts (.initialized RX6) (List.mem_of_getElem? (i := 8) rfl)) hd_X6_ceilOf ⟨Nat.le_of_ble_eq_true rfl, Nat.le_of_ble_eq_true rfl⟩, hts (.static yX6_ceilOf) (List.mem_of_getElem? (i := 7) rfl), trivial⟩ rfl hl.1 rfl (Nat.le_of_ble_eq_true rfl) dX3_roundedUp_26 ⟨Nat.le_of_ble_eq_true rfl, Nat.le_of_ble_eq_true rfl⟩) (fun H locs E => ?_)
  obtain rfl := Option.some.inj hf
  exact g_lret C E dX3_roundedUp_29
abbrev rm_X3_goodAt_o : Room := { frames := 1, cells := 0, slots := 0, locals := 21 }
theorem hd_X3_goodAt_o : yX3_goodAt.cls ≠ "java/lang/invoke/MethodHandle" ∧ yX3_goodAt.cls ≠ "java/lang/invoke/VarHandle" ∧ (parseMethodDescriptor yX3_goodAt.desc).map (fun d => d.parameters.length) = some 2 := by decide +kernel
def f_X3_goodAt_o (ogd : Nat → Int32) (x1 : Int32) (x2 : Int32) : Option (Int32) :=
  (f_X3_place x1 x2).bind fun o1 =>
  ck o1 48 <|
  some ((ogd o1.toNatClampNeg))
set_option maxHeartbeats 4000000 in
set_option maxRecDepth 100000 in
theorem c_X3_goodAt_o {l : Launch} {D : va_G} {cI cJ cZ : ClassId} {a : Nat → Nat} {sz : Nat} {vl : Nat → Int32} {hs : Nat → Int32} {isz : Nat → Int32} {igd : Nat → Int32} {iup : Nat → Int32} {idn : Nat → Int32} {osz : Nat → Int32} {ogd : Nat → Int32} {oup : Nat → Int32} {odn : Nat → Int32} {dep : Nat → Int32} {rsz : Int32} {lgd : Nat → Int32} {llf : Nat → Int64} {ldb : Nat → Int64} {ldy : Nat → Int32} {lsz : Int32} {lti : Int64} {pgd : Nat → Int32} {plf : Nat → Int64} {pun : Nat → Int32} {psz : Int32} {bgd : Nat → Int32} {bam : Nat → Int64} {bwt : Nat → Int64} {bsh : Nat → Int64} {brm : Nat → Int64} {bsz : Int32} {cab : Nat → Int64} {cbl : Nat → Int64} {tod : Int32} {imp : Int64} {dis : Int64} {owe : Int64} {itr : Int64} {x1 : Int32} {x2 : Int32} {o : Int32} (hf : f_X3_goodAt_o ogd x1 x2 = some o) : gMi l yX3_goodAt wsX3_goodAt rm_X3_goodAt_o D (gT cI cJ cZ) (cW a cI cJ cZ vl hs isz igd iup idn osz ogd oup odn dep rsz lgd llf ldb ldy lsz lti pgd plf pun psz bgd bam bwt bsh brm bsz cab cbl tod imp dis owe itr) (cW a cI cJ cZ vl hs isz igd iup idn osz ogd oup odn dep rsz lgd llf ldb ldy lsz lti pgd plf pun psz bgd bam bwt bsh brm bsz cab cbl tod imp dis owe itr) sz [.ref (a 9), .int x1, .int x2] o := by
  refine g_of (cc := cX3_goodAt) (maxL := 3) (ret := (some .int)) (by decide) rfl (Nat.le_of_ble_eq_true rfl) ?_
  intro p e s m below meth c A ls hAe C hl E
  rw [← hAe]
  obtain ⟨hx, hb, hr, hml, hown, hts, hlocks, hN, hA⟩ := id C
  have hl : lv_has ls 3 [(0, .ref (a 9)), (1, .int x1), (2, .int x2)] := hl
  have E : vE s A D (gT cI cJ cZ) (cW a cI cJ cZ vl hs isz igd iup idn osz ogd oup odn dep rsz lgd llf ldb ldy lsz lti pgd plf pun psz bgd bam bwt bsh brm bsz cab cbl tod imp dis owe itr) s.heap [] := E
  rw [f_X3_goodAt_o] at hf
  refine lv_aload_n hx hb dX3_goodAt_0 rfl (lv_at hl 0 rfl) ?_
  refine g_get C E 9 2 (fun _ h => List.mem_cons_of_mem _ (List.mem_append_right _ h)) rfl rfl (by decide) (List.mem_of_getElem? (i := 1) rfl) rfl rfl dX3_goodAt_1 ?_
  refine lv_iload_n hx hb dX3_goodAt_4 rfl (lv_at hl 1 rfl) ?_
  refine lv_iload_n hx hb dX3_goodAt_5 rfl (lv_at hl 2 rfl) ?_
  obtain ⟨o1, e2, hf⟩ := bd_some hf
  refine g_calli (w' := (cW a cI cJ cZ vl hs isz igd iup idn osz ogd oup odn dep rsz lgd llf ldb ldy lsz lti pgd plf pun psz bgd bam bwt bsh brm bsz cab cbl tod imp dis owe itr)) C E (g_runS (As := [.int x1, .int x2]) (rest := [.ref (a 11)]) C E (c_X3_place e2) (va_cwS 2 hts gX3_goodAt_X3_place rfl rfl rfl hd_X3_place ⟨Nat.le_of_ble_eq_true rfl, Nat.le_of_ble_eq_true rfl⟩) rfl hl.1 rfl (Nat.le_of_ble_eq_true rfl) dX3_goodAt_6 ⟨Nat.le_of_ble_eq_true rfl, Nat.le_of_ble_eq_true rfl⟩) (fun H locs E => ?_)
  obtain ⟨h3, hf⟩ := ck_some hf
  refine g_iald C E 11 rfl h3 dX3_goodAt_9 ?_
  obtain rfl := Option.some.inj hf
  exact g_iret C E dX3_goodAt_10
abbrev rm_X3_isTold_o : Room := { frames := 2, cells := 0, slots := 0, locals := 43 }
theorem hd_X3_isTold_o : yX3_isTold.cls ≠ "java/lang/invoke/MethodHandle" ∧ yX3_isTold.cls ≠ "java/lang/invoke/VarHandle" ∧ (parseMethodDescriptor yX3_isTold.desc).map (fun d => d.parameters.length) = some 2 := by decide +kernel
def f_X3_isTold_o_L2 (osz : Nat → Int32) (ogd : Nat → Int32) (x1 : Int32) (x2 : Int32) : Nat → Int32 → Option (Int32)
  | 0, _ => none
  | n + 1, x3 =>
  ck x1 12 <|
  if (osz x1.toNatClampNeg) ≤ x3 then
    some ((0 : Int32))
  else
    (f_X3_goodAt_o ogd x1 x3).bind fun o3 =>
    if o3 = x2 then
      some ((1 : Int32))
    else
      f_X3_isTold_o_L2 osz ogd x1 x2 n (x3 + 1)
set_option maxHeartbeats 4000000 in
set_option maxRecDepth 100000 in
theorem w_X3_isTold_o_L2 {p : Program} {l : Launch} {e : Env} {s : State} {m : MethodId} {args : Array Value} {below : List Frame} {meth : Method} {c : Code} {A : Nat → Prop} {D : va_G} {cI cJ cZ : ClassId} {a : Nat → Nat} {vl : Nat → Int32} {hs : Nat → Int32} {isz : Nat → Int32} {igd : Nat → Int32} {iup : Nat → Int32} {idn : Nat → Int32} {osz : Nat → Int32} {ogd : Nat → Int32} {oup : Nat → Int32} {odn : Nat → Int32} {dep : Nat → Int32} {rsz : Int32} {lgd : Nat → Int32} {llf : Nat → Int64} {ldb : Nat → Int64} {ldy : Nat → Int32} {lsz : Int32} {lti : Int64} {pgd : Nat → Int32} {plf : Nat → Int64} {pun : Nat → Int32} {psz : Int32} {bgd : Nat → Int32} {bam : Nat → Int64} {bwt : Nat → Int64} {bsh : Nat → Int64} {brm : Nat → Int64} {bsz : Int32} {cab : Nat → Int64} {cbl : Nat → Int64} {tod : Int32} {imp : Int64} {dis : Int64} {owe : Int64} {itr : Int64} (C : gC p s m args meth c cX3_isTold 4 (some .boolean) wsX3_isTold RX3 A) {x1 : Int32} {x2 : Int32} {o : Int32} :
    ∀ (n : Nat) (x3 : Int32) (H : Heap) (locs : List Loc) (ls : Array Slot), vE s A D (gT cI cJ cZ) (cW a cI cJ cZ vl hs isz igd iup idn osz ogd oup odn dep rsz lgd llf ldb ldy lsz lti pgd plf pun psz bgd bam bwt bsh brm bsz cab cbl tod imp dis owe itr) H locs → lv_has ls 4 [(0, .ref (a 9)), (1, .int x1), (2, .int x2), (3, .int x3)] → f_X3_isTold_o_L2 osz ogd x1 x2 n x3 = some o → W p l e rm_X3_isTold_o s m args below meth c H locs 0 0 (MQ below (gQi D (gT cI cJ cZ) A (cW a cI cJ cZ vl hs isz igd iup idn osz ogd oup odn dep rsz lgd llf ldb ldy lsz lti pgd plf pun psz bgd bam bwt bsh brm bsz cab cbl tod imp dis owe itr) o) args s 0 0 A) (F0 m 2 ls []) := by
  obtain ⟨hx, hb, hr, hml, hown, hts, hlocks, hN, hA⟩ := id C
  intro n
  induction n with
  | zero =>
    intro x3 H locs ls E hl hf
    rw [f_X3_isTold_o_L2] at hf
    cases hf
  | succ n ih =>
    intro x3 H locs ls E hl hf
    rw [f_X3_isTold_o_L2] at hf
    refine lv_iload_n hx hb dX3_isTold_2 rfl (lv_at hl 3 rfl) ?_
    refine lv_aload_n hx hb dX3_isTold_3 rfl (lv_at hl 0 rfl) ?_
    refine g_get C E 9 1 (fun _ h => List.mem_cons_of_mem _ (List.mem_append_right _ h)) rfl rfl (by decide) (List.mem_of_getElem? (i := 1) rfl) rfl rfl dX3_isTold_4 ?_
    refine lv_iload_n hx hb dX3_isTold_7 rfl (lv_at hl 1 rfl) ?_
    obtain ⟨h1, hf⟩ := ck_some hf
    refine g_iald C E 10 rfl h1 dX3_isTold_8 ?_
    refine lv_icmp_ge (tgt := 30) hx hb dX3_isTold_9 (by decide) (fun c2 => ?_) (fun c2 => ?_)
    · rw [if_pos c2] at hf
      refine lv_iconst (v := 0) hx hb dX3_isTold_30 (by decide) ?_
      obtain rfl := Option.some.inj hf
      exact g_zret (r := 0) C E rfl dX3_isTold_31
    · rw [if_neg c2] at hf
      refine lv_aload_n hx hb dX3_isTold_12 rfl (lv_at hl 0 rfl) ?_
      refine lv_iload_n hx hb dX3_isTold_13 rfl (lv_at hl 1 rfl) ?_
      refine lv_iload_n hx hb dX3_isTold_14 rfl (lv_at hl 3 rfl) ?_
      obtain ⟨o3, e4, hf⟩ := bd_some hf
      refine g_calli (w' := (cW a cI cJ cZ vl hs isz igd iup idn osz ogd oup odn dep rsz lgd llf ldb ldy lsz lti pgd plf pun psz bgd bam bwt bsh brm bsz cab cbl tod imp dis owe itr)) C E (g_runV (As := [.int x1, .int x3]) (rest := []) C E (c_X3_goodAt_o e4) (cwV 2 hts gX3_isTold_X3_goodAt rfl rfl rfl ⟨rfl, hd_X3_goodAt_o⟩ ⟨Nat.le_of_ble_eq_true rfl, Nat.le_of_ble_eq_true rfl⟩) (q0 := 9) (ci := 3) rfl rfl rfl rfl hl.1 rfl (Nat.le_of_ble_eq_true rfl) dX3_isTold_15 ⟨Nat.le_of_ble_eq_true rfl, Nat.le_of_ble_eq_true rfl⟩) (fun H locs E => ?_)
      refine lv_iload_n hx hb dX3_isTold_18 rfl (lv_at hl 2 rfl) ?_
      refine lv_icmp_ne (tgt := 24) hx hb dX3_isTold_19 (by decide) (fun c5 => ?_) (fun c5 => ?_)
      · rw [if_neg c5] at hf
        refine lv_iinc (v := (x3 + 1)) (lv' := [(3, .int (x3 + 1)), (0, .ref (a 9)), (1, .int x1), (2, .int x2)]) hx hb dX3_isTold_24 hl (k := 3) rfl rfl (by decide) rfl (fun ls hl => ?_)
        refine lv_goto (tgt := 2) hx hb dX3_isTold_27 (by decide) ?_
        exact ih (x3 + 1) _ _ _ E (lv_sub hl [1, 2, 3, 0] rfl) hf
      · rw [if_pos c5] at hf
        refine lv_iconst (v := 1) hx hb dX3_isTold_22 (by decide) ?_
        obtain rfl := Option.some.inj hf
        exact g_zret (r := 1) C E rfl dX3_isTold_23
def f_X3_isTold_o (osz : Nat → Int32) (ogd : Nat → Int32) (x1 : Int32) (x2 : Int32) : Option (Int32) :=
  f_X3_isTold_o_L2 osz ogd x1 x2 FU (0 : Int32)
set_option maxHeartbeats 4000000 in
set_option maxRecDepth 100000 in
theorem c_X3_isTold_o {l : Launch} {D : va_G} {cI cJ cZ : ClassId} {a : Nat → Nat} {sz : Nat} {vl : Nat → Int32} {hs : Nat → Int32} {isz : Nat → Int32} {igd : Nat → Int32} {iup : Nat → Int32} {idn : Nat → Int32} {osz : Nat → Int32} {ogd : Nat → Int32} {oup : Nat → Int32} {odn : Nat → Int32} {dep : Nat → Int32} {rsz : Int32} {lgd : Nat → Int32} {llf : Nat → Int64} {ldb : Nat → Int64} {ldy : Nat → Int32} {lsz : Int32} {lti : Int64} {pgd : Nat → Int32} {plf : Nat → Int64} {pun : Nat → Int32} {psz : Int32} {bgd : Nat → Int32} {bam : Nat → Int64} {bwt : Nat → Int64} {bsh : Nat → Int64} {brm : Nat → Int64} {bsz : Int32} {cab : Nat → Int64} {cbl : Nat → Int64} {tod : Int32} {imp : Int64} {dis : Int64} {owe : Int64} {itr : Int64} {x1 : Int32} {x2 : Int32} {o : Int32} (hf : f_X3_isTold_o osz ogd x1 x2 = some o) : gMi l yX3_isTold wsX3_isTold rm_X3_isTold_o D (gT cI cJ cZ) (cW a cI cJ cZ vl hs isz igd iup idn osz ogd oup odn dep rsz lgd llf ldb ldy lsz lti pgd plf pun psz bgd bam bwt bsh brm bsz cab cbl tod imp dis owe itr) (cW a cI cJ cZ vl hs isz igd iup idn osz ogd oup odn dep rsz lgd llf ldb ldy lsz lti pgd plf pun psz bgd bam bwt bsh brm bsz cab cbl tod imp dis owe itr) sz [.ref (a 9), .int x1, .int x2] o := by
  refine g_of (cc := cX3_isTold) (maxL := 4) (ret := (some .boolean)) (by decide) rfl (Nat.le_of_ble_eq_true rfl) ?_
  intro p e s m below meth c A ls hAe C hl E
  rw [← hAe]
  obtain ⟨hx, hb, hr, hml, hown, hts, hlocks, hN, hA⟩ := id C
  have hl : lv_has ls 4 [(0, .ref (a 9)), (1, .int x1), (2, .int x2)] := hl
  have E : vE s A D (gT cI cJ cZ) (cW a cI cJ cZ vl hs isz igd iup idn osz ogd oup odn dep rsz lgd llf ldb ldy lsz lti pgd plf pun psz bgd bam bwt bsh brm bsz cab cbl tod imp dis owe itr) s.heap [] := E
  rw [f_X3_isTold_o] at hf
  refine lv_iconst (v := 0) hx hb dX3_isTold_0 (by decide) ?_
  refine lv_istore_n (lv' := [(3, .int (0 : Int32)), (0, .ref (a 9)), (1, .int x1), (2, .int x2)]) hx hb dX3_isTold_1 rfl hl (by decide) rfl (fun ls hl => ?_)
  exact w_X3_isTold_o_L2 C  FU (0 : Int32) _ _ _ E (lv_sub hl [1, 2, 3, 0] rfl) hf
abbrev rm_X3_add_o : Room := { frames := 3, cells := 0, slots := 0, locals := 66 }
theorem hd_X3_add_o : yX3_add.cls ≠ "java/lang/invoke/MethodHandle" ∧ yX3_add.cls ≠ "java/lang/invoke/VarHandle" ∧ (parseMethodDescriptor yX3_add.desc).map (fun d => d.parameters.length) = some 4 := by decide +kernel
def f_X3_add_o (osz : Nat → Int32) (ogd : Nat → Int32) (oup : Nat → Int32) (odn : Nat → Int32) (x1 : Int32) (x2 : Int32) (x3 : Int32) (x4 : Int32) : Option (Int32 × (Nat → Int32) × (Nat → Int32) × (Nat → Int32) × (Nat → Int32)) :=
  if x1 = x2 then
    some ((0 : Int32), osz, ogd, oup, odn)
  else
    ck x1 12 <|
    if (2 : Int32) ≤ (osz x1.toNatClampNeg) then
      some ((0 : Int32), osz, ogd, oup, odn)
    else
      (f_X3_isTold_o osz ogd x1 x2).bind fun o4 =>
      if o4 = 0 then
        ck x1 12 <|
        (f_X3_place x1 (osz x1.toNatClampNeg)).bind fun o8 =>
        ck o8 48 <|
        ck o8 48 <|
        ck o8 48 <|
        ck x1 12 <|
        ck x1 12 <|
        some ((1 : Int32), (upd osz x1.toNatClampNeg ((osz x1.toNatClampNeg) + (1 : Int32))), (upd ogd o8.toNatClampNeg x2), (upd oup o8.toNatClampNeg x3), (upd odn o8.toNatClampNeg x4))
      else
        some ((0 : Int32), osz, ogd, oup, odn)
set_option maxHeartbeats 4000000 in
set_option maxRecDepth 100000 in
theorem c_X3_add_o {l : Launch} {D : va_G} {cI cJ cZ : ClassId} {a : Nat → Nat} {sz : Nat} {vl : Nat → Int32} {hs : Nat → Int32} {isz : Nat → Int32} {igd : Nat → Int32} {iup : Nat → Int32} {idn : Nat → Int32} {osz : Nat → Int32} {ogd : Nat → Int32} {oup : Nat → Int32} {odn : Nat → Int32} {dep : Nat → Int32} {rsz : Int32} {lgd : Nat → Int32} {llf : Nat → Int64} {ldb : Nat → Int64} {ldy : Nat → Int32} {lsz : Int32} {lti : Int64} {pgd : Nat → Int32} {plf : Nat → Int64} {pun : Nat → Int32} {psz : Int32} {bgd : Nat → Int32} {bam : Nat → Int64} {bwt : Nat → Int64} {bsh : Nat → Int64} {brm : Nat → Int64} {bsz : Int32} {cab : Nat → Int64} {cbl : Nat → Int64} {tod : Int32} {imp : Int64} {dis : Int64} {owe : Int64} {itr : Int64} {x1 : Int32} {x2 : Int32} {x3 : Int32} {x4 : Int32} {o : Int32 × (Nat → Int32) × (Nat → Int32) × (Nat → Int32) × (Nat → Int32)} (hf : f_X3_add_o osz ogd oup odn x1 x2 x3 x4 = some o) : gMi l yX3_add wsX3_add rm_X3_add_o D (gT cI cJ cZ) (cW a cI cJ cZ vl hs isz igd iup idn osz ogd oup odn dep rsz lgd llf ldb ldy lsz lti pgd plf pun psz bgd bam bwt bsh brm bsz cab cbl tod imp dis owe itr) (cW a cI cJ cZ vl hs isz igd iup idn o.2.1 o.2.2.1 o.2.2.2.1 o.2.2.2.2 dep rsz lgd llf ldb ldy lsz lti pgd plf pun psz bgd bam bwt bsh brm bsz cab cbl tod imp dis owe itr) sz [.ref (a 9), .int x1, .int x2, .int x3, .int x4] o.1 := by
  refine g_of (cc := cX3_add) (maxL := 6) (ret := (some .boolean)) (by decide) rfl (Nat.le_of_ble_eq_true rfl) ?_
  intro p e s m below meth c A ls hAe C hl E
  rw [← hAe]
  obtain ⟨hx, hb, hr, hml, hown, hts, hlocks, hN, hA⟩ := id C
  have hl : lv_has ls 6 [(0, .ref (a 9)), (1, .int x1), (2, .int x2), (3, .int x3), (4, .int x4)] := hl
  have E : vE s A D (gT cI cJ cZ) (cW a cI cJ cZ vl hs isz igd iup idn osz ogd oup odn dep rsz lgd llf ldb ldy lsz lti pgd plf pun psz bgd bam bwt bsh brm bsz cab cbl tod imp dis owe itr) s.heap [] := E
  rw [f_X3_add_o] at hf
  refine lv_iload_n hx hb dX3_add_0 rfl (lv_at hl 1 rfl) ?_
  refine lv_iload_n hx hb dX3_add_1 rfl (lv_at hl 2 rfl) ?_
  refine lv_icmp_eq (tgt := 27) hx hb dX3_add_2 (by decide) (fun c1 => ?_) (fun c1 => ?_)
  · rw [if_pos c1] at hf
    refine lv_iconst (v := 0) hx hb dX3_add_27 (by decide) ?_
    obtain rfl := Option.some.inj hf
    exact g_zret (r := 0) C E rfl dX3_add_28
  · rw [if_neg c1] at hf
    refine lv_aload_n hx hb dX3_add_5 rfl (lv_at hl 0 rfl) ?_
    refine g_get C E 9 1 (fun _ h => List.mem_cons_of_mem _ (List.mem_append_right _ h)) rfl rfl (by decide) (List.mem_of_getElem? (i := 1) rfl) rfl rfl dX3_add_6 ?_
    refine lv_iload_n hx hb dX3_add_9 rfl (lv_at hl 1 rfl) ?_
    obtain ⟨h2, hf⟩ := ck_some hf
    refine g_iald C E 10 rfl h2 dX3_add_10 ?_
    refine lv_aload_n hx hb dX3_add_11 rfl (lv_at hl 0 rfl) ?_
    refine g_get C E 9 0 (fun _ h => List.mem_cons_of_mem _ (List.mem_append_right _ h)) rfl rfl (by decide) (List.mem_of_getElem? (i := 2) rfl) rfl rfl dX3_add_12 ?_
    refine lv_icmp_ge (tgt := 27) hx hb dX3_add_15 (by decide) (fun c3 => ?_) (fun c3 => ?_)
    · rw [if_pos c3] at hf
      refine lv_iconst (v := 0) hx hb dX3_add_27 (by decide) ?_
      obtain rfl := Option.some.inj hf
      exact g_zret (r := 0) C E rfl dX3_add_28
    · rw [if_neg c3] at hf
      refine lv_aload_n hx hb dX3_add_18 rfl (lv_at hl 0 rfl) ?_
      refine lv_iload_n hx hb dX3_add_19 rfl (lv_at hl 1 rfl) ?_
      refine lv_iload_n hx hb dX3_add_20 rfl (lv_at hl 2 rfl) ?_
      obtain ⟨o4, e5, hf⟩ := bd_some hf
      refine g_calli (w' := (cW a cI cJ cZ vl hs isz igd iup idn osz ogd oup odn dep rsz lgd llf ldb ldy lsz lti pgd plf pun psz bgd bam bwt bsh brm bsz cab cbl tod imp dis owe itr)) C E (g_runV (As := [.int x1, .int x2]) (rest := []) C E (c_X3_isTold_o e5) (cwV 2 hts gX3_add_X3_isTold rfl rfl rfl ⟨rfl, hd_X3_isTold_o⟩ ⟨Nat.le_of_ble_eq_true rfl, Nat.le_of_ble_eq_true rfl⟩) (q0 := 9) (ci := 3) rfl rfl rfl rfl hl.1 rfl (Nat.le_of_ble_eq_true rfl) dX3_add_21 ⟨Nat.le_of_ble_eq_true rfl, Nat.le_of_ble_eq_true rfl⟩) (fun H locs E => ?_)
      refine lv_if_eq (tgt := 29) hx hb dX3_add_24 (by decide) (fun c6 => ?_) (fun c6 => ?_)
      · rw [if_pos c6] at hf
        refine lv_iload_n hx hb dX3_add_29 rfl (lv_at hl 1 rfl) ?_
        refine lv_aload_n hx hb dX3_add_30 rfl (lv_at hl 0 rfl) ?_
        refine g_get C E 9 1 (fun _ h => List.mem_cons_of_mem _ (List.mem_append_right _ h)) rfl rfl (by decide) (List.mem_of_getElem? (i := 1) rfl) rfl rfl dX3_add_31 ?_
        refine lv_iload_n hx hb dX3_add_34 rfl (lv_at hl 1 rfl) ?_
        obtain ⟨h7, hf⟩ := ck_some hf
        refine g_iald C E 10 rfl h7 dX3_add_35 ?_
        obtain ⟨o8, e9, hf⟩ := bd_some hf
        refine g_calli (w' := (cW a cI cJ cZ vl hs isz igd iup idn osz ogd oup odn dep rsz lgd llf ldb ldy lsz lti pgd plf pun psz bgd bam bwt bsh brm bsz cab cbl tod imp dis owe itr)) C E (g_runS (As := [.int x1, .int (osz x1.toNatClampNeg)]) (rest := []) C E (c_X3_place e9) (va_cwS 2 hts gX3_add_X3_place rfl rfl rfl hd_X3_place ⟨Nat.le_of_ble_eq_true rfl, Nat.le_of_ble_eq_true rfl⟩) rfl hl.1 rfl (Nat.le_of_ble_eq_true rfl) dX3_add_36 ⟨Nat.le_of_ble_eq_true rfl, Nat.le_of_ble_eq_true rfl⟩) (fun H locs E => ?_)
        refine lv_istore (lv' := [(5, .int o8), (0, .ref (a 9)), (1, .int x1), (2, .int x2), (3, .int x3), (4, .int x4)]) hx hb dX3_add_39 hl (by decide) rfl (fun ls hl => ?_)
        refine lv_aload_n hx hb dX3_add_41 rfl (lv_at hl 1 rfl) ?_
        refine g_get C E 9 2 (fun _ h => List.mem_cons_of_mem _ (List.mem_append_right _ h)) rfl rfl (by decide) (List.mem_of_getElem? (i := 3) rfl) rfl rfl dX3_add_42 ?_
        refine lv_iload hx hb dX3_add_45 (lv_at hl 0 rfl) ?_
        refine lv_iload_n hx hb dX3_add_47 rfl (lv_at hl 3 rfl) ?_
        obtain ⟨h10, hf⟩ := ck_some hf
        refine g_iast (w' := (cW a cI cJ cZ vl hs isz igd iup idn osz (upd ogd o8.toNatClampNeg x2) oup odn dep rsz lgd llf ldb ldy lsz lti pgd plf pun psz bgd bam bwt bsh brm bsz cab cbl tod imp dis owe itr)) C E 11 rfl h10 dX3_add_48 rfl (fun H locs E => ?_)
        refine lv_aload_n hx hb dX3_add_49 rfl (lv_at hl 1 rfl) ?_
        refine g_get C E 9 3 (fun _ h => List.mem_cons_of_mem _ (List.mem_append_right _ h)) rfl rfl (by decide) (List.mem_of_getElem? (i := 4) rfl) rfl rfl dX3_add_50 ?_
        refine lv_iload hx hb dX3_add_53 (lv_at hl 0 rfl) ?_
        refine lv_iload_n hx hb dX3_add_55 rfl (lv_at hl 4 rfl) ?_
        obtain ⟨h11, hf⟩ := ck_some hf
        refine g_iast (w' := (cW a cI cJ cZ vl hs isz igd iup idn osz (upd ogd o8.toNatClampNeg x2) (upd oup o8.toNatClampNeg x3) odn dep rsz lgd llf ldb ldy lsz lti pgd plf pun psz bgd bam bwt bsh brm bsz cab cbl tod imp dis owe itr)) C E 12 rfl h11 dX3_add_56 rfl (fun H locs E => ?_)
        refine lv_aload_n hx hb dX3_add_57 rfl (lv_at hl 1 rfl) ?_
        refine g_get C E 9 4 (fun _ h => List.mem_cons_of_mem _ (List.mem_append_right _ h)) rfl rfl (by decide) (List.mem_of_getElem? (i := 5) rfl) rfl rfl dX3_add_58 ?_
        refine lv_iload hx hb dX3_add_61 (lv_at hl 0 rfl) ?_
        refine lv_iload hx hb dX3_add_63 (lv_at hl 5 rfl) ?_
        obtain ⟨h12, hf⟩ := ck_some hf
        refine g_iast (w' := (cW a cI cJ cZ vl hs isz igd iup idn osz (upd ogd o8.toNatClampNeg x2) (upd oup o8.toNatClampNeg x3) (upd odn o8.toNatClampNeg x4) dep rsz lgd llf ldb ldy lsz lti pgd plf pun psz bgd bam bwt bsh brm bsz cab cbl tod imp dis owe itr)) C E 13 rfl h12 dX3_add_65 rfl (fun H locs E => ?_)
        refine lv_aload_n hx hb dX3_add_66 rfl (lv_at hl 1 rfl) ?_
        refine g_get C E 9 1 (fun _ h => List.mem_cons_of_mem _ (List.mem_append_right _ h)) rfl rfl (by decide) (List.mem_of_getElem? (i := 1) rfl) rfl rfl dX3_add_67 ?_
        refine lv_iload_n hx hb dX3_add_70 rfl (lv_at hl 2 rfl) ?_
        refine lv_dup2_11 hx hb dX3_add_71 rfl rfl ?_
        obtain ⟨h13, hf⟩ := ck_some hf
        refine g_iald C E 10 rfl h13 dX3_add_72 ?_
        refine lv_iconst (v := 1) hx hb dX3_add_73 (by decide) ?_
        refine lv_iadd hx hb dX3_add_74 ?_
        obtain ⟨h14, hf⟩ := ck_some hf
        refine g_iast (w' := (cW a cI cJ cZ vl hs isz igd iup idn (upd osz x1.toNatClampNeg ((osz x1.toNatClampNeg) + (1 : Int32))) (upd ogd o8.toNatClampNeg x2) (upd oup o8.toNatClampNeg x3) (upd odn o8.toNatClampNeg x4) dep rsz lgd llf ldb ldy lsz lti pgd plf pun psz bgd bam bwt bsh brm bsz cab cbl tod imp dis owe itr)) C E 10 rfl h14 dX3_add_75 rfl (fun H locs E => ?_)
        refine lv_iconst (v := 1) hx hb dX3_add_76 (by decide) ?_
        obtain rfl := Option.some.inj hf
        exact g_zret (r := 1) C E rfl dX3_add_77
      · rw [if_neg c6] at hf
        refine lv_iconst (v := 0) hx hb dX3_add_27 (by decide) ?_
        obtain rfl := Option.some.inj hf
        exact g_zret (r := 0) C E rfl dX3_add_28
abbrev rm_X3_roundedDown_o : Room := { frames := 1, cells := 0, slots := 0, locals := 23 }
theorem hd_X3_roundedDown_o : yX3_roundedDown.cls ≠ "java/lang/invoke/MethodHandle" ∧ yX3_roundedDown.cls ≠ "java/lang/invoke/VarHandle" ∧ (parseMethodDescriptor yX3_roundedDown.desc).map (fun d => d.parameters.length) = some 3 := by decide +kernel
def f_X3_roundedDown_o (oup : Nat → Int32) (odn : Nat → Int32) (x1 : Int32) (x2 : Int32) (x3 : Int32) : Option (Int64) :=
  (f_X3_place x1 x2).bind fun o1 =>
  ck o1 48 <|
  ck o1 48 <|
  (f_X6_floorOf (x3.toInt64 * (oup o1.toNatClampNeg).toInt64) ((odn o1.toNatClampNeg).toInt64)).bind fun o5 =>
  some (o5)
set_option maxHeartbeats 4000000 in
set_option maxRecDepth 100000 in
theorem c_X3_roundedDown_o {l : Launch} {D : va_G} {cI cJ cZ : ClassId} {a : Nat → Nat} {sz : Nat} {vl : Nat → Int32} {hs : Nat → Int32} {isz : Nat → Int32} {igd : Nat → Int32} {iup : Nat → Int32} {idn : Nat → Int32} {osz : Nat → Int32} {ogd : Nat → Int32} {oup : Nat → Int32} {odn : Nat → Int32} {dep : Nat → Int32} {rsz : Int32} {lgd : Nat → Int32} {llf : Nat → Int64} {ldb : Nat → Int64} {ldy : Nat → Int32} {lsz : Int32} {lti : Int64} {pgd : Nat → Int32} {plf : Nat → Int64} {pun : Nat → Int32} {psz : Int32} {bgd : Nat → Int32} {bam : Nat → Int64} {bwt : Nat → Int64} {bsh : Nat → Int64} {brm : Nat → Int64} {bsz : Int32} {cab : Nat → Int64} {cbl : Nat → Int64} {tod : Int32} {imp : Int64} {dis : Int64} {owe : Int64} {itr : Int64} {x1 : Int32} {x2 : Int32} {x3 : Int32} {o : Int64} (hf : f_X3_roundedDown_o oup odn x1 x2 x3 = some o) : gMl l yX3_roundedDown wsX3_roundedDown rm_X3_roundedDown_o D (gT cI cJ cZ) (cW a cI cJ cZ vl hs isz igd iup idn osz ogd oup odn dep rsz lgd llf ldb ldy lsz lti pgd plf pun psz bgd bam bwt bsh brm bsz cab cbl tod imp dis owe itr) (cW a cI cJ cZ vl hs isz igd iup idn osz ogd oup odn dep rsz lgd llf ldb ldy lsz lti pgd plf pun psz bgd bam bwt bsh brm bsz cab cbl tod imp dis owe itr) sz [.ref (a 9), .int x1, .int x2, .int x3] o := by
  refine g_of (cc := cX3_roundedDown) (maxL := 5) (ret := (some .long)) (by decide) rfl (Nat.le_of_ble_eq_true rfl) ?_
  intro p e s m below meth c A ls hAe C hl E
  rw [← hAe]
  obtain ⟨hx, hb, hr, hml, hown, hts, hlocks, hN, hA⟩ := id C
  have hl : lv_has ls 5 [(0, .ref (a 9)), (1, .int x1), (2, .int x2), (3, .int x3)] := hl
  have E : vE s A D (gT cI cJ cZ) (cW a cI cJ cZ vl hs isz igd iup idn osz ogd oup odn dep rsz lgd llf ldb ldy lsz lti pgd plf pun psz bgd bam bwt bsh brm bsz cab cbl tod imp dis owe itr) s.heap [] := E
  rw [f_X3_roundedDown_o] at hf
  refine lv_iload_n hx hb dX3_roundedDown_0 rfl (lv_at hl 1 rfl) ?_
  refine lv_iload_n hx hb dX3_roundedDown_1 rfl (lv_at hl 2 rfl) ?_
  obtain ⟨o1, e2, hf⟩ := bd_some hf
  refine g_calli (w' := (cW a cI cJ cZ vl hs isz igd iup idn osz ogd oup odn dep rsz lgd llf ldb ldy lsz lti pgd plf pun psz bgd bam bwt bsh brm bsz cab cbl tod imp dis owe itr)) C E (g_runS (As := [.int x1, .int x2]) (rest := []) C E (c_X3_place e2) (va_cwS 2 hts gX3_roundedDown_X3_place rfl rfl rfl hd_X3_place ⟨Nat.le_of_ble_eq_true rfl, Nat.le_of_ble_eq_true rfl⟩) rfl hl.1 rfl (Nat.le_of_ble_eq_true rfl) dX3_roundedDown_2 ⟨Nat.le_of_ble_eq_true rfl, Nat.le_of_ble_eq_true rfl⟩) (fun H locs E => ?_)
  refine lv_istore (lv' := [(4, .int o1), (0, .ref (a 9)), (1, .int x1), (2, .int x2), (3, .int x3)]) hx hb dX3_roundedDown_5 hl (by decide) rfl (fun ls hl => ?_)
  refine lv_iload_n hx hb dX3_roundedDown_7 rfl (lv_at hl 4 rfl) ?_
  refine lv_i2l hx hb dX3_roundedDown_8 rfl ?_
  refine lv_aload_n hx hb dX3_roundedDown_9 rfl (lv_at hl 1 rfl) ?_
  refine g_get C E 9 3 (fun _ h => List.mem_cons_of_mem _ (List.mem_append_right _ h)) rfl rfl (by decide) (List.mem_of_getElem? (i := 1) rfl) rfl rfl dX3_roundedDown_10 ?_
  refine lv_iload hx hb dX3_roundedDown_13 (lv_at hl 0 rfl) ?_
  obtain ⟨h3, hf⟩ := ck_some hf
  refine g_iald C E 12 rfl h3 dX3_roundedDown_15 ?_
  refine lv_i2l hx hb dX3_roundedDown_16 rfl ?_
  refine lv_lmul hx hb dX3_roundedDown_17 ?_
  refine lv_aload_n hx hb dX3_roundedDown_18 rfl (lv_at hl 1 rfl) ?_
  refine g_get C E 9 4 (fun _ h => List.mem_cons_of_mem _ (List.mem_append_right _ h)) rfl rfl (by decide) (List.mem_of_getElem? (i := 2) rfl) rfl rfl dX3_roundedDown_19 ?_
  refine lv_iload hx hb dX3_roundedDown_22 (lv_at hl 0 rfl) ?_
  obtain ⟨h4, hf⟩ := ck_some hf
  refine g_iald C E 13 rfl h4 dX3_roundedDown_24 ?_
  refine lv_i2l hx hb dX3_roundedDown_25 rfl ?_
  obtain ⟨o5, e6, hf⟩ := bd_some hf
  refine g_calll (w' := (cW a cI cJ cZ vl hs isz igd iup idn osz ogd oup odn dep rsz lgd llf ldb ldy lsz lti pgd plf pun psz bgd bam bwt bsh brm bsz cab cbl tod imp dis owe itr)) C E (g_runSN (As := [.long (x3.toInt64 * (oup o1.toNatClampNeg).toInt64), .long ((odn o1.toNatClampNeg).toInt64)]) (rest := []) C E (c_X6_floorOf e6) ⟨va_cnB 2 hts gX3_roundedDown_X6_floorOf_n48 rfl rfl rfl (hN.1 _ (List.mem_of_getElem? (i := 11) rfl)) (hts (.initialized RX6) (List.mem_of_getElem? (i := 8) rfl)) hd_X6_floorOf ⟨Nat.le_of_ble_eq_true rfl, Nat.le_of_ble_eq_true rfl⟩, hts (.static yX6_floorOf) (List.mem_of_getElem? (i := 7) rfl), trivial⟩ rfl hl.1 rfl (Nat.le_of_ble_eq_true rfl) dX3_roundedDown_26 ⟨Nat.le_of_ble_eq_true rfl, Nat.le_of_ble_eq_true rfl⟩) (fun H locs E => ?_)
  obtain rfl := Option.some.inj hf
  exact g_lret C E dX3_roundedDown_29
