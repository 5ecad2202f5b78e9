abbrev rm_X5_depthByNeeds : Room := { frames := 2, cells := 0, slots := 0, locals := 43 }
theorem hd_X5_depthByNeeds : yX5_depthByNeeds.cls ≠ "java/lang/invoke/MethodHandle" ∧ yX5_depthByNeeds.cls ≠ "java/lang/invoke/VarHandle" ∧ (parseMethodDescriptor yX5_depthByNeeds.desc).map (fun d => d.parameters.length) = some 1 := by decide +kernel
def f_X5_depthByNeeds_L4 (isz : Nat → Int32) (igd : Nat → Int32) (dep : Nat → Int32) (x1 : Int32) : Nat → Int32 → Int32 → Option (Int32)
  | 0, _, _ => none
  | n + 1, x2, x3 =>
  ck x1 12 <|
  if (isz x1.toNatClampNeg) ≤ x3 then
    some (x2)
  else
    (f_X3_goodAt_i igd x1 x3).bind fun o3 =>
    ck o3 12 <|
    f_X5_depthByNeeds_L4 isz igd dep x1 n (if x2 < ((1 : Int32) + (dep o3.toNatClampNeg)) then ((1 : Int32) + (dep o3.toNatClampNeg)) else x2) (x3 + 1)
set_option maxHeartbeats 4000000 in
set_option maxRecDepth 100000 in
theorem w_X5_depthByNeeds_L4 {p : Program} {l : Launch} {e : Env} {s : State} {m : MethodId} {args : Array Value} {below : List Frame} {meth : Method} {c : Code} {A : Nat → Prop} {D : va_G} {cI cJ cZ : ClassId} {a : Nat → Nat} {vl : Nat → Int32} {hs : Nat → Int32} {isz : Nat → Int32} {igd : Nat → Int32} {iup : Nat → Int32} {idn : Nat → Int32} {osz : Nat → Int32} {ogd : Nat → Int32} {oup : Nat → Int32} {odn : Nat → Int32} {dep : Nat → Int32} {rsz : Int32} {lgd : Nat → Int32} {llf : Nat → Int64} {ldb : Nat → Int64} {ldy : Nat → Int32} {lsz : Int32} {lti : Int64} {pgd : Nat → Int32} {plf : Nat → Int64} {pun : Nat → Int32} {psz : Int32} {bgd : Nat → Int32} {bam : Nat → Int64} {bwt : Nat → Int64} {bsh : Nat → Int64} {brm : Nat → Int64} {bsz : Int32} {cab : Nat → Int64} {cbl : Nat → Int64} {tod : Int32} {imp : Int64} {dis : Int64} {owe : Int64} {itr : Int64} (C : gC p s m args meth c cX5_depthByNeeds 4 (some .int) wsX5_depthByNeeds RX5 A) {x1 : Int32} {o : Int32} :
    ∀ (n : Nat) (x2 : Int32) (x3 : Int32) (H : Heap) (locs : List Loc) (ls : Array Slot), vE s A D (gT cI cJ cZ) (cW a cI cJ cZ vl hs isz igd iup idn osz ogd oup odn dep rsz lgd llf ldb ldy lsz lti pgd plf pun psz bgd bam bwt bsh brm bsz cab cbl tod imp dis owe itr) H locs → lv_has ls 4 [(0, .ref (a 2)), (1, .int x1), (2, .int x2), (3, .int x3)] → f_X5_depthByNeeds_L4 isz igd dep x1 n x2 x3 = some o → W p l e rm_X5_depthByNeeds s m args below meth c H locs 0 0 (MQ below (gQi D (gT cI cJ cZ) A (cW a cI cJ cZ vl hs isz igd iup idn osz ogd oup odn dep rsz lgd llf ldb ldy lsz lti pgd plf pun psz bgd bam bwt bsh brm bsz cab cbl tod imp dis owe itr) o) args s 0 0 A) (F0 m 4 ls []) := by
  obtain ⟨hx, hb, hr, hml, hown, hts, hlocks, hN, hA⟩ := id C
  intro n
  induction n with
  | zero =>
    intro x2 x3 H locs ls E hl hf
    rw [f_X5_depthByNeeds_L4] at hf
    cases hf
  | succ n ih =>
    intro x2 x3 H locs ls E hl hf
    rw [f_X5_depthByNeeds_L4] at hf
    refine lv_iload_n hx hb dX5_depthByNeeds_4 rfl (lv_at hl 3 rfl) ?_
    refine lv_aload_n hx hb dX5_depthByNeeds_5 rfl (lv_at hl 0 rfl) ?_
    refine g_get C E 2 1 (fun _ h => List.mem_cons_of_mem _ (List.mem_append_left _ (List.mem_append_right _ h))) rfl rfl (by decide) (List.mem_of_getElem? (i := 1) rfl) rfl rfl dX5_depthByNeeds_6 ?_
    refine g_get C E 4 1 (fun _ h => List.mem_cons_of_mem _ (List.mem_append_right _ h)) rfl rfl (by decide) (List.mem_of_getElem? (i := 2) rfl) rfl rfl dX5_depthByNeeds_9 ?_
    refine lv_iload_n hx hb dX5_depthByNeeds_12 rfl (lv_at hl 1 rfl) ?_
    obtain ⟨h1, hf⟩ := ck_some hf
    refine g_iald C E 5 rfl h1 dX5_depthByNeeds_13 ?_
    refine lv_icmp_ge (tgt := 44) hx hb dX5_depthByNeeds_14 (by decide) (fun c2 => ?_) (fun c2 => ?_)
    · rw [if_pos c2] at hf
      refine lv_iload_n hx hb dX5_depthByNeeds_44 rfl (lv_at hl 2 rfl) ?_
      obtain rfl := Option.some.inj hf
      exact g_iret C E dX5_depthByNeeds_45
    · rw [if_neg c2] at hf
      refine lv_iload_n hx hb dX5_depthByNeeds_17 rfl (lv_at hl 2 rfl) ?_
      refine lv_iconst (v := 1) hx hb dX5_depthByNeeds_18 (by decide) ?_
      refine lv_aload_n hx hb dX5_depthByNeeds_19 rfl (lv_at hl 0 rfl) ?_
      refine g_get C E 2 3 (fun _ h => List.mem_cons_of_mem _ (List.mem_append_left _ (List.mem_append_right _ h))) rfl rfl (by decide) (List.mem_of_getElem? (i := 3) rfl) rfl rfl dX5_depthByNeeds_20 ?_
      refine lv_aload_n hx hb dX5_depthByNeeds_23 rfl (lv_at hl 0 rfl) ?_
      refine g_get C E 2 1 (fun _ h => List.mem_cons_of_mem _ (List.mem_append_left _ (List.mem_append_right _ h))) rfl rfl (by decide) (List.mem_of_getElem? (i := 1) rfl) rfl rfl dX5_depthByNeeds_24 ?_
      refine lv_iload_n hx hb dX5_depthByNeeds_27 rfl (lv_at hl 1 rfl) ?_
      refine lv_iload_n hx hb dX5_depthByNeeds_28 rfl (lv_at hl 3 rfl) ?_
      obtain ⟨o3, e4, hf⟩ := bd_some hf
      refine g_calli (w' := (cW a cI cJ cZ vl hs isz igd iup idn osz ogd oup odn dep rsz lgd llf ldb ldy lsz lti pgd plf pun psz bgd bam bwt bsh brm bsz cab cbl tod imp dis owe itr)) C E (g_runV (As := [.int x1, .int x3]) (rest := [.ref (a 14), .int (1 : Int32), .int x2]) C E (c_X3_goodAt_i e4) (cwV 2 hts gX5_depthByNeeds_X3_goodAt rfl rfl rfl ⟨rfl, hd_X3_goodAt_i⟩ ⟨Nat.le_of_ble_eq_true rfl, Nat.le_of_ble_eq_true rfl⟩) (q0 := 4) (ci := 3) rfl rfl rfl rfl hl.1 rfl (Nat.le_of_ble_eq_true rfl) dX5_depthByNeeds_29 ⟨Nat.le_of_ble_eq_true rfl, Nat.le_of_ble_eq_true rfl⟩) (fun H locs E => ?_)
      obtain ⟨h5, hf⟩ := ck_some hf
      refine g_iald C E 14 rfl h5 dX5_depthByNeeds_32 ?_
      refine lv_iadd hx hb dX5_depthByNeeds_33 ?_
      refine va_mmax hx hb (hml.trans hl.1.symm) hown (hts (.methodLink RX5 46 Lib.Math.max.name) (List.mem_of_getElem? (i := 4) rfl)) (hts (.static Lib.Math.max.name) (List.mem_of_getElem? (i := 5) rfl)) (hts (.initialized "java/lang/Math") (List.mem_of_getElem? (i := 6) rfl)) (hts (.code Lib.Math.max.name Lib.Math.max.code 2 (some .int)) (List.mem_of_getElem? (i := 7) rfl)) (Nat.le_of_ble_eq_true rfl) (Nat.le_of_ble_eq_true rfl) (Nat.le_of_ble_eq_true rfl) (Nat.le_of_ble_eq_true rfl) dX5_depthByNeeds_34 ?_
      refine lv_istore_n (lv' := [(2, .int (if x2 < ((1 : Int32) + (dep o3.toNatClampNeg)) then ((1 : Int32) + (dep o3.toNatClampNeg)) else x2)), (0, .ref (a 2)), (1, .int x1), (3, .int x3)]) hx hb dX5_depthByNeeds_37 rfl hl (by decide) rfl (fun ls hl => ?_)
      refine lv_iinc (v := (x3 + 1)) (lv' := [(3, .int (x3 + 1)), (2, .int (if x2 < ((1 : Int32) + (dep o3.toNatClampNeg)) then ((1 : Int32) + (dep o3.toNatClampNeg)) else x2)), (0, .ref (a 2)), (1, .int x1)]) hx hb dX5_depthByNeeds_38 hl (k := 3) rfl rfl (by decide) rfl (fun ls hl => ?_)
      refine lv_goto (tgt := 4) hx hb dX5_depthByNeeds_41 (by decide) ?_
      exact ih (if x2 < ((1 : Int32) + (dep o3.toNatClampNeg)) then ((1 : Int32) + (dep o3.toNatClampNeg)) else x2) (x3 + 1) _ _ _ E (lv_sub hl [2, 3, 1, 0] rfl) hf
def f_X5_depthByNeeds (isz : Nat → Int32) (igd : Nat → Int32) (dep : Nat → Int32) (x1 : Int32) : Option (Int32) :=
  f_X5_depthByNeeds_L4 isz igd dep x1 FU (0 : Int32) (0 : Int32)
set_option maxHeartbeats 4000000 in
set_option maxRecDepth 100000 in
theorem c_X5_depthByNeeds {l : Launch} {D : va_G} {cI cJ cZ : ClassId} {a : Nat → Nat} {sz : Nat} {vl : Nat → Int32} {hs : Nat → Int32} {isz : Nat → Int32} {igd : Nat → Int32} {iup : Nat → Int32} {idn : Nat → Int32} {osz : Nat → Int32} {ogd : Nat → Int32} {oup : Nat → Int32} {odn : Nat → Int32} {dep : Nat → Int32} {rsz : Int32} {lgd : Nat → Int32} {llf : Nat → Int64} {ldb : Nat → Int64} {ldy : Nat → Int32} {lsz : Int32} {lti : Int64} {pgd : Nat → Int32} {plf : Nat → Int64} {pun : Nat → Int32} {psz : Int32} {bgd : Nat → Int32} {bam : Nat → Int64} {bwt : Nat → Int64} {bsh : Nat → Int64} {brm : Nat → Int64} {bsz : Int32} {cab : Nat → Int64} {cbl : Nat → Int64} {tod : Int32} {imp : Int64} {dis : Int64} {owe : Int64} {itr : Int64} {x1 : Int32} {o : Int32} (hf : f_X5_depthByNeeds isz igd dep x1 = some o) : gMi l yX5_depthByNeeds wsX5_depthByNeeds rm_X5_depthByNeeds D (gT cI cJ cZ) (cW a cI cJ cZ vl hs isz igd iup idn osz ogd oup odn dep rsz lgd llf ldb ldy lsz lti pgd plf pun psz bgd bam bwt bsh brm bsz cab cbl tod imp dis owe itr) (cW a cI cJ cZ vl hs isz igd iup idn osz ogd oup odn dep rsz lgd llf ldb ldy lsz lti pgd plf pun psz bgd bam bwt bsh brm bsz cab cbl tod imp dis owe itr) sz [.ref (a 2), .int x1] o := by
  refine g_of (cc := cX5_depthByNeeds) (maxL := 4) (ret := (some .int)) (by decide) rfl (Nat.le_of_ble_eq_true rfl) ?_
  intro p e s m below meth c A ls hAe C hl E
  rw [← hAe]
  obtain ⟨hx, hb, hr, hml, hown, hts, hlocks, hN, hA⟩ := id C
  have hl : lv_has ls 4 [(0, .ref (a 2)), (1, .int x1)] := hl
  have E : vE s A D (gT cI cJ cZ) (cW a cI cJ cZ vl hs isz igd iup idn osz ogd oup odn dep rsz lgd llf ldb ldy lsz lti pgd plf pun psz bgd bam bwt bsh brm bsz cab cbl tod imp dis owe itr) s.heap [] := E
  rw [f_X5_depthByNeeds] at hf
  refine lv_iconst (v := 0) hx hb dX5_depthByNeeds_0 (by decide) ?_
  refine lv_istore_n (lv' := [(2, .int (0 : Int32)), (0, .ref (a 2)), (1, .int x1)]) hx hb dX5_depthByNeeds_1 rfl hl (by decide) rfl (fun ls hl => ?_)
  refine lv_iconst (v := 0) hx hb dX5_depthByNeeds_2 (by decide) ?_
  refine lv_istore_n (lv' := [(3, .int (0 : Int32)), (2, .int (0 : Int32)), (0, .ref (a 2)), (1, .int x1)]) hx hb dX5_depthByNeeds_3 rfl hl (by decide) rfl (fun ls hl => ?_)
  exact w_X5_depthByNeeds_L4 C  FU (0 : Int32) (0 : Int32) _ _ _ E (lv_sub hl [2, 3, 1, 0] rfl) hf
abbrev rm_X5_measureDepths : Room := { frames := 3, cells := 0, slots := 0, locals := 66 }
theorem hd_X5_measureDepths : yX5_measureDepths.cls ≠ "java/lang/invoke/MethodHandle" ∧ yX5_measureDepths.cls ≠ "java/lang/invoke/VarHandle" ∧ (parseMethodDescriptor yX5_measureDepths.desc).map (fun d => d.parameters.length) = some 0 := by decide +kernel
def f_X5_measureDepths_L32 (isz : Nat → Int32) (igd : Nat → Int32) (x2 : Int32) (k25 : (Nat → Int32) → Int32 → Int32 → Option (Int32 × (Nat → Int32))) : Nat → (Nat → Int32) → Int32 → Int32 → Option (Int32 × (Nat → Int32))
  | 0, _, _, _ => none
  | n + 1, dep, x1, x3 =>
  if (12 : Int32) ≤ x3 then
    k25 dep x1 (x2 + 1)
  else
    (f_X5_depthByNeeds isz igd dep x3).bind fun o2 =>
    ck x3 12 <|
    ck x3 12 <|
    f_X5_measureDepths_L32 isz igd x2 k25 n (upd dep x3.toNatClampNeg o2) (if x1 < ((upd dep x3.toNatClampNeg o2) x3.toNatClampNeg) then ((upd dep x3.toNatClampNeg o2) x3.toNatClampNeg) else x1) (x3 + 1)
set_option maxHeartbeats 4000000 in
set_option maxRecDepth 100000 in
theorem w_X5_measureDepths_L32 {p : Program} {l : Launch} {e : Env} {s : State} {m : MethodId} {args : Array Value} {below : List Frame} {meth : Method} {c : Code} {A : Nat → Prop} {D : va_G} {cI cJ cZ : ClassId} {a : Nat → Nat} {vl : Nat → Int32} {hs : Nat → Int32} {isz : Nat → Int32} {igd : Nat → Int32} {iup : Nat → Int32} {idn : Nat → Int32} {osz : Nat → Int32} {ogd : Nat → Int32} {oup : Nat → Int32} {odn : Nat → Int32} {rsz : Int32} {lgd : Nat → Int32} {llf : Nat → Int64} {ldb : Nat → Int64} {ldy : Nat → Int32} {lsz : Int32} {lti : Int64} {pgd : Nat → Int32} {plf : Nat → Int64} {pun : Nat → Int32} {psz : Int32} {bgd : Nat → Int32} {bam : Nat → Int64} {bwt : Nat → Int64} {bsh : Nat → Int64} {brm : Nat → Int64} {bsz : Int32} {cab : Nat → Int64} {cbl : Nat → Int64} {tod : Int32} {imp : Int64} {dis : Int64} {owe : Int64} {itr : Int64} (C : gC p s m args meth c cX5_measureDepths 4 (some .int) wsX5_measureDepths RX5 A) {x2 : Int32} {o : Int32 × (Nat → Int32)} {k25 : (Nat → Int32) → Int32 → Int32 → Option (Int32 × (Nat → Int32))} (hk25 : ∀ (dep : Nat → Int32) (x1 : Int32) (x2 : Int32) (H : Heap) (locs : List Loc) (ls : Array Slot), vE s A D (gT cI cJ cZ) (cW a cI cJ cZ vl hs isz igd iup idn osz ogd oup odn dep rsz lgd llf ldb ldy lsz lti pgd plf pun psz bgd bam bwt bsh brm bsz cab cbl tod imp dis owe itr) H locs → lv_has ls 4 [(0, .ref (a 2)), (1, .int x1), (2, .int x2)] → k25 dep x1 x2 = some o → W p l e rm_X5_measureDepths s m args below meth c H locs 0 0 (MQ below (gQi D (gT cI cJ cZ) A (cW a cI cJ cZ vl hs isz igd iup idn osz ogd oup odn o.2 rsz lgd llf ldb ldy lsz lti pgd plf pun psz bgd bam bwt bsh brm bsz cab cbl tod imp dis owe itr) o.1) args s 0 0 A) (F0 m 25 ls [])) :
    ∀ (n : Nat) (dep : Nat → Int32) (x1 : Int32) (x3 : Int32) (H : Heap) (locs : List Loc) (ls : Array Slot), vE s A D (gT cI cJ cZ) (cW a cI cJ cZ vl hs isz igd iup idn osz ogd oup odn dep rsz lgd llf ldb ldy lsz lti pgd plf pun psz bgd bam bwt bsh brm bsz cab cbl tod imp dis owe itr) H locs → lv_has ls 4 [(0, .ref (a 2)), (1, .int x1), (2, .int x2), (3, .int x3)] → f_X5_measureDepths_L32 isz igd x2 k25 n dep x1 x3 = some o → W p l e rm_X5_measureDepths s m args below meth c H locs 0 0 (MQ below (gQi D (gT cI cJ cZ) A (cW a cI cJ cZ vl hs isz igd iup idn osz ogd oup odn o.2 rsz lgd llf ldb ldy lsz lti pgd plf pun psz bgd bam bwt bsh brm bsz cab cbl tod imp dis owe itr) o.1) args s 0 0 A) (F0 m 32 ls []) := by
  obtain ⟨hx, hb, hr, hml, hown, hts, hlocks, hN, hA⟩ := id C
  intro n
  induction n with
  | zero =>
    intro dep x1 x3 H locs ls E hl hf
    rw [f_X5_measureDepths_L32] at hf
    cases hf
  | succ n ih =>
    intro dep x1 x3 H locs ls E hl hf
    rw [f_X5_measureDepths_L32] at hf
    refine lv_iload_n hx hb dX5_measureDepths_32 rfl (lv_at hl 3 rfl) ?_
    refine lv_bipush (v := 12) hx hb dX5_measureDepths_33 (by decide) ?_
    refine lv_icmp_ge (tgt := 66) hx hb dX5_measureDepths_35 (by decide) (fun c1 => ?_) (fun c1 => ?_)
    · rw [if_pos c1] at hf
      refine lv_iinc (v := (x2 + 1)) (lv' := [(2, .int (x2 + 1)), (0, .ref (a 2)), (1, .int x1), (3, .int x3)]) hx hb dX5_measureDepths_66 hl (k := 2) rfl rfl (by decide) rfl (fun ls hl => ?_)
      refine lv_goto (tgt := 25) hx hb dX5_measureDepths_69 (by decide) ?_
      exact hk25 dep x1 (x2 + 1) _ _ _ E (lv_sub hl [1, 2, 0] rfl) hf
    · rw [if_neg c1] at hf
      refine lv_aload_n hx hb dX5_measureDepths_38 rfl (lv_at hl 0 rfl) ?_
      refine g_get C E 2 3 (fun _ h => List.mem_cons_of_mem _ (List.mem_append_left _ (List.mem_append_right _ h))) rfl rfl (by decide) (List.mem_of_getElem? (i := 1) rfl) rfl rfl dX5_measureDepths_39 ?_
      refine lv_iload_n hx hb dX5_measureDepths_42 rfl (lv_at hl 3 rfl) ?_
      refine lv_aload_n hx hb dX5_measureDepths_43 rfl (lv_at hl 0 rfl) ?_
      refine lv_iload_n hx hb dX5_measureDepths_44 rfl (lv_at hl 3 rfl) ?_
      obtain ⟨o2, e3, hf⟩ := bd_some hf
      refine g_calli (w' := (cW a cI cJ cZ vl hs isz igd iup idn osz ogd oup odn dep rsz lgd llf ldb ldy lsz lti pgd plf pun psz bgd bam bwt bsh brm bsz cab cbl tod imp dis owe itr)) C E (g_runV (As := [.int x3]) (rest := [.int x3, .ref (a 14)]) C E (c_X5_depthByNeeds e3) (cwV 1 hts gX5_measureDepths_X5_depthByNeeds rfl rfl rfl ⟨rfl, hd_X5_depthByNeeds⟩ ⟨Nat.le_of_ble_eq_true rfl, Nat.le_of_ble_eq_true rfl⟩) (q0 := 2) (ci := 5) rfl rfl rfl rfl hl.1 rfl (Nat.le_of_ble_eq_true rfl) dX5_measureDepths_45 ⟨Nat.le_of_ble_eq_true rfl, Nat.le_of_ble_eq_true rfl⟩) (fun H locs E => ?_)
      obtain ⟨h4, hf⟩ := ck_some hf
      refine g_iast (w' := (cW a cI cJ cZ vl hs isz igd iup idn osz ogd oup odn (upd dep x3.toNatClampNeg o2) rsz lgd llf ldb ldy lsz lti pgd plf pun psz bgd bam bwt bsh brm bsz cab cbl tod imp dis owe itr)) C E 14 rfl h4 dX5_measureDepths_48 rfl (fun H locs E => ?_)
      refine lv_iload_n hx hb dX5_measureDepths_49 rfl (lv_at hl 1 rfl) ?_
      refine lv_aload_n hx hb dX5_measureDepths_50 rfl (lv_at hl 0 rfl) ?_
      refine g_get C E 2 3 (fun _ h => List.mem_cons_of_mem _ (List.mem_append_left _ (List.mem_append_right _ h))) rfl rfl (by decide) (List.mem_of_getElem? (i := 1) rfl) rfl rfl dX5_measureDepths_51 ?_
      refine lv_iload_n hx hb dX5_measureDepths_54 rfl (lv_at hl 3 rfl) ?_
      obtain ⟨h5, hf⟩ := ck_some hf
      refine g_iald C E 14 rfl h5 dX5_measureDepths_55 ?_
      refine va_mmax hx hb (hml.trans hl.1.symm) hown (hts (.methodLink RX5 46 Lib.Math.max.name) (List.mem_of_getElem? (i := 2) rfl)) (hts (.static Lib.Math.max.name) (List.mem_of_getElem? (i := 3) rfl)) (hts (.initialized "java/lang/Math") (List.mem_of_getElem? (i := 4) rfl)) (hts (.code Lib.Math.max.name Lib.Math.max.code 2 (some .int)) (List.mem_of_getElem? (i := 5) rfl)) (Nat.le_of_ble_eq_true rfl) (Nat.le_of_ble_eq_true rfl) (Nat.le_of_ble_eq_true rfl) (Nat.le_of_ble_eq_true rfl) dX5_measureDepths_56 ?_
      refine lv_istore_n (lv' := [(1, .int (if x1 < ((upd dep x3.toNatClampNeg o2) x3.toNatClampNeg) then ((upd dep x3.toNatClampNeg o2) x3.toNatClampNeg) else x1)), (0, .ref (a 2)), (2, .int x2), (3, .int x3)]) hx hb dX5_measureDepths_59 rfl hl (by decide) rfl (fun ls hl => ?_)
      refine lv_iinc (v := (x3 + 1)) (lv' := [(3, .int (x3 + 1)), (1, .int (if x1 < ((upd dep x3.toNatClampNeg o2) x3.toNatClampNeg) then ((upd dep x3.toNatClampNeg o2) x3.toNatClampNeg) else x1)), (0, .ref (a 2)), (2, .int x2)]) hx hb dX5_measureDepths_60 hl (k := 3) rfl rfl (by decide) rfl (fun ls hl => ?_)
      refine lv_goto (tgt := 32) hx hb dX5_measureDepths_63 (by decide) ?_
      exact ih (upd dep x3.toNatClampNeg o2) (if x1 < ((upd dep x3.toNatClampNeg o2) x3.toNatClampNeg) then ((upd dep x3.toNatClampNeg o2) x3.toNatClampNeg) else x1) (x3 + 1) _ _ _ E (lv_sub hl [2, 1, 3, 0] rfl) hf
def f_X5_measureDepths_L25 (isz : Nat → Int32) (igd : Nat → Int32) : Nat → (Nat → Int32) → Int32 → Int32 → Option (Int32 × (Nat → Int32))
  | 0, _, _, _ => none
  | n + 1, dep, x1, x2 =>
  if (3 : Int32) < x2 then
    some (x1, dep)
  else
    f_X5_measureDepths_L32 isz igd x2 (fun dep x1 x2 => f_X5_measureDepths_L25 isz igd n dep x1 x2) FU dep x1 (0 : Int32)
set_option maxHeartbeats 4000000 in
set_option maxRecDepth 100000 in
theorem w_X5_measureDepths_L25 {p : Program} {l : Launch} {e : Env} {s : State} {m : MethodId} {args : Array Value} {below : List Frame} {meth : Method} {c : Code} {A : Nat → Prop} {D : va_G} {cI cJ cZ : ClassId} {a : Nat → Nat} {vl : Nat → Int32} {hs : Nat → Int32} {isz : Nat → Int32} {igd : Nat → Int32} {iup : Nat → Int32} {idn : Nat → Int32} {osz : Nat → Int32} {ogd : Nat → Int32} {oup : Nat → Int32} {odn : Nat → Int32} {rsz : Int32} {lgd : Nat → Int32} {llf : Nat → Int64} {ldb : Nat → Int64} {ldy : Nat → Int32} {lsz : Int32} {lti : Int64} {pgd : Nat → Int32} {plf : Nat → Int64} {pun : Nat → Int32} {psz : Int32} {bgd : Nat → Int32} {bam : Nat → Int64} {bwt : Nat → Int64} {bsh : Nat → Int64} {brm : Nat → Int64} {bsz : Int32} {cab : Nat → Int64} {cbl : Nat → Int64} {tod : Int32} {imp : Int64} {dis : Int64} {owe : Int64} {itr : Int64} (C : gC p s m args meth c cX5_measureDepths 4 (some .int) wsX5_measureDepths RX5 A) {o : Int32 × (Nat → Int32)} :
    ∀ (n : Nat) (dep : Nat → Int32) (x1 : Int32) (x2 : Int32) (H : Heap) (locs : List Loc) (ls : Array Slot), vE s A D (gT cI cJ cZ) (cW a cI cJ cZ vl hs isz igd iup idn osz ogd oup odn dep rsz lgd llf ldb ldy lsz lti pgd plf pun psz bgd bam bwt bsh brm bsz cab cbl tod imp dis owe itr) H locs → lv_has ls 4 [(0, .ref (a 2)), (1, .int x1), (2, .int x2)] → f_X5_measureDepths_L25 isz igd n dep x1 x2 = some o → W p l e rm_X5_measureDepths s m args below meth c H locs 0 0 (MQ below (gQi D (gT cI cJ cZ) A (cW a cI cJ cZ vl hs isz igd iup idn osz ogd oup odn o.2 rsz lgd llf ldb ldy lsz lti pgd plf pun psz bgd bam bwt bsh brm bsz cab cbl tod imp dis owe itr) o.1) args s 0 0 A) (F0 m 25 ls []) := by
  obtain ⟨hx, hb, hr, hml, hown, hts, hlocks, hN, hA⟩ := id C
  intro n
  induction n with
  | zero =>
    intro dep x1 x2 H locs ls E hl hf
    rw [f_X5_measureDepths_L25] at hf
    cases hf
  | succ n ih =>
    intro dep x1 x2 H locs ls E hl hf
    rw [f_X5_measureDepths_L25] at hf
    refine lv_iload_n hx hb dX5_measureDepths_25 rfl (lv_at hl 2 rfl) ?_
    refine lv_iconst (v := 3) hx hb dX5_measureDepths_26 (by decide) ?_
    refine lv_icmp_gt (tgt := 72) hx hb dX5_measureDepths_27 (by decide) (fun c1 => ?_) (fun c1 => ?_)
    · rw [if_pos c1] at hf
      refine lv_iload_n hx hb dX5_measureDepths_72 rfl (lv_at hl 1 rfl) ?_
      obtain rfl := Option.some.inj hf
      exact g_iret C E dX5_measureDepths_73
    · rw [if_neg c1] at hf
      refine lv_iconst (v := 0) hx hb dX5_measureDepths_30 (by decide) ?_
      refine lv_istore_n (lv' := [(3, .int (0 : Int32)), (0, .ref (a 2)), (1, .int x1), (2, .int x2)]) hx hb dX5_measureDepths_31 rfl hl (by decide) rfl (fun ls hl => ?_)
      exact w_X5_measureDepths_L32 C ih FU dep x1 (0 : Int32) _ _ _ E (lv_sub hl [1, 2, 3, 0] rfl) hf
def f_X5_measureDepths_L4 (isz : Nat → Int32) (igd : Nat → Int32) (x1 : Int32) : Nat → (Nat → Int32) → Int32 → Option (Int32 × (Nat → Int32))
  | 0, _, _ => none
  | n + 1, dep, x2 =>
  if (12 : Int32) ≤ x2 then
    f_X5_measureDepths_L25 isz igd FU dep x1 (0 : Int32)
  else
    ck x2 12 <|
    f_X5_measureDepths_L4 isz igd x1 n (upd dep x2.toNatClampNeg (0 : Int32)) (x2 + 1)
set_option maxHeartbeats 4000000 in
set_option maxRecDepth 100000 in
theorem w_X5_measureDepths_L4 {p : Program} {l : Launch} {e : Env} {s : State} {m : MethodId} {args : Array Value} {below : List Frame} {meth : Method} {c : Code} {A : Nat → Prop} {D : va_G} {cI cJ cZ : ClassId} {a : Nat → Nat} {vl : Nat → Int32} {hs : Nat → Int32} {isz : Nat → Int32} {igd : Nat → Int32} {iup : Nat → Int32} {idn : Nat → Int32} {osz : Nat → Int32} {ogd : Nat → Int32} {oup : Nat → Int32} {odn : Nat → Int32} {rsz : Int32} {lgd : Nat → Int32} {llf : Nat → Int64} {ldb : Nat → Int64} {ldy : Nat → Int32} {lsz : Int32} {lti : Int64} {pgd : Nat → Int32} {plf : Nat → Int64} {pun : Nat → Int32} {psz : Int32} {bgd : Nat → Int32} {bam : Nat → Int64} {bwt : Nat → Int64} {bsh : Nat → Int64} {brm : Nat → Int64} {bsz : Int32} {cab : Nat → Int64} {cbl : Nat → Int64} {tod : Int32} {imp : Int64} {dis : Int64} {owe : Int64} {itr : Int64} (C : gC p s m args meth c cX5_measureDepths 4 (some .int) wsX5_measureDepths RX5 A) {x1 : Int32} {o : Int32 × (Nat → Int32)} :
    ∀ (n : Nat) (dep : Nat → Int32) (x2 : Int32) (H : Heap) (locs : List Loc) (ls : Array Slot), vE s A D (gT cI cJ cZ) (cW a cI cJ cZ vl hs isz igd iup idn osz ogd oup odn dep rsz lgd llf ldb ldy lsz lti pgd plf pun psz bgd bam bwt bsh brm bsz cab cbl tod imp dis owe itr) H locs → lv_has ls 4 [(0, .ref (a 2)), (1, .int x1), (2, .int x2)] → f_X5_measureDepths_L4 isz igd x1 n dep x2 = some o → W p l e rm_X5_measureDepths s m args below meth c H locs 0 0 (MQ below (gQi D (gT cI cJ cZ) A (cW a cI cJ cZ vl hs isz igd iup idn osz ogd oup odn o.2 rsz lgd llf ldb ldy lsz lti pgd plf pun psz bgd bam bwt bsh brm bsz cab cbl tod imp dis owe itr) o.1) args s 0 0 A) (F0 m 4 ls []) := by
  obtain ⟨hx, hb, hr, hml, hown, hts, hlocks, hN, hA⟩ := id C
  intro n
  induction n with
  | zero =>
    intro dep x2 H locs ls E hl hf
    rw [f_X5_measureDepths_L4] at hf
    cases hf
  | succ n ih =>
    intro dep x2 H locs ls E hl hf
    rw [f_X5_measureDepths_L4] at hf
    refine lv_iload_n hx hb dX5_measureDepths_4 rfl (lv_at hl 2 rfl) ?_
    refine lv_bipush (v := 12) hx hb dX5_measureDepths_5 (by decide) ?_
    refine lv_icmp_ge (tgt := 23) hx hb dX5_measureDepths_7 (by decide) (fun c1 => ?_) (fun c1 => ?_)
    · rw [if_pos c1] at hf
      refine lv_iconst (v := 0) hx hb dX5_measureDepths_23 (by decide) ?_
      refine lv_istore_n (lv' := [(2, .int (0 : Int32)), (0, .ref (a 2)), (1, .int x1)]) hx hb dX5_measureDepths_24 rfl hl (by decide) rfl (fun ls hl => ?_)
      exact w_X5_measureDepths_L25 C  FU dep x1 (0 : Int32) _ _ _ E (lv_sub hl [1, 2, 0] rfl) hf
    · rw [if_neg c1] at hf
      refine lv_aload_n hx hb dX5_measureDepths_10 rfl (lv_at hl 0 rfl) ?_
      refine g_get C E 2 3 (fun _ h => List.mem_cons_of_mem _ (List.mem_append_left _ (List.mem_append_right _ h))) rfl rfl (by decide) (List.mem_of_getElem? (i := 1) rfl) rfl rfl dX5_measureDepths_11 ?_
      refine lv_iload_n hx hb dX5_measureDepths_14 rfl (lv_at hl 2 rfl) ?_
      refine lv_iconst (v := 0) hx hb dX5_measureDepths_15 (by decide) ?_
      obtain ⟨h2, hf⟩ := ck_some hf
      refine g_iast (w' := (cW a cI cJ cZ vl hs isz igd iup idn osz ogd oup odn (upd dep x2.toNatClampNeg (0 : Int32)) rsz lgd llf ldb ldy lsz lti pgd plf pun psz bgd bam bwt bsh brm bsz cab cbl tod imp dis owe itr)) C E 14 rfl h2 dX5_measureDepths_16 rfl (fun H locs E => ?_)
      refine lv_iinc (v := (x2 + 1)) (lv' := [(2, .int (x2 + 1)), (0, .ref (a 2)), (1, .int x1)]) hx hb dX5_measureDepths_17 hl (k := 2) rfl rfl (by decide) rfl (fun ls hl => ?_)
      refine lv_goto (tgt := 4) hx hb dX5_measureDepths_20 (by decide) ?_
      exact ih (upd dep x2.toNatClampNeg (0 : Int32)) (x2 + 1) _ _ _ E (lv_sub hl [1, 2, 0] rfl) hf
def f_X5_measureDepths (isz : Nat → Int32) (igd : Nat → Int32) (dep : Nat → Int32)  : Option (Int32 × (Nat → Int32)) :=
  f_X5_measureDepths_L4 isz igd (0 : Int32) FU dep (0 : Int32)
set_option maxHeartbeats 4000000 in
set_option maxRecDepth 100000 in
theorem c_X5_measureDepths {l : Launch} {D : va_G} {cI cJ cZ : ClassId} {a : Nat → Nat} {sz : Nat} {vl : Nat → Int32} {hs : Nat → Int32} {isz : Nat → Int32} {igd : Nat → Int32} {iup : Nat → Int32} {idn : Nat → Int32} {osz : Nat → Int32} {ogd : Nat → Int32} {oup : Nat → Int32} {odn : Nat → Int32} {dep : Nat → Int32} {rsz : Int32} {lgd : Nat → Int32} {llf : Nat → Int64} {ldb : Nat → Int64} {ldy : Nat → Int32} {lsz : Int32} {lti : Int64} {pgd : Nat → Int32} {plf : Nat → Int64} {pun : Nat → Int32} {psz : Int32} {bgd : Nat → Int32} {bam : Nat → Int64} {bwt : Nat → Int64} {bsh : Nat → Int64} {brm : Nat → Int64} {bsz : Int32} {cab : Nat → Int64} {cbl : Nat → Int64} {tod : Int32} {imp : Int64} {dis : Int64} {owe : Int64} {itr : Int64} {o : Int32 × (Nat → Int32)} (hf : f_X5_measureDepths isz igd dep = some o) : gMi l yX5_measureDepths wsX5_measureDepths rm_X5_measureDepths D (gT cI cJ cZ) (cW a cI cJ cZ vl hs isz igd iup idn osz ogd oup odn dep rsz lgd llf ldb ldy lsz lti pgd plf pun psz bgd bam bwt bsh brm bsz cab cbl tod imp dis owe itr) (cW a cI cJ cZ vl hs isz igd iup idn osz ogd oup odn o.2 rsz lgd llf ldb ldy lsz lti pgd plf pun psz bgd bam bwt bsh brm bsz cab cbl tod imp dis owe itr) sz [.ref (a 2)] o.1 := by
  refine g_of (cc := cX5_measureDepths) (maxL := 4) (ret := (some .int)) (by decide) rfl (Nat.le_of_ble_eq_true rfl) ?_
  intro p e s m below meth c A ls hAe C hl E
  rw [← hAe]
  obtain ⟨hx, hb, hr, hml, hown, hts, hlocks, hN, hA⟩ := id C
  have hl : lv_has ls 4 [(0, .ref (a 2))] := hl
  have E : vE s A D (gT cI cJ cZ) (cW a cI cJ cZ vl hs isz igd iup idn osz ogd oup odn dep rsz lgd llf ldb ldy lsz lti pgd plf pun psz bgd bam bwt bsh brm bsz cab cbl tod imp dis owe itr) s.heap [] := E
  rw [f_X5_measureDepths] at hf
  refine lv_iconst (v := 0) hx hb dX5_measureDepths_0 (by decide) ?_
  refine lv_istore_n (lv' := [(1, .int (0 : Int32)), (0, .ref (a 2))]) hx hb dX5_measureDepths_1 rfl hl (by decide) rfl (fun ls hl => ?_)
  refine lv_iconst (v := 0) hx hb dX5_measureDepths_2 (by decide) ?_
  refine lv_istore_n (lv' := [(2, .int (0 : Int32)), (1, .int (0 : Int32)), (0, .ref (a 2))]) hx hb dX5_measureDepths_3 rfl hl (by decide) rfl (fun ls hl => ?_)
  exact w_X5_measureDepths_L4 C  FU dep (0 : Int32) _ _ _ E (lv_sub hl [2, 1, 0] rfl) hf
abbrev rm_X5_addNeed : Room := { frames := 4, cells := 0, slots := 0, locals := 91 }
theorem hd_X5_addNeed : yX5_addNeed.cls ≠ "java/lang/invoke/MethodHandle" ∧ yX5_addNeed.cls ≠ "java/lang/invoke/VarHandle" ∧ (parseMethodDescriptor yX5_addNeed.desc).map (fun d => d.parameters.length) = some 4 := by decide +kernel
def f_X5_addNeed (hs : Nat → Int32) (isz : Nat → Int32) (igd : Nat → Int32) (iup : Nat → Int32) (idn : Nat → Int32) (dep : Nat → Int32) (x1 : Int32) (x2 : Int32) (x3 : Int32) (x4 : Int32) : Option (Int32 × (Nat → Int32) × (Nat → Int32) × (Nat → Int32) × (Nat → Int32) × (Nat → Int32)) :=
  ck x1 12 <|
  if (hs x1.toNatClampNeg) = 0 then
    some ((0 : Int32), isz, igd, iup, idn, dep)
  else
    (f_X3_add_i isz igd iup idn x1 x2 x3 x4).bind fun o3 =>
    if o3.1 = 0 then
      some ((0 : Int32), o3.2.1, o3.2.2.1, o3.2.2.2.1, o3.2.2.2.2, dep)
    else
      (f_X5_measureDepths o3.2.1 o3.2.2.1 dep).bind fun o6 =>
      if o6.1 ≤ (3 : Int32) then
        some ((1 : Int32), o3.2.1, o3.2.2.1, o3.2.2.2.1, o3.2.2.2.2, o6.2)
      else
        (f_X3_dropLast_i o3.2.1 x1).bind fun o9 =>
        (f_X5_measureDepths o9 o3.2.2.1 o6.2).bind fun o11 =>
        some ((0 : Int32), o9, o3.2.2.1, o3.2.2.2.1, o3.2.2.2.2, o11.2)
set_option maxHeartbeats 4000000 in
set_option maxRecDepth 100000 in
theorem c_X5_addNeed {l : Launch} {D : va_G} {cI cJ cZ : ClassId} {a : Nat → Nat} {sz : Nat} {vl : Nat → Int32} {hs : Nat → Int32} {isz : Nat → Int32} {igd : Nat → Int32} {iup : Nat → Int32} {idn : Nat → Int32} {osz : Nat → Int32} {ogd : Nat → Int32} {oup : Nat → Int32} {odn : Nat → Int32} {dep : Nat → Int32} {rsz : Int32} {lgd : Nat → Int32} {llf : Nat → Int64} {ldb : Nat → Int64} {ldy : Nat → Int32} {lsz : Int32} {lti : Int64} {pgd : Nat → Int32} {plf : Nat → Int64} {pun : Nat → Int32} {psz : Int32} {bgd : Nat → Int32} {bam : Nat → Int64} {bwt : Nat → Int64} {bsh : Nat → Int64} {brm : Nat → Int64} {bsz : Int32} {cab : Nat → Int64} {cbl : Nat → Int64} {tod : Int32} {imp : Int64} {dis : Int64} {owe : Int64} {itr : Int64} {x1 : Int32} {x2 : Int32} {x3 : Int32} {x4 : Int32} {o : Int32 × (Nat → Int32) × (Nat → Int32) × (Nat → Int32) × (Nat → Int32) × (Nat → Int32)} (hf : f_X5_addNeed hs isz igd iup idn dep x1 x2 x3 x4 = some o) : gMi l yX5_addNeed wsX5_addNeed rm_X5_addNeed D (gT cI cJ cZ) (cW a cI cJ cZ vl hs isz igd iup idn osz ogd oup odn dep rsz lgd llf ldb ldy lsz lti pgd plf pun psz bgd bam bwt bsh brm bsz cab cbl tod imp dis owe itr) (cW a cI cJ cZ vl hs o.2.1 o.2.2.1 o.2.2.2.1 o.2.2.2.2.1 osz ogd oup odn o.2.2.2.2.2 rsz lgd llf ldb ldy lsz lti pgd plf pun psz bgd bam bwt bsh brm bsz cab cbl tod imp dis owe itr) sz [.ref (a 2), .int x1, .int x2, .int x3, .int x4] o.1 := by
  refine g_of (cc := cX5_addNeed) (maxL := 5) (ret := (some .boolean)) (by decide) rfl (Nat.le_of_ble_eq_true rfl) ?_
  intro p e s m below meth c A ls hAe C hl E
  rw [← hAe]
  obtain ⟨hx, hb, hr, hml, hown, hts, hlocks, hN, hA⟩ := id C
  have hl : lv_has ls 5 [(0, .ref (a 2)), (1, .int x1), (2, .int x2), (3, .int x3), (4, .int x4)] := hl
  have E : vE s A D (gT cI cJ cZ) (cW a cI cJ cZ vl hs isz igd iup idn osz ogd oup odn dep rsz lgd llf ldb ldy lsz lti pgd plf pun psz bgd bam bwt bsh brm bsz cab cbl tod imp dis owe itr) s.heap [] := E
  rw [f_X5_addNeed] at hf
  refine lv_aload_n hx hb dX5_addNeed_0 rfl (lv_at hl 0 rfl) ?_
  refine g_get C E 2 0 (fun _ h => List.mem_cons_of_mem _ (List.mem_append_left _ (List.mem_append_right _ h))) rfl rfl (by decide) (List.mem_of_getElem? (i := 1) rfl) rfl rfl dX5_addNeed_1 ?_
  refine lv_iload_n hx hb dX5_addNeed_4 rfl (lv_at hl 1 rfl) ?_
  obtain ⟨h1, hf⟩ := ck_some hf
  refine g_zald C E 3 rfl h1 dX5_addNeed_5 ?_
  refine lv_if_eq (tgt := 24) hx hb dX5_addNeed_6 (by decide) (fun c2 => ?_) (fun c2 => ?_)
  · rw [if_pos c2] at hf
    refine lv_iconst (v := 0) hx hb dX5_addNeed_24 (by decide) ?_
    obtain rfl := Option.some.inj hf
    exact g_zret (r := 0) C E rfl dX5_addNeed_25
  · rw [if_neg c2] at hf
    refine lv_aload_n hx hb dX5_addNeed_9 rfl (lv_at hl 0 rfl) ?_
    refine g_get C E 2 1 (fun _ h => List.mem_cons_of_mem _ (List.mem_append_left _ (List.mem_append_right _ h))) rfl rfl (by decide) (List.mem_of_getElem? (i := 2) rfl) rfl rfl dX5_addNeed_10 ?_
    refine lv_iload_n hx hb dX5_addNeed_13 rfl (lv_at hl 1 rfl) ?_
    refine lv_iload_n hx hb dX5_addNeed_14 rfl (lv_at hl 2 rfl) ?_
    refine lv_iload_n hx hb dX5_addNeed_15 rfl (lv_at hl 3 rfl) ?_
    refine lv_iload hx hb dX5_addNeed_16 (lv_at hl 4 rfl) ?_
    obtain ⟨o3, e4, hf⟩ := bd_some hf
    refine g_calli (w' := (cW a cI cJ cZ vl hs o3.2.1 o3.2.2.1 o3.2.2.2.1 o3.2.2.2.2 osz ogd oup odn dep rsz lgd llf ldb ldy lsz lti pgd plf pun psz bgd bam bwt bsh brm bsz cab cbl tod imp dis owe itr)) C E (g_runV (As := [.int x1, .int x2, .int x3, .int x4]) (rest := []) C E (c_X3_add_i e4) (cwV 4 hts gX5_addNeed_X3_add rfl rfl rfl ⟨rfl, hd_X3_add_i⟩ ⟨Nat.le_of_ble_eq_true rfl, Nat.le_of_ble_eq_true rfl⟩) (q0 := 4) (ci := 3) rfl rfl rfl rfl hl.1 rfl (Nat.le_of_ble_eq_true rfl) dX5_addNeed_18 ⟨Nat.le_of_ble_eq_true rfl, Nat.le_of_ble_eq_true rfl⟩) (fun H locs E => ?_)
    refine lv_if_ne (tgt := 26) hx hb dX5_addNeed_21 (by decide) (fun c5 => ?_) (fun c5 => ?_)
    · rw [if_neg c5] at hf
      refine lv_aload_n hx hb dX5_addNeed_26 rfl (lv_at hl 0 rfl) ?_
      obtain ⟨o6, e7, hf⟩ := bd_some hf
      refine g_calli (w' := (cW a cI cJ cZ vl hs o3.2.1 o3.2.2.1 o3.2.2.2.1 o3.2.2.2.2 osz ogd oup odn o6.2 rsz lgd llf ldb ldy lsz lti pgd plf pun psz bgd bam bwt bsh brm bsz cab cbl tod imp dis owe itr)) C E (g_runV (As := []) (rest := []) C E (c_X5_measureDepths e7) (cwV 0 hts gX5_addNeed_X5_measureDepths rfl rfl rfl ⟨rfl, hd_X5_measureDepths⟩ ⟨Nat.le_of_ble_eq_true rfl, Nat.le_of_ble_eq_true rfl⟩) (q0 := 2) (ci := 5) rfl rfl rfl rfl hl.1 rfl (Nat.le_of_ble_eq_true rfl) dX5_addNeed_27 ⟨Nat.le_of_ble_eq_true rfl, Nat.le_of_ble_eq_true rfl⟩) (fun H locs E => ?_)
      refine lv_iconst (v := 3) hx hb dX5_addNeed_30 (by decide) ?_
      refine lv_icmp_le (tgt := 49) hx hb dX5_addNeed_31 (by decide) (fun c8 => ?_) (fun c8 => ?_)
      · rw [if_pos c8] at hf
        refine lv_iconst (v := 1) hx hb dX5_addNeed_49 (by decide) ?_
        obtain rfl := Option.some.inj hf
        exact g_zret (r := 1) C E rfl dX5_addNeed_50
      · rw [if_neg c8] at hf
        refine lv_aload_n hx hb dX5_addNeed_34 rfl (lv_at hl 0 rfl) ?_
        refine g_get C E 2 1 (fun _ h => List.mem_cons_of_mem _ (List.mem_append_left _ (List.mem_append_right _ h))) rfl rfl (by decide) (List.mem_of_getElem? (i := 2) rfl) rfl rfl dX5_addNeed_35 ?_
        refine lv_iload_n hx hb dX5_addNeed_38 rfl (lv_at hl 1 rfl) ?_
        obtain ⟨o9, e10, hf⟩ := bd_some hf
        refine g_callv (w' := (cW a cI cJ cZ vl hs o9 o3.2.2.1 o3.2.2.2.1 o3.2.2.2.2 osz ogd oup odn o6.2 rsz lgd llf ldb ldy lsz lti pgd plf pun psz bgd bam bwt bsh brm bsz cab cbl tod imp dis owe itr)) C E (g_runV (As := [.int x1]) (rest := []) C E (c_X3_dropLast_i e10) (cwV 1 hts gX5_addNeed_X3_dropLast rfl rfl rfl ⟨rfl, hd_X3_dropLast_i⟩ ⟨Nat.le_of_ble_eq_true rfl, Nat.le_of_ble_eq_true rfl⟩) (q0 := 4) (ci := 3) rfl rfl rfl rfl hl.1 rfl (Nat.le_of_ble_eq_true rfl) dX5_addNeed_39 ⟨Nat.le_of_ble_eq_true rfl, Nat.le_of_ble_eq_true rfl⟩) (fun H locs E => ?_)
        refine lv_aload_n hx hb dX5_addNeed_42 rfl (lv_at hl 0 rfl) ?_
        obtain ⟨o11, e12, hf⟩ := bd_some hf
        refine g_calli (w' := (cW a cI cJ cZ vl hs o9 o3.2.2.1 o3.2.2.2.1 o3.2.2.2.2 osz ogd oup odn o11.2 rsz lgd llf ldb ldy lsz lti pgd plf pun psz bgd bam bwt bsh brm bsz cab cbl tod imp dis owe itr)) C E (g_runV (As := []) (rest := []) C E (c_X5_measureDepths e12) (cwV 0 hts gX5_addNeed_X5_measureDepths rfl rfl rfl ⟨rfl, hd_X5_measureDepths⟩ ⟨Nat.le_of_ble_eq_true rfl, Nat.le_of_ble_eq_true rfl⟩) (q0 := 2) (ci := 5) rfl rfl rfl rfl hl.1 rfl (Nat.le_of_ble_eq_true rfl) dX5_addNeed_43 ⟨Nat.le_of_ble_eq_true rfl, Nat.le_of_ble_eq_true rfl⟩) (fun H locs E => ?_)
        refine lv_pop hx hb dX5_addNeed_46 rfl ?_
        refine lv_iconst (v := 0) hx hb dX5_addNeed_47 (by decide) ?_
        obtain rfl := Option.some.inj hf
        exact g_zret (r := 0) C E rfl dX5_addNeed_48
    · rw [if_pos c5] at hf
      refine lv_iconst (v := 0) hx hb dX5_addNeed_24 (by decide) ?_
      obtain rfl := Option.some.inj hf
      exact g_zret (r := 0) C E rfl dX5_addNeed_25
abbrev rm_X5_addByProduct : Room := { frames := 4, cells := 0, slots := 0, locals := 91 }
theorem hd_X5_addByProduct : yX5_addByProduct.cls ≠ "java/lang/invoke/MethodHandle" ∧ yX5_addByProduct.cls ≠ "java/lang/invoke/VarHandle" ∧ (parseMethodDescriptor yX5_addByProduct.desc).map (fun d => d.parameters.length) = some 4 := by decide +kernel
def f_X5_addByProduct (hs : Nat → Int32) (osz : Nat → Int32) (ogd : Nat → Int32) (oup : Nat → Int32) (odn : Nat → Int32) (x1 : Int32) (x2 : Int32) (x3 : Int32) (x4 : Int32) : Option (Int32 × (Nat → Int32) × (Nat → Int32) × (Nat → Int32) × (Nat → Int32)) :=
  ck x1 12 <|
  if (hs x1.toNatClampNeg) = 0 then
    some ((0 : Int32), osz, ogd, oup, odn)
  else
    (f_X3_add_o osz ogd oup odn x1 x2 x3 x4).bind fun o3 =>
    if o3.1 = 0 then
      some ((0 : Int32), o3.2.1, o3.2.2.1, o3.2.2.2.1, o3.2.2.2.2)
    else
      some ((1 : Int32), o3.2.1, o3.2.2.1, o3.2.2.2.1, o3.2.2.2.2)
set_option maxHeartbeats 4000000 in
set_option maxRecDepth 100000 in
theorem c_X5_addByProduct {l : Launch} {D : va_G} {cI cJ cZ : ClassId} {a : Nat → Nat} {sz : Nat} {vl : Nat → Int32} {hs : Nat → Int32} {isz : Nat → Int32} {igd : Nat → Int32} {iup : Nat → Int32} {idn : Nat → Int32} {osz : Nat → Int32} {ogd : Nat → Int32} {oup : Nat → Int32} {odn : Nat → Int32} {dep : Nat → Int32} {rsz : Int32} {lgd : Nat → Int32} {llf : Nat → Int64} {ldb : Nat → Int64} {ldy : Nat → Int32} {lsz : Int32} {lti : Int64} {pgd : Nat → Int32} {plf : Nat → Int64} {pun : Nat → Int32} {psz : Int32} {bgd : Nat → Int32} {bam : Nat → Int64} {bwt : Nat → Int64} {bsh : Nat → Int64} {brm : Nat → Int64} {bsz : Int32} {cab : Nat → Int64} {cbl : Nat → Int64} {tod : Int32} {imp : Int64} {dis : Int64} {owe : Int64} {itr : Int64} {x1 : Int32} {x2 : Int32} {x3 : Int32} {x4 : Int32} {o : Int32 × (Nat → Int32) × (Nat → Int32) × (Nat → Int32) × (Nat → Int32)} (hf : f_X5_addByProduct hs osz ogd oup odn x1 x2 x3 x4 = some o) : gMi l yX5_addByProduct wsX5_addByProduct rm_X5_addByProduct D (gT cI cJ cZ) (cW a cI cJ cZ vl hs isz igd iup idn osz ogd oup odn dep rsz lgd llf ldb ldy lsz lti pgd plf pun psz bgd bam bwt bsh brm bsz cab cbl tod imp dis owe itr) (cW a cI cJ cZ vl hs isz igd iup idn o.2.1 o.2.2.1 o.2.2.2.1 o.2.2.2.2 dep rsz lgd llf ldb ldy lsz lti pgd plf pun psz bgd bam bwt bsh brm bsz cab cbl tod imp dis owe itr) sz [.ref (a 2), .int x1, .int x2, .int x3, .int x4] o.1 := by
  refine g_of (cc := cX5_addByProduct) (maxL := 5) (ret := (some .boolean)) (by decide) rfl (Nat.le_of_ble_eq_true rfl) ?_
  intro p e s m below meth c A ls hAe C hl E
  rw [← hAe]
  obtain ⟨hx, hb, hr, hml, hown, hts, hlocks, hN, hA⟩ := id C
  have hl : lv_has ls 5 [(0, .ref (a 2)), (1, .int x1), (2, .int x2), (3, .int x3), (4, .int x4)] := hl
  have E : vE s A D (gT cI cJ cZ) (cW a cI cJ cZ vl hs isz igd iup idn osz ogd oup odn dep rsz lgd llf ldb ldy lsz lti pgd plf pun psz bgd bam bwt bsh brm bsz cab cbl tod imp dis owe itr) s.heap [] := E
  rw [f_X5_addByProduct] at hf
  refine lv_aload_n hx hb dX5_addByProduct_0 rfl (lv_at hl 0 rfl) ?_
  refine g_get C E 2 0 (fun _ h => List.mem_cons_of_mem _ (List.mem_append_left _ (List.mem_append_right _ h))) rfl rfl (by decide) (List.mem_of_getElem? (i := 1) rfl) rfl rfl dX5_addByProduct_1 ?_
  refine lv_iload_n hx hb dX5_addByProduct_4 rfl (lv_at hl 1 rfl) ?_
  obtain ⟨h1, hf⟩ := ck_some hf
  refine g_zald C E 3 rfl h1 dX5_addByProduct_5 ?_
  refine lv_if_eq (tgt := 28) hx hb dX5_addByProduct_6 (by decide) (fun c2 => ?_) (fun c2 => ?_)
  · rw [if_pos c2] at hf
    refine lv_iconst (v := 0) hx hb dX5_addByProduct_28 (by decide) ?_
    obtain rfl := Option.some.inj hf
    exact g_zret (r := 0) C E rfl dX5_addByProduct_29
  · rw [if_neg c2] at hf
    refine lv_aload_n hx hb dX5_addByProduct_9 rfl (lv_at hl 0 rfl) ?_
    refine g_get C E 2 2 (fun _ h => List.mem_cons_of_mem _ (List.mem_append_left _ (List.mem_append_right _ h))) rfl rfl (by decide) (List.mem_of_getElem? (i := 2) rfl) rfl rfl dX5_addByProduct_10 ?_
    refine lv_iload_n hx hb dX5_addByProduct_13 rfl (lv_at hl 1 rfl) ?_
    refine lv_iload_n hx hb dX5_addByProduct_14 rfl (lv_at hl 2 rfl) ?_
    refine lv_iload_n hx hb dX5_addByProduct_15 rfl (lv_at hl 3 rfl) ?_
    refine lv_iload hx hb dX5_addByProduct_16 (lv_at hl 4 rfl) ?_
    obtain ⟨o3, e4, hf⟩ := bd_some hf
    refine g_calli (w' := (cW a cI cJ cZ vl hs isz igd iup idn o3.2.1 o3.2.2.1 o3.2.2.2.1 o3.2.2.2.2 dep rsz lgd llf ldb ldy lsz lti pgd plf pun psz bgd bam bwt bsh brm bsz cab cbl tod imp dis owe itr)) C E (g_runV (As := [.int x1, .int x2, .int x3, .int x4]) (rest := []) C E (c_X3_add_o e4) (cwV 4 hts gX5_addByProduct_X3_add rfl rfl rfl ⟨rfl, hd_X3_add_o⟩ ⟨Nat.le_of_ble_eq_true rfl, Nat.le_of_ble_eq_true rfl⟩) (q0 := 9) (ci := 3) rfl rfl rfl rfl hl.1 rfl (Nat.le_of_ble_eq_true rfl) dX5_addByProduct_18 ⟨Nat.le_of_ble_eq_true rfl, Nat.le_of_ble_eq_true rfl⟩) (fun H locs E => ?_)
    refine lv_if_eq (tgt := 28) hx hb dX5_addByProduct_21 (by decide) (fun c5 => ?_) (fun c5 => ?_)
    · rw [if_pos c5] at hf
      refine lv_iconst (v := 0) hx hb dX5_addByProduct_28 (by decide) ?_
      obtain rfl := Option.some.inj hf
      exact g_zret (r := 0) C E rfl dX5_addByProduct_29
    · rw [if_neg c5] at hf
      refine lv_iconst (v := 1) hx hb dX5_addByProduct_24 (by decide) ?_
      refine lv_goto (tgt := 29) hx hb dX5_addByProduct_25 (by decide) ?_
      obtain rfl := Option.some.inj hf
      exact g_zret (r := 1) C E rfl dX5_addByProduct_29
