abbrev rm_L_needs : Room := { frames := 8, cells := 1, slots := 6, locals := 139 }
theorem hd_L_needs : yL_needs.cls ≠ "java/lang/invoke/MethodHandle" ∧ yL_needs.cls ≠ "java/lang/invoke/VarHandle" ∧ (parseMethodDescriptor yL_needs.desc).map (fun d => d.parameters.length) = some 6 := by decide +kernel
def f_L_needs (hs : Nat → Int32) (isz : Nat → Int32) (igd : Nat → Int32) (iup : Nat → Int32) (idn : Nat → Int32) (dep : Nat → Int32) (x1 : Int32) (x2 : Int32) (x3 : Int32) (x4 : Int32) (out : Nat → Int64) : Option (Int32 × (Nat → Int32) × (Nat → Int32) × (Nat → Int32) × (Nat → Int32) × (Nat → Int32) × (Nat → Int64)) :=
  (f_X6_needs hs isz igd iup idn dep x1 x2 x3 x4).bind fun o1 =>
  xb o1.1 (fun r => some ((0 : Int32), o1.2.1, o1.2.2.1, o1.2.2.2.1, o1.2.2.2.2.1, o1.2.2.2.2.2, (vp_updL out (0 : Int32).toNatClampNeg r.toInt64))) (fun En => if En = nIAE then some ((1 : Int32), o1.2.1, o1.2.2.1, o1.2.2.2.1, o1.2.2.2.2.1, o1.2.2.2.2.2, out) else none)
set_option maxHeartbeats 4000000 in
set_option maxRecDepth 100000 in
theorem c_L_needs {l : Launch} {D : va_G} {cI cJ cZ : ClassId} {a : Nat → Nat} {q sz : Nat} {vl : Nat → Int32} {hs : Nat → Int32} {isz : Nat → Int32} {igd : Nat → Int32} {iup : Nat → Int32} {idn : Nat → Int32} {osz : Nat → Int32} {ogd : Nat → Int32} {oup : Nat → Int32} {odn : Nat → Int32} {dep : Nat → Int32} {rsz : Int32} {lgd : Nat → Int32} {llf : Nat → Int64} {ldb : Nat → Int64} {ldy : Nat → Int32} {lsz : Int32} {lti : Int64} {pgd : Nat → Int32} {plf : Nat → Int64} {pun : Nat → Int32} {psz : Int32} {bgd : Nat → Int32} {bam : Nat → Int64} {bwt : Nat → Int64} {bsh : Nat → Int64} {brm : Nat → Int64} {bsz : Int32} {cab : Nat → Int64} {cbl : Nat → Int64} {tod : Int32} {imp : Int64} {dis : Int64} {owe : Int64} {itr : Int64} {x1 : Int32} {x2 : Int32} {x3 : Int32} {x4 : Int32} {out : Nat → Int64} {o : Int32 × (Nat → Int32) × (Nat → Int32) × (Nat → Int32) × (Nat → Int32) × (Nat → Int32) × (Nat → Int64)} (hl0 : l.stackTraces = false) (hf : f_L_needs hs isz igd iup idn dep x1 x2 x3 x4 out = some o) : gMWi l yL_needs wsL_needs rm_L_needs D (gT cI cJ cZ) ((cW a cI cJ cZ vl hs isz igd iup idn osz ogd oup odn dep rsz lgd llf ldb ldy lsz lti pgd plf pun psz bgd bam bwt bsh brm bsz cab cbl tod imp dis owe itr) ++ [(q, .inl (cJ, 1, .inr (.inl out)))]) ((cW a cI cJ cZ vl hs o.2.1 o.2.2.1 o.2.2.2.1 o.2.2.2.2.1 osz ogd oup odn o.2.2.2.2.2.1 rsz lgd llf ldb ldy lsz lti pgd plf pun psz bgd bam bwt bsh brm bsz cab cbl tod imp dis owe itr) ++ [(q, .inl (cJ, 1, .inr (.inl o.2.2.2.2.2.2)))]) sz [.ref (a 0), .int x1, .int x2, .int x3, .int x4, .ref q] o.1 := by
  refine gw_of hl0 (cc := cL_needs) (maxL := 7) (ret := (some .int)) (hh := [(0, 14, 17, 13)]) (by decide) rfl (Nat.le_of_ble_eq_true rfl) ?_
  intro p e s m below meth c A ls hAe C hV htab hl E
  rw [← hAe]
  obtain ⟨hx, hb, hr, hml, hown, hts, hlocks, hN, hA⟩ := id C
  have hl : lv_has ls 7 [(0, .ref (a 0)), (1, .int x1), (2, .int x2), (3, .int x3), (4, .int x4), (5, .ref q)] := hl
  have E : vE s A D (gT cI cJ cZ) ((cW a cI cJ cZ vl hs isz igd iup idn osz ogd oup odn dep rsz lgd llf ldb ldy lsz lti pgd plf pun psz bgd bam bwt bsh brm bsz cab cbl tod imp dis owe itr) ++ [(q, .inl (cJ, 1, .inr (.inl out)))]) s.heap [] := E
  rw [f_L_needs] at hf
  refine lv_aload hx hb dL_needs_0 (lv_at hl 5 rfl) ?_
  refine lv_iconst (v := 0) hx hb dL_needs_2 (by decide) ?_
  refine lv_aload_n hx hb dL_needs_3 rfl (lv_at hl 0 rfl) ?_
  refine lv_iload_n hx hb dL_needs_4 rfl (lv_at hl 1 rfl) ?_
  refine lv_iload_n hx hb dL_needs_5 rfl (lv_at hl 2 rfl) ?_
  refine lv_iload_n hx hb dL_needs_6 rfl (lv_at hl 3 rfl) ?_
  refine lv_iload hx hb dL_needs_7 (lv_at hl 4 rfl) ?_
  obtain ⟨o1, e1, hf⟩ := bd_some hf
  refine gw_calli (wc' := (cW a cI cJ cZ vl hs o1.2.1 o1.2.2.1 o1.2.2.2.1 o1.2.2.2.2.1 osz ogd oup odn o1.2.2.2.2.2 rsz lgd llf ldb ldy lsz lti pgd plf pun psz bgd bam bwt bsh brm bsz cab cbl tod imp dis owe itr)) C E (g_runXV (As := [.int x1, .int x2, .int x3, .int x4]) (rest := [.int 0, .ref q]) C (vE_left E) hV (c_X6_needs hl0 e1) (cwV 4 hts gL_needs_X6_needs rfl rfl rfl ⟨rfl, hd_X6_needs⟩ ⟨(Nat.le_of_ble_eq_true rfl), (Nat.le_of_ble_eq_true rfl)⟩) (q0 := 0) (ci := 6) rfl rfl rfl rfl hl.1 rfl (Nat.le_of_ble_eq_true rfl) dL_needs_9 ⟨(Nat.le_of_ble_eq_true rfl), (Nat.le_of_ble_eq_true rfl)⟩) (fun En ce q9 H locs hE E hq hv hcl => ?_) (fun r H locs hE E => ?_)
  · rw [hE, xb_r] at hf
    by_cases c0 : En = nIAE
    · rw [if_pos c0] at hf
      subst c0
      obtain rfl := Option.some.inj hf
      refine vx_catch (own := RL) (name := nIAE) hown [] ⟨0, 14, 17, 13⟩ [] (htab.trans rfl) (fun z hz => nomatch hz) (by decide) (by decide) (hts (.classLink RL 13 "java/lang/IllegalArgumentException") (List.mem_of_getElem? (i := 1) rfl)) (va_Nw.use rfl (hV.2.2.1.1 nIAE (by decide))) hq hv hcl ?_
      refine lv_astore (lv' := [(6, .ref q9), (0, .ref (a 0)), (1, .int x1), (2, .int x2), (3, .int x3), (4, .int x4), (5, .ref q)]) hx hb dL_needs_17 hl (by decide) rfl (fun ls hl => ?_)
      refine lv_iconst (v := 1) hx hb dL_needs_19 (by decide) ?_
      exact gw_iret C E dL_needs_20
    · rw [if_neg c0] at hf
      cases hf
  · rw [hE, xb_l] at hf
    obtain rfl := Option.some.inj hf
    refine lv_i2l hx hb dL_needs_12 rfl ?_
    refine g_last (w' := ((cW a cI cJ cZ vl hs o1.2.1 o1.2.2.1 o1.2.2.2.1 o1.2.2.2.2.1 osz ogd oup odn o1.2.2.2.2.2 rsz lgd llf ldb ldy lsz lti pgd plf pun psz bgd bam bwt bsh brm bsz cab cbl tod imp dis owe itr) ++ [(q, .inl (cJ, 1, .inr (.inl (vp_updL out (0 : Int32).toNatClampNeg r.toInt64))))])) C E 33 rfl (pk_in 0 1 (by decide)) dL_needs_13 rfl (fun H locs E => ?_)
    refine lv_goto (tgt := 21) hx hb dL_needs_14 (by decide) ?_
    refine lv_iconst (v := 0) hx hb dL_needs_21 (by decide) ?_
    exact gw_iret C E dL_needs_22
abbrev rm_L_yields : Room := { frames := 8, cells := 1, slots := 6, locals := 139 }
theorem hd_L_yields : yL_yields.cls ≠ "java/lang/invoke/MethodHandle" ∧ yL_yields.cls ≠ "java/lang/invoke/VarHandle" ∧ (parseMethodDescriptor yL_yields.desc).map (fun d => d.parameters.length) = some 6 := by decide +kernel
def f_L_yields (hs : Nat → Int32) (osz : Nat → Int32) (ogd : Nat → Int32) (oup : Nat → Int32) (odn : Nat → Int32) (x1 : Int32) (x2 : Int32) (x3 : Int32) (x4 : Int32) (out : Nat → Int64) : Option (Int32 × (Nat → Int32) × (Nat → Int32) × (Nat → Int32) × (Nat → Int32) × (Nat → Int64)) :=
  (f_X6_yields hs osz ogd oup odn x1 x2 x3 x4).bind fun o1 =>
  xb o1.1 (fun r => some ((0 : Int32), o1.2.1, o1.2.2.1, o1.2.2.2.1, o1.2.2.2.2, (vp_updL out (0 : Int32).toNatClampNeg r.toInt64))) (fun En => if En = nIAE then some ((1 : Int32), o1.2.1, o1.2.2.1, o1.2.2.2.1, o1.2.2.2.2, out) else none)
set_option maxHeartbeats 4000000 in
set_option maxRecDepth 100000 in
theorem c_L_yields {l : Launch} {D : va_G} {cI cJ cZ : ClassId} {a : Nat → Nat} {q sz : Nat} {vl : Nat → Int32} {hs : Nat → Int32} {isz : Nat → Int32} {igd : Nat → Int32} {iup : Nat → Int32} {idn : Nat → Int32} {osz : Nat → Int32} {ogd : Nat → Int32} {oup : Nat → Int32} {odn : Nat → Int32} {dep : Nat → Int32} {rsz : Int32} {lgd : Nat → Int32} {llf : Nat → Int64} {ldb : Nat → Int64} {ldy : Nat → Int32} {lsz : Int32} {lti : Int64} {pgd : Nat → Int32} {plf : Nat → Int64} {pun : Nat → Int32} {psz : Int32} {bgd : Nat → Int32} {bam : Nat → Int64} {bwt : Nat → Int64} {bsh : Nat → Int64} {brm : Nat → Int64} {bsz : Int32} {cab : Nat → Int64} {cbl : Nat → Int64} {tod : Int32} {imp : Int64} {dis : Int64} {owe : Int64} {itr : Int64} {x1 : Int32} {x2 : Int32} {x3 : Int32} {x4 : Int32} {out : Nat → Int64} {o : Int32 × (Nat → Int32) × (Nat → Int32) × (Nat → Int32) × (Nat → Int32) × (Nat → Int64)} (hl0 : l.stackTraces = false) (hf : f_L_yields hs osz ogd oup odn x1 x2 x3 x4 out = some o) : gMWi l yL_yields wsL_yields rm_L_yields D (gT cI cJ cZ) ((cW a cI cJ cZ vl hs isz igd iup idn osz ogd oup odn dep rsz lgd llf ldb ldy lsz lti pgd plf pun psz bgd bam bwt bsh brm bsz cab cbl tod imp dis owe itr) ++ [(q, .inl (cJ, 1, .inr (.inl out)))]) ((cW a cI cJ cZ vl hs isz igd iup idn o.2.1 o.2.2.1 o.2.2.2.1 o.2.2.2.2.1 dep rsz lgd llf ldb ldy lsz lti pgd plf pun psz bgd bam bwt bsh brm bsz cab cbl tod imp dis owe itr) ++ [(q, .inl (cJ, 1, .inr (.inl o.2.2.2.2.2)))]) sz [.ref (a 0), .int x1, .int x2, .int x3, .int x4, .ref q] o.1 := by
  refine gw_of hl0 (cc := cL_yields) (maxL := 7) (ret := (some .int)) (hh := [(0, 14, 17, 13)]) (by decide) rfl (Nat.le_of_ble_eq_true rfl) ?_
  intro p e s m below meth c A ls hAe C hV htab hl E
  rw [← hAe]
  obtain ⟨hx, hb, hr, hml, hown, hts, hlocks, hN, hA⟩ := id C
  have hl : lv_has ls 7 [(0, .ref (a 0)), (1, .int x1), (2, .int x2), (3, .int x3), (4, .int x4), (5, .ref q)] := hl
  have E : vE s A D (gT cI cJ cZ) ((cW a cI cJ cZ vl hs isz igd iup idn osz ogd oup odn dep rsz lgd llf ldb ldy lsz lti pgd plf pun psz bgd bam bwt bsh brm bsz cab cbl tod imp dis owe itr) ++ [(q, .inl (cJ, 1, .inr (.inl out)))]) s.heap [] := E
  rw [f_L_yields] at hf
  refine lv_aload hx hb dL_yields_0 (lv_at hl 5 rfl) ?_
  refine lv_iconst (v := 0) hx hb dL_yields_2 (by decide) ?_
  refine lv_aload_n hx hb dL_yields_3 rfl (lv_at hl 0 rfl) ?_
  refine lv_iload_n hx hb dL_yields_4 rfl (lv_at hl 1 rfl) ?_
  refine lv_iload_n hx hb dL_yields_5 rfl (lv_at hl 2 rfl) ?_
  refine lv_iload_n hx hb dL_yields_6 rfl (lv_at hl 3 rfl) ?_
  refine lv_iload hx hb dL_yields_7 (lv_at hl 4 rfl) ?_
  obtain ⟨o1, e1, hf⟩ := bd_some hf
  refine gw_calli (wc' := (cW a cI cJ cZ vl hs isz igd iup idn o1.2.1 o1.2.2.1 o1.2.2.2.1 o1.2.2.2.2 dep rsz lgd llf ldb ldy lsz lti pgd plf pun psz bgd bam bwt bsh brm bsz cab cbl tod imp dis owe itr)) C E (g_runXV (As := [.int x1, .int x2, .int x3, .int x4]) (rest := [.int 0, .ref q]) C (vE_left E) hV (c_X6_yields hl0 e1) (cwV 4 hts gL_yields_X6_yields rfl rfl rfl ⟨rfl, hd_X6_yields⟩ ⟨(Nat.le_of_ble_eq_true rfl), (Nat.le_of_ble_eq_true rfl)⟩) (q0 := 0) (ci := 6) rfl rfl rfl rfl hl.1 rfl (Nat.le_of_ble_eq_true rfl) dL_yields_9 ⟨(Nat.le_of_ble_eq_true rfl), (Nat.le_of_ble_eq_true rfl)⟩) (fun En ce q9 H locs hE E hq hv hcl => ?_) (fun r H locs hE E => ?_)
  · rw [hE, xb_r] at hf
    by_cases c0 : En = nIAE
    · rw [if_pos c0] at hf
      subst c0
      obtain rfl := Option.some.inj hf
      refine vx_catch (own := RL) (name := nIAE) hown [] ⟨0, 14, 17, 13⟩ [] (htab.trans rfl) (fun z hz => nomatch hz) (by decide) (by decide) (hts (.classLink RL 13 "java/lang/IllegalArgumentException") (List.mem_of_getElem? (i := 1) rfl)) (va_Nw.use rfl (hV.2.2.1.1 nIAE (by decide))) hq hv hcl ?_
      refine lv_astore (lv' := [(6, .ref q9), (0, .ref (a 0)), (1, .int x1), (2, .int x2), (3, .int x3), (4, .int x4), (5, .ref q)]) hx hb dL_yields_17 hl (by decide) rfl (fun ls hl => ?_)
      refine lv_iconst (v := 1) hx hb dL_yields_19 (by decide) ?_
      exact gw_iret C E dL_yields_20
    · rw [if_neg c0] at hf
      cases hf
  · rw [hE, xb_l] at hf
    obtain rfl := Option.some.inj hf
    refine lv_i2l hx hb dL_yields_12 rfl ?_
    refine g_last (w' := ((cW a cI cJ cZ vl hs isz igd iup idn o1.2.1 o1.2.2.1 o1.2.2.2.1 o1.2.2.2.2 dep rsz lgd llf ldb ldy lsz lti pgd plf pun psz bgd bam bwt bsh brm bsz cab cbl tod imp dis owe itr) ++ [(q, .inl (cJ, 1, .inr (.inl (vp_updL out (0 : Int32).toNatClampNeg r.toInt64))))])) C E 33 rfl (pk_in 0 1 (by decide)) dL_yields_13 rfl (fun H locs E => ?_)
    refine lv_goto (tgt := 21) hx hb dL_yields_14 (by decide) ?_
    refine lv_iconst (v := 0) hx hb dL_yields_21 (by decide) ?_
    exact gw_iret C E dL_yields_22
abbrev rm_L_in : Room := { frames := 7, cells := 1, slots := 6, locals := 114 }
theorem hd_L_in : yL_in.cls ≠ "java/lang/invoke/MethodHandle" ∧ yL_in.cls ≠ "java/lang/invoke/VarHandle" ∧ (parseMethodDescriptor yL_in.desc).map (fun d => d.parameters.length) = some 5 := by decide +kernel
def f_L_in (lgd : Nat → Int32) (llf : Nat → Int64) (ldb : Nat → Int64) (ldy : Nat → Int32) (lsz : Int32) (pgd : Nat → Int32) (plf : Nat → Int64) (pun : Nat → Int32) (psz : Int32) (tod : Int32) (imp : Int64) (dis : Int64) (x1 : Int32) (x2 : Int32) (x3 : Int32) (out : Nat → Int64) : Option (Int32 × (Nat → Int32) × (Nat → Int64) × (Nat → Int64) × (Nat → Int32) × (Int32) × (Nat → Int64) × (Int64) × (Int64) × (Nat → Int64)) :=
  (f_X6_in lgd llf ldb ldy lsz pgd plf pun psz tod imp dis x1 x2 x3).bind fun o1 =>
  xb o1.1 (fun r => some ((0 : Int32), o1.2.1, o1.2.2.1, o1.2.2.2.1, o1.2.2.2.2.1, o1.2.2.2.2.2.1, o1.2.2.2.2.2.2.1, o1.2.2.2.2.2.2.2.1, o1.2.2.2.2.2.2.2.2, (vp_updL out (0 : Int32).toNatClampNeg r.toInt64))) (fun En => if En = nIAE then some ((1 : Int32), o1.2.1, o1.2.2.1, o1.2.2.2.1, o1.2.2.2.2.1, o1.2.2.2.2.2.1, o1.2.2.2.2.2.2.1, o1.2.2.2.2.2.2.2.1, o1.2.2.2.2.2.2.2.2, out) else if En = nISE then some ((2 : Int32), o1.2.1, o1.2.2.1, o1.2.2.2.1, o1.2.2.2.2.1, o1.2.2.2.2.2.1, o1.2.2.2.2.2.2.1, o1.2.2.2.2.2.2.2.1, o1.2.2.2.2.2.2.2.2, out) else none)
set_option maxHeartbeats 4000000 in
set_option maxRecDepth 100000 in
theorem c_L_in {l : Launch} {D : va_G} {cI cJ cZ : ClassId} {a : Nat → Nat} {q sz : Nat} {vl : Nat → Int32} {hs : Nat → Int32} {isz : Nat → Int32} {igd : Nat → Int32} {iup : Nat → Int32} {idn : Nat → Int32} {osz : Nat → Int32} {ogd : Nat → Int32} {oup : Nat → Int32} {odn : Nat → Int32} {dep : Nat → Int32} {rsz : Int32} {lgd : Nat → Int32} {llf : Nat → Int64} {ldb : Nat → Int64} {ldy : Nat → Int32} {lsz : Int32} {lti : Int64} {pgd : Nat → Int32} {plf : Nat → Int64} {pun : Nat → Int32} {psz : Int32} {bgd : Nat → Int32} {bam : Nat → Int64} {bwt : Nat → Int64} {bsh : Nat → Int64} {brm : Nat → Int64} {bsz : Int32} {cab : Nat → Int64} {cbl : Nat → Int64} {tod : Int32} {imp : Int64} {dis : Int64} {owe : Int64} {itr : Int64} {x1 : Int32} {x2 : Int32} {x3 : Int32} {out : Nat → Int64} {o : Int32 × (Nat → Int32) × (Nat → Int64) × (Nat → Int64) × (Nat → Int32) × (Int32) × (Nat → Int64) × (Int64) × (Int64) × (Nat → Int64)} (hl0 : l.stackTraces = false) (hf : f_L_in lgd llf ldb ldy lsz pgd plf pun psz tod imp dis x1 x2 x3 out = some o) : gMWi l yL_in wsL_in rm_L_in D (gT cI cJ cZ) ((cW a cI cJ cZ vl hs isz igd iup idn osz ogd oup odn dep rsz lgd llf ldb ldy lsz lti pgd plf pun psz bgd bam bwt bsh brm bsz cab cbl tod imp dis owe itr) ++ [(q, .inl (cJ, 1, .inr (.inl out)))]) ((cW a cI cJ cZ vl hs isz igd iup idn osz ogd oup odn dep rsz o.2.1 o.2.2.1 o.2.2.2.1 o.2.2.2.2.1 o.2.2.2.2.2.1 lti pgd o.2.2.2.2.2.2.1 pun psz bgd bam bwt bsh brm bsz cab cbl tod o.2.2.2.2.2.2.2.1 o.2.2.2.2.2.2.2.2.1 owe itr) ++ [(q, .inl (cJ, 1, .inr (.inl o.2.2.2.2.2.2.2.2.2)))]) sz [.ref (a 0), .int x1, .int x2, .int x3, .ref q] o.1 := by
  refine gw_of hl0 (cc := cL_in) (maxL := 6) (ret := (some .int)) (hh := [(0, 12, 15, 13), (0, 12, 19, 22)]) (by decide) rfl (Nat.le_of_ble_eq_true rfl) ?_
  intro p e s m below meth c A ls hAe C hV htab hl E
  rw [← hAe]
  obtain ⟨hx, hb, hr, hml, hown, hts, hlocks, hN, hA⟩ := id C
  have hl : lv_has ls 6 [(0, .ref (a 0)), (1, .int x1), (2, .int x2), (3, .int x3), (4, .ref q)] := hl
  have E : vE s A D (gT cI cJ cZ) ((cW a cI cJ cZ vl hs isz igd iup idn osz ogd oup odn dep rsz lgd llf ldb ldy lsz lti pgd plf pun psz bgd bam bwt bsh brm bsz cab cbl tod imp dis owe itr) ++ [(q, .inl (cJ, 1, .inr (.inl out)))]) s.heap [] := E
  rw [f_L_in] at hf
  refine lv_aload hx hb dL_in_0 (lv_at hl 4 rfl) ?_
  refine lv_iconst (v := 0) hx hb dL_in_2 (by decide) ?_
  refine lv_aload_n hx hb dL_in_3 rfl (lv_at hl 0 rfl) ?_
  refine lv_iload_n hx hb dL_in_4 rfl (lv_at hl 1 rfl) ?_
  refine lv_iload_n hx hb dL_in_5 rfl (lv_at hl 2 rfl) ?_
  refine lv_iload_n hx hb dL_in_6 rfl (lv_at hl 3 rfl) ?_
  obtain ⟨o1, e1, hf⟩ := bd_some hf
  refine gw_calli (wc' := (cW a cI cJ cZ vl hs isz igd iup idn osz ogd oup odn dep rsz o1.2.1 o1.2.2.1 o1.2.2.2.1 o1.2.2.2.2.1 o1.2.2.2.2.2.1 lti pgd o1.2.2.2.2.2.2.1 pun psz bgd bam bwt bsh brm bsz cab cbl tod o1.2.2.2.2.2.2.2.1 o1.2.2.2.2.2.2.2.2 owe itr)) C E (g_runXV (As := [.int x1, .int x2, .int x3]) (rest := [.int 0, .ref q]) C (vE_left E) hV (c_X6_in hl0 e1) (cwV 3 hts gL_in_X6_in rfl rfl rfl ⟨rfl, hd_X6_in⟩ ⟨(Nat.le_of_ble_eq_true rfl), (Nat.le_of_ble_eq_true rfl)⟩) (q0 := 0) (ci := 6) rfl rfl rfl rfl hl.1 rfl (Nat.le_of_ble_eq_true rfl) dL_in_7 ⟨(Nat.le_of_ble_eq_true rfl), (Nat.le_of_ble_eq_true rfl)⟩) (fun En ce q9 H locs hE E hq hv hcl => ?_) (fun r H locs hE E => ?_)
  · rw [hE, xb_r] at hf
    by_cases c0 : En = nIAE
    · rw [if_pos c0] at hf
      subst c0
      obtain rfl := Option.some.inj hf
      refine vx_catch (own := RL) (name := nIAE) hown [] ⟨0, 12, 15, 13⟩ [⟨0, 12, 19, 22⟩] (htab.trans rfl) (fun z hz => nomatch hz) (by decide) (by decide) (hts (.classLink RL 13 "java/lang/IllegalArgumentException") (List.mem_of_getElem? (i := 1) rfl)) (va_Nw.use rfl (hV.2.2.1.1 nIAE (by decide))) hq hv hcl ?_
      refine lv_astore (lv' := [(5, .ref q9), (0, .ref (a 0)), (1, .int x1), (2, .int x2), (3, .int x3), (4, .ref q)]) hx hb dL_in_15 hl (by decide) rfl (fun ls hl => ?_)
      refine lv_iconst (v := 1) hx hb dL_in_17 (by decide) ?_
      exact gw_iret C E dL_in_18
    · rw [if_neg c0] at hf
      by_cases c1 : En = nISE
      · rw [if_pos c1] at hf
        subst c1
        obtain rfl := Option.some.inj hf
        refine vx_catch (own := RL) (name := nISE) hown [⟨0, 12, 15, 13⟩] ⟨0, 12, 19, 22⟩ [] (htab.trans rfl) (fun z hz => by rw [List.mem_singleton.mp hz]; exact Or.inr ⟨by decide, nIAE, hts (.classLink RL 13 "java/lang/IllegalArgumentException") (List.mem_of_getElem? (i := 1) rfl), hV.2.2.2.1⟩) (by decide) (by decide) (hts (.classLink RL 22 "java/lang/IllegalStateException") (List.mem_of_getElem? (i := 2) rfl)) (va_Nw.use rfl (hV.2.2.1.1 nISE (by decide))) hq hv hcl ?_
        refine lv_astore (lv' := [(5, .ref q9), (0, .ref (a 0)), (1, .int x1), (2, .int x2), (3, .int x3), (4, .ref q)]) hx hb dL_in_19 hl (by decide) rfl (fun ls hl => ?_)
        refine lv_iconst (v := 2) hx hb dL_in_21 (by decide) ?_
        exact gw_iret C E dL_in_22
      · rw [if_neg c1] at hf
        cases hf
  · rw [hE, xb_l] at hf
    obtain rfl := Option.some.inj hf
    refine lv_i2l hx hb dL_in_10 rfl ?_
    refine g_last (w' := ((cW a cI cJ cZ vl hs isz igd iup idn osz ogd oup odn dep rsz o1.2.1 o1.2.2.1 o1.2.2.2.1 o1.2.2.2.2.1 o1.2.2.2.2.2.1 lti pgd o1.2.2.2.2.2.2.1 pun psz bgd bam bwt bsh brm bsz cab cbl tod o1.2.2.2.2.2.2.2.1 o1.2.2.2.2.2.2.2.2 owe itr) ++ [(q, .inl (cJ, 1, .inr (.inl (vp_updL out (0 : Int32).toNatClampNeg r.toInt64))))])) C E 33 rfl (pk_in 0 1 (by decide)) dL_in_11 rfl (fun H locs E => ?_)
    refine lv_goto (tgt := 23) hx hb dL_in_12 (by decide) ?_
    refine lv_iconst (v := 0) hx hb dL_in_23 (by decide) ?_
    exact gw_iret C E dL_in_24
abbrev rm_L_made : Room := { frames := 7, cells := 1, slots := 6, locals := 150 }
theorem hd_L_made : yL_made.cls ≠ "java/lang/invoke/MethodHandle" ∧ yL_made.cls ≠ "java/lang/invoke/VarHandle" ∧ (parseMethodDescriptor yL_made.desc).map (fun d => d.parameters.length) = some 5 := by decide +kernel
def f_L_made (vl : Nat → Int32) (isz : Nat → Int32) (igd : Nat → Int32) (iup : Nat → Int32) (idn : Nat → Int32) (osz : Nat → Int32) (ogd : Nat → Int32) (oup : Nat → Int32) (odn : Nat → Int32) (lgd : Nat → Int32) (llf : Nat → Int64) (ldb : Nat → Int64) (ldy : Nat → Int32) (lsz : Int32) (lti : Int64) (bgd : Nat → Int32) (bam : Nat → Int64) (bwt : Nat → Int64) (bsh : Nat → Int64) (brm : Nat → Int64) (bsz : Int32) (tod : Int32) (x1 : Int32) (x2 : Int32) (x3 : Int32) (out : Nat → Int64) : Option (Int32 × (Nat → Int32) × (Nat → Int64) × (Nat → Int64) × (Nat → Int32) × (Int32) × (Int64) × (Nat → Int32) × (Nat → Int64) × (Nat → Int64) × (Nat → Int64) × (Nat → Int64) × (Int32) × (Nat → Int64)) :=
  (f_X6_made vl isz igd iup idn osz ogd oup odn lgd llf ldb ldy lsz lti bgd bam bwt bsh brm bsz tod x1 x2 x3).bind fun o1 =>
  xb o1.1 (fun r => some ((0 : Int32), o1.2.1, o1.2.2.1, o1.2.2.2.1, o1.2.2.2.2.1, o1.2.2.2.2.2.1, o1.2.2.2.2.2.2.1, o1.2.2.2.2.2.2.2.1, o1.2.2.2.2.2.2.2.2.1, o1.2.2.2.2.2.2.2.2.2.1, o1.2.2.2.2.2.2.2.2.2.2.1, o1.2.2.2.2.2.2.2.2.2.2.2.1, o1.2.2.2.2.2.2.2.2.2.2.2.2, (vp_updL out (0 : Int32).toNatClampNeg r.toInt64))) (fun En => if En = nIAE then some ((1 : Int32), o1.2.1, o1.2.2.1, o1.2.2.2.1, o1.2.2.2.2.1, o1.2.2.2.2.2.1, o1.2.2.2.2.2.2.1, o1.2.2.2.2.2.2.2.1, o1.2.2.2.2.2.2.2.2.1, o1.2.2.2.2.2.2.2.2.2.1, o1.2.2.2.2.2.2.2.2.2.2.1, o1.2.2.2.2.2.2.2.2.2.2.2.1, o1.2.2.2.2.2.2.2.2.2.2.2.2, out) else none)
set_option maxHeartbeats 4000000 in
set_option maxRecDepth 100000 in
theorem c_L_made {l : Launch} {D : va_G} {cI cJ cZ : ClassId} {a : Nat → Nat} {q sz : Nat} {vl : Nat → Int32} {hs : Nat → Int32} {isz : Nat → Int32} {igd : Nat → Int32} {iup : Nat → Int32} {idn : Nat → Int32} {osz : Nat → Int32} {ogd : Nat → Int32} {oup : Nat → Int32} {odn : Nat → Int32} {dep : Nat → Int32} {rsz : Int32} {lgd : Nat → Int32} {llf : Nat → Int64} {ldb : Nat → Int64} {ldy : Nat → Int32} {lsz : Int32} {lti : Int64} {pgd : Nat → Int32} {plf : Nat → Int64} {pun : Nat → Int32} {psz : Int32} {bgd : Nat → Int32} {bam : Nat → Int64} {bwt : Nat → Int64} {bsh : Nat → Int64} {brm : Nat → Int64} {bsz : Int32} {cab : Nat → Int64} {cbl : Nat → Int64} {tod : Int32} {imp : Int64} {dis : Int64} {owe : Int64} {itr : Int64} {x1 : Int32} {x2 : Int32} {x3 : Int32} {out : Nat → Int64} {o : Int32 × (Nat → Int32) × (Nat → Int64) × (Nat → Int64) × (Nat → Int32) × (Int32) × (Int64) × (Nat → Int32) × (Nat → Int64) × (Nat → Int64) × (Nat → Int64) × (Nat → Int64) × (Int32) × (Nat → Int64)} (hl0 : l.stackTraces = false) (hf : f_L_made vl isz igd iup idn osz ogd oup odn lgd llf ldb ldy lsz lti bgd bam bwt bsh brm bsz tod x1 x2 x3 out = some o) : gMWi l yL_made wsL_made rm_L_made D (gT cI cJ cZ) ((cW a cI cJ cZ vl hs isz igd iup idn osz ogd oup odn dep rsz lgd llf ldb ldy lsz lti pgd plf pun psz bgd bam bwt bsh brm bsz cab cbl tod imp dis owe itr) ++ [(q, .inl (cJ, 1, .inr (.inl out)))]) ((cW a cI cJ cZ vl hs isz igd iup idn osz ogd oup odn dep rsz o.2.1 o.2.2.1 o.2.2.2.1 o.2.2.2.2.1 o.2.2.2.2.2.1 o.2.2.2.2.2.2.1 pgd plf pun psz o.2.2.2.2.2.2.2.1 o.2.2.2.2.2.2.2.2.1 o.2.2.2.2.2.2.2.2.2.1 o.2.2.2.2.2.2.2.2.2.2.1 o.2.2.2.2.2.2.2.2.2.2.2.1 o.2.2.2.2.2.2.2.2.2.2.2.2.1 cab cbl tod imp dis owe itr) ++ [(q, .inl (cJ, 1, .inr (.inl o.2.2.2.2.2.2.2.2.2.2.2.2.2)))]) sz [.ref (a 0), .int x1, .int x2, .int x3, .ref q] o.1 := by
  refine gw_of hl0 (cc := cL_made) (maxL := 6) (ret := (some .int)) (hh := [(0, 12, 15, 13)]) (by decide) rfl (Nat.le_of_ble_eq_true rfl) ?_
  intro p e s m below meth c A ls hAe C hV htab hl E
  rw [← hAe]
  obtain ⟨hx, hb, hr, hml, hown, hts, hlocks, hN, hA⟩ := id C
  have hl : lv_has ls 6 [(0, .ref (a 0)), (1, .int x1), (2, .int x2), (3, .int x3), (4, .ref q)] := hl
  have E : vE s A D (gT cI cJ cZ) ((cW a cI cJ cZ vl hs isz igd iup idn osz ogd oup odn dep rsz lgd llf ldb ldy lsz lti pgd plf pun psz bgd bam bwt bsh brm bsz cab cbl tod imp dis owe itr) ++ [(q, .inl (cJ, 1, .inr (.inl out)))]) s.heap [] := E
  rw [f_L_made] at hf
  refine lv_aload hx hb dL_made_0 (lv_at hl 4 rfl) ?_
  refine lv_iconst (v := 0) hx hb dL_made_2 (by decide) ?_
  refine lv_aload_n hx hb dL_made_3 rfl (lv_at hl 0 rfl) ?_
  refine lv_iload_n hx hb dL_made_4 rfl (lv_at hl 1 rfl) ?_
  refine lv_iload_n hx hb dL_made_5 rfl (lv_at hl 2 rfl) ?_
  refine lv_iload_n hx hb dL_made_6 rfl (lv_at hl 3 rfl) ?_
  obtain ⟨o1, e1, hf⟩ := bd_some hf
  refine gw_calli (wc' := (cW a cI cJ cZ vl hs isz igd iup idn osz ogd oup odn dep rsz o1.2.1 o1.2.2.1 o1.2.2.2.1 o1.2.2.2.2.1 o1.2.2.2.2.2.1 o1.2.2.2.2.2.2.1 pgd plf pun psz o1.2.2.2.2.2.2.2.1 o1.2.2.2.2.2.2.2.2.1 o1.2.2.2.2.2.2.2.2.2.1 o1.2.2.2.2.2.2.2.2.2.2.1 o1.2.2.2.2.2.2.2.2.2.2.2.1 o1.2.2.2.2.2.2.2.2.2.2.2.2 cab cbl tod imp dis owe itr)) C E (g_runXV (As := [.int x1, .int x2, .int x3]) (rest := [.int 0, .ref q]) C (vE_left E) hV (c_X6_made hl0 e1) (cwV 3 hts gL_made_X6_made rfl rfl rfl ⟨rfl, hd_X6_made⟩ ⟨(Nat.le_of_ble_eq_true rfl), (Nat.le_of_ble_eq_true rfl)⟩) (q0 := 0) (ci := 6) rfl rfl rfl rfl hl.1 rfl (Nat.le_of_ble_eq_true rfl) dL_made_7 ⟨(Nat.le_of_ble_eq_true rfl), (Nat.le_of_ble_eq_true rfl)⟩) (fun En ce q9 H locs hE E hq hv hcl => ?_) (fun r H locs hE E => ?_)
  · rw [hE, xb_r] at hf
    by_cases c0 : En = nIAE
    · rw [if_pos c0] at hf
      subst c0
      obtain rfl := Option.some.inj hf
      refine vx_catch (own := RL) (name := nIAE) hown [] ⟨0, 12, 15, 13⟩ [] (htab.trans rfl) (fun z hz => nomatch hz) (by decide) (by decide) (hts (.classLink RL 13 "java/lang/IllegalArgumentException") (List.mem_of_getElem? (i := 1) rfl)) (va_Nw.use rfl (hV.2.2.1.1 nIAE (by decide))) hq hv hcl ?_
      refine lv_astore (lv' := [(5, .ref q9), (0, .ref (a 0)), (1, .int x1), (2, .int x2), (3, .int x3), (4, .ref q)]) hx hb dL_made_15 hl (by decide) rfl (fun ls hl => ?_)
      refine lv_iconst (v := 1) hx hb dL_made_17 (by decide) ?_
      exact gw_iret C E dL_made_18
    · rw [if_neg c0] at hf
      cases hf
  · rw [hE, xb_l] at hf
    obtain rfl := Option.some.inj hf
    refine lv_i2l hx hb dL_made_10 rfl ?_
    refine g_last (w' := ((cW a cI cJ cZ vl hs isz igd iup idn osz ogd oup odn dep rsz o1.2.1 o1.2.2.1 o1.2.2.2.1 o1.2.2.2.2.1 o1.2.2.2.2.2.1 o1.2.2.2.2.2.2.1 pgd plf pun psz o1.2.2.2.2.2.2.2.1 o1.2.2.2.2.2.2.2.2.1 o1.2.2.2.2.2.2.2.2.2.1 o1.2.2.2.2.2.2.2.2.2.2.1 o1.2.2.2.2.2.2.2.2.2.2.2.1 o1.2.2.2.2.2.2.2.2.2.2.2.2 cab cbl tod imp dis owe itr) ++ [(q, .inl (cJ, 1, .inr (.inl (vp_updL out (0 : Int32).toNatClampNeg r.toInt64))))])) C E 33 rfl (pk_in 0 1 (by decide)) dL_made_11 rfl (fun H locs E => ?_)
    refine lv_goto (tgt := 19) hx hb dL_made_12 (by decide) ?_
    refine lv_iconst (v := 0) hx hb dL_made_19 (by decide) ?_
    exact gw_iret C E dL_made_20
abbrev rm_L_export : Room := { frames := 8, cells := 1, slots := 6, locals := 135 }
theorem hd_L_export : yL_export.cls ≠ "java/lang/invoke/MethodHandle" ∧ yL_export.cls ≠ "java/lang/invoke/VarHandle" ∧ (parseMethodDescriptor yL_export.desc).map (fun d => d.parameters.length) = some 4 := by decide +kernel
def f_L_export (lgd : Nat → Int32) (llf : Nat → Int64) (ldb : Nat → Int64) (ldy : Nat → Int32) (lsz : Int32) (lti : Int64) (tod : Int32) (dis : Int64) (x1 : Int32) (x2 : Int32) (out : Nat → Int64) : Option (Int32 × (Nat → Int64) × (Nat → Int64) × (Int64) × (Int64) × (Nat → Int64)) :=
  (f_X6_export lgd llf ldb ldy lsz lti tod dis x1 x2).bind fun o1 =>
  xb o1.1 (fun r => some ((0 : Int32), o1.2.1, o1.2.2.1, o1.2.2.2.1, o1.2.2.2.2, (vp_updL out (0 : Int32).toNatClampNeg r))) (fun En => if En = nIAE then some ((1 : Int32), o1.2.1, o1.2.2.1, o1.2.2.2.1, o1.2.2.2.2, out) else none)
set_option maxHeartbeats 4000000 in
set_option maxRecDepth 100000 in
theorem c_L_export {l : Launch} {D : va_G} {cI cJ cZ : ClassId} {a : Nat → Nat} {q sz : Nat} {vl : Nat → Int32} {hs : Nat → Int32} {isz : Nat → Int32} {igd : Nat → Int32} {iup : Nat → Int32} {idn : Nat → Int32} {osz : Nat → Int32} {ogd : Nat → Int32} {oup : Nat → Int32} {odn : Nat → Int32} {dep : Nat → Int32} {rsz : Int32} {lgd : Nat → Int32} {llf : Nat → Int64} {ldb : Nat → Int64} {ldy : Nat → Int32} {lsz : Int32} {lti : Int64} {pgd : Nat → Int32} {plf : Nat → Int64} {pun : Nat → Int32} {psz : Int32} {bgd : Nat → Int32} {bam : Nat → Int64} {bwt : Nat → Int64} {bsh : Nat → Int64} {brm : Nat → Int64} {bsz : Int32} {cab : Nat → Int64} {cbl : Nat → Int64} {tod : Int32} {imp : Int64} {dis : Int64} {owe : Int64} {itr : Int64} {x1 : Int32} {x2 : Int32} {out : Nat → Int64} {o : Int32 × (Nat → Int64) × (Nat → Int64) × (Int64) × (Int64) × (Nat → Int64)} (hl0 : l.stackTraces = false) (hf : f_L_export lgd llf ldb ldy lsz lti tod dis x1 x2 out = some o) : gMWi l yL_export wsL_export rm_L_export D (gT cI cJ cZ) ((cW a cI cJ cZ vl hs isz igd iup idn osz ogd oup odn dep rsz lgd llf ldb ldy lsz lti pgd plf pun psz bgd bam bwt bsh brm bsz cab cbl tod imp dis owe itr) ++ [(q, .inl (cJ, 1, .inr (.inl out)))]) ((cW a cI cJ cZ vl hs isz igd iup idn osz ogd oup odn dep rsz lgd o.2.1 o.2.2.1 ldy lsz o.2.2.2.1 pgd plf pun psz bgd bam bwt bsh brm bsz cab cbl tod imp o.2.2.2.2.1 owe itr) ++ [(q, .inl (cJ, 1, .inr (.inl o.2.2.2.2.2)))]) sz [.ref (a 0), .int x1, .int x2, .ref q] o.1 := by
  refine gw_of hl0 (cc := cL_export) (maxL := 5) (ret := (some .int)) (hh := [(0, 9, 12, 13)]) (by decide) rfl (Nat.le_of_ble_eq_true rfl) ?_
  intro p e s m below meth c A ls hAe C hV htab hl E
  rw [← hAe]
  obtain ⟨hx, hb, hr, hml, hown, hts, hlocks, hN, hA⟩ := id C
  have hl : lv_has ls 5 [(0, .ref (a 0)), (1, .int x1), (2, .int x2), (3, .ref q)] := hl
  have E : vE s A D (gT cI cJ cZ) ((cW a cI cJ cZ vl hs isz igd iup idn osz ogd oup odn dep rsz lgd llf ldb ldy lsz lti pgd plf pun psz bgd bam bwt bsh brm bsz cab cbl tod imp dis owe itr) ++ [(q, .inl (cJ, 1, .inr (.inl out)))]) s.heap [] := E
  rw [f_L_export] at hf
  refine lv_aload_n hx hb dL_export_0 rfl (lv_at hl 3 rfl) ?_
  refine lv_iconst (v := 0) hx hb dL_export_1 (by decide) ?_
  refine lv_aload_n hx hb dL_export_2 rfl (lv_at hl 0 rfl) ?_
  refine lv_iload_n hx hb dL_export_3 rfl (lv_at hl 1 rfl) ?_
  refine lv_iload_n hx hb dL_export_4 rfl (lv_at hl 2 rfl) ?_
  obtain ⟨o1, e1, hf⟩ := bd_some hf
  refine gw_calll (wc' := (cW a cI cJ cZ vl hs isz igd iup idn osz ogd oup odn dep rsz lgd o1.2.1 o1.2.2.1 ldy lsz o1.2.2.2.1 pgd plf pun psz bgd bam bwt bsh brm bsz cab cbl tod imp o1.2.2.2.2 owe itr)) C E (g_runXV (As := [.int x1, .int x2]) (rest := [.int 0, .ref q]) C (vE_left E) hV (c_X6_export hl0 e1) (cwV 2 hts gL_export_X6_export rfl rfl rfl ⟨rfl, hd_X6_export⟩ ⟨(Nat.le_of_ble_eq_true rfl), (Nat.le_of_ble_eq_true rfl)⟩) (q0 := 0) (ci := 6) rfl rfl rfl rfl hl.1 rfl (Nat.le_of_ble_eq_true rfl) dL_export_5 ⟨(Nat.le_of_ble_eq_true rfl), (Nat.le_of_ble_eq_true rfl)⟩) (fun En ce q9 H locs hE E hq hv hcl => ?_) (fun r H locs hE E => ?_)
  · rw [hE, xb_r] at hf
    by_cases c0 : En = nIAE
    · rw [if_pos c0] at hf
      subst c0
      obtain rfl := Option.some.inj hf
      refine vx_catch (own := RL) (name := nIAE) hown [] ⟨0, 9, 12, 13⟩ [] (htab.trans rfl) (fun z hz => nomatch hz) (by decide) (by decide) (hts (.classLink RL 13 "java/lang/IllegalArgumentException") (List.mem_of_getElem? (i := 1) rfl)) (va_Nw.use rfl (hV.2.2.1.1 nIAE (by decide))) hq hv hcl ?_
      refine lv_astore (lv' := [(4, .ref q9), (0, .ref (a 0)), (1, .int x1), (2, .int x2), (3, .ref q)]) hx hb dL_export_12 hl (by decide) rfl (fun ls hl => ?_)
      refine lv_iconst (v := 1) hx hb dL_export_14 (by decide) ?_
      exact gw_iret C E dL_export_15
    · rw [if_neg c0] at hf
      cases hf
  · rw [hE, xb_l] at hf
    obtain rfl := Option.some.inj hf
    refine g_last (w' := ((cW a cI cJ cZ vl hs isz igd iup idn osz ogd oup odn dep rsz lgd o1.2.1 o1.2.2.1 ldy lsz o1.2.2.2.1 pgd plf pun psz bgd bam bwt bsh brm bsz cab cbl tod imp o1.2.2.2.2 owe itr) ++ [(q, .inl (cJ, 1, .inr (.inl (vp_updL out (0 : Int32).toNatClampNeg r))))])) C E 33 rfl (pk_in 0 1 (by decide)) dL_export_8 rfl (fun H locs E => ?_)
    refine lv_goto (tgt := 16) hx hb dL_export_9 (by decide) ?_
    refine lv_iconst (v := 0) hx hb dL_export_16 (by decide) ?_
    exact gw_iret C E dL_export_17
abbrev rm_L_release : Room := { frames := 8, cells := 1, slots := 6, locals := 135 }
theorem hd_L_release : yL_release.cls ≠ "java/lang/invoke/MethodHandle" ∧ yL_release.cls ≠ "java/lang/invoke/VarHandle" ∧ (parseMethodDescriptor yL_release.desc).map (fun d => d.parameters.length) = some 4 := by decide +kernel
def f_L_release (lgd : Nat → Int32) (llf : Nat → Int64) (ldb : Nat → Int64) (ldy : Nat → Int32) (lsz : Int32) (lti : Int64) (tod : Int32) (owe : Int64) (itr : Int64) (x1 : Int32) (x2 : Int32) (out : Nat → Int64) : Option (Int32 × (Nat → Int64) × (Nat → Int64) × (Int64) × (Int64) × (Int64) × (Nat → Int64)) :=
  (f_X6_release lgd llf ldb ldy lsz lti tod owe itr x1 x2).bind fun o1 =>
  xb o1.1 (fun r => some ((0 : Int32), o1.2.1, o1.2.2.1, o1.2.2.2.1, o1.2.2.2.2.1, o1.2.2.2.2.2, (vp_updL out (0 : Int32).toNatClampNeg r))) (fun En => if En = nIAE then some ((1 : Int32), o1.2.1, o1.2.2.1, o1.2.2.2.1, o1.2.2.2.2.1, o1.2.2.2.2.2, out) else none)
set_option maxHeartbeats 4000000 in
set_option maxRecDepth 100000 in
theorem c_L_release {l : Launch} {D : va_G} {cI cJ cZ : ClassId} {a : Nat → Nat} {q sz : Nat} {vl : Nat → Int32} {hs : Nat → Int32} {isz : Nat → Int32} {igd : Nat → Int32} {iup : Nat → Int32} {idn : Nat → Int32} {osz : Nat → Int32} {ogd : Nat → Int32} {oup : Nat → Int32} {odn : Nat → Int32} {dep : Nat → Int32} {rsz : Int32} {lgd : Nat → Int32} {llf : Nat → Int64} {ldb : Nat → Int64} {ldy : Nat → Int32} {lsz : Int32} {lti : Int64} {pgd : Nat → Int32} {plf : Nat → Int64} {pun : Nat → Int32} {psz : Int32} {bgd : Nat → Int32} {bam : Nat → Int64} {bwt : Nat → Int64} {bsh : Nat → Int64} {brm : Nat → Int64} {bsz : Int32} {cab : Nat → Int64} {cbl : Nat → Int64} {tod : Int32} {imp : Int64} {dis : Int64} {owe : Int64} {itr : Int64} {x1 : Int32} {x2 : Int32} {out : Nat → Int64} {o : Int32 × (Nat → Int64) × (Nat → Int64) × (Int64) × (Int64) × (Int64) × (Nat → Int64)} (hl0 : l.stackTraces = false) (hf : f_L_release lgd llf ldb ldy lsz lti tod owe itr x1 x2 out = some o) : gMWi l yL_release wsL_release rm_L_release D (gT cI cJ cZ) ((cW a cI cJ cZ vl hs isz igd iup idn osz ogd oup odn dep rsz lgd llf ldb ldy lsz lti pgd plf pun psz bgd bam bwt bsh brm bsz cab cbl tod imp dis owe itr) ++ [(q, .inl (cJ, 1, .inr (.inl out)))]) ((cW a cI cJ cZ vl hs isz igd iup idn osz ogd oup odn dep rsz lgd o.2.1 o.2.2.1 ldy lsz o.2.2.2.1 pgd plf pun psz bgd bam bwt bsh brm bsz cab cbl tod imp dis o.2.2.2.2.1 o.2.2.2.2.2.1) ++ [(q, .inl (cJ, 1, .inr (.inl o.2.2.2.2.2.2)))]) sz [.ref (a 0), .int x1, .int x2, .ref q] o.1 := by
  refine gw_of hl0 (cc := cL_release) (maxL := 5) (ret := (some .int)) (hh := [(0, 9, 12, 13)]) (by decide) rfl (Nat.le_of_ble_eq_true rfl) ?_
  intro p e s m below meth c A ls hAe C hV htab hl E
  rw [← hAe]
  obtain ⟨hx, hb, hr, hml, hown, hts, hlocks, hN, hA⟩ := id C
  have hl : lv_has ls 5 [(0, .ref (a 0)), (1, .int x1), (2, .int x2), (3, .ref q)] := hl
  have E : vE s A D (gT cI cJ cZ) ((cW a cI cJ cZ vl hs isz igd iup idn osz ogd oup odn dep rsz lgd llf ldb ldy lsz lti pgd plf pun psz bgd bam bwt bsh brm bsz cab cbl tod imp dis owe itr) ++ [(q, .inl (cJ, 1, .inr (.inl out)))]) s.heap [] := E
  rw [f_L_release] at hf
  refine lv_aload_n hx hb dL_release_0 rfl (lv_at hl 3 rfl) ?_
  refine lv_iconst (v := 0) hx hb dL_release_1 (by decide) ?_
  refine lv_aload_n hx hb dL_release_2 rfl (lv_at hl 0 rfl) ?_
  refine lv_iload_n hx hb dL_release_3 rfl (lv_at hl 1 rfl) ?_
  refine lv_iload_n hx hb dL_release_4 rfl (lv_at hl 2 rfl) ?_
  obtain ⟨o1, e1, hf⟩ := bd_some hf
  refine gw_calll (wc' := (cW a cI cJ cZ vl hs isz igd iup idn osz ogd oup odn dep rsz lgd o1.2.1 o1.2.2.1 ldy lsz o1.2.2.2.1 pgd plf pun psz bgd bam bwt bsh brm bsz cab cbl tod imp dis o1.2.2.2.2.1 o1.2.2.2.2.2)) C E (g_runXV (As := [.int x1, .int x2]) (rest := [.int 0, .ref q]) C (vE_left E) hV (c_X6_release hl0 e1) (cwV 2 hts gL_release_X6_release rfl rfl rfl ⟨rfl, hd_X6_release⟩ ⟨(Nat.le_of_ble_eq_true rfl), (Nat.le_of_ble_eq_true rfl)⟩) (q0 := 0) (ci := 6) rfl rfl rfl rfl hl.1 rfl (Nat.le_of_ble_eq_true rfl) dL_release_5 ⟨(Nat.le_of_ble_eq_true rfl), (Nat.le_of_ble_eq_true rfl)⟩) (fun En ce q9 H locs hE E hq hv hcl => ?_) (fun r H locs hE E => ?_)
  · rw [hE, xb_r] at hf
    by_cases c0 : En = nIAE
    · rw [if_pos c0] at hf
      subst c0
      obtain rfl := Option.some.inj hf
      refine vx_catch (own := RL) (name := nIAE) hown [] ⟨0, 9, 12, 13⟩ [] (htab.trans rfl) (fun z hz => nomatch hz) (by decide) (by decide) (hts (.classLink RL 13 "java/lang/IllegalArgumentException") (List.mem_of_getElem? (i := 1) rfl)) (va_Nw.use rfl (hV.2.2.1.1 nIAE (by decide))) hq hv hcl ?_
      refine lv_astore (lv' := [(4, .ref q9), (0, .ref (a 0)), (1, .int x1), (2, .int x2), (3, .ref q)]) hx hb dL_release_12 hl (by decide) rfl (fun ls hl => ?_)
      refine lv_iconst (v := 1) hx hb dL_release_14 (by decide) ?_
      exact gw_iret C E dL_release_15
    · rw [if_neg c0] at hf
      cases hf
  · rw [hE, xb_l] at hf
    obtain rfl := Option.some.inj hf
    refine g_last (w' := ((cW a cI cJ cZ vl hs isz igd iup idn osz ogd oup odn dep rsz lgd o1.2.1 o1.2.2.1 ldy lsz o1.2.2.2.1 pgd plf pun psz bgd bam bwt bsh brm bsz cab cbl tod imp dis o1.2.2.2.2.1 o1.2.2.2.2.2) ++ [(q, .inl (cJ, 1, .inr (.inl (vp_updL out (0 : Int32).toNatClampNeg r))))])) C E 33 rfl (pk_in 0 1 (by decide)) dL_release_8 rfl (fun H locs E => ?_)
    refine lv_goto (tgt := 16) hx hb dL_release_9 (by decide) ?_
    refine lv_iconst (v := 0) hx hb dL_release_16 (by decide) ?_
    exact gw_iret C E dL_release_17
abbrev rm_L_prior : Room := { frames := 7, cells := 1, slots := 6, locals := 113 }
theorem hd_L_prior : yL_prior.cls ≠ "java/lang/invoke/MethodHandle" ∧ yL_prior.cls ≠ "java/lang/invoke/VarHandle" ∧ (parseMethodDescriptor yL_prior.desc).map (fun d => d.parameters.length) = some 5 := by decide +kernel
def f_L_prior (pgd : Nat → Int32) (plf : Nat → Int64) (pun : Nat → Int32) (psz : Int32) (x1 : Int32) (x2 : Int32) (x3 : Int32) (out : Nat → Int64) : Option (Int32 × (Nat → Int32) × (Nat → Int64) × (Nat → Int32) × (Int32) × (Nat → Int64)) :=
  (f_X6_prior pgd plf pun psz x1 x2 x3).bind fun o1 =>
  xb o1.1 (fun r => some ((0 : Int32), o1.2.1, o1.2.2.1, o1.2.2.2.1, o1.2.2.2.2, (vp_updL out (0 : Int32).toNatClampNeg r.toInt64))) (fun En => if En = nIAE then some ((1 : Int32), o1.2.1, o1.2.2.1, o1.2.2.2.1, o1.2.2.2.2, out) else if En = nISE then some ((2 : Int32), o1.2.1, o1.2.2.1, o1.2.2.2.1, o1.2.2.2.2, out) else none)
set_option maxHeartbeats 4000000 in
set_option maxRecDepth 100000 in
theorem c_L_prior {l : Launch} {D : va_G} {cI cJ cZ : ClassId} {a : Nat → Nat} {q sz : Nat} {vl : Nat → Int32} {hs : Nat → Int32} {isz : Nat → Int32} {igd : Nat → Int32} {iup : Nat → Int32} {idn : Nat → Int32} {osz : Nat → Int32} {ogd : Nat → Int32} {oup : Nat → Int32} {odn : Nat → Int32} {dep : Nat → Int32} {rsz : Int32} {lgd : Nat → Int32} {llf : Nat → Int64} {ldb : Nat → Int64} {ldy : Nat → Int32} {lsz : Int32} {lti : Int64} {pgd : Nat → Int32} {plf : Nat → Int64} {pun : Nat → Int32} {psz : Int32} {bgd : Nat → Int32} {bam : Nat → Int64} {bwt : Nat → Int64} {bsh : Nat → Int64} {brm : Nat → Int64} {bsz : Int32} {cab : Nat → Int64} {cbl : Nat → Int64} {tod : Int32} {imp : Int64} {dis : Int64} {owe : Int64} {itr : Int64} {x1 : Int32} {x2 : Int32} {x3 : Int32} {out : Nat → Int64} {o : Int32 × (Nat → Int32) × (Nat → Int64) × (Nat → Int32) × (Int32) × (Nat → Int64)} (hl0 : l.stackTraces = false) (hf : f_L_prior pgd plf pun psz x1 x2 x3 out = some o) : gMWi l yL_prior wsL_prior rm_L_prior D (gT cI cJ cZ) ((cW a cI cJ cZ vl hs isz igd iup idn osz ogd oup odn dep rsz lgd llf ldb ldy lsz lti pgd plf pun psz bgd bam bwt bsh brm bsz cab cbl tod imp dis owe itr) ++ [(q, .inl (cJ, 1, .inr (.inl out)))]) ((cW a cI cJ cZ vl hs isz igd iup idn osz ogd oup odn dep rsz lgd llf ldb ldy lsz lti o.2.1 o.2.2.1 o.2.2.2.1 o.2.2.2.2.1 bgd bam bwt bsh brm bsz cab cbl tod imp dis owe itr) ++ [(q, .inl (cJ, 1, .inr (.inl o.2.2.2.2.2)))]) sz [.ref (a 0), .int x1, .int x2, .int x3, .ref q] o.1 := by
  refine gw_of hl0 (cc := cL_prior) (maxL := 6) (ret := (some .int)) (hh := [(0, 12, 15, 13), (0, 12, 19, 22)]) (by decide) rfl (Nat.le_of_ble_eq_true rfl) ?_
  intro p e s m below meth c A ls hAe C hV htab hl E
  rw [← hAe]
  obtain ⟨hx, hb, hr, hml, hown, hts, hlocks, hN, hA⟩ := id C
  have hl : lv_has ls 6 [(0, .ref (a 0)), (1, .int x1), (2, .int x2), (3, .int x3), (4, .ref q)] := hl
  have E : vE s A D (gT cI cJ cZ) ((cW a cI cJ cZ vl hs isz igd iup idn osz ogd oup odn dep rsz lgd llf ldb ldy lsz lti pgd plf pun psz bgd bam bwt bsh brm bsz cab cbl tod imp dis owe itr) ++ [(q, .inl (cJ, 1, .inr (.inl out)))]) s.heap [] := E
  rw [f_L_prior] at hf
  refine lv_aload hx hb dL_prior_0 (lv_at hl 4 rfl) ?_
  refine lv_iconst (v := 0) hx hb dL_prior_2 (by decide) ?_
  refine lv_aload_n hx hb dL_prior_3 rfl (lv_at hl 0 rfl) ?_
  refine lv_iload_n hx hb dL_prior_4 rfl (lv_at hl 1 rfl) ?_
  refine lv_iload_n hx hb dL_prior_5 rfl (lv_at hl 2 rfl) ?_
  refine lv_iload_n hx hb dL_prior_6 rfl (lv_at hl 3 rfl) ?_
  obtain ⟨o1, e1, hf⟩ := bd_some hf
  refine gw_calli (wc' := (cW a cI cJ cZ vl hs isz igd iup idn osz ogd oup odn dep rsz lgd llf ldb ldy lsz lti o1.2.1 o1.2.2.1 o1.2.2.2.1 o1.2.2.2.2 bgd bam bwt bsh brm bsz cab cbl tod imp dis owe itr)) C E (g_runXV (As := [.int x1, .int x2, .int x3]) (rest := [.int 0, .ref q]) C (vE_left E) hV (c_X6_prior hl0 e1) (cwV 3 hts gL_prior_X6_prior rfl rfl rfl ⟨rfl, hd_X6_prior⟩ ⟨(Nat.le_of_ble_eq_true rfl), (Nat.le_of_ble_eq_true rfl)⟩) (q0 := 0) (ci := 6) rfl rfl rfl rfl hl.1 rfl (Nat.le_of_ble_eq_true rfl) dL_prior_7 ⟨(Nat.le_of_ble_eq_true rfl), (Nat.le_of_ble_eq_true rfl)⟩) (fun En ce q9 H locs hE E hq hv hcl => ?_) (fun r H locs hE E => ?_)
  · rw [hE, xb_r] at hf
    by_cases c0 : En = nIAE
    · rw [if_pos c0] at hf
      subst c0
      obtain rfl := Option.some.inj hf
      refine vx_catch (own := RL) (name := nIAE) hown [] ⟨0, 12, 15, 13⟩ [⟨0, 12, 19, 22⟩] (htab.trans rfl) (fun z hz => nomatch hz) (by decide) (by decide) (hts (.classLink RL 13 "java/lang/IllegalArgumentException") (List.mem_of_getElem? (i := 1) rfl)) (va_Nw.use rfl (hV.2.2.1.1 nIAE (by decide))) hq hv hcl ?_
      refine lv_astore (lv' := [(5, .ref q9), (0, .ref (a 0)), (1, .int x1), (2, .int x2), (3, .int x3), (4, .ref q)]) hx hb dL_prior_15 hl (by decide) rfl (fun ls hl => ?_)
      refine lv_iconst (v := 1) hx hb dL_prior_17 (by decide) ?_
      exact gw_iret C E dL_prior_18
    · rw [if_neg c0] at hf
      by_cases c1 : En = nISE
      · rw [if_pos c1] at hf
        subst c1
        obtain rfl := Option.some.inj hf
        refine vx_catch (own := RL) (name := nISE) hown [⟨0, 12, 15, 13⟩] ⟨0, 12, 19, 22⟩ [] (htab.trans rfl) (fun z hz => by rw [List.mem_singleton.mp hz]; exact Or.inr ⟨by decide, nIAE, hts (.classLink RL 13 "java/lang/IllegalArgumentException") (List.mem_of_getElem? (i := 1) rfl), hV.2.2.2.1⟩) (by decide) (by decide) (hts (.classLink RL 22 "java/lang/IllegalStateException") (List.mem_of_getElem? (i := 2) rfl)) (va_Nw.use rfl (hV.2.2.1.1 nISE (by decide))) hq hv hcl ?_
        refine lv_astore (lv' := [(5, .ref q9), (0, .ref (a 0)), (1, .int x1), (2, .int x2), (3, .int x3), (4, .ref q)]) hx hb dL_prior_19 hl (by decide) rfl (fun ls hl => ?_)
        refine lv_iconst (v := 2) hx hb dL_prior_21 (by decide) ?_
        exact gw_iret C E dL_prior_22
      · rw [if_neg c1] at hf
        cases hf
  · rw [hE, xb_l] at hf
    obtain rfl := Option.some.inj hf
    refine lv_i2l hx hb dL_prior_10 rfl ?_
    refine g_last (w' := ((cW a cI cJ cZ vl hs isz igd iup idn osz ogd oup odn dep rsz lgd llf ldb ldy lsz lti o1.2.1 o1.2.2.1 o1.2.2.2.1 o1.2.2.2.2 bgd bam bwt bsh brm bsz cab cbl tod imp dis owe itr) ++ [(q, .inl (cJ, 1, .inr (.inl (vp_updL out (0 : Int32).toNatClampNeg r.toInt64))))])) C E 33 rfl (pk_in 0 1 (by decide)) dL_prior_11 rfl (fun H locs E => ?_)
    refine lv_goto (tgt := 23) hx hb dL_prior_12 (by decide) ?_
    refine lv_iconst (v := 0) hx hb dL_prior_23 (by decide) ?_
    exact gw_iret C E dL_prior_24
abbrev rm_L_chain : Room := { frames := 7, cells := 1, slots := 6, locals := 162 }
theorem hd_L_chain : yL_chain.cls ≠ "java/lang/invoke/MethodHandle" ∧ yL_chain.cls ≠ "java/lang/invoke/VarHandle" ∧ (parseMethodDescriptor yL_chain.desc).map (fun d => d.parameters.length) = some 5 := by decide +kernel
def f_L_chain (isz : Nat → Int32) (igd : Nat → Int32) (iup : Nat → Int32) (idn : Nat → Int32) (dep : Nat → Int32) (cab : Nat → Int64) (cbl : Nat → Int64) (x1 : Int32) (x2 : Int32) (x3 : Int32) (out : Nat → Int64) : Option (Int32 × (Nat → Int64) × (Nat → Int64) × (Nat → Int64)) :=
  (f_X6_chain isz igd iup idn dep cab cbl x1 x2 x3).bind fun o1 =>
  xb o1.1 (fun r => some ((0 : Int32), o1.2.1, o1.2.2, (vp_updL out (0 : Int32).toNatClampNeg r))) (fun En => if En = nIAE then some ((1 : Int32), o1.2.1, o1.2.2, out) else none)
set_option maxHeartbeats 4000000 in
set_option maxRecDepth 100000 in
theorem c_L_chain {l : Launch} {D : va_G} {cI cJ cZ : ClassId} {a : Nat → Nat} {q sz : Nat} {vl : Nat → Int32} {hs : Nat → Int32} {isz : Nat → Int32} {igd : Nat → Int32} {iup : Nat → Int32} {idn : Nat → Int32} {osz : Nat → Int32} {ogd : Nat → Int32} {oup : Nat → Int32} {odn : Nat → Int32} {dep : Nat → Int32} {rsz : Int32} {lgd : Nat → Int32} {llf : Nat → Int64} {ldb : Nat → Int64} {ldy : Nat → Int32} {lsz : Int32} {lti : Int64} {pgd : Nat → Int32} {plf : Nat → Int64} {pun : Nat → Int32} {psz : Int32} {bgd : Nat → Int32} {bam : Nat → Int64} {bwt : Nat → Int64} {bsh : Nat → Int64} {brm : Nat → Int64} {bsz : Int32} {cab : Nat → Int64} {cbl : Nat → Int64} {tod : Int32} {imp : Int64} {dis : Int64} {owe : Int64} {itr : Int64} {x1 : Int32} {x2 : Int32} {x3 : Int32} {out : Nat → Int64} {o : Int32 × (Nat → Int64) × (Nat → Int64) × (Nat → Int64)} (hl0 : l.stackTraces = false) (hf : f_L_chain isz igd iup idn dep cab cbl x1 x2 x3 out = some o) : gMWi l yL_chain wsL_chain rm_L_chain D (gT cI cJ cZ) ((cW a cI cJ cZ vl hs isz igd iup idn osz ogd oup odn dep rsz lgd llf ldb ldy lsz lti pgd plf pun psz bgd bam bwt bsh brm bsz cab cbl tod imp dis owe itr) ++ [(q, .inl (cJ, 1, .inr (.inl out)))]) ((cW a cI cJ cZ vl hs isz igd iup idn osz ogd oup odn dep rsz lgd llf ldb ldy lsz lti pgd plf pun psz bgd bam bwt bsh brm bsz o.2.1 o.2.2.1 tod imp dis owe itr) ++ [(q, .inl (cJ, 1, .inr (.inl o.2.2.2)))]) sz [.ref (a 0), .int x1, .int x2, .int x3, .ref q] o.1 := by
  refine gw_of hl0 (cc := cL_chain) (maxL := 6) (ret := (some .int)) (hh := [(0, 11, 14, 13)]) (by decide) rfl (Nat.le_of_ble_eq_true rfl) ?_
  intro p e s m below meth c A ls hAe C hV htab hl E
  rw [← hAe]
  obtain ⟨hx, hb, hr, hml, hown, hts, hlocks, hN, hA⟩ := id C
  have hl : lv_has ls 6 [(0, .ref (a 0)), (1, .int x1), (2, .int x2), (3, .int x3), (4, .ref q)] := hl
  have E : vE s A D (gT cI cJ cZ) ((cW a cI cJ cZ vl hs isz igd iup idn osz ogd oup odn dep rsz lgd llf ldb ldy lsz lti pgd plf pun psz bgd bam bwt bsh brm bsz cab cbl tod imp dis owe itr) ++ [(q, .inl (cJ, 1, .inr (.inl out)))]) s.heap [] := E
  rw [f_L_chain] at hf
  refine lv_aload hx hb dL_chain_0 (lv_at hl 4 rfl) ?_
  refine lv_iconst (v := 0) hx hb dL_chain_2 (by decide) ?_
  refine lv_aload_n hx hb dL_chain_3 rfl (lv_at hl 0 rfl) ?_
  refine lv_iload_n hx hb dL_chain_4 rfl (lv_at hl 1 rfl) ?_
  refine lv_iload_n hx hb dL_chain_5 rfl (lv_at hl 2 rfl) ?_
  refine lv_iload_n hx hb dL_chain_6 rfl (lv_at hl 3 rfl) ?_
  obtain ⟨o1, e1, hf⟩ := bd_some hf
  refine gw_calll (wc' := (cW a cI cJ cZ vl hs isz igd iup idn osz ogd oup odn dep rsz lgd llf ldb ldy lsz lti pgd plf pun psz bgd bam bwt bsh brm bsz o1.2.1 o1.2.2 tod imp dis owe itr)) C E (g_runXV (As := [.int x1, .int x2, .int x3]) (rest := [.int 0, .ref q]) C (vE_left E) hV (c_X6_chain hl0 e1) (cwV 3 hts gL_chain_X6_chain rfl rfl rfl ⟨rfl, hd_X6_chain⟩ ⟨(Nat.le_of_ble_eq_true rfl), (Nat.le_of_ble_eq_true rfl)⟩) (q0 := 0) (ci := 6) rfl rfl rfl rfl hl.1 rfl (Nat.le_of_ble_eq_true rfl) dL_chain_7 ⟨(Nat.le_of_ble_eq_true rfl), (Nat.le_of_ble_eq_true rfl)⟩) (fun En ce q9 H locs hE E hq hv hcl => ?_) (fun r H locs hE E => ?_)
  · rw [hE, xb_r] at hf
    by_cases c0 : En = nIAE
    · rw [if_pos c0] at hf
      subst c0
      obtain rfl := Option.some.inj hf
      refine vx_catch (own := RL) (name := nIAE) hown [] ⟨0, 11, 14, 13⟩ [] (htab.trans rfl) (fun z hz => nomatch hz) (by decide) (by decide) (hts (.classLink RL 13 "java/lang/IllegalArgumentException") (List.mem_of_getElem? (i := 1) rfl)) (va_Nw.use rfl (hV.2.2.1.1 nIAE (by decide))) hq hv hcl ?_
      refine lv_astore (lv' := [(5, .ref q9), (0, .ref (a 0)), (1, .int x1), (2, .int x2), (3, .int x3), (4, .ref q)]) hx hb dL_chain_14 hl (by decide) rfl (fun ls hl => ?_)
      refine lv_iconst (v := 1) hx hb dL_chain_16 (by decide) ?_
      exact gw_iret C E dL_chain_17
    · rw [if_neg c0] at hf
      cases hf
  · rw [hE, xb_l] at hf
    obtain rfl := Option.some.inj hf
    refine g_last (w' := ((cW a cI cJ cZ vl hs isz igd iup idn osz ogd oup odn dep rsz lgd llf ldb ldy lsz lti pgd plf pun psz bgd bam bwt bsh brm bsz o1.2.1 o1.2.2 tod imp dis owe itr) ++ [(q, .inl (cJ, 1, .inr (.inl (vp_updL out (0 : Int32).toNatClampNeg r))))])) C E 33 rfl (pk_in 0 1 (by decide)) dL_chain_10 rfl (fun H locs E => ?_)
    refine lv_goto (tgt := 18) hx hb dL_chain_11 (by decide) ?_
    refine lv_iconst (v := 0) hx hb dL_chain_18 (by decide) ?_
    exact gw_iret C E dL_chain_19
abbrev rm_L_look : Room := { frames := 7, cells := 1, slots := 6, locals := 112 }
theorem hd_L_look : yL_look.cls ≠ "java/lang/invoke/MethodHandle" ∧ yL_look.cls ≠ "java/lang/invoke/VarHandle" ∧ (parseMethodDescriptor yL_look.desc).map (fun d => d.parameters.length) = some 4 := by decide +kernel
def f_L_look (vl : Nat → Int32) (hs : Nat → Int32) (isz : Nat → Int32) (osz : Nat → Int32) (dep : Nat → Int32) (lgd : Nat → Int32) (llf : Nat → Int64) (ldb : Nat → Int64) (lsz : Int32) (pgd : Nat → Int32) (plf : Nat → Int64) (pun : Nat → Int32) (psz : Int32) (tod : Int32) (x1 : Int32) (x2 : Int32) (out : Nat → Int64) : Option (Int32 × (Nat → Int64)) :=
  (f_X6_look vl hs isz osz dep lgd llf ldb lsz pgd plf pun psz tod x1 x2).bind fun o1 =>
  xb o1 (fun r => some ((0 : Int32), (vp_updL out (0 : Int32).toNatClampNeg r))) (fun En => if En = nIOE then some ((1 : Int32), out) else none)
set_option maxHeartbeats 4000000 in
set_option maxRecDepth 100000 in
theorem c_L_look {l : Launch} {D : va_G} {cI cJ cZ : ClassId} {a : Nat → Nat} {q sz : Nat} {vl : Nat → Int32} {hs : Nat → Int32} {isz : Nat → Int32} {igd : Nat → Int32} {iup : Nat → Int32} {idn : Nat → Int32} {osz : Nat → Int32} {ogd : Nat → Int32} {oup : Nat → Int32} {odn : Nat → Int32} {dep : Nat → Int32} {rsz : Int32} {lgd : Nat → Int32} {llf : Nat → Int64} {ldb : Nat → Int64} {ldy : Nat → Int32} {lsz : Int32} {lti : Int64} {pgd : Nat → Int32} {plf : Nat → Int64} {pun : Nat → Int32} {psz : Int32} {bgd : Nat → Int32} {bam : Nat → Int64} {bwt : Nat → Int64} {bsh : Nat → Int64} {brm : Nat → Int64} {bsz : Int32} {cab : Nat → Int64} {cbl : Nat → Int64} {tod : Int32} {imp : Int64} {dis : Int64} {owe : Int64} {itr : Int64} {x1 : Int32} {x2 : Int32} {out : Nat → Int64} {o : Int32 × (Nat → Int64)} (hl0 : l.stackTraces = false) (hf : f_L_look vl hs isz osz dep lgd llf ldb lsz pgd plf pun psz tod x1 x2 out = some o) : gMWi l yL_look wsL_look rm_L_look D (gT cI cJ cZ) ((cW a cI cJ cZ vl hs isz igd iup idn osz ogd oup odn dep rsz lgd llf ldb ldy lsz lti pgd plf pun psz bgd bam bwt bsh brm bsz cab cbl tod imp dis owe itr) ++ [(q, .inl (cJ, 1, .inr (.inl out)))]) ((cW a cI cJ cZ vl hs isz igd iup idn osz ogd oup odn dep rsz lgd llf ldb ldy lsz lti pgd plf pun psz bgd bam bwt bsh brm bsz cab cbl tod imp dis owe itr) ++ [(q, .inl (cJ, 1, .inr (.inl o.2)))]) sz [.ref (a 0), .int x1, .int x2, .ref q] o.1 := by
  refine gw_of hl0 (cc := cL_look) (maxL := 5) (ret := (some .int)) (hh := [(0, 9, 12, 45)]) (by decide) rfl (Nat.le_of_ble_eq_true rfl) ?_
  intro p e s m below meth c A ls hAe C hV htab hl E
  rw [← hAe]
  obtain ⟨hx, hb, hr, hml, hown, hts, hlocks, hN, hA⟩ := id C
  have hl : lv_has ls 5 [(0, .ref (a 0)), (1, .int x1), (2, .int x2), (3, .ref q)] := hl
  have E : vE s A D (gT cI cJ cZ) ((cW a cI cJ cZ vl hs isz igd iup idn osz ogd oup odn dep rsz lgd llf ldb ldy lsz lti pgd plf pun psz bgd bam bwt bsh brm bsz cab cbl tod imp dis owe itr) ++ [(q, .inl (cJ, 1, .inr (.inl out)))]) s.heap [] := E
  rw [f_L_look] at hf
  refine lv_aload_n hx hb dL_look_0 rfl (lv_at hl 3 rfl) ?_
  refine lv_iconst (v := 0) hx hb dL_look_1 (by decide) ?_
  refine lv_aload_n hx hb dL_look_2 rfl (lv_at hl 0 rfl) ?_
  refine lv_iload_n hx hb dL_look_3 rfl (lv_at hl 1 rfl) ?_
  refine lv_iload_n hx hb dL_look_4 rfl (lv_at hl 2 rfl) ?_
  obtain ⟨o1, e1, hf⟩ := bd_some hf
  refine gw_calll (wc' := (cW a cI cJ cZ vl hs isz igd iup idn osz ogd oup odn dep rsz lgd llf ldb ldy lsz lti pgd plf pun psz bgd bam bwt bsh brm bsz cab cbl tod imp dis owe itr)) C E (g_runXV (As := [.int x1, .int x2]) (rest := [.int 0, .ref q]) C (vE_left E) hV (c_X6_look hl0 e1) (cwV 2 hts gL_look_X6_look rfl rfl rfl ⟨rfl, hd_X6_look⟩ ⟨(Nat.le_of_ble_eq_true rfl), (Nat.le_of_ble_eq_true rfl)⟩) (q0 := 0) (ci := 6) rfl rfl rfl rfl hl.1 rfl (Nat.le_of_ble_eq_true rfl) dL_look_5 ⟨(Nat.le_of_ble_eq_true rfl), (Nat.le_of_ble_eq_true rfl)⟩) (fun En ce q9 H locs hE E hq hv hcl => ?_) (fun r H locs hE E => ?_)
  · rw [hE, xb_r] at hf
    by_cases c0 : En = nIOE
    · rw [if_pos c0] at hf
      subst c0
      obtain rfl := Option.some.inj hf
      refine vx_catch (own := RL) (name := nIOE) hown [] ⟨0, 9, 12, 45⟩ [] (htab.trans rfl) (fun z hz => nomatch hz) (by decide) (by decide) (hts (.classLink RL 45 "java/lang/IndexOutOfBoundsException") (List.mem_of_getElem? (i := 1) rfl)) (va_Nw.use rfl (hV.2.2.1.1 nIOE (by decide))) hq hv hcl ?_
      refine lv_astore (lv' := [(4, .ref q9), (0, .ref (a 0)), (1, .int x1), (2, .int x2), (3, .ref q)]) hx hb dL_look_12 hl (by decide) rfl (fun ls hl => ?_)
      refine lv_iconst (v := 1) hx hb dL_look_14 (by decide) ?_
      exact gw_iret C E dL_look_15
    · rw [if_neg c0] at hf
      cases hf
  · rw [hE, xb_l] at hf
    obtain rfl := Option.some.inj hf
    refine g_last (w' := ((cW a cI cJ cZ vl hs isz igd iup idn osz ogd oup odn dep rsz lgd llf ldb ldy lsz lti pgd plf pun psz bgd bam bwt bsh brm bsz cab cbl tod imp dis owe itr) ++ [(q, .inl (cJ, 1, .inr (.inl (vp_updL out (0 : Int32).toNatClampNeg r))))])) C E 33 rfl (pk_in 0 1 (by decide)) dL_look_8 rfl (fun H locs E => ?_)
    refine lv_goto (tgt := 16) hx hb dL_look_9 (by decide) ?_
    refine lv_iconst (v := 0) hx hb dL_look_16 (by decide) ?_
    exact gw_iret C E dL_look_17
abbrev rm_L_lot : Room := { frames := 7, cells := 1, slots := 6, locals := 112 }
theorem hd_L_lot : yL_lot.cls ≠ "java/lang/invoke/MethodHandle" ∧ yL_lot.cls ≠ "java/lang/invoke/VarHandle" ∧ (parseMethodDescriptor yL_lot.desc).map (fun d => d.parameters.length) = some 4 := by decide +kernel
def f_L_lot (lgd : Nat → Int32) (llf : Nat → Int64) (ldb : Nat → Int64) (ldy : Nat → Int32) (lsz : Int32) (x1 : Int32) (x2 : Int32) (out : Nat → Int64) : Option (Int32 × (Nat → Int64)) :=
  (f_X6_lot lgd llf ldb ldy lsz x1 x2).bind fun o1 =>
  xb o1 (fun r => some ((0 : Int32), (vp_updL out (0 : Int32).toNatClampNeg r))) (fun En => if En = nIOE then some ((1 : Int32), out) else none)
set_option maxHeartbeats 4000000 in
set_option maxRecDepth 100000 in
theorem c_L_lot {l : Launch} {D : va_G} {cI cJ cZ : ClassId} {a : Nat → Nat} {q sz : Nat} {vl : Nat → Int32} {hs : Nat → Int32} {isz : Nat → Int32} {igd : Nat → Int32} {iup : Nat → Int32} {idn : Nat → Int32} {osz : Nat → Int32} {ogd : Nat → Int32} {oup : Nat → Int32} {odn : Nat → Int32} {dep : Nat → Int32} {rsz : Int32} {lgd : Nat → Int32} {llf : Nat → Int64} {ldb : Nat → Int64} {ldy : Nat → Int32} {lsz : Int32} {lti : Int64} {pgd : Nat → Int32} {plf : Nat → Int64} {pun : Nat → Int32} {psz : Int32} {bgd : Nat → Int32} {bam : Nat → Int64} {bwt : Nat → Int64} {bsh : Nat → Int64} {brm : Nat → Int64} {bsz : Int32} {cab : Nat → Int64} {cbl : Nat → Int64} {tod : Int32} {imp : Int64} {dis : Int64} {owe : Int64} {itr : Int64} {x1 : Int32} {x2 : Int32} {out : Nat → Int64} {o : Int32 × (Nat → Int64)} (hl0 : l.stackTraces = false) (hf : f_L_lot lgd llf ldb ldy lsz x1 x2 out = some o) : gMWi l yL_lot wsL_lot rm_L_lot D (gT cI cJ cZ) ((cW a cI cJ cZ vl hs isz igd iup idn osz ogd oup odn dep rsz lgd llf ldb ldy lsz lti pgd plf pun psz bgd bam bwt bsh brm bsz cab cbl tod imp dis owe itr) ++ [(q, .inl (cJ, 1, .inr (.inl out)))]) ((cW a cI cJ cZ vl hs isz igd iup idn osz ogd oup odn dep rsz lgd llf ldb ldy lsz lti pgd plf pun psz bgd bam bwt bsh brm bsz cab cbl tod imp dis owe itr) ++ [(q, .inl (cJ, 1, .inr (.inl o.2)))]) sz [.ref (a 0), .int x1, .int x2, .ref q] o.1 := by
  refine gw_of hl0 (cc := cL_lot) (maxL := 5) (ret := (some .int)) (hh := [(0, 9, 12, 45)]) (by decide) rfl (Nat.le_of_ble_eq_true rfl) ?_
  intro p e s m below meth c A ls hAe C hV htab hl E
  rw [← hAe]
  obtain ⟨hx, hb, hr, hml, hown, hts, hlocks, hN, hA⟩ := id C
  have hl : lv_has ls 5 [(0, .ref (a 0)), (1, .int x1), (2, .int x2), (3, .ref q)] := hl
  have E : vE s A D (gT cI cJ cZ) ((cW a cI cJ cZ vl hs isz igd iup idn osz ogd oup odn dep rsz lgd llf ldb ldy lsz lti pgd plf pun psz bgd bam bwt bsh brm bsz cab cbl tod imp dis owe itr) ++ [(q, .inl (cJ, 1, .inr (.inl out)))]) s.heap [] := E
  rw [f_L_lot] at hf
  refine lv_aload_n hx hb dL_lot_0 rfl (lv_at hl 3 rfl) ?_
  refine lv_iconst (v := 0) hx hb dL_lot_1 (by decide) ?_
  refine lv_aload_n hx hb dL_lot_2 rfl (lv_at hl 0 rfl) ?_
  refine lv_iload_n hx hb dL_lot_3 rfl (lv_at hl 1 rfl) ?_
  refine lv_iload_n hx hb dL_lot_4 rfl (lv_at hl 2 rfl) ?_
  obtain ⟨o1, e1, hf⟩ := bd_some hf
  refine gw_calll (wc' := (cW a cI cJ cZ vl hs isz igd iup idn osz ogd oup odn dep rsz lgd llf ldb ldy lsz lti pgd plf pun psz bgd bam bwt bsh brm bsz cab cbl tod imp dis owe itr)) C E (g_runXV (As := [.int x1, .int x2]) (rest := [.int 0, .ref q]) C (vE_left E) hV (c_X6_lot hl0 e1) (cwV 2 hts gL_lot_X6_lot rfl rfl rfl ⟨rfl, hd_X6_lot⟩ ⟨(Nat.le_of_ble_eq_true rfl), (Nat.le_of_ble_eq_true rfl)⟩) (q0 := 0) (ci := 6) rfl rfl rfl rfl hl.1 rfl (Nat.le_of_ble_eq_true rfl) dL_lot_5 ⟨(Nat.le_of_ble_eq_true rfl), (Nat.le_of_ble_eq_true rfl)⟩) (fun En ce q9 H locs hE E hq hv hcl => ?_) (fun r H locs hE E => ?_)
  · rw [hE, xb_r] at hf
    by_cases c0 : En = nIOE
    · rw [if_pos c0] at hf
      subst c0
      obtain rfl := Option.some.inj hf
      refine vx_catch (own := RL) (name := nIOE) hown [] ⟨0, 9, 12, 45⟩ [] (htab.trans rfl) (fun z hz => nomatch hz) (by decide) (by decide) (hts (.classLink RL 45 "java/lang/IndexOutOfBoundsException") (List.mem_of_getElem? (i := 1) rfl)) (va_Nw.use rfl (hV.2.2.1.1 nIOE (by decide))) hq hv hcl ?_
      refine lv_astore (lv' := [(4, .ref q9), (0, .ref (a 0)), (1, .int x1), (2, .int x2), (3, .ref q)]) hx hb dL_lot_12 hl (by decide) rfl (fun ls hl => ?_)
      refine lv_iconst (v := 1) hx hb dL_lot_14 (by decide) ?_
      exact gw_iret C E dL_lot_15
    · rw [if_neg c0] at hf
      cases hf
  · rw [hE, xb_l] at hf
    obtain rfl := Option.some.inj hf
    refine g_last (w' := ((cW a cI cJ cZ vl hs isz igd iup idn osz ogd oup odn dep rsz lgd llf ldb ldy lsz lti pgd plf pun psz bgd bam bwt bsh brm bsz cab cbl tod imp dis owe itr) ++ [(q, .inl (cJ, 1, .inr (.inl (vp_updL out (0 : Int32).toNatClampNeg r))))])) C E 33 rfl (pk_in 0 1 (by decide)) dL_lot_8 rfl (fun H locs E => ?_)
    refine lv_goto (tgt := 16) hx hb dL_lot_9 (by decide) ?_
    refine lv_iconst (v := 0) hx hb dL_lot_16 (by decide) ?_
    exact gw_iret C E dL_lot_17
abbrev rm_L_quotient : Room := { frames := 7, cells := 1, slots := 6, locals := 112 }
theorem hd_L_quotient : yL_quotient.cls ≠ "java/lang/invoke/MethodHandle" ∧ yL_quotient.cls ≠ "java/lang/invoke/VarHandle" ∧ (parseMethodDescriptor yL_quotient.desc).map (fun d => d.parameters.length) = some 4 := by decide +kernel
def f_L_quotient  (x1 : Int32) (x2 : Int32) (out : Nat → Int64) : Option (Int32 × (Nat → Int64)) :=
  (f_X6_quotient x1 x2).bind fun o1 =>
  xb o1 (fun r => some ((0 : Int32), (vp_updL out (0 : Int32).toNatClampNeg r))) (fun En => if En = nIAE then some ((1 : Int32), out) else if En = nARE then some ((2 : Int32), out) else none)
set_option maxHeartbeats 4000000 in
set_option maxRecDepth 100000 in
theorem c_L_quotient {l : Launch} {D : va_G} {cI cJ cZ : ClassId} {a : Nat → Nat} {q sz : Nat} {vl : Nat → Int32} {hs : Nat → Int32} {isz : Nat → Int32} {igd : Nat → Int32} {iup : Nat → Int32} {idn : Nat → Int32} {osz : Nat → Int32} {ogd : Nat → Int32} {oup : Nat → Int32} {odn : Nat → Int32} {dep : Nat → Int32} {rsz : Int32} {lgd : Nat → Int32} {llf : Nat → Int64} {ldb : Nat → Int64} {ldy : Nat → Int32} {lsz : Int32} {lti : Int64} {pgd : Nat → Int32} {plf : Nat → Int64} {pun : Nat → Int32} {psz : Int32} {bgd : Nat → Int32} {bam : Nat → Int64} {bwt : Nat → Int64} {bsh : Nat → Int64} {brm : Nat → Int64} {bsz : Int32} {cab : Nat → Int64} {cbl : Nat → Int64} {tod : Int32} {imp : Int64} {dis : Int64} {owe : Int64} {itr : Int64} {x1 : Int32} {x2 : Int32} {out : Nat → Int64} {o : Int32 × (Nat → Int64)} (hl0 : l.stackTraces = false) (hf : f_L_quotient x1 x2 out = some o) : gMWi l yL_quotient wsL_quotient rm_L_quotient D (gT cI cJ cZ) ((cW a cI cJ cZ vl hs isz igd iup idn osz ogd oup odn dep rsz lgd llf ldb ldy lsz lti pgd plf pun psz bgd bam bwt bsh brm bsz cab cbl tod imp dis owe itr) ++ [(q, .inl (cJ, 1, .inr (.inl out)))]) ((cW a cI cJ cZ vl hs isz igd iup idn osz ogd oup odn dep rsz lgd llf ldb ldy lsz lti pgd plf pun psz bgd bam bwt bsh brm bsz cab cbl tod imp dis owe itr) ++ [(q, .inl (cJ, 1, .inr (.inl o.2)))]) sz [.ref (a 0), .int x1, .int x2, .ref q] o.1 := by
  refine gw_of hl0 (cc := cL_quotient) (maxL := 5) (ret := (some .int)) (hh := [(0, 9, 12, 13), (0, 9, 16, 53)]) (by decide) rfl (Nat.le_of_ble_eq_true rfl) ?_
  intro p e s m below meth c A ls hAe C hV htab hl E
  rw [← hAe]
  obtain ⟨hx, hb, hr, hml, hown, hts, hlocks, hN, hA⟩ := id C
  have hl : lv_has ls 5 [(0, .ref (a 0)), (1, .int x1), (2, .int x2), (3, .ref q)] := hl
  have E : vE s A D (gT cI cJ cZ) ((cW a cI cJ cZ vl hs isz igd iup idn osz ogd oup odn dep rsz lgd llf ldb ldy lsz lti pgd plf pun psz bgd bam bwt bsh brm bsz cab cbl tod imp dis owe itr) ++ [(q, .inl (cJ, 1, .inr (.inl out)))]) s.heap [] := E
  rw [f_L_quotient] at hf
  refine lv_aload_n hx hb dL_quotient_0 rfl (lv_at hl 3 rfl) ?_
  refine lv_iconst (v := 0) hx hb dL_quotient_1 (by decide) ?_
  refine lv_aload_n hx hb dL_quotient_2 rfl (lv_at hl 0 rfl) ?_
  refine lv_iload_n hx hb dL_quotient_3 rfl (lv_at hl 1 rfl) ?_
  refine lv_iload_n hx hb dL_quotient_4 rfl (lv_at hl 2 rfl) ?_
  obtain ⟨o1, e1, hf⟩ := bd_some hf
  refine gw_calll (wc' := (cW a cI cJ cZ vl hs isz igd iup idn osz ogd oup odn dep rsz lgd llf ldb ldy lsz lti pgd plf pun psz bgd bam bwt bsh brm bsz cab cbl tod imp dis owe itr)) C E (g_runXV (As := [.int x1, .int x2]) (rest := [.int 0, .ref q]) C (vE_left E) hV (c_X6_quotient hl0 e1) (cwV 2 hts gL_quotient_X6_quotient rfl rfl rfl ⟨rfl, hd_X6_quotient⟩ ⟨(Nat.le_of_ble_eq_true rfl), (Nat.le_of_ble_eq_true rfl)⟩) (q0 := 0) (ci := 6) rfl rfl rfl rfl hl.1 rfl (Nat.le_of_ble_eq_true rfl) dL_quotient_5 ⟨(Nat.le_of_ble_eq_true rfl), (Nat.le_of_ble_eq_true rfl)⟩) (fun En ce q9 H locs hE E hq hv hcl => ?_) (fun r H locs hE E => ?_)
  · rw [hE, xb_r] at hf
    by_cases c0 : En = nIAE
    · rw [if_pos c0] at hf
      subst c0
      obtain rfl := Option.some.inj hf
      refine vx_catch (own := RL) (name := nIAE) hown [] ⟨0, 9, 12, 13⟩ [⟨0, 9, 16, 53⟩] (htab.trans rfl) (fun z hz => nomatch hz) (by decide) (by decide) (hts (.classLink RL 13 "java/lang/IllegalArgumentException") (List.mem_of_getElem? (i := 1) rfl)) (va_Nw.use rfl (hV.2.2.1.1 nIAE (by decide))) hq hv hcl ?_
      refine lv_astore (lv' := [(4, .ref q9), (0, .ref (a 0)), (1, .int x1), (2, .int x2), (3, .ref q)]) hx hb dL_quotient_12 hl (by decide) rfl (fun ls hl => ?_)
      refine lv_iconst (v := 1) hx hb dL_quotient_14 (by decide) ?_
      exact gw_iret C E dL_quotient_15
    · rw [if_neg c0] at hf
      by_cases c1 : En = nARE
      · rw [if_pos c1] at hf
        subst c1
        obtain rfl := Option.some.inj hf
        refine vx_catch (own := RL) (name := nARE) hown [⟨0, 9, 12, 13⟩] ⟨0, 9, 16, 53⟩ [] (htab.trans rfl) (fun z hz => by rw [List.mem_singleton.mp hz]; exact Or.inr ⟨by decide, nIAE, hts (.classLink RL 13 "java/lang/IllegalArgumentException") (List.mem_of_getElem? (i := 1) rfl), hV.2.2.2.2⟩) (by decide) (by decide) (hts (.classLink RL 53 "java/lang/ArithmeticException") (List.mem_of_getElem? (i := 2) rfl)) (va_Nw.use rfl (hV.2.2.1.1 nARE (by decide))) hq hv hcl ?_
        refine lv_astore (lv' := [(4, .ref q9), (0, .ref (a 0)), (1, .int x1), (2, .int x2), (3, .ref q)]) hx hb dL_quotient_16 hl (by decide) rfl (fun ls hl => ?_)
        refine lv_iconst (v := 2) hx hb dL_quotient_18 (by decide) ?_
        exact gw_iret C E dL_quotient_19
      · rw [if_neg c1] at hf
        cases hf
  · rw [hE, xb_l] at hf
    obtain rfl := Option.some.inj hf
    refine g_last (w' := ((cW a cI cJ cZ vl hs isz igd iup idn osz ogd oup odn dep rsz lgd llf ldb ldy lsz lti pgd plf pun psz bgd bam bwt bsh brm bsz cab cbl tod imp dis owe itr) ++ [(q, .inl (cJ, 1, .inr (.inl (vp_updL out (0 : Int32).toNatClampNeg r))))])) C E 33 rfl (pk_in 0 1 (by decide)) dL_quotient_8 rfl (fun H locs E => ?_)
    refine lv_goto (tgt := 20) hx hb dL_quotient_9 (by decide) ?_
    refine lv_iconst (v := 0) hx hb dL_quotient_20 (by decide) ?_
    exact gw_iret C E dL_quotient_21
