/-- steps enough for every loop -/
def FU : Nat := 1000
def cW (a : Nat → Nat) (cI cJ cZ : ClassId) (vl : Nat → Int32) (hs : Nat → Int32) (isz : Nat → Int32) (igd : Nat → Int32) (iup : Nat → Int32) (idn : Nat → Int32) (osz : Nat → Int32) (ogd : Nat → Int32) (oup : Nat → Int32) (odn : Nat → Int32) (dep : Nat → Int32) (rsz : Int32) (lgd : Nat → Int32) (llf : Nat → Int64) (ldb : Nat → Int64) (ldy : Nat → Int32) (lsz : Int32) (lti : Int64) (pgd : Nat → Int32) (plf : Nat → Int64) (pun : Nat → Int32) (psz : Int32) (bgd : Nat → Int32) (bam : Nat → Int64) (bwt : Nat → Int64) (bsh : Nat → Int64) (brm : Nat → Int64) (bsz : Int32) (cab : Nat → Int64) (cbl : Nat → Int64) (tod : Int32) (imp : Int64) (dis : Int64) (owe : Int64) (itr : Int64) : va_W := [(a 0, .inr (6, [.ref (a 1), .ref (a 2), .ref (a 15), .ref (a 20), .ref (a 24), .ref (a 30), .int tod, .long imp, .long dis, .long owe, .long itr])),
  (a 1, .inl (cI, 12, .inl vl)),
  (a 2, .inr (5, [.ref (a 3), .ref (a 4), .ref (a 9), .ref (a 14), .int rsz])),
  (a 3, .inl (cZ, 12, .inl hs)),
  (a 4, .inr (3, [.int 4, .ref (a 5), .ref (a 6), .ref (a 7), .ref (a 8)])),
  (a 5, .inl (cI, 12, .inl isz)),
  (a 6, .inl (cI, 48, .inl igd)),
  (a 7, .inl (cI, 48, .inl iup)),
  (a 8, .inl (cI, 48, .inl idn)),
  (a 9, .inr (3, [.int 2, .ref (a 10), .ref (a 11), .ref (a 12), .ref (a 13)])),
  (a 10, .inl (cI, 12, .inl osz)),
  (a 11, .inl (cI, 48, .inl ogd)),
  (a 12, .inl (cI, 48, .inl oup)),
  (a 13, .inl (cI, 48, .inl odn)),
  (a 14, .inl (cI, 12, .inl dep)),
  (a 15, .inr (2, [.ref (a 16), .ref (a 17), .ref (a 18), .ref (a 19), .int lsz, .long lti])),
  (a 16, .inl (cI, 200, .inl lgd)),
  (a 17, .inl (cJ, 200, .inr (.inl llf))),
  (a 18, .inl (cJ, 200, .inr (.inl ldb))),
  (a 19, .inl (cI, 200, .inl ldy)),
  (a 20, .inr (4, [.ref (a 21), .ref (a 22), .ref (a 23), .int psz])),
  (a 21, .inl (cI, 40, .inl pgd)),
  (a 22, .inl (cJ, 40, .inr (.inl plf))),
  (a 23, .inl (cI, 40, .inl pun)),
  (a 24, .inr (0, [.ref (a 25), .ref (a 26), .ref (a 27), .ref (a 28), .ref (a 29), .int bsz])),
  (a 25, .inl (cI, 3, .inl bgd)),
  (a 26, .inl (cJ, 3, .inr (.inl bam))),
  (a 27, .inl (cJ, 3, .inr (.inl bwt))),
  (a 28, .inl (cJ, 3, .inr (.inl bsh))),
  (a 29, .inl (cJ, 3, .inr (.inl brm))),
  (a 30, .inr (1, [.ref (a 31), .ref (a 32)])),
  (a 31, .inl (cJ, 12, .inr (.inl cab))),
  (a 32, .inl (cJ, 12, .inr (.inl cbl)))]
abbrev rm_X6_isWithin : Room := { frames := 0, cells := 0, slots := 0, locals := 0 }
theorem hd_X6_isWithin : yX6_isWithin.cls ≠ "java/lang/invoke/MethodHandle" ∧ yX6_isWithin.cls ≠ "java/lang/invoke/VarHandle" ∧ (parseMethodDescriptor yX6_isWithin.desc).map (fun d => d.parameters.length) = some 3 := by decide +kernel
def f_X6_isWithin  (x0 : Int32) (x1 : Int32) (x2 : Int32) : Option (Int32) :=
  if x0 < x1 then
    some ((0 : Int32))
  else
    if x2 < x0 then
      some ((0 : Int32))
    else
      some ((1 : Int32))
set_option maxHeartbeats 4000000 in
set_option maxRecDepth 100000 in
theorem c_X6_isWithin {l : Launch} {D : va_G} {tys : List (ClassId × FieldType)} {w : va_W} {sz : Nat} {x0 : Int32} {x1 : Int32} {x2 : Int32} {o : Int32} (hf : f_X6_isWithin x0 x1 x2 = some o) : gMi l yX6_isWithin wsX6_isWithin rm_X6_isWithin D tys w w sz [.int x0, .int x1, .int x2] o := by
  refine g_of (cc := cX6_isWithin) (maxL := 3) (ret := (some .boolean)) (by decide) rfl (Nat.le_of_ble_eq_true rfl) ?_
  intro p e s m below meth c A ls hAe C hl E
  rw [← hAe]
  obtain ⟨hx, hb, hr, hml, hown, hts, hlocks, hN, hA⟩ := id C
  have hl : lv_has ls 3 [(0, .int x0), (1, .int x1), (2, .int x2)] := hl
  have E : vE s A D tys w s.heap [] := E
  rw [f_X6_isWithin] at hf
  refine lv_iload_n hx hb dX6_isWithin_0 rfl (lv_at hl 0 rfl) ?_
  refine lv_iload_n hx hb dX6_isWithin_1 rfl (lv_at hl 1 rfl) ?_
  refine lv_icmp_lt (tgt := 14) hx hb dX6_isWithin_2 (by decide) (fun c1 => ?_) (fun c1 => ?_)
  · rw [if_pos c1] at hf
    refine lv_iconst (v := 0) hx hb dX6_isWithin_14 (by decide) ?_
    obtain rfl := Option.some.inj hf
    exact g_zret (r := 0) C E rfl dX6_isWithin_15
  · rw [if_neg c1] at hf
    refine lv_iload_n hx hb dX6_isWithin_5 rfl (lv_at hl 0 rfl) ?_
    refine lv_iload_n hx hb dX6_isWithin_6 rfl (lv_at hl 2 rfl) ?_
    refine lv_icmp_gt (tgt := 14) hx hb dX6_isWithin_7 (by decide) (fun c2 => ?_) (fun c2 => ?_)
    · rw [if_pos c2] at hf
      refine lv_iconst (v := 0) hx hb dX6_isWithin_14 (by decide) ?_
      obtain rfl := Option.some.inj hf
      exact g_zret (r := 0) C E rfl dX6_isWithin_15
    · rw [if_neg c2] at hf
      refine lv_iconst (v := 1) hx hb dX6_isWithin_10 (by decide) ?_
      refine lv_goto (tgt := 15) hx hb dX6_isWithin_11 (by decide) ?_
      obtain rfl := Option.some.inj hf
      exact g_zret (r := 1) C E rfl dX6_isWithin_15
abbrev rm_X6_isGood : Room := { frames := 1, cells := 0, slots := 0, locals := 22 }
theorem hd_X6_isGood : yX6_isGood.cls ≠ "java/lang/invoke/MethodHandle" ∧ yX6_isGood.cls ≠ "java/lang/invoke/VarHandle" ∧ (parseMethodDescriptor yX6_isGood.desc).map (fun d => d.parameters.length) = some 1 := by decide +kernel
def f_X6_isGood  (x0 : Int32) : Option (Int32) :=
  (f_X6_isWithin x0 (0 : Int32) (11 : Int32)).bind fun o1 =>
  okZ o1 <|
  some (o1)
set_option maxHeartbeats 4000000 in
set_option maxRecDepth 100000 in
theorem c_X6_isGood {l : Launch} {D : va_G} {tys : List (ClassId × FieldType)} {w : va_W} {sz : Nat} {x0 : Int32} {o : Int32} (hf : f_X6_isGood x0 = some o) : gMi l yX6_isGood wsX6_isGood rm_X6_isGood D tys w w sz [.int x0] o := by
  refine g_of (cc := cX6_isGood) (maxL := 1) (ret := (some .boolean)) (by decide) rfl (Nat.le_of_ble_eq_true rfl) ?_
  intro p e s m below meth c A ls hAe C hl E
  rw [← hAe]
  obtain ⟨hx, hb, hr, hml, hown, hts, hlocks, hN, hA⟩ := id C
  have hl : lv_has ls 1 [(0, .int x0)] := hl
  have E : vE s A D tys w s.heap [] := E
  rw [f_X6_isGood] at hf
  refine lv_iload_n hx hb dX6_isGood_0 rfl (lv_at hl 0 rfl) ?_
  refine lv_iconst (v := 0) hx hb dX6_isGood_1 (by decide) ?_
  refine lv_bipush (v := 11) hx hb dX6_isGood_2 (by decide) ?_
  obtain ⟨o1, e2, hf⟩ := bd_some hf
  refine g_calli (w' := w) C E (g_runS (As := [.int x0, .int (0 : Int32), .int (11 : Int32)]) (rest := []) C E (c_X6_isWithin e2) (va_cwS 3 hts gX6_isGood_X6_isWithin rfl rfl rfl hd_X6_isWithin ⟨Nat.le_of_ble_eq_true rfl, Nat.le_of_ble_eq_true rfl⟩) rfl hl.1 rfl (Nat.le_of_ble_eq_true rfl) dX6_isGood_4 ⟨Nat.le_of_ble_eq_true rfl, Nat.le_of_ble_eq_true rfl⟩) (fun H locs E => ?_)
  obtain ⟨h3, hf⟩ := okZ_some hf
  obtain rfl := Option.some.inj hf
  exact g_zret (r := o1) C E h3 dX6_isGood_7
abbrev rm_X6_floorOf : Room := { frames := 0, cells := 0, slots := 0, locals := 0 }
theorem hd_X6_floorOf : yX6_floorOf.cls ≠ "java/lang/invoke/MethodHandle" ∧ yX6_floorOf.cls ≠ "java/lang/invoke/VarHandle" ∧ (parseMethodDescriptor yX6_floorOf.desc).map (fun d => d.parameters.length) = some 2 := by decide +kernel
def f_X6_floorOf  (x0 : Int64) (x2 : Int64) : Option (Int64) :=
  if 0 ≤ (lg_cmp x2 (1 : Int64)) then
    nzL x2 <|
    some ((x0 / x2))
  else
    some ((0 : Int64))
set_option maxHeartbeats 4000000 in
set_option maxRecDepth 100000 in
theorem c_X6_floorOf {l : Launch} {D : va_G} {tys : List (ClassId × FieldType)} {w : va_W} {sz : Nat} {x0 : Int64} {x2 : Int64} {o : Int64} (hf : f_X6_floorOf x0 x2 = some o) : gMl l yX6_floorOf wsX6_floorOf rm_X6_floorOf D tys w w sz [.long x0, .long x2] o := by
  refine g_of (cc := cX6_floorOf) (maxL := 4) (ret := (some .long)) (by decide) rfl (Nat.le_of_ble_eq_true rfl) ?_
  intro p e s m below meth c A ls hAe C hl E
  rw [← hAe]
  obtain ⟨hx, hb, hr, hml, hown, hts, hlocks, hN, hA⟩ := id C
  have hl : lv_has ls 4 [(0, .long x0), (2, .long x2)] := hl
  have E : vE s A D tys w s.heap [] := E
  rw [f_X6_floorOf] at hf
  refine lv_lload_n hx hb dX6_floorOf_0 rfl (lv_at hl 1 rfl) ?_
  refine lv_lconst (v := 1) hx hb dX6_floorOf_1 (by decide) ?_
  refine W.lcmp hx hb dX6_floorOf_2 ?_
  refine lv_if_ge (tgt := 10) hx hb dX6_floorOf_3 (by decide) (fun c1 => ?_) (fun c1 => ?_)
  · rw [if_pos c1] at hf
    refine lv_lload_n hx hb dX6_floorOf_10 rfl (lv_at hl 0 rfl) ?_
    refine lv_lload_n hx hb dX6_floorOf_11 rfl (lv_at hl 1 rfl) ?_
    obtain ⟨h2, hf⟩ := nzL_some hf
    refine lv_ldiv hx hb dX6_floorOf_12 h2 ?_
    obtain rfl := Option.some.inj hf
    exact g_lret C E dX6_floorOf_13
  · rw [if_neg c1] at hf
    refine lv_lconst (v := 0) hx hb dX6_floorOf_6 (by decide) ?_
    refine lv_goto (tgt := 13) hx hb dX6_floorOf_7 (by decide) ?_
    obtain rfl := Option.some.inj hf
    exact g_lret C E dX6_floorOf_13
abbrev rm_X6_ceilOf : Room := { frames := 1, cells := 0, slots := 0, locals := 23 }
theorem hd_X6_ceilOf : yX6_ceilOf.cls ≠ "java/lang/invoke/MethodHandle" ∧ yX6_ceilOf.cls ≠ "java/lang/invoke/VarHandle" ∧ (parseMethodDescriptor yX6_ceilOf.desc).map (fun d => d.parameters.length) = some 2 := by decide +kernel
def f_X6_ceilOf  (x0 : Int64) (x2 : Int64) : Option (Int64) :=
  (f_X6_floorOf ((x0 + x2) - (1 : Int64)) x2).bind fun o1 =>
  some (o1)
set_option maxHeartbeats 4000000 in
set_option maxRecDepth 100000 in
theorem c_X6_ceilOf {l : Launch} {D : va_G} {tys : List (ClassId × FieldType)} {w : va_W} {sz : Nat} {x0 : Int64} {x2 : Int64} {o : Int64} (hf : f_X6_ceilOf x0 x2 = some o) : gMl l yX6_ceilOf wsX6_ceilOf rm_X6_ceilOf D tys w w sz [.long x0, .long x2] o := by
  refine g_of (cc := cX6_ceilOf) (maxL := 4) (ret := (some .long)) (by decide) rfl (Nat.le_of_ble_eq_true rfl) ?_
  intro p e s m below meth c A ls hAe C hl E
  rw [← hAe]
  obtain ⟨hx, hb, hr, hml, hown, hts, hlocks, hN, hA⟩ := id C
  have hl : lv_has ls 4 [(0, .long x0), (2, .long x2)] := hl
  have E : vE s A D tys w s.heap [] := E
  rw [f_X6_ceilOf] at hf
  refine lv_lload_n hx hb dX6_ceilOf_0 rfl (lv_at hl 0 rfl) ?_
  refine lv_lload_n hx hb dX6_ceilOf_1 rfl (lv_at hl 1 rfl) ?_
  refine lv_ladd hx hb dX6_ceilOf_2 ?_
  refine lv_lconst (v := 1) hx hb dX6_ceilOf_3 (by decide) ?_
  refine lv_lsub hx hb dX6_ceilOf_4 ?_
  refine lv_lload_n hx hb dX6_ceilOf_5 rfl (lv_at hl 1 rfl) ?_
  obtain ⟨o1, e2, hf⟩ := bd_some hf
  refine g_calll (w' := w) C E (g_runS (As := [.long ((x0 + x2) - (1 : Int64)), .long x2]) (rest := []) C E (c_X6_floorOf e2) (va_cwS 2 hts gX6_ceilOf_X6_floorOf rfl rfl rfl hd_X6_floorOf ⟨Nat.le_of_ble_eq_true rfl, Nat.le_of_ble_eq_true rfl⟩) rfl hl.1 rfl (Nat.le_of_ble_eq_true rfl) dX6_ceilOf_6 ⟨Nat.le_of_ble_eq_true rfl, Nat.le_of_ble_eq_true rfl⟩) (fun H locs E => ?_)
  obtain rfl := Option.some.inj hf
  exact g_lret C E dX6_ceilOf_9
abbrev rm_X6_greatestDivisor : Room := { frames := 1, cells := 0, slots := 0, locals := 23 }
theorem hd_X6_greatestDivisor : yX6_greatestDivisor.cls ≠ "java/lang/invoke/MethodHandle" ∧ yX6_greatestDivisor.cls ≠ "java/lang/invoke/VarHandle" ∧ (parseMethodDescriptor yX6_greatestDivisor.desc).map (fun d => d.parameters.length) = some 2 := by decide +kernel
def f_X6_greatestDivisor_L9  : Nat → Int64 → Int64 → Int32 → Option (Int64)
  | 0, _, _, _ => none
  | n + 1, x4, x6, x8 =>
  if (200 : Int32) ≤ x8 then
    if 0 ≤ (lg_cmp x4 (1 : Int64)) then
      some (x4)
    else
      some ((1 : Int64))
  else
    if (lg_cmp x6 (0 : Int64)) ≤ 0 then
      if 0 ≤ (lg_cmp x4 (1 : Int64)) then
        some (x4)
      else
        some ((1 : Int64))
    else
      (f_X6_floorOf x4 x6).bind fun o5 =>
      f_X6_greatestDivisor_L9  n x6 (x4 - (o5 * x6)) (x8 + 1)
set_option maxHeartbeats 4000000 in
set_option maxRecDepth 100000 in
theorem w_X6_greatestDivisor_L9 {p : Program} {l : Launch} {e : Env} {s : State} {m : MethodId} {args : Array Value} {below : List Frame} {meth : Method} {c : Code} {A : Nat → Prop} {D : va_G} {tys : List (ClassId × FieldType)} {w : va_W} (C : gC p s m args meth c cX6_greatestDivisor 11 (some .long) wsX6_greatestDivisor RX6 A) {o : Int64} :
    ∀ (n : Nat) (x4 : Int64) (x6 : Int64) (x8 : Int32) (H : Heap) (locs : List Loc) (ls : Array Slot), vE s A D tys w H locs → lv_has ls 11 [(4, .long x4), (6, .long x6), (8, .int x8)] → f_X6_greatestDivisor_L9  n x4 x6 x8 = some o → W p l e rm_X6_greatestDivisor s m args below meth c H locs 0 0 (MQ below (gQl D tys A w o) args s 0 0 A) (F0 m 9 ls []) := by
  obtain ⟨hx, hb, hr, hml, hown, hts, hlocks, hN, hA⟩ := id C
  intro n
  induction n with
  | zero =>
    intro x4 x6 x8 H locs ls E hl hf
    rw [f_X6_greatestDivisor_L9] at hf
    cases hf
  | succ n ih =>
    intro x4 x6 x8 H locs ls E hl hf
    rw [f_X6_greatestDivisor_L9] at hf
    refine lv_iload hx hb dX6_greatestDivisor_9 (lv_at hl 2 rfl) ?_
    refine lv_sipush (v := 200) hx hb dX6_greatestDivisor_11 (by decide) ?_
    refine lv_icmp_ge (tgt := 53) hx hb dX6_greatestDivisor_14 (by decide) (fun c1 => ?_) (fun c1 => ?_)
    · rw [if_pos c1] at hf
      refine lv_lload hx hb dX6_greatestDivisor_53 (lv_at hl 0 rfl) ?_
      refine lv_lconst (v := 1) hx hb dX6_greatestDivisor_55 (by decide) ?_
      refine W.lcmp hx hb dX6_greatestDivisor_56 ?_
      refine lv_if_ge (tgt := 64) hx hb dX6_greatestDivisor_57 (by decide) (fun c2 => ?_) (fun c2 => ?_)
      · rw [if_pos c2] at hf
        refine lv_lload hx hb dX6_greatestDivisor_64 (lv_at hl 0 rfl) ?_
        obtain rfl := Option.some.inj hf
        exact g_lret C E dX6_greatestDivisor_66
      · rw [if_neg c2] at hf
        refine lv_lconst (v := 1) hx hb dX6_greatestDivisor_60 (by decide) ?_
        refine lv_goto (tgt := 66) hx hb dX6_greatestDivisor_61 (by decide) ?_
        obtain rfl := Option.some.inj hf
        exact g_lret C E dX6_greatestDivisor_66
    · rw [if_neg c1] at hf
      refine lv_lload hx hb dX6_greatestDivisor_17 (lv_at hl 1 rfl) ?_
      refine lv_lconst (v := 0) hx hb dX6_greatestDivisor_19 (by decide) ?_
      refine W.lcmp hx hb dX6_greatestDivisor_20 ?_
      refine lv_if_le (tgt := 53) hx hb dX6_greatestDivisor_21 (by decide) (fun c3 => ?_) (fun c3 => ?_)
      · rw [if_pos c3] at hf
        refine lv_lload hx hb dX6_greatestDivisor_53 (lv_at hl 0 rfl) ?_
        refine lv_lconst (v := 1) hx hb dX6_greatestDivisor_55 (by decide) ?_
        refine W.lcmp hx hb dX6_greatestDivisor_56 ?_
        refine lv_if_ge (tgt := 64) hx hb dX6_greatestDivisor_57 (by decide) (fun c4 => ?_) (fun c4 => ?_)
        · rw [if_pos c4] at hf
          refine lv_lload hx hb dX6_greatestDivisor_64 (lv_at hl 0 rfl) ?_
          obtain rfl := Option.some.inj hf
          exact g_lret C E dX6_greatestDivisor_66
        · rw [if_neg c4] at hf
          refine lv_lconst (v := 1) hx hb dX6_greatestDivisor_60 (by decide) ?_
          refine lv_goto (tgt := 66) hx hb dX6_greatestDivisor_61 (by decide) ?_
          obtain rfl := Option.some.inj hf
          exact g_lret C E dX6_greatestDivisor_66
      · rw [if_neg c3] at hf
        refine lv_lload hx hb dX6_greatestDivisor_24 (lv_at hl 0 rfl) ?_
        refine lv_lload hx hb dX6_greatestDivisor_26 (lv_at hl 0 rfl) ?_
        refine lv_lload hx hb dX6_greatestDivisor_28 (lv_at hl 1 rfl) ?_
        obtain ⟨o5, e6, hf⟩ := bd_some hf
        refine g_calll (w' := w) C E (g_runS (As := [.long x4, .long x6]) (rest := [.long x4]) C E (c_X6_floorOf e6) (va_cwS 2 hts gX6_greatestDivisor_X6_floorOf rfl rfl rfl hd_X6_floorOf ⟨Nat.le_of_ble_eq_true rfl, Nat.le_of_ble_eq_true rfl⟩) rfl hl.1 rfl (Nat.le_of_ble_eq_true rfl) dX6_greatestDivisor_30 ⟨Nat.le_of_ble_eq_true rfl, Nat.le_of_ble_eq_true rfl⟩) (fun H locs E => ?_)
        refine lv_lload hx hb dX6_greatestDivisor_33 (lv_at hl 1 rfl) ?_
        refine lv_lmul hx hb dX6_greatestDivisor_35 ?_
        refine lv_lsub hx hb dX6_greatestDivisor_36 ?_
        refine lv_lstore (lv' := [(9, .long (x4 - (o5 * x6))), (4, .long x4), (6, .long x6), (8, .int x8)]) hx hb dX6_greatestDivisor_37 hl (by decide) rfl (fun ls hl => ?_)
        refine lv_lload hx hb dX6_greatestDivisor_39 (lv_at hl 2 rfl) ?_
        refine lv_lstore (lv' := [(4, .long x6), (9, .long (x4 - (o5 * x6))), (6, .long x6), (8, .int x8)]) hx hb dX6_greatestDivisor_41 hl (by decide) rfl (fun ls hl => ?_)
        refine lv_lload hx hb dX6_greatestDivisor_43 (lv_at hl 1 rfl) ?_
        refine lv_lstore (lv' := [(6, .long (x4 - (o5 * x6))), (4, .long x6), (9, .long (x4 - (o5 * x6))), (8, .int x8)]) hx hb dX6_greatestDivisor_45 hl (by decide) rfl (fun ls hl => ?_)
        refine lv_iinc (v := (x8 + 1)) (lv' := [(8, .int (x8 + 1)), (6, .long (x4 - (o5 * x6))), (4, .long x6), (9, .long (x4 - (o5 * x6)))]) hx hb dX6_greatestDivisor_47 hl (k := 3) rfl rfl (by decide) rfl (fun ls hl => ?_)
        refine lv_goto (tgt := 9) hx hb dX6_greatestDivisor_50 (by decide) ?_
        exact ih x6 (x4 - (o5 * x6)) (x8 + 1) _ _ _ E (lv_sub hl [2, 1, 0] rfl) hf
def f_X6_greatestDivisor  (x0 : Int64) (x2 : Int64) : Option (Int64) :=
  f_X6_greatestDivisor_L9  FU x0 x2 (0 : Int32)
set_option maxHeartbeats 4000000 in
set_option maxRecDepth 100000 in
theorem c_X6_greatestDivisor {l : Launch} {D : va_G} {tys : List (ClassId × FieldType)} {w : va_W} {sz : Nat} {x0 : Int64} {x2 : Int64} {o : Int64} (hf : f_X6_greatestDivisor x0 x2 = some o) : gMl l yX6_greatestDivisor wsX6_greatestDivisor rm_X6_greatestDivisor D tys w w sz [.long x0, .long x2] o := by
  refine g_of (cc := cX6_greatestDivisor) (maxL := 11) (ret := (some .long)) (by decide) rfl (Nat.le_of_ble_eq_true rfl) ?_
  intro p e s m below meth c A ls hAe C hl E
  rw [← hAe]
  obtain ⟨hx, hb, hr, hml, hown, hts, hlocks, hN, hA⟩ := id C
  have hl : lv_has ls 11 [(0, .long x0), (2, .long x2)] := hl
  have E : vE s A D tys w s.heap [] := E
  rw [f_X6_greatestDivisor] at hf
  refine lv_lload_n hx hb dX6_greatestDivisor_0 rfl (lv_at hl 0 rfl) ?_
  refine lv_lstore (lv' := [(4, .long x0), (0, .long x0), (2, .long x2)]) hx hb dX6_greatestDivisor_1 hl (by decide) rfl (fun ls hl => ?_)
  refine lv_lload_n hx hb dX6_greatestDivisor_3 rfl (lv_at hl 2 rfl) ?_
  refine lv_lstore (lv' := [(6, .long x2), (4, .long x0), (0, .long x0), (2, .long x2)]) hx hb dX6_greatestDivisor_4 hl (by decide) rfl (fun ls hl => ?_)
  refine lv_iconst (v := 0) hx hb dX6_greatestDivisor_6 (by decide) ?_
  refine lv_istore (lv' := [(8, .int (0 : Int32)), (6, .long x2), (4, .long x0), (0, .long x0), (2, .long x2)]) hx hb dX6_greatestDivisor_7 hl (by decide) rfl (fun ls hl => ?_)
  exact w_X6_greatestDivisor_L9 C  FU x0 x2 (0 : Int32) _ _ _ E (lv_sub hl [2, 1, 0] rfl) hf
abbrev rm_X3_place : Room := { frames := 0, cells := 0, slots := 0, locals := 0 }
theorem hd_X3_place : yX3_place.cls ≠ "java/lang/invoke/MethodHandle" ∧ yX3_place.cls ≠ "java/lang/invoke/VarHandle" ∧ (parseMethodDescriptor yX3_place.desc).map (fun d => d.parameters.length) = some 2 := by decide +kernel
def f_X3_place  (x0 : Int32) (x1 : Int32) : Option (Int32) :=
  some (((x0 * (4 : Int32)) + x1))
set_option maxHeartbeats 4000000 in
set_option maxRecDepth 100000 in
theorem c_X3_place {l : Launch} {D : va_G} {tys : List (ClassId × FieldType)} {w : va_W} {sz : Nat} {x0 : Int32} {x1 : Int32} {o : Int32} (hf : f_X3_place x0 x1 = some o) : gMi l yX3_place wsX3_place rm_X3_place D tys w w sz [.int x0, .int x1] o := by
  refine g_of (cc := cX3_place) (maxL := 2) (ret := (some .int)) (by decide) rfl (Nat.le_of_ble_eq_true rfl) ?_
  intro p e s m below meth c A ls hAe C hl E
  rw [← hAe]
  obtain ⟨hx, hb, hr, hml, hown, hts, hlocks, hN, hA⟩ := id C
  have hl : lv_has ls 2 [(0, .int x0), (1, .int x1)] := hl
  have E : vE s A D tys w s.heap [] := E
  rw [f_X3_place] at hf
  refine lv_iload_n hx hb dX3_place_0 rfl (lv_at hl 0 rfl) ?_
  refine lv_iconst (v := 4) hx hb dX3_place_1 (by decide) ?_
  refine lv_imul hx hb dX3_place_2 ?_
  refine lv_iload_n hx hb dX3_place_3 rfl (lv_at hl 1 rfl) ?_
  refine lv_iadd hx hb dX3_place_4 ?_
  obtain rfl := Option.some.inj hf
  exact g_iret C E dX3_place_5
