def mW (b : Nat → Nat) (cI cJ cZ : ClassId) (mth : Int32) (mlo : Int32) (mre : Int32) (mpr : Int32) (mto : Int32) (mim : Int64) (mdi : Int64) (mow : Int64) (mit : Int64) (mvl : Nat → Int32) (mhs : Nat → Int32) (mns : Nat → Int32) (mby : Nat → Int32) (mng : Nat → Int32) (mnu : Nat → Int32) (mnd : Nat → Int32) (mbg : Nat → Int32) (mbu : Nat → Int32) (mbd : Nat → Int32) (mlg : Nat → Int32) (mly : Nat → Int32) (mll : Nat → Int64) (mld : Nat → Int64) (mpg : Nat → Int32) (mpu : Nat → Int32) (mpl : Nat → Int64) (mtd : Int64) (mti : Int64) (mwt : Nat → Int64) (mch : Nat → Int64) : va_W := [(b 0, .inr (7, [.int mth, .int mlo, .int mre, .int mpr, .int mto, .long mim, .long mdi, .long mow, .long mit, .ref (b 1), .ref (b 2), .ref (b 3), .ref (b 4), .ref (b 5), .ref (b 6), .ref (b 7), .ref (b 8), .ref (b 9), .ref (b 10), .ref (b 11), .ref (b 12), .ref (b 13), .ref (b 14), .ref (b 15), .ref (b 16), .ref (b 17), .long mtd, .long mti, .ref (b 18), .ref (b 19)])),
  (b 1, .inl (cI, 12, .inl mvl)),
  (b 2, .inl (cZ, 12, .inl mhs)),
  (b 3, .inl (cI, 12, .inl mns)),
  (b 4, .inl (cI, 12, .inl mby)),
  (b 5, .inl (cI, 48, .inl mng)),
  (b 6, .inl (cI, 48, .inl mnu)),
  (b 7, .inl (cI, 48, .inl mnd)),
  (b 8, .inl (cI, 24, .inl mbg)),
  (b 9, .inl (cI, 24, .inl mbu)),
  (b 10, .inl (cI, 24, .inl mbd)),
  (b 11, .inl (cI, 200, .inl mlg)),
  (b 12, .inl (cI, 200, .inl mly)),
  (b 13, .inl (cJ, 200, .inr (.inl mll))),
  (b 14, .inl (cJ, 200, .inr (.inl mld))),
  (b 15, .inl (cI, 40, .inl mpg)),
  (b 16, .inl (cI, 40, .inl mpu)),
  (b 17, .inl (cJ, 40, .inr (.inl mpl))),
  (b 18, .inl (cJ, 3, .inr (.inl mwt))),
  (b 19, .inl (cJ, 12, .inr (.inl mch)))]
abbrev rm_X7_within : Room := { frames := 0, cells := 0, slots := 0, locals := 0 }
theorem hd_X7_within : yX7_within.cls ≠ "java/lang/invoke/MethodHandle" ∧ yX7_within.cls ≠ "java/lang/invoke/VarHandle" ∧ (parseMethodDescriptor yX7_within.desc).map (fun d => d.parameters.length) = some 3 := by decide +kernel
def f_X7_within  (x0 : Int64) (x2 : Int64) (x4 : Int64) : Option (Int32) :=
  if (lg_cmp x0 x2) < 0 then
    some ((0 : Int32))
  else
    if 0 < (lg_cmp x0 x4) then
      some ((0 : Int32))
    else
      some ((1 : Int32))
set_option maxHeartbeats 4000000 in
set_option maxRecDepth 100000 in
theorem c_X7_within {l : Launch} {D : va_G} {tys : List (ClassId × FieldType)} {w : va_W} {sz : Nat} {x0 : Int64} {x2 : Int64} {x4 : Int64} {o : Int32} (hf : f_X7_within x0 x2 x4 = some o) : gMi l yX7_within wsX7_within rm_X7_within D tys w w sz [.long x0, .long x2, .long x4] o := by
  refine g_of (cc := cX7_within) (maxL := 6) (ret := (some .boolean)) (by decide) rfl (Nat.le_of_ble_eq_true rfl) ?_
  intro p e s m below meth c A ls hAe C hl E
  rw [← hAe]
  obtain ⟨hx, hb, hr, hml, hown, hts, hlocks, hN, hA⟩ := id C
  have hl : lv_has ls 6 [(0, .long x0), (2, .long x2), (4, .long x4)] := hl
  have E : vE s A D tys w s.heap [] := E
  rw [f_X7_within] at hf
  refine lv_lload_n hx hb dX7_within_0 rfl (lv_at hl 0 rfl) ?_
  refine lv_lload_n hx hb dX7_within_1 rfl (lv_at hl 1 rfl) ?_
  refine W.lcmp hx hb dX7_within_2 ?_
  refine lv_if_lt (tgt := 17) hx hb dX7_within_3 (by decide) (fun c1 => ?_) (fun c1 => ?_)
  · rw [if_pos c1] at hf
    refine lv_iconst (v := 0) hx hb dX7_within_17 (by decide) ?_
    obtain rfl := Option.some.inj hf
    exact g_zret (r := 0) C E rfl dX7_within_18
  · rw [if_neg c1] at hf
    refine lv_lload_n hx hb dX7_within_6 rfl (lv_at hl 0 rfl) ?_
    refine lv_lload hx hb dX7_within_7 (lv_at hl 2 rfl) ?_
    refine W.lcmp hx hb dX7_within_9 ?_
    refine lv_if_gt (tgt := 17) hx hb dX7_within_10 (by decide) (fun c2 => ?_) (fun c2 => ?_)
    · rw [if_pos c2] at hf
      refine lv_iconst (v := 0) hx hb dX7_within_17 (by decide) ?_
      obtain rfl := Option.some.inj hf
      exact g_zret (r := 0) C E rfl dX7_within_18
    · rw [if_neg c2] at hf
      refine lv_iconst (v := 1) hx hb dX7_within_13 (by decide) ?_
      refine lv_goto (tgt := 18) hx hb dX7_within_14 (by decide) ?_
      obtain rfl := Option.some.inj hf
      exact g_zret (r := 1) C E rfl dX7_within_18
abbrev rm_X7_isGood : Room := { frames := 1, cells := 0, slots := 0, locals := 25 }
theorem hd_X7_isGood : yX7_isGood.cls ≠ "java/lang/invoke/MethodHandle" ∧ yX7_isGood.cls ≠ "java/lang/invoke/VarHandle" ∧ (parseMethodDescriptor yX7_isGood.desc).map (fun d => d.parameters.length) = some 1 := by decide +kernel
def f_X7_isGood  (x0 : Int32) : Option (Int32) :=
  (f_X7_within x0.toInt64 (0 : Int64) (11 : Int64)).bind fun o1 =>
  okZ o1 <|
  some (o1)
set_option maxHeartbeats 4000000 in
set_option maxRecDepth 100000 in
theorem c_X7_isGood {l : Launch} {D : va_G} {tys : List (ClassId × FieldType)} {w : va_W} {sz : Nat} {x0 : Int32} {o : Int32} (hf : f_X7_isGood x0 = some o) : gMi l yX7_isGood wsX7_isGood rm_X7_isGood D tys w w sz [.int x0] o := by
  refine g_of (cc := cX7_isGood) (maxL := 1) (ret := (some .boolean)) (by decide) rfl (Nat.le_of_ble_eq_true rfl) ?_
  intro p e s m below meth c A ls hAe C hl E
  rw [← hAe]
  obtain ⟨hx, hb, hr, hml, hown, hts, hlocks, hN, hA⟩ := id C
  have hl : lv_has ls 1 [(0, .int x0)] := hl
  have E : vE s A D tys w s.heap [] := E
  rw [f_X7_isGood] at hf
  refine lv_iload_n hx hb dX7_isGood_0 rfl (lv_at hl 0 rfl) ?_
  refine lv_i2l hx hb dX7_isGood_1 rfl ?_
  refine lv_lconst (v := 0) hx hb dX7_isGood_2 (by decide) ?_
  refine lv_ldc2 (v := 11) hx hb hown (hts (.constantLong RX7 73 (11)) (List.mem_of_getElem? (i := 1) rfl)) dX7_isGood_3 ?_
  obtain ⟨o1, e2, hf⟩ := bd_some hf
  refine g_calli (w' := w) C E (g_runS (As := [.long x0.toInt64, .long (0 : Int64), .long (11 : Int64)]) (rest := []) C E (c_X7_within e2) (va_cwS 3 hts gX7_isGood_X7_within rfl rfl rfl hd_X7_within ⟨Nat.le_of_ble_eq_true rfl, Nat.le_of_ble_eq_true rfl⟩) rfl hl.1 rfl (Nat.le_of_ble_eq_true rfl) dX7_isGood_6 ⟨Nat.le_of_ble_eq_true rfl, Nat.le_of_ble_eq_true rfl⟩) (fun H locs E => ?_)
  obtain ⟨h3, hf⟩ := okZ_some hf
  obtain rfl := Option.some.inj hf
  exact g_zret (r := o1) C E h3 dX7_isGood_9
abbrev rm_X7_up : Room := { frames := 0, cells := 0, slots := 0, locals := 0 }
theorem hd_X7_up : yX7_up.cls ≠ "java/lang/invoke/MethodHandle" ∧ yX7_up.cls ≠ "java/lang/invoke/VarHandle" ∧ (parseMethodDescriptor yX7_up.desc).map (fun d => d.parameters.length) = some 2 := by decide +kernel
def f_X7_up  (x0 : Int64) (x2 : Int64) : Option (Int64) :=
  nzL x2 <|
  nzL x2 <|
  if (lg_cmp (x0 - x0 / x2 * x2) (0 : Int64)) ≤ 0 then
    some (((x0 / x2) + (0 : Int64)))
  else
    some (((x0 / x2) + (1 : Int64)))
set_option maxHeartbeats 4000000 in
set_option maxRecDepth 100000 in
theorem c_X7_up {l : Launch} {D : va_G} {tys : List (ClassId × FieldType)} {w : va_W} {sz : Nat} {x0 : Int64} {x2 : Int64} {o : Int64} (hf : f_X7_up x0 x2 = some o) : gMl l yX7_up wsX7_up rm_X7_up D tys w w sz [.long x0, .long x2] o := by
  refine g_of (cc := cX7_up) (maxL := 4) (ret := (some .long)) (by decide) rfl (Nat.le_of_ble_eq_true rfl) ?_
  intro p e s m below meth c A ls hAe C hl E
  rw [← hAe]
  obtain ⟨hx, hb, hr, hml, hown, hts, hlocks, hN, hA⟩ := id C
  have hl : lv_has ls 4 [(0, .long x0), (2, .long x2)] := hl
  have E : vE s A D tys w s.heap [] := E
  rw [f_X7_up] at hf
  refine lv_lload_n hx hb dX7_up_0 rfl (lv_at hl 0 rfl) ?_
  refine lv_lload_n hx hb dX7_up_1 rfl (lv_at hl 1 rfl) ?_
  obtain ⟨h1, hf⟩ := nzL_some hf
  refine lv_ldiv hx hb dX7_up_2 h1 ?_
  refine lv_lload_n hx hb dX7_up_3 rfl (lv_at hl 0 rfl) ?_
  refine lv_lload_n hx hb dX7_up_4 rfl (lv_at hl 1 rfl) ?_
  obtain ⟨h2, hf⟩ := nzL_some hf
  refine lv_lrem hx hb dX7_up_5 h2 ?_
  refine lv_lconst (v := 0) hx hb dX7_up_6 (by decide) ?_
  refine W.lcmp hx hb dX7_up_7 ?_
  refine lv_if_le (tgt := 15) hx hb dX7_up_8 (by decide) (fun c3 => ?_) (fun c3 => ?_)
  · rw [if_pos c3] at hf
    refine lv_lconst (v := 0) hx hb dX7_up_15 (by decide) ?_
    refine lv_ladd hx hb dX7_up_16 ?_
    obtain rfl := Option.some.inj hf
    exact g_lret C E dX7_up_17
  · rw [if_neg c3] at hf
    refine lv_lconst (v := 1) hx hb dX7_up_11 (by decide) ?_
    refine lv_goto (tgt := 16) hx hb dX7_up_12 (by decide) ?_
    refine lv_ladd hx hb dX7_up_16 ?_
    obtain rfl := Option.some.inj hf
    exact g_lret C E dX7_up_17
abbrev rm_X7_isPart : Room := { frames := 1, cells := 0, slots := 0, locals := 25 }
theorem hd_X7_isPart : yX7_isPart.cls ≠ "java/lang/invoke/MethodHandle" ∧ yX7_isPart.cls ≠ "java/lang/invoke/VarHandle" ∧ (parseMethodDescriptor yX7_isPart.desc).map (fun d => d.parameters.length) = some 2 := by decide +kernel
def f_X7_isPart  (x0 : Int32) (x1 : Int32) : Option (Int32) :=
  (f_X7_within x0.toInt64 (1 : Int64) (12 : Int64)).bind fun o1 =>
  if o1 = 0 then
    some ((0 : Int32))
  else
    (f_X7_within x1.toInt64 (1 : Int64) (12 : Int64)).bind fun o4 =>
    if o4 = 0 then
      some ((0 : Int32))
    else
      some ((1 : Int32))
set_option maxHeartbeats 4000000 in
set_option maxRecDepth 100000 in
theorem c_X7_isPart {l : Launch} {D : va_G} {tys : List (ClassId × FieldType)} {w : va_W} {sz : Nat} {x0 : Int32} {x1 : Int32} {o : Int32} (hf : f_X7_isPart x0 x1 = some o) : gMi l yX7_isPart wsX7_isPart rm_X7_isPart D tys w w sz [.int x0, .int x1] o := by
  refine g_of (cc := cX7_isPart) (maxL := 2) (ret := (some .boolean)) (by decide) rfl (Nat.le_of_ble_eq_true rfl) ?_
  intro p e s m below meth c A ls hAe C hl E
  rw [← hAe]
  obtain ⟨hx, hb, hr, hml, hown, hts, hlocks, hN, hA⟩ := id C
  have hl : lv_has ls 2 [(0, .int x0), (1, .int x1)] := hl
  have E : vE s A D tys w s.heap [] := E
  rw [f_X7_isPart] at hf
  refine lv_iload_n hx hb dX7_isPart_0 rfl (lv_at hl 0 rfl) ?_
  refine lv_i2l hx hb dX7_isPart_1 rfl ?_
  refine lv_lconst (v := 1) hx hb dX7_isPart_2 (by decide) ?_
  refine lv_ldc2 (v := 12) hx hb hown (hts (.constantLong RX7 88 (12)) (List.mem_of_getElem? (i := 1) rfl)) dX7_isPart_3 ?_
  obtain ⟨o1, e2, hf⟩ := bd_some hf
  refine g_calli (w' := w) C E (g_runS (As := [.long x0.toInt64, .long (1 : Int64), .long (12 : Int64)]) (rest := []) C E (c_X7_within e2) (va_cwS 3 hts gX7_isPart_X7_within rfl rfl rfl hd_X7_within ⟨Nat.le_of_ble_eq_true rfl, Nat.le_of_ble_eq_true rfl⟩) rfl hl.1 rfl (Nat.le_of_ble_eq_true rfl) dX7_isPart_6 ⟨Nat.le_of_ble_eq_true rfl, Nat.le_of_ble_eq_true rfl⟩) (fun H locs E => ?_)
  refine lv_if_eq (tgt := 28) hx hb dX7_isPart_9 (by decide) (fun c3 => ?_) (fun c3 => ?_)
  · rw [if_pos c3] at hf
    refine lv_iconst (v := 0) hx hb dX7_isPart_28 (by decide) ?_
    obtain rfl := Option.some.inj hf
    exact g_zret (r := 0) C E rfl dX7_isPart_29
  · rw [if_neg c3] at hf
    refine lv_iload_n hx hb dX7_isPart_12 rfl (lv_at hl 1 rfl) ?_
    refine lv_i2l hx hb dX7_isPart_13 rfl ?_
    refine lv_lconst (v := 1) hx hb dX7_isPart_14 (by decide) ?_
    refine lv_ldc2 (v := 12) hx hb hown (hts (.constantLong RX7 88 (12)) (List.mem_of_getElem? (i := 1) rfl)) dX7_isPart_15 ?_
    obtain ⟨o4, e5, hf⟩ := bd_some hf
    refine g_calli (w' := w) C E (g_runS (As := [.long x1.toInt64, .long (1 : Int64), .long (12 : Int64)]) (rest := []) C E (c_X7_within e5) (va_cwS 3 hts gX7_isPart_X7_within rfl rfl rfl hd_X7_within ⟨Nat.le_of_ble_eq_true rfl, Nat.le_of_ble_eq_true rfl⟩) rfl hl.1 rfl (Nat.le_of_ble_eq_true rfl) dX7_isPart_18 ⟨Nat.le_of_ble_eq_true rfl, Nat.le_of_ble_eq_true rfl⟩) (fun H locs E => ?_)
    refine lv_if_eq (tgt := 28) hx hb dX7_isPart_21 (by decide) (fun c6 => ?_) (fun c6 => ?_)
    · rw [if_pos c6] at hf
      refine lv_iconst (v := 0) hx hb dX7_isPart_28 (by decide) ?_
      obtain rfl := Option.some.inj hf
      exact g_zret (r := 0) C E rfl dX7_isPart_29
    · rw [if_neg c6] at hf
      refine lv_iconst (v := 1) hx hb dX7_isPart_24 (by decide) ?_
      refine lv_goto (tgt := 29) hx hb dX7_isPart_25 (by decide) ?_
      obtain rfl := Option.some.inj hf
      exact g_zret (r := 1) C E rfl dX7_isPart_29
abbrev rm_X7_common : Room := { frames := 0, cells := 0, slots := 0, locals := 0 }
theorem hd_X7_common : yX7_common.cls ≠ "java/lang/invoke/MethodHandle" ∧ yX7_common.cls ≠ "java/lang/invoke/VarHandle" ∧ (parseMethodDescriptor yX7_common.desc).map (fun d => d.parameters.length) = some 2 := by decide +kernel
def f_X7_common_L6  : Nat → Int64 → Int64 → Option (Int64)
  | 0, _, _ => none
  | n + 1, x4, x6 =>
  if (lg_cmp x6 (0 : Int64)) ≤ 0 then
    some (x4)
  else
    nzL x6 <|
    f_X7_common_L6  n x6 (x4 - x4 / x6 * x6)
set_option maxHeartbeats 4000000 in
set_option maxRecDepth 100000 in
theorem w_X7_common_L6 {p : Program} {l : Launch} {e : Env} {s : State} {m : MethodId} {args : Array Value} {below : List Frame} {meth : Method} {c : Code} {A : Nat → Prop} {D : va_G} {tys : List (ClassId × FieldType)} {w : va_W} (C : gC p s m args meth c cX7_common 10 (some .long) wsX7_common RX7 A) {o : Int64} :
    ∀ (n : Nat) (x4 : Int64) (x6 : Int64) (H : Heap) (locs : List Loc) (ls : Array Slot), vE s A D tys w H locs → lv_has ls 10 [(4, .long x4), (6, .long x6)] → f_X7_common_L6  n x4 x6 = some o → W p l e rm_X7_common s m args below meth c H locs 0 0 (MQ below (gQl D tys A w o) args s 0 0 A) (F0 m 6 ls []) := by
  obtain ⟨hx, hb, hr, hml, hown, hts, hlocks, hN, hA⟩ := id C
  intro n
  induction n with
  | zero =>
    intro x4 x6 H locs ls E hl hf
    rw [f_X7_common_L6] at hf
    cases hf
  | succ n ih =>
    intro x4 x6 H locs ls E hl hf
    rw [f_X7_common_L6] at hf
    refine lv_lload hx hb dX7_common_6 (lv_at hl 1 rfl) ?_
    refine lv_lconst (v := 0) hx hb dX7_common_8 (by decide) ?_
    refine W.lcmp hx hb dX7_common_9 ?_
    refine lv_if_le (tgt := 31) hx hb dX7_common_10 (by decide) (fun c1 => ?_) (fun c1 => ?_)
    · rw [if_pos c1] at hf
      refine lv_lload hx hb dX7_common_31 (lv_at hl 0 rfl) ?_
      obtain rfl := Option.some.inj hf
      exact g_lret C E dX7_common_33
    · rw [if_neg c1] at hf
      refine lv_lload hx hb dX7_common_13 (lv_at hl 0 rfl) ?_
      refine lv_lload hx hb dX7_common_15 (lv_at hl 1 rfl) ?_
      obtain ⟨h2, hf⟩ := nzL_some hf
      refine lv_lrem hx hb dX7_common_17 h2 ?_
      refine lv_lstore (lv' := [(8, .long (x4 - x4 / x6 * x6)), (4, .long x4), (6, .long x6)]) hx hb dX7_common_18 hl (by decide) rfl (fun ls hl => ?_)
      refine lv_lload hx hb dX7_common_20 (lv_at hl 2 rfl) ?_
      refine lv_lstore (lv' := [(4, .long x6), (8, .long (x4 - x4 / x6 * x6)), (6, .long x6)]) hx hb dX7_common_22 hl (by decide) rfl (fun ls hl => ?_)
      refine lv_lload hx hb dX7_common_24 (lv_at hl 1 rfl) ?_
      refine lv_lstore (lv' := [(6, .long (x4 - x4 / x6 * x6)), (4, .long x6), (8, .long (x4 - x4 / x6 * x6))]) hx hb dX7_common_26 hl (by decide) rfl (fun ls hl => ?_)
      refine lv_goto (tgt := 6) hx hb dX7_common_28 (by decide) ?_
      exact ih x6 (x4 - x4 / x6 * x6) _ _ _ E (lv_sub hl [1, 0] rfl) hf
def f_X7_common  (x0 : Int64) (x2 : Int64) : Option (Int64) :=
  f_X7_common_L6  FU x0 x2
set_option maxHeartbeats 4000000 in
set_option maxRecDepth 100000 in
theorem c_X7_common {l : Launch} {D : va_G} {tys : List (ClassId × FieldType)} {w : va_W} {sz : Nat} {x0 : Int64} {x2 : Int64} {o : Int64} (hf : f_X7_common x0 x2 = some o) : gMl l yX7_common wsX7_common rm_X7_common D tys w w sz [.long x0, .long x2] o := by
  refine g_of (cc := cX7_common) (maxL := 10) (ret := (some .long)) (by decide) rfl (Nat.le_of_ble_eq_true rfl) ?_
  intro p e s m below meth c A ls hAe C hl E
  rw [← hAe]
  obtain ⟨hx, hb, hr, hml, hown, hts, hlocks, hN, hA⟩ := id C
  have hl : lv_has ls 10 [(0, .long x0), (2, .long x2)] := hl
  have E : vE s A D tys w s.heap [] := E
  rw [f_X7_common] at hf
  refine lv_lload_n hx hb dX7_common_0 rfl (lv_at hl 0 rfl) ?_
  refine lv_lstore (lv' := [(4, .long x0), (0, .long x0), (2, .long x2)]) hx hb dX7_common_1 hl (by decide) rfl (fun ls hl => ?_)
  refine lv_lload_n hx hb dX7_common_3 rfl (lv_at hl 2 rfl) ?_
  refine lv_lstore (lv' := [(6, .long x2), (4, .long x0), (0, .long x0), (2, .long x2)]) hx hb dX7_common_4 hl (by decide) rfl (fun ls hl => ?_)
  exact w_X7_common_L6 C  FU x0 x2 _ _ _ E (lv_sub hl [1, 0] rfl) hf
abbrev rm_X7_thrown : Room := { frames := 0, cells := 0, slots := 0, locals := 0 }
theorem hd_X7_thrown : yX7_thrown.cls ≠ "java/lang/invoke/MethodHandle" ∧ yX7_thrown.cls ≠ "java/lang/invoke/VarHandle" ∧ (parseMethodDescriptor yX7_thrown.desc).map (fun d => d.parameters.length) = some 0 := by decide +kernel
def f_X7_thrown (mth : Int32)  : Option (Int32) :=
  some (mth)
set_option maxHeartbeats 4000000 in
set_option maxRecDepth 100000 in
theorem c_X7_thrown {l : Launch} {D : va_G} {cI cJ cZ : ClassId} {b : Nat → Nat} {sz : Nat} {mth : Int32} {mlo : Int32} {mre : Int32} {mpr : Int32} {mto : Int32} {mim : Int64} {mdi : Int64} {mow : Int64} {mit : Int64} {mvl : Nat → Int32} {mhs : Nat → Int32} {mns : Nat → Int32} {mby : Nat → Int32} {mng : Nat → Int32} {mnu : Nat → Int32} {mnd : Nat → Int32} {mbg : Nat → Int32} {mbu : Nat → Int32} {mbd : Nat → Int32} {mlg : Nat → Int32} {mly : Nat → Int32} {mll : Nat → Int64} {mld : Nat → Int64} {mpg : Nat → Int32} {mpu : Nat → Int32} {mpl : Nat → Int64} {mtd : Int64} {mti : Int64} {mwt : Nat → Int64} {mch : Nat → Int64} {o : Int32} (hf : f_X7_thrown mth = some o) : gMi l yX7_thrown wsX7_thrown rm_X7_thrown D (gT cI cJ cZ) (mW b cI cJ cZ mth mlo mre mpr mto mim mdi mow mit mvl mhs mns mby mng mnu mnd mbg mbu mbd mlg mly mll mld mpg mpu mpl mtd mti mwt mch) (mW b cI cJ cZ mth mlo mre mpr mto mim mdi mow mit mvl mhs mns mby mng mnu mnd mbg mbu mbd mlg mly mll mld mpg mpu mpl mtd mti mwt mch) sz [.ref (b 0)] o := by
  refine g_of (cc := cX7_thrown) (maxL := 1) (ret := (some .int)) (by decide) rfl (Nat.le_of_ble_eq_true rfl) ?_
  intro p e s m below meth c A ls hAe C hl E
  rw [← hAe]
  obtain ⟨hx, hb, hr, hml, hown, hts, hlocks, hN, hA⟩ := id C
  have hl : lv_has ls 1 [(0, .ref (b 0))] := hl
  have E : vE s A D (gT cI cJ cZ) (mW b cI cJ cZ mth mlo mre mpr mto mim mdi mow mit mvl mhs mns mby mng mnu mnd mbg mbu mbd mlg mly mll mld mpg mpu mpl mtd mti mwt mch) s.heap [] := E
  rw [f_X7_thrown] at hf
  refine lv_aload_n hx hb dX7_thrown_0 rfl (lv_at hl 0 rfl) ?_
  refine g_get C E 0 0 (fun _ h => List.mem_cons_of_mem _ (List.mem_append_right _ h)) rfl rfl (by decide) (List.mem_of_getElem? (i := 1) rfl) rfl rfl dX7_thrown_1 ?_
  obtain rfl := Option.some.inj hf
  exact g_iret C E dX7_thrown_4
abbrev rm_X7_value : Room := { frames := 2, cells := 0, slots := 0, locals := 45 }
theorem hd_X7_value : yX7_value.cls ≠ "java/lang/invoke/MethodHandle" ∧ yX7_value.cls ≠ "java/lang/invoke/VarHandle" ∧ (parseMethodDescriptor yX7_value.desc).map (fun d => d.parameters.length) = some 2 := by decide +kernel
def f_X7_value (mth : Int32) (mvl : Nat → Int32) (x1 : Int32) (x2 : Int32) : Option (Int32 × (Int32) × (Nat → Int32)) :=
  (f_X7_isGood x1).bind fun o1 =>
  if o1 = 0 then
    some ((0 : Int32), (0 : Int32), mvl)
  else
    (f_X7_within x2.toInt64 (0 : Int64) (10000 : Int64)).bind fun o4 =>
    if o4 = 0 then
      some ((0 : Int32), (0 : Int32), mvl)
    else
      ck x1 12 <|
      some ((1 : Int32), (0 : Int32), (upd mvl x1.toNatClampNeg x2))
set_option maxHeartbeats 4000000 in
set_option maxRecDepth 100000 in
theorem c_X7_value {l : Launch} {D : va_G} {cI cJ cZ : ClassId} {b : Nat → Nat} {sz : Nat} {mth : Int32} {mlo : Int32} {mre : Int32} {mpr : Int32} {mto : Int32} {mim : Int64} {mdi : Int64} {mow : Int64} {mit : Int64} {mvl : Nat → Int32} {mhs : Nat → Int32} {mns : Nat → Int32} {mby : Nat → Int32} {mng : Nat → Int32} {mnu : Nat → Int32} {mnd : Nat → Int32} {mbg : Nat → Int32} {mbu : Nat → Int32} {mbd : Nat → Int32} {mlg : Nat → Int32} {mly : Nat → Int32} {mll : Nat → Int64} {mld : Nat → Int64} {mpg : Nat → Int32} {mpu : Nat → Int32} {mpl : Nat → Int64} {mtd : Int64} {mti : Int64} {mwt : Nat → Int64} {mch : Nat → Int64} {x1 : Int32} {x2 : Int32} {o : Int32 × (Int32) × (Nat → Int32)} (hf : f_X7_value mth mvl x1 x2 = some o) : gMi l yX7_value wsX7_value rm_X7_value D (gT cI cJ cZ) (mW b cI cJ cZ mth mlo mre mpr mto mim mdi mow mit mvl mhs mns mby mng mnu mnd mbg mbu mbd mlg mly mll mld mpg mpu mpl mtd mti mwt mch) (mW b cI cJ cZ o.2.1 mlo mre mpr mto mim mdi mow mit o.2.2 mhs mns mby mng mnu mnd mbg mbu mbd mlg mly mll mld mpg mpu mpl mtd mti mwt mch) sz [.ref (b 0), .int x1, .int x2] o.1 := by
  refine g_of (cc := cX7_value) (maxL := 3) (ret := (some .boolean)) (by decide) rfl (Nat.le_of_ble_eq_true rfl) ?_
  intro p e s m below meth c A ls hAe C hl E
  rw [← hAe]
  obtain ⟨hx, hb, hr, hml, hown, hts, hlocks, hN, hA⟩ := id C
  have hl : lv_has ls 3 [(0, .ref (b 0)), (1, .int x1), (2, .int x2)] := hl
  have E : vE s A D (gT cI cJ cZ) (mW b cI cJ cZ mth mlo mre mpr mto mim mdi mow mit mvl mhs mns mby mng mnu mnd mbg mbu mbd mlg mly mll mld mpg mpu mpl mtd mti mwt mch) s.heap [] := E
  rw [f_X7_value] at hf
  refine lv_aload_n hx hb dX7_value_0 rfl (lv_at hl 0 rfl) ?_
  refine lv_iconst (v := 0) hx hb dX7_value_1 (by decide) ?_
  refine g_put (w' := (mW b cI cJ cZ (0 : Int32) mlo mre mpr mto mim mdi mow mit mvl mhs mns mby mng mnu mnd mbg mbu mbd mlg mly mll mld mpg mpu mpl mtd mti mwt mch)) C E 0 0 tyX7 tyX7_ok nmX7 (fun _ h => List.mem_cons_of_mem _ (List.mem_append_right _ h)) rfl rfl (by decide) (List.mem_of_getElem? (i := 1) rfl) rfl rfl rfl rfl rfl (Nat.le_of_ble_eq_true rfl) dX7_value_2 rfl (fun H locs E => ?_)
  refine lv_iload_n hx hb dX7_value_5 rfl (lv_at hl 1 rfl) ?_
  obtain ⟨o1, e2, hf⟩ := bd_some hf
  refine g_calli (w' := (mW b cI cJ cZ (0 : Int32) mlo mre mpr mto mim mdi mow mit mvl mhs mns mby mng mnu mnd mbg mbu mbd mlg mly mll mld mpg mpu mpl mtd mti mwt mch)) C E (g_runS (As := [.int x1]) (rest := []) C E (c_X7_isGood e2) (va_cwS 1 hts gX7_value_X7_isGood rfl rfl rfl hd_X7_isGood ⟨Nat.le_of_ble_eq_true rfl, Nat.le_of_ble_eq_true rfl⟩) rfl hl.1 rfl (Nat.le_of_ble_eq_true rfl) dX7_value_6 ⟨Nat.le_of_ble_eq_true rfl, Nat.le_of_ble_eq_true rfl⟩) (fun H locs E => ?_)
  refine lv_if_eq (tgt := 24) hx hb dX7_value_9 (by decide) (fun c3 => ?_) (fun c3 => ?_)
  · rw [if_pos c3] at hf
    refine lv_iconst (v := 0) hx hb dX7_value_24 (by decide) ?_
    obtain rfl := Option.some.inj hf
    exact g_zret (r := 0) C E rfl dX7_value_25
  · rw [if_neg c3] at hf
    refine lv_iload_n hx hb dX7_value_12 rfl (lv_at hl 2 rfl) ?_
    refine lv_i2l hx hb dX7_value_13 rfl ?_
    refine lv_lconst (v := 0) hx hb dX7_value_14 (by decide) ?_
    refine lv_ldc2 (v := 10000) hx hb hown (hts (.constantLong RX7 83 (10000)) (List.mem_of_getElem? (i := 2) rfl)) dX7_value_15 ?_
    obtain ⟨o4, e5, hf⟩ := bd_some hf
    refine g_calli (w' := (mW b cI cJ cZ (0 : Int32) mlo mre mpr mto mim mdi mow mit mvl mhs mns mby mng mnu mnd mbg mbu mbd mlg mly mll mld mpg mpu mpl mtd mti mwt mch)) C E (g_runS (As := [.long x2.toInt64, .long (0 : Int64), .long (10000 : Int64)]) (rest := []) C E (c_X7_within e5) (va_cwS 3 hts gX7_value_X7_within rfl rfl rfl hd_X7_within ⟨Nat.le_of_ble_eq_true rfl, Nat.le_of_ble_eq_true rfl⟩) rfl hl.1 rfl (Nat.le_of_ble_eq_true rfl) dX7_value_18 ⟨Nat.le_of_ble_eq_true rfl, Nat.le_of_ble_eq_true rfl⟩) (fun H locs E => ?_)
    refine lv_if_ne (tgt := 26) hx hb dX7_value_21 (by decide) (fun c6 => ?_) (fun c6 => ?_)
    · rw [if_neg c6] at hf
      refine lv_aload_n hx hb dX7_value_26 rfl (lv_at hl 0 rfl) ?_
      refine g_get C E 0 9 (fun _ h => List.mem_cons_of_mem _ (List.mem_append_right _ h)) rfl rfl (by decide) (List.mem_of_getElem? (i := 3) rfl) rfl rfl dX7_value_27 ?_
      refine lv_iload_n hx hb dX7_value_30 rfl (lv_at hl 1 rfl) ?_
      refine lv_iload_n hx hb dX7_value_31 rfl (lv_at hl 2 rfl) ?_
      obtain ⟨h7, hf⟩ := ck_some hf
      refine g_iast (w' := (mW b cI cJ cZ (0 : Int32) mlo mre mpr mto mim mdi mow mit (upd mvl x1.toNatClampNeg x2) mhs mns mby mng mnu mnd mbg mbu mbd mlg mly mll mld mpg mpu mpl mtd mti mwt mch)) C E 1 rfl h7 dX7_value_32 rfl (fun H locs E => ?_)
      refine lv_iconst (v := 1) hx hb dX7_value_33 (by decide) ?_
      obtain rfl := Option.some.inj hf
      exact g_zret (r := 1) C E rfl dX7_value_34
    · rw [if_pos c6] at hf
      refine lv_iconst (v := 0) hx hb dX7_value_24 (by decide) ?_
      obtain rfl := Option.some.inj hf
      exact g_zret (r := 0) C E rfl dX7_value_25
abbrev rm_X7_recipe : Room := { frames := 2, cells := 0, slots := 0, locals := 45 }
theorem hd_X7_recipe : yX7_recipe.cls ≠ "java/lang/invoke/MethodHandle" ∧ yX7_recipe.cls ≠ "java/lang/invoke/VarHandle" ∧ (parseMethodDescriptor yX7_recipe.desc).map (fun d => d.parameters.length) = some 1 := by decide +kernel
def f_X7_recipe (mth : Int32) (mre : Int32) (mhs : Nat → Int32) (x1 : Int32) : Option (Int32 × (Int32) × (Int32) × (Nat → Int32)) :=
  (f_X7_isGood x1).bind fun o1 =>
  if o1 = 0 then
    some ((0 : Int32), (0 : Int32), mre, mhs)
  else
    ck x1 12 <|
    if (mhs x1.toNatClampNeg) = 0 then
      ck x1 12 <|
      some ((1 : Int32), (0 : Int32), (mre + (1 : Int32)), (upd mhs x1.toNatClampNeg (vp_nar .boolean (1 : Int32))))
    else
      some ((0 : Int32), (0 : Int32), mre, mhs)
set_option maxHeartbeats 4000000 in
set_option maxRecDepth 100000 in
theorem c_X7_recipe {l : Launch} {D : va_G} {cI cJ cZ : ClassId} {b : Nat → Nat} {sz : Nat} {mth : Int32} {mlo : Int32} {mre : Int32} {mpr : Int32} {mto : Int32} {mim : Int64} {mdi : Int64} {mow : Int64} {mit : Int64} {mvl : Nat → Int32} {mhs : Nat → Int32} {mns : Nat → Int32} {mby : Nat → Int32} {mng : Nat → Int32} {mnu : Nat → Int32} {mnd : Nat → Int32} {mbg : Nat → Int32} {mbu : Nat → Int32} {mbd : Nat → Int32} {mlg : Nat → Int32} {mly : Nat → Int32} {mll : Nat → Int64} {mld : Nat → Int64} {mpg : Nat → Int32} {mpu : Nat → Int32} {mpl : Nat → Int64} {mtd : Int64} {mti : Int64} {mwt : Nat → Int64} {mch : Nat → Int64} {x1 : Int32} {o : Int32 × (Int32) × (Int32) × (Nat → Int32)} (hf : f_X7_recipe mth mre mhs x1 = some o) : gMi l yX7_recipe wsX7_recipe rm_X7_recipe D (gT cI cJ cZ) (mW b cI cJ cZ mth mlo mre mpr mto mim mdi mow mit mvl mhs mns mby mng mnu mnd mbg mbu mbd mlg mly mll mld mpg mpu mpl mtd mti mwt mch) (mW b cI cJ cZ o.2.1 mlo o.2.2.1 mpr mto mim mdi mow mit mvl o.2.2.2 mns mby mng mnu mnd mbg mbu mbd mlg mly mll mld mpg mpu mpl mtd mti mwt mch) sz [.ref (b 0), .int x1] o.1 := by
  refine g_of (cc := cX7_recipe) (maxL := 2) (ret := (some .boolean)) (by decide) rfl (Nat.le_of_ble_eq_true rfl) ?_
  intro p e s m below meth c A ls hAe C hl E
  rw [← hAe]
  obtain ⟨hx, hb, hr, hml, hown, hts, hlocks, hN, hA⟩ := id C
  have hl : lv_has ls 2 [(0, .ref (b 0)), (1, .int x1)] := hl
  have E : vE s A D (gT cI cJ cZ) (mW b cI cJ cZ mth mlo mre mpr mto mim mdi mow mit mvl mhs mns mby mng mnu mnd mbg mbu mbd mlg mly mll mld mpg mpu mpl mtd mti mwt mch) s.heap [] := E
  rw [f_X7_recipe] at hf
  refine lv_aload_n hx hb dX7_recipe_0 rfl (lv_at hl 0 rfl) ?_
  refine lv_iconst (v := 0) hx hb dX7_recipe_1 (by decide) ?_
  refine g_put (w' := (mW b cI cJ cZ (0 : Int32) mlo mre mpr mto mim mdi mow mit mvl mhs mns mby mng mnu mnd mbg mbu mbd mlg mly mll mld mpg mpu mpl mtd mti mwt mch)) C E 0 0 tyX7 tyX7_ok nmX7 (fun _ h => List.mem_cons_of_mem _ (List.mem_append_right _ h)) rfl rfl (by decide) (List.mem_of_getElem? (i := 1) rfl) rfl rfl rfl rfl rfl (Nat.le_of_ble_eq_true rfl) dX7_recipe_2 rfl (fun H locs E => ?_)
  refine lv_iload_n hx hb dX7_recipe_5 rfl (lv_at hl 1 rfl) ?_
  obtain ⟨o1, e2, hf⟩ := bd_some hf
  refine g_calli (w' := (mW b cI cJ cZ (0 : Int32) mlo mre mpr mto mim mdi mow mit mvl mhs mns mby mng mnu mnd mbg mbu mbd mlg mly mll mld mpg mpu mpl mtd mti mwt mch)) C E (g_runS (As := [.int x1]) (rest := []) C E (c_X7_isGood e2) (va_cwS 1 hts gX7_recipe_X7_isGood rfl rfl rfl hd_X7_isGood ⟨Nat.le_of_ble_eq_true rfl, Nat.le_of_ble_eq_true rfl⟩) rfl hl.1 rfl (Nat.le_of_ble_eq_true rfl) dX7_recipe_6 ⟨Nat.le_of_ble_eq_true rfl, Nat.le_of_ble_eq_true rfl⟩) (fun H locs E => ?_)
  refine lv_if_eq (tgt := 21) hx hb dX7_recipe_9 (by decide) (fun c3 => ?_) (fun c3 => ?_)
  · rw [if_pos c3] at hf
    refine lv_iconst (v := 0) hx hb dX7_recipe_21 (by decide) ?_
    obtain rfl := Option.some.inj hf
    exact g_zret (r := 0) C E rfl dX7_recipe_22
  · rw [if_neg c3] at hf
    refine lv_aload_n hx hb dX7_recipe_12 rfl (lv_at hl 0 rfl) ?_
    refine g_get C E 0 10 (fun _ h => List.mem_cons_of_mem _ (List.mem_append_right _ h)) rfl rfl (by decide) (List.mem_of_getElem? (i := 2) rfl) rfl rfl dX7_recipe_13 ?_
    refine lv_iload_n hx hb dX7_recipe_16 rfl (lv_at hl 1 rfl) ?_
    obtain ⟨h4, hf⟩ := ck_some hf
    refine g_zald C E 2 rfl h4 dX7_recipe_17 ?_
    refine lv_if_eq (tgt := 23) hx hb dX7_recipe_18 (by decide) (fun c5 => ?_) (fun c5 => ?_)
    · rw [if_pos c5] at hf
      refine lv_aload_n hx hb dX7_recipe_23 rfl (lv_at hl 0 rfl) ?_
      refine g_get C E 0 10 (fun _ h => List.mem_cons_of_mem _ (List.mem_append_right _ h)) rfl rfl (by decide) (List.mem_of_getElem? (i := 2) rfl) rfl rfl dX7_recipe_24 ?_
      refine lv_iload_n hx hb dX7_recipe_27 rfl (lv_at hl 1 rfl) ?_
      refine lv_iconst (v := 1) hx hb dX7_recipe_28 (by decide) ?_
      obtain ⟨h6, hf⟩ := ck_some hf
      refine g_zast (w' := (mW b cI cJ cZ (0 : Int32) mlo mre mpr mto mim mdi mow mit mvl (upd mhs x1.toNatClampNeg (vp_nar .boolean (1 : Int32))) mns mby mng mnu mnd mbg mbu mbd mlg mly mll mld mpg mpu mpl mtd mti mwt mch)) C E 2 rfl h6 dX7_recipe_29 rfl (fun H locs E => ?_)
      refine lv_aload_n hx hb dX7_recipe_30 rfl (lv_at hl 0 rfl) ?_
      refine lv_dup hx hb dX7_recipe_31 rfl ?_
      refine g_get C E 0 2 (fun _ h => List.mem_cons_of_mem _ (List.mem_append_right _ h)) rfl rfl (by decide) (List.mem_of_getElem? (i := 3) rfl) rfl rfl dX7_recipe_32 ?_
      refine lv_iconst (v := 1) hx hb dX7_recipe_35 (by decide) ?_
      refine lv_iadd hx hb dX7_recipe_36 ?_
      refine g_put (w' := (mW b cI cJ cZ (0 : Int32) mlo (mre + (1 : Int32)) mpr mto mim mdi mow mit mvl (upd mhs x1.toNatClampNeg (vp_nar .boolean (1 : Int32))) mns mby mng mnu mnd mbg mbu mbd mlg mly mll mld mpg mpu mpl mtd mti mwt mch)) C E 0 2 tyX7 tyX7_ok nmX7 (fun _ h => List.mem_cons_of_mem _ (List.mem_append_right _ h)) rfl rfl (by decide) (List.mem_of_getElem? (i := 3) rfl) rfl rfl rfl rfl rfl (Nat.le_of_ble_eq_true rfl) dX7_recipe_37 rfl (fun H locs E => ?_)
      refine lv_iconst (v := 1) hx hb dX7_recipe_40 (by decide) ?_
      obtain rfl := Option.some.inj hf
      exact g_zret (r := 1) C E rfl dX7_recipe_41
    · rw [if_neg c5] at hf
      refine lv_iconst (v := 0) hx hb dX7_recipe_21 (by decide) ?_
      obtain rfl := Option.some.inj hf
      exact g_zret (r := 0) C E rfl dX7_recipe_22
abbrev rm_X7_isNeed : Room := { frames := 0, cells := 0, slots := 0, locals := 0 }
theorem hd_X7_isNeed : yX7_isNeed.cls ≠ "java/lang/invoke/MethodHandle" ∧ yX7_isNeed.cls ≠ "java/lang/invoke/VarHandle" ∧ (parseMethodDescriptor yX7_isNeed.desc).map (fun d => d.parameters.length) = some 2 := by decide +kernel
def f_X7_isNeed_L5 (mns : Nat → Int32) (mng : Nat → Int32) (x1 : Int32) (x2 : Int32) : Nat → Int32 → Int32 → Option (Int32)
  | 0, _, _ => none
  | n + 1, x3, x4 =>
  ck x1 12 <|
  if (mns x1.toNatClampNeg) ≤ x4 then
    okZ x3 <|
    some (x3)
  else
    if x3 = 0 then
      ck (((4 : Int32) * x1) + x4) 48 <|
      if (mng (((4 : Int32) * x1) + x4).toNatClampNeg) = x2 then
        f_X7_isNeed_L5 mns mng x1 x2 n (1 : Int32) (x4 + 1)
      else
        f_X7_isNeed_L5 mns mng x1 x2 n (0 : Int32) (x4 + 1)
    else
      f_X7_isNeed_L5 mns mng x1 x2 n (1 : Int32) (x4 + 1)
set_option maxHeartbeats 4000000 in
set_option maxRecDepth 100000 in
theorem w_X7_isNeed_L5 {p : Program} {l : Launch} {e : Env} {s : State} {m : MethodId} {args : Array Value} {below : List Frame} {meth : Method} {c : Code} {A : Nat → Prop} {D : va_G} {cI cJ cZ : ClassId} {b : Nat → Nat} {mth : Int32} {mlo : Int32} {mre : Int32} {mpr : Int32} {mto : Int32} {mim : Int64} {mdi : Int64} {mow : Int64} {mit : Int64} {mvl : Nat → Int32} {mhs : Nat → Int32} {mns : Nat → Int32} {mby : Nat → Int32} {mng : Nat → Int32} {mnu : Nat → Int32} {mnd : Nat → Int32} {mbg : Nat → Int32} {mbu : Nat → Int32} {mbd : Nat → Int32} {mlg : Nat → Int32} {mly : Nat → Int32} {mll : Nat → Int64} {mld : Nat → Int64} {mpg : Nat → Int32} {mpu : Nat → Int32} {mpl : Nat → Int64} {mtd : Int64} {mti : Int64} {mwt : Nat → Int64} {mch : Nat → Int64} (C : gC p s m args meth c cX7_isNeed 5 (some .boolean) wsX7_isNeed RX7 A) {x1 : Int32} {x2 : Int32} {o : Int32} :
    ∀ (n : Nat) (x3 : Int32) (x4 : Int32) (H : Heap) (locs : List Loc) (ls : Array Slot), vE s A D (gT cI cJ cZ) (mW b cI cJ cZ mth mlo mre mpr mto mim mdi mow mit mvl mhs mns mby mng mnu mnd mbg mbu mbd mlg mly mll mld mpg mpu mpl mtd mti mwt mch) H locs → lv_has ls 5 [(0, .ref (b 0)), (1, .int x1), (2, .int x2), (3, .int x3), (4, .int x4)] → f_X7_isNeed_L5 mns mng x1 x2 n x3 x4 = some o → W p l e rm_X7_isNeed s m args below meth c H locs 0 0 (MQ below (gQi D (gT cI cJ cZ) A (mW b cI cJ cZ mth mlo mre mpr mto mim mdi mow mit mvl mhs mns mby mng mnu mnd mbg mbu mbd mlg mly mll mld mpg mpu mpl mtd mti mwt mch) o) args s 0 0 A) (F0 m 5 ls []) := by
  obtain ⟨hx, hb, hr, hml, hown, hts, hlocks, hN, hA⟩ := id C
  intro n
  induction n with
  | zero =>
    intro x3 x4 H locs ls E hl hf
    rw [f_X7_isNeed_L5] at hf
    cases hf
  | succ n ih =>
    intro x3 x4 H locs ls E hl hf
    rw [f_X7_isNeed_L5] at hf
    refine lv_iload hx hb dX7_isNeed_5 (lv_at hl 4 rfl) ?_
    refine lv_aload_n hx hb dX7_isNeed_7 rfl (lv_at hl 0 rfl) ?_
    refine g_get C E 0 11 (fun _ h => List.mem_cons_of_mem _ (List.mem_append_right _ h)) rfl rfl (by decide) (List.mem_of_getElem? (i := 1) rfl) rfl rfl dX7_isNeed_8 ?_
    refine lv_iload_n hx hb dX7_isNeed_11 rfl (lv_at hl 1 rfl) ?_
    obtain ⟨h1, hf⟩ := ck_some hf
    refine g_iald C E 3 rfl h1 dX7_isNeed_12 ?_
    refine lv_icmp_ge (tgt := 47) hx hb dX7_isNeed_13 (by decide) (fun c2 => ?_) (fun c2 => ?_)
    · rw [if_pos c2] at hf
      refine lv_iload_n hx hb dX7_isNeed_47 rfl (lv_at hl 3 rfl) ?_
      obtain ⟨h3, hf⟩ := okZ_some hf
      obtain rfl := Option.some.inj hf
      exact g_zret (r := x3) C E h3 dX7_isNeed_48
    · rw [if_neg c2] at hf
      refine lv_iload_n hx hb dX7_isNeed_16 rfl (lv_at hl 3 rfl) ?_
      refine lv_if_ne (tgt := 35) hx hb dX7_isNeed_17 (by decide) (fun c4 => ?_) (fun c4 => ?_)
      · rw [if_neg c4] at hf
        refine lv_iconst (v := 1) hx hb dX7_isNeed_35 (by decide) ?_
        refine lv_goto (tgt := 40) hx hb dX7_isNeed_36 (by decide) ?_
        refine lv_istore_n (lv' := [(3, .int (1 : Int32)), (0, .ref (b 0)), (1, .int x1), (2, .int x2), (4, .int x4)]) hx hb dX7_isNeed_40 rfl hl (by decide) rfl (fun ls hl => ?_)
        refine lv_iinc (v := (x4 + 1)) (lv' := [(4, .int (x4 + 1)), (3, .int (1 : Int32)), (0, .ref (b 0)), (1, .int x1), (2, .int x2)]) hx hb dX7_isNeed_41 hl (k := 4) rfl rfl (by decide) rfl (fun ls hl => ?_)
        refine lv_goto (tgt := 5) hx hb dX7_isNeed_44 (by decide) ?_
        exact ih (1 : Int32) (x4 + 1) _ _ _ E (lv_sub hl [2, 3, 4, 1, 0] rfl) hf
      · rw [if_pos c4] at hf
        refine lv_aload_n hx hb dX7_isNeed_20 rfl (lv_at hl 0 rfl) ?_
        refine g_get C E 0 13 (fun _ h => List.mem_cons_of_mem _ (List.mem_append_right _ h)) rfl rfl (by decide) (List.mem_of_getElem? (i := 2) rfl) rfl rfl dX7_isNeed_21 ?_
        refine lv_iconst (v := 4) hx hb dX7_isNeed_24 (by decide) ?_
        refine lv_iload_n hx hb dX7_isNeed_25 rfl (lv_at hl 1 rfl) ?_
        refine lv_imul hx hb dX7_isNeed_26 ?_
        refine lv_iload hx hb dX7_isNeed_27 (lv_at hl 4 rfl) ?_
        refine lv_iadd hx hb dX7_isNeed_29 ?_
        obtain ⟨h5, hf⟩ := ck_some hf
        refine g_iald C E 5 rfl h5 dX7_isNeed_30 ?_
        refine lv_iload_n hx hb dX7_isNeed_31 rfl (lv_at hl 2 rfl) ?_
        refine lv_icmp_ne (tgt := 39) hx hb dX7_isNeed_32 (by decide) (fun c6 => ?_) (fun c6 => ?_)
        · rw [if_neg c6] at hf
          refine lv_iconst (v := 0) hx hb dX7_isNeed_39 (by decide) ?_
          refine lv_istore_n (lv' := [(3, .int (0 : Int32)), (0, .ref (b 0)), (1, .int x1), (2, .int x2), (4, .int x4)]) hx hb dX7_isNeed_40 rfl hl (by decide) rfl (fun ls hl => ?_)
          refine lv_iinc (v := (x4 + 1)) (lv' := [(4, .int (x4 + 1)), (3, .int (0 : Int32)), (0, .ref (b 0)), (1, .int x1), (2, .int x2)]) hx hb dX7_isNeed_41 hl (k := 4) rfl rfl (by decide) rfl (fun ls hl => ?_)
          refine lv_goto (tgt := 5) hx hb dX7_isNeed_44 (by decide) ?_
          exact ih (0 : Int32) (x4 + 1) _ _ _ E (lv_sub hl [2, 3, 4, 1, 0] rfl) hf
        · rw [if_pos c6] at hf
          refine lv_iconst (v := 1) hx hb dX7_isNeed_35 (by decide) ?_
          refine lv_goto (tgt := 40) hx hb dX7_isNeed_36 (by decide) ?_
          refine lv_istore_n (lv' := [(3, .int (1 : Int32)), (0, .ref (b 0)), (1, .int x1), (2, .int x2), (4, .int x4)]) hx hb dX7_isNeed_40 rfl hl (by decide) rfl (fun ls hl => ?_)
          refine lv_iinc (v := (x4 + 1)) (lv' := [(4, .int (x4 + 1)), (3, .int (1 : Int32)), (0, .ref (b 0)), (1, .int x1), (2, .int x2)]) hx hb dX7_isNeed_41 hl (k := 4) rfl rfl (by decide) rfl (fun ls hl => ?_)
          refine lv_goto (tgt := 5) hx hb dX7_isNeed_44 (by decide) ?_
          exact ih (1 : Int32) (x4 + 1) _ _ _ E (lv_sub hl [2, 3, 4, 1, 0] rfl) hf
def f_X7_isNeed (mns : Nat → Int32) (mng : Nat → Int32) (x1 : Int32) (x2 : Int32) : Option (Int32) :=
  f_X7_isNeed_L5 mns mng x1 x2 FU (0 : Int32) (0 : Int32)
set_option maxHeartbeats 4000000 in
set_option maxRecDepth 100000 in
theorem c_X7_isNeed {l : Launch} {D : va_G} {cI cJ cZ : ClassId} {b : Nat → Nat} {sz : Nat} {mth : Int32} {mlo : Int32} {mre : Int32} {mpr : Int32} {mto : Int32} {mim : Int64} {mdi : Int64} {mow : Int64} {mit : Int64} {mvl : Nat → Int32} {mhs : Nat → Int32} {mns : Nat → Int32} {mby : Nat → Int32} {mng : Nat → Int32} {mnu : Nat → Int32} {mnd : Nat → Int32} {mbg : Nat → Int32} {mbu : Nat → Int32} {mbd : Nat → Int32} {mlg : Nat → Int32} {mly : Nat → Int32} {mll : Nat → Int64} {mld : Nat → Int64} {mpg : Nat → Int32} {mpu : Nat → Int32} {mpl : Nat → Int64} {mtd : Int64} {mti : Int64} {mwt : Nat → Int64} {mch : Nat → Int64} {x1 : Int32} {x2 : Int32} {o : Int32} (hf : f_X7_isNeed mns mng x1 x2 = some o) : gMi l yX7_isNeed wsX7_isNeed rm_X7_isNeed D (gT cI cJ cZ) (mW b cI cJ cZ mth mlo mre mpr mto mim mdi mow mit mvl mhs mns mby mng mnu mnd mbg mbu mbd mlg mly mll mld mpg mpu mpl mtd mti mwt mch) (mW b cI cJ cZ mth mlo mre mpr mto mim mdi mow mit mvl mhs mns mby mng mnu mnd mbg mbu mbd mlg mly mll mld mpg mpu mpl mtd mti mwt mch) sz [.ref (b 0), .int x1, .int x2] o := by
  refine g_of (cc := cX7_isNeed) (maxL := 5) (ret := (some .boolean)) (by decide) rfl (Nat.le_of_ble_eq_true rfl) ?_
  intro p e s m below meth c A ls hAe C hl E
  rw [← hAe]
  obtain ⟨hx, hb, hr, hml, hown, hts, hlocks, hN, hA⟩ := id C
  have hl : lv_has ls 5 [(0, .ref (b 0)), (1, .int x1), (2, .int x2)] := hl
  have E : vE s A D (gT cI cJ cZ) (mW b cI cJ cZ mth mlo mre mpr mto mim mdi mow mit mvl mhs mns mby mng mnu mnd mbg mbu mbd mlg mly mll mld mpg mpu mpl mtd mti mwt mch) s.heap [] := E
  rw [f_X7_isNeed] at hf
  refine lv_iconst (v := 0) hx hb dX7_isNeed_0 (by decide) ?_
  refine lv_istore_n (lv' := [(3, .int (0 : Int32)), (0, .ref (b 0)), (1, .int x1), (2, .int x2)]) hx hb dX7_isNeed_1 rfl hl (by decide) rfl (fun ls hl => ?_)
  refine lv_iconst (v := 0) hx hb dX7_isNeed_2 (by decide) ?_
  refine lv_istore (lv' := [(4, .int (0 : Int32)), (3, .int (0 : Int32)), (0, .ref (b 0)), (1, .int x1), (2, .int x2)]) hx hb dX7_isNeed_3 hl (by decide) rfl (fun ls hl => ?_)
  exact w_X7_isNeed_L5 C  FU (0 : Int32) (0 : Int32) _ _ _ E (lv_sub hl [2, 3, 4, 1, 0] rfl) hf
abbrev rm_X7_leads : Room := { frames := 0, cells := 0, slots := 0, locals := 0 }
theorem hd_X7_leads : yX7_leads.cls ≠ "java/lang/invoke/MethodHandle" ∧ yX7_leads.cls ≠ "java/lang/invoke/VarHandle" ∧ (parseMethodDescriptor yX7_leads.desc).map (fun d => d.parameters.length) = some 2 := by decide +kernel
def f_X7_leads_L27 (mns : Nat → Int32) (mng : Nat → Int32) (x5 : Int32) (k7 : Int32 → Int32 → Option (Int32)) (k17 : Int32 → Int32 → Option (Int32)) : Nat → Int32 → Int32 → Option (Int32)
  | 0, _, _ => none
  | n + 1, x3, x6 =>
  ck x5 12 <|
  if (mns x5.toNatClampNeg) ≤ x6 then
    k17 x3 (x5 + 1)
  else
    if ((x3 >>> (x5 &&& 31)) &&& (1 : Int32)) = (1 : Int32) then
      ck (((4 : Int32) * x5) + x6) 48 <|
      f_X7_leads_L27 mns mng x5 k7 k17 n (x3 ||| ((1 : Int32) <<< ((mng (((4 : Int32) * x5) + x6).toNatClampNeg) &&& 31))) (x6 + 1)
    else
      k17 x3 (x5 + 1)
set_option maxHeartbeats 4000000 in
set_option maxRecDepth 100000 in
theorem w_X7_leads_L27 {p : Program} {l : Launch} {e : Env} {s : State} {m : MethodId} {args : Array Value} {below : List Frame} {meth : Method} {c : Code} {A : Nat → Prop} {D : va_G} {cI cJ cZ : ClassId} {b : Nat → Nat} {mth : Int32} {mlo : Int32} {mre : Int32} {mpr : Int32} {mto : Int32} {mim : Int64} {mdi : Int64} {mow : Int64} {mit : Int64} {mvl : Nat → Int32} {mhs : Nat → Int32} {mns : Nat → Int32} {mby : Nat → Int32} {mng : Nat → Int32} {mnu : Nat → Int32} {mnd : Nat → Int32} {mbg : Nat → Int32} {mbu : Nat → Int32} {mbd : Nat → Int32} {mlg : Nat → Int32} {mly : Nat → Int32} {mll : Nat → Int64} {mld : Nat → Int64} {mpg : Nat → Int32} {mpu : Nat → Int32} {mpl : Nat → Int64} {mtd : Int64} {mti : Int64} {mwt : Nat → Int64} {mch : Nat → Int64} (C : gC p s m args meth c cX7_leads 7 (some .boolean) wsX7_leads RX7 A) {x2 : Int32} {x4 : Int32} {x5 : Int32} {o : Int32} {k7 : Int32 → Int32 → Option (Int32)} (hk7 : ∀  (x3 : Int32) (x4 : Int32) (H : Heap) (locs : List Loc) (ls : Array Slot), vE s A D (gT cI cJ cZ) (mW b cI cJ cZ mth mlo mre mpr mto mim mdi mow mit mvl mhs mns mby mng mnu mnd mbg mbu mbd mlg mly mll mld mpg mpu mpl mtd mti mwt mch) H locs → lv_has ls 7 [(0, .ref (b 0)), (2, .int x2), (3, .int x3), (4, .int x4)] → k7 x3 x4 = some o → W p l e rm_X7_leads s m args below meth c H locs 0 0 (MQ below (gQi D (gT cI cJ cZ) A (mW b cI cJ cZ mth mlo mre mpr mto mim mdi mow mit mvl mhs mns mby mng mnu mnd mbg mbu mbd mlg mly mll mld mpg mpu mpl mtd mti mwt mch) o) args s 0 0 A) (F0 m 7 ls [])) {k17 : Int32 → Int32 → Option (Int32)} (hk17 : ∀  (x3 : Int32) (x5 : Int32) (H : Heap) (locs : List Loc) (ls : Array Slot), vE s A D (gT cI cJ cZ) (mW b cI cJ cZ mth mlo mre mpr mto mim mdi mow mit mvl mhs mns mby mng mnu mnd mbg mbu mbd mlg mly mll mld mpg mpu mpl mtd mti mwt mch) H locs → lv_has ls 7 [(0, .ref (b 0)), (2, .int x2), (3, .int x3), (4, .int x4), (5, .int x5)] → k17 x3 x5 = some o → W p l e rm_X7_leads s m args below meth c H locs 0 0 (MQ below (gQi D (gT cI cJ cZ) A (mW b cI cJ cZ mth mlo mre mpr mto mim mdi mow mit mvl mhs mns mby mng mnu mnd mbg mbu mbd mlg mly mll mld mpg mpu mpl mtd mti mwt mch) o) args s 0 0 A) (F0 m 17 ls [])) :
    ∀ (n : Nat) (x3 : Int32) (x6 : Int32) (H : Heap) (locs : List Loc) (ls : Array Slot), vE s A D (gT cI cJ cZ) (mW b cI cJ cZ mth mlo mre mpr mto mim mdi mow mit mvl mhs mns mby mng mnu mnd mbg mbu mbd mlg mly mll mld mpg mpu mpl mtd mti mwt mch) H locs → lv_has ls 7 [(0, .ref (b 0)), (2, .int x2), (3, .int x3), (4, .int x4), (5, .int x5), (6, .int x6)] → f_X7_leads_L27 mns mng x5 k7 k17 n x3 x6 = some o → W p l e rm_X7_leads s m args below meth c H locs 0 0 (MQ below (gQi D (gT cI cJ cZ) A (mW b cI cJ cZ mth mlo mre mpr mto mim mdi mow mit mvl mhs mns mby mng mnu mnd mbg mbu mbd mlg mly mll mld mpg mpu mpl mtd mti mwt mch) o) args s 0 0 A) (F0 m 27 ls []) := by
  obtain ⟨hx, hb, hr, hml, hown, hts, hlocks, hN, hA⟩ := id C
  intro n
  induction n with
  | zero =>
    intro x3 x6 H locs ls E hl hf
    rw [f_X7_leads_L27] at hf
    cases hf
  | succ n ih =>
    intro x3 x6 H locs ls E hl hf
    rw [f_X7_leads_L27] at hf
    refine lv_iload hx hb dX7_leads_27 (lv_at hl 5 rfl) ?_
    refine lv_aload_n hx hb dX7_leads_29 rfl (lv_at hl 0 rfl) ?_
    refine g_get C E 0 11 (fun _ h => List.mem_cons_of_mem _ (List.mem_append_right _ h)) rfl rfl (by decide) (List.mem_of_getElem? (i := 1) rfl) rfl rfl dX7_leads_30 ?_
    refine lv_iload hx hb dX7_leads_33 (lv_at hl 4 rfl) ?_
    obtain ⟨h1, hf⟩ := ck_some hf
    refine g_iald C E 3 rfl h1 dX7_leads_35 ?_
    refine lv_icmp_ge (tgt := 72) hx hb dX7_leads_36 (by decide) (fun c2 => ?_) (fun c2 => ?_)
    · rw [if_pos c2] at hf
      refine lv_iinc (v := (x5 + 1)) (lv' := [(5, .int (x5 + 1)), (0, .ref (b 0)), (2, .int x2), (3, .int x3), (4, .int x4), (6, .int x6)]) hx hb dX7_leads_72 hl (k := 4) rfl rfl (by decide) rfl (fun ls hl => ?_)
      refine lv_goto (tgt := 17) hx hb dX7_leads_75 (by decide) ?_
      exact hk17 x3 (x5 + 1) _ _ _ E (lv_sub hl [1, 2, 3, 4, 0] rfl) hf
    · rw [if_neg c2] at hf
      refine lv_iload_n hx hb dX7_leads_39 rfl (lv_at hl 2 rfl) ?_
      refine lv_iload hx hb dX7_leads_40 (lv_at hl 4 rfl) ?_
      refine lv_ishr hx hb dX7_leads_42 ?_
      refine lv_iconst (v := 1) hx hb dX7_leads_43 (by decide) ?_
      refine lv_iand hx hb dX7_leads_44 ?_
      refine lv_iconst (v := 1) hx hb dX7_leads_45 (by decide) ?_
      refine lv_icmp_ne (tgt := 72) hx hb dX7_leads_46 (by decide) (fun c3 => ?_) (fun c3 => ?_)
      · rw [if_neg c3] at hf
        refine lv_iinc (v := (x5 + 1)) (lv' := [(5, .int (x5 + 1)), (0, .ref (b 0)), (2, .int x2), (3, .int x3), (4, .int x4), (6, .int x6)]) hx hb dX7_leads_72 hl (k := 4) rfl rfl (by decide) rfl (fun ls hl => ?_)
        refine lv_goto (tgt := 17) hx hb dX7_leads_75 (by decide) ?_
        exact hk17 x3 (x5 + 1) _ _ _ E (lv_sub hl [1, 2, 3, 4, 0] rfl) hf
      · rw [if_pos c3] at hf
        refine lv_iload_n hx hb dX7_leads_49 rfl (lv_at hl 2 rfl) ?_
        refine lv_iconst (v := 1) hx hb dX7_leads_50 (by decide) ?_
        refine lv_aload_n hx hb dX7_leads_51 rfl (lv_at hl 0 rfl) ?_
        refine g_get C E 0 13 (fun _ h => List.mem_cons_of_mem _ (List.mem_append_right _ h)) rfl rfl (by decide) (List.mem_of_getElem? (i := 2) rfl) rfl rfl dX7_leads_52 ?_
        refine lv_iconst (v := 4) hx hb dX7_leads_55 (by decide) ?_
        refine lv_iload hx hb dX7_leads_56 (lv_at hl 4 rfl) ?_
        refine lv_imul hx hb dX7_leads_58 ?_
        refine lv_iload hx hb dX7_leads_59 (lv_at hl 5 rfl) ?_
        refine lv_iadd hx hb dX7_leads_61 ?_
        obtain ⟨h4, hf⟩ := ck_some hf
        refine g_iald C E 5 rfl h4 dX7_leads_62 ?_
        refine lv_ishl hx hb dX7_leads_63 ?_
        refine lv_ior hx hb dX7_leads_64 ?_
        refine lv_istore_n (lv' := [(3, .int (x3 ||| ((1 : Int32) <<< ((mng (((4 : Int32) * x5) + x6).toNatClampNeg) &&& 31)))), (0, .ref (b 0)), (2, .int x2), (4, .int x4), (5, .int x5), (6, .int x6)]) hx hb dX7_leads_65 rfl hl (by decide) rfl (fun ls hl => ?_)
        refine lv_iinc (v := (x6 + 1)) (lv' := [(6, .int (x6 + 1)), (3, .int (x3 ||| ((1 : Int32) <<< ((mng (((4 : Int32) * x5) + x6).toNatClampNeg) &&& 31)))), (0, .ref (b 0)), (2, .int x2), (4, .int x4), (5, .int x5)]) hx hb dX7_leads_66 hl (k := 5) rfl rfl (by decide) rfl (fun ls hl => ?_)
        refine lv_goto (tgt := 27) hx hb dX7_leads_69 (by decide) ?_
        exact ih (x3 ||| ((1 : Int32) <<< ((mng (((4 : Int32) * x5) + x6).toNatClampNeg) &&& 31))) (x6 + 1) _ _ _ E (lv_sub hl [2, 3, 1, 4, 5, 0] rfl) hf
def f_X7_leads_L17 (mns : Nat → Int32) (mng : Nat → Int32) (x4 : Int32) (k7 : Int32 → Int32 → Option (Int32)) : Nat → Int32 → Int32 → Option (Int32)
  | 0, _, _ => none
  | n + 1, x3, x5 =>
  if (12 : Int32) ≤ x5 then
    k7 x3 (x4 + 1)
  else
    f_X7_leads_L27 mns mng x5 k7 (fun x3 x5 => f_X7_leads_L17 mns mng x4 k7 n x3 x5) FU x3 (0 : Int32)
set_option maxHeartbeats 4000000 in
set_option maxRecDepth 100000 in
theorem w_X7_leads_L17 {p : Program} {l : Launch} {e : Env} {s : State} {m : MethodId} {args : Array Value} {below : List Frame} {meth : Method} {c : Code} {A : Nat → Prop} {D : va_G} {cI cJ cZ : ClassId} {b : Nat → Nat} {mth : Int32} {mlo : Int32} {mre : Int32} {mpr : Int32} {mto : Int32} {mim : Int64} {mdi : Int64} {mow : Int64} {mit : Int64} {mvl : Nat → Int32} {mhs : Nat → Int32} {mns : Nat → Int32} {mby : Nat → Int32} {mng : Nat → Int32} {mnu : Nat → Int32} {mnd : Nat → Int32} {mbg : Nat → Int32} {mbu : Nat → Int32} {mbd : Nat → Int32} {mlg : Nat → Int32} {mly : Nat → Int32} {mll : Nat → Int64} {mld : Nat → Int64} {mpg : Nat → Int32} {mpu : Nat → Int32} {mpl : Nat → Int64} {mtd : Int64} {mti : Int64} {mwt : Nat → Int64} {mch : Nat → Int64} (C : gC p s m args meth c cX7_leads 7 (some .boolean) wsX7_leads RX7 A) {x2 : Int32} {x4 : Int32} {o : Int32} {k7 : Int32 → Int32 → Option (Int32)} (hk7 : ∀  (x3 : Int32) (x4 : Int32) (H : Heap) (locs : List Loc) (ls : Array Slot), vE s A D (gT cI cJ cZ) (mW b cI cJ cZ mth mlo mre mpr mto mim mdi mow mit mvl mhs mns mby mng mnu mnd mbg mbu mbd mlg mly mll mld mpg mpu mpl mtd mti mwt mch) H locs → lv_has ls 7 [(0, .ref (b 0)), (2, .int x2), (3, .int x3), (4, .int x4)] → k7 x3 x4 = some o → W p l e rm_X7_leads s m args below meth c H locs 0 0 (MQ below (gQi D (gT cI cJ cZ) A (mW b cI cJ cZ mth mlo mre mpr mto mim mdi mow mit mvl mhs mns mby mng mnu mnd mbg mbu mbd mlg mly mll mld mpg mpu mpl mtd mti mwt mch) o) args s 0 0 A) (F0 m 7 ls [])) :
    ∀ (n : Nat) (x3 : Int32) (x5 : Int32) (H : Heap) (locs : List Loc) (ls : Array Slot), vE s A D (gT cI cJ cZ) (mW b cI cJ cZ mth mlo mre mpr mto mim mdi mow mit mvl mhs mns mby mng mnu mnd mbg mbu mbd mlg mly mll mld mpg mpu mpl mtd mti mwt mch) H locs → lv_has ls 7 [(0, .ref (b 0)), (2, .int x2), (3, .int x3), (4, .int x4), (5, .int x5)] → f_X7_leads_L17 mns mng x4 k7 n x3 x5 = some o → W p l e rm_X7_leads s m args below meth c H locs 0 0 (MQ below (gQi D (gT cI cJ cZ) A (mW b cI cJ cZ mth mlo mre mpr mto mim mdi mow mit mvl mhs mns mby mng mnu mnd mbg mbu mbd mlg mly mll mld mpg mpu mpl mtd mti mwt mch) o) args s 0 0 A) (F0 m 17 ls []) := by
  obtain ⟨hx, hb, hr, hml, hown, hts, hlocks, hN, hA⟩ := id C
  intro n
  induction n with
  | zero =>
    intro x3 x5 H locs ls E hl hf
    rw [f_X7_leads_L17] at hf
    cases hf
  | succ n ih =>
    intro x3 x5 H locs ls E hl hf
    rw [f_X7_leads_L17] at hf
    refine lv_iload hx hb dX7_leads_17 (lv_at hl 4 rfl) ?_
    refine lv_bipush (v := 12) hx hb dX7_leads_19 (by decide) ?_
    refine lv_icmp_ge (tgt := 78) hx hb dX7_leads_21 (by decide) (fun c1 => ?_) (fun c1 => ?_)
    · rw [if_pos c1] at hf
      refine lv_iinc (v := (x4 + 1)) (lv' := [(4, .int (x4 + 1)), (0, .ref (b 0)), (2, .int x2), (3, .int x3), (5, .int x5)]) hx hb dX7_leads_78 hl (k := 3) rfl rfl (by decide) rfl (fun ls hl => ?_)
      refine lv_goto (tgt := 7) hx hb dX7_leads_81 (by decide) ?_
      exact hk7 x3 (x4 + 1) _ _ _ E (lv_sub hl [1, 2, 3, 0] rfl) hf
    · rw [if_neg c1] at hf
      refine lv_iconst (v := 0) hx hb dX7_leads_24 (by decide) ?_
      refine lv_istore (lv' := [(6, .int (0 : Int32)), (0, .ref (b 0)), (2, .int x2), (3, .int x3), (4, .int x4), (5, .int x5)]) hx hb dX7_leads_25 hl (by decide) rfl (fun ls hl => ?_)
      exact w_X7_leads_L27 C hk7 ih FU x3 (0 : Int32) _ _ _ E (lv_sub hl [1, 2, 3, 4, 5, 0] rfl) hf
def f_X7_leads_L7 (mns : Nat → Int32) (mng : Nat → Int32) (x2 : Int32) : Nat → Int32 → Int32 → Option (Int32)
  | 0, _, _ => none
  | n + 1, x3, x4 =>
  if (12 : Int32) ≤ x4 then
    if ((x3 >>> (x2 &&& 31)) &&& (1 : Int32)) = (1 : Int32) then
      some ((1 : Int32))
    else
      some ((0 : Int32))
  else
    f_X7_leads_L17 mns mng x4 (fun x3 x4 => f_X7_leads_L7 mns mng x2 n x3 x4) FU x3 (0 : Int32)
set_option maxHeartbeats 4000000 in
set_option maxRecDepth 100000 in
theorem w_X7_leads_L7 {p : Program} {l : Launch} {e : Env} {s : State} {m : MethodId} {args : Array Value} {below : List Frame} {meth : Method} {c : Code} {A : Nat → Prop} {D : va_G} {cI cJ cZ : ClassId} {b : Nat → Nat} {mth : Int32} {mlo : Int32} {mre : Int32} {mpr : Int32} {mto : Int32} {mim : Int64} {mdi : Int64} {mow : Int64} {mit : Int64} {mvl : Nat → Int32} {mhs : Nat → Int32} {mns : Nat → Int32} {mby : Nat → Int32} {mng : Nat → Int32} {mnu : Nat → Int32} {mnd : Nat → Int32} {mbg : Nat → Int32} {mbu : Nat → Int32} {mbd : Nat → Int32} {mlg : Nat → Int32} {mly : Nat → Int32} {mll : Nat → Int64} {mld : Nat → Int64} {mpg : Nat → Int32} {mpu : Nat → Int32} {mpl : Nat → Int64} {mtd : Int64} {mti : Int64} {mwt : Nat → Int64} {mch : Nat → Int64} (C : gC p s m args meth c cX7_leads 7 (some .boolean) wsX7_leads RX7 A) {x2 : Int32} {o : Int32} :
    ∀ (n : Nat) (x3 : Int32) (x4 : Int32) (H : Heap) (locs : List Loc) (ls : Array Slot), vE s A D (gT cI cJ cZ) (mW b cI cJ cZ mth mlo mre mpr mto mim mdi mow mit mvl mhs mns mby mng mnu mnd mbg mbu mbd mlg mly mll mld mpg mpu mpl mtd mti mwt mch) H locs → lv_has ls 7 [(0, .ref (b 0)), (2, .int x2), (3, .int x3), (4, .int x4)] → f_X7_leads_L7 mns mng x2 n x3 x4 = some o → W p l e rm_X7_leads s m args below meth c H locs 0 0 (MQ below (gQi D (gT cI cJ cZ) A (mW b cI cJ cZ mth mlo mre mpr mto mim mdi mow mit mvl mhs mns mby mng mnu mnd mbg mbu mbd mlg mly mll mld mpg mpu mpl mtd mti mwt mch) o) args s 0 0 A) (F0 m 7 ls []) := by
  obtain ⟨hx, hb, hr, hml, hown, hts, hlocks, hN, hA⟩ := id C
  intro n
  induction n with
  | zero =>
    intro x3 x4 H locs ls E hl hf
    rw [f_X7_leads_L7] at hf
    cases hf
  | succ n ih =>
    intro x3 x4 H locs ls E hl hf
    rw [f_X7_leads_L7] at hf
    refine lv_iload hx hb dX7_leads_7 (lv_at hl 3 rfl) ?_
    refine lv_bipush (v := 12) hx hb dX7_leads_9 (by decide) ?_
    refine lv_icmp_ge (tgt := 84) hx hb dX7_leads_11 (by decide) (fun c1 => ?_) (fun c1 => ?_)
    · rw [if_pos c1] at hf
      refine lv_iload_n hx hb dX7_leads_84 rfl (lv_at hl 2 rfl) ?_
      refine lv_iload_n hx hb dX7_leads_85 rfl (lv_at hl 1 rfl) ?_
      refine lv_ishr hx hb dX7_leads_86 ?_
      refine lv_iconst (v := 1) hx hb dX7_leads_87 (by decide) ?_
      refine lv_iand hx hb dX7_leads_88 ?_
      refine lv_iconst (v := 1) hx hb dX7_leads_89 (by decide) ?_
      refine lv_icmp_ne (tgt := 97) hx hb dX7_leads_90 (by decide) (fun c2 => ?_) (fun c2 => ?_)
      · rw [if_neg c2] at hf
        refine lv_iconst (v := 0) hx hb dX7_leads_97 (by decide) ?_
        obtain rfl := Option.some.inj hf
        exact g_zret (r := 0) C E rfl dX7_leads_98
      · rw [if_pos c2] at hf
        refine lv_iconst (v := 1) hx hb dX7_leads_93 (by decide) ?_
        refine lv_goto (tgt := 98) hx hb dX7_leads_94 (by decide) ?_
        obtain rfl := Option.some.inj hf
        exact g_zret (r := 1) C E rfl dX7_leads_98
    · rw [if_neg c1] at hf
      refine lv_iconst (v := 0) hx hb dX7_leads_14 (by decide) ?_
      refine lv_istore (lv' := [(5, .int (0 : Int32)), (0, .ref (b 0)), (2, .int x2), (3, .int x3), (4, .int x4)]) hx hb dX7_leads_15 hl (by decide) rfl (fun ls hl => ?_)
      exact w_X7_leads_L17 C ih FU x3 (0 : Int32) _ _ _ E (lv_sub hl [1, 2, 3, 4, 0] rfl) hf
def f_X7_leads (mns : Nat → Int32) (mng : Nat → Int32) (x1 : Int32) (x2 : Int32) : Option (Int32) :=
  f_X7_leads_L7 mns mng x2 FU ((1 : Int32) <<< (x1 &&& 31)) (0 : Int32)
set_option maxHeartbeats 4000000 in
set_option maxRecDepth 100000 in
theorem c_X7_leads {l : Launch} {D : va_G} {cI cJ cZ : ClassId} {b : Nat → Nat} {sz : Nat} {mth : Int32} {mlo : Int32} {mre : Int32} {mpr : Int32} {mto : Int32} {mim : Int64} {mdi : Int64} {mow : Int64} {mit : Int64} {mvl : Nat → Int32} {mhs : Nat → Int32} {mns : Nat → Int32} {mby : Nat → Int32} {mng : Nat → Int32} {mnu : Nat → Int32} {mnd : Nat → Int32} {mbg : Nat → Int32} {mbu : Nat → Int32} {mbd : Nat → Int32} {mlg : Nat → Int32} {mly : Nat → Int32} {mll : Nat → Int64} {mld : Nat → Int64} {mpg : Nat → Int32} {mpu : Nat → Int32} {mpl : Nat → Int64} {mtd : Int64} {mti : Int64} {mwt : Nat → Int64} {mch : Nat → Int64} {x1 : Int32} {x2 : Int32} {o : Int32} (hf : f_X7_leads mns mng x1 x2 = some o) : gMi l yX7_leads wsX7_leads rm_X7_leads D (gT cI cJ cZ) (mW b cI cJ cZ mth mlo mre mpr mto mim mdi mow mit mvl mhs mns mby mng mnu mnd mbg mbu mbd mlg mly mll mld mpg mpu mpl mtd mti mwt mch) (mW b cI cJ cZ mth mlo mre mpr mto mim mdi mow mit mvl mhs mns mby mng mnu mnd mbg mbu mbd mlg mly mll mld mpg mpu mpl mtd mti mwt mch) sz [.ref (b 0), .int x1, .int x2] o := by
  refine g_of (cc := cX7_leads) (maxL := 7) (ret := (some .boolean)) (by decide) rfl (Nat.le_of_ble_eq_true rfl) ?_
  intro p e s m below meth c A ls hAe C hl E
  rw [← hAe]
  obtain ⟨hx, hb, hr, hml, hown, hts, hlocks, hN, hA⟩ := id C
  have hl : lv_has ls 7 [(0, .ref (b 0)), (1, .int x1), (2, .int x2)] := hl
  have E : vE s A D (gT cI cJ cZ) (mW b cI cJ cZ mth mlo mre mpr mto mim mdi mow mit mvl mhs mns mby mng mnu mnd mbg mbu mbd mlg mly mll mld mpg mpu mpl mtd mti mwt mch) s.heap [] := E
  rw [f_X7_leads] at hf
  refine lv_iconst (v := 1) hx hb dX7_leads_0 (by decide) ?_
  refine lv_iload_n hx hb dX7_leads_1 rfl (lv_at hl 1 rfl) ?_
  refine lv_ishl hx hb dX7_leads_2 ?_
  refine lv_istore_n (lv' := [(3, .int ((1 : Int32) <<< (x1 &&& 31))), (0, .ref (b 0)), (1, .int x1), (2, .int x2)]) hx hb dX7_leads_3 rfl hl (by decide) rfl (fun ls hl => ?_)
  refine lv_iconst (v := 0) hx hb dX7_leads_4 (by decide) ?_
  refine lv_istore (lv' := [(4, .int (0 : Int32)), (3, .int ((1 : Int32) <<< (x1 &&& 31))), (0, .ref (b 0)), (1, .int x1), (2, .int x2)]) hx hb dX7_leads_5 hl (by decide) rfl (fun ls hl => ?_)
  exact w_X7_leads_L7 C  FU ((1 : Int32) <<< (x1 &&& 31)) (0 : Int32) _ _ _ E (lv_sub hl [2, 4, 1, 0] rfl) hf
abbrev rm_X7_depthOf : Room := { frames := 0, cells := 0, slots := 0, locals := 0 }
theorem hd_X7_depthOf : yX7_depthOf.cls ≠ "java/lang/invoke/MethodHandle" ∧ yX7_depthOf.cls ≠ "java/lang/invoke/VarHandle" ∧ (parseMethodDescriptor yX7_depthOf.desc).map (fun d => d.parameters.length) = some 1 := by decide +kernel
def f_X7_depthOf_L26 (mns : Nat → Int32) (mng : Nat → Int32) (x2 : Int32) (x5 : Int32) (k6 : Int32 → Int32 → Option (Int32)) (k16 : Int32 → Int32 → Option (Int32)) : Nat → Int32 → Int32 → Option (Int32)
  | 0, _, _ => none
  | n + 1, x4, x6 =>
  ck x5 12 <|
  if (mns x5.toNatClampNeg) ≤ x6 then
    k16 x4 (x5 + 1)
  else
    if ((x2 >>> (x5 &&& 31)) &&& (1 : Int32)) = (1 : Int32) then
      ck (((4 : Int32) * x5) + x6) 48 <|
      f_X7_depthOf_L26 mns mng x2 x5 k6 k16 n (x4 ||| ((1 : Int32) <<< ((mng (((4 : Int32) * x5) + x6).toNatClampNeg) &&& 31))) (x6 + 1)
    else
      k16 x4 (x5 + 1)
set_option maxHeartbeats 4000000 in
set_option maxRecDepth 100000 in
theorem w_X7_depthOf_L26 {p : Program} {l : Launch} {e : Env} {s : State} {m : MethodId} {args : Array Value} {below : List Frame} {meth : Method} {c : Code} {A : Nat → Prop} {D : va_G} {cI cJ cZ : ClassId} {b : Nat → Nat} {mth : Int32} {mlo : Int32} {mre : Int32} {mpr : Int32} {mto : Int32} {mim : Int64} {mdi : Int64} {mow : Int64} {mit : Int64} {mvl : Nat → Int32} {mhs : Nat → Int32} {mns : Nat → Int32} {mby : Nat → Int32} {mng : Nat → Int32} {mnu : Nat → Int32} {mnd : Nat → Int32} {mbg : Nat → Int32} {mbu : Nat → Int32} {mbd : Nat → Int32} {mlg : Nat → Int32} {mly : Nat → Int32} {mll : Nat → Int64} {mld : Nat → Int64} {mpg : Nat → Int32} {mpu : Nat → Int32} {mpl : Nat → Int64} {mtd : Int64} {mti : Int64} {mwt : Nat → Int64} {mch : Nat → Int64} (C : gC p s m args meth c cX7_depthOf 7 (some .int) wsX7_depthOf RX7 A) {x2 : Int32} {x3 : Int32} {x5 : Int32} {o : Int32} {k6 : Int32 → Int32 → Option (Int32)} (hk6 : ∀  (x2 : Int32) (x3 : Int32) (H : Heap) (locs : List Loc) (ls : Array Slot), vE s A D (gT cI cJ cZ) (mW b cI cJ cZ mth mlo mre mpr mto mim mdi mow mit mvl mhs mns mby mng mnu mnd mbg mbu mbd mlg mly mll mld mpg mpu mpl mtd mti mwt mch) H locs → lv_has ls 7 [(0, .ref (b 0)), (2, .int x2), (3, .int x3)] → k6 x2 x3 = some o → W p l e rm_X7_depthOf s m args below meth c H locs 0 0 (MQ below (gQi D (gT cI cJ cZ) A (mW b cI cJ cZ mth mlo mre mpr mto mim mdi mow mit mvl mhs mns mby mng mnu mnd mbg mbu mbd mlg mly mll mld mpg mpu mpl mtd mti mwt mch) o) args s 0 0 A) (F0 m 6 ls [])) {k16 : Int32 → Int32 → Option (Int32)} (hk16 : ∀  (x4 : Int32) (x5 : Int32) (H : Heap) (locs : List Loc) (ls : Array Slot), vE s A D (gT cI cJ cZ) (mW b cI cJ cZ mth mlo mre mpr mto mim mdi mow mit mvl mhs mns mby mng mnu mnd mbg mbu mbd mlg mly mll mld mpg mpu mpl mtd mti mwt mch) H locs → lv_has ls 7 [(0, .ref (b 0)), (2, .int x2), (3, .int x3), (4, .int x4), (5, .int x5)] → k16 x4 x5 = some o → W p l e rm_X7_depthOf s m args below meth c H locs 0 0 (MQ below (gQi D (gT cI cJ cZ) A (mW b cI cJ cZ mth mlo mre mpr mto mim mdi mow mit mvl mhs mns mby mng mnu mnd mbg mbu mbd mlg mly mll mld mpg mpu mpl mtd mti mwt mch) o) args s 0 0 A) (F0 m 16 ls [])) :
    ∀ (n : Nat) (x4 : Int32) (x6 : Int32) (H : Heap) (locs : List Loc) (ls : Array Slot), vE s A D (gT cI cJ cZ) (mW b cI cJ cZ mth mlo mre mpr mto mim mdi mow mit mvl mhs mns mby mng mnu mnd mbg mbu mbd mlg mly mll mld mpg mpu mpl mtd mti mwt mch) H locs → lv_has ls 7 [(0, .ref (b 0)), (2, .int x2), (3, .int x3), (4, .int x4), (5, .int x5), (6, .int x6)] → f_X7_depthOf_L26 mns mng x2 x5 k6 k16 n x4 x6 = some o → W p l e rm_X7_depthOf s m args below meth c H locs 0 0 (MQ below (gQi D (gT cI cJ cZ) A (mW b cI cJ cZ mth mlo mre mpr mto mim mdi mow mit mvl mhs mns mby mng mnu mnd mbg mbu mbd mlg mly mll mld mpg mpu mpl mtd mti mwt mch) o) args s 0 0 A) (F0 m 26 ls []) := by
  obtain ⟨hx, hb, hr, hml, hown, hts, hlocks, hN, hA⟩ := id C
  intro n
  induction n with
  | zero =>
    intro x4 x6 H locs ls E hl hf
    rw [f_X7_depthOf_L26] at hf
    cases hf
  | succ n ih =>
    intro x4 x6 H locs ls E hl hf
    rw [f_X7_depthOf_L26] at hf
    refine lv_iload hx hb dX7_depthOf_26 (lv_at hl 5 rfl) ?_
    refine lv_aload_n hx hb dX7_depthOf_28 rfl (lv_at hl 0 rfl) ?_
    refine g_get C E 0 11 (fun _ h => List.mem_cons_of_mem _ (List.mem_append_right _ h)) rfl rfl (by decide) (List.mem_of_getElem? (i := 1) rfl) rfl rfl dX7_depthOf_29 ?_
    refine lv_iload hx hb dX7_depthOf_32 (lv_at hl 4 rfl) ?_
    obtain ⟨h1, hf⟩ := ck_some hf
    refine g_iald C E 3 rfl h1 dX7_depthOf_34 ?_
    refine lv_icmp_ge (tgt := 73) hx hb dX7_depthOf_35 (by decide) (fun c2 => ?_) (fun c2 => ?_)
    · rw [if_pos c2] at hf
      refine lv_iinc (v := (x5 + 1)) (lv' := [(5, .int (x5 + 1)), (0, .ref (b 0)), (2, .int x2), (3, .int x3), (4, .int x4), (6, .int x6)]) hx hb dX7_depthOf_73 hl (k := 4) rfl rfl (by decide) rfl (fun ls hl => ?_)
      refine lv_goto (tgt := 16) hx hb dX7_depthOf_76 (by decide) ?_
      exact hk16 x4 (x5 + 1) _ _ _ E (lv_sub hl [1, 2, 3, 4, 0] rfl) hf
    · rw [if_neg c2] at hf
      refine lv_iload_n hx hb dX7_depthOf_38 rfl (lv_at hl 1 rfl) ?_
      refine lv_iload hx hb dX7_depthOf_39 (lv_at hl 4 rfl) ?_
      refine lv_ishr hx hb dX7_depthOf_41 ?_
      refine lv_iconst (v := 1) hx hb dX7_depthOf_42 (by decide) ?_
      refine lv_iand hx hb dX7_depthOf_43 ?_
      refine lv_iconst (v := 1) hx hb dX7_depthOf_44 (by decide) ?_
      refine lv_icmp_ne (tgt := 73) hx hb dX7_depthOf_45 (by decide) (fun c3 => ?_) (fun c3 => ?_)
      · rw [if_neg c3] at hf
        refine lv_iinc (v := (x5 + 1)) (lv' := [(5, .int (x5 + 1)), (0, .ref (b 0)), (2, .int x2), (3, .int x3), (4, .int x4), (6, .int x6)]) hx hb dX7_depthOf_73 hl (k := 4) rfl rfl (by decide) rfl (fun ls hl => ?_)
        refine lv_goto (tgt := 16) hx hb dX7_depthOf_76 (by decide) ?_
        exact hk16 x4 (x5 + 1) _ _ _ E (lv_sub hl [1, 2, 3, 4, 0] rfl) hf
      · rw [if_pos c3] at hf
        refine lv_iload hx hb dX7_depthOf_48 (lv_at hl 3 rfl) ?_
        refine lv_iconst (v := 1) hx hb dX7_depthOf_50 (by decide) ?_
        refine lv_aload_n hx hb dX7_depthOf_51 rfl (lv_at hl 0 rfl) ?_
        refine g_get C E 0 13 (fun _ h => List.mem_cons_of_mem _ (List.mem_append_right _ h)) rfl rfl (by decide) (List.mem_of_getElem? (i := 2) rfl) rfl rfl dX7_depthOf_52 ?_
        refine lv_iconst (v := 4) hx hb dX7_depthOf_55 (by decide) ?_
        refine lv_iload hx hb dX7_depthOf_56 (lv_at hl 4 rfl) ?_
        refine lv_imul hx hb dX7_depthOf_58 ?_
        refine lv_iload hx hb dX7_depthOf_59 (lv_at hl 5 rfl) ?_
        refine lv_iadd hx hb dX7_depthOf_61 ?_
        obtain ⟨h4, hf⟩ := ck_some hf
        refine g_iald C E 5 rfl h4 dX7_depthOf_62 ?_
        refine lv_ishl hx hb dX7_depthOf_63 ?_
        refine lv_ior hx hb dX7_depthOf_64 ?_
        refine lv_istore (lv' := [(4, .int (x4 ||| ((1 : Int32) <<< ((mng (((4 : Int32) * x5) + x6).toNatClampNeg) &&& 31)))), (0, .ref (b 0)), (2, .int x2), (3, .int x3), (5, .int x5), (6, .int x6)]) hx hb dX7_depthOf_65 hl (by decide) rfl (fun ls hl => ?_)
        refine lv_iinc (v := (x6 + 1)) (lv' := [(6, .int (x6 + 1)), (4, .int (x4 ||| ((1 : Int32) <<< ((mng (((4 : Int32) * x5) + x6).toNatClampNeg) &&& 31)))), (0, .ref (b 0)), (2, .int x2), (3, .int x3), (5, .int x5)]) hx hb dX7_depthOf_67 hl (k := 5) rfl rfl (by decide) rfl (fun ls hl => ?_)
        refine lv_goto (tgt := 26) hx hb dX7_depthOf_70 (by decide) ?_
        exact ih (x4 ||| ((1 : Int32) <<< ((mng (((4 : Int32) * x5) + x6).toNatClampNeg) &&& 31))) (x6 + 1) _ _ _ E (lv_sub hl [2, 3, 4, 1, 5, 0] rfl) hf
def f_X7_depthOf_L16 (mns : Nat → Int32) (mng : Nat → Int32) (x2 : Int32) (x3 : Int32) (k6 : Int32 → Int32 → Option (Int32)) : Nat → Int32 → Int32 → Option (Int32)
  | 0, _, _ => none
  | n + 1, x4, x5 =>
  if (12 : Int32) ≤ x5 then
    k6 x4 (x3 + 1)
  else
    f_X7_depthOf_L26 mns mng x2 x5 k6 (fun x4 x5 => f_X7_depthOf_L16 mns mng x2 x3 k6 n x4 x5) FU x4 (0 : Int32)
set_option maxHeartbeats 4000000 in
set_option maxRecDepth 100000 in
theorem w_X7_depthOf_L16 {p : Program} {l : Launch} {e : Env} {s : State} {m : MethodId} {args : Array Value} {below : List Frame} {meth : Method} {c : Code} {A : Nat → Prop} {D : va_G} {cI cJ cZ : ClassId} {b : Nat → Nat} {mth : Int32} {mlo : Int32} {mre : Int32} {mpr : Int32} {mto : Int32} {mim : Int64} {mdi : Int64} {mow : Int64} {mit : Int64} {mvl : Nat → Int32} {mhs : Nat → Int32} {mns : Nat → Int32} {mby : Nat → Int32} {mng : Nat → Int32} {mnu : Nat → Int32} {mnd : Nat → Int32} {mbg : Nat → Int32} {mbu : Nat → Int32} {mbd : Nat → Int32} {mlg : Nat → Int32} {mly : Nat → Int32} {mll : Nat → Int64} {mld : Nat → Int64} {mpg : Nat → Int32} {mpu : Nat → Int32} {mpl : Nat → Int64} {mtd : Int64} {mti : Int64} {mwt : Nat → Int64} {mch : Nat → Int64} (C : gC p s m args meth c cX7_depthOf 7 (some .int) wsX7_depthOf RX7 A) {x2 : Int32} {x3 : Int32} {o : Int32} {k6 : Int32 → Int32 → Option (Int32)} (hk6 : ∀  (x2 : Int32) (x3 : Int32) (H : Heap) (locs : List Loc) (ls : Array Slot), vE s A D (gT cI cJ cZ) (mW b cI cJ cZ mth mlo mre mpr mto mim mdi mow mit mvl mhs mns mby mng mnu mnd mbg mbu mbd mlg mly mll mld mpg mpu mpl mtd mti mwt mch) H locs → lv_has ls 7 [(0, .ref (b 0)), (2, .int x2), (3, .int x3)] → k6 x2 x3 = some o → W p l e rm_X7_depthOf s m args below meth c H locs 0 0 (MQ below (gQi D (gT cI cJ cZ) A (mW b cI cJ cZ mth mlo mre mpr mto mim mdi mow mit mvl mhs mns mby mng mnu mnd mbg mbu mbd mlg mly mll mld mpg mpu mpl mtd mti mwt mch) o) args s 0 0 A) (F0 m 6 ls [])) :
    ∀ (n : Nat) (x4 : Int32) (x5 : Int32) (H : Heap) (locs : List Loc) (ls : Array Slot), vE s A D (gT cI cJ cZ) (mW b cI cJ cZ mth mlo mre mpr mto mim mdi mow mit mvl mhs mns mby mng mnu mnd mbg mbu mbd mlg mly mll mld mpg mpu mpl mtd mti mwt mch) H locs → lv_has ls 7 [(0, .ref (b 0)), (2, .int x2), (3, .int x3), (4, .int x4), (5, .int x5)] → f_X7_depthOf_L16 mns mng x2 x3 k6 n x4 x5 = some o → W p l e rm_X7_depthOf s m args below meth c H locs 0 0 (MQ below (gQi D (gT cI cJ cZ) A (mW b cI cJ cZ mth mlo mre mpr mto mim mdi mow mit mvl mhs mns mby mng mnu mnd mbg mbu mbd mlg mly mll mld mpg mpu mpl mtd mti mwt mch) o) args s 0 0 A) (F0 m 16 ls []) := by
  obtain ⟨hx, hb, hr, hml, hown, hts, hlocks, hN, hA⟩ := id C
  intro n
  induction n with
  | zero =>
    intro x4 x5 H locs ls E hl hf
    rw [f_X7_depthOf_L16] at hf
    cases hf
  | succ n ih =>
    intro x4 x5 H locs ls E hl hf
    rw [f_X7_depthOf_L16] at hf
    refine lv_iload hx hb dX7_depthOf_16 (lv_at hl 4 rfl) ?_
    refine lv_bipush (v := 12) hx hb dX7_depthOf_18 (by decide) ?_
    refine lv_icmp_ge (tgt := 79) hx hb dX7_depthOf_20 (by decide) (fun c1 => ?_) (fun c1 => ?_)
    · rw [if_pos c1] at hf
      refine lv_iload hx hb dX7_depthOf_79 (lv_at hl 3 rfl) ?_
      refine lv_istore_n (lv' := [(2, .int x4), (0, .ref (b 0)), (3, .int x3), (4, .int x4), (5, .int x5)]) hx hb dX7_depthOf_81 rfl hl (by decide) rfl (fun ls hl => ?_)
      refine lv_iinc (v := (x3 + 1)) (lv' := [(3, .int (x3 + 1)), (2, .int x4), (0, .ref (b 0)), (4, .int x4), (5, .int x5)]) hx hb dX7_depthOf_82 hl (k := 2) rfl rfl (by decide) rfl (fun ls hl => ?_)
      refine lv_goto (tgt := 6) hx hb dX7_depthOf_85 (by decide) ?_
      exact hk6 x4 (x3 + 1) _ _ _ E (lv_sub hl [2, 1, 0] rfl) hf
    · rw [if_neg c1] at hf
      refine lv_iconst (v := 0) hx hb dX7_depthOf_23 (by decide) ?_
      refine lv_istore (lv' := [(6, .int (0 : Int32)), (0, .ref (b 0)), (2, .int x2), (3, .int x3), (4, .int x4), (5, .int x5)]) hx hb dX7_depthOf_24 hl (by decide) rfl (fun ls hl => ?_)
      exact w_X7_depthOf_L26 C hk6 ih FU x4 (0 : Int32) _ _ _ E (lv_sub hl [1, 2, 3, 4, 5, 0] rfl) hf
def f_X7_depthOf_L6 (mns : Nat → Int32) (mng : Nat → Int32) : Nat → Int32 → Int32 → Option (Int32)
  | 0, _, _ => none
  | n + 1, x2, x3 =>
  if x2 = 0 then
    some (x3)
  else
    f_X7_depthOf_L16 mns mng x2 x3 (fun x2 x3 => f_X7_depthOf_L6 mns mng n x2 x3) FU (0 : Int32) (0 : Int32)
set_option maxHeartbeats 4000000 in
set_option maxRecDepth 100000 in
theorem w_X7_depthOf_L6 {p : Program} {l : Launch} {e : Env} {s : State} {m : MethodId} {args : Array Value} {below : List Frame} {meth : Method} {c : Code} {A : Nat → Prop} {D : va_G} {cI cJ cZ : ClassId} {b : Nat → Nat} {mth : Int32} {mlo : Int32} {mre : Int32} {mpr : Int32} {mto : Int32} {mim : Int64} {mdi : Int64} {mow : Int64} {mit : Int64} {mvl : Nat → Int32} {mhs : Nat → Int32} {mns : Nat → Int32} {mby : Nat → Int32} {mng : Nat → Int32} {mnu : Nat → Int32} {mnd : Nat → Int32} {mbg : Nat → Int32} {mbu : Nat → Int32} {mbd : Nat → Int32} {mlg : Nat → Int32} {mly : Nat → Int32} {mll : Nat → Int64} {mld : Nat → Int64} {mpg : Nat → Int32} {mpu : Nat → Int32} {mpl : Nat → Int64} {mtd : Int64} {mti : Int64} {mwt : Nat → Int64} {mch : Nat → Int64} (C : gC p s m args meth c cX7_depthOf 7 (some .int) wsX7_depthOf RX7 A) {o : Int32} :
    ∀ (n : Nat) (x2 : Int32) (x3 : Int32) (H : Heap) (locs : List Loc) (ls : Array Slot), vE s A D (gT cI cJ cZ) (mW b cI cJ cZ mth mlo mre mpr mto mim mdi mow mit mvl mhs mns mby mng mnu mnd mbg mbu mbd mlg mly mll mld mpg mpu mpl mtd mti mwt mch) H locs → lv_has ls 7 [(0, .ref (b 0)), (2, .int x2), (3, .int x3)] → f_X7_depthOf_L6 mns mng n x2 x3 = some o → W p l e rm_X7_depthOf s m args below meth c H locs 0 0 (MQ below (gQi D (gT cI cJ cZ) A (mW b cI cJ cZ mth mlo mre mpr mto mim mdi mow mit mvl mhs mns mby mng mnu mnd mbg mbu mbd mlg mly mll mld mpg mpu mpl mtd mti mwt mch) o) args s 0 0 A) (F0 m 6 ls []) := by
  obtain ⟨hx, hb, hr, hml, hown, hts, hlocks, hN, hA⟩ := id C
  intro n
  induction n with
  | zero =>
    intro x2 x3 H locs ls E hl hf
    rw [f_X7_depthOf_L6] at hf
    cases hf
  | succ n ih =>
    intro x2 x3 H locs ls E hl hf
    rw [f_X7_depthOf_L6] at hf
    refine lv_iload_n hx hb dX7_depthOf_6 rfl (lv_at hl 1 rfl) ?_
    refine lv_if_eq (tgt := 88) hx hb dX7_depthOf_7 (by decide) (fun c1 => ?_) (fun c1 => ?_)
    · rw [if_pos c1] at hf
      refine lv_iload_n hx hb dX7_depthOf_88 rfl (lv_at hl 2 rfl) ?_
      obtain rfl := Option.some.inj hf
      exact g_iret C E dX7_depthOf_89
    · rw [if_neg c1] at hf
      refine lv_iconst (v := 0) hx hb dX7_depthOf_10 (by decide) ?_
      refine lv_istore (lv' := [(4, .int (0 : Int32)), (0, .ref (b 0)), (2, .int x2), (3, .int x3)]) hx hb dX7_depthOf_11 hl (by decide) rfl (fun ls hl => ?_)
      refine lv_iconst (v := 0) hx hb dX7_depthOf_13 (by decide) ?_
      refine lv_istore (lv' := [(5, .int (0 : Int32)), (4, .int (0 : Int32)), (0, .ref (b 0)), (2, .int x2), (3, .int x3)]) hx hb dX7_depthOf_14 hl (by decide) rfl (fun ls hl => ?_)
      exact w_X7_depthOf_L16 C ih FU (0 : Int32) (0 : Int32) _ _ _ E (lv_sub hl [2, 3, 4, 1, 0] rfl) hf
def f_X7_depthOf (mns : Nat → Int32) (mng : Nat → Int32) (x1 : Int32) : Option (Int32) :=
  f_X7_depthOf_L6 mns mng FU ((1 : Int32) <<< (x1 &&& 31)) (-1 : Int32)
set_option maxHeartbeats 4000000 in
set_option maxRecDepth 100000 in
theorem c_X7_depthOf {l : Launch} {D : va_G} {cI cJ cZ : ClassId} {b : Nat → Nat} {sz : Nat} {mth : Int32} {mlo : Int32} {mre : Int32} {mpr : Int32} {mto : Int32} {mim : Int64} {mdi : Int64} {mow : Int64} {mit : Int64} {mvl : Nat → Int32} {mhs : Nat → Int32} {mns : Nat → Int32} {mby : Nat → Int32} {mng : Nat → Int32} {mnu : Nat → Int32} {mnd : Nat → Int32} {mbg : Nat → Int32} {mbu : Nat → Int32} {mbd : Nat → Int32} {mlg : Nat → Int32} {mly : Nat → Int32} {mll : Nat → Int64} {mld : Nat → Int64} {mpg : Nat → Int32} {mpu : Nat → Int32} {mpl : Nat → Int64} {mtd : Int64} {mti : Int64} {mwt : Nat → Int64} {mch : Nat → Int64} {x1 : Int32} {o : Int32} (hf : f_X7_depthOf mns mng x1 = some o) : gMi l yX7_depthOf wsX7_depthOf rm_X7_depthOf D (gT cI cJ cZ) (mW b cI cJ cZ mth mlo mre mpr mto mim mdi mow mit mvl mhs mns mby mng mnu mnd mbg mbu mbd mlg mly mll mld mpg mpu mpl mtd mti mwt mch) (mW b cI cJ cZ mth mlo mre mpr mto mim mdi mow mit mvl mhs mns mby mng mnu mnd mbg mbu mbd mlg mly mll mld mpg mpu mpl mtd mti mwt mch) sz [.ref (b 0), .int x1] o := by
  refine g_of (cc := cX7_depthOf) (maxL := 7) (ret := (some .int)) (by decide) rfl (Nat.le_of_ble_eq_true rfl) ?_
  intro p e s m below meth c A ls hAe C hl E
  rw [← hAe]
  obtain ⟨hx, hb, hr, hml, hown, hts, hlocks, hN, hA⟩ := id C
  have hl : lv_has ls 7 [(0, .ref (b 0)), (1, .int x1)] := hl
  have E : vE s A D (gT cI cJ cZ) (mW b cI cJ cZ mth mlo mre mpr mto mim mdi mow mit mvl mhs mns mby mng mnu mnd mbg mbu mbd mlg mly mll mld mpg mpu mpl mtd mti mwt mch) s.heap [] := E
  rw [f_X7_depthOf] at hf
  refine lv_iconst (v := 1) hx hb dX7_depthOf_0 (by decide) ?_
  refine lv_iload_n hx hb dX7_depthOf_1 rfl (lv_at hl 1 rfl) ?_
  refine lv_ishl hx hb dX7_depthOf_2 ?_
  refine lv_istore_n (lv' := [(2, .int ((1 : Int32) <<< (x1 &&& 31))), (0, .ref (b 0)), (1, .int x1)]) hx hb dX7_depthOf_3 rfl hl (by decide) rfl (fun ls hl => ?_)
  refine lv_iconst (v := -1) hx hb dX7_depthOf_4 (by decide) ?_
  refine lv_istore_n (lv' := [(3, .int (-1 : Int32)), (2, .int ((1 : Int32) <<< (x1 &&& 31))), (0, .ref (b 0)), (1, .int x1)]) hx hb dX7_depthOf_5 rfl hl (by decide) rfl (fun ls hl => ?_)
  exact w_X7_depthOf_L6 C  FU ((1 : Int32) <<< (x1 &&& 31)) (-1 : Int32) _ _ _ E (lv_sub hl [2, 1, 0] rfl) hf
