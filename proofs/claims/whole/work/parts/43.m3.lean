abbrev rm_X7_amountOf : Room := { frames := 0, cells := 0, slots := 0, locals := 0 }
theorem hd_X7_amountOf : yX7_amountOf.cls ≠ "java/lang/invoke/MethodHandle" ∧ yX7_amountOf.cls ≠ "java/lang/invoke/VarHandle" ∧ (parseMethodDescriptor yX7_amountOf.desc).map (fun d => d.parameters.length) = some 3 := by decide +kernel
def f_X7_amountOf (mbu : Nat → Int32) (mbd : Nat → Int32) (x1 : Int32) (x2 : Int32) (x3 : Int64) : Option (Int64) :=
  if x2 = 0 then
    some (x3)
  else
    ck ((((2 : Int32) * x1) + x2) - (1 : Int32)) 24 <|
    ck ((((2 : Int32) * x1) + x2) - (1 : Int32)) 24 <|
    nzL ((mbd ((((2 : Int32) * x1) + x2) - (1 : Int32)).toNatClampNeg).toInt64) <|
    some (((x3 * (mbu ((((2 : Int32) * x1) + x2) - (1 : Int32)).toNatClampNeg).toInt64) / (mbd ((((2 : Int32) * x1) + x2) - (1 : Int32)).toNatClampNeg).toInt64))
set_option maxHeartbeats 4000000 in
set_option maxRecDepth 100000 in
theorem c_X7_amountOf {l : Launch} {D : va_G} {cI cJ cZ : ClassId} {b : Nat → Nat} {sz : Nat} {mth : Int32} {mlo : Int32} {mre : Int32} {mpr : Int32} {mto : Int32} {mim : Int64} {mdi : Int64} {mow : Int64} {mit : Int64} {mvl : Nat → Int32} {mhs : Nat → Int32} {mns : Nat → Int32} {mby : Nat → Int32} {mng : Nat → Int32} {mnu : Nat → Int32} {mnd : Nat → Int32} {mbg : Nat → Int32} {mbu : Nat → Int32} {mbd : Nat → Int32} {mlg : Nat → Int32} {mly : Nat → Int32} {mll : Nat → Int64} {mld : Nat → Int64} {mpg : Nat → Int32} {mpu : Nat → Int32} {mpl : Nat → Int64} {mtd : Int64} {mti : Int64} {mwt : Nat → Int64} {mch : Nat → Int64} {x1 : Int32} {x2 : Int32} {x3 : Int64} {o : Int64} (hf : f_X7_amountOf mbu mbd x1 x2 x3 = some o) : gMl l yX7_amountOf wsX7_amountOf rm_X7_amountOf D (gT cI cJ cZ) (mW b cI cJ cZ mth mlo mre mpr mto mim mdi mow mit mvl mhs mns mby mng mnu mnd mbg mbu mbd mlg mly mll mld mpg mpu mpl mtd mti mwt mch) (mW b cI cJ cZ mth mlo mre mpr mto mim mdi mow mit mvl mhs mns mby mng mnu mnd mbg mbu mbd mlg mly mll mld mpg mpu mpl mtd mti mwt mch) sz [.ref (b 0), .int x1, .int x2, .long x3] o := by
  refine g_of (cc := cX7_amountOf) (maxL := 5) (ret := (some .long)) (by decide) rfl (Nat.le_of_ble_eq_true rfl) ?_
  intro p e s m below meth c A ls hAe C hl E
  rw [← hAe]
  obtain ⟨hx, hb, hr, hml, hown, hts, hlocks, hN, hA⟩ := id C
  have hl : lv_has ls 5 [(0, .ref (b 0)), (1, .int x1), (2, .int x2), (3, .long x3)] := hl
  have E : vE s A D (gT cI cJ cZ) (mW b cI cJ cZ mth mlo mre mpr mto mim mdi mow mit mvl mhs mns mby mng mnu mnd mbg mbu mbd mlg mly mll mld mpg mpu mpl mtd mti mwt mch) s.heap [] := E
  rw [f_X7_amountOf] at hf
  refine lv_iload_n hx hb dX7_amountOf_0 rfl (lv_at hl 2 rfl) ?_
  refine lv_if_ne (tgt := 8) hx hb dX7_amountOf_1 (by decide) (fun c1 => ?_) (fun c1 => ?_)
  · rw [if_neg c1] at hf
    refine lv_lload_n hx hb dX7_amountOf_8 rfl (lv_at hl 3 rfl) ?_
    refine lv_aload_n hx hb dX7_amountOf_9 rfl (lv_at hl 0 rfl) ?_
    refine g_get C E 0 17 (fun _ h => List.mem_cons_of_mem _ (List.mem_append_right _ h)) rfl rfl (by decide) (List.mem_of_getElem? (i := 1) rfl) rfl rfl dX7_amountOf_10 ?_
    refine lv_iconst (v := 2) hx hb dX7_amountOf_13 (by decide) ?_
    refine lv_iload_n hx hb dX7_amountOf_14 rfl (lv_at hl 1 rfl) ?_
    refine lv_imul hx hb dX7_amountOf_15 ?_
    refine lv_iload_n hx hb dX7_amountOf_16 rfl (lv_at hl 2 rfl) ?_
    refine lv_iadd hx hb dX7_amountOf_17 ?_
    refine lv_iconst (v := 1) hx hb dX7_amountOf_18 (by decide) ?_
    refine lv_isub hx hb dX7_amountOf_19 ?_
    obtain ⟨h2, hf⟩ := ck_some hf
    refine g_iald C E 9 rfl h2 dX7_amountOf_20 ?_
    refine lv_i2l hx hb dX7_amountOf_21 rfl ?_
    refine lv_lmul hx hb dX7_amountOf_22 ?_
    refine lv_aload_n hx hb dX7_amountOf_23 rfl (lv_at hl 0 rfl) ?_
    refine g_get C E 0 18 (fun _ h => List.mem_cons_of_mem _ (List.mem_append_right _ h)) rfl rfl (by decide) (List.mem_of_getElem? (i := 2) rfl) rfl rfl dX7_amountOf_24 ?_
    refine lv_iconst (v := 2) hx hb dX7_amountOf_27 (by decide) ?_
    refine lv_iload_n hx hb dX7_amountOf_28 rfl (lv_at hl 1 rfl) ?_
    refine lv_imul hx hb dX7_amountOf_29 ?_
    refine lv_iload_n hx hb dX7_amountOf_30 rfl (lv_at hl 2 rfl) ?_
    refine lv_iadd hx hb dX7_amountOf_31 ?_
    refine lv_iconst (v := 1) hx hb dX7_amountOf_32 (by decide) ?_
    refine lv_isub hx hb dX7_amountOf_33 ?_
    obtain ⟨h3, hf⟩ := ck_some hf
    refine g_iald C E 10 rfl h3 dX7_amountOf_34 ?_
    refine lv_i2l hx hb dX7_amountOf_35 rfl ?_
    obtain ⟨h4, hf⟩ := nzL_some hf
    refine lv_ldiv hx hb dX7_amountOf_36 h4 ?_
    obtain rfl := Option.some.inj hf
    exact g_lret C E dX7_amountOf_37
  · rw [if_pos c1] at hf
    refine lv_lload_n hx hb dX7_amountOf_4 rfl (lv_at hl 3 rfl) ?_
    refine lv_goto (tgt := 37) hx hb dX7_amountOf_5 (by decide) ?_
    obtain rfl := Option.some.inj hf
    exact g_lret C E dX7_amountOf_37
abbrev rm_X7_goodOf : Room := { frames := 0, cells := 0, slots := 0, locals := 0 }
theorem hd_X7_goodOf : yX7_goodOf.cls ≠ "java/lang/invoke/MethodHandle" ∧ yX7_goodOf.cls ≠ "java/lang/invoke/VarHandle" ∧ (parseMethodDescriptor yX7_goodOf.desc).map (fun d => d.parameters.length) = some 2 := by decide +kernel
def f_X7_goodOf (mbg : Nat → Int32) (x1 : Int32) (x2 : Int32) : Option (Int32) :=
  if x2 = 0 then
    some (x1)
  else
    ck ((((2 : Int32) * x1) + x2) - (1 : Int32)) 24 <|
    some ((mbg ((((2 : Int32) * x1) + x2) - (1 : Int32)).toNatClampNeg))
set_option maxHeartbeats 4000000 in
set_option maxRecDepth 100000 in
theorem c_X7_goodOf {l : Launch} {D : va_G} {cI cJ cZ : ClassId} {b : Nat → Nat} {sz : Nat} {mth : Int32} {mlo : Int32} {mre : Int32} {mpr : Int32} {mto : Int32} {mim : Int64} {mdi : Int64} {mow : Int64} {mit : Int64} {mvl : Nat → Int32} {mhs : Nat → Int32} {mns : Nat → Int32} {mby : Nat → Int32} {mng : Nat → Int32} {mnu : Nat → Int32} {mnd : Nat → Int32} {mbg : Nat → Int32} {mbu : Nat → Int32} {mbd : Nat → Int32} {mlg : Nat → Int32} {mly : Nat → Int32} {mll : Nat → Int64} {mld : Nat → Int64} {mpg : Nat → Int32} {mpu : Nat → Int32} {mpl : Nat → Int64} {mtd : Int64} {mti : Int64} {mwt : Nat → Int64} {mch : Nat → Int64} {x1 : Int32} {x2 : Int32} {o : Int32} (hf : f_X7_goodOf mbg x1 x2 = some o) : gMi l yX7_goodOf wsX7_goodOf rm_X7_goodOf D (gT cI cJ cZ) (mW b cI cJ cZ mth mlo mre mpr mto mim mdi mow mit mvl mhs mns mby mng mnu mnd mbg mbu mbd mlg mly mll mld mpg mpu mpl mtd mti mwt mch) (mW b cI cJ cZ mth mlo mre mpr mto mim mdi mow mit mvl mhs mns mby mng mnu mnd mbg mbu mbd mlg mly mll mld mpg mpu mpl mtd mti mwt mch) sz [.ref (b 0), .int x1, .int x2] o := by
  refine g_of (cc := cX7_goodOf) (maxL := 3) (ret := (some .int)) (by decide) rfl (Nat.le_of_ble_eq_true rfl) ?_
  intro p e s m below meth c A ls hAe C hl E
  rw [← hAe]
  obtain ⟨hx, hb, hr, hml, hown, hts, hlocks, hN, hA⟩ := id C
  have hl : lv_has ls 3 [(0, .ref (b 0)), (1, .int x1), (2, .int x2)] := hl
  have E : vE s A D (gT cI cJ cZ) (mW b cI cJ cZ mth mlo mre mpr mto mim mdi mow mit mvl mhs mns mby mng mnu mnd mbg mbu mbd mlg mly mll mld mpg mpu mpl mtd mti mwt mch) s.heap [] := E
  rw [f_X7_goodOf] at hf
  refine lv_iload_n hx hb dX7_goodOf_0 rfl (lv_at hl 2 rfl) ?_
  refine lv_if_ne (tgt := 8) hx hb dX7_goodOf_1 (by decide) (fun c1 => ?_) (fun c1 => ?_)
  · rw [if_neg c1] at hf
    refine lv_aload_n hx hb dX7_goodOf_8 rfl (lv_at hl 0 rfl) ?_
    refine g_get C E 0 16 (fun _ h => List.mem_cons_of_mem _ (List.mem_append_right _ h)) rfl rfl (by decide) (List.mem_of_getElem? (i := 1) rfl) rfl rfl dX7_goodOf_9 ?_
    refine lv_iconst (v := 2) hx hb dX7_goodOf_12 (by decide) ?_
    refine lv_iload_n hx hb dX7_goodOf_13 rfl (lv_at hl 1 rfl) ?_
    refine lv_imul hx hb dX7_goodOf_14 ?_
    refine lv_iload_n hx hb dX7_goodOf_15 rfl (lv_at hl 2 rfl) ?_
    refine lv_iadd hx hb dX7_goodOf_16 ?_
    refine lv_iconst (v := 1) hx hb dX7_goodOf_17 (by decide) ?_
    refine lv_isub hx hb dX7_goodOf_18 ?_
    obtain ⟨h2, hf⟩ := ck_some hf
    refine g_iald C E 8 rfl h2 dX7_goodOf_19 ?_
    obtain rfl := Option.some.inj hf
    exact g_iret C E dX7_goodOf_20
  · rw [if_pos c1] at hf
    refine lv_iload_n hx hb dX7_goodOf_4 rfl (lv_at hl 1 rfl) ?_
    refine lv_goto (tgt := 20) hx hb dX7_goodOf_5 (by decide) ?_
    obtain rfl := Option.some.inj hf
    exact g_iret C E dX7_goodOf_20
abbrev rm_X7_share : Room := { frames := 0, cells := 0, slots := 0, locals := 0 }
theorem hd_X7_share : yX7_share.cls ≠ "java/lang/invoke/MethodHandle" ∧ yX7_share.cls ≠ "java/lang/invoke/VarHandle" ∧ (parseMethodDescriptor yX7_share.desc).map (fun d => d.parameters.length) = some 3 := by decide +kernel
def f_X7_share_L48 (mwt : Nat → Int64) (x1 : Int32) (x2 : Int32) (x3 : Int64) (x5 : Int64) : Nat → Int64 → Int32 → Int32 → Option (Int64)
  | 0, _, _, _ => none
  | n + 1, x7, x9, x10 =>
  if x2 ≤ x10 then
    ck x1 3 <|
    nzL x5 <|
    if 0 ≤ (lg_cmp x9.toInt64 x7) then
      some ((((x3 * (mwt x1.toNatClampNeg)) / x5) + (0 : Int64)))
    else
      some ((((x3 * (mwt x1.toNatClampNeg)) / x5) + (1 : Int64)))
  else
    ck x10 3 <|
    nzL x5 <|
    ck x10 3 <|
    nzL x5 <|
    ck x1 3 <|
    nzL x5 <|
    if 0 < (lg_cmp (((x3 * (mwt x10.toNatClampNeg)) - (x3 * (mwt x10.toNatClampNeg)) / x5 * x5) - ((x3 * (mwt x1.toNatClampNeg)) - (x3 * (mwt x1.toNatClampNeg)) / x5 * x5)) (0 : Int64)) then
      f_X7_share_L48 mwt x1 x2 x3 x5 n (x7 - ((x3 * (mwt x10.toNatClampNeg)) / x5)) (x9 + (1 : Int32)) (x10 + 1)
    else
      if (lg_cmp (((x3 * (mwt x10.toNatClampNeg)) - (x3 * (mwt x10.toNatClampNeg)) / x5 * x5) - ((x3 * (mwt x1.toNatClampNeg)) - (x3 * (mwt x1.toNatClampNeg)) / x5 * x5)) (0 : Int64)) = 0 then
        if x1 ≤ x10 then
          f_X7_share_L48 mwt x1 x2 x3 x5 n (x7 - ((x3 * (mwt x10.toNatClampNeg)) / x5)) (x9 + (0 : Int32)) (x10 + 1)
        else
          f_X7_share_L48 mwt x1 x2 x3 x5 n (x7 - ((x3 * (mwt x10.toNatClampNeg)) / x5)) (x9 + (1 : Int32)) (x10 + 1)
      else
        f_X7_share_L48 mwt x1 x2 x3 x5 n (x7 - ((x3 * (mwt x10.toNatClampNeg)) / x5)) (x9 + (0 : Int32)) (x10 + 1)
set_option maxHeartbeats 4000000 in
set_option maxRecDepth 100000 in
theorem w_X7_share_L48 {p : Program} {l : Launch} {e : Env} {s : State} {m : MethodId} {args : Array Value} {below : List Frame} {meth : Method} {c : Code} {A : Nat → Prop} {D : va_G} {cI cJ cZ : ClassId} {b : Nat → Nat} {mth : Int32} {mlo : Int32} {mre : Int32} {mpr : Int32} {mto : Int32} {mim : Int64} {mdi : Int64} {mow : Int64} {mit : Int64} {mvl : Nat → Int32} {mhs : Nat → Int32} {mns : Nat → Int32} {mby : Nat → Int32} {mng : Nat → Int32} {mnu : Nat → Int32} {mnd : Nat → Int32} {mbg : Nat → Int32} {mbu : Nat → Int32} {mbd : Nat → Int32} {mlg : Nat → Int32} {mly : Nat → Int32} {mll : Nat → Int64} {mld : Nat → Int64} {mpg : Nat → Int32} {mpu : Nat → Int32} {mpl : Nat → Int64} {mtd : Int64} {mti : Int64} {mwt : Nat → Int64} {mch : Nat → Int64} (C : gC p s m args meth c cX7_share 13 (some .long) wsX7_share RX7 A) {x1 : Int32} {x2 : Int32} {x3 : Int64} {x5 : Int64} {o : Int64} :
    ∀ (n : Nat) (x7 : Int64) (x9 : Int32) (x10 : Int32) (H : Heap) (locs : List Loc) (ls : Array Slot), vE s A D (gT cI cJ cZ) (mW b cI cJ cZ mth mlo mre mpr mto mim mdi mow mit mvl mhs mns mby mng mnu mnd mbg mbu mbd mlg mly mll mld mpg mpu mpl mtd mti mwt mch) H locs → lv_has ls 13 [(0, .ref (b 0)), (1, .int x1), (2, .int x2), (3, .long x3), (5, .long x5), (7, .long x7), (9, .int x9), (10, .int x10)] → f_X7_share_L48 mwt x1 x2 x3 x5 n x7 x9 x10 = some o → W p l e rm_X7_share s m args below meth c H locs 0 0 (MQ below (gQl D (gT cI cJ cZ) A (mW b cI cJ cZ mth mlo mre mpr mto mim mdi mow mit mvl mhs mns mby mng mnu mnd mbg mbu mbd mlg mly mll mld mpg mpu mpl mtd mti mwt mch) o) args s 0 0 A) (F0 m 48 ls []) := by
  obtain ⟨hx, hb, hr, hml, hown, hts, hlocks, hN, hA⟩ := id C
  intro n
  induction n with
  | zero =>
    intro x7 x9 x10 H locs ls E hl hf
    rw [f_X7_share_L48] at hf
    cases hf
  | succ n ih =>
    intro x7 x9 x10 H locs ls E hl hf
    rw [f_X7_share_L48] at hf
    refine lv_iload hx hb dX7_share_48 (lv_at hl 7 rfl) ?_
    refine lv_iload_n hx hb dX7_share_50 rfl (lv_at hl 2 rfl) ?_
    refine lv_icmp_ge (tgt := 133) hx hb dX7_share_51 (by decide) (fun c1 => ?_) (fun c1 => ?_)
    · rw [if_pos c1] at hf
      refine lv_lload_n hx hb dX7_share_133 rfl (lv_at hl 3 rfl) ?_
      refine lv_aload_n hx hb dX7_share_134 rfl (lv_at hl 0 rfl) ?_
      refine g_get C E 0 28 (fun _ h => List.mem_cons_of_mem _ (List.mem_append_right _ h)) rfl rfl (by decide) (List.mem_of_getElem? (i := 1) rfl) rfl rfl dX7_share_135 ?_
      refine lv_iload_n hx hb dX7_share_138 rfl (lv_at hl 1 rfl) ?_
      obtain ⟨h2, hf⟩ := ck_some hf
      refine g_lald C E 18 rfl h2 dX7_share_139 ?_
      refine lv_lmul hx hb dX7_share_140 ?_
      refine lv_lload hx hb dX7_share_141 (lv_at hl 4 rfl) ?_
      obtain ⟨h3, hf⟩ := nzL_some hf
      refine lv_ldiv hx hb dX7_share_143 h3 ?_
      refine lv_iload hx hb dX7_share_144 (lv_at hl 6 rfl) ?_
      refine lv_i2l hx hb dX7_share_146 rfl ?_
      refine lv_lload hx hb dX7_share_147 (lv_at hl 5 rfl) ?_
      refine W.lcmp hx hb dX7_share_149 ?_
      refine lv_if_ge (tgt := 157) hx hb dX7_share_150 (by decide) (fun c4 => ?_) (fun c4 => ?_)
      · rw [if_pos c4] at hf
        refine lv_lconst (v := 0) hx hb dX7_share_157 (by decide) ?_
        refine lv_ladd hx hb dX7_share_158 ?_
        obtain rfl := Option.some.inj hf
        exact g_lret C E dX7_share_159
      · rw [if_neg c4] at hf
        refine lv_lconst (v := 1) hx hb dX7_share_153 (by decide) ?_
        refine lv_goto (tgt := 158) hx hb dX7_share_154 (by decide) ?_
        refine lv_ladd hx hb dX7_share_158 ?_
        obtain rfl := Option.some.inj hf
        exact g_lret C E dX7_share_159
    · rw [if_neg c1] at hf
      refine lv_lload hx hb dX7_share_54 (lv_at hl 5 rfl) ?_
      refine lv_lload_n hx hb dX7_share_56 rfl (lv_at hl 3 rfl) ?_
      refine lv_aload_n hx hb dX7_share_57 rfl (lv_at hl 0 rfl) ?_
      refine g_get C E 0 28 (fun _ h => List.mem_cons_of_mem _ (List.mem_append_right _ h)) rfl rfl (by decide) (List.mem_of_getElem? (i := 1) rfl) rfl rfl dX7_share_58 ?_
      refine lv_iload hx hb dX7_share_61 (lv_at hl 7 rfl) ?_
      obtain ⟨h5, hf⟩ := ck_some hf
      refine g_lald C E 18 rfl h5 dX7_share_63 ?_
      refine lv_lmul hx hb dX7_share_64 ?_
      refine lv_lload hx hb dX7_share_65 (lv_at hl 4 rfl) ?_
      obtain ⟨h6, hf⟩ := nzL_some hf
      refine lv_ldiv hx hb dX7_share_67 h6 ?_
      refine lv_lsub hx hb dX7_share_68 ?_
      refine lv_lstore (lv' := [(7, .long (x7 - ((x3 * (mwt x10.toNatClampNeg)) / x5))), (0, .ref (b 0)), (1, .int x1), (2, .int x2), (3, .long x3), (5, .long x5), (9, .int x9), (10, .int x10)]) hx hb dX7_share_69 hl (by decide) rfl (fun ls hl => ?_)
      refine lv_lload_n hx hb dX7_share_71 rfl (lv_at hl 4 rfl) ?_
      refine lv_aload_n hx hb dX7_share_72 rfl (lv_at hl 1 rfl) ?_
      refine g_get C E 0 28 (fun _ h => List.mem_cons_of_mem _ (List.mem_append_right _ h)) rfl rfl (by decide) (List.mem_of_getElem? (i := 1) rfl) rfl rfl dX7_share_73 ?_
      refine lv_iload hx hb dX7_share_76 (lv_at hl 7 rfl) ?_
      obtain ⟨h7, hf⟩ := ck_some hf
      refine g_lald C E 18 rfl h7 dX7_share_78 ?_
      refine lv_lmul hx hb dX7_share_79 ?_
      refine lv_lload hx hb dX7_share_80 (lv_at hl 5 rfl) ?_
      obtain ⟨h8, hf⟩ := nzL_some hf
      refine lv_lrem hx hb dX7_share_82 h8 ?_
      refine lv_lload_n hx hb dX7_share_83 rfl (lv_at hl 4 rfl) ?_
      refine lv_aload_n hx hb dX7_share_84 rfl (lv_at hl 1 rfl) ?_
      refine g_get C E 0 28 (fun _ h => List.mem_cons_of_mem _ (List.mem_append_right _ h)) rfl rfl (by decide) (List.mem_of_getElem? (i := 1) rfl) rfl rfl dX7_share_85 ?_
      refine lv_iload_n hx hb dX7_share_88 rfl (lv_at hl 2 rfl) ?_
      obtain ⟨h9, hf⟩ := ck_some hf
      refine g_lald C E 18 rfl h9 dX7_share_89 ?_
      refine lv_lmul hx hb dX7_share_90 ?_
      refine lv_lload hx hb dX7_share_91 (lv_at hl 5 rfl) ?_
      obtain ⟨h10, hf⟩ := nzL_some hf
      refine lv_lrem hx hb dX7_share_93 h10 ?_
      refine lv_lsub hx hb dX7_share_94 ?_
      refine lv_lstore (lv' := [(11, .long (((x3 * (mwt x10.toNatClampNeg)) - (x3 * (mwt x10.toNatClampNeg)) / x5 * x5) - ((x3 * (mwt x1.toNatClampNeg)) - (x3 * (mwt x1.toNatClampNeg)) / x5 * x5))), (7, .long (x7 - ((x3 * (mwt x10.toNatClampNeg)) / x5))), (0, .ref (b 0)), (1, .int x1), (2, .int x2), (3, .long x3), (5, .long x5), (9, .int x9), (10, .int x10)]) hx hb dX7_share_95 hl (by decide) rfl (fun ls hl => ?_)
      refine lv_iload hx hb dX7_share_97 (lv_at hl 7 rfl) ?_
      refine lv_lload hx hb dX7_share_99 (lv_at hl 0 rfl) ?_
      refine lv_lconst (v := 0) hx hb dX7_share_101 (by decide) ?_
      refine W.lcmp hx hb dX7_share_102 ?_
      refine lv_if_gt (tgt := 119) hx hb dX7_share_103 (by decide) (fun c11 => ?_) (fun c11 => ?_)
      · rw [if_pos c11] at hf
        refine lv_iconst (v := 1) hx hb dX7_share_119 (by decide) ?_
        refine lv_goto (tgt := 124) hx hb dX7_share_120 (by decide) ?_
        refine lv_iadd hx hb dX7_share_124 ?_
        refine lv_istore (lv' := [(9, .int (x9 + (1 : Int32))), (11, .long (((x3 * (mwt x10.toNatClampNeg)) - (x3 * (mwt x10.toNatClampNeg)) / x5 * x5) - ((x3 * (mwt x1.toNatClampNeg)) - (x3 * (mwt x1.toNatClampNeg)) / x5 * x5))), (7, .long (x7 - ((x3 * (mwt x10.toNatClampNeg)) / x5))), (0, .ref (b 0)), (1, .int x1), (2, .int x2), (3, .long x3), (5, .long x5), (10, .int x10)]) hx hb dX7_share_125 hl (by decide) rfl (fun ls hl => ?_)
        refine lv_iinc (v := (x10 + 1)) (lv' := [(10, .int (x10 + 1)), (9, .int (x9 + (1 : Int32))), (11, .long (((x3 * (mwt x10.toNatClampNeg)) - (x3 * (mwt x10.toNatClampNeg)) / x5 * x5) - ((x3 * (mwt x1.toNatClampNeg)) - (x3 * (mwt x1.toNatClampNeg)) / x5 * x5))), (7, .long (x7 - ((x3 * (mwt x10.toNatClampNeg)) / x5))), (0, .ref (b 0)), (1, .int x1), (2, .int x2), (3, .long x3), (5, .long x5)]) hx hb dX7_share_127 hl (k := 8) rfl rfl (by decide) rfl (fun ls hl => ?_)
        refine lv_goto (tgt := 48) hx hb dX7_share_130 (by decide) ?_
        exact ih (x7 - ((x3 * (mwt x10.toNatClampNeg)) / x5)) (x9 + (1 : Int32)) (x10 + 1) _ _ _ E (lv_sub hl [4, 5, 6, 7, 8, 3, 1, 0] rfl) hf
      · rw [if_neg c11] at hf
        refine lv_lload hx hb dX7_share_106 (lv_at hl 0 rfl) ?_
        refine lv_lconst (v := 0) hx hb dX7_share_108 (by decide) ?_
        refine W.lcmp hx hb dX7_share_109 ?_
        refine lv_if_ne (tgt := 123) hx hb dX7_share_110 (by decide) (fun c12 => ?_) (fun c12 => ?_)
        · rw [if_neg c12] at hf
          refine lv_iconst (v := 0) hx hb dX7_share_123 (by decide) ?_
          refine lv_iadd hx hb dX7_share_124 ?_
          refine lv_istore (lv' := [(9, .int (x9 + (0 : Int32))), (11, .long (((x3 * (mwt x10.toNatClampNeg)) - (x3 * (mwt x10.toNatClampNeg)) / x5 * x5) - ((x3 * (mwt x1.toNatClampNeg)) - (x3 * (mwt x1.toNatClampNeg)) / x5 * x5))), (7, .long (x7 - ((x3 * (mwt x10.toNatClampNeg)) / x5))), (0, .ref (b 0)), (1, .int x1), (2, .int x2), (3, .long x3), (5, .long x5), (10, .int x10)]) hx hb dX7_share_125 hl (by decide) rfl (fun ls hl => ?_)
          refine lv_iinc (v := (x10 + 1)) (lv' := [(10, .int (x10 + 1)), (9, .int (x9 + (0 : Int32))), (11, .long (((x3 * (mwt x10.toNatClampNeg)) - (x3 * (mwt x10.toNatClampNeg)) / x5 * x5) - ((x3 * (mwt x1.toNatClampNeg)) - (x3 * (mwt x1.toNatClampNeg)) / x5 * x5))), (7, .long (x7 - ((x3 * (mwt x10.toNatClampNeg)) / x5))), (0, .ref (b 0)), (1, .int x1), (2, .int x2), (3, .long x3), (5, .long x5)]) hx hb dX7_share_127 hl (k := 8) rfl rfl (by decide) rfl (fun ls hl => ?_)
          refine lv_goto (tgt := 48) hx hb dX7_share_130 (by decide) ?_
          exact ih (x7 - ((x3 * (mwt x10.toNatClampNeg)) / x5)) (x9 + (0 : Int32)) (x10 + 1) _ _ _ E (lv_sub hl [4, 5, 6, 7, 8, 3, 1, 0] rfl) hf
        · rw [if_pos c12] at hf
          refine lv_iload hx hb dX7_share_113 (lv_at hl 8 rfl) ?_
          refine lv_iload_n hx hb dX7_share_115 rfl (lv_at hl 3 rfl) ?_
          refine lv_icmp_ge (tgt := 123) hx hb dX7_share_116 (by decide) (fun c13 => ?_) (fun c13 => ?_)
          · rw [if_pos c13] at hf
            refine lv_iconst (v := 0) hx hb dX7_share_123 (by decide) ?_
            refine lv_iadd hx hb dX7_share_124 ?_
            refine lv_istore (lv' := [(9, .int (x9 + (0 : Int32))), (11, .long (((x3 * (mwt x10.toNatClampNeg)) - (x3 * (mwt x10.toNatClampNeg)) / x5 * x5) - ((x3 * (mwt x1.toNatClampNeg)) - (x3 * (mwt x1.toNatClampNeg)) / x5 * x5))), (7, .long (x7 - ((x3 * (mwt x10.toNatClampNeg)) / x5))), (0, .ref (b 0)), (1, .int x1), (2, .int x2), (3, .long x3), (5, .long x5), (10, .int x10)]) hx hb dX7_share_125 hl (by decide) rfl (fun ls hl => ?_)
            refine lv_iinc (v := (x10 + 1)) (lv' := [(10, .int (x10 + 1)), (9, .int (x9 + (0 : Int32))), (11, .long (((x3 * (mwt x10.toNatClampNeg)) - (x3 * (mwt x10.toNatClampNeg)) / x5 * x5) - ((x3 * (mwt x1.toNatClampNeg)) - (x3 * (mwt x1.toNatClampNeg)) / x5 * x5))), (7, .long (x7 - ((x3 * (mwt x10.toNatClampNeg)) / x5))), (0, .ref (b 0)), (1, .int x1), (2, .int x2), (3, .long x3), (5, .long x5)]) hx hb dX7_share_127 hl (k := 8) rfl rfl (by decide) rfl (fun ls hl => ?_)
            refine lv_goto (tgt := 48) hx hb dX7_share_130 (by decide) ?_
            exact ih (x7 - ((x3 * (mwt x10.toNatClampNeg)) / x5)) (x9 + (0 : Int32)) (x10 + 1) _ _ _ E (lv_sub hl [4, 5, 6, 7, 8, 3, 1, 0] rfl) hf
          · rw [if_neg c13] at hf
            refine lv_iconst (v := 1) hx hb dX7_share_119 (by decide) ?_
            refine lv_goto (tgt := 124) hx hb dX7_share_120 (by decide) ?_
            refine lv_iadd hx hb dX7_share_124 ?_
            refine lv_istore (lv' := [(9, .int (x9 + (1 : Int32))), (11, .long (((x3 * (mwt x10.toNatClampNeg)) - (x3 * (mwt x10.toNatClampNeg)) / x5 * x5) - ((x3 * (mwt x1.toNatClampNeg)) - (x3 * (mwt x1.toNatClampNeg)) / x5 * x5))), (7, .long (x7 - ((x3 * (mwt x10.toNatClampNeg)) / x5))), (0, .ref (b 0)), (1, .int x1), (2, .int x2), (3, .long x3), (5, .long x5), (10, .int x10)]) hx hb dX7_share_125 hl (by decide) rfl (fun ls hl => ?_)
            refine lv_iinc (v := (x10 + 1)) (lv' := [(10, .int (x10 + 1)), (9, .int (x9 + (1 : Int32))), (11, .long (((x3 * (mwt x10.toNatClampNeg)) - (x3 * (mwt x10.toNatClampNeg)) / x5 * x5) - ((x3 * (mwt x1.toNatClampNeg)) - (x3 * (mwt x1.toNatClampNeg)) / x5 * x5))), (7, .long (x7 - ((x3 * (mwt x10.toNatClampNeg)) / x5))), (0, .ref (b 0)), (1, .int x1), (2, .int x2), (3, .long x3), (5, .long x5)]) hx hb dX7_share_127 hl (k := 8) rfl rfl (by decide) rfl (fun ls hl => ?_)
            refine lv_goto (tgt := 48) hx hb dX7_share_130 (by decide) ?_
            exact ih (x7 - ((x3 * (mwt x10.toNatClampNeg)) / x5)) (x9 + (1 : Int32)) (x10 + 1) _ _ _ E (lv_sub hl [4, 5, 6, 7, 8, 3, 1, 0] rfl) hf
def f_X7_share (mwt : Nat → Int64) (x1 : Int32) (x2 : Int32) (x3 : Int64) : Option (Int64) :=
  ck (0 : Int32) 3 <|
  ck (1 : Int32) 3 <|
  ck (2 : Int32) 3 <|
  if (lg_cmp (((mwt (0 : Int32).toNatClampNeg) + (mwt (1 : Int32).toNatClampNeg)) + (mwt (2 : Int32).toNatClampNeg)) (0 : Int64)) = 0 then
    if x1 = 0 then
      some (x3)
    else
      some ((0 : Int64))
  else
    f_X7_share_L48 mwt x1 x2 x3 (((mwt (0 : Int32).toNatClampNeg) + (mwt (1 : Int32).toNatClampNeg)) + (mwt (2 : Int32).toNatClampNeg)) FU x3 (0 : Int32) (0 : Int32)
set_option maxHeartbeats 4000000 in
set_option maxRecDepth 100000 in
theorem c_X7_share {l : Launch} {D : va_G} {cI cJ cZ : ClassId} {b : Nat → Nat} {sz : Nat} {mth : Int32} {mlo : Int32} {mre : Int32} {mpr : Int32} {mto : Int32} {mim : Int64} {mdi : Int64} {mow : Int64} {mit : Int64} {mvl : Nat → Int32} {mhs : Nat → Int32} {mns : Nat → Int32} {mby : Nat → Int32} {mng : Nat → Int32} {mnu : Nat → Int32} {mnd : Nat → Int32} {mbg : Nat → Int32} {mbu : Nat → Int32} {mbd : Nat → Int32} {mlg : Nat → Int32} {mly : Nat → Int32} {mll : Nat → Int64} {mld : Nat → Int64} {mpg : Nat → Int32} {mpu : Nat → Int32} {mpl : Nat → Int64} {mtd : Int64} {mti : Int64} {mwt : Nat → Int64} {mch : Nat → Int64} {x1 : Int32} {x2 : Int32} {x3 : Int64} {o : Int64} (hf : f_X7_share mwt x1 x2 x3 = some o) : gMl l yX7_share wsX7_share rm_X7_share D (gT cI cJ cZ) (mW b cI cJ cZ mth mlo mre mpr mto mim mdi mow mit mvl mhs mns mby mng mnu mnd mbg mbu mbd mlg mly mll mld mpg mpu mpl mtd mti mwt mch) (mW b cI cJ cZ mth mlo mre mpr mto mim mdi mow mit mvl mhs mns mby mng mnu mnd mbg mbu mbd mlg mly mll mld mpg mpu mpl mtd mti mwt mch) sz [.ref (b 0), .int x1, .int x2, .long x3] o := by
  refine g_of (cc := cX7_share) (maxL := 13) (ret := (some .long)) (by decide) rfl (Nat.le_of_ble_eq_true rfl) ?_
  intro p e s m below meth c A ls hAe C hl E
  rw [← hAe]
  obtain ⟨hx, hb, hr, hml, hown, hts, hlocks, hN, hA⟩ := id C
  have hl : lv_has ls 13 [(0, .ref (b 0)), (1, .int x1), (2, .int x2), (3, .long x3)] := hl
  have E : vE s A D (gT cI cJ cZ) (mW b cI cJ cZ mth mlo mre mpr mto mim mdi mow mit mvl mhs mns mby mng mnu mnd mbg mbu mbd mlg mly mll mld mpg mpu mpl mtd mti mwt mch) s.heap [] := E
  rw [f_X7_share] at hf
  refine lv_aload_n hx hb dX7_share_0 rfl (lv_at hl 0 rfl) ?_
  refine g_get C E 0 28 (fun _ h => List.mem_cons_of_mem _ (List.mem_append_right _ h)) rfl rfl (by decide) (List.mem_of_getElem? (i := 1) rfl) rfl rfl dX7_share_1 ?_
  refine lv_iconst (v := 0) hx hb dX7_share_4 (by decide) ?_
  obtain ⟨h1, hf⟩ := ck_some hf
  refine g_lald C E 18 rfl h1 dX7_share_5 ?_
  refine lv_aload_n hx hb dX7_share_6 rfl (lv_at hl 0 rfl) ?_
  refine g_get C E 0 28 (fun _ h => List.mem_cons_of_mem _ (List.mem_append_right _ h)) rfl rfl (by decide) (List.mem_of_getElem? (i := 1) rfl) rfl rfl dX7_share_7 ?_
  refine lv_iconst (v := 1) hx hb dX7_share_10 (by decide) ?_
  obtain ⟨h2, hf⟩ := ck_some hf
  refine g_lald C E 18 rfl h2 dX7_share_11 ?_
  refine lv_ladd hx hb dX7_share_12 ?_
  refine lv_aload_n hx hb dX7_share_13 rfl (lv_at hl 0 rfl) ?_
  refine g_get C E 0 28 (fun _ h => List.mem_cons_of_mem _ (List.mem_append_right _ h)) rfl rfl (by decide) (List.mem_of_getElem? (i := 1) rfl) rfl rfl dX7_share_14 ?_
  refine lv_iconst (v := 2) hx hb dX7_share_17 (by decide) ?_
  obtain ⟨h3, hf⟩ := ck_some hf
  refine g_lald C E 18 rfl h3 dX7_share_18 ?_
  refine lv_ladd hx hb dX7_share_19 ?_
  refine lv_lstore (lv' := [(5, .long (((mwt (0 : Int32).toNatClampNeg) + (mwt (1 : Int32).toNatClampNeg)) + (mwt (2 : Int32).toNatClampNeg))), (0, .ref (b 0)), (1, .int x1), (2, .int x2), (3, .long x3)]) hx hb dX7_share_20 hl (by decide) rfl (fun ls hl => ?_)
  refine lv_lload hx hb dX7_share_22 (lv_at hl 0 rfl) ?_
  refine lv_lconst (v := 0) hx hb dX7_share_24 (by decide) ?_
  refine W.lcmp hx hb dX7_share_25 ?_
  refine lv_if_ne (tgt := 39) hx hb dX7_share_26 (by decide) (fun c4 => ?_) (fun c4 => ?_)
  · rw [if_neg c4] at hf
    refine lv_lload_n hx hb dX7_share_39 rfl (lv_at hl 4 rfl) ?_
    refine lv_lstore (lv' := [(7, .long x3), (5, .long (((mwt (0 : Int32).toNatClampNeg) + (mwt (1 : Int32).toNatClampNeg)) + (mwt (2 : Int32).toNatClampNeg))), (0, .ref (b 0)), (1, .int x1), (2, .int x2), (3, .long x3)]) hx hb dX7_share_40 hl (by decide) rfl (fun ls hl => ?_)
    refine lv_iconst (v := 0) hx hb dX7_share_42 (by decide) ?_
    refine lv_istore (lv' := [(9, .int (0 : Int32)), (7, .long x3), (5, .long (((mwt (0 : Int32).toNatClampNeg) + (mwt (1 : Int32).toNatClampNeg)) + (mwt (2 : Int32).toNatClampNeg))), (0, .ref (b 0)), (1, .int x1), (2, .int x2), (3, .long x3)]) hx hb dX7_share_43 hl (by decide) rfl (fun ls hl => ?_)
    refine lv_iconst (v := 0) hx hb dX7_share_45 (by decide) ?_
    refine lv_istore (lv' := [(10, .int (0 : Int32)), (9, .int (0 : Int32)), (7, .long x3), (5, .long (((mwt (0 : Int32).toNatClampNeg) + (mwt (1 : Int32).toNatClampNeg)) + (mwt (2 : Int32).toNatClampNeg))), (0, .ref (b 0)), (1, .int x1), (2, .int x2), (3, .long x3)]) hx hb dX7_share_46 hl (by decide) rfl (fun ls hl => ?_)
    exact w_X7_share_L48 C  FU x3 (0 : Int32) (0 : Int32) _ _ _ E (lv_sub hl [4, 5, 6, 7, 3, 2, 1, 0] rfl) hf
  · rw [if_pos c4] at hf
    refine lv_iload_n hx hb dX7_share_29 rfl (lv_at hl 2 rfl) ?_
    refine lv_if_ne (tgt := 37) hx hb dX7_share_30 (by decide) (fun c5 => ?_) (fun c5 => ?_)
    · rw [if_neg c5] at hf
      refine lv_lconst (v := 0) hx hb dX7_share_37 (by decide) ?_
      obtain rfl := Option.some.inj hf
      exact g_lret C E dX7_share_38
    · rw [if_pos c5] at hf
      refine lv_lload_n hx hb dX7_share_33 rfl (lv_at hl 4 rfl) ?_
      refine lv_goto (tgt := 38) hx hb dX7_share_34 (by decide) ?_
      obtain rfl := Option.some.inj hf
      exact g_lret C E dX7_share_38
abbrev rm_X7_made : Room := { frames := 2, cells := 0, slots := 0, locals := 55 }
theorem hd_X7_made : yX7_made.cls ≠ "java/lang/invoke/MethodHandle" ∧ yX7_made.cls ≠ "java/lang/invoke/VarHandle" ∧ (parseMethodDescriptor yX7_made.desc).map (fun d => d.parameters.length) = some 3 := by decide +kernel
def f_X7_made_L339 (mth : Int32) (mto : Int32) (mbg : Nat → Int32) (mbu : Nat → Int32) (mbd : Nat → Int32) (mtd : Int64) (mti : Int64) (mwt : Nat → Int64) (x1 : Int32) (x2 : Int32) (x4 : Int32) (x7 : Int64) : Nat → (Int32) → (Nat → Int32) → (Nat → Int32) → (Nat → Int64) → (Nat → Int64) → Int32 → Option (Int32 × (Int32) × (Int32) × (Nat → Int32) × (Nat → Int32) × (Nat → Int64) × (Nat → Int64) × (Int64) × (Int64) × (Nat → Int64))
  | 0, _, _, _, _, _, _ => none
  | n + 1, mlo, mlg, mly, mll, mld, x9 =>
  if x4 ≤ x9 then
    some ((1 : Int32), mth, mlo, mlg, mly, mll, mld, mtd, mti, mwt)
  else
    (f_X7_amountOf mbu mbd x1 x9 x2.toInt64).bind fun o2 =>
    if (lg_cmp o2 (0 : Int64)) ≤ 0 then
      f_X7_made_L339 mth mto mbg mbu mbd mtd mti mwt x1 x2 x4 x7 n mlo mlg mly mll mld (x9 + 1)
    else
      (f_X7_goodOf mbg x1 x9).bind fun o5 =>
      (f_X7_amountOf mbu mbd x1 x9 x2.toInt64).bind fun o7 =>
      (f_X7_share mwt x9 x4 x7).bind fun o9 =>
      (f_X7_newLot mlo mto mlg mly mll mld o5 o7 o9).bind fun o11 =>
      f_X7_made_L339 mth mto mbg mbu mbd mtd mti mwt x1 x2 x4 x7 n o11.2.1 o11.2.2.1 o11.2.2.2.1 o11.2.2.2.2.1 o11.2.2.2.2.2 (x9 + 1)
set_option maxHeartbeats 4000000 in
set_option maxRecDepth 100000 in
theorem w_X7_made_L339 {p : Program} {l : Launch} {e : Env} {s : State} {m : MethodId} {args : Array Value} {below : List Frame} {meth : Method} {c : Code} {A : Nat → Prop} {D : va_G} {cI cJ cZ : ClassId} {b : Nat → Nat} {mth : Int32} {mre : Int32} {mpr : Int32} {mto : Int32} {mim : Int64} {mdi : Int64} {mow : Int64} {mit : Int64} {mvl : Nat → Int32} {mhs : Nat → Int32} {mns : Nat → Int32} {mby : Nat → Int32} {mng : Nat → Int32} {mnu : Nat → Int32} {mnd : Nat → Int32} {mbg : Nat → Int32} {mbu : Nat → Int32} {mbd : Nat → Int32} {mpg : Nat → Int32} {mpu : Nat → Int32} {mpl : Nat → Int64} {mtd : Int64} {mti : Int64} {mwt : Nat → Int64} {mch : Nat → Int64} (C : gC p s m args meth c cX7_made 11 (some .int) wsX7_made RX7 A) {x1 : Int32} {x2 : Int32} {x4 : Int32} {x7 : Int64} {o : Int32 × (Int32) × (Int32) × (Nat → Int32) × (Nat → Int32) × (Nat → Int64) × (Nat → Int64) × (Int64) × (Int64) × (Nat → Int64)} :
    ∀ (n : Nat) (mlo : Int32) (mlg : Nat → Int32) (mly : Nat → Int32) (mll : Nat → Int64) (mld : Nat → Int64) (x9 : Int32) (H : Heap) (locs : List Loc) (ls : Array Slot), vE s A D (gT cI cJ cZ) (mW b cI cJ cZ mth mlo mre mpr mto mim mdi mow mit mvl mhs mns mby mng mnu mnd mbg mbu mbd mlg mly mll mld mpg mpu mpl mtd mti mwt mch) H locs → lv_has ls 11 [(0, .ref (b 0)), (1, .int x1), (2, .int x2), (4, .int x4), (7, .long x7), (9, .int x9)] → f_X7_made_L339 mth mto mbg mbu mbd mtd mti mwt x1 x2 x4 x7 n mlo mlg mly mll mld x9 = some o → W p l e rm_X7_made s m args below meth c H locs 0 0 (MQ below (gQi D (gT cI cJ cZ) A (mW b cI cJ cZ o.2.1 o.2.2.1 mre mpr mto mim mdi mow mit mvl mhs mns mby mng mnu mnd mbg mbu mbd o.2.2.2.1 o.2.2.2.2.1 o.2.2.2.2.2.1 o.2.2.2.2.2.2.1 mpg mpu mpl o.2.2.2.2.2.2.2.1 o.2.2.2.2.2.2.2.2.1 o.2.2.2.2.2.2.2.2.2 mch) o.1) args s 0 0 A) (F0 m 339 ls []) := by
  obtain ⟨hx, hb, hr, hml, hown, hts, hlocks, hN, hA⟩ := id C
  intro n
  induction n with
  | zero =>
    intro mlo mlg mly mll mld x9 H locs ls E hl hf
    rw [f_X7_made_L339] at hf
    cases hf
  | succ n ih =>
    intro mlo mlg mly mll mld x9 H locs ls E hl hf
    rw [f_X7_made_L339] at hf
    refine lv_iload hx hb dX7_made_339 (lv_at hl 5 rfl) ?_
    refine lv_iload hx hb dX7_made_341 (lv_at hl 3 rfl) ?_
    refine lv_icmp_ge (tgt := 402) hx hb dX7_made_343 (by decide) (fun c1 => ?_) (fun c1 => ?_)
    · rw [if_pos c1] at hf
      refine lv_iconst (v := 1) hx hb dX7_made_402 (by decide) ?_
      obtain rfl := Option.some.inj hf
      exact g_iret C E dX7_made_403
    · rw [if_neg c1] at hf
      refine lv_aload_n hx hb dX7_made_346 rfl (lv_at hl 0 rfl) ?_
      refine lv_iload_n hx hb dX7_made_347 rfl (lv_at hl 1 rfl) ?_
      refine lv_iload hx hb dX7_made_348 (lv_at hl 5 rfl) ?_
      refine lv_iload_n hx hb dX7_made_350 rfl (lv_at hl 2 rfl) ?_
      refine lv_i2l hx hb dX7_made_351 rfl ?_
      obtain ⟨o2, e3, hf⟩ := bd_some hf
      refine g_calll (w' := (mW b cI cJ cZ mth mlo mre mpr mto mim mdi mow mit mvl mhs mns mby mng mnu mnd mbg mbu mbd mlg mly mll mld mpg mpu mpl mtd mti mwt mch)) C E (g_runV (As := [.int x1, .int x9, .long x2.toInt64]) (rest := []) C E (c_X7_amountOf e3) (cwV 3 hts gX7_made_X7_amountOf rfl rfl rfl ⟨rfl, hd_X7_amountOf⟩ ⟨Nat.le_of_ble_eq_true rfl, Nat.le_of_ble_eq_true rfl⟩) (q0 := 0) (ci := 7) rfl rfl rfl rfl hl.1 rfl (Nat.le_of_ble_eq_true rfl) dX7_made_352 ⟨Nat.le_of_ble_eq_true rfl, Nat.le_of_ble_eq_true rfl⟩) (fun H locs E => ?_)
      refine lv_lconst (v := 0) hx hb dX7_made_355 (by decide) ?_
      refine W.lcmp hx hb dX7_made_356 ?_
      refine lv_if_le (tgt := 393) hx hb dX7_made_357 (by decide) (fun c4 => ?_) (fun c4 => ?_)
      · rw [if_pos c4] at hf
        refine lv_iconst (v := -1) hx hb dX7_made_393 (by decide) ?_
        refine lv_istore (lv' := [(10, .int (-1 : Int32)), (0, .ref (b 0)), (1, .int x1), (2, .int x2), (4, .int x4), (7, .long x7), (9, .int x9)]) hx hb dX7_made_394 hl (by decide) rfl (fun ls hl => ?_)
        refine lv_iinc (v := (x9 + 1)) (lv' := [(9, .int (x9 + 1)), (10, .int (-1 : Int32)), (0, .ref (b 0)), (1, .int x1), (2, .int x2), (4, .int x4), (7, .long x7)]) hx hb dX7_made_396 hl (k := 6) rfl rfl (by decide) rfl (fun ls hl => ?_)
        refine lv_goto (tgt := 339) hx hb dX7_made_399 (by decide) ?_
        exact ih mlo mlg mly mll mld (x9 + 1) _ _ _ E (lv_sub hl [2, 3, 4, 5, 6, 0] rfl) hf
      · rw [if_neg c4] at hf
        refine lv_aload_n hx hb dX7_made_360 rfl (lv_at hl 0 rfl) ?_
        refine lv_aload_n hx hb dX7_made_361 rfl (lv_at hl 0 rfl) ?_
        refine lv_iload_n hx hb dX7_made_362 rfl (lv_at hl 1 rfl) ?_
        refine lv_iload hx hb dX7_made_363 (lv_at hl 5 rfl) ?_
        obtain ⟨o5, e6, hf⟩ := bd_some hf
        refine g_calli (w' := (mW b cI cJ cZ mth mlo mre mpr mto mim mdi mow mit mvl mhs mns mby mng mnu mnd mbg mbu mbd mlg mly mll mld mpg mpu mpl mtd mti mwt mch)) C E (g_runV (As := [.int x1, .int x9]) (rest := [.ref (b 0)]) C E (c_X7_goodOf e6) (cwV 2 hts gX7_made_X7_goodOf rfl rfl rfl ⟨rfl, hd_X7_goodOf⟩ ⟨Nat.le_of_ble_eq_true rfl, Nat.le_of_ble_eq_true rfl⟩) (q0 := 0) (ci := 7) rfl rfl rfl rfl hl.1 rfl (Nat.le_of_ble_eq_true rfl) dX7_made_365 ⟨Nat.le_of_ble_eq_true rfl, Nat.le_of_ble_eq_true rfl⟩) (fun H locs E => ?_)
        refine lv_aload_n hx hb dX7_made_368 rfl (lv_at hl 0 rfl) ?_
        refine lv_iload_n hx hb dX7_made_369 rfl (lv_at hl 1 rfl) ?_
        refine lv_iload hx hb dX7_made_370 (lv_at hl 5 rfl) ?_
        refine lv_iload_n hx hb dX7_made_372 rfl (lv_at hl 2 rfl) ?_
        refine lv_i2l hx hb dX7_made_373 rfl ?_
        obtain ⟨o7, e8, hf⟩ := bd_some hf
        refine g_calll (w' := (mW b cI cJ cZ mth mlo mre mpr mto mim mdi mow mit mvl mhs mns mby mng mnu mnd mbg mbu mbd mlg mly mll mld mpg mpu mpl mtd mti mwt mch)) C E (g_runV (As := [.int x1, .int x9, .long x2.toInt64]) (rest := [.int o5, .ref (b 0)]) C E (c_X7_amountOf e8) (cwV 3 hts gX7_made_X7_amountOf rfl rfl rfl ⟨rfl, hd_X7_amountOf⟩ ⟨Nat.le_of_ble_eq_true rfl, Nat.le_of_ble_eq_true rfl⟩) (q0 := 0) (ci := 7) rfl rfl rfl rfl hl.1 rfl (Nat.le_of_ble_eq_true rfl) dX7_made_374 ⟨Nat.le_of_ble_eq_true rfl, Nat.le_of_ble_eq_true rfl⟩) (fun H locs E => ?_)
        refine lv_aload_n hx hb dX7_made_377 rfl (lv_at hl 0 rfl) ?_
        refine lv_iload hx hb dX7_made_378 (lv_at hl 5 rfl) ?_
        refine lv_iload hx hb dX7_made_380 (lv_at hl 3 rfl) ?_
        refine lv_lload hx hb dX7_made_382 (lv_at hl 4 rfl) ?_
        obtain ⟨o9, e10, hf⟩ := bd_some hf
        refine g_calll (w' := (mW b cI cJ cZ mth mlo mre mpr mto mim mdi mow mit mvl mhs mns mby mng mnu mnd mbg mbu mbd mlg mly mll mld mpg mpu mpl mtd mti mwt mch)) C E (g_runV (As := [.int x9, .int x4, .long x7]) (rest := [.long o7, .int o5, .ref (b 0)]) C E (c_X7_share e10) (cwV 3 hts gX7_made_X7_share rfl rfl rfl ⟨rfl, hd_X7_share⟩ ⟨Nat.le_of_ble_eq_true rfl, Nat.le_of_ble_eq_true rfl⟩) (q0 := 0) (ci := 7) rfl rfl rfl rfl hl.1 rfl (Nat.le_of_ble_eq_true rfl) dX7_made_384 ⟨Nat.le_of_ble_eq_true rfl, Nat.le_of_ble_eq_true rfl⟩) (fun H locs E => ?_)
        obtain ⟨o11, e12, hf⟩ := bd_some hf
        refine g_calli (w' := (mW b cI cJ cZ mth o11.2.1 mre mpr mto mim mdi mow mit mvl mhs mns mby mng mnu mnd mbg mbu mbd o11.2.2.1 o11.2.2.2.1 o11.2.2.2.2.1 o11.2.2.2.2.2 mpg mpu mpl mtd mti mwt mch)) C E (g_runV (As := [.int o5, .long o7, .long o9]) (rest := []) C E (c_X7_newLot e12) (cwV 3 hts gX7_made_X7_newLot rfl rfl rfl ⟨rfl, hd_X7_newLot⟩ ⟨Nat.le_of_ble_eq_true rfl, Nat.le_of_ble_eq_true rfl⟩) (q0 := 0) (ci := 7) rfl rfl rfl rfl hl.1 rfl (Nat.le_of_ble_eq_true rfl) dX7_made_387 ⟨Nat.le_of_ble_eq_true rfl, Nat.le_of_ble_eq_true rfl⟩) (fun H locs E => ?_)
        refine lv_goto (tgt := 394) hx hb dX7_made_390 (by decide) ?_
        refine lv_istore (lv' := [(10, .int o11.1), (0, .ref (b 0)), (1, .int x1), (2, .int x2), (4, .int x4), (7, .long x7), (9, .int x9)]) hx hb dX7_made_394 hl (by decide) rfl (fun ls hl => ?_)
        refine lv_iinc (v := (x9 + 1)) (lv' := [(9, .int (x9 + 1)), (10, .int o11.1), (0, .ref (b 0)), (1, .int x1), (2, .int x2), (4, .int x4), (7, .long x7)]) hx hb dX7_made_396 hl (k := 6) rfl rfl (by decide) rfl (fun ls hl => ?_)
        refine lv_goto (tgt := 339) hx hb dX7_made_399 (by decide) ?_
        exact ih o11.2.1 o11.2.2.1 o11.2.2.2.1 o11.2.2.2.2.1 o11.2.2.2.2.2 (x9 + 1) _ _ _ E (lv_sub hl [2, 3, 4, 5, 6, 0] rfl) hf
def f_X7_made_L275 (mth : Int32) (mlo : Int32) (mto : Int32) (mvl : Nat → Int32) (mbg : Nat → Int32) (mbu : Nat → Int32) (mbd : Nat → Int32) (mlg : Nat → Int32) (mly : Nat → Int32) (mll : Nat → Int64) (mld : Nat → Int64) (mtd : Int64) (mti : Int64) (x1 : Int32) (x2 : Int32) (x3 : Int32) (x4 : Int32) (x7 : Int64) : Nat → (Nat → Int64) → Int32 → Option (Int32 × (Int32) × (Int32) × (Nat → Int32) × (Nat → Int32) × (Nat → Int64) × (Nat → Int64) × (Int64) × (Int64) × (Nat → Int64))
  | 0, _, _ => none
  | n + 1, mwt, x9 =>
  if (3 : Int32) ≤ x9 then
    f_X7_made_L339 mth mto mbg mbu mbd mtd mti mwt x1 x2 x4 x7 FU mlo mlg mly mll mld (0 : Int32)
  else
    if x4 ≤ x9 then
      ck x9 3 <|
      f_X7_made_L275 mth mlo mto mvl mbg mbu mbd mlg mly mll mld mtd mti x1 x2 x3 x4 x7 n (vp_updL mwt x9.toNatClampNeg (0 : Int64)) (x9 + 1)
    else
      (f_X7_amountOf mbu mbd x1 x9 x2.toInt64).bind fun o4 =>
      if x3 = 0 then
        ck x9 3 <|
        f_X7_made_L275 mth mlo mto mvl mbg mbu mbd mlg mly mll mld mtd mti x1 x2 x3 x4 x7 n (vp_updL mwt x9.toNatClampNeg (o4 * (1 : Int64))) (x9 + 1)
      else
        (f_X7_goodOf mbg x1 x9).bind fun o8 =>
        ck o8 12 <|
        ck x9 3 <|
        f_X7_made_L275 mth mlo mto mvl mbg mbu mbd mlg mly mll mld mtd mti x1 x2 x3 x4 x7 n (vp_updL mwt x9.toNatClampNeg (o4 * (mvl o8.toNatClampNeg).toInt64)) (x9 + 1)
set_option maxHeartbeats 4000000 in
set_option maxRecDepth 100000 in
theorem w_X7_made_L275 {p : Program} {l : Launch} {e : Env} {s : State} {m : MethodId} {args : Array Value} {below : List Frame} {meth : Method} {c : Code} {A : Nat → Prop} {D : va_G} {cI cJ cZ : ClassId} {b : Nat → Nat} {mth : Int32} {mlo : Int32} {mre : Int32} {mpr : Int32} {mto : Int32} {mim : Int64} {mdi : Int64} {mow : Int64} {mit : Int64} {mvl : Nat → Int32} {mhs : Nat → Int32} {mns : Nat → Int32} {mby : Nat → Int32} {mng : Nat → Int32} {mnu : Nat → Int32} {mnd : Nat → Int32} {mbg : Nat → Int32} {mbu : Nat → Int32} {mbd : Nat → Int32} {mlg : Nat → Int32} {mly : Nat → Int32} {mll : Nat → Int64} {mld : Nat → Int64} {mpg : Nat → Int32} {mpu : Nat → Int32} {mpl : Nat → Int64} {mtd : Int64} {mti : Int64} {mch : Nat → Int64} (C : gC p s m args meth c cX7_made 11 (some .int) wsX7_made RX7 A) {x1 : Int32} {x2 : Int32} {x3 : Int32} {x4 : Int32} {x7 : Int64} {o : Int32 × (Int32) × (Int32) × (Nat → Int32) × (Nat → Int32) × (Nat → Int64) × (Nat → Int64) × (Int64) × (Int64) × (Nat → Int64)} :
    ∀ (n : Nat) (mwt : Nat → Int64) (x9 : Int32) (H : Heap) (locs : List Loc) (ls : Array Slot), vE s A D (gT cI cJ cZ) (mW b cI cJ cZ mth mlo mre mpr mto mim mdi mow mit mvl mhs mns mby mng mnu mnd mbg mbu mbd mlg mly mll mld mpg mpu mpl mtd mti mwt mch) H locs → lv_has ls 11 [(0, .ref (b 0)), (1, .int x1), (2, .int x2), (3, .int x3), (4, .int x4), (7, .long x7), (9, .int x9)] → f_X7_made_L275 mth mlo mto mvl mbg mbu mbd mlg mly mll mld mtd mti x1 x2 x3 x4 x7 n mwt x9 = some o → W p l e rm_X7_made s m args below meth c H locs 0 0 (MQ below (gQi D (gT cI cJ cZ) A (mW b cI cJ cZ o.2.1 o.2.2.1 mre mpr mto mim mdi mow mit mvl mhs mns mby mng mnu mnd mbg mbu mbd o.2.2.2.1 o.2.2.2.2.1 o.2.2.2.2.2.1 o.2.2.2.2.2.2.1 mpg mpu mpl o.2.2.2.2.2.2.2.1 o.2.2.2.2.2.2.2.2.1 o.2.2.2.2.2.2.2.2.2 mch) o.1) args s 0 0 A) (F0 m 275 ls []) := by
  obtain ⟨hx, hb, hr, hml, hown, hts, hlocks, hN, hA⟩ := id C
  intro n
  induction n with
  | zero =>
    intro mwt x9 H locs ls E hl hf
    rw [f_X7_made_L275] at hf
    cases hf
  | succ n ih =>
    intro mwt x9 H locs ls E hl hf
    rw [f_X7_made_L275] at hf
    refine lv_iload hx hb dX7_made_275 (lv_at hl 6 rfl) ?_
    refine lv_iconst (v := 3) hx hb dX7_made_277 (by decide) ?_
    refine lv_icmp_ge (tgt := 336) hx hb dX7_made_278 (by decide) (fun c1 => ?_) (fun c1 => ?_)
    · rw [if_pos c1] at hf
      refine lv_iconst (v := 0) hx hb dX7_made_336 (by decide) ?_
      refine lv_istore (lv' := [(9, .int (0 : Int32)), (0, .ref (b 0)), (1, .int x1), (2, .int x2), (3, .int x3), (4, .int x4), (7, .long x7)]) hx hb dX7_made_337 hl (by decide) rfl (fun ls hl => ?_)
      exact w_X7_made_L339 C  FU mlo mlg mly mll mld (0 : Int32) _ _ _ E (lv_sub hl [1, 2, 3, 5, 6, 0] rfl) hf
    · rw [if_neg c1] at hf
      refine lv_aload_n hx hb dX7_made_281 rfl (lv_at hl 0 rfl) ?_
      refine g_get C E 0 28 (fun _ h => List.mem_cons_of_mem _ (List.mem_append_right _ h)) rfl rfl (by decide) (List.mem_of_getElem? (i := 10) rfl) rfl rfl dX7_made_282 ?_
      refine lv_iload hx hb dX7_made_285 (lv_at hl 6 rfl) ?_
      refine lv_iload hx hb dX7_made_287 (lv_at hl 6 rfl) ?_
      refine lv_iload hx hb dX7_made_289 (lv_at hl 4 rfl) ?_
      refine lv_icmp_ge (tgt := 328) hx hb dX7_made_291 (by decide) (fun c2 => ?_) (fun c2 => ?_)
      · rw [if_pos c2] at hf
        refine lv_lconst (v := 0) hx hb dX7_made_328 (by decide) ?_
        obtain ⟨h3, hf⟩ := ck_some hf
        refine g_last (w' := (mW b cI cJ cZ mth mlo mre mpr mto mim mdi mow mit mvl mhs mns mby mng mnu mnd mbg mbu mbd mlg mly mll mld mpg mpu mpl mtd mti (vp_updL mwt x9.toNatClampNeg (0 : Int64)) mch)) C E 18 rfl h3 dX7_made_329 rfl (fun H locs E => ?_)
        refine lv_iinc (v := (x9 + 1)) (lv' := [(9, .int (x9 + 1)), (0, .ref (b 0)), (1, .int x1), (2, .int x2), (3, .int x3), (4, .int x4), (7, .long x7)]) hx hb dX7_made_330 hl (k := 6) rfl rfl (by decide) rfl (fun ls hl => ?_)
        refine lv_goto (tgt := 275) hx hb dX7_made_333 (by decide) ?_
        exact ih (vp_updL mwt x9.toNatClampNeg (0 : Int64)) (x9 + 1) _ _ _ E (lv_sub hl [1, 2, 3, 4, 5, 6, 0] rfl) hf
      · rw [if_neg c2] at hf
        refine lv_aload_n hx hb dX7_made_294 rfl (lv_at hl 0 rfl) ?_
        refine lv_iload_n hx hb dX7_made_295 rfl (lv_at hl 1 rfl) ?_
        refine lv_iload hx hb dX7_made_296 (lv_at hl 6 rfl) ?_
        refine lv_iload_n hx hb dX7_made_298 rfl (lv_at hl 2 rfl) ?_
        refine lv_i2l hx hb dX7_made_299 rfl ?_
        obtain ⟨o4, e5, hf⟩ := bd_some hf
        refine g_calll (w' := (mW b cI cJ cZ mth mlo mre mpr mto mim mdi mow mit mvl mhs mns mby mng mnu mnd mbg mbu mbd mlg mly mll mld mpg mpu mpl mtd mti mwt mch)) C E (g_runV (As := [.int x1, .int x9, .long x2.toInt64]) (rest := [.int x9, .ref (b 18)]) C E (c_X7_amountOf e5) (cwV 3 hts gX7_made_X7_amountOf rfl rfl rfl ⟨rfl, hd_X7_amountOf⟩ ⟨Nat.le_of_ble_eq_true rfl, Nat.le_of_ble_eq_true rfl⟩) (q0 := 0) (ci := 7) rfl rfl rfl rfl hl.1 rfl (Nat.le_of_ble_eq_true rfl) dX7_made_300 ⟨Nat.le_of_ble_eq_true rfl, Nat.le_of_ble_eq_true rfl⟩) (fun H locs E => ?_)
        refine lv_iload_n hx hb dX7_made_303 rfl (lv_at hl 3 rfl) ?_
        refine lv_if_eq (tgt := 323) hx hb dX7_made_304 (by decide) (fun c6 => ?_) (fun c6 => ?_)
        · rw [if_pos c6] at hf
          refine lv_lconst (v := 1) hx hb dX7_made_323 (by decide) ?_
          refine lv_lmul hx hb dX7_made_324 ?_
          refine lv_goto (tgt := 329) hx hb dX7_made_325 (by decide) ?_
          obtain ⟨h7, hf⟩ := ck_some hf
          refine g_last (w' := (mW b cI cJ cZ mth mlo mre mpr mto mim mdi mow mit mvl mhs mns mby mng mnu mnd mbg mbu mbd mlg mly mll mld mpg mpu mpl mtd mti (vp_updL mwt x9.toNatClampNeg (o4 * (1 : Int64))) mch)) C E 18 rfl h7 dX7_made_329 rfl (fun H locs E => ?_)
          refine lv_iinc (v := (x9 + 1)) (lv' := [(9, .int (x9 + 1)), (0, .ref (b 0)), (1, .int x1), (2, .int x2), (3, .int x3), (4, .int x4), (7, .long x7)]) hx hb dX7_made_330 hl (k := 6) rfl rfl (by decide) rfl (fun ls hl => ?_)
          refine lv_goto (tgt := 275) hx hb dX7_made_333 (by decide) ?_
          exact ih (vp_updL mwt x9.toNatClampNeg (o4 * (1 : Int64))) (x9 + 1) _ _ _ E (lv_sub hl [1, 2, 3, 4, 5, 6, 0] rfl) hf
        · rw [if_neg c6] at hf
          refine lv_aload_n hx hb dX7_made_307 rfl (lv_at hl 0 rfl) ?_
          refine g_get C E 0 9 (fun _ h => List.mem_cons_of_mem _ (List.mem_append_right _ h)) rfl rfl (by decide) (List.mem_of_getElem? (i := 11) rfl) rfl rfl dX7_made_308 ?_
          refine lv_aload_n hx hb dX7_made_311 rfl (lv_at hl 0 rfl) ?_
          refine lv_iload_n hx hb dX7_made_312 rfl (lv_at hl 1 rfl) ?_
          refine lv_iload hx hb dX7_made_313 (lv_at hl 6 rfl) ?_
          obtain ⟨o8, e9, hf⟩ := bd_some hf
          refine g_calli (w' := (mW b cI cJ cZ mth mlo mre mpr mto mim mdi mow mit mvl mhs mns mby mng mnu mnd mbg mbu mbd mlg mly mll mld mpg mpu mpl mtd mti mwt mch)) C E (g_runV (As := [.int x1, .int x9]) (rest := [.ref (b 1), .long o4, .int x9, .ref (b 18)]) C E (c_X7_goodOf e9) (cwV 2 hts gX7_made_X7_goodOf rfl rfl rfl ⟨rfl, hd_X7_goodOf⟩ ⟨Nat.le_of_ble_eq_true rfl, Nat.le_of_ble_eq_true rfl⟩) (q0 := 0) (ci := 7) rfl rfl rfl rfl hl.1 rfl (Nat.le_of_ble_eq_true rfl) dX7_made_315 ⟨Nat.le_of_ble_eq_true rfl, Nat.le_of_ble_eq_true rfl⟩) (fun H locs E => ?_)
          obtain ⟨h10, hf⟩ := ck_some hf
          refine g_iald C E 1 rfl h10 dX7_made_318 ?_
          refine lv_i2l hx hb dX7_made_319 rfl ?_
          refine lv_goto (tgt := 324) hx hb dX7_made_320 (by decide) ?_
          refine lv_lmul hx hb dX7_made_324 ?_
          refine lv_goto (tgt := 329) hx hb dX7_made_325 (by decide) ?_
          obtain ⟨h11, hf⟩ := ck_some hf
          refine g_last (w' := (mW b cI cJ cZ mth mlo mre mpr mto mim mdi mow mit mvl mhs mns mby mng mnu mnd mbg mbu mbd mlg mly mll mld mpg mpu mpl mtd mti (vp_updL mwt x9.toNatClampNeg (o4 * (mvl o8.toNatClampNeg).toInt64)) mch)) C E 18 rfl h11 dX7_made_329 rfl (fun H locs E => ?_)
          refine lv_iinc (v := (x9 + 1)) (lv' := [(9, .int (x9 + 1)), (0, .ref (b 0)), (1, .int x1), (2, .int x2), (3, .int x3), (4, .int x4), (7, .long x7)]) hx hb dX7_made_330 hl (k := 6) rfl rfl (by decide) rfl (fun ls hl => ?_)
          refine lv_goto (tgt := 275) hx hb dX7_made_333 (by decide) ?_
          exact ih (vp_updL mwt x9.toNatClampNeg (o4 * (mvl o8.toNatClampNeg).toInt64)) (x9 + 1) _ _ _ E (lv_sub hl [1, 2, 3, 4, 5, 6, 0] rfl) hf
def f_X7_made_L209 (mth : Int32) (mlo : Int32) (mto : Int32) (mvl : Nat → Int32) (mns : Nat → Int32) (mng : Nat → Int32) (mnu : Nat → Int32) (mnd : Nat → Int32) (mbg : Nat → Int32) (mbu : Nat → Int32) (mbd : Nat → Int32) (mlg : Nat → Int32) (mly : Nat → Int32) (mwt : Nat → Int64) (x1 : Int32) (x2 : Int32) (x3 : Int32) (x4 : Int32) : Nat → (Nat → Int64) → (Nat → Int64) → (Int64) → (Int64) → Int64 → Int32 → Option (Int32 × (Int32) × (Int32) × (Nat → Int32) × (Nat → Int32) × (Nat → Int64) × (Nat → Int64) × (Int64) × (Int64) × (Nat → Int64))
  | 0, _, _, _, _, _, _ => none
  | n + 1, mll, mld, mtd, mti, x7, x9 =>
  ck x1 12 <|
  if (((4 : Int32) * x1) + (mns x1.toNatClampNeg)) ≤ x9 then
    f_X7_made_L275 mth mlo mto mvl mbg mbu mbd mlg mly mll mld mtd mti x1 x2 x3 x4 x7 FU mwt (0 : Int32)
  else
    ck x9 48 <|
    ck x9 48 <|
    ck x9 48 <|
    (f_X7_up (x2.toInt64 * (mnu x9.toNatClampNeg).toInt64) ((mnd x9.toNatClampNeg).toInt64)).bind fun o6 =>
    (f_X7_take mlo mto mlg mly mll mld mtd mti (mng x9.toNatClampNeg) o6).bind fun o8 =>
    f_X7_made_L209 mth mlo mto mvl mns mng mnu mnd mbg mbu mbd mlg mly mwt x1 x2 x3 x4 n o8.1 o8.2.1 o8.2.2.1 o8.2.2.2 (x7 + o8.2.2.1) (x9 + 1)
set_option maxHeartbeats 4000000 in
set_option maxRecDepth 100000 in
theorem w_X7_made_L209 {p : Program} {l : Launch} {e : Env} {s : State} {m : MethodId} {args : Array Value} {below : List Frame} {meth : Method} {c : Code} {A : Nat → Prop} {D : va_G} {cI cJ cZ : ClassId} {b : Nat → Nat} {mth : Int32} {mlo : Int32} {mre : Int32} {mpr : Int32} {mto : Int32} {mim : Int64} {mdi : Int64} {mow : Int64} {mit : Int64} {mvl : Nat → Int32} {mhs : Nat → Int32} {mns : Nat → Int32} {mby : Nat → Int32} {mng : Nat → Int32} {mnu : Nat → Int32} {mnd : Nat → Int32} {mbg : Nat → Int32} {mbu : Nat → Int32} {mbd : Nat → Int32} {mlg : Nat → Int32} {mly : Nat → Int32} {mpg : Nat → Int32} {mpu : Nat → Int32} {mpl : Nat → Int64} {mwt : Nat → Int64} {mch : Nat → Int64} (C : gC p s m args meth c cX7_made 11 (some .int) wsX7_made RX7 A) {x1 : Int32} {x2 : Int32} {x3 : Int32} {x4 : Int32} {o : Int32 × (Int32) × (Int32) × (Nat → Int32) × (Nat → Int32) × (Nat → Int64) × (Nat → Int64) × (Int64) × (Int64) × (Nat → Int64)} :
    ∀ (n : Nat) (mll : Nat → Int64) (mld : Nat → Int64) (mtd : Int64) (mti : Int64) (x7 : Int64) (x9 : Int32) (H : Heap) (locs : List Loc) (ls : Array Slot), vE s A D (gT cI cJ cZ) (mW b cI cJ cZ mth mlo mre mpr mto mim mdi mow mit mvl mhs mns mby mng mnu mnd mbg mbu mbd mlg mly mll mld mpg mpu mpl mtd mti mwt mch) H locs → lv_has ls 11 [(0, .ref (b 0)), (1, .int x1), (2, .int x2), (3, .int x3), (4, .int x4), (7, .long x7), (9, .int x9)] → f_X7_made_L209 mth mlo mto mvl mns mng mnu mnd mbg mbu mbd mlg mly mwt x1 x2 x3 x4 n mll mld mtd mti x7 x9 = some o → W p l e rm_X7_made s m args below meth c H locs 0 0 (MQ below (gQi D (gT cI cJ cZ) A (mW b cI cJ cZ o.2.1 o.2.2.1 mre mpr mto mim mdi mow mit mvl mhs mns mby mng mnu mnd mbg mbu mbd o.2.2.2.1 o.2.2.2.2.1 o.2.2.2.2.2.1 o.2.2.2.2.2.2.1 mpg mpu mpl o.2.2.2.2.2.2.2.1 o.2.2.2.2.2.2.2.2.1 o.2.2.2.2.2.2.2.2.2 mch) o.1) args s 0 0 A) (F0 m 209 ls []) := by
  obtain ⟨hx, hb, hr, hml, hown, hts, hlocks, hN, hA⟩ := id C
  intro n
  induction n with
  | zero =>
    intro mll mld mtd mti x7 x9 H locs ls E hl hf
    rw [f_X7_made_L209] at hf
    cases hf
  | succ n ih =>
    intro mll mld mtd mti x7 x9 H locs ls E hl hf
    rw [f_X7_made_L209] at hf
    refine lv_iload hx hb dX7_made_209 (lv_at hl 6 rfl) ?_
    refine lv_iconst (v := 4) hx hb dX7_made_211 (by decide) ?_
    refine lv_iload_n hx hb dX7_made_212 rfl (lv_at hl 1 rfl) ?_
    refine lv_imul hx hb dX7_made_213 ?_
    refine lv_aload_n hx hb dX7_made_214 rfl (lv_at hl 0 rfl) ?_
    refine g_get C E 0 11 (fun _ h => List.mem_cons_of_mem _ (List.mem_append_right _ h)) rfl rfl (by decide) (List.mem_of_getElem? (i := 1) rfl) rfl rfl dX7_made_215 ?_
    refine lv_iload_n hx hb dX7_made_218 rfl (lv_at hl 1 rfl) ?_
    obtain ⟨h1, hf⟩ := ck_some hf
    refine g_iald C E 3 rfl h1 dX7_made_219 ?_
    refine lv_iadd hx hb dX7_made_220 ?_
    refine lv_icmp_ge (tgt := 272) hx hb dX7_made_221 (by decide) (fun c2 => ?_) (fun c2 => ?_)
    · rw [if_pos c2] at hf
      refine lv_iconst (v := 0) hx hb dX7_made_272 (by decide) ?_
      refine lv_istore (lv' := [(9, .int (0 : Int32)), (0, .ref (b 0)), (1, .int x1), (2, .int x2), (3, .int x3), (4, .int x4), (7, .long x7)]) hx hb dX7_made_273 hl (by decide) rfl (fun ls hl => ?_)
      exact w_X7_made_L275 C  FU mwt (0 : Int32) _ _ _ E (lv_sub hl [1, 2, 3, 4, 5, 6, 0] rfl) hf
    · rw [if_neg c2] at hf
      refine lv_aload_n hx hb dX7_made_224 rfl (lv_at hl 0 rfl) ?_
      refine lv_aload_n hx hb dX7_made_225 rfl (lv_at hl 0 rfl) ?_
      refine g_get C E 0 13 (fun _ h => List.mem_cons_of_mem _ (List.mem_append_right _ h)) rfl rfl (by decide) (List.mem_of_getElem? (i := 6) rfl) rfl rfl dX7_made_226 ?_
      refine lv_iload hx hb dX7_made_229 (lv_at hl 6 rfl) ?_
      obtain ⟨h3, hf⟩ := ck_some hf
      refine g_iald C E 5 rfl h3 dX7_made_231 ?_
      refine lv_iload_n hx hb dX7_made_232 rfl (lv_at hl 2 rfl) ?_
      refine lv_i2l hx hb dX7_made_233 rfl ?_
      refine lv_aload_n hx hb dX7_made_234 rfl (lv_at hl 0 rfl) ?_
      refine g_get C E 0 14 (fun _ h => List.mem_cons_of_mem _ (List.mem_append_right _ h)) rfl rfl (by decide) (List.mem_of_getElem? (i := 7) rfl) rfl rfl dX7_made_235 ?_
      refine lv_iload hx hb dX7_made_238 (lv_at hl 6 rfl) ?_
      obtain ⟨h4, hf⟩ := ck_some hf
      refine g_iald C E 6 rfl h4 dX7_made_240 ?_
      refine lv_i2l hx hb dX7_made_241 rfl ?_
      refine lv_lmul hx hb dX7_made_242 ?_
      refine lv_aload_n hx hb dX7_made_243 rfl (lv_at hl 0 rfl) ?_
      refine g_get C E 0 15 (fun _ h => List.mem_cons_of_mem _ (List.mem_append_right _ h)) rfl rfl (by decide) (List.mem_of_getElem? (i := 8) rfl) rfl rfl dX7_made_244 ?_
      refine lv_iload hx hb dX7_made_247 (lv_at hl 6 rfl) ?_
      obtain ⟨h5, hf⟩ := ck_some hf
      refine g_iald C E 7 rfl h5 dX7_made_249 ?_
      refine lv_i2l hx hb dX7_made_250 rfl ?_
      obtain ⟨o6, e7, hf⟩ := bd_some hf
      refine g_calll (w' := (mW b cI cJ cZ mth mlo mre mpr mto mim mdi mow mit mvl mhs mns mby mng mnu mnd mbg mbu mbd mlg mly mll mld mpg mpu mpl mtd mti mwt mch)) C E (g_runS (As := [.long (x2.toInt64 * (mnu x9.toNatClampNeg).toInt64), .long ((mnd x9.toNatClampNeg).toInt64)]) (rest := [.int (mng x9.toNatClampNeg), .ref (b 0)]) C E (c_X7_up e7) (va_cwS 2 hts gX7_made_X7_up rfl rfl rfl hd_X7_up ⟨Nat.le_of_ble_eq_true rfl, Nat.le_of_ble_eq_true rfl⟩) rfl hl.1 rfl (Nat.le_of_ble_eq_true rfl) dX7_made_251 ⟨Nat.le_of_ble_eq_true rfl, Nat.le_of_ble_eq_true rfl⟩) (fun H locs E => ?_)
      obtain ⟨o8, e9, hf⟩ := bd_some hf
      refine g_callv (w' := (mW b cI cJ cZ mth mlo mre mpr mto mim mdi mow mit mvl mhs mns mby mng mnu mnd mbg mbu mbd mlg mly o8.1 o8.2.1 mpg mpu mpl o8.2.2.1 o8.2.2.2 mwt mch)) C E (g_runV (As := [.int (mng x9.toNatClampNeg), .long o6]) (rest := []) C E (c_X7_take e9) (cwV 2 hts gX7_made_X7_take rfl rfl rfl ⟨rfl, hd_X7_take⟩ ⟨Nat.le_of_ble_eq_true rfl, Nat.le_of_ble_eq_true rfl⟩) (q0 := 0) (ci := 7) rfl rfl rfl rfl hl.1 rfl (Nat.le_of_ble_eq_true rfl) dX7_made_254 ⟨Nat.le_of_ble_eq_true rfl, Nat.le_of_ble_eq_true rfl⟩) (fun H locs E => ?_)
      refine lv_lload hx hb dX7_made_257 (lv_at hl 5 rfl) ?_
      refine lv_aload_n hx hb dX7_made_259 rfl (lv_at hl 0 rfl) ?_
      refine g_get C E 0 26 (fun _ h => List.mem_cons_of_mem _ (List.mem_append_right _ h)) rfl rfl (by decide) (List.mem_of_getElem? (i := 9) rfl) rfl rfl dX7_made_260 ?_
      refine lv_ladd hx hb dX7_made_263 ?_
      refine lv_lstore (lv' := [(7, .long (x7 + o8.2.2.1)), (0, .ref (b 0)), (1, .int x1), (2, .int x2), (3, .int x3), (4, .int x4), (9, .int x9)]) hx hb dX7_made_264 hl (by decide) rfl (fun ls hl => ?_)
      refine lv_iinc (v := (x9 + 1)) (lv' := [(9, .int (x9 + 1)), (7, .long (x7 + o8.2.2.1)), (0, .ref (b 0)), (1, .int x1), (2, .int x2), (3, .int x3), (4, .int x4)]) hx hb dX7_made_266 hl (k := 6) rfl rfl (by decide) rfl (fun ls hl => ?_)
      refine lv_goto (tgt := 209) hx hb dX7_made_269 (by decide) ?_
      exact ih o8.1 o8.2.1 o8.2.2.1 o8.2.2.2 (x7 + o8.2.2.1) (x9 + 1) _ _ _ E (lv_sub hl [2, 3, 4, 5, 6, 1, 0] rfl) hf
def f_X7_made_L124 (mth : Int32) (mlo : Int32) (mto : Int32) (mvl : Nat → Int32) (mns : Nat → Int32) (mng : Nat → Int32) (mnu : Nat → Int32) (mnd : Nat → Int32) (mbg : Nat → Int32) (mbu : Nat → Int32) (mbd : Nat → Int32) (mlg : Nat → Int32) (mly : Nat → Int32) (mll : Nat → Int64) (mld : Nat → Int64) (mtd : Int64) (mti : Int64) (mwt : Nat → Int64) (x1 : Int32) (x2 : Int32) (x3 : Int32) (x4 : Int32) : Nat → Int32 → Int32 → Option (Int32 × (Int32) × (Int32) × (Nat → Int32) × (Nat → Int32) × (Nat → Int64) × (Nat → Int64) × (Int64) × (Int64) × (Nat → Int64))
  | 0, _, _ => none
  | n + 1, x6, x7 =>
  ck x1 12 <|
  if (((4 : Int32) * x1) + (mns x1.toNatClampNeg)) ≤ x7 then
    if x6 = 0 then
      some ((0 : Int32), mth, mlo, mlg, mly, mll, mld, mtd, mti, mwt)
    else
      f_X7_made_L209 mth mlo mto mvl mns mng mnu mnd mbg mbu mbd mlg mly mwt x1 x2 x3 x4 FU mll mld mtd mti (0 : Int64) ((4 : Int32) * x1)
  else
    if x6 = 0 then
      f_X7_made_L124 mth mlo mto mvl mns mng mnu mnd mbg mbu mbd mlg mly mll mld mtd mti mwt x1 x2 x3 x4 n (0 : Int32) (x7 + 1)
    else
      ck x7 48 <|
      (f_X7_stock mlo mlg mll (mng x7.toNatClampNeg)).bind fun o6 =>
      ck x7 48 <|
      ck x7 48 <|
      (f_X7_up (x2.toInt64 * (mnu x7.toNatClampNeg).toInt64) ((mnd x7.toNatClampNeg).toInt64)).bind fun o10 =>
      if (lg_cmp o6 o10) < 0 then
        f_X7_made_L124 mth mlo mto mvl mns mng mnu mnd mbg mbu mbd mlg mly mll mld mtd mti mwt x1 x2 x3 x4 n (0 : Int32) (x7 + 1)
      else
        f_X7_made_L124 mth mlo mto mvl mns mng mnu mnd mbg mbu mbd mlg mly mll mld mtd mti mwt x1 x2 x3 x4 n (1 : Int32) (x7 + 1)
set_option maxHeartbeats 4000000 in
set_option maxRecDepth 100000 in
theorem w_X7_made_L124 {p : Program} {l : Launch} {e : Env} {s : State} {m : MethodId} {args : Array Value} {below : List Frame} {meth : Method} {c : Code} {A : Nat → Prop} {D : va_G} {cI cJ cZ : ClassId} {b : Nat → Nat} {mth : Int32} {mlo : Int32} {mre : Int32} {mpr : Int32} {mto : Int32} {mim : Int64} {mdi : Int64} {mow : Int64} {mit : Int64} {mvl : Nat → Int32} {mhs : Nat → Int32} {mns : Nat → Int32} {mby : Nat → Int32} {mng : Nat → Int32} {mnu : Nat → Int32} {mnd : Nat → Int32} {mbg : Nat → Int32} {mbu : Nat → Int32} {mbd : Nat → Int32} {mlg : Nat → Int32} {mly : Nat → Int32} {mll : Nat → Int64} {mld : Nat → Int64} {mpg : Nat → Int32} {mpu : Nat → Int32} {mpl : Nat → Int64} {mtd : Int64} {mti : Int64} {mwt : Nat → Int64} {mch : Nat → Int64} (C : gC p s m args meth c cX7_made 11 (some .int) wsX7_made RX7 A) {x1 : Int32} {x2 : Int32} {x3 : Int32} {x4 : Int32} {o : Int32 × (Int32) × (Int32) × (Nat → Int32) × (Nat → Int32) × (Nat → Int64) × (Nat → Int64) × (Int64) × (Int64) × (Nat → Int64)} :
    ∀ (n : Nat) (x6 : Int32) (x7 : Int32) (H : Heap) (locs : List Loc) (ls : Array Slot), vE s A D (gT cI cJ cZ) (mW b cI cJ cZ mth mlo mre mpr mto mim mdi mow mit mvl mhs mns mby mng mnu mnd mbg mbu mbd mlg mly mll mld mpg mpu mpl mtd mti mwt mch) H locs → lv_has ls 11 [(0, .ref (b 0)), (1, .int x1), (2, .int x2), (3, .int x3), (4, .int x4), (6, .int x6), (7, .int x7)] → f_X7_made_L124 mth mlo mto mvl mns mng mnu mnd mbg mbu mbd mlg mly mll mld mtd mti mwt x1 x2 x3 x4 n x6 x7 = some o → W p l e rm_X7_made s m args below meth c H locs 0 0 (MQ below (gQi D (gT cI cJ cZ) A (mW b cI cJ cZ o.2.1 o.2.2.1 mre mpr mto mim mdi mow mit mvl mhs mns mby mng mnu mnd mbg mbu mbd o.2.2.2.1 o.2.2.2.2.1 o.2.2.2.2.2.1 o.2.2.2.2.2.2.1 mpg mpu mpl o.2.2.2.2.2.2.2.1 o.2.2.2.2.2.2.2.2.1 o.2.2.2.2.2.2.2.2.2 mch) o.1) args s 0 0 A) (F0 m 124 ls []) := by
  obtain ⟨hx, hb, hr, hml, hown, hts, hlocks, hN, hA⟩ := id C
  intro n
  induction n with
  | zero =>
    intro x6 x7 H locs ls E hl hf
    rw [f_X7_made_L124] at hf
    cases hf
  | succ n ih =>
    intro x6 x7 H locs ls E hl hf
    rw [f_X7_made_L124] at hf
    refine lv_iload hx hb dX7_made_124 (lv_at hl 6 rfl) ?_
    refine lv_iconst (v := 4) hx hb dX7_made_126 (by decide) ?_
    refine lv_iload_n hx hb dX7_made_127 rfl (lv_at hl 1 rfl) ?_
    refine lv_imul hx hb dX7_made_128 ?_
    refine lv_aload_n hx hb dX7_made_129 rfl (lv_at hl 0 rfl) ?_
    refine g_get C E 0 11 (fun _ h => List.mem_cons_of_mem _ (List.mem_append_right _ h)) rfl rfl (by decide) (List.mem_of_getElem? (i := 1) rfl) rfl rfl dX7_made_130 ?_
    refine lv_iload_n hx hb dX7_made_133 rfl (lv_at hl 1 rfl) ?_
    obtain ⟨h1, hf⟩ := ck_some hf
    refine g_iald C E 3 rfl h1 dX7_made_134 ?_
    refine lv_iadd hx hb dX7_made_135 ?_
    refine lv_icmp_ge (tgt := 194) hx hb dX7_made_136 (by decide) (fun c2 => ?_) (fun c2 => ?_)
    · rw [if_pos c2] at hf
      refine lv_iload hx hb dX7_made_194 (lv_at hl 5 rfl) ?_
      refine lv_if_ne (tgt := 201) hx hb dX7_made_196 (by decide) (fun c3 => ?_) (fun c3 => ?_)
      · rw [if_neg c3] at hf
        refine lv_lconst (v := 0) hx hb dX7_made_201 (by decide) ?_
        refine lv_lstore (lv' := [(7, .long (0 : Int64)), (0, .ref (b 0)), (1, .int x1), (2, .int x2), (3, .int x3), (4, .int x4), (6, .int x6)]) hx hb dX7_made_202 hl (by decide) rfl (fun ls hl => ?_)
        refine lv_iconst (v := 4) hx hb dX7_made_204 (by decide) ?_
        refine lv_iload_n hx hb dX7_made_205 rfl (lv_at hl 2 rfl) ?_
        refine lv_imul hx hb dX7_made_206 ?_
        refine lv_istore (lv' := [(9, .int ((4 : Int32) * x1)), (7, .long (0 : Int64)), (0, .ref (b 0)), (1, .int x1), (2, .int x2), (3, .int x3), (4, .int x4), (6, .int x6)]) hx hb dX7_made_207 hl (by decide) rfl (fun ls hl => ?_)
        exact w_X7_made_L209 C  FU mll mld mtd mti (0 : Int64) ((4 : Int32) * x1) _ _ _ E (lv_sub hl [2, 3, 4, 5, 6, 1, 0] rfl) hf
      · rw [if_pos c3] at hf
        refine lv_iconst (v := 0) hx hb dX7_made_199 (by decide) ?_
        obtain rfl := Option.some.inj hf
        exact g_iret C E dX7_made_200
    · rw [if_neg c2] at hf
      refine lv_iload hx hb dX7_made_139 (lv_at hl 5 rfl) ?_
      refine lv_if_eq (tgt := 185) hx hb dX7_made_141 (by decide) (fun c4 => ?_) (fun c4 => ?_)
      · rw [if_pos c4] at hf
        refine lv_iconst (v := 0) hx hb dX7_made_185 (by decide) ?_
        refine lv_istore (lv' := [(6, .int (0 : Int32)), (0, .ref (b 0)), (1, .int x1), (2, .int x2), (3, .int x3), (4, .int x4), (7, .int x7)]) hx hb dX7_made_186 hl (by decide) rfl (fun ls hl => ?_)
        refine lv_iinc (v := (x7 + 1)) (lv' := [(7, .int (x7 + 1)), (6, .int (0 : Int32)), (0, .ref (b 0)), (1, .int x1), (2, .int x2), (3, .int x3), (4, .int x4)]) hx hb dX7_made_188 hl (k := 6) rfl rfl (by decide) rfl (fun ls hl => ?_)
        refine lv_goto (tgt := 124) hx hb dX7_made_191 (by decide) ?_
        exact ih (0 : Int32) (x7 + 1) _ _ _ E (lv_sub hl [2, 3, 4, 5, 6, 1, 0] rfl) hf
      · rw [if_neg c4] at hf
        refine lv_aload_n hx hb dX7_made_144 rfl (lv_at hl 0 rfl) ?_
        refine lv_aload_n hx hb dX7_made_145 rfl (lv_at hl 0 rfl) ?_
        refine g_get C E 0 13 (fun _ h => List.mem_cons_of_mem _ (List.mem_append_right _ h)) rfl rfl (by decide) (List.mem_of_getElem? (i := 6) rfl) rfl rfl dX7_made_146 ?_
        refine lv_iload hx hb dX7_made_149 (lv_at hl 6 rfl) ?_
        obtain ⟨h5, hf⟩ := ck_some hf
        refine g_iald C E 5 rfl h5 dX7_made_151 ?_
        obtain ⟨o6, e7, hf⟩ := bd_some hf
        refine g_calll (w' := (mW b cI cJ cZ mth mlo mre mpr mto mim mdi mow mit mvl mhs mns mby mng mnu mnd mbg mbu mbd mlg mly mll mld mpg mpu mpl mtd mti mwt mch)) C E (g_runV (As := [.int (mng x7.toNatClampNeg)]) (rest := []) C E (c_X7_stock e7) (cwV 1 hts gX7_made_X7_stock rfl rfl rfl ⟨rfl, hd_X7_stock⟩ ⟨Nat.le_of_ble_eq_true rfl, Nat.le_of_ble_eq_true rfl⟩) (q0 := 0) (ci := 7) rfl rfl rfl rfl hl.1 rfl (Nat.le_of_ble_eq_true rfl) dX7_made_152 ⟨Nat.le_of_ble_eq_true rfl, Nat.le_of_ble_eq_true rfl⟩) (fun H locs E => ?_)
        refine lv_iload_n hx hb dX7_made_155 rfl (lv_at hl 2 rfl) ?_
        refine lv_i2l hx hb dX7_made_156 rfl ?_
        refine lv_aload_n hx hb dX7_made_157 rfl (lv_at hl 0 rfl) ?_
        refine g_get C E 0 14 (fun _ h => List.mem_cons_of_mem _ (List.mem_append_right _ h)) rfl rfl (by decide) (List.mem_of_getElem? (i := 7) rfl) rfl rfl dX7_made_158 ?_
        refine lv_iload hx hb dX7_made_161 (lv_at hl 6 rfl) ?_
        obtain ⟨h8, hf⟩ := ck_some hf
        refine g_iald C E 6 rfl h8 dX7_made_163 ?_
        refine lv_i2l hx hb dX7_made_164 rfl ?_
        refine lv_lmul hx hb dX7_made_165 ?_
        refine lv_aload_n hx hb dX7_made_166 rfl (lv_at hl 0 rfl) ?_
        refine g_get C E 0 15 (fun _ h => List.mem_cons_of_mem _ (List.mem_append_right _ h)) rfl rfl (by decide) (List.mem_of_getElem? (i := 8) rfl) rfl rfl dX7_made_167 ?_
        refine lv_iload hx hb dX7_made_170 (lv_at hl 6 rfl) ?_
        obtain ⟨h9, hf⟩ := ck_some hf
        refine g_iald C E 7 rfl h9 dX7_made_172 ?_
        refine lv_i2l hx hb dX7_made_173 rfl ?_
        obtain ⟨o10, e11, hf⟩ := bd_some hf
        refine g_calll (w' := (mW b cI cJ cZ mth mlo mre mpr mto mim mdi mow mit mvl mhs mns mby mng mnu mnd mbg mbu mbd mlg mly mll mld mpg mpu mpl mtd mti mwt mch)) C E (g_runS (As := [.long (x2.toInt64 * (mnu x7.toNatClampNeg).toInt64), .long ((mnd x7.toNatClampNeg).toInt64)]) (rest := [.long o6]) C E (c_X7_up e11) (va_cwS 2 hts gX7_made_X7_up rfl rfl rfl hd_X7_up ⟨Nat.le_of_ble_eq_true rfl, Nat.le_of_ble_eq_true rfl⟩) rfl hl.1 rfl (Nat.le_of_ble_eq_true rfl) dX7_made_174 ⟨Nat.le_of_ble_eq_true rfl, Nat.le_of_ble_eq_true rfl⟩) (fun H locs E => ?_)
        refine W.lcmp hx hb dX7_made_177 ?_
        refine lv_if_lt (tgt := 185) hx hb dX7_made_178 (by decide) (fun c12 => ?_) (fun c12 => ?_)
        · rw [if_pos c12] at hf
          refine lv_iconst (v := 0) hx hb dX7_made_185 (by decide) ?_
          refine lv_istore (lv' := [(6, .int (0 : Int32)), (0, .ref (b 0)), (1, .int x1), (2, .int x2), (3, .int x3), (4, .int x4), (7, .int x7)]) hx hb dX7_made_186 hl (by decide) rfl (fun ls hl => ?_)
          refine lv_iinc (v := (x7 + 1)) (lv' := [(7, .int (x7 + 1)), (6, .int (0 : Int32)), (0, .ref (b 0)), (1, .int x1), (2, .int x2), (3, .int x3), (4, .int x4)]) hx hb dX7_made_188 hl (k := 6) rfl rfl (by decide) rfl (fun ls hl => ?_)
          refine lv_goto (tgt := 124) hx hb dX7_made_191 (by decide) ?_
          exact ih (0 : Int32) (x7 + 1) _ _ _ E (lv_sub hl [2, 3, 4, 5, 6, 1, 0] rfl) hf
        · rw [if_neg c12] at hf
          refine lv_iconst (v := 1) hx hb dX7_made_181 (by decide) ?_
          refine lv_goto (tgt := 186) hx hb dX7_made_182 (by decide) ?_
          refine lv_istore (lv' := [(6, .int (1 : Int32)), (0, .ref (b 0)), (1, .int x1), (2, .int x2), (3, .int x3), (4, .int x4), (7, .int x7)]) hx hb dX7_made_186 hl (by decide) rfl (fun ls hl => ?_)
          refine lv_iinc (v := (x7 + 1)) (lv' := [(7, .int (x7 + 1)), (6, .int (1 : Int32)), (0, .ref (b 0)), (1, .int x1), (2, .int x2), (3, .int x3), (4, .int x4)]) hx hb dX7_made_188 hl (k := 6) rfl rfl (by decide) rfl (fun ls hl => ?_)
          refine lv_goto (tgt := 124) hx hb dX7_made_191 (by decide) ?_
          exact ih (1 : Int32) (x7 + 1) _ _ _ E (lv_sub hl [2, 3, 4, 5, 6, 1, 0] rfl) hf
def f_X7_made_L62 (mth : Int32) (mlo : Int32) (mto : Int32) (mvl : Nat → Int32) (mns : Nat → Int32) (mng : Nat → Int32) (mnu : Nat → Int32) (mnd : Nat → Int32) (mbg : Nat → Int32) (mbu : Nat → Int32) (mbd : Nat → Int32) (mlg : Nat → Int32) (mly : Nat → Int32) (mll : Nat → Int64) (mld : Nat → Int64) (mtd : Int64) (mti : Int64) (mwt : Nat → Int64) (x1 : Int32) (x2 : Int32) (x3 : Int32) (x4 : Int32) : Nat → Int32 → Int32 → Option (Int32 × (Int32) × (Int32) × (Nat → Int32) × (Nat → Int32) × (Nat → Int64) × (Nat → Int64) × (Int64) × (Int64) × (Nat → Int64))
  | 0, _, _ => none
  | n + 1, x5, x6 =>
  if x4 ≤ x6 then
    if (200 : Int32) < (mlo + x5) then
      f_X7_made_L124 mth mlo mto mvl mns mng mnu mnd mbg mbu mbd mlg mly mll mld mtd mti mwt x1 x2 x3 x4 FU (0 : Int32) ((4 : Int32) * x1)
    else
      f_X7_made_L124 mth mlo mto mvl mns mng mnu mnd mbg mbu mbd mlg mly mll mld mtd mti mwt x1 x2 x3 x4 FU (1 : Int32) ((4 : Int32) * x1)
  else
    (f_X7_amountOf mbu mbd x1 x6 x2.toInt64).bind fun o3 =>
    if (lg_cmp o3 (0 : Int64)) ≤ 0 then
      f_X7_made_L62 mth mlo mto mvl mns mng mnu mnd mbg mbu mbd mlg mly mll mld mtd mti mwt x1 x2 x3 x4 n (x5 + (0 : Int32)) (x6 + 1)
    else
      f_X7_made_L62 mth mlo mto mvl mns mng mnu mnd mbg mbu mbd mlg mly mll mld mtd mti mwt x1 x2 x3 x4 n (x5 + (1 : Int32)) (x6 + 1)
set_option maxHeartbeats 4000000 in
set_option maxRecDepth 100000 in
theorem w_X7_made_L62 {p : Program} {l : Launch} {e : Env} {s : State} {m : MethodId} {args : Array Value} {below : List Frame} {meth : Method} {c : Code} {A : Nat → Prop} {D : va_G} {cI cJ cZ : ClassId} {b : Nat → Nat} {mth : Int32} {mlo : Int32} {mre : Int32} {mpr : Int32} {mto : Int32} {mim : Int64} {mdi : Int64} {mow : Int64} {mit : Int64} {mvl : Nat → Int32} {mhs : Nat → Int32} {mns : Nat → Int32} {mby : Nat → Int32} {mng : Nat → Int32} {mnu : Nat → Int32} {mnd : Nat → Int32} {mbg : Nat → Int32} {mbu : Nat → Int32} {mbd : Nat → Int32} {mlg : Nat → Int32} {mly : Nat → Int32} {mll : Nat → Int64} {mld : Nat → Int64} {mpg : Nat → Int32} {mpu : Nat → Int32} {mpl : Nat → Int64} {mtd : Int64} {mti : Int64} {mwt : Nat → Int64} {mch : Nat → Int64} (C : gC p s m args meth c cX7_made 11 (some .int) wsX7_made RX7 A) {x1 : Int32} {x2 : Int32} {x3 : Int32} {x4 : Int32} {o : Int32 × (Int32) × (Int32) × (Nat → Int32) × (Nat → Int32) × (Nat → Int64) × (Nat → Int64) × (Int64) × (Int64) × (Nat → Int64)} :
    ∀ (n : Nat) (x5 : Int32) (x6 : Int32) (H : Heap) (locs : List Loc) (ls : Array Slot), vE s A D (gT cI cJ cZ) (mW b cI cJ cZ mth mlo mre mpr mto mim mdi mow mit mvl mhs mns mby mng mnu mnd mbg mbu mbd mlg mly mll mld mpg mpu mpl mtd mti mwt mch) H locs → lv_has ls 11 [(0, .ref (b 0)), (1, .int x1), (2, .int x2), (3, .int x3), (4, .int x4), (5, .int x5), (6, .int x6)] → f_X7_made_L62 mth mlo mto mvl mns mng mnu mnd mbg mbu mbd mlg mly mll mld mtd mti mwt x1 x2 x3 x4 n x5 x6 = some o → W p l e rm_X7_made s m args below meth c H locs 0 0 (MQ below (gQi D (gT cI cJ cZ) A (mW b cI cJ cZ o.2.1 o.2.2.1 mre mpr mto mim mdi mow mit mvl mhs mns mby mng mnu mnd mbg mbu mbd o.2.2.2.1 o.2.2.2.2.1 o.2.2.2.2.2.1 o.2.2.2.2.2.2.1 mpg mpu mpl o.2.2.2.2.2.2.2.1 o.2.2.2.2.2.2.2.2.1 o.2.2.2.2.2.2.2.2.2 mch) o.1) args s 0 0 A) (F0 m 62 ls []) := by
  obtain ⟨hx, hb, hr, hml, hown, hts, hlocks, hN, hA⟩ := id C
  intro n
  induction n with
  | zero =>
    intro x5 x6 H locs ls E hl hf
    rw [f_X7_made_L62] at hf
    cases hf
  | succ n ih =>
    intro x5 x6 H locs ls E hl hf
    rw [f_X7_made_L62] at hf
    refine lv_iload hx hb dX7_made_62 (lv_at hl 6 rfl) ?_
    refine lv_iload hx hb dX7_made_64 (lv_at hl 4 rfl) ?_
    refine lv_icmp_ge (tgt := 99) hx hb dX7_made_66 (by decide) (fun c1 => ?_) (fun c1 => ?_)
    · rw [if_pos c1] at hf
      refine lv_aload_n hx hb dX7_made_99 rfl (lv_at hl 0 rfl) ?_
      refine g_get C E 0 1 (fun _ h => List.mem_cons_of_mem _ (List.mem_append_right _ h)) rfl rfl (by decide) (List.mem_of_getElem? (i := 5) rfl) rfl rfl dX7_made_100 ?_
      refine lv_iload hx hb dX7_made_103 (lv_at hl 5 rfl) ?_
      refine lv_iadd hx hb dX7_made_105 ?_
      refine lv_sipush (v := 200) hx hb dX7_made_106 (by decide) ?_
      refine lv_icmp_gt (tgt := 116) hx hb dX7_made_109 (by decide) (fun c2 => ?_) (fun c2 => ?_)
      · rw [if_pos c2] at hf
        refine lv_iconst (v := 0) hx hb dX7_made_116 (by decide) ?_
        refine lv_istore (lv' := [(6, .int (0 : Int32)), (0, .ref (b 0)), (1, .int x1), (2, .int x2), (3, .int x3), (4, .int x4), (5, .int x5)]) hx hb dX7_made_117 hl (by decide) rfl (fun ls hl => ?_)
        refine lv_iconst (v := 4) hx hb dX7_made_119 (by decide) ?_
        refine lv_iload_n hx hb dX7_made_120 rfl (lv_at hl 2 rfl) ?_
        refine lv_imul hx hb dX7_made_121 ?_
        refine lv_istore (lv' := [(7, .int ((4 : Int32) * x1)), (6, .int (0 : Int32)), (0, .ref (b 0)), (1, .int x1), (2, .int x2), (3, .int x3), (4, .int x4), (5, .int x5)]) hx hb dX7_made_122 hl (by decide) rfl (fun ls hl => ?_)
        exact w_X7_made_L124 C  FU (0 : Int32) ((4 : Int32) * x1) _ _ _ E (lv_sub hl [2, 3, 4, 5, 6, 1, 0] rfl) hf
      · rw [if_neg c2] at hf
        refine lv_iconst (v := 1) hx hb dX7_made_112 (by decide) ?_
        refine lv_goto (tgt := 117) hx hb dX7_made_113 (by decide) ?_
        refine lv_istore (lv' := [(6, .int (1 : Int32)), (0, .ref (b 0)), (1, .int x1), (2, .int x2), (3, .int x3), (4, .int x4), (5, .int x5)]) hx hb dX7_made_117 hl (by decide) rfl (fun ls hl => ?_)
        refine lv_iconst (v := 4) hx hb dX7_made_119 (by decide) ?_
        refine lv_iload_n hx hb dX7_made_120 rfl (lv_at hl 2 rfl) ?_
        refine lv_imul hx hb dX7_made_121 ?_
        refine lv_istore (lv' := [(7, .int ((4 : Int32) * x1)), (6, .int (1 : Int32)), (0, .ref (b 0)), (1, .int x1), (2, .int x2), (3, .int x3), (4, .int x4), (5, .int x5)]) hx hb dX7_made_122 hl (by decide) rfl (fun ls hl => ?_)
        exact w_X7_made_L124 C  FU (1 : Int32) ((4 : Int32) * x1) _ _ _ E (lv_sub hl [2, 3, 4, 5, 6, 1, 0] rfl) hf
    · rw [if_neg c1] at hf
      refine lv_iload hx hb dX7_made_69 (lv_at hl 5 rfl) ?_
      refine lv_aload_n hx hb dX7_made_71 rfl (lv_at hl 0 rfl) ?_
      refine lv_iload_n hx hb dX7_made_72 rfl (lv_at hl 1 rfl) ?_
      refine lv_iload hx hb dX7_made_73 (lv_at hl 6 rfl) ?_
      refine lv_iload_n hx hb dX7_made_75 rfl (lv_at hl 2 rfl) ?_
      refine lv_i2l hx hb dX7_made_76 rfl ?_
      obtain ⟨o3, e4, hf⟩ := bd_some hf
      refine g_calll (w' := (mW b cI cJ cZ mth mlo mre mpr mto mim mdi mow mit mvl mhs mns mby mng mnu mnd mbg mbu mbd mlg mly mll mld mpg mpu mpl mtd mti mwt mch)) C E (g_runV (As := [.int x1, .int x6, .long x2.toInt64]) (rest := [.int x5]) C E (c_X7_amountOf e4) (cwV 3 hts gX7_made_X7_amountOf rfl rfl rfl ⟨rfl, hd_X7_amountOf⟩ ⟨Nat.le_of_ble_eq_true rfl, Nat.le_of_ble_eq_true rfl⟩) (q0 := 0) (ci := 7) rfl rfl rfl rfl hl.1 rfl (Nat.le_of_ble_eq_true rfl) dX7_made_77 ⟨Nat.le_of_ble_eq_true rfl, Nat.le_of_ble_eq_true rfl⟩) (fun H locs E => ?_)
      refine lv_lconst (v := 0) hx hb dX7_made_80 (by decide) ?_
      refine W.lcmp hx hb dX7_made_81 ?_
      refine lv_if_le (tgt := 89) hx hb dX7_made_82 (by decide) (fun c5 => ?_) (fun c5 => ?_)
      · rw [if_pos c5] at hf
        refine lv_iconst (v := 0) hx hb dX7_made_89 (by decide) ?_
        refine lv_iadd hx hb dX7_made_90 ?_
        refine lv_istore (lv' := [(5, .int (x5 + (0 : Int32))), (0, .ref (b 0)), (1, .int x1), (2, .int x2), (3, .int x3), (4, .int x4), (6, .int x6)]) hx hb dX7_made_91 hl (by decide) rfl (fun ls hl => ?_)
        refine lv_iinc (v := (x6 + 1)) (lv' := [(6, .int (x6 + 1)), (5, .int (x5 + (0 : Int32))), (0, .ref (b 0)), (1, .int x1), (2, .int x2), (3, .int x3), (4, .int x4)]) hx hb dX7_made_93 hl (k := 6) rfl rfl (by decide) rfl (fun ls hl => ?_)
        refine lv_goto (tgt := 62) hx hb dX7_made_96 (by decide) ?_
        exact ih (x5 + (0 : Int32)) (x6 + 1) _ _ _ E (lv_sub hl [2, 3, 4, 5, 6, 1, 0] rfl) hf
      · rw [if_neg c5] at hf
        refine lv_iconst (v := 1) hx hb dX7_made_85 (by decide) ?_
        refine lv_goto (tgt := 90) hx hb dX7_made_86 (by decide) ?_
        refine lv_iadd hx hb dX7_made_90 ?_
        refine lv_istore (lv' := [(5, .int (x5 + (1 : Int32))), (0, .ref (b 0)), (1, .int x1), (2, .int x2), (3, .int x3), (4, .int x4), (6, .int x6)]) hx hb dX7_made_91 hl (by decide) rfl (fun ls hl => ?_)
        refine lv_iinc (v := (x6 + 1)) (lv' := [(6, .int (x6 + 1)), (5, .int (x5 + (1 : Int32))), (0, .ref (b 0)), (1, .int x1), (2, .int x2), (3, .int x3), (4, .int x4)]) hx hb dX7_made_93 hl (k := 6) rfl rfl (by decide) rfl (fun ls hl => ?_)
        refine lv_goto (tgt := 62) hx hb dX7_made_96 (by decide) ?_
        exact ih (x5 + (1 : Int32)) (x6 + 1) _ _ _ E (lv_sub hl [2, 3, 4, 5, 6, 1, 0] rfl) hf
def f_X7_made_J34 (mlo : Int32) (mto : Int32) (mvl : Nat → Int32) (mns : Nat → Int32) (mby : Nat → Int32) (mng : Nat → Int32) (mnu : Nat → Int32) (mnd : Nat → Int32) (mbg : Nat → Int32) (mbu : Nat → Int32) (mbd : Nat → Int32) (mlg : Nat → Int32) (mly : Nat → Int32) (mll : Nat → Int64) (mld : Nat → Int64) (mtd : Int64) (mti : Int64) (mwt : Nat → Int64) (x1 : Int32) (x2 : Int32) (x3 : Int32) (t1 : Int32) : Option (Int32 × (Int32) × (Int32) × (Nat → Int32) × (Nat → Int32) × (Nat → Int64) × (Nat → Int64) × (Int64) × (Int64) × (Nat → Int64)) :=
  if t1 ≤ 0 then
    ck x1 12 <|
    f_X7_made_L62 t1 mlo mto mvl mns mng mnu mnd mbg mbu mbd mlg mly mll mld mtd mti mwt x1 x2 x3 ((mby x1.toNatClampNeg) + (1 : Int32)) FU (0 : Int32) (0 : Int32)
  else
    some ((0 : Int32), t1, mlo, mlg, mly, mll, mld, mtd, mti, mwt)
set_option maxHeartbeats 4000000 in
set_option maxRecDepth 100000 in
theorem w_X7_made_J34 {p : Program} {l : Launch} {e : Env} {s : State} {m : MethodId} {args : Array Value} {below : List Frame} {meth : Method} {c : Code} {A : Nat → Prop} {D : va_G} {cI cJ cZ : ClassId} {b : Nat → Nat} {mth : Int32} {mlo : Int32} {mre : Int32} {mpr : Int32} {mto : Int32} {mim : Int64} {mdi : Int64} {mow : Int64} {mit : Int64} {mvl : Nat → Int32} {mhs : Nat → Int32} {mns : Nat → Int32} {mby : Nat → Int32} {mng : Nat → Int32} {mnu : Nat → Int32} {mnd : Nat → Int32} {mbg : Nat → Int32} {mbu : Nat → Int32} {mbd : Nat → Int32} {mlg : Nat → Int32} {mly : Nat → Int32} {mll : Nat → Int64} {mld : Nat → Int64} {mpg : Nat → Int32} {mpu : Nat → Int32} {mpl : Nat → Int64} {mtd : Int64} {mti : Int64} {mwt : Nat → Int64} {mch : Nat → Int64} (C : gC p s m args meth c cX7_made 11 (some .int) wsX7_made RX7 A) {x1 : Int32} {x2 : Int32} {x3 : Int32} {o : Int32 × (Int32) × (Int32) × (Nat → Int32) × (Nat → Int32) × (Nat → Int64) × (Nat → Int64) × (Int64) × (Int64) × (Nat → Int64)} {t1 : Int32} {H : Heap} {locs : List Loc} {ls : Array Slot} (E : vE s A D (gT cI cJ cZ) (mW b cI cJ cZ mth mlo mre mpr mto mim mdi mow mit mvl mhs mns mby mng mnu mnd mbg mbu mbd mlg mly mll mld mpg mpu mpl mtd mti mwt mch) H locs) (hl : lv_has ls 11 [(0, .ref (b 0)), (1, .int x1), (2, .int x2), (3, .int x3)]) (hf : f_X7_made_J34 mlo mto mvl mns mby mng mnu mnd mbg mbu mbd mlg mly mll mld mtd mti mwt x1 x2 x3 t1 = some o) : W p l e rm_X7_made s m args below meth c H locs 0 0 (MQ below (gQi D (gT cI cJ cZ) A (mW b cI cJ cZ o.2.1 o.2.2.1 mre mpr mto mim mdi mow mit mvl mhs mns mby mng mnu mnd mbg mbu mbd o.2.2.2.1 o.2.2.2.2.1 o.2.2.2.2.2.1 o.2.2.2.2.2.2.1 mpg mpu mpl o.2.2.2.2.2.2.2.1 o.2.2.2.2.2.2.2.2.1 o.2.2.2.2.2.2.2.2.2 mch) o.1) args s 0 0 A) (F0 m 34 ls [.int t1, .ref (b 0)]) := by
  obtain ⟨hx, hb, hr, hml, hown, hts, hlocks, hN, hA⟩ := id C
  rw [f_X7_made_J34] at hf
  refine g_put (w' := (mW b cI cJ cZ t1 mlo mre mpr mto mim mdi mow mit mvl mhs mns mby mng mnu mnd mbg mbu mbd mlg mly mll mld mpg mpu mpl mtd mti mwt mch)) C E 0 0 tyX7 tyX7_ok nmX7 (fun _ h => List.mem_cons_of_mem _ (List.mem_append_right _ h)) rfl rfl (by decide) (List.mem_of_getElem? (i := 3) rfl) rfl rfl rfl rfl rfl (Nat.le_of_ble_eq_true rfl) dX7_made_34 rfl (fun H locs E => ?_)
  refine lv_aload_n hx hb dX7_made_37 rfl (lv_at hl 0 rfl) ?_
  refine g_get C E 0 0 (fun _ h => List.mem_cons_of_mem _ (List.mem_append_right _ h)) rfl rfl (by decide) (List.mem_of_getElem? (i := 3) rfl) rfl rfl dX7_made_38 ?_
  refine lv_if_le (tgt := 46) hx hb dX7_made_41 (by decide) (fun c1 => ?_) (fun c1 => ?_)
  · rw [if_pos c1] at hf
    refine lv_aload_n hx hb dX7_made_46 rfl (lv_at hl 0 rfl) ?_
    refine g_get C E 0 12 (fun _ h => List.mem_cons_of_mem _ (List.mem_append_right _ h)) rfl rfl (by decide) (List.mem_of_getElem? (i := 4) rfl) rfl rfl dX7_made_47 ?_
    refine lv_iload_n hx hb dX7_made_50 rfl (lv_at hl 1 rfl) ?_
    obtain ⟨h2, hf⟩ := ck_some hf
    refine g_iald C E 4 rfl h2 dX7_made_51 ?_
    refine lv_iconst (v := 1) hx hb dX7_made_52 (by decide) ?_
    refine lv_iadd hx hb dX7_made_53 ?_
    refine lv_istore (lv' := [(4, .int ((mby x1.toNatClampNeg) + (1 : Int32))), (0, .ref (b 0)), (1, .int x1), (2, .int x2), (3, .int x3)]) hx hb dX7_made_54 hl (by decide) rfl (fun ls hl => ?_)
    refine lv_iconst (v := 0) hx hb dX7_made_56 (by decide) ?_
    refine lv_istore (lv' := [(5, .int (0 : Int32)), (4, .int ((mby x1.toNatClampNeg) + (1 : Int32))), (0, .ref (b 0)), (1, .int x1), (2, .int x2), (3, .int x3)]) hx hb dX7_made_57 hl (by decide) rfl (fun ls hl => ?_)
    refine lv_iconst (v := 0) hx hb dX7_made_59 (by decide) ?_
    refine lv_istore (lv' := [(6, .int (0 : Int32)), (5, .int (0 : Int32)), (4, .int ((mby x1.toNatClampNeg) + (1 : Int32))), (0, .ref (b 0)), (1, .int x1), (2, .int x2), (3, .int x3)]) hx hb dX7_made_60 hl (by decide) rfl (fun ls hl => ?_)
    exact w_X7_made_L62 C  FU (0 : Int32) (0 : Int32) _ _ _ E (lv_sub hl [3, 4, 5, 6, 2, 1, 0] rfl) hf
  · rw [if_neg c1] at hf
    refine lv_iconst (v := 0) hx hb dX7_made_44 (by decide) ?_
    obtain rfl := Option.some.inj hf
    exact g_iret C E dX7_made_45
def f_X7_made_J33 (mlo : Int32) (mto : Int32) (mvl : Nat → Int32) (mns : Nat → Int32) (mby : Nat → Int32) (mng : Nat → Int32) (mnu : Nat → Int32) (mnd : Nat → Int32) (mbg : Nat → Int32) (mbu : Nat → Int32) (mbd : Nat → Int32) (mlg : Nat → Int32) (mly : Nat → Int32) (mll : Nat → Int64) (mld : Nat → Int64) (mtd : Int64) (mti : Int64) (mwt : Nat → Int64) (x1 : Int32) (x2 : Int32) (x3 : Int32) : Option (Int32 × (Int32) × (Int32) × (Nat → Int32) × (Nat → Int32) × (Nat → Int64) × (Nat → Int64) × (Int64) × (Int64) × (Nat → Int64)) :=
  f_X7_made_J34 mlo mto mvl mns mby mng mnu mnd mbg mbu mbd mlg mly mll mld mtd mti mwt x1 x2 x3 (1 : Int32)
set_option maxHeartbeats 4000000 in
set_option maxRecDepth 100000 in
theorem w_X7_made_J33 {p : Program} {l : Launch} {e : Env} {s : State} {m : MethodId} {args : Array Value} {below : List Frame} {meth : Method} {c : Code} {A : Nat → Prop} {D : va_G} {cI cJ cZ : ClassId} {b : Nat → Nat} {mth : Int32} {mlo : Int32} {mre : Int32} {mpr : Int32} {mto : Int32} {mim : Int64} {mdi : Int64} {mow : Int64} {mit : Int64} {mvl : Nat → Int32} {mhs : Nat → Int32} {mns : Nat → Int32} {mby : Nat → Int32} {mng : Nat → Int32} {mnu : Nat → Int32} {mnd : Nat → Int32} {mbg : Nat → Int32} {mbu : Nat → Int32} {mbd : Nat → Int32} {mlg : Nat → Int32} {mly : Nat → Int32} {mll : Nat → Int64} {mld : Nat → Int64} {mpg : Nat → Int32} {mpu : Nat → Int32} {mpl : Nat → Int64} {mtd : Int64} {mti : Int64} {mwt : Nat → Int64} {mch : Nat → Int64} (C : gC p s m args meth c cX7_made 11 (some .int) wsX7_made RX7 A) {x1 : Int32} {x2 : Int32} {x3 : Int32} {o : Int32 × (Int32) × (Int32) × (Nat → Int32) × (Nat → Int32) × (Nat → Int64) × (Nat → Int64) × (Int64) × (Int64) × (Nat → Int64)} {H : Heap} {locs : List Loc} {ls : Array Slot} (E : vE s A D (gT cI cJ cZ) (mW b cI cJ cZ mth mlo mre mpr mto mim mdi mow mit mvl mhs mns mby mng mnu mnd mbg mbu mbd mlg mly mll mld mpg mpu mpl mtd mti mwt mch) H locs) (hl : lv_has ls 11 [(0, .ref (b 0)), (1, .int x1), (2, .int x2), (3, .int x3)]) (hf : f_X7_made_J33 mlo mto mvl mns mby mng mnu mnd mbg mbu mbd mlg mly mll mld mtd mti mwt x1 x2 x3 = some o) : W p l e rm_X7_made s m args below meth c H locs 0 0 (MQ below (gQi D (gT cI cJ cZ) A (mW b cI cJ cZ o.2.1 o.2.2.1 mre mpr mto mim mdi mow mit mvl mhs mns mby mng mnu mnd mbg mbu mbd o.2.2.2.1 o.2.2.2.2.1 o.2.2.2.2.2.1 o.2.2.2.2.2.2.1 mpg mpu mpl o.2.2.2.2.2.2.2.1 o.2.2.2.2.2.2.2.2.1 o.2.2.2.2.2.2.2.2.2 mch) o.1) args s 0 0 A) (F0 m 33 ls [.ref (b 0)]) := by
  obtain ⟨hx, hb, hr, hml, hown, hts, hlocks, hN, hA⟩ := id C
  rw [f_X7_made_J33] at hf
  refine lv_iconst (v := 1) hx hb dX7_made_33 (by decide) ?_
  exact w_X7_made_J34 C  E (lv_sub hl [0, 1, 2, 3] rfl) hf
def f_X7_made (mth : Int32) (mlo : Int32) (mto : Int32) (mvl : Nat → Int32) (mns : Nat → Int32) (mby : Nat → Int32) (mng : Nat → Int32) (mnu : Nat → Int32) (mnd : Nat → Int32) (mbg : Nat → Int32) (mbu : Nat → Int32) (mbd : Nat → Int32) (mlg : Nat → Int32) (mly : Nat → Int32) (mll : Nat → Int64) (mld : Nat → Int64) (mtd : Int64) (mti : Int64) (mwt : Nat → Int64) (x1 : Int32) (x2 : Int32) (x3 : Int32) : Option (Int32 × (Int32) × (Int32) × (Nat → Int32) × (Nat → Int32) × (Nat → Int64) × (Nat → Int64) × (Int64) × (Int64) × (Nat → Int64)) :=
  (f_X7_isGood x1).bind fun o1 =>
  if o1 = 0 then
    f_X7_made_J33 mlo mto mvl mns mby mng mnu mnd mbg mbu mbd mlg mly mll mld mtd mti mwt x1 x2 x3 
  else
    ck x1 12 <|
    if (mns x1.toNatClampNeg) ≤ 0 then
      f_X7_made_J33 mlo mto mvl mns mby mng mnu mnd mbg mbu mbd mlg mly mll mld mtd mti mwt x1 x2 x3 
    else
      (f_X7_within x2.toInt64 (1 : Int64) (10000 : Int64)).bind fun o6 =>
      if o6 = 0 then
        f_X7_made_J33 mlo mto mvl mns mby mng mnu mnd mbg mbu mbd mlg mly mll mld mtd mti mwt x1 x2 x3 
      else
        f_X7_made_J34 mlo mto mvl mns mby mng mnu mnd mbg mbu mbd mlg mly mll mld mtd mti mwt x1 x2 x3 (0 : Int32)
set_option maxHeartbeats 4000000 in
set_option maxRecDepth 100000 in
theorem c_X7_made {l : Launch} {D : va_G} {cI cJ cZ : ClassId} {b : Nat → Nat} {sz : Nat} {mth : Int32} {mlo : Int32} {mre : Int32} {mpr : Int32} {mto : Int32} {mim : Int64} {mdi : Int64} {mow : Int64} {mit : Int64} {mvl : Nat → Int32} {mhs : Nat → Int32} {mns : Nat → Int32} {mby : Nat → Int32} {mng : Nat → Int32} {mnu : Nat → Int32} {mnd : Nat → Int32} {mbg : Nat → Int32} {mbu : Nat → Int32} {mbd : Nat → Int32} {mlg : Nat → Int32} {mly : Nat → Int32} {mll : Nat → Int64} {mld : Nat → Int64} {mpg : Nat → Int32} {mpu : Nat → Int32} {mpl : Nat → Int64} {mtd : Int64} {mti : Int64} {mwt : Nat → Int64} {mch : Nat → Int64} {x1 : Int32} {x2 : Int32} {x3 : Int32} {o : Int32 × (Int32) × (Int32) × (Nat → Int32) × (Nat → Int32) × (Nat → Int64) × (Nat → Int64) × (Int64) × (Int64) × (Nat → Int64)} (hf : f_X7_made mth mlo mto mvl mns mby mng mnu mnd mbg mbu mbd mlg mly mll mld mtd mti mwt x1 x2 x3 = some o) : gMi l yX7_made wsX7_made rm_X7_made D (gT cI cJ cZ) (mW b cI cJ cZ mth mlo mre mpr mto mim mdi mow mit mvl mhs mns mby mng mnu mnd mbg mbu mbd mlg mly mll mld mpg mpu mpl mtd mti mwt mch) (mW b cI cJ cZ o.2.1 o.2.2.1 mre mpr mto mim mdi mow mit mvl mhs mns mby mng mnu mnd mbg mbu mbd o.2.2.2.1 o.2.2.2.2.1 o.2.2.2.2.2.1 o.2.2.2.2.2.2.1 mpg mpu mpl o.2.2.2.2.2.2.2.1 o.2.2.2.2.2.2.2.2.1 o.2.2.2.2.2.2.2.2.2 mch) sz [.ref (b 0), .int x1, .int x2, .int x3] o.1 := by
  refine g_of (cc := cX7_made) (maxL := 11) (ret := (some .int)) (by decide) rfl (Nat.le_of_ble_eq_true rfl) ?_
  intro p e s m below meth c A ls hAe C hl E
  rw [← hAe]
  obtain ⟨hx, hb, hr, hml, hown, hts, hlocks, hN, hA⟩ := id C
  have hl : lv_has ls 11 [(0, .ref (b 0)), (1, .int x1), (2, .int x2), (3, .int x3)] := hl
  have E : vE s A D (gT cI cJ cZ) (mW b cI cJ cZ mth mlo mre mpr mto mim mdi mow mit mvl mhs mns mby mng mnu mnd mbg mbu mbd mlg mly mll mld mpg mpu mpl mtd mti mwt mch) s.heap [] := E
  rw [f_X7_made] at hf
  refine lv_aload_n hx hb dX7_made_0 rfl (lv_at hl 0 rfl) ?_
  refine lv_iload_n hx hb dX7_made_1 rfl (lv_at hl 1 rfl) ?_
  obtain ⟨o1, e2, hf⟩ := bd_some hf
  refine g_calli (w' := (mW b cI cJ cZ mth mlo mre mpr mto mim mdi mow mit mvl mhs mns mby mng mnu mnd mbg mbu mbd mlg mly mll mld mpg mpu mpl mtd mti mwt mch)) C E (g_runS (As := [.int x1]) (rest := [.ref (b 0)]) C E (c_X7_isGood e2) (va_cwS 1 hts gX7_made_X7_isGood rfl rfl rfl hd_X7_isGood ⟨Nat.le_of_ble_eq_true rfl, Nat.le_of_ble_eq_true rfl⟩) rfl hl.1 rfl (Nat.le_of_ble_eq_true rfl) dX7_made_2 ⟨Nat.le_of_ble_eq_true rfl, Nat.le_of_ble_eq_true rfl⟩) (fun H locs E => ?_)
  refine lv_if_eq (tgt := 33) hx hb dX7_made_5 (by decide) (fun c3 => ?_) (fun c3 => ?_)
  · rw [if_pos c3] at hf
    exact w_X7_made_J33 C  E (lv_sub hl [0, 1, 2, 3] rfl) hf
  · rw [if_neg c3] at hf
    refine lv_aload_n hx hb dX7_made_8 rfl (lv_at hl 0 rfl) ?_
    refine g_get C E 0 11 (fun _ h => List.mem_cons_of_mem _ (List.mem_append_right _ h)) rfl rfl (by decide) (List.mem_of_getElem? (i := 1) rfl) rfl rfl dX7_made_9 ?_
    refine lv_iload_n hx hb dX7_made_12 rfl (lv_at hl 1 rfl) ?_
    obtain ⟨h4, hf⟩ := ck_some hf
    refine g_iald C E 3 rfl h4 dX7_made_13 ?_
    refine lv_if_le (tgt := 33) hx hb dX7_made_14 (by decide) (fun c5 => ?_) (fun c5 => ?_)
    · rw [if_pos c5] at hf
      exact w_X7_made_J33 C  E (lv_sub hl [0, 1, 2, 3] rfl) hf
    · rw [if_neg c5] at hf
      refine lv_iload_n hx hb dX7_made_17 rfl (lv_at hl 2 rfl) ?_
      refine lv_i2l hx hb dX7_made_18 rfl ?_
      refine lv_lconst (v := 1) hx hb dX7_made_19 (by decide) ?_
      refine lv_ldc2 (v := 10000) hx hb hown (hts (.constantLong RX7 83 (10000)) (List.mem_of_getElem? (i := 2) rfl)) dX7_made_20 ?_
      obtain ⟨o6, e7, hf⟩ := bd_some hf
      refine g_calli (w' := (mW b cI cJ cZ mth mlo mre mpr mto mim mdi mow mit mvl mhs mns mby mng mnu mnd mbg mbu mbd mlg mly mll mld mpg mpu mpl mtd mti mwt mch)) C E (g_runS (As := [.long x2.toInt64, .long (1 : Int64), .long (10000 : Int64)]) (rest := [.ref (b 0)]) C E (c_X7_within e7) (va_cwS 3 hts gX7_made_X7_within rfl rfl rfl hd_X7_within ⟨Nat.le_of_ble_eq_true rfl, Nat.le_of_ble_eq_true rfl⟩) rfl hl.1 rfl (Nat.le_of_ble_eq_true rfl) dX7_made_23 ⟨Nat.le_of_ble_eq_true rfl, Nat.le_of_ble_eq_true rfl⟩) (fun H locs E => ?_)
      refine lv_if_eq (tgt := 33) hx hb dX7_made_26 (by decide) (fun c8 => ?_) (fun c8 => ?_)
      · rw [if_pos c8] at hf
        exact w_X7_made_J33 C  E (lv_sub hl [0, 1, 2, 3] rfl) hf
      · rw [if_neg c8] at hf
        refine lv_iconst (v := 0) hx hb dX7_made_29 (by decide) ?_
        refine lv_goto (tgt := 34) hx hb dX7_made_30 (by decide) ?_
        exact w_X7_made_J34 C  E (lv_sub hl [0, 1, 2, 3] rfl) hf
