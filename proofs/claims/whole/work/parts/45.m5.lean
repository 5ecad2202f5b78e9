abbrev rm_X7_look : Room := { frames := 2, cells := 0, slots := 0, locals := 45 }
theorem hd_X7_look : yX7_look.cls ≠ "java/lang/invoke/MethodHandle" ∧ yX7_look.cls ≠ "java/lang/invoke/VarHandle" ∧ (parseMethodDescriptor yX7_look.desc).map (fun d => d.parameters.length) = some 2 := by decide +kernel
def f_X7_look_L94 (mth : Int32) (mlo : Int32) (mpr : Int32) (mto : Int32) (mvl : Nat → Int32) (mhs : Nat → Int32) (mns : Nat → Int32) (mby : Nat → Int32) (mng : Nat → Int32) (mlg : Nat → Int32) (mll : Nat → Int64) (mld : Nat → Int64) (mpg : Nat → Int32) (mpu : Nat → Int32) (mpl : Nat → Int64) (x1 : Int32) (x2 : Int32) (x3 : Int32) : Nat → Int64 → Int32 → Option (Int64 × (Int32))
  | 0, _, _ => none
  | n + 1, x4, x6 =>
  if mpr ≤ x6 then
    if x2 = 0 then
      (f_X7_stock mlo mlg mll x1).bind fun o3 =>
      some (o3, mth)
    else
    if x2 = 1 then
      (f_X7_debtOn mlo mlg mld x1).bind fun o6 =>
      some (o6, mth)
    else
    if x2 = 2 then
      some (x3.toInt64, mth)
    else
    if x2 = 3 then
      ck x1 12 <|
      if (mhs x1.toNatClampNeg) = 0 then
        some ((-1 : Int64), mth)
      else
        ck x1 12 <|
        some ((mns x1.toNatClampNeg).toInt64, mth)
    else
    if x2 = 4 then
      ck x1 12 <|
      if (mhs x1.toNatClampNeg) = 0 then
        some ((-1 : Int64), mth)
      else
        ck x1 12 <|
        some ((mby x1.toNatClampNeg).toInt64, mth)
    else
    if x2 = 5 then
      (f_X7_depthOf mns mng x1).bind fun o18 =>
      some (o18.toInt64, mth)
    else
    if x2 = 6 then
      ck x1 12 <|
      some ((mvl x1.toNatClampNeg).toInt64, mth)
    else
    some (x4, mth)
  else
    ck x6 40 <|
    if (mpg x6.toNatClampNeg) = x1 then
      ck x6 40 <|
      if (mpu x6.toNatClampNeg) < mto then
        f_X7_look_L94 mth mlo mpr mto mvl mhs mns mby mng mlg mll mld mpg mpu mpl x1 x2 x3 n (x4 + (0 : Int64)) (x6 + 1)
      else
        ck x6 40 <|
        f_X7_look_L94 mth mlo mpr mto mvl mhs mns mby mng mlg mll mld mpg mpu mpl x1 x2 x3 n (x4 + (mpl x6.toNatClampNeg)) (x6 + 1)
    else
      f_X7_look_L94 mth mlo mpr mto mvl mhs mns mby mng mlg mll mld mpg mpu mpl x1 x2 x3 n (x4 + (0 : Int64)) (x6 + 1)
set_option maxHeartbeats 4000000 in
set_option maxRecDepth 100000 in
theorem w_X7_look_L94 {p : Program} {l : Launch} {e : Env} {s : State} {m : MethodId} {args : Array Value} {below : List Frame} {meth : Method} {c : Code} {A : Nat → Prop} {D : va_G} {cI cJ cZ : ClassId} {b : Nat → Nat} {mth : Int32} {mlo : Int32} {mre : Int32} {mpr : Int32} {mto : Int32} {mim : Int64} {mdi : Int64} {mow : Int64} {mit : Int64} {mvl : Nat → Int32} {mhs : Nat → Int32} {mns : Nat → Int32} {mby : Nat → Int32} {mng : Nat → Int32} {mnu : Nat → Int32} {mnd : Nat → Int32} {mbg : Nat → Int32} {mbu : Nat → Int32} {mbd : Nat → Int32} {mlg : Nat → Int32} {mly : Nat → Int32} {mll : Nat → Int64} {mld : Nat → Int64} {mpg : Nat → Int32} {mpu : Nat → Int32} {mpl : Nat → Int64} {mtd : Int64} {mti : Int64} {mwt : Nat → Int64} {mch : Nat → Int64} (C : gC p s m args meth c cX7_look 7 (some .long) wsX7_look RX7 A) {x1 : Int32} {x2 : Int32} {x3 : Int32} {o : Int64 × (Int32)} :
    ∀ (n : Nat) (x4 : Int64) (x6 : Int32) (H : Heap) (locs : List Loc) (ls : Array Slot), vE s A D (gT cI cJ cZ) (mW b cI cJ cZ mth mlo mre mpr mto mim mdi mow mit mvl mhs mns mby mng mnu mnd mbg mbu mbd mlg mly mll mld mpg mpu mpl mtd mti mwt mch) H locs → lv_has ls 7 [(0, .ref (b 0)), (1, .int x1), (2, .int x2), (3, .int x3), (4, .long x4), (6, .int x6)] → f_X7_look_L94 mth mlo mpr mto mvl mhs mns mby mng mlg mll mld mpg mpu mpl x1 x2 x3 n x4 x6 = some o → W p l e rm_X7_look s m args below meth c H locs 0 0 (MQ below (gQl D (gT cI cJ cZ) A (mW b cI cJ cZ o.2 mlo mre mpr mto mim mdi mow mit mvl mhs mns mby mng mnu mnd mbg mbu mbd mlg mly mll mld mpg mpu mpl mtd mti mwt mch) o.1) args s 0 0 A) (F0 m 94 ls []) := by
  obtain ⟨hx, hb, hr, hml, hown, hts, hlocks, hN, hA⟩ := id C
  intro n
  induction n with
  | zero =>
    intro x4 x6 H locs ls E hl hf
    rw [f_X7_look_L94] at hf
    cases hf
  | succ n ih =>
    intro x4 x6 H locs ls E hl hf
    rw [f_X7_look_L94] at hf
    refine lv_iload hx hb dX7_look_94 (lv_at hl 5 rfl) ?_
    refine lv_aload_n hx hb dX7_look_96 rfl (lv_at hl 0 rfl) ?_
    refine g_get C E 0 3 (fun _ h => List.mem_cons_of_mem _ (List.mem_append_right _ h)) rfl rfl (by decide) (List.mem_of_getElem? (i := 6) rfl) rfl rfl dX7_look_97 ?_
    refine lv_icmp_ge (tgt := 150) hx hb dX7_look_100 (by decide) (fun c1 => ?_) (fun c1 => ?_)
    · rw [if_pos c1] at hf
      refine lv_iload_n hx hb dX7_look_150 rfl (lv_at hl 2 rfl) ?_
      by_cases c2 : x2 = 0
      · rw [if_pos c2] at hf
        refine lv_tableIn (tgt := 192) (off := 41) hx hb dX7_look_151 (by rw [c2]; decide) (by rw [c2]; decide) (by rw [c2]; rfl) (by decide) ?_
        refine lv_aload_n hx hb dX7_look_192 rfl (lv_at hl 0 rfl) ?_
        refine lv_iload_n hx hb dX7_look_193 rfl (lv_at hl 1 rfl) ?_
        obtain ⟨o3, e4, hf⟩ := bd_some hf
        refine g_calll (w' := (mW b cI cJ cZ mth mlo mre mpr mto mim mdi mow mit mvl mhs mns mby mng mnu mnd mbg mbu mbd mlg mly mll mld mpg mpu mpl mtd mti mwt mch)) C E (g_runV (As := [.int x1]) (rest := []) C E (c_X7_stock e4) (cwV 1 hts gX7_look_X7_stock rfl rfl rfl ⟨rfl, hd_X7_stock⟩ ⟨Nat.le_of_ble_eq_true rfl, Nat.le_of_ble_eq_true rfl⟩) (q0 := 0) (ci := 7) rfl rfl rfl rfl hl.1 rfl (Nat.le_of_ble_eq_true rfl) dX7_look_194 ⟨Nat.le_of_ble_eq_true rfl, Nat.le_of_ble_eq_true rfl⟩) (fun H locs E => ?_)
        obtain rfl := Option.some.inj hf
        exact g_lret C E dX7_look_197
      rw [if_neg c2] at hf
      by_cases c5 : x2 = 1
      · rw [if_pos c5] at hf
        refine lv_tableIn (tgt := 198) (off := 47) hx hb dX7_look_151 (by rw [c5]; decide) (by rw [c5]; decide) (by rw [c5]; rfl) (by decide) ?_
        refine lv_aload_n hx hb dX7_look_198 rfl (lv_at hl 0 rfl) ?_
        refine lv_iload_n hx hb dX7_look_199 rfl (lv_at hl 1 rfl) ?_
        obtain ⟨o6, e7, hf⟩ := bd_some hf
        refine g_calll (w' := (mW b cI cJ cZ mth mlo mre mpr mto mim mdi mow mit mvl mhs mns mby mng mnu mnd mbg mbu mbd mlg mly mll mld mpg mpu mpl mtd mti mwt mch)) C E (g_runV (As := [.int x1]) (rest := []) C E (c_X7_debtOn e7) (cwV 1 hts gX7_look_X7_debtOn rfl rfl rfl ⟨rfl, hd_X7_debtOn⟩ ⟨Nat.le_of_ble_eq_true rfl, Nat.le_of_ble_eq_true rfl⟩) (q0 := 0) (ci := 7) rfl rfl rfl rfl hl.1 rfl (Nat.le_of_ble_eq_true rfl) dX7_look_200 ⟨Nat.le_of_ble_eq_true rfl, Nat.le_of_ble_eq_true rfl⟩) (fun H locs E => ?_)
        obtain rfl := Option.some.inj hf
        exact g_lret C E dX7_look_203
      rw [if_neg c5] at hf
      by_cases c8 : x2 = 2
      · rw [if_pos c8] at hf
        refine lv_tableIn (tgt := 204) (off := 53) hx hb dX7_look_151 (by rw [c8]; decide) (by rw [c8]; decide) (by rw [c8]; rfl) (by decide) ?_
        refine lv_iload_n hx hb dX7_look_204 rfl (lv_at hl 3 rfl) ?_
        refine lv_i2l hx hb dX7_look_205 rfl ?_
        obtain rfl := Option.some.inj hf
        exact g_lret C E dX7_look_206
      rw [if_neg c8] at hf
      by_cases c9 : x2 = 3
      · rw [if_pos c9] at hf
        refine lv_tableIn (tgt := 207) (off := 56) hx hb dX7_look_151 (by rw [c9]; decide) (by rw [c9]; decide) (by rw [c9]; rfl) (by decide) ?_
        refine lv_aload_n hx hb dX7_look_207 rfl (lv_at hl 0 rfl) ?_
        refine g_get C E 0 10 (fun _ h => List.mem_cons_of_mem _ (List.mem_append_right _ h)) rfl rfl (by decide) (List.mem_of_getElem? (i := 11) rfl) rfl rfl dX7_look_208 ?_
        refine lv_iload_n hx hb dX7_look_211 rfl (lv_at hl 1 rfl) ?_
        obtain ⟨h10, hf⟩ := ck_some hf
        refine g_zald C E 2 rfl h10 dX7_look_212 ?_
        refine lv_if_eq (tgt := 226) hx hb dX7_look_213 (by decide) (fun c11 => ?_) (fun c11 => ?_)
        · rw [if_pos c11] at hf
          refine lv_ldc2 (v := -1) hx hb hown (hts (.constantLong RX7 163 (-1)) (List.mem_of_getElem? (i := 13) rfl)) dX7_look_226 ?_
          obtain rfl := Option.some.inj hf
          exact g_lret C E dX7_look_229
        · rw [if_neg c11] at hf
          refine lv_aload_n hx hb dX7_look_216 rfl (lv_at hl 0 rfl) ?_
          refine g_get C E 0 11 (fun _ h => List.mem_cons_of_mem _ (List.mem_append_right _ h)) rfl rfl (by decide) (List.mem_of_getElem? (i := 12) rfl) rfl rfl dX7_look_217 ?_
          refine lv_iload_n hx hb dX7_look_220 rfl (lv_at hl 1 rfl) ?_
          obtain ⟨h12, hf⟩ := ck_some hf
          refine g_iald C E 3 rfl h12 dX7_look_221 ?_
          refine lv_i2l hx hb dX7_look_222 rfl ?_
          refine lv_goto (tgt := 229) hx hb dX7_look_223 (by decide) ?_
          obtain rfl := Option.some.inj hf
          exact g_lret C E dX7_look_229
      rw [if_neg c9] at hf
      by_cases c13 : x2 = 4
      · rw [if_pos c13] at hf
        refine lv_tableIn (tgt := 230) (off := 79) hx hb dX7_look_151 (by rw [c13]; decide) (by rw [c13]; decide) (by rw [c13]; rfl) (by decide) ?_
        refine lv_aload_n hx hb dX7_look_230 rfl (lv_at hl 0 rfl) ?_
        refine g_get C E 0 10 (fun _ h => List.mem_cons_of_mem _ (List.mem_append_right _ h)) rfl rfl (by decide) (List.mem_of_getElem? (i := 11) rfl) rfl rfl dX7_look_231 ?_
        refine lv_iload_n hx hb dX7_look_234 rfl (lv_at hl 1 rfl) ?_
        obtain ⟨h14, hf⟩ := ck_some hf
        refine g_zald C E 2 rfl h14 dX7_look_235 ?_
        refine lv_if_eq (tgt := 249) hx hb dX7_look_236 (by decide) (fun c15 => ?_) (fun c15 => ?_)
        · rw [if_pos c15] at hf
          refine lv_ldc2 (v := -1) hx hb hown (hts (.constantLong RX7 163 (-1)) (List.mem_of_getElem? (i := 13) rfl)) dX7_look_249 ?_
          obtain rfl := Option.some.inj hf
          exact g_lret C E dX7_look_252
        · rw [if_neg c15] at hf
          refine lv_aload_n hx hb dX7_look_239 rfl (lv_at hl 0 rfl) ?_
          refine g_get C E 0 12 (fun _ h => List.mem_cons_of_mem _ (List.mem_append_right _ h)) rfl rfl (by decide) (List.mem_of_getElem? (i := 14) rfl) rfl rfl dX7_look_240 ?_
          refine lv_iload_n hx hb dX7_look_243 rfl (lv_at hl 1 rfl) ?_
          obtain ⟨h16, hf⟩ := ck_some hf
          refine g_iald C E 4 rfl h16 dX7_look_244 ?_
          refine lv_i2l hx hb dX7_look_245 rfl ?_
          refine lv_goto (tgt := 252) hx hb dX7_look_246 (by decide) ?_
          obtain rfl := Option.some.inj hf
          exact g_lret C E dX7_look_252
      rw [if_neg c13] at hf
      by_cases c17 : x2 = 5
      · rw [if_pos c17] at hf
        refine lv_tableIn (tgt := 253) (off := 102) hx hb dX7_look_151 (by rw [c17]; decide) (by rw [c17]; decide) (by rw [c17]; rfl) (by decide) ?_
        refine lv_aload_n hx hb dX7_look_253 rfl (lv_at hl 0 rfl) ?_
        refine lv_iload_n hx hb dX7_look_254 rfl (lv_at hl 1 rfl) ?_
        obtain ⟨o18, e19, hf⟩ := bd_some hf
        refine g_calli (w' := (mW b cI cJ cZ mth mlo mre mpr mto mim mdi mow mit mvl mhs mns mby mng mnu mnd mbg mbu mbd mlg mly mll mld mpg mpu mpl mtd mti mwt mch)) C E (g_runV (As := [.int x1]) (rest := []) C E (c_X7_depthOf e19) (cwV 1 hts gX7_look_X7_depthOf rfl rfl rfl ⟨rfl, hd_X7_depthOf⟩ ⟨Nat.le_of_ble_eq_true rfl, Nat.le_of_ble_eq_true rfl⟩) (q0 := 0) (ci := 7) rfl rfl rfl rfl hl.1 rfl (Nat.le_of_ble_eq_true rfl) dX7_look_255 ⟨Nat.le_of_ble_eq_true rfl, Nat.le_of_ble_eq_true rfl⟩) (fun H locs E => ?_)
        refine lv_i2l hx hb dX7_look_258 rfl ?_
        obtain rfl := Option.some.inj hf
        exact g_lret C E dX7_look_259
      rw [if_neg c17] at hf
      by_cases c20 : x2 = 6
      · rw [if_pos c20] at hf
        refine lv_tableIn (tgt := 260) (off := 109) hx hb dX7_look_151 (by rw [c20]; decide) (by rw [c20]; decide) (by rw [c20]; rfl) (by decide) ?_
        refine lv_aload_n hx hb dX7_look_260 rfl (lv_at hl 0 rfl) ?_
        refine g_get C E 0 9 (fun _ h => List.mem_cons_of_mem _ (List.mem_append_right _ h)) rfl rfl (by decide) (List.mem_of_getElem? (i := 15) rfl) rfl rfl dX7_look_261 ?_
        refine lv_iload_n hx hb dX7_look_264 rfl (lv_at hl 1 rfl) ?_
        obtain ⟨h21, hf⟩ := ck_some hf
        refine g_iald C E 1 rfl h21 dX7_look_265 ?_
        refine lv_i2l hx hb dX7_look_266 rfl ?_
        obtain rfl := Option.some.inj hf
        exact g_lret C E dX7_look_267
      rw [if_neg c20] at hf
      refine lv_tableOut (tgt := 268) hx hb dX7_look_151 (by have := lv_neT (a := 0) c2 (by decide); have := lv_neT (a := 1) c5 (by decide); have := lv_neT (a := 2) c8 (by decide); have := lv_neT (a := 3) c9 (by decide); have := lv_neT (a := 4) c13 (by decide); have := lv_neT (a := 5) c17 (by decide); have := lv_neT (a := 6) c20 (by decide); omega) (by decide) ?_
      refine lv_lload hx hb dX7_look_268 (lv_at hl 4 rfl) ?_
      obtain rfl := Option.some.inj hf
      exact g_lret C E dX7_look_270
    · rw [if_neg c1] at hf
      refine lv_lload hx hb dX7_look_103 (lv_at hl 4 rfl) ?_
      refine lv_aload_n hx hb dX7_look_105 rfl (lv_at hl 0 rfl) ?_
      refine g_get C E 0 23 (fun _ h => List.mem_cons_of_mem _ (List.mem_append_right _ h)) rfl rfl (by decide) (List.mem_of_getElem? (i := 7) rfl) rfl rfl dX7_look_106 ?_
      refine lv_iload hx hb dX7_look_109 (lv_at hl 5 rfl) ?_
      obtain ⟨h22, hf⟩ := ck_some hf
      refine g_iald C E 15 rfl h22 dX7_look_111 ?_
      refine lv_iload_n hx hb dX7_look_112 rfl (lv_at hl 1 rfl) ?_
      refine lv_icmp_ne (tgt := 140) hx hb dX7_look_113 (by decide) (fun c23 => ?_) (fun c23 => ?_)
      · rw [if_neg c23] at hf
        refine lv_lconst (v := 0) hx hb dX7_look_140 (by decide) ?_
        refine lv_ladd hx hb dX7_look_141 ?_
        refine lv_lstore (lv' := [(4, .long (x4 + (0 : Int64))), (0, .ref (b 0)), (1, .int x1), (2, .int x2), (3, .int x3), (6, .int x6)]) hx hb dX7_look_142 hl (by decide) rfl (fun ls hl => ?_)
        refine lv_iinc (v := (x6 + 1)) (lv' := [(6, .int (x6 + 1)), (4, .long (x4 + (0 : Int64))), (0, .ref (b 0)), (1, .int x1), (2, .int x2), (3, .int x3)]) hx hb dX7_look_144 hl (k := 5) rfl rfl (by decide) rfl (fun ls hl => ?_)
        refine lv_goto (tgt := 94) hx hb dX7_look_147 (by decide) ?_
        exact ih (x4 + (0 : Int64)) (x6 + 1) _ _ _ E (lv_sub hl [2, 3, 4, 5, 1, 0] rfl) hf
      · rw [if_pos c23] at hf
        refine lv_aload_n hx hb dX7_look_116 rfl (lv_at hl 0 rfl) ?_
        refine g_get C E 0 24 (fun _ h => List.mem_cons_of_mem _ (List.mem_append_right _ h)) rfl rfl (by decide) (List.mem_of_getElem? (i := 8) rfl) rfl rfl dX7_look_117 ?_
        refine lv_iload hx hb dX7_look_120 (lv_at hl 5 rfl) ?_
        obtain ⟨h24, hf⟩ := ck_some hf
        refine g_iald C E 16 rfl h24 dX7_look_122 ?_
        refine lv_aload_n hx hb dX7_look_123 rfl (lv_at hl 0 rfl) ?_
        refine g_get C E 0 4 (fun _ h => List.mem_cons_of_mem _ (List.mem_append_right _ h)) rfl rfl (by decide) (List.mem_of_getElem? (i := 9) rfl) rfl rfl dX7_look_124 ?_
        refine lv_icmp_lt (tgt := 140) hx hb dX7_look_127 (by decide) (fun c25 => ?_) (fun c25 => ?_)
        · rw [if_pos c25] at hf
          refine lv_lconst (v := 0) hx hb dX7_look_140 (by decide) ?_
          refine lv_ladd hx hb dX7_look_141 ?_
          refine lv_lstore (lv' := [(4, .long (x4 + (0 : Int64))), (0, .ref (b 0)), (1, .int x1), (2, .int x2), (3, .int x3), (6, .int x6)]) hx hb dX7_look_142 hl (by decide) rfl (fun ls hl => ?_)
          refine lv_iinc (v := (x6 + 1)) (lv' := [(6, .int (x6 + 1)), (4, .long (x4 + (0 : Int64))), (0, .ref (b 0)), (1, .int x1), (2, .int x2), (3, .int x3)]) hx hb dX7_look_144 hl (k := 5) rfl rfl (by decide) rfl (fun ls hl => ?_)
          refine lv_goto (tgt := 94) hx hb dX7_look_147 (by decide) ?_
          exact ih (x4 + (0 : Int64)) (x6 + 1) _ _ _ E (lv_sub hl [2, 3, 4, 5, 1, 0] rfl) hf
        · rw [if_neg c25] at hf
          refine lv_aload_n hx hb dX7_look_130 rfl (lv_at hl 0 rfl) ?_
          refine g_get C E 0 25 (fun _ h => List.mem_cons_of_mem _ (List.mem_append_right _ h)) rfl rfl (by decide) (List.mem_of_getElem? (i := 10) rfl) rfl rfl dX7_look_131 ?_
          refine lv_iload hx hb dX7_look_134 (lv_at hl 5 rfl) ?_
          obtain ⟨h26, hf⟩ := ck_some hf
          refine g_lald C E 17 rfl h26 dX7_look_136 ?_
          refine lv_goto (tgt := 141) hx hb dX7_look_137 (by decide) ?_
          refine lv_ladd hx hb dX7_look_141 ?_
          refine lv_lstore (lv' := [(4, .long (x4 + (mpl x6.toNatClampNeg))), (0, .ref (b 0)), (1, .int x1), (2, .int x2), (3, .int x3), (6, .int x6)]) hx hb dX7_look_142 hl (by decide) rfl (fun ls hl => ?_)
          refine lv_iinc (v := (x6 + 1)) (lv' := [(6, .int (x6 + 1)), (4, .long (x4 + (mpl x6.toNatClampNeg))), (0, .ref (b 0)), (1, .int x1), (2, .int x2), (3, .int x3)]) hx hb dX7_look_144 hl (k := 5) rfl rfl (by decide) rfl (fun ls hl => ?_)
          refine lv_goto (tgt := 94) hx hb dX7_look_147 (by decide) ?_
          exact ih (x4 + (mpl x6.toNatClampNeg)) (x6 + 1) _ _ _ E (lv_sub hl [2, 3, 4, 5, 1, 0] rfl) hf
def f_X7_look_L42 (mth : Int32) (mlo : Int32) (mpr : Int32) (mto : Int32) (mvl : Nat → Int32) (mhs : Nat → Int32) (mns : Nat → Int32) (mby : Nat → Int32) (mng : Nat → Int32) (mlg : Nat → Int32) (mll : Nat → Int64) (mld : Nat → Int64) (mpg : Nat → Int32) (mpu : Nat → Int32) (mpl : Nat → Int64) (x1 : Int32) (x2 : Int32) : Nat → Int32 → Int32 → Option (Int64 × (Int32))
  | 0, _, _ => none
  | n + 1, x3, x4 =>
  if mlo ≤ x4 then
    f_X7_look_L94 mth mlo mpr mto mvl mhs mns mby mng mlg mll mld mpg mpu mpl x1 x2 x3 FU (0 : Int64) (0 : Int32)
  else
    ck x4 200 <|
    if (mlg x4.toNatClampNeg) = x1 then
      ck x4 200 <|
      if (lg_cmp (mll x4.toNatClampNeg) (0 : Int64)) ≤ 0 then
        f_X7_look_L42 mth mlo mpr mto mvl mhs mns mby mng mlg mll mld mpg mpu mpl x1 x2 n (x3 + (0 : Int32)) (x4 + 1)
      else
        f_X7_look_L42 mth mlo mpr mto mvl mhs mns mby mng mlg mll mld mpg mpu mpl x1 x2 n (x3 + (1 : Int32)) (x4 + 1)
    else
      f_X7_look_L42 mth mlo mpr mto mvl mhs mns mby mng mlg mll mld mpg mpu mpl x1 x2 n (x3 + (0 : Int32)) (x4 + 1)
set_option maxHeartbeats 4000000 in
set_option maxRecDepth 100000 in
theorem w_X7_look_L42 {p : Program} {l : Launch} {e : Env} {s : State} {m : MethodId} {args : Array Value} {below : List Frame} {meth : Method} {c : Code} {A : Nat → Prop} {D : va_G} {cI cJ cZ : ClassId} {b : Nat → Nat} {mth : Int32} {mlo : Int32} {mre : Int32} {mpr : Int32} {mto : Int32} {mim : Int64} {mdi : Int64} {mow : Int64} {mit : Int64} {mvl : Nat → Int32} {mhs : Nat → Int32} {mns : Nat → Int32} {mby : Nat → Int32} {mng : Nat → Int32} {mnu : Nat → Int32} {mnd : Nat → Int32} {mbg : Nat → Int32} {mbu : Nat → Int32} {mbd : Nat → Int32} {mlg : Nat → Int32} {mly : Nat → Int32} {mll : Nat → Int64} {mld : Nat → Int64} {mpg : Nat → Int32} {mpu : Nat → Int32} {mpl : Nat → Int64} {mtd : Int64} {mti : Int64} {mwt : Nat → Int64} {mch : Nat → Int64} (C : gC p s m args meth c cX7_look 7 (some .long) wsX7_look RX7 A) {x1 : Int32} {x2 : Int32} {o : Int64 × (Int32)} :
    ∀ (n : Nat) (x3 : Int32) (x4 : Int32) (H : Heap) (locs : List Loc) (ls : Array Slot), vE s A D (gT cI cJ cZ) (mW b cI cJ cZ mth mlo mre mpr mto mim mdi mow mit mvl mhs mns mby mng mnu mnd mbg mbu mbd mlg mly mll mld mpg mpu mpl mtd mti mwt mch) H locs → lv_has ls 7 [(0, .ref (b 0)), (1, .int x1), (2, .int x2), (3, .int x3), (4, .int x4)] → f_X7_look_L42 mth mlo mpr mto mvl mhs mns mby mng mlg mll mld mpg mpu mpl x1 x2 n x3 x4 = some o → W p l e rm_X7_look s m args below meth c H locs 0 0 (MQ below (gQl D (gT cI cJ cZ) A (mW b cI cJ cZ o.2 mlo mre mpr mto mim mdi mow mit mvl mhs mns mby mng mnu mnd mbg mbu mbd mlg mly mll mld mpg mpu mpl mtd mti mwt mch) o.1) args s 0 0 A) (F0 m 42 ls []) := by
  obtain ⟨hx, hb, hr, hml, hown, hts, hlocks, hN, hA⟩ := id C
  intro n
  induction n with
  | zero =>
    intro x3 x4 H locs ls E hl hf
    rw [f_X7_look_L42] at hf
    cases hf
  | succ n ih =>
    intro x3 x4 H locs ls E hl hf
    rw [f_X7_look_L42] at hf
    refine lv_iload hx hb dX7_look_42 (lv_at hl 4 rfl) ?_
    refine lv_aload_n hx hb dX7_look_44 rfl (lv_at hl 0 rfl) ?_
    refine g_get C E 0 1 (fun _ h => List.mem_cons_of_mem _ (List.mem_append_right _ h)) rfl rfl (by decide) (List.mem_of_getElem? (i := 3) rfl) rfl rfl dX7_look_45 ?_
    refine lv_icmp_ge (tgt := 88) hx hb dX7_look_48 (by decide) (fun c1 => ?_) (fun c1 => ?_)
    · rw [if_pos c1] at hf
      refine lv_lconst (v := 0) hx hb dX7_look_88 (by decide) ?_
      refine lv_lstore (lv' := [(4, .long (0 : Int64)), (0, .ref (b 0)), (1, .int x1), (2, .int x2), (3, .int x3)]) hx hb dX7_look_89 hl (by decide) rfl (fun ls hl => ?_)
      refine lv_iconst (v := 0) hx hb dX7_look_91 (by decide) ?_
      refine lv_istore (lv' := [(6, .int (0 : Int32)), (4, .long (0 : Int64)), (0, .ref (b 0)), (1, .int x1), (2, .int x2), (3, .int x3)]) hx hb dX7_look_92 hl (by decide) rfl (fun ls hl => ?_)
      exact w_X7_look_L94 C  FU (0 : Int64) (0 : Int32) _ _ _ E (lv_sub hl [2, 3, 4, 5, 1, 0] rfl) hf
    · rw [if_neg c1] at hf
      refine lv_iload_n hx hb dX7_look_51 rfl (lv_at hl 3 rfl) ?_
      refine lv_aload_n hx hb dX7_look_52 rfl (lv_at hl 0 rfl) ?_
      refine g_get C E 0 19 (fun _ h => List.mem_cons_of_mem _ (List.mem_append_right _ h)) rfl rfl (by decide) (List.mem_of_getElem? (i := 4) rfl) rfl rfl dX7_look_53 ?_
      refine lv_iload hx hb dX7_look_56 (lv_at hl 4 rfl) ?_
      obtain ⟨h2, hf⟩ := ck_some hf
      refine g_iald C E 11 rfl h2 dX7_look_58 ?_
      refine lv_iload_n hx hb dX7_look_59 rfl (lv_at hl 1 rfl) ?_
      refine lv_icmp_ne (tgt := 79) hx hb dX7_look_60 (by decide) (fun c3 => ?_) (fun c3 => ?_)
      · rw [if_neg c3] at hf
        refine lv_iconst (v := 0) hx hb dX7_look_79 (by decide) ?_
        refine lv_iadd hx hb dX7_look_80 ?_
        refine lv_istore_n (lv' := [(3, .int (x3 + (0 : Int32))), (0, .ref (b 0)), (1, .int x1), (2, .int x2), (4, .int x4)]) hx hb dX7_look_81 rfl hl (by decide) rfl (fun ls hl => ?_)
        refine lv_iinc (v := (x4 + 1)) (lv' := [(4, .int (x4 + 1)), (3, .int (x3 + (0 : Int32))), (0, .ref (b 0)), (1, .int x1), (2, .int x2)]) hx hb dX7_look_82 hl (k := 4) rfl rfl (by decide) rfl (fun ls hl => ?_)
        refine lv_goto (tgt := 42) hx hb dX7_look_85 (by decide) ?_
        exact ih (x3 + (0 : Int32)) (x4 + 1) _ _ _ E (lv_sub hl [2, 3, 4, 1, 0] rfl) hf
      · rw [if_pos c3] at hf
        refine lv_aload_n hx hb dX7_look_63 rfl (lv_at hl 0 rfl) ?_
        refine g_get C E 0 21 (fun _ h => List.mem_cons_of_mem _ (List.mem_append_right _ h)) rfl rfl (by decide) (List.mem_of_getElem? (i := 5) rfl) rfl rfl dX7_look_64 ?_
        refine lv_iload hx hb dX7_look_67 (lv_at hl 4 rfl) ?_
        obtain ⟨h4, hf⟩ := ck_some hf
        refine g_lald C E 13 rfl h4 dX7_look_69 ?_
        refine lv_lconst (v := 0) hx hb dX7_look_70 (by decide) ?_
        refine W.lcmp hx hb dX7_look_71 ?_
        refine lv_if_le (tgt := 79) hx hb dX7_look_72 (by decide) (fun c5 => ?_) (fun c5 => ?_)
        · rw [if_pos c5] at hf
          refine lv_iconst (v := 0) hx hb dX7_look_79 (by decide) ?_
          refine lv_iadd hx hb dX7_look_80 ?_
          refine lv_istore_n (lv' := [(3, .int (x3 + (0 : Int32))), (0, .ref (b 0)), (1, .int x1), (2, .int x2), (4, .int x4)]) hx hb dX7_look_81 rfl hl (by decide) rfl (fun ls hl => ?_)
          refine lv_iinc (v := (x4 + 1)) (lv' := [(4, .int (x4 + 1)), (3, .int (x3 + (0 : Int32))), (0, .ref (b 0)), (1, .int x1), (2, .int x2)]) hx hb dX7_look_82 hl (k := 4) rfl rfl (by decide) rfl (fun ls hl => ?_)
          refine lv_goto (tgt := 42) hx hb dX7_look_85 (by decide) ?_
          exact ih (x3 + (0 : Int32)) (x4 + 1) _ _ _ E (lv_sub hl [2, 3, 4, 1, 0] rfl) hf
        · rw [if_neg c5] at hf
          refine lv_iconst (v := 1) hx hb dX7_look_75 (by decide) ?_
          refine lv_goto (tgt := 80) hx hb dX7_look_76 (by decide) ?_
          refine lv_iadd hx hb dX7_look_80 ?_
          refine lv_istore_n (lv' := [(3, .int (x3 + (1 : Int32))), (0, .ref (b 0)), (1, .int x1), (2, .int x2), (4, .int x4)]) hx hb dX7_look_81 rfl hl (by decide) rfl (fun ls hl => ?_)
          refine lv_iinc (v := (x4 + 1)) (lv' := [(4, .int (x4 + 1)), (3, .int (x3 + (1 : Int32))), (0, .ref (b 0)), (1, .int x1), (2, .int x2)]) hx hb dX7_look_82 hl (k := 4) rfl rfl (by decide) rfl (fun ls hl => ?_)
          refine lv_goto (tgt := 42) hx hb dX7_look_85 (by decide) ?_
          exact ih (x3 + (1 : Int32)) (x4 + 1) _ _ _ E (lv_sub hl [2, 3, 4, 1, 0] rfl) hf
def f_X7_look_J25 (mlo : Int32) (mpr : Int32) (mto : Int32) (mvl : Nat → Int32) (mhs : Nat → Int32) (mns : Nat → Int32) (mby : Nat → Int32) (mng : Nat → Int32) (mlg : Nat → Int32) (mll : Nat → Int64) (mld : Nat → Int64) (mpg : Nat → Int32) (mpu : Nat → Int32) (mpl : Nat → Int64) (x1 : Int32) (x2 : Int32) (t1 : Int32) : Option (Int64 × (Int32)) :=
  if t1 ≤ 0 then
    f_X7_look_L42 t1 mlo mpr mto mvl mhs mns mby mng mlg mll mld mpg mpu mpl x1 x2 FU (0 : Int32) (0 : Int32)
  else
    some ((0 : Int64), t1)
set_option maxHeartbeats 4000000 in
set_option maxRecDepth 100000 in
theorem w_X7_look_J25 {p : Program} {l : Launch} {e : Env} {s : State} {m : MethodId} {args : Array Value} {below : List Frame} {meth : Method} {c : Code} {A : Nat → Prop} {D : va_G} {cI cJ cZ : ClassId} {b : Nat → Nat} {mth : Int32} {mlo : Int32} {mre : Int32} {mpr : Int32} {mto : Int32} {mim : Int64} {mdi : Int64} {mow : Int64} {mit : Int64} {mvl : Nat → Int32} {mhs : Nat → Int32} {mns : Nat → Int32} {mby : Nat → Int32} {mng : Nat → Int32} {mnu : Nat → Int32} {mnd : Nat → Int32} {mbg : Nat → Int32} {mbu : Nat → Int32} {mbd : Nat → Int32} {mlg : Nat → Int32} {mly : Nat → Int32} {mll : Nat → Int64} {mld : Nat → Int64} {mpg : Nat → Int32} {mpu : Nat → Int32} {mpl : Nat → Int64} {mtd : Int64} {mti : Int64} {mwt : Nat → Int64} {mch : Nat → Int64} (C : gC p s m args meth c cX7_look 7 (some .long) wsX7_look RX7 A) {x1 : Int32} {x2 : Int32} {o : Int64 × (Int32)} {t1 : Int32} {H : Heap} {locs : List Loc} {ls : Array Slot} (E : vE s A D (gT cI cJ cZ) (mW b cI cJ cZ mth mlo mre mpr mto mim mdi mow mit mvl mhs mns mby mng mnu mnd mbg mbu mbd mlg mly mll mld mpg mpu mpl mtd mti mwt mch) H locs) (hl : lv_has ls 7 [(0, .ref (b 0)), (1, .int x1), (2, .int x2)]) (hf : f_X7_look_J25 mlo mpr mto mvl mhs mns mby mng mlg mll mld mpg mpu mpl x1 x2 t1 = some o) : W p l e rm_X7_look s m args below meth c H locs 0 0 (MQ below (gQl D (gT cI cJ cZ) A (mW b cI cJ cZ o.2 mlo mre mpr mto mim mdi mow mit mvl mhs mns mby mng mnu mnd mbg mbu mbd mlg mly mll mld mpg mpu mpl mtd mti mwt mch) o.1) args s 0 0 A) (F0 m 25 ls [.int t1, .ref (b 0)]) := by
  obtain ⟨hx, hb, hr, hml, hown, hts, hlocks, hN, hA⟩ := id C
  rw [f_X7_look_J25] at hf
  refine g_put (w' := (mW b cI cJ cZ t1 mlo mre mpr mto mim mdi mow mit mvl mhs mns mby mng mnu mnd mbg mbu mbd mlg mly mll mld mpg mpu mpl mtd mti mwt mch)) C E 0 0 tyX7 tyX7_ok nmX7 (fun _ h => List.mem_cons_of_mem _ (List.mem_append_right _ h)) rfl rfl (by decide) (List.mem_of_getElem? (i := 2) rfl) rfl rfl rfl rfl rfl (Nat.le_of_ble_eq_true rfl) dX7_look_25 rfl (fun H locs E => ?_)
  refine lv_aload_n hx hb dX7_look_28 rfl (lv_at hl 0 rfl) ?_
  refine g_get C E 0 0 (fun _ h => List.mem_cons_of_mem _ (List.mem_append_right _ h)) rfl rfl (by decide) (List.mem_of_getElem? (i := 2) rfl) rfl rfl dX7_look_29 ?_
  refine lv_if_le (tgt := 37) hx hb dX7_look_32 (by decide) (fun c1 => ?_) (fun c1 => ?_)
  · rw [if_pos c1] at hf
    refine lv_iconst (v := 0) hx hb dX7_look_37 (by decide) ?_
    refine lv_istore_n (lv' := [(3, .int (0 : Int32)), (0, .ref (b 0)), (1, .int x1), (2, .int x2)]) hx hb dX7_look_38 rfl hl (by decide) rfl (fun ls hl => ?_)
    refine lv_iconst (v := 0) hx hb dX7_look_39 (by decide) ?_
    refine lv_istore (lv' := [(4, .int (0 : Int32)), (3, .int (0 : Int32)), (0, .ref (b 0)), (1, .int x1), (2, .int x2)]) hx hb dX7_look_40 hl (by decide) rfl (fun ls hl => ?_)
    exact w_X7_look_L42 C  FU (0 : Int32) (0 : Int32) _ _ _ E (lv_sub hl [2, 3, 4, 1, 0] rfl) hf
  · rw [if_neg c1] at hf
    refine lv_lconst (v := 0) hx hb dX7_look_35 (by decide) ?_
    obtain rfl := Option.some.inj hf
    exact g_lret C E dX7_look_36
def f_X7_look_J24 (mlo : Int32) (mpr : Int32) (mto : Int32) (mvl : Nat → Int32) (mhs : Nat → Int32) (mns : Nat → Int32) (mby : Nat → Int32) (mng : Nat → Int32) (mlg : Nat → Int32) (mll : Nat → Int64) (mld : Nat → Int64) (mpg : Nat → Int32) (mpu : Nat → Int32) (mpl : Nat → Int64) (x1 : Int32) (x2 : Int32) : Option (Int64 × (Int32)) :=
  f_X7_look_J25 mlo mpr mto mvl mhs mns mby mng mlg mll mld mpg mpu mpl x1 x2 (1 : Int32)
set_option maxHeartbeats 4000000 in
set_option maxRecDepth 100000 in
theorem w_X7_look_J24 {p : Program} {l : Launch} {e : Env} {s : State} {m : MethodId} {args : Array Value} {below : List Frame} {meth : Method} {c : Code} {A : Nat → Prop} {D : va_G} {cI cJ cZ : ClassId} {b : Nat → Nat} {mth : Int32} {mlo : Int32} {mre : Int32} {mpr : Int32} {mto : Int32} {mim : Int64} {mdi : Int64} {mow : Int64} {mit : Int64} {mvl : Nat → Int32} {mhs : Nat → Int32} {mns : Nat → Int32} {mby : Nat → Int32} {mng : Nat → Int32} {mnu : Nat → Int32} {mnd : Nat → Int32} {mbg : Nat → Int32} {mbu : Nat → Int32} {mbd : Nat → Int32} {mlg : Nat → Int32} {mly : Nat → Int32} {mll : Nat → Int64} {mld : Nat → Int64} {mpg : Nat → Int32} {mpu : Nat → Int32} {mpl : Nat → Int64} {mtd : Int64} {mti : Int64} {mwt : Nat → Int64} {mch : Nat → Int64} (C : gC p s m args meth c cX7_look 7 (some .long) wsX7_look RX7 A) {x1 : Int32} {x2 : Int32} {o : Int64 × (Int32)} {H : Heap} {locs : List Loc} {ls : Array Slot} (E : vE s A D (gT cI cJ cZ) (mW b cI cJ cZ mth mlo mre mpr mto mim mdi mow mit mvl mhs mns mby mng mnu mnd mbg mbu mbd mlg mly mll mld mpg mpu mpl mtd mti mwt mch) H locs) (hl : lv_has ls 7 [(0, .ref (b 0)), (1, .int x1), (2, .int x2)]) (hf : f_X7_look_J24 mlo mpr mto mvl mhs mns mby mng mlg mll mld mpg mpu mpl x1 x2 = some o) : W p l e rm_X7_look s m args below meth c H locs 0 0 (MQ below (gQl D (gT cI cJ cZ) A (mW b cI cJ cZ o.2 mlo mre mpr mto mim mdi mow mit mvl mhs mns mby mng mnu mnd mbg mbu mbd mlg mly mll mld mpg mpu mpl mtd mti mwt mch) o.1) args s 0 0 A) (F0 m 24 ls [.ref (b 0)]) := by
  obtain ⟨hx, hb, hr, hml, hown, hts, hlocks, hN, hA⟩ := id C
  rw [f_X7_look_J24] at hf
  refine lv_iconst (v := 1) hx hb dX7_look_24 (by decide) ?_
  exact w_X7_look_J25 C  E (lv_sub hl [0, 1, 2] rfl) hf
def f_X7_look (mth : Int32) (mlo : Int32) (mpr : Int32) (mto : Int32) (mvl : Nat → Int32) (mhs : Nat → Int32) (mns : Nat → Int32) (mby : Nat → Int32) (mng : Nat → Int32) (mlg : Nat → Int32) (mll : Nat → Int64) (mld : Nat → Int64) (mpg : Nat → Int32) (mpu : Nat → Int32) (mpl : Nat → Int64) (x1 : Int32) (x2 : Int32) : Option (Int64 × (Int32)) :=
  (f_X7_isGood x1).bind fun o1 =>
  if o1 = 0 then
    f_X7_look_J24 mlo mpr mto mvl mhs mns mby mng mlg mll mld mpg mpu mpl x1 x2 
  else
    (f_X7_within x2.toInt64 (0 : Int64) (7 : Int64)).bind fun o4 =>
    if o4 = 0 then
      f_X7_look_J24 mlo mpr mto mvl mhs mns mby mng mlg mll mld mpg mpu mpl x1 x2 
    else
      f_X7_look_J25 mlo mpr mto mvl mhs mns mby mng mlg mll mld mpg mpu mpl x1 x2 (0 : Int32)
set_option maxHeartbeats 4000000 in
set_option maxRecDepth 100000 in
theorem c_X7_look {l : Launch} {D : va_G} {cI cJ cZ : ClassId} {b : Nat → Nat} {sz : Nat} {mth : Int32} {mlo : Int32} {mre : Int32} {mpr : Int32} {mto : Int32} {mim : Int64} {mdi : Int64} {mow : Int64} {mit : Int64} {mvl : Nat → Int32} {mhs : Nat → Int32} {mns : Nat → Int32} {mby : Nat → Int32} {mng : Nat → Int32} {mnu : Nat → Int32} {mnd : Nat → Int32} {mbg : Nat → Int32} {mbu : Nat → Int32} {mbd : Nat → Int32} {mlg : Nat → Int32} {mly : Nat → Int32} {mll : Nat → Int64} {mld : Nat → Int64} {mpg : Nat → Int32} {mpu : Nat → Int32} {mpl : Nat → Int64} {mtd : Int64} {mti : Int64} {mwt : Nat → Int64} {mch : Nat → Int64} {x1 : Int32} {x2 : Int32} {o : Int64 × (Int32)} (hf : f_X7_look mth mlo mpr mto mvl mhs mns mby mng mlg mll mld mpg mpu mpl x1 x2 = some o) : gMl l yX7_look wsX7_look rm_X7_look D (gT cI cJ cZ) (mW b cI cJ cZ mth mlo mre mpr mto mim mdi mow mit mvl mhs mns mby mng mnu mnd mbg mbu mbd mlg mly mll mld mpg mpu mpl mtd mti mwt mch) (mW b cI cJ cZ o.2 mlo mre mpr mto mim mdi mow mit mvl mhs mns mby mng mnu mnd mbg mbu mbd mlg mly mll mld mpg mpu mpl mtd mti mwt mch) sz [.ref (b 0), .int x1, .int x2] o.1 := by
  refine g_of (cc := cX7_look) (maxL := 7) (ret := (some .long)) (by decide) rfl (Nat.le_of_ble_eq_true rfl) ?_
  intro p e s m below meth c A ls hAe C hl E
  rw [← hAe]
  obtain ⟨hx, hb, hr, hml, hown, hts, hlocks, hN, hA⟩ := id C
  have hl : lv_has ls 7 [(0, .ref (b 0)), (1, .int x1), (2, .int x2)] := hl
  have E : vE s A D (gT cI cJ cZ) (mW b cI cJ cZ mth mlo mre mpr mto mim mdi mow mit mvl mhs mns mby mng mnu mnd mbg mbu mbd mlg mly mll mld mpg mpu mpl mtd mti mwt mch) s.heap [] := E
  rw [f_X7_look] at hf
  refine lv_aload_n hx hb dX7_look_0 rfl (lv_at hl 0 rfl) ?_
  refine lv_iload_n hx hb dX7_look_1 rfl (lv_at hl 1 rfl) ?_
  obtain ⟨o1, e2, hf⟩ := bd_some hf
  refine g_calli (w' := (mW b cI cJ cZ mth mlo mre mpr mto mim mdi mow mit mvl mhs mns mby mng mnu mnd mbg mbu mbd mlg mly mll mld mpg mpu mpl mtd mti mwt mch)) C E (g_runS (As := [.int x1]) (rest := [.ref (b 0)]) C E (c_X7_isGood e2) (va_cwS 1 hts gX7_look_X7_isGood rfl rfl rfl hd_X7_isGood ⟨Nat.le_of_ble_eq_true rfl, Nat.le_of_ble_eq_true rfl⟩) rfl hl.1 rfl (Nat.le_of_ble_eq_true rfl) dX7_look_2 ⟨Nat.le_of_ble_eq_true rfl, Nat.le_of_ble_eq_true rfl⟩) (fun H locs E => ?_)
  refine lv_if_eq (tgt := 24) hx hb dX7_look_5 (by decide) (fun c3 => ?_) (fun c3 => ?_)
  · rw [if_pos c3] at hf
    exact w_X7_look_J24 C  E (lv_sub hl [0, 1, 2] rfl) hf
  · rw [if_neg c3] at hf
    refine lv_iload_n hx hb dX7_look_8 rfl (lv_at hl 2 rfl) ?_
    refine lv_i2l hx hb dX7_look_9 rfl ?_
    refine lv_lconst (v := 0) hx hb dX7_look_10 (by decide) ?_
    refine lv_ldc2 (v := 7) hx hb hown (hts (.constantLong RX7 179 (7)) (List.mem_of_getElem? (i := 1) rfl)) dX7_look_11 ?_
    obtain ⟨o4, e5, hf⟩ := bd_some hf
    refine g_calli (w' := (mW b cI cJ cZ mth mlo mre mpr mto mim mdi mow mit mvl mhs mns mby mng mnu mnd mbg mbu mbd mlg mly mll mld mpg mpu mpl mtd mti mwt mch)) C E (g_runS (As := [.long x2.toInt64, .long (0 : Int64), .long (7 : Int64)]) (rest := [.ref (b 0)]) C E (c_X7_within e5) (va_cwS 3 hts gX7_look_X7_within rfl rfl rfl hd_X7_within ⟨Nat.le_of_ble_eq_true rfl, Nat.le_of_ble_eq_true rfl⟩) rfl hl.1 rfl (Nat.le_of_ble_eq_true rfl) dX7_look_14 ⟨Nat.le_of_ble_eq_true rfl, Nat.le_of_ble_eq_true rfl⟩) (fun H locs E => ?_)
    refine lv_if_eq (tgt := 24) hx hb dX7_look_17 (by decide) (fun c6 => ?_) (fun c6 => ?_)
    · rw [if_pos c6] at hf
      exact w_X7_look_J24 C  E (lv_sub hl [0, 1, 2] rfl) hf
    · rw [if_neg c6] at hf
      refine lv_iconst (v := 0) hx hb dX7_look_20 (by decide) ?_
      refine lv_goto (tgt := 25) hx hb dX7_look_21 (by decide) ?_
      exact w_X7_look_J25 C  E (lv_sub hl [0, 1, 2] rfl) hf
