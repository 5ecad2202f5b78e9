abbrev rm_X7_export : Room := { frames := 2, cells := 0, slots := 0, locals := 55 }
theorem hd_X7_export : yX7_export.cls ≠ "java/lang/invoke/MethodHandle" ∧ yX7_export.cls ≠ "java/lang/invoke/VarHandle" ∧ (parseMethodDescriptor yX7_export.desc).map (fun d => d.parameters.length) = some 2 := by decide +kernel
def f_X7_export_J18 (mlo : Int32) (mto : Int32) (mdi : Int64) (mlg : Nat → Int32) (mly : Nat → Int32) (mll : Nat → Int64) (mld : Nat → Int64) (mtd : Int64) (mti : Int64) (x1 : Int32) (x2 : Int32) (t1 : Int32) : Option (Int64 × (Int32) × (Int64) × (Nat → Int64) × (Nat → Int64) × (Int64) × (Int64)) :=
  if t1 ≤ 0 then
    (f_X7_stock mlo mlg mll x1).bind fun o2 =>
    if 0 ≤ (lg_cmp o2 x2.toInt64) then
      (f_X7_take mlo mto mlg mly mll mld mtd mti x1 x2.toInt64).bind fun o5 =>
      some (o5.2.2.1, t1, (mdi + o5.2.2.1), o5.1, o5.2.1, o5.2.2.1, o5.2.2.2)
    else
      some ((-1 : Int64), t1, mdi, mll, mld, mtd, mti)
  else
    some ((0 : Int64), t1, mdi, mll, mld, mtd, mti)
set_option maxHeartbeats 4000000 in
set_option maxRecDepth 100000 in
theorem w_X7_export_J18 {p : Program} {l : Launch} {e : Env} {s : State} {m : MethodId} {args : Array Value} {below : List Frame} {meth : Method} {c : Code} {A : Nat → Prop} {D : va_G} {cI cJ cZ : ClassId} {b : Nat → Nat} {mth : Int32} {mlo : Int32} {mre : Int32} {mpr : Int32} {mto : Int32} {mim : Int64} {mdi : Int64} {mow : Int64} {mit : Int64} {mvl : Nat → Int32} {mhs : Nat → Int32} {mns : Nat → Int32} {mby : Nat → Int32} {mng : Nat → Int32} {mnu : Nat → Int32} {mnd : Nat → Int32} {mbg : Nat → Int32} {mbu : Nat → Int32} {mbd : Nat → Int32} {mlg : Nat → Int32} {mly : Nat → Int32} {mll : Nat → Int64} {mld : Nat → Int64} {mpg : Nat → Int32} {mpu : Nat → Int32} {mpl : Nat → Int64} {mtd : Int64} {mti : Int64} {mwt : Nat → Int64} {mch : Nat → Int64} (C : gC p s m args meth c cX7_export 3 (some .long) wsX7_export RX7 A) {x1 : Int32} {x2 : Int32} {o : Int64 × (Int32) × (Int64) × (Nat → Int64) × (Nat → Int64) × (Int64) × (Int64)} {t1 : Int32} {H : Heap} {locs : List Loc} {ls : Array Slot} (E : vE s A D (gT cI cJ cZ) (mW b cI cJ cZ mth mlo mre mpr mto mim mdi mow mit mvl mhs mns mby mng mnu mnd mbg mbu mbd mlg mly mll mld mpg mpu mpl mtd mti mwt mch) H locs) (hl : lv_has ls 3 [(0, .ref (b 0)), (1, .int x1), (2, .int x2)]) (hf : f_X7_export_J18 mlo mto mdi mlg mly mll mld mtd mti x1 x2 t1 = some o) : W p l e rm_X7_export s m args below meth c H locs 0 0 (MQ below (gQl D (gT cI cJ cZ) A (mW b cI cJ cZ o.2.1 mlo mre mpr mto mim o.2.2.1 mow mit mvl mhs mns mby mng mnu mnd mbg mbu mbd mlg mly o.2.2.2.1 o.2.2.2.2.1 mpg mpu mpl o.2.2.2.2.2.1 o.2.2.2.2.2.2 mwt mch) o.1) args s 0 0 A) (F0 m 18 ls [.int t1, .ref (b 0)]) := by
  obtain ⟨hx, hb, hr, hml, hown, hts, hlocks, hN, hA⟩ := id C
  rw [f_X7_export_J18] at hf
  refine g_put (w' := (mW b cI cJ cZ t1 mlo mre mpr mto mim mdi mow mit mvl mhs mns mby mng mnu mnd mbg mbu mbd mlg mly mll mld mpg mpu mpl mtd mti mwt mch)) C E 0 0 tyX7 tyX7_ok nmX7 (fun _ h => List.mem_cons_of_mem _ (List.mem_append_right _ h)) rfl rfl (by decide) (List.mem_of_getElem? (i := 1) rfl) rfl rfl rfl rfl rfl (Nat.le_of_ble_eq_true rfl) dX7_export_18 rfl (fun H locs E => ?_)
  refine lv_aload_n hx hb dX7_export_21 rfl (lv_at hl 0 rfl) ?_
  refine g_get C E 0 0 (fun _ h => List.mem_cons_of_mem _ (List.mem_append_right _ h)) rfl rfl (by decide) (List.mem_of_getElem? (i := 1) rfl) rfl rfl dX7_export_22 ?_
  refine lv_if_le (tgt := 30) hx hb dX7_export_25 (by decide) (fun c1 => ?_) (fun c1 => ?_)
  · rw [if_pos c1] at hf
    refine lv_aload_n hx hb dX7_export_30 rfl (lv_at hl 0 rfl) ?_
    refine lv_iload_n hx hb dX7_export_31 rfl (lv_at hl 1 rfl) ?_
    obtain ⟨o2, e3, hf⟩ := bd_some hf
    refine g_calll (w' := (mW b cI cJ cZ t1 mlo mre mpr mto mim mdi mow mit mvl mhs mns mby mng mnu mnd mbg mbu mbd mlg mly mll mld mpg mpu mpl mtd mti mwt mch)) C E (g_runV (As := [.int x1]) (rest := []) C E (c_X7_stock e3) (cwV 1 hts gX7_export_X7_stock rfl rfl rfl ⟨rfl, hd_X7_stock⟩ ⟨Nat.le_of_ble_eq_true rfl, Nat.le_of_ble_eq_true rfl⟩) (q0 := 0) (ci := 7) rfl rfl rfl rfl hl.1 rfl (Nat.le_of_ble_eq_true rfl) dX7_export_32 ⟨Nat.le_of_ble_eq_true rfl, Nat.le_of_ble_eq_true rfl⟩) (fun H locs E => ?_)
    refine lv_iload_n hx hb dX7_export_35 rfl (lv_at hl 2 rfl) ?_
    refine lv_i2l hx hb dX7_export_36 rfl ?_
    refine W.lcmp hx hb dX7_export_37 ?_
    refine lv_if_ge (tgt := 45) hx hb dX7_export_38 (by decide) (fun c4 => ?_) (fun c4 => ?_)
    · rw [if_pos c4] at hf
      refine lv_aload_n hx hb dX7_export_45 rfl (lv_at hl 0 rfl) ?_
      refine lv_iload_n hx hb dX7_export_46 rfl (lv_at hl 1 rfl) ?_
      refine lv_iload_n hx hb dX7_export_47 rfl (lv_at hl 2 rfl) ?_
      refine lv_i2l hx hb dX7_export_48 rfl ?_
      obtain ⟨o5, e6, hf⟩ := bd_some hf
      refine g_callv (w' := (mW b cI cJ cZ t1 mlo mre mpr mto mim mdi mow mit mvl mhs mns mby mng mnu mnd mbg mbu mbd mlg mly o5.1 o5.2.1 mpg mpu mpl o5.2.2.1 o5.2.2.2 mwt mch)) C E (g_runV (As := [.int x1, .long x2.toInt64]) (rest := []) C E (c_X7_take e6) (cwV 2 hts gX7_export_X7_take rfl rfl rfl ⟨rfl, hd_X7_take⟩ ⟨Nat.le_of_ble_eq_true rfl, Nat.le_of_ble_eq_true rfl⟩) (q0 := 0) (ci := 7) rfl rfl rfl rfl hl.1 rfl (Nat.le_of_ble_eq_true rfl) dX7_export_49 ⟨Nat.le_of_ble_eq_true rfl, Nat.le_of_ble_eq_true rfl⟩) (fun H locs E => ?_)
      refine lv_aload_n hx hb dX7_export_52 rfl (lv_at hl 0 rfl) ?_
      refine lv_dup hx hb dX7_export_53 rfl ?_
      refine g_get C E 0 6 (fun _ h => List.mem_cons_of_mem _ (List.mem_append_right _ h)) rfl rfl (by decide) (List.mem_of_getElem? (i := 3) rfl) rfl rfl dX7_export_54 ?_
      refine lv_aload_n hx hb dX7_export_57 rfl (lv_at hl 0 rfl) ?_
      refine g_get C E 0 26 (fun _ h => List.mem_cons_of_mem _ (List.mem_append_right _ h)) rfl rfl (by decide) (List.mem_of_getElem? (i := 4) rfl) rfl rfl dX7_export_58 ?_
      refine lv_ladd hx hb dX7_export_61 ?_
      refine g_put (w' := (mW b cI cJ cZ t1 mlo mre mpr mto mim (mdi + o5.2.2.1) mow mit mvl mhs mns mby mng mnu mnd mbg mbu mbd mlg mly o5.1 o5.2.1 mpg mpu mpl o5.2.2.1 o5.2.2.2 mwt mch)) C E 0 6 tyX7 tyX7_ok nmX7 (fun _ h => List.mem_cons_of_mem _ (List.mem_append_right _ h)) rfl rfl (by decide) (List.mem_of_getElem? (i := 3) rfl) rfl rfl rfl rfl rfl (Nat.le_of_ble_eq_true rfl) dX7_export_62 rfl (fun H locs E => ?_)
      refine lv_aload_n hx hb dX7_export_65 rfl (lv_at hl 0 rfl) ?_
      refine g_get C E 0 26 (fun _ h => List.mem_cons_of_mem _ (List.mem_append_right _ h)) rfl rfl (by decide) (List.mem_of_getElem? (i := 4) rfl) rfl rfl dX7_export_66 ?_
      obtain rfl := Option.some.inj hf
      exact g_lret C E dX7_export_69
    · rw [if_neg c4] at hf
      refine lv_ldc2 (v := -1) hx hb hown (hts (.constantLong RX7 163 (-1)) (List.mem_of_getElem? (i := 2) rfl)) dX7_export_41 ?_
      obtain rfl := Option.some.inj hf
      exact g_lret C E dX7_export_44
  · rw [if_neg c1] at hf
    refine lv_lconst (v := 0) hx hb dX7_export_28 (by decide) ?_
    obtain rfl := Option.some.inj hf
    exact g_lret C E dX7_export_29
def f_X7_export_J17 (mlo : Int32) (mto : Int32) (mdi : Int64) (mlg : Nat → Int32) (mly : Nat → Int32) (mll : Nat → Int64) (mld : Nat → Int64) (mtd : Int64) (mti : Int64) (x1 : Int32) (x2 : Int32) : Option (Int64 × (Int32) × (Int64) × (Nat → Int64) × (Nat → Int64) × (Int64) × (Int64)) :=
  f_X7_export_J18 mlo mto mdi mlg mly mll mld mtd mti x1 x2 (1 : Int32)
set_option maxHeartbeats 4000000 in
set_option maxRecDepth 100000 in
theorem w_X7_export_J17 {p : Program} {l : Launch} {e : Env} {s : State} {m : MethodId} {args : Array Value} {below : List Frame} {meth : Method} {c : Code} {A : Nat → Prop} {D : va_G} {cI cJ cZ : ClassId} {b : Nat → Nat} {mth : Int32} {mlo : Int32} {mre : Int32} {mpr : Int32} {mto : Int32} {mim : Int64} {mdi : Int64} {mow : Int64} {mit : Int64} {mvl : Nat → Int32} {mhs : Nat → Int32} {mns : Nat → Int32} {mby : Nat → Int32} {mng : Nat → Int32} {mnu : Nat → Int32} {mnd : Nat → Int32} {mbg : Nat → Int32} {mbu : Nat → Int32} {mbd : Nat → Int32} {mlg : Nat → Int32} {mly : Nat → Int32} {mll : Nat → Int64} {mld : Nat → Int64} {mpg : Nat → Int32} {mpu : Nat → Int32} {mpl : Nat → Int64} {mtd : Int64} {mti : Int64} {mwt : Nat → Int64} {mch : Nat → Int64} (C : gC p s m args meth c cX7_export 3 (some .long) wsX7_export RX7 A) {x1 : Int32} {x2 : Int32} {o : Int64 × (Int32) × (Int64) × (Nat → Int64) × (Nat → Int64) × (Int64) × (Int64)} {H : Heap} {locs : List Loc} {ls : Array Slot} (E : vE s A D (gT cI cJ cZ) (mW b cI cJ cZ mth mlo mre mpr mto mim mdi mow mit mvl mhs mns mby mng mnu mnd mbg mbu mbd mlg mly mll mld mpg mpu mpl mtd mti mwt mch) H locs) (hl : lv_has ls 3 [(0, .ref (b 0)), (1, .int x1), (2, .int x2)]) (hf : f_X7_export_J17 mlo mto mdi mlg mly mll mld mtd mti x1 x2 = some o) : W p l e rm_X7_export s m args below meth c H locs 0 0 (MQ below (gQl D (gT cI cJ cZ) A (mW b cI cJ cZ o.2.1 mlo mre mpr mto mim o.2.2.1 mow mit mvl mhs mns mby mng mnu mnd mbg mbu mbd mlg mly o.2.2.2.1 o.2.2.2.2.1 mpg mpu mpl o.2.2.2.2.2.1 o.2.2.2.2.2.2 mwt mch) o.1) args s 0 0 A) (F0 m 17 ls [.ref (b 0)]) := by
  obtain ⟨hx, hb, hr, hml, hown, hts, hlocks, hN, hA⟩ := id C
  rw [f_X7_export_J17] at hf
  refine lv_iconst (v := 1) hx hb dX7_export_17 (by decide) ?_
  exact w_X7_export_J18 C  E (lv_sub hl [0, 1, 2] rfl) hf
def f_X7_export (mth : Int32) (mlo : Int32) (mto : Int32) (mdi : Int64) (mlg : Nat → Int32) (mly : Nat → Int32) (mll : Nat → Int64) (mld : Nat → Int64) (mtd : Int64) (mti : Int64) (x1 : Int32) (x2 : Int32) : Option (Int64 × (Int32) × (Int64) × (Nat → Int64) × (Nat → Int64) × (Int64) × (Int64)) :=
  (f_X7_isGood x1).bind fun o1 =>
  if o1 = 0 then
    f_X7_export_J17 mlo mto mdi mlg mly mll mld mtd mti x1 x2 
  else
    if x2 < (1 : Int32) then
      f_X7_export_J17 mlo mto mdi mlg mly mll mld mtd mti x1 x2 
    else
      f_X7_export_J18 mlo mto mdi mlg mly mll mld mtd mti x1 x2 (0 : Int32)
set_option maxHeartbeats 4000000 in
set_option maxRecDepth 100000 in
theorem c_X7_export {l : Launch} {D : va_G} {cI cJ cZ : ClassId} {b : Nat → Nat} {sz : Nat} {mth : Int32} {mlo : Int32} {mre : Int32} {mpr : Int32} {mto : Int32} {mim : Int64} {mdi : Int64} {mow : Int64} {mit : Int64} {mvl : Nat → Int32} {mhs : Nat → Int32} {mns : Nat → Int32} {mby : Nat → Int32} {mng : Nat → Int32} {mnu : Nat → Int32} {mnd : Nat → Int32} {mbg : Nat → Int32} {mbu : Nat → Int32} {mbd : Nat → Int32} {mlg : Nat → Int32} {mly : Nat → Int32} {mll : Nat → Int64} {mld : Nat → Int64} {mpg : Nat → Int32} {mpu : Nat → Int32} {mpl : Nat → Int64} {mtd : Int64} {mti : Int64} {mwt : Nat → Int64} {mch : Nat → Int64} {x1 : Int32} {x2 : Int32} {o : Int64 × (Int32) × (Int64) × (Nat → Int64) × (Nat → Int64) × (Int64) × (Int64)} (hf : f_X7_export mth mlo mto mdi mlg mly mll mld mtd mti x1 x2 = some o) : gMl l yX7_export wsX7_export rm_X7_export D (gT cI cJ cZ) (mW b cI cJ cZ mth mlo mre mpr mto mim mdi mow mit mvl mhs mns mby mng mnu mnd mbg mbu mbd mlg mly mll mld mpg mpu mpl mtd mti mwt mch) (mW b cI cJ cZ o.2.1 mlo mre mpr mto mim o.2.2.1 mow mit mvl mhs mns mby mng mnu mnd mbg mbu mbd mlg mly o.2.2.2.1 o.2.2.2.2.1 mpg mpu mpl o.2.2.2.2.2.1 o.2.2.2.2.2.2 mwt mch) sz [.ref (b 0), .int x1, .int x2] o.1 := by
  refine g_of (cc := cX7_export) (maxL := 3) (ret := (some .long)) (by decide) rfl (Nat.le_of_ble_eq_true rfl) ?_
  intro p e s m below meth c A ls hAe C hl E
  rw [← hAe]
  obtain ⟨hx, hb, hr, hml, hown, hts, hlocks, hN, hA⟩ := id C
  have hl : lv_has ls 3 [(0, .ref (b 0)), (1, .int x1), (2, .int x2)] := hl
  have E : vE s A D (gT cI cJ cZ) (mW b cI cJ cZ mth mlo mre mpr mto mim mdi mow mit mvl mhs mns mby mng mnu mnd mbg mbu mbd mlg mly mll mld mpg mpu mpl mtd mti mwt mch) s.heap [] := E
  rw [f_X7_export] at hf
  refine lv_aload_n hx hb dX7_export_0 rfl (lv_at hl 0 rfl) ?_
  refine lv_iload_n hx hb dX7_export_1 rfl (lv_at hl 1 rfl) ?_
  obtain ⟨o1, e2, hf⟩ := bd_some hf
  refine g_calli (w' := (mW b cI cJ cZ mth mlo mre mpr mto mim mdi mow mit mvl mhs mns mby mng mnu mnd mbg mbu mbd mlg mly mll mld mpg mpu mpl mtd mti mwt mch)) C E (g_runS (As := [.int x1]) (rest := [.ref (b 0)]) C E (c_X7_isGood e2) (va_cwS 1 hts gX7_export_X7_isGood rfl rfl rfl hd_X7_isGood ⟨Nat.le_of_ble_eq_true rfl, Nat.le_of_ble_eq_true rfl⟩) rfl hl.1 rfl (Nat.le_of_ble_eq_true rfl) dX7_export_2 ⟨Nat.le_of_ble_eq_true rfl, Nat.le_of_ble_eq_true rfl⟩) (fun H locs E => ?_)
  refine lv_if_eq (tgt := 17) hx hb dX7_export_5 (by decide) (fun c3 => ?_) (fun c3 => ?_)
  · rw [if_pos c3] at hf
    exact w_X7_export_J17 C  E (lv_sub hl [0, 1, 2] rfl) hf
  · rw [if_neg c3] at hf
    refine lv_iload_n hx hb dX7_export_8 rfl (lv_at hl 2 rfl) ?_
    refine lv_iconst (v := 1) hx hb dX7_export_9 (by decide) ?_
    refine lv_icmp_lt (tgt := 17) hx hb dX7_export_10 (by decide) (fun c4 => ?_) (fun c4 => ?_)
    · rw [if_pos c4] at hf
      exact w_X7_export_J17 C  E (lv_sub hl [0, 1, 2] rfl) hf
    · rw [if_neg c4] at hf
      refine lv_iconst (v := 0) hx hb dX7_export_13 (by decide) ?_
      refine lv_goto (tgt := 18) hx hb dX7_export_14 (by decide) ?_
      exact w_X7_export_J18 C  E (lv_sub hl [0, 1, 2] rfl) hf
abbrev rm_X7_release : Room := { frames := 2, cells := 0, slots := 0, locals := 55 }
theorem hd_X7_release : yX7_release.cls ≠ "java/lang/invoke/MethodHandle" ∧ yX7_release.cls ≠ "java/lang/invoke/VarHandle" ∧ (parseMethodDescriptor yX7_release.desc).map (fun d => d.parameters.length) = some 2 := by decide +kernel
def f_X7_release_J18 (mlo : Int32) (mto : Int32) (mow : Int64) (mit : Int64) (mlg : Nat → Int32) (mly : Nat → Int32) (mll : Nat → Int64) (mld : Nat → Int64) (mtd : Int64) (mti : Int64) (x1 : Int32) (x2 : Int32) (t1 : Int32) : Option (Int64 × (Int32) × (Int64) × (Int64) × (Nat → Int64) × (Nat → Int64) × (Int64) × (Int64)) :=
  if t1 ≤ 0 then
    (f_X7_stock mlo mlg mll x1).bind fun o2 =>
    if 0 ≤ (lg_cmp o2 x2.toInt64) then
      (f_X7_take mlo mto mlg mly mll mld mtd mti x1 x2.toInt64).bind fun o5 =>
      some ((o5.2.2.1 + o5.2.2.2), t1, (mow + o5.2.2.1), (mit + o5.2.2.2), o5.1, o5.2.1, o5.2.2.1, o5.2.2.2)
    else
      some ((-1 : Int64), t1, mow, mit, mll, mld, mtd, mti)
  else
    some ((0 : Int64), t1, mow, mit, mll, mld, mtd, mti)
set_option maxHeartbeats 4000000 in
set_option maxRecDepth 100000 in
theorem w_X7_release_J18 {p : Program} {l : Launch} {e : Env} {s : State} {m : MethodId} {args : Array Value} {below : List Frame} {meth : Method} {c : Code} {A : Nat → Prop} {D : va_G} {cI cJ cZ : ClassId} {b : Nat → Nat} {mth : Int32} {mlo : Int32} {mre : Int32} {mpr : Int32} {mto : Int32} {mim : Int64} {mdi : Int64} {mow : Int64} {mit : Int64} {mvl : Nat → Int32} {mhs : Nat → Int32} {mns : Nat → Int32} {mby : Nat → Int32} {mng : Nat → Int32} {mnu : Nat → Int32} {mnd : Nat → Int32} {mbg : Nat → Int32} {mbu : Nat → Int32} {mbd : Nat → Int32} {mlg : Nat → Int32} {mly : Nat → Int32} {mll : Nat → Int64} {mld : Nat → Int64} {mpg : Nat → Int32} {mpu : Nat → Int32} {mpl : Nat → Int64} {mtd : Int64} {mti : Int64} {mwt : Nat → Int64} {mch : Nat → Int64} (C : gC p s m args meth c cX7_release 3 (some .long) wsX7_release RX7 A) {x1 : Int32} {x2 : Int32} {o : Int64 × (Int32) × (Int64) × (Int64) × (Nat → Int64) × (Nat → Int64) × (Int64) × (Int64)} {t1 : Int32} {H : Heap} {locs : List Loc} {ls : Array Slot} (E : vE s A D (gT cI cJ cZ) (mW b cI cJ cZ mth mlo mre mpr mto mim mdi mow mit mvl mhs mns mby mng mnu mnd mbg mbu mbd mlg mly mll mld mpg mpu mpl mtd mti mwt mch) H locs) (hl : lv_has ls 3 [(0, .ref (b 0)), (1, .int x1), (2, .int x2)]) (hf : f_X7_release_J18 mlo mto mow mit mlg mly mll mld mtd mti x1 x2 t1 = some o) : W p l e rm_X7_release s m args below meth c H locs 0 0 (MQ below (gQl D (gT cI cJ cZ) A (mW b cI cJ cZ o.2.1 mlo mre mpr mto mim mdi o.2.2.1 o.2.2.2.1 mvl mhs mns mby mng mnu mnd mbg mbu mbd mlg mly o.2.2.2.2.1 o.2.2.2.2.2.1 mpg mpu mpl o.2.2.2.2.2.2.1 o.2.2.2.2.2.2.2 mwt mch) o.1) args s 0 0 A) (F0 m 18 ls [.int t1, .ref (b 0)]) := by
  obtain ⟨hx, hb, hr, hml, hown, hts, hlocks, hN, hA⟩ := id C
  rw [f_X7_release_J18] at hf
  refine g_put (w' := (mW b cI cJ cZ t1 mlo mre mpr mto mim mdi mow mit mvl mhs mns mby mng mnu mnd mbg mbu mbd mlg mly mll mld mpg mpu mpl mtd mti mwt mch)) C E 0 0 tyX7 tyX7_ok nmX7 (fun _ h => List.mem_cons_of_mem _ (List.mem_append_right _ h)) rfl rfl (by decide) (List.mem_of_getElem? (i := 1) rfl) rfl rfl rfl rfl rfl (Nat.le_of_ble_eq_true rfl) dX7_release_18 rfl (fun H locs E => ?_)
  refine lv_aload_n hx hb dX7_release_21 rfl (lv_at hl 0 rfl) ?_
  refine g_get C E 0 0 (fun _ h => List.mem_cons_of_mem _ (List.mem_append_right _ h)) rfl rfl (by decide) (List.mem_of_getElem? (i := 1) rfl) rfl rfl dX7_release_22 ?_
  refine lv_if_le (tgt := 30) hx hb dX7_release_25 (by decide) (fun c1 => ?_) (fun c1 => ?_)
  · rw [if_pos c1] at hf
    refine lv_aload_n hx hb dX7_release_30 rfl (lv_at hl 0 rfl) ?_
    refine lv_iload_n hx hb dX7_release_31 rfl (lv_at hl 1 rfl) ?_
    obtain ⟨o2, e3, hf⟩ := bd_some hf
    refine g_calll (w' := (mW b cI cJ cZ t1 mlo mre mpr mto mim mdi mow mit mvl mhs mns mby mng mnu mnd mbg mbu mbd mlg mly mll mld mpg mpu mpl mtd mti mwt mch)) C E (g_runV (As := [.int x1]) (rest := []) C E (c_X7_stock e3) (cwV 1 hts gX7_release_X7_stock rfl rfl rfl ⟨rfl, hd_X7_stock⟩ ⟨Nat.le_of_ble_eq_true rfl, Nat.le_of_ble_eq_true rfl⟩) (q0 := 0) (ci := 7) rfl rfl rfl rfl hl.1 rfl (Nat.le_of_ble_eq_true rfl) dX7_release_32 ⟨Nat.le_of_ble_eq_true rfl, Nat.le_of_ble_eq_true rfl⟩) (fun H locs E => ?_)
    refine lv_iload_n hx hb dX7_release_35 rfl (lv_at hl 2 rfl) ?_
    refine lv_i2l hx hb dX7_release_36 rfl ?_
    refine W.lcmp hx hb dX7_release_37 ?_
    refine lv_if_ge (tgt := 45) hx hb dX7_release_38 (by decide) (fun c4 => ?_) (fun c4 => ?_)
    · rw [if_pos c4] at hf
      refine lv_aload_n hx hb dX7_release_45 rfl (lv_at hl 0 rfl) ?_
      refine lv_iload_n hx hb dX7_release_46 rfl (lv_at hl 1 rfl) ?_
      refine lv_iload_n hx hb dX7_release_47 rfl (lv_at hl 2 rfl) ?_
      refine lv_i2l hx hb dX7_release_48 rfl ?_
      obtain ⟨o5, e6, hf⟩ := bd_some hf
      refine g_callv (w' := (mW b cI cJ cZ t1 mlo mre mpr mto mim mdi mow mit mvl mhs mns mby mng mnu mnd mbg mbu mbd mlg mly o5.1 o5.2.1 mpg mpu mpl o5.2.2.1 o5.2.2.2 mwt mch)) C E (g_runV (As := [.int x1, .long x2.toInt64]) (rest := []) C E (c_X7_take e6) (cwV 2 hts gX7_release_X7_take rfl rfl rfl ⟨rfl, hd_X7_take⟩ ⟨Nat.le_of_ble_eq_true rfl, Nat.le_of_ble_eq_true rfl⟩) (q0 := 0) (ci := 7) rfl rfl rfl rfl hl.1 rfl (Nat.le_of_ble_eq_true rfl) dX7_release_49 ⟨Nat.le_of_ble_eq_true rfl, Nat.le_of_ble_eq_true rfl⟩) (fun H locs E => ?_)
      refine lv_aload_n hx hb dX7_release_52 rfl (lv_at hl 0 rfl) ?_
      refine lv_dup hx hb dX7_release_53 rfl ?_
      refine g_get C E 0 7 (fun _ h => List.mem_cons_of_mem _ (List.mem_append_right _ h)) rfl rfl (by decide) (List.mem_of_getElem? (i := 3) rfl) rfl rfl dX7_release_54 ?_
      refine lv_aload_n hx hb dX7_release_57 rfl (lv_at hl 0 rfl) ?_
      refine g_get C E 0 26 (fun _ h => List.mem_cons_of_mem _ (List.mem_append_right _ h)) rfl rfl (by decide) (List.mem_of_getElem? (i := 4) rfl) rfl rfl dX7_release_58 ?_
      refine lv_ladd hx hb dX7_release_61 ?_
      refine g_put (w' := (mW b cI cJ cZ t1 mlo mre mpr mto mim mdi (mow + o5.2.2.1) mit mvl mhs mns mby mng mnu mnd mbg mbu mbd mlg mly o5.1 o5.2.1 mpg mpu mpl o5.2.2.1 o5.2.2.2 mwt mch)) C E 0 7 tyX7 tyX7_ok nmX7 (fun _ h => List.mem_cons_of_mem _ (List.mem_append_right _ h)) rfl rfl (by decide) (List.mem_of_getElem? (i := 3) rfl) rfl rfl rfl rfl rfl (Nat.le_of_ble_eq_true rfl) dX7_release_62 rfl (fun H locs E => ?_)
      refine lv_aload_n hx hb dX7_release_65 rfl (lv_at hl 0 rfl) ?_
      refine lv_dup hx hb dX7_release_66 rfl ?_
      refine g_get C E 0 8 (fun _ h => List.mem_cons_of_mem _ (List.mem_append_right _ h)) rfl rfl (by decide) (List.mem_of_getElem? (i := 5) rfl) rfl rfl dX7_release_67 ?_
      refine lv_aload_n hx hb dX7_release_70 rfl (lv_at hl 0 rfl) ?_
      refine g_get C E 0 27 (fun _ h => List.mem_cons_of_mem _ (List.mem_append_right _ h)) rfl rfl (by decide) (List.mem_of_getElem? (i := 6) rfl) rfl rfl dX7_release_71 ?_
      refine lv_ladd hx hb dX7_release_74 ?_
      refine g_put (w' := (mW b cI cJ cZ t1 mlo mre mpr mto mim mdi (mow + o5.2.2.1) (mit + o5.2.2.2) mvl mhs mns mby mng mnu mnd mbg mbu mbd mlg mly o5.1 o5.2.1 mpg mpu mpl o5.2.2.1 o5.2.2.2 mwt mch)) C E 0 8 tyX7 tyX7_ok nmX7 (fun _ h => List.mem_cons_of_mem _ (List.mem_append_right _ h)) rfl rfl (by decide) (List.mem_of_getElem? (i := 5) rfl) rfl rfl rfl rfl rfl (Nat.le_of_ble_eq_true rfl) dX7_release_75 rfl (fun H locs E => ?_)
      refine lv_aload_n hx hb dX7_release_78 rfl (lv_at hl 0 rfl) ?_
      refine g_get C E 0 26 (fun _ h => List.mem_cons_of_mem _ (List.mem_append_right _ h)) rfl rfl (by decide) (List.mem_of_getElem? (i := 4) rfl) rfl rfl dX7_release_79 ?_
      refine lv_aload_n hx hb dX7_release_82 rfl (lv_at hl 0 rfl) ?_
      refine g_get C E 0 27 (fun _ h => List.mem_cons_of_mem _ (List.mem_append_right _ h)) rfl rfl (by decide) (List.mem_of_getElem? (i := 6) rfl) rfl rfl dX7_release_83 ?_
      refine lv_ladd hx hb dX7_release_86 ?_
      obtain rfl := Option.some.inj hf
      exact g_lret C E dX7_release_87
    · rw [if_neg c4] at hf
      refine lv_ldc2 (v := -1) hx hb hown (hts (.constantLong RX7 163 (-1)) (List.mem_of_getElem? (i := 2) rfl)) dX7_release_41 ?_
      obtain rfl := Option.some.inj hf
      exact g_lret C E dX7_release_44
  · rw [if_neg c1] at hf
    refine lv_lconst (v := 0) hx hb dX7_release_28 (by decide) ?_
    obtain rfl := Option.some.inj hf
    exact g_lret C E dX7_release_29
def f_X7_release_J17 (mlo : Int32) (mto : Int32) (mow : Int64) (mit : Int64) (mlg : Nat → Int32) (mly : Nat → Int32) (mll : Nat → Int64) (mld : Nat → Int64) (mtd : Int64) (mti : Int64) (x1 : Int32) (x2 : Int32) : Option (Int64 × (Int32) × (Int64) × (Int64) × (Nat → Int64) × (Nat → Int64) × (Int64) × (Int64)) :=
  f_X7_release_J18 mlo mto mow mit mlg mly mll mld mtd mti x1 x2 (1 : Int32)
set_option maxHeartbeats 4000000 in
set_option maxRecDepth 100000 in
theorem w_X7_release_J17 {p : Program} {l : Launch} {e : Env} {s : State} {m : MethodId} {args : Array Value} {below : List Frame} {meth : Method} {c : Code} {A : Nat → Prop} {D : va_G} {cI cJ cZ : ClassId} {b : Nat → Nat} {mth : Int32} {mlo : Int32} {mre : Int32} {mpr : Int32} {mto : Int32} {mim : Int64} {mdi : Int64} {mow : Int64} {mit : Int64} {mvl : Nat → Int32} {mhs : Nat → Int32} {mns : Nat → Int32} {mby : Nat → Int32} {mng : Nat → Int32} {mnu : Nat → Int32} {mnd : Nat → Int32} {mbg : Nat → Int32} {mbu : Nat → Int32} {mbd : Nat → Int32} {mlg : Nat → Int32} {mly : Nat → Int32} {mll : Nat → Int64} {mld : Nat → Int64} {mpg : Nat → Int32} {mpu : Nat → Int32} {mpl : Nat → Int64} {mtd : Int64} {mti : Int64} {mwt : Nat → Int64} {mch : Nat → Int64} (C : gC p s m args meth c cX7_release 3 (some .long) wsX7_release RX7 A) {x1 : Int32} {x2 : Int32} {o : Int64 × (Int32) × (Int64) × (Int64) × (Nat → Int64) × (Nat → Int64) × (Int64) × (Int64)} {H : Heap} {locs : List Loc} {ls : Array Slot} (E : vE s A D (gT cI cJ cZ) (mW b cI cJ cZ mth mlo mre mpr mto mim mdi mow mit mvl mhs mns mby mng mnu mnd mbg mbu mbd mlg mly mll mld mpg mpu mpl mtd mti mwt mch) H locs) (hl : lv_has ls 3 [(0, .ref (b 0)), (1, .int x1), (2, .int x2)]) (hf : f_X7_release_J17 mlo mto mow mit mlg mly mll mld mtd mti x1 x2 = some o) : W p l e rm_X7_release s m args below meth c H locs 0 0 (MQ below (gQl D (gT cI cJ cZ) A (mW b cI cJ cZ o.2.1 mlo mre mpr mto mim mdi o.2.2.1 o.2.2.2.1 mvl mhs mns mby mng mnu mnd mbg mbu mbd mlg mly o.2.2.2.2.1 o.2.2.2.2.2.1 mpg mpu mpl o.2.2.2.2.2.2.1 o.2.2.2.2.2.2.2 mwt mch) o.1) args s 0 0 A) (F0 m 17 ls [.ref (b 0)]) := by
  obtain ⟨hx, hb, hr, hml, hown, hts, hlocks, hN, hA⟩ := id C
  rw [f_X7_release_J17] at hf
  refine lv_iconst (v := 1) hx hb dX7_release_17 (by decide) ?_
  exact w_X7_release_J18 C  E (lv_sub hl [0, 1, 2] rfl) hf
def f_X7_release (mth : Int32) (mlo : Int32) (mto : Int32) (mow : Int64) (mit : Int64) (mlg : Nat → Int32) (mly : Nat → Int32) (mll : Nat → Int64) (mld : Nat → Int64) (mtd : Int64) (mti : Int64) (x1 : Int32) (x2 : Int32) : Option (Int64 × (Int32) × (Int64) × (Int64) × (Nat → Int64) × (Nat → Int64) × (Int64) × (Int64)) :=
  (f_X7_isGood x1).bind fun o1 =>
  if o1 = 0 then
    f_X7_release_J17 mlo mto mow mit mlg mly mll mld mtd mti x1 x2 
  else
    if x2 < (1 : Int32) then
      f_X7_release_J17 mlo mto mow mit mlg mly mll mld mtd mti x1 x2 
    else
      f_X7_release_J18 mlo mto mow mit mlg mly mll mld mtd mti x1 x2 (0 : Int32)
set_option maxHeartbeats 4000000 in
set_option maxRecDepth 100000 in
theorem c_X7_release {l : Launch} {D : va_G} {cI cJ cZ : ClassId} {b : Nat → Nat} {sz : Nat} {mth : Int32} {mlo : Int32} {mre : Int32} {mpr : Int32} {mto : Int32} {mim : Int64} {mdi : Int64} {mow : Int64} {mit : Int64} {mvl : Nat → Int32} {mhs : Nat → Int32} {mns : Nat → Int32} {mby : Nat → Int32} {mng : Nat → Int32} {mnu : Nat → Int32} {mnd : Nat → Int32} {mbg : Nat → Int32} {mbu : Nat → Int32} {mbd : Nat → Int32} {mlg : Nat → Int32} {mly : Nat → Int32} {mll : Nat → Int64} {mld : Nat → Int64} {mpg : Nat → Int32} {mpu : Nat → Int32} {mpl : Nat → Int64} {mtd : Int64} {mti : Int64} {mwt : Nat → Int64} {mch : Nat → Int64} {x1 : Int32} {x2 : Int32} {o : Int64 × (Int32) × (Int64) × (Int64) × (Nat → Int64) × (Nat → Int64) × (Int64) × (Int64)} (hf : f_X7_release mth mlo mto mow mit mlg mly mll mld mtd mti x1 x2 = some o) : gMl l yX7_release wsX7_release rm_X7_release D (gT cI cJ cZ) (mW b cI cJ cZ mth mlo mre mpr mto mim mdi mow mit mvl mhs mns mby mng mnu mnd mbg mbu mbd mlg mly mll mld mpg mpu mpl mtd mti mwt mch) (mW b cI cJ cZ o.2.1 mlo mre mpr mto mim mdi o.2.2.1 o.2.2.2.1 mvl mhs mns mby mng mnu mnd mbg mbu mbd mlg mly o.2.2.2.2.1 o.2.2.2.2.2.1 mpg mpu mpl o.2.2.2.2.2.2.1 o.2.2.2.2.2.2.2 mwt mch) sz [.ref (b 0), .int x1, .int x2] o.1 := by
  refine g_of (cc := cX7_release) (maxL := 3) (ret := (some .long)) (by decide) rfl (Nat.le_of_ble_eq_true rfl) ?_
  intro p e s m below meth c A ls hAe C hl E
  rw [← hAe]
  obtain ⟨hx, hb, hr, hml, hown, hts, hlocks, hN, hA⟩ := id C
  have hl : lv_has ls 3 [(0, .ref (b 0)), (1, .int x1), (2, .int x2)] := hl
  have E : vE s A D (gT cI cJ cZ) (mW b cI cJ cZ mth mlo mre mpr mto mim mdi mow mit mvl mhs mns mby mng mnu mnd mbg mbu mbd mlg mly mll mld mpg mpu mpl mtd mti mwt mch) s.heap [] := E
  rw [f_X7_release] at hf
  refine lv_aload_n hx hb dX7_release_0 rfl (lv_at hl 0 rfl) ?_
  refine lv_iload_n hx hb dX7_release_1 rfl (lv_at hl 1 rfl) ?_
  obtain ⟨o1, e2, hf⟩ := bd_some hf
  refine g_calli (w' := (mW b cI cJ cZ mth mlo mre mpr mto mim mdi mow mit mvl mhs mns mby mng mnu mnd mbg mbu mbd mlg mly mll mld mpg mpu mpl mtd mti mwt mch)) C E (g_runS (As := [.int x1]) (rest := [.ref (b 0)]) C E (c_X7_isGood e2) (va_cwS 1 hts gX7_release_X7_isGood rfl rfl rfl hd_X7_isGood ⟨Nat.le_of_ble_eq_true rfl, Nat.le_of_ble_eq_true rfl⟩) rfl hl.1 rfl (Nat.le_of_ble_eq_true rfl) dX7_release_2 ⟨Nat.le_of_ble_eq_true rfl, Nat.le_of_ble_eq_true rfl⟩) (fun H locs E => ?_)
  refine lv_if_eq (tgt := 17) hx hb dX7_release_5 (by decide) (fun c3 => ?_) (fun c3 => ?_)
  · rw [if_pos c3] at hf
    exact w_X7_release_J17 C  E (lv_sub hl [0, 1, 2] rfl) hf
  · rw [if_neg c3] at hf
    refine lv_iload_n hx hb dX7_release_8 rfl (lv_at hl 2 rfl) ?_
    refine lv_iconst (v := 1) hx hb dX7_release_9 (by decide) ?_
    refine lv_icmp_lt (tgt := 17) hx hb dX7_release_10 (by decide) (fun c4 => ?_) (fun c4 => ?_)
    · rw [if_pos c4] at hf
      exact w_X7_release_J17 C  E (lv_sub hl [0, 1, 2] rfl) hf
    · rw [if_neg c4] at hf
      refine lv_iconst (v := 0) hx hb dX7_release_13 (by decide) ?_
      refine lv_goto (tgt := 18) hx hb dX7_release_14 (by decide) ?_
      exact w_X7_release_J18 C  E (lv_sub hl [0, 1, 2] rfl) hf
abbrev rm_X7_prior : Room := { frames := 2, cells := 0, slots := 0, locals := 45 }
theorem hd_X7_prior : yX7_prior.cls ≠ "java/lang/invoke/MethodHandle" ∧ yX7_prior.cls ≠ "java/lang/invoke/VarHandle" ∧ (parseMethodDescriptor yX7_prior.desc).map (fun d => d.parameters.length) = some 3 := by decide +kernel
def f_X7_prior_J50 (mpr : Int32) (mpg : Nat → Int32) (mpu : Nat → Int32) (mpl : Nat → Int64) (x1 : Int32) (x2 : Int32) (x3 : Int32) (t1 : Int32) : Option (Int32 × (Int32) × (Int32) × (Nat → Int32) × (Nat → Int32) × (Nat → Int64)) :=
  if t1 ≤ 0 then
    ck mpr 40 <|
    ck mpr 40 <|
    ck mpr 40 <|
    some ((mpr + (1 : Int32)), t1, (mpr + (1 : Int32)), (upd mpg mpr.toNatClampNeg x1), (upd mpu mpr.toNatClampNeg x3), (vp_updL mpl mpr.toNatClampNeg x2.toInt64))
  else
    some ((0 : Int32), t1, mpr, mpg, mpu, mpl)
set_option maxHeartbeats 4000000 in
set_option maxRecDepth 100000 in
theorem w_X7_prior_J50 {p : Program} {l : Launch} {e : Env} {s : State} {m : MethodId} {args : Array Value} {below : List Frame} {meth : Method} {c : Code} {A : Nat → Prop} {D : va_G} {cI cJ cZ : ClassId} {b : Nat → Nat} {mth : Int32} {mlo : Int32} {mre : Int32} {mpr : Int32} {mto : Int32} {mim : Int64} {mdi : Int64} {mow : Int64} {mit : Int64} {mvl : Nat → Int32} {mhs : Nat → Int32} {mns : Nat → Int32} {mby : Nat → Int32} {mng : Nat → Int32} {mnu : Nat → Int32} {mnd : Nat → Int32} {mbg : Nat → Int32} {mbu : Nat → Int32} {mbd : Nat → Int32} {mlg : Nat → Int32} {mly : Nat → Int32} {mll : Nat → Int64} {mld : Nat → Int64} {mpg : Nat → Int32} {mpu : Nat → Int32} {mpl : Nat → Int64} {mtd : Int64} {mti : Int64} {mwt : Nat → Int64} {mch : Nat → Int64} (C : gC p s m args meth c cX7_prior 4 (some .int) wsX7_prior RX7 A) {x1 : Int32} {x2 : Int32} {x3 : Int32} {o : Int32 × (Int32) × (Int32) × (Nat → Int32) × (Nat → Int32) × (Nat → Int64)} {t1 : Int32} {H : Heap} {locs : List Loc} {ls : Array Slot} (E : vE s A D (gT cI cJ cZ) (mW b cI cJ cZ mth mlo mre mpr mto mim mdi mow mit mvl mhs mns mby mng mnu mnd mbg mbu mbd mlg mly mll mld mpg mpu mpl mtd mti mwt mch) H locs) (hl : lv_has ls 4 [(0, .ref (b 0)), (1, .int x1), (2, .int x2), (3, .int x3)]) (hf : f_X7_prior_J50 mpr mpg mpu mpl x1 x2 x3 t1 = some o) : W p l e rm_X7_prior s m args below meth c H locs 0 0 (MQ below (gQi D (gT cI cJ cZ) A (mW b cI cJ cZ o.2.1 mlo mre o.2.2.1 mto mim mdi mow mit mvl mhs mns mby mng mnu mnd mbg mbu mbd mlg mly mll mld o.2.2.2.1 o.2.2.2.2.1 o.2.2.2.2.2 mtd mti mwt mch) o.1) args s 0 0 A) (F0 m 50 ls [.int t1, .ref (b 0)]) := by
  obtain ⟨hx, hb, hr, hml, hown, hts, hlocks, hN, hA⟩ := id C
  rw [f_X7_prior_J50] at hf
  refine g_put (w' := (mW b cI cJ cZ t1 mlo mre mpr mto mim mdi mow mit mvl mhs mns mby mng mnu mnd mbg mbu mbd mlg mly mll mld mpg mpu mpl mtd mti mwt mch)) C E 0 0 tyX7 tyX7_ok nmX7 (fun _ h => List.mem_cons_of_mem _ (List.mem_append_right _ h)) rfl rfl (by decide) (List.mem_of_getElem? (i := 4) rfl) rfl rfl rfl rfl rfl (Nat.le_of_ble_eq_true rfl) dX7_prior_50 rfl (fun H locs E => ?_)
  refine lv_aload_n hx hb dX7_prior_53 rfl (lv_at hl 0 rfl) ?_
  refine g_get C E 0 0 (fun _ h => List.mem_cons_of_mem _ (List.mem_append_right _ h)) rfl rfl (by decide) (List.mem_of_getElem? (i := 4) rfl) rfl rfl dX7_prior_54 ?_
  refine lv_if_le (tgt := 62) hx hb dX7_prior_57 (by decide) (fun c1 => ?_) (fun c1 => ?_)
  · rw [if_pos c1] at hf
    refine lv_aload_n hx hb dX7_prior_62 rfl (lv_at hl 0 rfl) ?_
    refine g_get C E 0 23 (fun _ h => List.mem_cons_of_mem _ (List.mem_append_right _ h)) rfl rfl (by decide) (List.mem_of_getElem? (i := 5) rfl) rfl rfl dX7_prior_63 ?_
    refine lv_aload_n hx hb dX7_prior_66 rfl (lv_at hl 0 rfl) ?_
    refine g_get C E 0 3 (fun _ h => List.mem_cons_of_mem _ (List.mem_append_right _ h)) rfl rfl (by decide) (List.mem_of_getElem? (i := 3) rfl) rfl rfl dX7_prior_67 ?_
    refine lv_iload_n hx hb dX7_prior_70 rfl (lv_at hl 1 rfl) ?_
    obtain ⟨h2, hf⟩ := ck_some hf
    refine g_iast (w' := (mW b cI cJ cZ t1 mlo mre mpr mto mim mdi mow mit mvl mhs mns mby mng mnu mnd mbg mbu mbd mlg mly mll mld (upd mpg mpr.toNatClampNeg x1) mpu mpl mtd mti mwt mch)) C E 15 rfl h2 dX7_prior_71 rfl (fun H locs E => ?_)
    refine lv_aload_n hx hb dX7_prior_72 rfl (lv_at hl 0 rfl) ?_
    refine g_get C E 0 24 (fun _ h => List.mem_cons_of_mem _ (List.mem_append_right _ h)) rfl rfl (by decide) (List.mem_of_getElem? (i := 6) rfl) rfl rfl dX7_prior_73 ?_
    refine lv_aload_n hx hb dX7_prior_76 rfl (lv_at hl 0 rfl) ?_
    refine g_get C E 0 3 (fun _ h => List.mem_cons_of_mem _ (List.mem_append_right _ h)) rfl rfl (by decide) (List.mem_of_getElem? (i := 3) rfl) rfl rfl dX7_prior_77 ?_
    refine lv_iload_n hx hb dX7_prior_80 rfl (lv_at hl 3 rfl) ?_
    obtain ⟨h3, hf⟩ := ck_some hf
    refine g_iast (w' := (mW b cI cJ cZ t1 mlo mre mpr mto mim mdi mow mit mvl mhs mns mby mng mnu mnd mbg mbu mbd mlg mly mll mld (upd mpg mpr.toNatClampNeg x1) (upd mpu mpr.toNatClampNeg x3) mpl mtd mti mwt mch)) C E 16 rfl h3 dX7_prior_81 rfl (fun H locs E => ?_)
    refine lv_aload_n hx hb dX7_prior_82 rfl (lv_at hl 0 rfl) ?_
    refine g_get C E 0 25 (fun _ h => List.mem_cons_of_mem _ (List.mem_append_right _ h)) rfl rfl (by decide) (List.mem_of_getElem? (i := 7) rfl) rfl rfl dX7_prior_83 ?_
    refine lv_aload_n hx hb dX7_prior_86 rfl (lv_at hl 0 rfl) ?_
    refine g_get C E 0 3 (fun _ h => List.mem_cons_of_mem _ (List.mem_append_right _ h)) rfl rfl (by decide) (List.mem_of_getElem? (i := 3) rfl) rfl rfl dX7_prior_87 ?_
    refine lv_iload_n hx hb dX7_prior_90 rfl (lv_at hl 2 rfl) ?_
    refine lv_i2l hx hb dX7_prior_91 rfl ?_
    obtain ⟨h4, hf⟩ := ck_some hf
    refine g_last (w' := (mW b cI cJ cZ t1 mlo mre mpr mto mim mdi mow mit mvl mhs mns mby mng mnu mnd mbg mbu mbd mlg mly mll mld (upd mpg mpr.toNatClampNeg x1) (upd mpu mpr.toNatClampNeg x3) (vp_updL mpl mpr.toNatClampNeg x2.toInt64) mtd mti mwt mch)) C E 17 rfl h4 dX7_prior_92 rfl (fun H locs E => ?_)
    refine lv_aload_n hx hb dX7_prior_93 rfl (lv_at hl 0 rfl) ?_
    refine lv_dup hx hb dX7_prior_94 rfl ?_
    refine g_get C E 0 3 (fun _ h => List.mem_cons_of_mem _ (List.mem_append_right _ h)) rfl rfl (by decide) (List.mem_of_getElem? (i := 3) rfl) rfl rfl dX7_prior_95 ?_
    refine lv_iconst (v := 1) hx hb dX7_prior_98 (by decide) ?_
    refine lv_iadd hx hb dX7_prior_99 ?_
    refine g_put (w' := (mW b cI cJ cZ t1 mlo mre (mpr + (1 : Int32)) mto mim mdi mow mit mvl mhs mns mby mng mnu mnd mbg mbu mbd mlg mly mll mld (upd mpg mpr.toNatClampNeg x1) (upd mpu mpr.toNatClampNeg x3) (vp_updL mpl mpr.toNatClampNeg x2.toInt64) mtd mti mwt mch)) C E 0 3 tyX7 tyX7_ok nmX7 (fun _ h => List.mem_cons_of_mem _ (List.mem_append_right _ h)) rfl rfl (by decide) (List.mem_of_getElem? (i := 3) rfl) rfl rfl rfl rfl rfl (Nat.le_of_ble_eq_true rfl) dX7_prior_100 rfl (fun H locs E => ?_)
    refine lv_aload_n hx hb dX7_prior_103 rfl (lv_at hl 0 rfl) ?_
    refine g_get C E 0 3 (fun _ h => List.mem_cons_of_mem _ (List.mem_append_right _ h)) rfl rfl (by decide) (List.mem_of_getElem? (i := 3) rfl) rfl rfl dX7_prior_104 ?_
    obtain rfl := Option.some.inj hf
    exact g_iret C E dX7_prior_107
  · rw [if_neg c1] at hf
    refine lv_iconst (v := 0) hx hb dX7_prior_60 (by decide) ?_
    obtain rfl := Option.some.inj hf
    exact g_iret C E dX7_prior_61
def f_X7_prior_J32 (mpr : Int32) (mpg : Nat → Int32) (mpu : Nat → Int32) (mpl : Nat → Int64) (x1 : Int32) (x2 : Int32) (x3 : Int32) : Option (Int32 × (Int32) × (Int32) × (Nat → Int32) × (Nat → Int32) × (Nat → Int64)) :=
  f_X7_prior_J50 mpr mpg mpu mpl x1 x2 x3 (1 : Int32)
set_option maxHeartbeats 4000000 in
set_option maxRecDepth 100000 in
theorem w_X7_prior_J32 {p : Program} {l : Launch} {e : Env} {s : State} {m : MethodId} {args : Array Value} {below : List Frame} {meth : Method} {c : Code} {A : Nat → Prop} {D : va_G} {cI cJ cZ : ClassId} {b : Nat → Nat} {mth : Int32} {mlo : Int32} {mre : Int32} {mpr : Int32} {mto : Int32} {mim : Int64} {mdi : Int64} {mow : Int64} {mit : Int64} {mvl : Nat → Int32} {mhs : Nat → Int32} {mns : Nat → Int32} {mby : Nat → Int32} {mng : Nat → Int32} {mnu : Nat → Int32} {mnd : Nat → Int32} {mbg : Nat → Int32} {mbu : Nat → Int32} {mbd : Nat → Int32} {mlg : Nat → Int32} {mly : Nat → Int32} {mll : Nat → Int64} {mld : Nat → Int64} {mpg : Nat → Int32} {mpu : Nat → Int32} {mpl : Nat → Int64} {mtd : Int64} {mti : Int64} {mwt : Nat → Int64} {mch : Nat → Int64} (C : gC p s m args meth c cX7_prior 4 (some .int) wsX7_prior RX7 A) {x1 : Int32} {x2 : Int32} {x3 : Int32} {o : Int32 × (Int32) × (Int32) × (Nat → Int32) × (Nat → Int32) × (Nat → Int64)} {H : Heap} {locs : List Loc} {ls : Array Slot} (E : vE s A D (gT cI cJ cZ) (mW b cI cJ cZ mth mlo mre mpr mto mim mdi mow mit mvl mhs mns mby mng mnu mnd mbg mbu mbd mlg mly mll mld mpg mpu mpl mtd mti mwt mch) H locs) (hl : lv_has ls 4 [(0, .ref (b 0)), (1, .int x1), (2, .int x2), (3, .int x3)]) (hf : f_X7_prior_J32 mpr mpg mpu mpl x1 x2 x3 = some o) : W p l e rm_X7_prior s m args below meth c H locs 0 0 (MQ below (gQi D (gT cI cJ cZ) A (mW b cI cJ cZ o.2.1 mlo mre o.2.2.1 mto mim mdi mow mit mvl mhs mns mby mng mnu mnd mbg mbu mbd mlg mly mll mld o.2.2.2.1 o.2.2.2.2.1 o.2.2.2.2.2 mtd mti mwt mch) o.1) args s 0 0 A) (F0 m 32 ls [.ref (b 0)]) := by
  obtain ⟨hx, hb, hr, hml, hown, hts, hlocks, hN, hA⟩ := id C
  rw [f_X7_prior_J32] at hf
  refine lv_iconst (v := 1) hx hb dX7_prior_32 (by decide) ?_
  refine lv_goto (tgt := 50) hx hb dX7_prior_33 (by decide) ?_
  exact w_X7_prior_J50 C  E (lv_sub hl [0, 1, 2, 3] rfl) hf
def f_X7_prior (mth : Int32) (mpr : Int32) (mpg : Nat → Int32) (mpu : Nat → Int32) (mpl : Nat → Int64) (x1 : Int32) (x2 : Int32) (x3 : Int32) : Option (Int32 × (Int32) × (Int32) × (Nat → Int32) × (Nat → Int32) × (Nat → Int64)) :=
  (f_X7_isGood x1).bind fun o1 =>
  if o1 = 0 then
    f_X7_prior_J32 mpr mpg mpu mpl x1 x2 x3 
  else
    (f_X7_within x2.toInt64 (1 : Int64) (10000 : Int64)).bind fun o4 =>
    if o4 = 0 then
      f_X7_prior_J32 mpr mpg mpu mpl x1 x2 x3 
    else
      (f_X7_within x3.toInt64 (0 : Int64) (100000 : Int64)).bind fun o7 =>
      if o7 = 0 then
        f_X7_prior_J32 mpr mpg mpu mpl x1 x2 x3 
      else
        if mpr = (40 : Int32) then
          f_X7_prior_J50 mpr mpg mpu mpl x1 x2 x3 (2 : Int32)
        else
          f_X7_prior_J50 mpr mpg mpu mpl x1 x2 x3 (0 : Int32)
set_option maxHeartbeats 4000000 in
set_option maxRecDepth 100000 in
theorem c_X7_prior {l : Launch} {D : va_G} {cI cJ cZ : ClassId} {b : Nat → Nat} {sz : Nat} {mth : Int32} {mlo : Int32} {mre : Int32} {mpr : Int32} {mto : Int32} {mim : Int64} {mdi : Int64} {mow : Int64} {mit : Int64} {mvl : Nat → Int32} {mhs : Nat → Int32} {mns : Nat → Int32} {mby : Nat → Int32} {mng : Nat → Int32} {mnu : Nat → Int32} {mnd : Nat → Int32} {mbg : Nat → Int32} {mbu : Nat → Int32} {mbd : Nat → Int32} {mlg : Nat → Int32} {mly : Nat → Int32} {mll : Nat → Int64} {mld : Nat → Int64} {mpg : Nat → Int32} {mpu : Nat → Int32} {mpl : Nat → Int64} {mtd : Int64} {mti : Int64} {mwt : Nat → Int64} {mch : Nat → Int64} {x1 : Int32} {x2 : Int32} {x3 : Int32} {o : Int32 × (Int32) × (Int32) × (Nat → Int32) × (Nat → Int32) × (Nat → Int64)} (hf : f_X7_prior mth mpr mpg mpu mpl x1 x2 x3 = some o) : gMi l yX7_prior wsX7_prior rm_X7_prior D (gT cI cJ cZ) (mW b cI cJ cZ mth mlo mre mpr mto mim mdi mow mit mvl mhs mns mby mng mnu mnd mbg mbu mbd mlg mly mll mld mpg mpu mpl mtd mti mwt mch) (mW b cI cJ cZ o.2.1 mlo mre o.2.2.1 mto mim mdi mow mit mvl mhs mns mby mng mnu mnd mbg mbu mbd mlg mly mll mld o.2.2.2.1 o.2.2.2.2.1 o.2.2.2.2.2 mtd mti mwt mch) sz [.ref (b 0), .int x1, .int x2, .int x3] o.1 := by
  refine g_of (cc := cX7_prior) (maxL := 4) (ret := (some .int)) (by decide) rfl (Nat.le_of_ble_eq_true rfl) ?_
  intro p e s m below meth c A ls hAe C hl E
  rw [← hAe]
  obtain ⟨hx, hb, hr, hml, hown, hts, hlocks, hN, hA⟩ := id C
  have hl : lv_has ls 4 [(0, .ref (b 0)), (1, .int x1), (2, .int x2), (3, .int x3)] := hl
  have E : vE s A D (gT cI cJ cZ) (mW b cI cJ cZ mth mlo mre mpr mto mim mdi mow mit mvl mhs mns mby mng mnu mnd mbg mbu mbd mlg mly mll mld mpg mpu mpl mtd mti mwt mch) s.heap [] := E
  rw [f_X7_prior] at hf
  refine lv_aload_n hx hb dX7_prior_0 rfl (lv_at hl 0 rfl) ?_
  refine lv_iload_n hx hb dX7_prior_1 rfl (lv_at hl 1 rfl) ?_
  obtain ⟨o1, e2, hf⟩ := bd_some hf
  refine g_calli (w' := (mW b cI cJ cZ mth mlo mre mpr mto mim mdi mow mit mvl mhs mns mby mng mnu mnd mbg mbu mbd mlg mly mll mld mpg mpu mpl mtd mti mwt mch)) C E (g_runS (As := [.int x1]) (rest := [.ref (b 0)]) C E (c_X7_isGood e2) (va_cwS 1 hts gX7_prior_X7_isGood rfl rfl rfl hd_X7_isGood ⟨Nat.le_of_ble_eq_true rfl, Nat.le_of_ble_eq_true rfl⟩) rfl hl.1 rfl (Nat.le_of_ble_eq_true rfl) dX7_prior_2 ⟨Nat.le_of_ble_eq_true rfl, Nat.le_of_ble_eq_true rfl⟩) (fun H locs E => ?_)
  refine lv_if_eq (tgt := 32) hx hb dX7_prior_5 (by decide) (fun c3 => ?_) (fun c3 => ?_)
  · rw [if_pos c3] at hf
    exact w_X7_prior_J32 C  E (lv_sub hl [0, 1, 2, 3] rfl) hf
  · rw [if_neg c3] at hf
    refine lv_iload_n hx hb dX7_prior_8 rfl (lv_at hl 2 rfl) ?_
    refine lv_i2l hx hb dX7_prior_9 rfl ?_
    refine lv_lconst (v := 1) hx hb dX7_prior_10 (by decide) ?_
    refine lv_ldc2 (v := 10000) hx hb hown (hts (.constantLong RX7 83 (10000)) (List.mem_of_getElem? (i := 1) rfl)) dX7_prior_11 ?_
    obtain ⟨o4, e5, hf⟩ := bd_some hf
    refine g_calli (w' := (mW b cI cJ cZ mth mlo mre mpr mto mim mdi mow mit mvl mhs mns mby mng mnu mnd mbg mbu mbd mlg mly mll mld mpg mpu mpl mtd mti mwt mch)) C E (g_runS (As := [.long x2.toInt64, .long (1 : Int64), .long (10000 : Int64)]) (rest := [.ref (b 0)]) C E (c_X7_within e5) (va_cwS 3 hts gX7_prior_X7_within rfl rfl rfl hd_X7_within ⟨Nat.le_of_ble_eq_true rfl, Nat.le_of_ble_eq_true rfl⟩) rfl hl.1 rfl (Nat.le_of_ble_eq_true rfl) dX7_prior_14 ⟨Nat.le_of_ble_eq_true rfl, Nat.le_of_ble_eq_true rfl⟩) (fun H locs E => ?_)
    refine lv_if_eq (tgt := 32) hx hb dX7_prior_17 (by decide) (fun c6 => ?_) (fun c6 => ?_)
    · rw [if_pos c6] at hf
      exact w_X7_prior_J32 C  E (lv_sub hl [0, 1, 2, 3] rfl) hf
    · rw [if_neg c6] at hf
      refine lv_iload_n hx hb dX7_prior_20 rfl (lv_at hl 3 rfl) ?_
      refine lv_i2l hx hb dX7_prior_21 rfl ?_
      refine lv_lconst (v := 0) hx hb dX7_prior_22 (by decide) ?_
      refine lv_ldc2 (v := 100000) hx hb hown (hts (.constantLong RX7 171 (100000)) (List.mem_of_getElem? (i := 2) rfl)) dX7_prior_23 ?_
      obtain ⟨o7, e8, hf⟩ := bd_some hf
      refine g_calli (w' := (mW b cI cJ cZ mth mlo mre mpr mto mim mdi mow mit mvl mhs mns mby mng mnu mnd mbg mbu mbd mlg mly mll mld mpg mpu mpl mtd mti mwt mch)) C E (g_runS (As := [.long x3.toInt64, .long (0 : Int64), .long (100000 : Int64)]) (rest := [.ref (b 0)]) C E (c_X7_within e8) (va_cwS 3 hts gX7_prior_X7_within rfl rfl rfl hd_X7_within ⟨Nat.le_of_ble_eq_true rfl, Nat.le_of_ble_eq_true rfl⟩) rfl hl.1 rfl (Nat.le_of_ble_eq_true rfl) dX7_prior_26 ⟨Nat.le_of_ble_eq_true rfl, Nat.le_of_ble_eq_true rfl⟩) (fun H locs E => ?_)
      refine lv_if_ne (tgt := 36) hx hb dX7_prior_29 (by decide) (fun c9 => ?_) (fun c9 => ?_)
      · rw [if_neg c9] at hf
        refine lv_aload_n hx hb dX7_prior_36 rfl (lv_at hl 0 rfl) ?_
        refine g_get C E 0 3 (fun _ h => List.mem_cons_of_mem _ (List.mem_append_right _ h)) rfl rfl (by decide) (List.mem_of_getElem? (i := 3) rfl) rfl rfl dX7_prior_37 ?_
        refine lv_bipush (v := 40) hx hb dX7_prior_40 (by decide) ?_
        refine lv_icmp_ne (tgt := 49) hx hb dX7_prior_42 (by decide) (fun c10 => ?_) (fun c10 => ?_)
        · rw [if_neg c10] at hf
          refine lv_iconst (v := 0) hx hb dX7_prior_49 (by decide) ?_
          exact w_X7_prior_J50 C  E (lv_sub hl [0, 1, 2, 3] rfl) hf
        · rw [if_pos c10] at hf
          refine lv_iconst (v := 2) hx hb dX7_prior_45 (by decide) ?_
          refine lv_goto (tgt := 50) hx hb dX7_prior_46 (by decide) ?_
          exact w_X7_prior_J50 C  E (lv_sub hl [0, 1, 2, 3] rfl) hf
      · rw [if_pos c9] at hf
        exact w_X7_prior_J32 C  E (lv_sub hl [0, 1, 2, 3] rfl) hf
abbrev rm_X7_day : Room := { frames := 0, cells := 0, slots := 0, locals := 0 }
theorem hd_X7_day : yX7_day.cls ≠ "java/lang/invoke/MethodHandle" ∧ yX7_day.cls ≠ "java/lang/invoke/VarHandle" ∧ (parseMethodDescriptor yX7_day.desc).map (fun d => d.parameters.length) = some 1 := by decide +kernel
def f_X7_day (mth : Int32) (mto : Int32) (x1 : Int32) : Option (Int32 × (Int32) × (Int32)) :=
  if x1 < mto then
    some ((0 : Int32), (0 : Int32), mto)
  else
    if x1 ≤ (100000 : Int32) then
      some ((1 : Int32), (0 : Int32), x1)
    else
      some ((0 : Int32), (0 : Int32), mto)
set_option maxHeartbeats 4000000 in
set_option maxRecDepth 100000 in
theorem c_X7_day {l : Launch} {D : va_G} {cI cJ cZ : ClassId} {b : Nat → Nat} {sz : Nat} {mth : Int32} {mlo : Int32} {mre : Int32} {mpr : Int32} {mto : Int32} {mim : Int64} {mdi : Int64} {mow : Int64} {mit : Int64} {mvl : Nat → Int32} {mhs : Nat → Int32} {mns : Nat → Int32} {mby : Nat → Int32} {mng : Nat → Int32} {mnu : Nat → Int32} {mnd : Nat → Int32} {mbg : Nat → Int32} {mbu : Nat → Int32} {mbd : Nat → Int32} {mlg : Nat → Int32} {mly : Nat → Int32} {mll : Nat → Int64} {mld : Nat → Int64} {mpg : Nat → Int32} {mpu : Nat → Int32} {mpl : Nat → Int64} {mtd : Int64} {mti : Int64} {mwt : Nat → Int64} {mch : Nat → Int64} {x1 : Int32} {o : Int32 × (Int32) × (Int32)} (hf : f_X7_day mth mto x1 = some o) : gMi l yX7_day wsX7_day rm_X7_day D (gT cI cJ cZ) (mW b cI cJ cZ mth mlo mre mpr mto mim mdi mow mit mvl mhs mns mby mng mnu mnd mbg mbu mbd mlg mly mll mld mpg mpu mpl mtd mti mwt mch) (mW b cI cJ cZ o.2.1 mlo mre mpr o.2.2 mim mdi mow mit mvl mhs mns mby mng mnu mnd mbg mbu mbd mlg mly mll mld mpg mpu mpl mtd mti mwt mch) sz [.ref (b 0), .int x1] o.1 := by
  refine g_of (cc := cX7_day) (maxL := 2) (ret := (some .boolean)) (by decide) rfl (Nat.le_of_ble_eq_true rfl) ?_
  intro p e s m below meth c A ls hAe C hl E
  rw [← hAe]
  obtain ⟨hx, hb, hr, hml, hown, hts, hlocks, hN, hA⟩ := id C
  have hl : lv_has ls 2 [(0, .ref (b 0)), (1, .int x1)] := hl
  have E : vE s A D (gT cI cJ cZ) (mW b cI cJ cZ mth mlo mre mpr mto mim mdi mow mit mvl mhs mns mby mng mnu mnd mbg mbu mbd mlg mly mll mld mpg mpu mpl mtd mti mwt mch) s.heap [] := E
  rw [f_X7_day] at hf
  refine lv_aload_n hx hb dX7_day_0 rfl (lv_at hl 0 rfl) ?_
  refine lv_iconst (v := 0) hx hb dX7_day_1 (by decide) ?_
  refine g_put (w' := (mW b cI cJ cZ (0 : Int32) mlo mre mpr mto mim mdi mow mit mvl mhs mns mby mng mnu mnd mbg mbu mbd mlg mly mll mld mpg mpu mpl mtd mti mwt mch)) C E 0 0 tyX7 tyX7_ok nmX7 (fun _ h => List.mem_cons_of_mem _ (List.mem_append_right _ h)) rfl rfl (by decide) (List.mem_of_getElem? (i := 1) rfl) rfl rfl rfl rfl rfl (Nat.le_of_ble_eq_true rfl) dX7_day_2 rfl (fun H locs E => ?_)
  refine lv_iload_n hx hb dX7_day_5 rfl (lv_at hl 1 rfl) ?_
  refine lv_aload_n hx hb dX7_day_6 rfl (lv_at hl 0 rfl) ?_
  refine g_get C E 0 4 (fun _ h => List.mem_cons_of_mem _ (List.mem_append_right _ h)) rfl rfl (by decide) (List.mem_of_getElem? (i := 2) rfl) rfl rfl dX7_day_7 ?_
  refine lv_icmp_lt (tgt := 19) hx hb dX7_day_10 (by decide) (fun c1 => ?_) (fun c1 => ?_)
  · rw [if_pos c1] at hf
    refine lv_iconst (v := 0) hx hb dX7_day_19 (by decide) ?_
    obtain rfl := Option.some.inj hf
    exact g_zret (r := 0) C E rfl dX7_day_20
  · rw [if_neg c1] at hf
    refine lv_iload_n hx hb dX7_day_13 rfl (lv_at hl 1 rfl) ?_
    refine lv_ldc (v := 100000) hx hb hown (hts (.constant RX7 173 (100000)) (List.mem_of_getElem? (i := 3) rfl)) dX7_day_14 ?_
    refine lv_icmp_le (tgt := 21) hx hb dX7_day_16 (by decide) (fun c2 => ?_) (fun c2 => ?_)
    · rw [if_pos c2] at hf
      refine lv_aload_n hx hb dX7_day_21 rfl (lv_at hl 0 rfl) ?_
      refine lv_iload_n hx hb dX7_day_22 rfl (lv_at hl 1 rfl) ?_
      refine g_put (w' := (mW b cI cJ cZ (0 : Int32) mlo mre mpr x1 mim mdi mow mit mvl mhs mns mby mng mnu mnd mbg mbu mbd mlg mly mll mld mpg mpu mpl mtd mti mwt mch)) C E 0 4 tyX7 tyX7_ok nmX7 (fun _ h => List.mem_cons_of_mem _ (List.mem_append_right _ h)) rfl rfl (by decide) (List.mem_of_getElem? (i := 2) rfl) rfl rfl rfl rfl rfl (Nat.le_of_ble_eq_true rfl) dX7_day_23 rfl (fun H locs E => ?_)
      refine lv_iconst (v := 1) hx hb dX7_day_26 (by decide) ?_
      obtain rfl := Option.some.inj hf
      exact g_zret (r := 1) C E rfl dX7_day_27
    · rw [if_neg c2] at hf
      refine lv_iconst (v := 0) hx hb dX7_day_19 (by decide) ?_
      obtain rfl := Option.some.inj hf
      exact g_zret (r := 0) C E rfl dX7_day_20
abbrev rm_X7_chain : Room := { frames := 2, cells := 0, slots := 0, locals := 45 }
theorem hd_X7_chain : yX7_chain.cls ≠ "java/lang/invoke/MethodHandle" ∧ yX7_chain.cls ≠ "java/lang/invoke/VarHandle" ∧ (parseMethodDescriptor yX7_chain.desc).map (fun d => d.parameters.length) = some 3 := by decide +kernel
def f_X7_chain_L100 (mns : Nat → Int32) (mng : Nat → Int32) (mnu : Nat → Int32) (mnd : Nat → Int32) (x5 : Int32) (k44 : (Nat → Int64) → Int32 → Option (Int64 × (Int32) × (Nat → Int64))) (k53 : (Nat → Int64) → Int32 → Option (Int64 × (Int32) × (Nat → Int64))) : Nat → (Nat → Int64) → Int32 → Option (Int64 × (Int32) × (Nat → Int64))
  | 0, _, _ => none
  | n + 1, mch, x6 =>
  ck x5 12 <|
  if (((4 : Int32) * x5) + (mns x5.toNatClampNeg)) ≤ x6 then
    k53 mch (x5 + 1)
  else
    ck x5 12 <|
    ck x6 48 <|
    ck (mng x6.toNatClampNeg) 12 <|
    ck x6 48 <|
    ck x6 48 <|
    nzL ((mnd x6.toNatClampNeg).toInt64) <|
    ck x5 12 <|
    f_X7_chain_L100 mns mng mnu mnd x5 k44 k53 n (vp_updL mch x5.toNatClampNeg ((mch x5.toNatClampNeg) + (((mch (mng x6.toNatClampNeg).toNatClampNeg) * (mnu x6.toNatClampNeg).toInt64) / (mnd x6.toNatClampNeg).toInt64))) (x6 + 1)
set_option maxHeartbeats 4000000 in
set_option maxRecDepth 100000 in
theorem w_X7_chain_L100 {p : Program} {l : Launch} {e : Env} {s : State} {m : MethodId} {args : Array Value} {below : List Frame} {meth : Method} {c : Code} {A : Nat → Prop} {D : va_G} {cI cJ cZ : ClassId} {b : Nat → Nat} {mth : Int32} {mlo : Int32} {mre : Int32} {mpr : Int32} {mto : Int32} {mim : Int64} {mdi : Int64} {mow : Int64} {mit : Int64} {mvl : Nat → Int32} {mhs : Nat → Int32} {mns : Nat → Int32} {mby : Nat → Int32} {mng : Nat → Int32} {mnu : Nat → Int32} {mnd : Nat → Int32} {mbg : Nat → Int32} {mbu : Nat → Int32} {mbd : Nat → Int32} {mlg : Nat → Int32} {mly : Nat → Int32} {mll : Nat → Int64} {mld : Nat → Int64} {mpg : Nat → Int32} {mpu : Nat → Int32} {mpl : Nat → Int64} {mtd : Int64} {mti : Int64} {mwt : Nat → Int64} (C : gC p s m args meth c cX7_chain 7 (some .long) wsX7_chain RX7 A) {x1 : Int32} {x2 : Int32} {x3 : Int32} {x4 : Int32} {x5 : Int32} {o : Int64 × (Int32) × (Nat → Int64)} {k44 : (Nat → Int64) → Int32 → Option (Int64 × (Int32) × (Nat → Int64))} (hk44 : ∀ (mch : Nat → Int64) (x4 : Int32) (H : Heap) (locs : List Loc) (ls : Array Slot), vE s A D (gT cI cJ cZ) (mW b cI cJ cZ mth mlo mre mpr mto mim mdi mow mit mvl mhs mns mby mng mnu mnd mbg mbu mbd mlg mly mll mld mpg mpu mpl mtd mti mwt mch) H locs → lv_has ls 7 [(0, .ref (b 0)), (1, .int x1), (2, .int x2), (3, .int x3), (4, .int x4)] → k44 mch x4 = some o → W p l e rm_X7_chain s m args below meth c H locs 0 0 (MQ below (gQl D (gT cI cJ cZ) A (mW b cI cJ cZ o.2.1 mlo mre mpr mto mim mdi mow mit mvl mhs mns mby mng mnu mnd mbg mbu mbd mlg mly mll mld mpg mpu mpl mtd mti mwt o.2.2) o.1) args s 0 0 A) (F0 m 44 ls [])) {k53 : (Nat → Int64) → Int32 → Option (Int64 × (Int32) × (Nat → Int64))} (hk53 : ∀ (mch : Nat → Int64) (x5 : Int32) (H : Heap) (locs : List Loc) (ls : Array Slot), vE s A D (gT cI cJ cZ) (mW b cI cJ cZ mth mlo mre mpr mto mim mdi mow mit mvl mhs mns mby mng mnu mnd mbg mbu mbd mlg mly mll mld mpg mpu mpl mtd mti mwt mch) H locs → lv_has ls 7 [(0, .ref (b 0)), (1, .int x1), (2, .int x2), (3, .int x3), (4, .int x4), (5, .int x5)] → k53 mch x5 = some o → W p l e rm_X7_chain s m args below meth c H locs 0 0 (MQ below (gQl D (gT cI cJ cZ) A (mW b cI cJ cZ o.2.1 mlo mre mpr mto mim mdi mow mit mvl mhs mns mby mng mnu mnd mbg mbu mbd mlg mly mll mld mpg mpu mpl mtd mti mwt o.2.2) o.1) args s 0 0 A) (F0 m 53 ls [])) :
    ∀ (n : Nat) (mch : Nat → Int64) (x6 : Int32) (H : Heap) (locs : List Loc) (ls : Array Slot), vE s A D (gT cI cJ cZ) (mW b cI cJ cZ mth mlo mre mpr mto mim mdi mow mit mvl mhs mns mby mng mnu mnd mbg mbu mbd mlg mly mll mld mpg mpu mpl mtd mti mwt mch) H locs → lv_has ls 7 [(0, .ref (b 0)), (1, .int x1), (2, .int x2), (3, .int x3), (4, .int x4), (5, .int x5), (6, .int x6)] → f_X7_chain_L100 mns mng mnu mnd x5 k44 k53 n mch x6 = some o → W p l e rm_X7_chain s m args below meth c H locs 0 0 (MQ below (gQl D (gT cI cJ cZ) A (mW b cI cJ cZ o.2.1 mlo mre mpr mto mim mdi mow mit mvl mhs mns mby mng mnu mnd mbg mbu mbd mlg mly mll mld mpg mpu mpl mtd mti mwt o.2.2) o.1) args s 0 0 A) (F0 m 100 ls []) := by
  obtain ⟨hx, hb, hr, hml, hown, hts, hlocks, hN, hA⟩ := id C
  intro n
  induction n with
  | zero =>
    intro mch x6 H locs ls E hl hf
    rw [f_X7_chain_L100] at hf
    cases hf
  | succ n ih =>
    intro mch x6 H locs ls E hl hf
    rw [f_X7_chain_L100] at hf
    refine lv_iload hx hb dX7_chain_100 (lv_at hl 6 rfl) ?_
    refine lv_iconst (v := 4) hx hb dX7_chain_102 (by decide) ?_
    refine lv_iload hx hb dX7_chain_103 (lv_at hl 5 rfl) ?_
    refine lv_imul hx hb dX7_chain_105 ?_
    refine lv_aload_n hx hb dX7_chain_106 rfl (lv_at hl 0 rfl) ?_
    refine g_get C E 0 11 (fun _ h => List.mem_cons_of_mem _ (List.mem_append_right _ h)) rfl rfl (by decide) (List.mem_of_getElem? (i := 4) rfl) rfl rfl dX7_chain_107 ?_
    refine lv_iload hx hb dX7_chain_110 (lv_at hl 5 rfl) ?_
    obtain ⟨h1, hf⟩ := ck_some hf
    refine g_iald C E 3 rfl h1 dX7_chain_112 ?_
    refine lv_iadd hx hb dX7_chain_113 ?_
    refine lv_icmp_ge (tgt := 163) hx hb dX7_chain_114 (by decide) (fun c2 => ?_) (fun c2 => ?_)
    · rw [if_pos c2] at hf
      refine lv_iinc (v := (x5 + 1)) (lv' := [(5, .int (x5 + 1)), (0, .ref (b 0)), (1, .int x1), (2, .int x2), (3, .int x3), (4, .int x4), (6, .int x6)]) hx hb dX7_chain_163 hl (k := 5) rfl rfl (by decide) rfl (fun ls hl => ?_)
      refine lv_goto (tgt := 53) hx hb dX7_chain_166 (by decide) ?_
      exact hk53 mch (x5 + 1) _ _ _ E (lv_sub hl [1, 2, 3, 4, 5, 0] rfl) hf
    · rw [if_neg c2] at hf
      refine lv_aload_n hx hb dX7_chain_117 rfl (lv_at hl 0 rfl) ?_
      refine g_get C E 0 29 (fun _ h => List.mem_cons_of_mem _ (List.mem_append_right _ h)) rfl rfl (by decide) (List.mem_of_getElem? (i := 2) rfl) rfl rfl dX7_chain_118 ?_
      refine lv_iload hx hb dX7_chain_121 (lv_at hl 5 rfl) ?_
      refine lv_dup2_11 hx hb dX7_chain_123 rfl rfl ?_
      obtain ⟨h3, hf⟩ := ck_some hf
      refine g_lald C E 19 rfl h3 dX7_chain_124 ?_
      refine lv_aload_n hx hb dX7_chain_125 rfl (lv_at hl 0 rfl) ?_
      refine g_get C E 0 29 (fun _ h => List.mem_cons_of_mem _ (List.mem_append_right _ h)) rfl rfl (by decide) (List.mem_of_getElem? (i := 2) rfl) rfl rfl dX7_chain_126 ?_
      refine lv_aload_n hx hb dX7_chain_129 rfl (lv_at hl 0 rfl) ?_
      refine g_get C E 0 13 (fun _ h => List.mem_cons_of_mem _ (List.mem_append_right _ h)) rfl rfl (by decide) (List.mem_of_getElem? (i := 5) rfl) rfl rfl dX7_chain_130 ?_
      refine lv_iload hx hb dX7_chain_133 (lv_at hl 6 rfl) ?_
      obtain ⟨h4, hf⟩ := ck_some hf
      refine g_iald C E 5 rfl h4 dX7_chain_135 ?_
      obtain ⟨h5, hf⟩ := ck_some hf
      refine g_lald C E 19 rfl h5 dX7_chain_136 ?_
      refine lv_aload_n hx hb dX7_chain_137 rfl (lv_at hl 0 rfl) ?_
      refine g_get C E 0 14 (fun _ h => List.mem_cons_of_mem _ (List.mem_append_right _ h)) rfl rfl (by decide) (List.mem_of_getElem? (i := 6) rfl) rfl rfl dX7_chain_138 ?_
      refine lv_iload hx hb dX7_chain_141 (lv_at hl 6 rfl) ?_
      obtain ⟨h6, hf⟩ := ck_some hf
      refine g_iald C E 6 rfl h6 dX7_chain_143 ?_
      refine lv_i2l hx hb dX7_chain_144 rfl ?_
      refine lv_lmul hx hb dX7_chain_145 ?_
      refine lv_aload_n hx hb dX7_chain_146 rfl (lv_at hl 0 rfl) ?_
      refine g_get C E 0 15 (fun _ h => List.mem_cons_of_mem _ (List.mem_append_right _ h)) rfl rfl (by decide) (List.mem_of_getElem? (i := 7) rfl) rfl rfl dX7_chain_147 ?_
      refine lv_iload hx hb dX7_chain_150 (lv_at hl 6 rfl) ?_
      obtain ⟨h7, hf⟩ := ck_some hf
      refine g_iald C E 7 rfl h7 dX7_chain_152 ?_
      refine lv_i2l hx hb dX7_chain_153 rfl ?_
      obtain ⟨h8, hf⟩ := nzL_some hf
      refine lv_ldiv hx hb dX7_chain_154 h8 ?_
      refine lv_ladd hx hb dX7_chain_155 ?_
      obtain ⟨h9, hf⟩ := ck_some hf
      refine g_last (w' := (mW b cI cJ cZ mth mlo mre mpr mto mim mdi mow mit mvl mhs mns mby mng mnu mnd mbg mbu mbd mlg mly mll mld mpg mpu mpl mtd mti mwt (vp_updL mch x5.toNatClampNeg ((mch x5.toNatClampNeg) + (((mch (mng x6.toNatClampNeg).toNatClampNeg) * (mnu x6.toNatClampNeg).toInt64) / (mnd x6.toNatClampNeg).toInt64))))) C E 19 rfl h9 dX7_chain_156 rfl (fun H locs E => ?_)
      refine lv_iinc (v := (x6 + 1)) (lv' := [(6, .int (x6 + 1)), (0, .ref (b 0)), (1, .int x1), (2, .int x2), (3, .int x3), (4, .int x4), (5, .int x5)]) hx hb dX7_chain_157 hl (k := 6) rfl rfl (by decide) rfl (fun ls hl => ?_)
      refine lv_goto (tgt := 100) hx hb dX7_chain_160 (by decide) ?_
      exact ih (vp_updL mch x5.toNatClampNeg ((mch x5.toNatClampNeg) + (((mch (mng x6.toNatClampNeg).toNatClampNeg) * (mnu x6.toNatClampNeg).toInt64) / (mnd x6.toNatClampNeg).toInt64))) (x6 + 1) _ _ _ E (lv_sub hl [1, 2, 3, 4, 5, 6, 0] rfl) hf
def f_X7_chain_L53 (mns : Nat → Int32) (mng : Nat → Int32) (mnu : Nat → Int32) (mnd : Nat → Int32) (x2 : Int32) (x4 : Int32) (k44 : (Nat → Int64) → Int32 → Option (Int64 × (Int32) × (Nat → Int64))) : Nat → (Nat → Int64) → Int32 → Option (Int64 × (Int32) × (Nat → Int64))
  | 0, _, _ => none
  | n + 1, mch, x5 =>
  if (12 : Int32) ≤ x5 then
    k44 mch (x4 + 1)
  else
    (f_X7_depthOf mns mng x5).bind fun o2 =>
    if o2 = x4 then
      if x5 = x2 then
        ck x5 12 <|
        f_X7_chain_L100 mns mng mnu mnd x5 k44 (fun mch x5 => f_X7_chain_L53 mns mng mnu mnd x2 x4 k44 n mch x5) FU (vp_updL mch x5.toNatClampNeg (21300003648000 : Int64)) ((4 : Int32) * x5)
      else
        ck x5 12 <|
        f_X7_chain_L100 mns mng mnu mnd x5 k44 (fun mch x5 => f_X7_chain_L53 mns mng mnu mnd x2 x4 k44 n mch x5) FU (vp_updL mch x5.toNatClampNeg (0 : Int64)) ((4 : Int32) * x5)
    else
      f_X7_chain_L53 mns mng mnu mnd x2 x4 k44 n mch (x5 + 1)
set_option maxHeartbeats 4000000 in
set_option maxRecDepth 100000 in
theorem w_X7_chain_L53 {p : Program} {l : Launch} {e : Env} {s : State} {m : MethodId} {args : Array Value} {below : List Frame} {meth : Method} {c : Code} {A : Nat → Prop} {D : va_G} {cI cJ cZ : ClassId} {b : Nat → Nat} {mth : Int32} {mlo : Int32} {mre : Int32} {mpr : Int32} {mto : Int32} {mim : Int64} {mdi : Int64} {mow : Int64} {mit : Int64} {mvl : Nat → Int32} {mhs : Nat → Int32} {mns : Nat → Int32} {mby : Nat → Int32} {mng : Nat → Int32} {mnu : Nat → Int32} {mnd : Nat → Int32} {mbg : Nat → Int32} {mbu : Nat → Int32} {mbd : Nat → Int32} {mlg : Nat → Int32} {mly : Nat → Int32} {mll : Nat → Int64} {mld : Nat → Int64} {mpg : Nat → Int32} {mpu : Nat → Int32} {mpl : Nat → Int64} {mtd : Int64} {mti : Int64} {mwt : Nat → Int64} (C : gC p s m args meth c cX7_chain 7 (some .long) wsX7_chain RX7 A) {x1 : Int32} {x2 : Int32} {x3 : Int32} {x4 : Int32} {o : Int64 × (Int32) × (Nat → Int64)} {k44 : (Nat → Int64) → Int32 → Option (Int64 × (Int32) × (Nat → Int64))} (hk44 : ∀ (mch : Nat → Int64) (x4 : Int32) (H : Heap) (locs : List Loc) (ls : Array Slot), vE s A D (gT cI cJ cZ) (mW b cI cJ cZ mth mlo mre mpr mto mim mdi mow mit mvl mhs mns mby mng mnu mnd mbg mbu mbd mlg mly mll mld mpg mpu mpl mtd mti mwt mch) H locs → lv_has ls 7 [(0, .ref (b 0)), (1, .int x1), (2, .int x2), (3, .int x3), (4, .int x4)] → k44 mch x4 = some o → W p l e rm_X7_chain s m args below meth c H locs 0 0 (MQ below (gQl D (gT cI cJ cZ) A (mW b cI cJ cZ o.2.1 mlo mre mpr mto mim mdi mow mit mvl mhs mns mby mng mnu mnd mbg mbu mbd mlg mly mll mld mpg mpu mpl mtd mti mwt o.2.2) o.1) args s 0 0 A) (F0 m 44 ls [])) :
    ∀ (n : Nat) (mch : Nat → Int64) (x5 : Int32) (H : Heap) (locs : List Loc) (ls : Array Slot), vE s A D (gT cI cJ cZ) (mW b cI cJ cZ mth mlo mre mpr mto mim mdi mow mit mvl mhs mns mby mng mnu mnd mbg mbu mbd mlg mly mll mld mpg mpu mpl mtd mti mwt mch) H locs → lv_has ls 7 [(0, .ref (b 0)), (1, .int x1), (2, .int x2), (3, .int x3), (4, .int x4), (5, .int x5)] → f_X7_chain_L53 mns mng mnu mnd x2 x4 k44 n mch x5 = some o → W p l e rm_X7_chain s m args below meth c H locs 0 0 (MQ below (gQl D (gT cI cJ cZ) A (mW b cI cJ cZ o.2.1 mlo mre mpr mto mim mdi mow mit mvl mhs mns mby mng mnu mnd mbg mbu mbd mlg mly mll mld mpg mpu mpl mtd mti mwt o.2.2) o.1) args s 0 0 A) (F0 m 53 ls []) := by
  obtain ⟨hx, hb, hr, hml, hown, hts, hlocks, hN, hA⟩ := id C
  intro n
  induction n with
  | zero =>
    intro mch x5 H locs ls E hl hf
    rw [f_X7_chain_L53] at hf
    cases hf
  | succ n ih =>
    intro mch x5 H locs ls E hl hf
    rw [f_X7_chain_L53] at hf
    refine lv_iload hx hb dX7_chain_53 (lv_at hl 5 rfl) ?_
    refine lv_bipush (v := 12) hx hb dX7_chain_55 (by decide) ?_
    refine lv_icmp_ge (tgt := 169) hx hb dX7_chain_57 (by decide) (fun c1 => ?_) (fun c1 => ?_)
    · rw [if_pos c1] at hf
      refine lv_iinc (v := (x4 + 1)) (lv' := [(4, .int (x4 + 1)), (0, .ref (b 0)), (1, .int x1), (2, .int x2), (3, .int x3), (5, .int x5)]) hx hb dX7_chain_169 hl (k := 4) rfl rfl (by decide) rfl (fun ls hl => ?_)
      refine lv_goto (tgt := 44) hx hb dX7_chain_172 (by decide) ?_
      exact hk44 mch (x4 + 1) _ _ _ E (lv_sub hl [1, 2, 3, 4, 0] rfl) hf
    · rw [if_neg c1] at hf
      refine lv_aload_n hx hb dX7_chain_60 rfl (lv_at hl 0 rfl) ?_
      refine lv_iload hx hb dX7_chain_61 (lv_at hl 5 rfl) ?_
      obtain ⟨o2, e3, hf⟩ := bd_some hf
      refine g_calli (w' := (mW b cI cJ cZ mth mlo mre mpr mto mim mdi mow mit mvl mhs mns mby mng mnu mnd mbg mbu mbd mlg mly mll mld mpg mpu mpl mtd mti mwt mch)) C E (g_runV (As := [.int x5]) (rest := []) C E (c_X7_depthOf e3) (cwV 1 hts gX7_chain_X7_depthOf rfl rfl rfl ⟨rfl, hd_X7_depthOf⟩ ⟨Nat.le_of_ble_eq_true rfl, Nat.le_of_ble_eq_true rfl⟩) (q0 := 0) (ci := 7) rfl rfl rfl rfl hl.1 rfl (Nat.le_of_ble_eq_true rfl) dX7_chain_63 ⟨Nat.le_of_ble_eq_true rfl, Nat.le_of_ble_eq_true rfl⟩) (fun H locs E => ?_)
      refine lv_iload hx hb dX7_chain_66 (lv_at hl 4 rfl) ?_
      refine lv_icmp_eq (tgt := 74) hx hb dX7_chain_68 (by decide) (fun c4 => ?_) (fun c4 => ?_)
      · rw [if_pos c4] at hf
        refine lv_aload_n hx hb dX7_chain_74 rfl (lv_at hl 0 rfl) ?_
        refine g_get C E 0 29 (fun _ h => List.mem_cons_of_mem _ (List.mem_append_right _ h)) rfl rfl (by decide) (List.mem_of_getElem? (i := 2) rfl) rfl rfl dX7_chain_75 ?_
        refine lv_iload hx hb dX7_chain_78 (lv_at hl 5 rfl) ?_
        refine lv_iload hx hb dX7_chain_80 (lv_at hl 5 rfl) ?_
        refine lv_iload_n hx hb dX7_chain_82 rfl (lv_at hl 2 rfl) ?_
        refine lv_icmp_ne (tgt := 92) hx hb dX7_chain_83 (by decide) (fun c5 => ?_) (fun c5 => ?_)
        · rw [if_neg c5] at hf
          refine lv_lconst (v := 0) hx hb dX7_chain_92 (by decide) ?_
          obtain ⟨h6, hf⟩ := ck_some hf
          refine g_last (w' := (mW b cI cJ cZ mth mlo mre mpr mto mim mdi mow mit mvl mhs mns mby mng mnu mnd mbg mbu mbd mlg mly mll mld mpg mpu mpl mtd mti mwt (vp_updL mch x5.toNatClampNeg (0 : Int64)))) C E 19 rfl h6 dX7_chain_93 rfl (fun H locs E => ?_)
          refine lv_iconst (v := 4) hx hb dX7_chain_94 (by decide) ?_
          refine lv_iload hx hb dX7_chain_95 (lv_at hl 5 rfl) ?_
          refine lv_imul hx hb dX7_chain_97 ?_
          refine lv_istore (lv' := [(6, .int ((4 : Int32) * x5)), (0, .ref (b 0)), (1, .int x1), (2, .int x2), (3, .int x3), (4, .int x4), (5, .int x5)]) hx hb dX7_chain_98 hl (by decide) rfl (fun ls hl => ?_)
          exact w_X7_chain_L100 C hk44 ih FU (vp_updL mch x5.toNatClampNeg (0 : Int64)) ((4 : Int32) * x5) _ _ _ E (lv_sub hl [1, 2, 3, 4, 5, 6, 0] rfl) hf
        · rw [if_pos c5] at hf
          refine lv_ldc2 (v := 21300003648000) hx hb hown (hts (.constantLong RX7 174 (21300003648000)) (List.mem_of_getElem? (i := 3) rfl)) dX7_chain_86 ?_
          refine lv_goto (tgt := 93) hx hb dX7_chain_89 (by decide) ?_
          obtain ⟨h7, hf⟩ := ck_some hf
          refine g_last (w' := (mW b cI cJ cZ mth mlo mre mpr mto mim mdi mow mit mvl mhs mns mby mng mnu mnd mbg mbu mbd mlg mly mll mld mpg mpu mpl mtd mti mwt (vp_updL mch x5.toNatClampNeg (21300003648000 : Int64)))) C E 19 rfl h7 dX7_chain_93 rfl (fun H locs E => ?_)
          refine lv_iconst (v := 4) hx hb dX7_chain_94 (by decide) ?_
          refine lv_iload hx hb dX7_chain_95 (lv_at hl 5 rfl) ?_
          refine lv_imul hx hb dX7_chain_97 ?_
          refine lv_istore (lv' := [(6, .int ((4 : Int32) * x5)), (0, .ref (b 0)), (1, .int x1), (2, .int x2), (3, .int x3), (4, .int x4), (5, .int x5)]) hx hb dX7_chain_98 hl (by decide) rfl (fun ls hl => ?_)
          exact w_X7_chain_L100 C hk44 ih FU (vp_updL mch x5.toNatClampNeg (21300003648000 : Int64)) ((4 : Int32) * x5) _ _ _ E (lv_sub hl [1, 2, 3, 4, 5, 6, 0] rfl) hf
      · rw [if_neg c4] at hf
        refine lv_goto (tgt := 163) hx hb dX7_chain_71 (by decide) ?_
        refine lv_iinc (v := (x5 + 1)) (lv' := [(5, .int (x5 + 1)), (0, .ref (b 0)), (1, .int x1), (2, .int x2), (3, .int x3), (4, .int x4)]) hx hb dX7_chain_163 hl (k := 5) rfl rfl (by decide) rfl (fun ls hl => ?_)
        refine lv_goto (tgt := 53) hx hb dX7_chain_166 (by decide) ?_
        exact ih mch (x5 + 1) _ _ _ E (lv_sub hl [1, 2, 3, 4, 5, 0] rfl) hf
def f_X7_chain_L44 (mth : Int32) (mns : Nat → Int32) (mng : Nat → Int32) (mnu : Nat → Int32) (mnd : Nat → Int32) (x1 : Int32) (x2 : Int32) (x3 : Int32) : Nat → (Nat → Int64) → Int32 → Option (Int64 × (Int32) × (Nat → Int64))
  | 0, _, _ => none
  | n + 1, mch, x4 =>
  if (4 : Int32) ≤ x4 then
    ck x1 12 <|
    (f_X7_common (mch x1.toNatClampNeg) (21300003648000 : Int64)).bind fun o3 =>
    if x3 = 0 then
      ck x1 12 <|
      nzL o3 <|
      some (((mch x1.toNatClampNeg) / o3), mth, mch)
    else
      nzL o3 <|
      some (((21300003648000 : Int64) / o3), mth, mch)
  else
    f_X7_chain_L53 mns mng mnu mnd x2 x4 (fun mch x4 => f_X7_chain_L44 mth mns mng mnu mnd x1 x2 x3 n mch x4) FU mch (0 : Int32)
set_option maxHeartbeats 4000000 in
set_option maxRecDepth 100000 in
theorem w_X7_chain_L44 {p : Program} {l : Launch} {e : Env} {s : State} {m : MethodId} {args : Array Value} {below : List Frame} {meth : Method} {c : Code} {A : Nat → Prop} {D : va_G} {cI cJ cZ : ClassId} {b : Nat → Nat} {mth : Int32} {mlo : Int32} {mre : Int32} {mpr : Int32} {mto : Int32} {mim : Int64} {mdi : Int64} {mow : Int64} {mit : Int64} {mvl : Nat → Int32} {mhs : Nat → Int32} {mns : Nat → Int32} {mby : Nat → Int32} {mng : Nat → Int32} {mnu : Nat → Int32} {mnd : Nat → Int32} {mbg : Nat → Int32} {mbu : Nat → Int32} {mbd : Nat → Int32} {mlg : Nat → Int32} {mly : Nat → Int32} {mll : Nat → Int64} {mld : Nat → Int64} {mpg : Nat → Int32} {mpu : Nat → Int32} {mpl : Nat → Int64} {mtd : Int64} {mti : Int64} {mwt : Nat → Int64} (C : gC p s m args meth c cX7_chain 7 (some .long) wsX7_chain RX7 A) {x1 : Int32} {x2 : Int32} {x3 : Int32} {o : Int64 × (Int32) × (Nat → Int64)} :
    ∀ (n : Nat) (mch : Nat → Int64) (x4 : Int32) (H : Heap) (locs : List Loc) (ls : Array Slot), vE s A D (gT cI cJ cZ) (mW b cI cJ cZ mth mlo mre mpr mto mim mdi mow mit mvl mhs mns mby mng mnu mnd mbg mbu mbd mlg mly mll mld mpg mpu mpl mtd mti mwt mch) H locs → lv_has ls 7 [(0, .ref (b 0)), (1, .int x1), (2, .int x2), (3, .int x3), (4, .int x4)] → f_X7_chain_L44 mth mns mng mnu mnd x1 x2 x3 n mch x4 = some o → W p l e rm_X7_chain s m args below meth c H locs 0 0 (MQ below (gQl D (gT cI cJ cZ) A (mW b cI cJ cZ o.2.1 mlo mre mpr mto mim mdi mow mit mvl mhs mns mby mng mnu mnd mbg mbu mbd mlg mly mll mld mpg mpu mpl mtd mti mwt o.2.2) o.1) args s 0 0 A) (F0 m 44 ls []) := by
  obtain ⟨hx, hb, hr, hml, hown, hts, hlocks, hN, hA⟩ := id C
  intro n
  induction n with
  | zero =>
    intro mch x4 H locs ls E hl hf
    rw [f_X7_chain_L44] at hf
    cases hf
  | succ n ih =>
    intro mch x4 H locs ls E hl hf
    rw [f_X7_chain_L44] at hf
    refine lv_iload hx hb dX7_chain_44 (lv_at hl 4 rfl) ?_
    refine lv_iconst (v := 4) hx hb dX7_chain_46 (by decide) ?_
    refine lv_icmp_ge (tgt := 175) hx hb dX7_chain_47 (by decide) (fun c1 => ?_) (fun c1 => ?_)
    · rw [if_pos c1] at hf
      refine lv_aload_n hx hb dX7_chain_175 rfl (lv_at hl 0 rfl) ?_
      refine g_get C E 0 29 (fun _ h => List.mem_cons_of_mem _ (List.mem_append_right _ h)) rfl rfl (by decide) (List.mem_of_getElem? (i := 2) rfl) rfl rfl dX7_chain_176 ?_
      refine lv_iload_n hx hb dX7_chain_179 rfl (lv_at hl 1 rfl) ?_
      obtain ⟨h2, hf⟩ := ck_some hf
      refine g_lald C E 19 rfl h2 dX7_chain_180 ?_
      refine lv_ldc2 (v := 21300003648000) hx hb hown (hts (.constantLong RX7 174 (21300003648000)) (List.mem_of_getElem? (i := 3) rfl)) dX7_chain_181 ?_
      obtain ⟨o3, e4, hf⟩ := bd_some hf
      refine g_calll (w' := (mW b cI cJ cZ mth mlo mre mpr mto mim mdi mow mit mvl mhs mns mby mng mnu mnd mbg mbu mbd mlg mly mll mld mpg mpu mpl mtd mti mwt mch)) C E (g_runS (As := [.long (mch x1.toNatClampNeg), .long (21300003648000 : Int64)]) (rest := []) C E (c_X7_common e4) (va_cwS 2 hts gX7_chain_X7_common rfl rfl rfl hd_X7_common ⟨Nat.le_of_ble_eq_true rfl, Nat.le_of_ble_eq_true rfl⟩) rfl hl.1 rfl (Nat.le_of_ble_eq_true rfl) dX7_chain_184 ⟨Nat.le_of_ble_eq_true rfl, Nat.le_of_ble_eq_true rfl⟩) (fun H locs E => ?_)
      refine lv_lstore (lv' := [(4, .long o3), (0, .ref (b 0)), (1, .int x1), (2, .int x2), (3, .int x3)]) hx hb dX7_chain_187 hl (by decide) rfl (fun ls hl => ?_)
      refine lv_iload_n hx hb dX7_chain_189 rfl (lv_at hl 4 rfl) ?_
      refine lv_if_ne (tgt := 205) hx hb dX7_chain_190 (by decide) (fun c5 => ?_) (fun c5 => ?_)
      · rw [if_neg c5] at hf
        refine lv_ldc2 (v := 21300003648000) hx hb hown (hts (.constantLong RX7 174 (21300003648000)) (List.mem_of_getElem? (i := 3) rfl)) dX7_chain_205 ?_
        refine lv_lload hx hb dX7_chain_208 (lv_at hl 0 rfl) ?_
        obtain ⟨h6, hf⟩ := nzL_some hf
        refine lv_ldiv hx hb dX7_chain_210 h6 ?_
        obtain rfl := Option.some.inj hf
        exact g_lret C E dX7_chain_211
      · rw [if_pos c5] at hf
        refine lv_aload_n hx hb dX7_chain_193 rfl (lv_at hl 1 rfl) ?_
        refine g_get C E 0 29 (fun _ h => List.mem_cons_of_mem _ (List.mem_append_right _ h)) rfl rfl (by decide) (List.mem_of_getElem? (i := 2) rfl) rfl rfl dX7_chain_194 ?_
        refine lv_iload_n hx hb dX7_chain_197 rfl (lv_at hl 2 rfl) ?_
        obtain ⟨h7, hf⟩ := ck_some hf
        refine g_lald C E 19 rfl h7 dX7_chain_198 ?_
        refine lv_lload hx hb dX7_chain_199 (lv_at hl 0 rfl) ?_
        obtain ⟨h8, hf⟩ := nzL_some hf
        refine lv_ldiv hx hb dX7_chain_201 h8 ?_
        refine lv_goto (tgt := 211) hx hb dX7_chain_202 (by decide) ?_
        obtain rfl := Option.some.inj hf
        exact g_lret C E dX7_chain_211
    · rw [if_neg c1] at hf
      refine lv_iconst (v := 0) hx hb dX7_chain_50 (by decide) ?_
      refine lv_istore (lv' := [(5, .int (0 : Int32)), (0, .ref (b 0)), (1, .int x1), (2, .int x2), (3, .int x3), (4, .int x4)]) hx hb dX7_chain_51 hl (by decide) rfl (fun ls hl => ?_)
      exact w_X7_chain_L53 C ih FU mch (0 : Int32) _ _ _ E (lv_sub hl [1, 2, 3, 4, 5, 0] rfl) hf
def f_X7_chain_J28 (mns : Nat → Int32) (mng : Nat → Int32) (mnu : Nat → Int32) (mnd : Nat → Int32) (mch : Nat → Int64) (x1 : Int32) (x2 : Int32) (x3 : Int32) : Option (Int64 × (Int32) × (Nat → Int64)) :=
  if (1 : Int32) ≤ 0 then
    f_X7_chain_L44 (1 : Int32) mns mng mnu mnd x1 x2 x3 FU mch (0 : Int32)
  else
    some ((0 : Int64), (1 : Int32), mch)
set_option maxHeartbeats 4000000 in
set_option maxRecDepth 100000 in
theorem w_X7_chain_J28 {p : Program} {l : Launch} {e : Env} {s : State} {m : MethodId} {args : Array Value} {below : List Frame} {meth : Method} {c : Code} {A : Nat → Prop} {D : va_G} {cI cJ cZ : ClassId} {b : Nat → Nat} {mth : Int32} {mlo : Int32} {mre : Int32} {mpr : Int32} {mto : Int32} {mim : Int64} {mdi : Int64} {mow : Int64} {mit : Int64} {mvl : Nat → Int32} {mhs : Nat → Int32} {mns : Nat → Int32} {mby : Nat → Int32} {mng : Nat → Int32} {mnu : Nat → Int32} {mnd : Nat → Int32} {mbg : Nat → Int32} {mbu : Nat → Int32} {mbd : Nat → Int32} {mlg : Nat → Int32} {mly : Nat → Int32} {mll : Nat → Int64} {mld : Nat → Int64} {mpg : Nat → Int32} {mpu : Nat → Int32} {mpl : Nat → Int64} {mtd : Int64} {mti : Int64} {mwt : Nat → Int64} {mch : Nat → Int64} (C : gC p s m args meth c cX7_chain 7 (some .long) wsX7_chain RX7 A) {x1 : Int32} {x2 : Int32} {x3 : Int32} {o : Int64 × (Int32) × (Nat → Int64)} {H : Heap} {locs : List Loc} {ls : Array Slot} (E : vE s A D (gT cI cJ cZ) (mW b cI cJ cZ mth mlo mre mpr mto mim mdi mow mit mvl mhs mns mby mng mnu mnd mbg mbu mbd mlg mly mll mld mpg mpu mpl mtd mti mwt mch) H locs) (hl : lv_has ls 7 [(0, .ref (b 0)), (1, .int x1), (2, .int x2), (3, .int x3)]) (hf : f_X7_chain_J28 mns mng mnu mnd mch x1 x2 x3 = some o) : W p l e rm_X7_chain s m args below meth c H locs 0 0 (MQ below (gQl D (gT cI cJ cZ) A (mW b cI cJ cZ o.2.1 mlo mre mpr mto mim mdi mow mit mvl mhs mns mby mng mnu mnd mbg mbu mbd mlg mly mll mld mpg mpu mpl mtd mti mwt o.2.2) o.1) args s 0 0 A) (F0 m 28 ls [.ref (b 0)]) := by
  obtain ⟨hx, hb, hr, hml, hown, hts, hlocks, hN, hA⟩ := id C
  rw [f_X7_chain_J28] at hf
  refine lv_iconst (v := 1) hx hb dX7_chain_28 (by decide) ?_
  refine g_put (w' := (mW b cI cJ cZ (1 : Int32) mlo mre mpr mto mim mdi mow mit mvl mhs mns mby mng mnu mnd mbg mbu mbd mlg mly mll mld mpg mpu mpl mtd mti mwt mch)) C E 0 0 tyX7 tyX7_ok nmX7 (fun _ h => List.mem_cons_of_mem _ (List.mem_append_right _ h)) rfl rfl (by decide) (List.mem_of_getElem? (i := 1) rfl) rfl rfl rfl rfl rfl (Nat.le_of_ble_eq_true rfl) dX7_chain_29 rfl (fun H locs E => ?_)
  refine lv_aload_n hx hb dX7_chain_32 rfl (lv_at hl 0 rfl) ?_
  refine g_get C E 0 0 (fun _ h => List.mem_cons_of_mem _ (List.mem_append_right _ h)) rfl rfl (by decide) (List.mem_of_getElem? (i := 1) rfl) rfl rfl dX7_chain_33 ?_
  refine lv_if_le (tgt := 41) hx hb dX7_chain_36 (by decide) (fun c1 => ?_) (fun c1 => ?_)
  · rw [if_pos c1] at hf
    refine lv_iconst (v := 0) hx hb dX7_chain_41 (by decide) ?_
    refine lv_istore (lv' := [(4, .int (0 : Int32)), (0, .ref (b 0)), (1, .int x1), (2, .int x2), (3, .int x3)]) hx hb dX7_chain_42 hl (by decide) rfl (fun ls hl => ?_)
    exact w_X7_chain_L44 C  FU mch (0 : Int32) _ _ _ E (lv_sub hl [1, 2, 3, 4, 0] rfl) hf
  · rw [if_neg c1] at hf
    refine lv_lconst (v := 0) hx hb dX7_chain_39 (by decide) ?_
    obtain rfl := Option.some.inj hf
    exact g_lret C E dX7_chain_40
def f_X7_chain_J24 (mns : Nat → Int32) (mng : Nat → Int32) (mnu : Nat → Int32) (mnd : Nat → Int32) (mch : Nat → Int64) (x1 : Int32) (x2 : Int32) (x3 : Int32) : Option (Int64 × (Int32) × (Nat → Int64)) :=
  if (0 : Int32) ≤ 0 then
    f_X7_chain_L44 (0 : Int32) mns mng mnu mnd x1 x2 x3 FU mch (0 : Int32)
  else
    some ((0 : Int64), (0 : Int32), mch)
set_option maxHeartbeats 4000000 in
set_option maxRecDepth 100000 in
theorem w_X7_chain_J24 {p : Program} {l : Launch} {e : Env} {s : State} {m : MethodId} {args : Array Value} {below : List Frame} {meth : Method} {c : Code} {A : Nat → Prop} {D : va_G} {cI cJ cZ : ClassId} {b : Nat → Nat} {mth : Int32} {mlo : Int32} {mre : Int32} {mpr : Int32} {mto : Int32} {mim : Int64} {mdi : Int64} {mow : Int64} {mit : Int64} {mvl : Nat → Int32} {mhs : Nat → Int32} {mns : Nat → Int32} {mby : Nat → Int32} {mng : Nat → Int32} {mnu : Nat → Int32} {mnd : Nat → Int32} {mbg : Nat → Int32} {mbu : Nat → Int32} {mbd : Nat → Int32} {mlg : Nat → Int32} {mly : Nat → Int32} {mll : Nat → Int64} {mld : Nat → Int64} {mpg : Nat → Int32} {mpu : Nat → Int32} {mpl : Nat → Int64} {mtd : Int64} {mti : Int64} {mwt : Nat → Int64} {mch : Nat → Int64} (C : gC p s m args meth c cX7_chain 7 (some .long) wsX7_chain RX7 A) {x1 : Int32} {x2 : Int32} {x3 : Int32} {o : Int64 × (Int32) × (Nat → Int64)} {H : Heap} {locs : List Loc} {ls : Array Slot} (E : vE s A D (gT cI cJ cZ) (mW b cI cJ cZ mth mlo mre mpr mto mim mdi mow mit mvl mhs mns mby mng mnu mnd mbg mbu mbd mlg mly mll mld mpg mpu mpl mtd mti mwt mch) H locs) (hl : lv_has ls 7 [(0, .ref (b 0)), (1, .int x1), (2, .int x2), (3, .int x3)]) (hf : f_X7_chain_J24 mns mng mnu mnd mch x1 x2 x3 = some o) : W p l e rm_X7_chain s m args below meth c H locs 0 0 (MQ below (gQl D (gT cI cJ cZ) A (mW b cI cJ cZ o.2.1 mlo mre mpr mto mim mdi mow mit mvl mhs mns mby mng mnu mnd mbg mbu mbd mlg mly mll mld mpg mpu mpl mtd mti mwt o.2.2) o.1) args s 0 0 A) (F0 m 24 ls [.ref (b 0)]) := by
  obtain ⟨hx, hb, hr, hml, hown, hts, hlocks, hN, hA⟩ := id C
  rw [f_X7_chain_J24] at hf
  refine lv_iconst (v := 0) hx hb dX7_chain_24 (by decide) ?_
  refine lv_goto (tgt := 29) hx hb dX7_chain_25 (by decide) ?_
  refine g_put (w' := (mW b cI cJ cZ (0 : Int32) mlo mre mpr mto mim mdi mow mit mvl mhs mns mby mng mnu mnd mbg mbu mbd mlg mly mll mld mpg mpu mpl mtd mti mwt mch)) C E 0 0 tyX7 tyX7_ok nmX7 (fun _ h => List.mem_cons_of_mem _ (List.mem_append_right _ h)) rfl rfl (by decide) (List.mem_of_getElem? (i := 1) rfl) rfl rfl rfl rfl rfl (Nat.le_of_ble_eq_true rfl) dX7_chain_29 rfl (fun H locs E => ?_)
  refine lv_aload_n hx hb dX7_chain_32 rfl (lv_at hl 0 rfl) ?_
  refine g_get C E 0 0 (fun _ h => List.mem_cons_of_mem _ (List.mem_append_right _ h)) rfl rfl (by decide) (List.mem_of_getElem? (i := 1) rfl) rfl rfl dX7_chain_33 ?_
  refine lv_if_le (tgt := 41) hx hb dX7_chain_36 (by decide) (fun c1 => ?_) (fun c1 => ?_)
  · rw [if_pos c1] at hf
    refine lv_iconst (v := 0) hx hb dX7_chain_41 (by decide) ?_
    refine lv_istore (lv' := [(4, .int (0 : Int32)), (0, .ref (b 0)), (1, .int x1), (2, .int x2), (3, .int x3)]) hx hb dX7_chain_42 hl (by decide) rfl (fun ls hl => ?_)
    exact w_X7_chain_L44 C  FU mch (0 : Int32) _ _ _ E (lv_sub hl [1, 2, 3, 4, 0] rfl) hf
  · rw [if_neg c1] at hf
    refine lv_lconst (v := 0) hx hb dX7_chain_39 (by decide) ?_
    obtain rfl := Option.some.inj hf
    exact g_lret C E dX7_chain_40
def f_X7_chain (mth : Int32) (mns : Nat → Int32) (mng : Nat → Int32) (mnu : Nat → Int32) (mnd : Nat → Int32) (mch : Nat → Int64) (x1 : Int32) (x2 : Int32) (x3 : Int32) : Option (Int64 × (Int32) × (Nat → Int64)) :=
  (f_X7_isGood x1).bind fun o1 =>
  if o1 = 0 then
    f_X7_chain_J28 mns mng mnu mnd mch x1 x2 x3 
  else
    (f_X7_isGood x2).bind fun o4 =>
    if o4 = 0 then
      f_X7_chain_J28 mns mng mnu mnd mch x1 x2 x3 
    else
      if x3 = 0 then
        f_X7_chain_J24 mns mng mnu mnd mch x1 x2 x3 
      else
        if x3 = (1 : Int32) then
          f_X7_chain_J24 mns mng mnu mnd mch x1 x2 x3 
        else
          f_X7_chain_J28 mns mng mnu mnd mch x1 x2 x3 
set_option maxHeartbeats 4000000 in
set_option maxRecDepth 100000 in
theorem c_X7_chain {l : Launch} {D : va_G} {cI cJ cZ : ClassId} {b : Nat → Nat} {sz : Nat} {mth : Int32} {mlo : Int32} {mre : Int32} {mpr : Int32} {mto : Int32} {mim : Int64} {mdi : Int64} {mow : Int64} {mit : Int64} {mvl : Nat → Int32} {mhs : Nat → Int32} {mns : Nat → Int32} {mby : Nat → Int32} {mng : Nat → Int32} {mnu : Nat → Int32} {mnd : Nat → Int32} {mbg : Nat → Int32} {mbu : Nat → Int32} {mbd : Nat → Int32} {mlg : Nat → Int32} {mly : Nat → Int32} {mll : Nat → Int64} {mld : Nat → Int64} {mpg : Nat → Int32} {mpu : Nat → Int32} {mpl : Nat → Int64} {mtd : Int64} {mti : Int64} {mwt : Nat → Int64} {mch : Nat → Int64} {x1 : Int32} {x2 : Int32} {x3 : Int32} {o : Int64 × (Int32) × (Nat → Int64)} (hf : f_X7_chain mth mns mng mnu mnd mch x1 x2 x3 = some o) : gMl l yX7_chain wsX7_chain rm_X7_chain D (gT cI cJ cZ) (mW b cI cJ cZ mth mlo mre mpr mto mim mdi mow mit mvl mhs mns mby mng mnu mnd mbg mbu mbd mlg mly mll mld mpg mpu mpl mtd mti mwt mch) (mW b cI cJ cZ o.2.1 mlo mre mpr mto mim mdi mow mit mvl mhs mns mby mng mnu mnd mbg mbu mbd mlg mly mll mld mpg mpu mpl mtd mti mwt o.2.2) sz [.ref (b 0), .int x1, .int x2, .int x3] o.1 := by
  refine g_of (cc := cX7_chain) (maxL := 7) (ret := (some .long)) (by decide) rfl (Nat.le_of_ble_eq_true rfl) ?_
  intro p e s m below meth c A ls hAe C hl E
  rw [← hAe]
  obtain ⟨hx, hb, hr, hml, hown, hts, hlocks, hN, hA⟩ := id C
  have hl : lv_has ls 7 [(0, .ref (b 0)), (1, .int x1), (2, .int x2), (3, .int x3)] := hl
  have E : vE s A D (gT cI cJ cZ) (mW b cI cJ cZ mth mlo mre mpr mto mim mdi mow mit mvl mhs mns mby mng mnu mnd mbg mbu mbd mlg mly mll mld mpg mpu mpl mtd mti mwt mch) s.heap [] := E
  rw [f_X7_chain] at hf
  refine lv_aload_n hx hb dX7_chain_0 rfl (lv_at hl 0 rfl) ?_
  refine lv_iload_n hx hb dX7_chain_1 rfl (lv_at hl 1 rfl) ?_
  obtain ⟨o1, e2, hf⟩ := bd_some hf
  refine g_calli (w' := (mW b cI cJ cZ mth mlo mre mpr mto mim mdi mow mit mvl mhs mns mby mng mnu mnd mbg mbu mbd mlg mly mll mld mpg mpu mpl mtd mti mwt mch)) C E (g_runS (As := [.int x1]) (rest := [.ref (b 0)]) C E (c_X7_isGood e2) (va_cwS 1 hts gX7_chain_X7_isGood rfl rfl rfl hd_X7_isGood ⟨Nat.le_of_ble_eq_true rfl, Nat.le_of_ble_eq_true rfl⟩) rfl hl.1 rfl (Nat.le_of_ble_eq_true rfl) dX7_chain_2 ⟨Nat.le_of_ble_eq_true rfl, Nat.le_of_ble_eq_true rfl⟩) (fun H locs E => ?_)
  refine lv_if_eq (tgt := 28) hx hb dX7_chain_5 (by decide) (fun c3 => ?_) (fun c3 => ?_)
  · rw [if_pos c3] at hf
    exact w_X7_chain_J28 C  E (lv_sub hl [0, 1, 2, 3] rfl) hf
  · rw [if_neg c3] at hf
    refine lv_iload_n hx hb dX7_chain_8 rfl (lv_at hl 2 rfl) ?_
    obtain ⟨o4, e5, hf⟩ := bd_some hf
    refine g_calli (w' := (mW b cI cJ cZ mth mlo mre mpr mto mim mdi mow mit mvl mhs mns mby mng mnu mnd mbg mbu mbd mlg mly mll mld mpg mpu mpl mtd mti mwt mch)) C E (g_runS (As := [.int x2]) (rest := [.ref (b 0)]) C E (c_X7_isGood e5) (va_cwS 1 hts gX7_chain_X7_isGood rfl rfl rfl hd_X7_isGood ⟨Nat.le_of_ble_eq_true rfl, Nat.le_of_ble_eq_true rfl⟩) rfl hl.1 rfl (Nat.le_of_ble_eq_true rfl) dX7_chain_9 ⟨Nat.le_of_ble_eq_true rfl, Nat.le_of_ble_eq_true rfl⟩) (fun H locs E => ?_)
    refine lv_if_eq (tgt := 28) hx hb dX7_chain_12 (by decide) (fun c6 => ?_) (fun c6 => ?_)
    · rw [if_pos c6] at hf
      exact w_X7_chain_J28 C  E (lv_sub hl [0, 1, 2, 3] rfl) hf
    · rw [if_neg c6] at hf
      refine lv_iload_n hx hb dX7_chain_15 rfl (lv_at hl 3 rfl) ?_
      refine lv_if_eq (tgt := 24) hx hb dX7_chain_16 (by decide) (fun c7 => ?_) (fun c7 => ?_)
      · rw [if_pos c7] at hf
        exact w_X7_chain_J24 C  E (lv_sub hl [0, 1, 2, 3] rfl) hf
      · rw [if_neg c7] at hf
        refine lv_iload_n hx hb dX7_chain_19 rfl (lv_at hl 3 rfl) ?_
        refine lv_iconst (v := 1) hx hb dX7_chain_20 (by decide) ?_
        refine lv_icmp_ne (tgt := 28) hx hb dX7_chain_21 (by decide) (fun c8 => ?_) (fun c8 => ?_)
        · rw [if_neg c8] at hf
          exact w_X7_chain_J28 C  E (lv_sub hl [0, 1, 2, 3] rfl) hf
        · rw [if_pos c8] at hf
          exact w_X7_chain_J24 C  E (lv_sub hl [0, 1, 2, 3] rfl) hf
abbrev rm_X7_lot : Room := { frames := 0, cells := 0, slots := 0, locals := 0 }
theorem hd_X7_lot : yX7_lot.cls ≠ "java/lang/invoke/MethodHandle" ∧ yX7_lot.cls ≠ "java/lang/invoke/VarHandle" ∧ (parseMethodDescriptor yX7_lot.desc).map (fun d => d.parameters.length) = some 2 := by decide +kernel
def f_X7_lot_J27 (mlg : Nat → Int32) (mly : Nat → Int32) (mll : Nat → Int64) (mld : Nat → Int64) (x1 : Int32) (x2 : Int32) (t1 : Int32) : Option (Int64 × (Int32)) :=
  if t1 ≤ 0 then
    if x2 = 0 then
      ck x1 200 <|
      some ((mlg x1.toNatClampNeg).toInt64, t1)
    else
      if x2 = (1 : Int32) then
        ck x1 200 <|
        some ((mll x1.toNatClampNeg), t1)
      else
        if x2 = (2 : Int32) then
          ck x1 200 <|
          some ((mld x1.toNatClampNeg), t1)
        else
          ck x1 200 <|
          some ((mly x1.toNatClampNeg).toInt64, t1)
  else
    some ((0 : Int64), t1)
set_option maxHeartbeats 4000000 in
set_option maxRecDepth 100000 in
theorem w_X7_lot_J27 {p : Program} {l : Launch} {e : Env} {s : State} {m : MethodId} {args : Array Value} {below : List Frame} {meth : Method} {c : Code} {A : Nat → Prop} {D : va_G} {cI cJ cZ : ClassId} {b : Nat → Nat} {mth : Int32} {mlo : Int32} {mre : Int32} {mpr : Int32} {mto : Int32} {mim : Int64} {mdi : Int64} {mow : Int64} {mit : Int64} {mvl : Nat → Int32} {mhs : Nat → Int32} {mns : Nat → Int32} {mby : Nat → Int32} {mng : Nat → Int32} {mnu : Nat → Int32} {mnd : Nat → Int32} {mbg : Nat → Int32} {mbu : Nat → Int32} {mbd : Nat → Int32} {mlg : Nat → Int32} {mly : Nat → Int32} {mll : Nat → Int64} {mld : Nat → Int64} {mpg : Nat → Int32} {mpu : Nat → Int32} {mpl : Nat → Int64} {mtd : Int64} {mti : Int64} {mwt : Nat → Int64} {mch : Nat → Int64} (C : gC p s m args meth c cX7_lot 3 (some .long) wsX7_lot RX7 A) {x1 : Int32} {x2 : Int32} {o : Int64 × (Int32)} {t1 : Int32} {H : Heap} {locs : List Loc} {ls : Array Slot} (E : vE s A D (gT cI cJ cZ) (mW b cI cJ cZ mth mlo mre mpr mto mim mdi mow mit mvl mhs mns mby mng mnu mnd mbg mbu mbd mlg mly mll mld mpg mpu mpl mtd mti mwt mch) H locs) (hl : lv_has ls 3 [(0, .ref (b 0)), (1, .int x1), (2, .int x2)]) (hf : f_X7_lot_J27 mlg mly mll mld x1 x2 t1 = some o) : W p l e rm_X7_lot s m args below meth c H locs 0 0 (MQ below (gQl D (gT cI cJ cZ) A (mW b cI cJ cZ o.2 mlo mre mpr mto mim mdi mow mit mvl mhs mns mby mng mnu mnd mbg mbu mbd mlg mly mll mld mpg mpu mpl mtd mti mwt mch) o.1) args s 0 0 A) (F0 m 27 ls [.int t1, .ref (b 0)]) := by
  obtain ⟨hx, hb, hr, hml, hown, hts, hlocks, hN, hA⟩ := id C
  rw [f_X7_lot_J27] at hf
  refine g_put (w' := (mW b cI cJ cZ t1 mlo mre mpr mto mim mdi mow mit mvl mhs mns mby mng mnu mnd mbg mbu mbd mlg mly mll mld mpg mpu mpl mtd mti mwt mch)) C E 0 0 tyX7 tyX7_ok nmX7 (fun _ h => List.mem_cons_of_mem _ (List.mem_append_right _ h)) rfl rfl (by decide) (List.mem_of_getElem? (i := 2) rfl) rfl rfl rfl rfl rfl (Nat.le_of_ble_eq_true rfl) dX7_lot_27 rfl (fun H locs E => ?_)
  refine lv_aload_n hx hb dX7_lot_30 rfl (lv_at hl 0 rfl) ?_
  refine g_get C E 0 0 (fun _ h => List.mem_cons_of_mem _ (List.mem_append_right _ h)) rfl rfl (by decide) (List.mem_of_getElem? (i := 2) rfl) rfl rfl dX7_lot_31 ?_
  refine lv_if_le (tgt := 41) hx hb dX7_lot_34 (by decide) (fun c1 => ?_) (fun c1 => ?_)
  · rw [if_pos c1] at hf
    refine lv_iload_n hx hb dX7_lot_41 rfl (lv_at hl 2 rfl) ?_
    refine lv_if_ne (tgt := 55) hx hb dX7_lot_42 (by decide) (fun c2 => ?_) (fun c2 => ?_)
    · rw [if_neg c2] at hf
      refine lv_iload_n hx hb dX7_lot_55 rfl (lv_at hl 2 rfl) ?_
      refine lv_iconst (v := 1) hx hb dX7_lot_56 (by decide) ?_
      refine lv_icmp_ne (tgt := 69) hx hb dX7_lot_57 (by decide) (fun c3 => ?_) (fun c3 => ?_)
      · rw [if_neg c3] at hf
        refine lv_iload_n hx hb dX7_lot_69 rfl (lv_at hl 2 rfl) ?_
        refine lv_iconst (v := 2) hx hb dX7_lot_70 (by decide) ?_
        refine lv_icmp_ne (tgt := 83) hx hb dX7_lot_71 (by decide) (fun c4 => ?_) (fun c4 => ?_)
        · rw [if_neg c4] at hf
          refine lv_aload_n hx hb dX7_lot_83 rfl (lv_at hl 0 rfl) ?_
          refine g_get C E 0 20 (fun _ h => List.mem_cons_of_mem _ (List.mem_append_right _ h)) rfl rfl (by decide) (List.mem_of_getElem? (i := 6) rfl) rfl rfl dX7_lot_84 ?_
          refine lv_iload_n hx hb dX7_lot_87 rfl (lv_at hl 1 rfl) ?_
          obtain ⟨h5, hf⟩ := ck_some hf
          refine g_iald C E 12 rfl h5 dX7_lot_88 ?_
          refine lv_i2l hx hb dX7_lot_89 rfl ?_
          obtain rfl := Option.some.inj hf
          exact g_lret C E dX7_lot_90
        · rw [if_pos c4] at hf
          refine lv_aload_n hx hb dX7_lot_74 rfl (lv_at hl 0 rfl) ?_
          refine g_get C E 0 22 (fun _ h => List.mem_cons_of_mem _ (List.mem_append_right _ h)) rfl rfl (by decide) (List.mem_of_getElem? (i := 5) rfl) rfl rfl dX7_lot_75 ?_
          refine lv_iload_n hx hb dX7_lot_78 rfl (lv_at hl 1 rfl) ?_
          obtain ⟨h6, hf⟩ := ck_some hf
          refine g_lald C E 14 rfl h6 dX7_lot_79 ?_
          refine lv_goto (tgt := 90) hx hb dX7_lot_80 (by decide) ?_
          obtain rfl := Option.some.inj hf
          exact g_lret C E dX7_lot_90
      · rw [if_pos c3] at hf
        refine lv_aload_n hx hb dX7_lot_60 rfl (lv_at hl 0 rfl) ?_
        refine g_get C E 0 21 (fun _ h => List.mem_cons_of_mem _ (List.mem_append_right _ h)) rfl rfl (by decide) (List.mem_of_getElem? (i := 4) rfl) rfl rfl dX7_lot_61 ?_
        refine lv_iload_n hx hb dX7_lot_64 rfl (lv_at hl 1 rfl) ?_
        obtain ⟨h7, hf⟩ := ck_some hf
        refine g_lald C E 13 rfl h7 dX7_lot_65 ?_
        refine lv_goto (tgt := 90) hx hb dX7_lot_66 (by decide) ?_
        obtain rfl := Option.some.inj hf
        exact g_lret C E dX7_lot_90
    · rw [if_pos c2] at hf
      refine lv_aload_n hx hb dX7_lot_45 rfl (lv_at hl 0 rfl) ?_
      refine g_get C E 0 19 (fun _ h => List.mem_cons_of_mem _ (List.mem_append_right _ h)) rfl rfl (by decide) (List.mem_of_getElem? (i := 3) rfl) rfl rfl dX7_lot_46 ?_
      refine lv_iload_n hx hb dX7_lot_49 rfl (lv_at hl 1 rfl) ?_
      obtain ⟨h8, hf⟩ := ck_some hf
      refine g_iald C E 11 rfl h8 dX7_lot_50 ?_
      refine lv_i2l hx hb dX7_lot_51 rfl ?_
      refine lv_goto (tgt := 90) hx hb dX7_lot_52 (by decide) ?_
      obtain rfl := Option.some.inj hf
      exact g_lret C E dX7_lot_90
  · rw [if_neg c1] at hf
    refine lv_lconst (v := 0) hx hb dX7_lot_37 (by decide) ?_
    refine lv_goto (tgt := 90) hx hb dX7_lot_38 (by decide) ?_
    obtain rfl := Option.some.inj hf
    exact g_lret C E dX7_lot_90
def f_X7_lot_J26 (mlg : Nat → Int32) (mly : Nat → Int32) (mll : Nat → Int64) (mld : Nat → Int64) (x1 : Int32) (x2 : Int32) : Option (Int64 × (Int32)) :=
  f_X7_lot_J27 mlg mly mll mld x1 x2 (1 : Int32)
set_option maxHeartbeats 4000000 in
set_option maxRecDepth 100000 in
theorem w_X7_lot_J26 {p : Program} {l : Launch} {e : Env} {s : State} {m : MethodId} {args : Array Value} {below : List Frame} {meth : Method} {c : Code} {A : Nat → Prop} {D : va_G} {cI cJ cZ : ClassId} {b : Nat → Nat} {mth : Int32} {mlo : Int32} {mre : Int32} {mpr : Int32} {mto : Int32} {mim : Int64} {mdi : Int64} {mow : Int64} {mit : Int64} {mvl : Nat → Int32} {mhs : Nat → Int32} {mns : Nat → Int32} {mby : Nat → Int32} {mng : Nat → Int32} {mnu : Nat → Int32} {mnd : Nat → Int32} {mbg : Nat → Int32} {mbu : Nat → Int32} {mbd : Nat → Int32} {mlg : Nat → Int32} {mly : Nat → Int32} {mll : Nat → Int64} {mld : Nat → Int64} {mpg : Nat → Int32} {mpu : Nat → Int32} {mpl : Nat → Int64} {mtd : Int64} {mti : Int64} {mwt : Nat → Int64} {mch : Nat → Int64} (C : gC p s m args meth c cX7_lot 3 (some .long) wsX7_lot RX7 A) {x1 : Int32} {x2 : Int32} {o : Int64 × (Int32)} {H : Heap} {locs : List Loc} {ls : Array Slot} (E : vE s A D (gT cI cJ cZ) (mW b cI cJ cZ mth mlo mre mpr mto mim mdi mow mit mvl mhs mns mby mng mnu mnd mbg mbu mbd mlg mly mll mld mpg mpu mpl mtd mti mwt mch) H locs) (hl : lv_has ls 3 [(0, .ref (b 0)), (1, .int x1), (2, .int x2)]) (hf : f_X7_lot_J26 mlg mly mll mld x1 x2 = some o) : W p l e rm_X7_lot s m args below meth c H locs 0 0 (MQ below (gQl D (gT cI cJ cZ) A (mW b cI cJ cZ o.2 mlo mre mpr mto mim mdi mow mit mvl mhs mns mby mng mnu mnd mbg mbu mbd mlg mly mll mld mpg mpu mpl mtd mti mwt mch) o.1) args s 0 0 A) (F0 m 26 ls [.ref (b 0)]) := by
  obtain ⟨hx, hb, hr, hml, hown, hts, hlocks, hN, hA⟩ := id C
  rw [f_X7_lot_J26] at hf
  refine lv_iconst (v := 1) hx hb dX7_lot_26 (by decide) ?_
  exact w_X7_lot_J27 C  E (lv_sub hl [0, 1, 2] rfl) hf
def f_X7_lot (mth : Int32) (mlo : Int32) (mlg : Nat → Int32) (mly : Nat → Int32) (mll : Nat → Int64) (mld : Nat → Int64) (x1 : Int32) (x2 : Int32) : Option (Int64 × (Int32)) :=
  if x1 < 0 then
    f_X7_lot_J26 mlg mly mll mld x1 x2 
  else
    if mlo ≤ x1 then
      f_X7_lot_J26 mlg mly mll mld x1 x2 
    else
      if x2 < 0 then
        f_X7_lot_J26 mlg mly mll mld x1 x2 
      else
        if (4 : Int32) ≤ x2 then
          f_X7_lot_J26 mlg mly mll mld x1 x2 
        else
          f_X7_lot_J27 mlg mly mll mld x1 x2 (0 : Int32)
set_option maxHeartbeats 4000000 in
set_option maxRecDepth 100000 in
theorem c_X7_lot {l : Launch} {D : va_G} {cI cJ cZ : ClassId} {b : Nat → Nat} {sz : Nat} {mth : Int32} {mlo : Int32} {mre : Int32} {mpr : Int32} {mto : Int32} {mim : Int64} {mdi : Int64} {mow : Int64} {mit : Int64} {mvl : Nat → Int32} {mhs : Nat → Int32} {mns : Nat → Int32} {mby : Nat → Int32} {mng : Nat → Int32} {mnu : Nat → Int32} {mnd : Nat → Int32} {mbg : Nat → Int32} {mbu : Nat → Int32} {mbd : Nat → Int32} {mlg : Nat → Int32} {mly : Nat → Int32} {mll : Nat → Int64} {mld : Nat → Int64} {mpg : Nat → Int32} {mpu : Nat → Int32} {mpl : Nat → Int64} {mtd : Int64} {mti : Int64} {mwt : Nat → Int64} {mch : Nat → Int64} {x1 : Int32} {x2 : Int32} {o : Int64 × (Int32)} (hf : f_X7_lot mth mlo mlg mly mll mld x1 x2 = some o) : gMl l yX7_lot wsX7_lot rm_X7_lot D (gT cI cJ cZ) (mW b cI cJ cZ mth mlo mre mpr mto mim mdi mow mit mvl mhs mns mby mng mnu mnd mbg mbu mbd mlg mly mll mld mpg mpu mpl mtd mti mwt mch) (mW b cI cJ cZ o.2 mlo mre mpr mto mim mdi mow mit mvl mhs mns mby mng mnu mnd mbg mbu mbd mlg mly mll mld mpg mpu mpl mtd mti mwt mch) sz [.ref (b 0), .int x1, .int x2] o.1 := by
  refine g_of (cc := cX7_lot) (maxL := 3) (ret := (some .long)) (by decide) rfl (Nat.le_of_ble_eq_true rfl) ?_
  intro p e s m below meth c A ls hAe C hl E
  rw [← hAe]
  obtain ⟨hx, hb, hr, hml, hown, hts, hlocks, hN, hA⟩ := id C
  have hl : lv_has ls 3 [(0, .ref (b 0)), (1, .int x1), (2, .int x2)] := hl
  have E : vE s A D (gT cI cJ cZ) (mW b cI cJ cZ mth mlo mre mpr mto mim mdi mow mit mvl mhs mns mby mng mnu mnd mbg mbu mbd mlg mly mll mld mpg mpu mpl mtd mti mwt mch) s.heap [] := E
  rw [f_X7_lot] at hf
  refine lv_aload_n hx hb dX7_lot_0 rfl (lv_at hl 0 rfl) ?_
  refine lv_iload_n hx hb dX7_lot_1 rfl (lv_at hl 1 rfl) ?_
  refine lv_if_lt (tgt := 26) hx hb dX7_lot_2 (by decide) (fun c1 => ?_) (fun c1 => ?_)
  · rw [if_pos c1] at hf
    exact w_X7_lot_J26 C  E (lv_sub hl [0, 1, 2] rfl) hf
  · rw [if_neg c1] at hf
    refine lv_iload_n hx hb dX7_lot_5 rfl (lv_at hl 1 rfl) ?_
    refine lv_aload_n hx hb dX7_lot_6 rfl (lv_at hl 0 rfl) ?_
    refine g_get C E 0 1 (fun _ h => List.mem_cons_of_mem _ (List.mem_append_right _ h)) rfl rfl (by decide) (List.mem_of_getElem? (i := 1) rfl) rfl rfl dX7_lot_7 ?_
    refine lv_icmp_ge (tgt := 26) hx hb dX7_lot_10 (by decide) (fun c2 => ?_) (fun c2 => ?_)
    · rw [if_pos c2] at hf
      exact w_X7_lot_J26 C  E (lv_sub hl [0, 1, 2] rfl) hf
    · rw [if_neg c2] at hf
      refine lv_iload_n hx hb dX7_lot_13 rfl (lv_at hl 2 rfl) ?_
      refine lv_if_lt (tgt := 26) hx hb dX7_lot_14 (by decide) (fun c3 => ?_) (fun c3 => ?_)
      · rw [if_pos c3] at hf
        exact w_X7_lot_J26 C  E (lv_sub hl [0, 1, 2] rfl) hf
      · rw [if_neg c3] at hf
        refine lv_iload_n hx hb dX7_lot_17 rfl (lv_at hl 2 rfl) ?_
        refine lv_iconst (v := 4) hx hb dX7_lot_18 (by decide) ?_
        refine lv_icmp_ge (tgt := 26) hx hb dX7_lot_19 (by decide) (fun c4 => ?_) (fun c4 => ?_)
        · rw [if_pos c4] at hf
          exact w_X7_lot_J26 C  E (lv_sub hl [0, 1, 2] rfl) hf
        · rw [if_neg c4] at hf
          refine lv_iconst (v := 0) hx hb dX7_lot_22 (by decide) ?_
          refine lv_goto (tgt := 27) hx hb dX7_lot_23 (by decide) ?_
          exact w_X7_lot_J27 C  E (lv_sub hl [0, 1, 2] rfl) hf
abbrev rm_X7_sum : Room := { frames := 1, cells := 0, slots := 0, locals := 24 }
theorem hd_X7_sum : yX7_sum.cls ≠ "java/lang/invoke/MethodHandle" ∧ yX7_sum.cls ≠ "java/lang/invoke/VarHandle" ∧ (parseMethodDescriptor yX7_sum.desc).map (fun d => d.parameters.length) = some 1 := by decide +kernel
def f_X7_sum_L10 (mth : Int32) (mlo : Int32) (mim : Int64) (mdi : Int64) (mow : Int64) (mit : Int64) (mlg : Nat → Int32) (mld : Nat → Int64) (x1 : Int32) : Nat → Int64 → Int32 → Option (Int64 × (Int32))
  | 0, _, _ => none
  | n + 1, x2, x4 =>
  if (12 : Int32) ≤ x4 then
    if x1 = 0 then
      some (mim, mth)
    else
    if x1 = 1 then
      some (mdi, mth)
    else
    if x1 = 2 then
      some (mow, mth)
    else
    if x1 = 3 then
      some (mit, mth)
    else
    if x1 = 4 then
      some (x2, mth)
    else
    some ((-1 : Int64), mth)
  else
    (f_X7_debtOn mlo mlg mld x4).bind fun o7 =>
    f_X7_sum_L10 mth mlo mim mdi mow mit mlg mld x1 n (x2 + o7) (x4 + 1)
set_option maxHeartbeats 4000000 in
set_option maxRecDepth 100000 in
theorem w_X7_sum_L10 {p : Program} {l : Launch} {e : Env} {s : State} {m : MethodId} {args : Array Value} {below : List Frame} {meth : Method} {c : Code} {A : Nat → Prop} {D : va_G} {cI cJ cZ : ClassId} {b : Nat → Nat} {mth : Int32} {mlo : Int32} {mre : Int32} {mpr : Int32} {mto : Int32} {mim : Int64} {mdi : Int64} {mow : Int64} {mit : Int64} {mvl : Nat → Int32} {mhs : Nat → Int32} {mns : Nat → Int32} {mby : Nat → Int32} {mng : Nat → Int32} {mnu : Nat → Int32} {mnd : Nat → Int32} {mbg : Nat → Int32} {mbu : Nat → Int32} {mbd : Nat → Int32} {mlg : Nat → Int32} {mly : Nat → Int32} {mll : Nat → Int64} {mld : Nat → Int64} {mpg : Nat → Int32} {mpu : Nat → Int32} {mpl : Nat → Int64} {mtd : Int64} {mti : Int64} {mwt : Nat → Int64} {mch : Nat → Int64} (C : gC p s m args meth c cX7_sum 5 (some .long) wsX7_sum RX7 A) {x1 : Int32} {o : Int64 × (Int32)} :
    ∀ (n : Nat) (x2 : Int64) (x4 : Int32) (H : Heap) (locs : List Loc) (ls : Array Slot), vE s A D (gT cI cJ cZ) (mW b cI cJ cZ mth mlo mre mpr mto mim mdi mow mit mvl mhs mns mby mng mnu mnd mbg mbu mbd mlg mly mll mld mpg mpu mpl mtd mti mwt mch) H locs → lv_has ls 5 [(0, .ref (b 0)), (1, .int x1), (2, .long x2), (4, .int x4)] → f_X7_sum_L10 mth mlo mim mdi mow mit mlg mld x1 n x2 x4 = some o → W p l e rm_X7_sum s m args below meth c H locs 0 0 (MQ below (gQl D (gT cI cJ cZ) A (mW b cI cJ cZ o.2 mlo mre mpr mto mim mdi mow mit mvl mhs mns mby mng mnu mnd mbg mbu mbd mlg mly mll mld mpg mpu mpl mtd mti mwt mch) o.1) args s 0 0 A) (F0 m 10 ls []) := by
  obtain ⟨hx, hb, hr, hml, hown, hts, hlocks, hN, hA⟩ := id C
  intro n
  induction n with
  | zero =>
    intro x2 x4 H locs ls E hl hf
    rw [f_X7_sum_L10] at hf
    cases hf
  | succ n ih =>
    intro x2 x4 H locs ls E hl hf
    rw [f_X7_sum_L10] at hf
    refine lv_iload hx hb dX7_sum_10 (lv_at hl 3 rfl) ?_
    refine lv_bipush (v := 12) hx hb dX7_sum_12 (by decide) ?_
    refine lv_icmp_ge (tgt := 32) hx hb dX7_sum_14 (by decide) (fun c1 => ?_) (fun c1 => ?_)
    · rw [if_pos c1] at hf
      refine lv_iload_n hx hb dX7_sum_32 rfl (lv_at hl 1 rfl) ?_
      by_cases c2 : x1 = 0
      · rw [if_pos c2] at hf
        refine lv_tableIn (tgt := 68) (off := 35) hx hb dX7_sum_33 (by rw [c2]; decide) (by rw [c2]; decide) (by rw [c2]; rfl) (by decide) ?_
        refine lv_aload_n hx hb dX7_sum_68 rfl (lv_at hl 0 rfl) ?_
        refine g_get C E 0 5 (fun _ h => List.mem_cons_of_mem _ (List.mem_append_right _ h)) rfl rfl (by decide) (List.mem_of_getElem? (i := 2) rfl) rfl rfl dX7_sum_69 ?_
        obtain rfl := Option.some.inj hf
        exact g_lret C E dX7_sum_72
      rw [if_neg c2] at hf
      by_cases c3 : x1 = 1
      · rw [if_pos c3] at hf
        refine lv_tableIn (tgt := 73) (off := 40) hx hb dX7_sum_33 (by rw [c3]; decide) (by rw [c3]; decide) (by rw [c3]; rfl) (by decide) ?_
        refine lv_aload_n hx hb dX7_sum_73 rfl (lv_at hl 0 rfl) ?_
        refine g_get C E 0 6 (fun _ h => List.mem_cons_of_mem _ (List.mem_append_right _ h)) rfl rfl (by decide) (List.mem_of_getElem? (i := 3) rfl) rfl rfl dX7_sum_74 ?_
        obtain rfl := Option.some.inj hf
        exact g_lret C E dX7_sum_77
      rw [if_neg c3] at hf
      by_cases c4 : x1 = 2
      · rw [if_pos c4] at hf
        refine lv_tableIn (tgt := 78) (off := 45) hx hb dX7_sum_33 (by rw [c4]; decide) (by rw [c4]; decide) (by rw [c4]; rfl) (by decide) ?_
        refine lv_aload_n hx hb dX7_sum_78 rfl (lv_at hl 0 rfl) ?_
        refine g_get C E 0 7 (fun _ h => List.mem_cons_of_mem _ (List.mem_append_right _ h)) rfl rfl (by decide) (List.mem_of_getElem? (i := 4) rfl) rfl rfl dX7_sum_79 ?_
        obtain rfl := Option.some.inj hf
        exact g_lret C E dX7_sum_82
      rw [if_neg c4] at hf
      by_cases c5 : x1 = 3
      · rw [if_pos c5] at hf
        refine lv_tableIn (tgt := 83) (off := 50) hx hb dX7_sum_33 (by rw [c5]; decide) (by rw [c5]; decide) (by rw [c5]; rfl) (by decide) ?_
        refine lv_aload_n hx hb dX7_sum_83 rfl (lv_at hl 0 rfl) ?_
        refine g_get C E 0 8 (fun _ h => List.mem_cons_of_mem _ (List.mem_append_right _ h)) rfl rfl (by decide) (List.mem_of_getElem? (i := 5) rfl) rfl rfl dX7_sum_84 ?_
        obtain rfl := Option.some.inj hf
        exact g_lret C E dX7_sum_87
      rw [if_neg c5] at hf
      by_cases c6 : x1 = 4
      · rw [if_pos c6] at hf
        refine lv_tableIn (tgt := 88) (off := 55) hx hb dX7_sum_33 (by rw [c6]; decide) (by rw [c6]; decide) (by rw [c6]; rfl) (by decide) ?_
        refine lv_lload_n hx hb dX7_sum_88 rfl (lv_at hl 2 rfl) ?_
        obtain rfl := Option.some.inj hf
        exact g_lret C E dX7_sum_89
      rw [if_neg c6] at hf
      refine lv_tableOut (tgt := 90) hx hb dX7_sum_33 (by have := lv_neT (a := 0) c2 (by decide); have := lv_neT (a := 1) c3 (by decide); have := lv_neT (a := 2) c4 (by decide); have := lv_neT (a := 3) c5 (by decide); have := lv_neT (a := 4) c6 (by decide); omega) (by decide) ?_
      refine lv_ldc2 (v := -1) hx hb hown (hts (.constantLong RX7 163 (-1)) (List.mem_of_getElem? (i := 6) rfl)) dX7_sum_90 ?_
      obtain rfl := Option.some.inj hf
      exact g_lret C E dX7_sum_93
    · rw [if_neg c1] at hf
      refine lv_lload_n hx hb dX7_sum_17 rfl (lv_at hl 2 rfl) ?_
      refine lv_aload_n hx hb dX7_sum_18 rfl (lv_at hl 0 rfl) ?_
      refine lv_iload hx hb dX7_sum_19 (lv_at hl 3 rfl) ?_
      obtain ⟨o7, e8, hf⟩ := bd_some hf
      refine g_calll (w' := (mW b cI cJ cZ mth mlo mre mpr mto mim mdi mow mit mvl mhs mns mby mng mnu mnd mbg mbu mbd mlg mly mll mld mpg mpu mpl mtd mti mwt mch)) C E (g_runV (As := [.int x4]) (rest := [.long x2]) C E (c_X7_debtOn e8) (cwV 1 hts gX7_sum_X7_debtOn rfl rfl rfl ⟨rfl, hd_X7_debtOn⟩ ⟨Nat.le_of_ble_eq_true rfl, Nat.le_of_ble_eq_true rfl⟩) (q0 := 0) (ci := 7) rfl rfl rfl rfl hl.1 rfl (Nat.le_of_ble_eq_true rfl) dX7_sum_21 ⟨Nat.le_of_ble_eq_true rfl, Nat.le_of_ble_eq_true rfl⟩) (fun H locs E => ?_)
      refine lv_ladd hx hb dX7_sum_24 ?_
      refine lv_lstore_n (lv' := [(2, .long (x2 + o7)), (0, .ref (b 0)), (1, .int x1), (4, .int x4)]) hx hb dX7_sum_25 rfl hl (by decide) rfl (fun ls hl => ?_)
      refine lv_iinc (v := (x4 + 1)) (lv' := [(4, .int (x4 + 1)), (2, .long (x2 + o7)), (0, .ref (b 0)), (1, .int x1)]) hx hb dX7_sum_26 hl (k := 3) rfl rfl (by decide) rfl (fun ls hl => ?_)
      refine lv_goto (tgt := 10) hx hb dX7_sum_29 (by decide) ?_
      exact ih (x2 + o7) (x4 + 1) _ _ _ E (lv_sub hl [2, 3, 1, 0] rfl) hf
def f_X7_sum (mth : Int32) (mlo : Int32) (mim : Int64) (mdi : Int64) (mow : Int64) (mit : Int64) (mlg : Nat → Int32) (mld : Nat → Int64) (x1 : Int32) : Option (Int64 × (Int32)) :=
  f_X7_sum_L10 (0 : Int32) mlo mim mdi mow mit mlg mld x1 FU (0 : Int64) (0 : Int32)
set_option maxHeartbeats 4000000 in
set_option maxRecDepth 100000 in
theorem c_X7_sum {l : Launch} {D : va_G} {cI cJ cZ : ClassId} {b : Nat → Nat} {sz : Nat} {mth : Int32} {mlo : Int32} {mre : Int32} {mpr : Int32} {mto : Int32} {mim : Int64} {mdi : Int64} {mow : Int64} {mit : Int64} {mvl : Nat → Int32} {mhs : Nat → Int32} {mns : Nat → Int32} {mby : Nat → Int32} {mng : Nat → Int32} {mnu : Nat → Int32} {mnd : Nat → Int32} {mbg : Nat → Int32} {mbu : Nat → Int32} {mbd : Nat → Int32} {mlg : Nat → Int32} {mly : Nat → Int32} {mll : Nat → Int64} {mld : Nat → Int64} {mpg : Nat → Int32} {mpu : Nat → Int32} {mpl : Nat → Int64} {mtd : Int64} {mti : Int64} {mwt : Nat → Int64} {mch : Nat → Int64} {x1 : Int32} {o : Int64 × (Int32)} (hf : f_X7_sum mth mlo mim mdi mow mit mlg mld x1 = some o) : gMl l yX7_sum wsX7_sum rm_X7_sum D (gT cI cJ cZ) (mW b cI cJ cZ mth mlo mre mpr mto mim mdi mow mit mvl mhs mns mby mng mnu mnd mbg mbu mbd mlg mly mll mld mpg mpu mpl mtd mti mwt mch) (mW b cI cJ cZ o.2 mlo mre mpr mto mim mdi mow mit mvl mhs mns mby mng mnu mnd mbg mbu mbd mlg mly mll mld mpg mpu mpl mtd mti mwt mch) sz [.ref (b 0), .int x1] o.1 := by
  refine g_of (cc := cX7_sum) (maxL := 5) (ret := (some .long)) (by decide) rfl (Nat.le_of_ble_eq_true rfl) ?_
  intro p e s m below meth c A ls hAe C hl E
  rw [← hAe]
  obtain ⟨hx, hb, hr, hml, hown, hts, hlocks, hN, hA⟩ := id C
  have hl : lv_has ls 5 [(0, .ref (b 0)), (1, .int x1)] := hl
  have E : vE s A D (gT cI cJ cZ) (mW b cI cJ cZ mth mlo mre mpr mto mim mdi mow mit mvl mhs mns mby mng mnu mnd mbg mbu mbd mlg mly mll mld mpg mpu mpl mtd mti mwt mch) s.heap [] := E
  rw [f_X7_sum] at hf
  refine lv_aload_n hx hb dX7_sum_0 rfl (lv_at hl 0 rfl) ?_
  refine lv_iconst (v := 0) hx hb dX7_sum_1 (by decide) ?_
  refine g_put (w' := (mW b cI cJ cZ (0 : Int32) mlo mre mpr mto mim mdi mow mit mvl mhs mns mby mng mnu mnd mbg mbu mbd mlg mly mll mld mpg mpu mpl mtd mti mwt mch)) C E 0 0 tyX7 tyX7_ok nmX7 (fun _ h => List.mem_cons_of_mem _ (List.mem_append_right _ h)) rfl rfl (by decide) (List.mem_of_getElem? (i := 1) rfl) rfl rfl rfl rfl rfl (Nat.le_of_ble_eq_true rfl) dX7_sum_2 rfl (fun H locs E => ?_)
  refine lv_lconst (v := 0) hx hb dX7_sum_5 (by decide) ?_
  refine lv_lstore_n (lv' := [(2, .long (0 : Int64)), (0, .ref (b 0)), (1, .int x1)]) hx hb dX7_sum_6 rfl hl (by decide) rfl (fun ls hl => ?_)
  refine lv_iconst (v := 0) hx hb dX7_sum_7 (by decide) ?_
  refine lv_istore (lv' := [(4, .int (0 : Int32)), (2, .long (0 : Int64)), (0, .ref (b 0)), (1, .int x1)]) hx hb dX7_sum_8 hl (by decide) rfl (fun ls hl => ?_)
  exact w_X7_sum_L10 C  FU (0 : Int64) (0 : Int32) _ _ _ E (lv_sub hl [2, 3, 1, 0] rfl) hf
abbrev rm_X7_quotient : Room := { frames := 1, cells := 0, slots := 0, locals := 25 }
theorem hd_X7_quotient : yX7_quotient.cls ≠ "java/lang/invoke/MethodHandle" ∧ yX7_quotient.cls ≠ "java/lang/invoke/VarHandle" ∧ (parseMethodDescriptor yX7_quotient.desc).map (fun d => d.parameters.length) = some 2 := by decide +kernel
def f_X7_quotient_J38 (x1 : Int32) (x2 : Int32) (t1 : Int32) : Option (Int64 × (Int32)) :=
  if t1 ≤ 0 then
    nzI x2 <|
    some ((x1 / x2).toInt64, t1)
  else
    some ((0 : Int64), t1)
set_option maxHeartbeats 4000000 in
set_option maxRecDepth 100000 in
theorem w_X7_quotient_J38 {p : Program} {l : Launch} {e : Env} {s : State} {m : MethodId} {args : Array Value} {below : List Frame} {meth : Method} {c : Code} {A : Nat → Prop} {D : va_G} {cI cJ cZ : ClassId} {b : Nat → Nat} {mth : Int32} {mlo : Int32} {mre : Int32} {mpr : Int32} {mto : Int32} {mim : Int64} {mdi : Int64} {mow : Int64} {mit : Int64} {mvl : Nat → Int32} {mhs : Nat → Int32} {mns : Nat → Int32} {mby : Nat → Int32} {mng : Nat → Int32} {mnu : Nat → Int32} {mnd : Nat → Int32} {mbg : Nat → Int32} {mbu : Nat → Int32} {mbd : Nat → Int32} {mlg : Nat → Int32} {mly : Nat → Int32} {mll : Nat → Int64} {mld : Nat → Int64} {mpg : Nat → Int32} {mpu : Nat → Int32} {mpl : Nat → Int64} {mtd : Int64} {mti : Int64} {mwt : Nat → Int64} {mch : Nat → Int64} (C : gC p s m args meth c cX7_quotient 3 (some .long) wsX7_quotient RX7 A) {x1 : Int32} {x2 : Int32} {o : Int64 × (Int32)} {t1 : Int32} {H : Heap} {locs : List Loc} {ls : Array Slot} (E : vE s A D (gT cI cJ cZ) (mW b cI cJ cZ mth mlo mre mpr mto mim mdi mow mit mvl mhs mns mby mng mnu mnd mbg mbu mbd mlg mly mll mld mpg mpu mpl mtd mti mwt mch) H locs) (hl : lv_has ls 3 [(0, .ref (b 0)), (1, .int x1), (2, .int x2)]) (hf : f_X7_quotient_J38 x1 x2 t1 = some o) : W p l e rm_X7_quotient s m args below meth c H locs 0 0 (MQ below (gQl D (gT cI cJ cZ) A (mW b cI cJ cZ o.2 mlo mre mpr mto mim mdi mow mit mvl mhs mns mby mng mnu mnd mbg mbu mbd mlg mly mll mld mpg mpu mpl mtd mti mwt mch) o.1) args s 0 0 A) (F0 m 38 ls [.int t1, .ref (b 0)]) := by
  obtain ⟨hx, hb, hr, hml, hown, hts, hlocks, hN, hA⟩ := id C
  rw [f_X7_quotient_J38] at hf
  refine g_put (w' := (mW b cI cJ cZ t1 mlo mre mpr mto mim mdi mow mit mvl mhs mns mby mng mnu mnd mbg mbu mbd mlg mly mll mld mpg mpu mpl mtd mti mwt mch)) C E 0 0 tyX7 tyX7_ok nmX7 (fun _ h => List.mem_cons_of_mem _ (List.mem_append_right _ h)) rfl rfl (by decide) (List.mem_of_getElem? (i := 2) rfl) rfl rfl rfl rfl rfl (Nat.le_of_ble_eq_true rfl) dX7_quotient_38 rfl (fun H locs E => ?_)
  refine lv_aload_n hx hb dX7_quotient_41 rfl (lv_at hl 0 rfl) ?_
  refine g_get C E 0 0 (fun _ h => List.mem_cons_of_mem _ (List.mem_append_right _ h)) rfl rfl (by decide) (List.mem_of_getElem? (i := 2) rfl) rfl rfl dX7_quotient_42 ?_
  refine lv_if_le (tgt := 52) hx hb dX7_quotient_45 (by decide) (fun c1 => ?_) (fun c1 => ?_)
  · rw [if_pos c1] at hf
    refine lv_iload_n hx hb dX7_quotient_52 rfl (lv_at hl 1 rfl) ?_
    refine lv_iload_n hx hb dX7_quotient_53 rfl (lv_at hl 2 rfl) ?_
    obtain ⟨h2, hf⟩ := nzI_some hf
    refine lv_idiv hx hb dX7_quotient_54 h2 ?_
    refine lv_i2l hx hb dX7_quotient_55 rfl ?_
    obtain rfl := Option.some.inj hf
    exact g_lret C E dX7_quotient_56
  · rw [if_neg c1] at hf
    refine lv_lconst (v := 0) hx hb dX7_quotient_48 (by decide) ?_
    refine lv_goto (tgt := 56) hx hb dX7_quotient_49 (by decide) ?_
    obtain rfl := Option.some.inj hf
    exact g_lret C E dX7_quotient_56
def f_X7_quotient_J25 (x1 : Int32) (x2 : Int32) : Option (Int64 × (Int32)) :=
  f_X7_quotient_J38 x1 x2 (1 : Int32)
set_option maxHeartbeats 4000000 in
set_option maxRecDepth 100000 in
theorem w_X7_quotient_J25 {p : Program} {l : Launch} {e : Env} {s : State} {m : MethodId} {args : Array Value} {below : List Frame} {meth : Method} {c : Code} {A : Nat → Prop} {D : va_G} {cI cJ cZ : ClassId} {b : Nat → Nat} {mth : Int32} {mlo : Int32} {mre : Int32} {mpr : Int32} {mto : Int32} {mim : Int64} {mdi : Int64} {mow : Int64} {mit : Int64} {mvl : Nat → Int32} {mhs : Nat → Int32} {mns : Nat → Int32} {mby : Nat → Int32} {mng : Nat → Int32} {mnu : Nat → Int32} {mnd : Nat → Int32} {mbg : Nat → Int32} {mbu : Nat → Int32} {mbd : Nat → Int32} {mlg : Nat → Int32} {mly : Nat → Int32} {mll : Nat → Int64} {mld : Nat → Int64} {mpg : Nat → Int32} {mpu : Nat → Int32} {mpl : Nat → Int64} {mtd : Int64} {mti : Int64} {mwt : Nat → Int64} {mch : Nat → Int64} (C : gC p s m args meth c cX7_quotient 3 (some .long) wsX7_quotient RX7 A) {x1 : Int32} {x2 : Int32} {o : Int64 × (Int32)} {H : Heap} {locs : List Loc} {ls : Array Slot} (E : vE s A D (gT cI cJ cZ) (mW b cI cJ cZ mth mlo mre mpr mto mim mdi mow mit mvl mhs mns mby mng mnu mnd mbg mbu mbd mlg mly mll mld mpg mpu mpl mtd mti mwt mch) H locs) (hl : lv_has ls 3 [(0, .ref (b 0)), (1, .int x1), (2, .int x2)]) (hf : f_X7_quotient_J25 x1 x2 = some o) : W p l e rm_X7_quotient s m args below meth c H locs 0 0 (MQ below (gQl D (gT cI cJ cZ) A (mW b cI cJ cZ o.2 mlo mre mpr mto mim mdi mow mit mvl mhs mns mby mng mnu mnd mbg mbu mbd mlg mly mll mld mpg mpu mpl mtd mti mwt mch) o.1) args s 0 0 A) (F0 m 25 ls [.ref (b 0)]) := by
  obtain ⟨hx, hb, hr, hml, hown, hts, hlocks, hN, hA⟩ := id C
  rw [f_X7_quotient_J25] at hf
  refine lv_iconst (v := 1) hx hb dX7_quotient_25 (by decide) ?_
  refine lv_goto (tgt := 38) hx hb dX7_quotient_26 (by decide) ?_
  exact w_X7_quotient_J38 C  E (lv_sub hl [0, 1, 2] rfl) hf
def f_X7_quotient (mth : Int32) (x1 : Int32) (x2 : Int32) : Option (Int64 × (Int32)) :=
  (f_X7_within x1.toInt64 (0 : Int64) (1000000000 : Int64)).bind fun o1 =>
  if o1 = 0 then
    f_X7_quotient_J25 x1 x2 
  else
    (f_X7_within x2.toInt64 (0 : Int64) (1000000000 : Int64)).bind fun o4 =>
    if o4 = 0 then
      f_X7_quotient_J25 x1 x2 
    else
      if x2 = 0 then
        f_X7_quotient_J38 x1 x2 (2 : Int32)
      else
        f_X7_quotient_J38 x1 x2 (0 : Int32)
set_option maxHeartbeats 4000000 in
set_option maxRecDepth 100000 in
theorem c_X7_quotient {l : Launch} {D : va_G} {cI cJ cZ : ClassId} {b : Nat → Nat} {sz : Nat} {mth : Int32} {mlo : Int32} {mre : Int32} {mpr : Int32} {mto : Int32} {mim : Int64} {mdi : Int64} {mow : Int64} {mit : Int64} {mvl : Nat → Int32} {mhs : Nat → Int32} {mns : Nat → Int32} {mby : Nat → Int32} {mng : Nat → Int32} {mnu : Nat → Int32} {mnd : Nat → Int32} {mbg : Nat → Int32} {mbu : Nat → Int32} {mbd : Nat → Int32} {mlg : Nat → Int32} {mly : Nat → Int32} {mll : Nat → Int64} {mld : Nat → Int64} {mpg : Nat → Int32} {mpu : Nat → Int32} {mpl : Nat → Int64} {mtd : Int64} {mti : Int64} {mwt : Nat → Int64} {mch : Nat → Int64} {x1 : Int32} {x2 : Int32} {o : Int64 × (Int32)} (hf : f_X7_quotient mth x1 x2 = some o) : gMl l yX7_quotient wsX7_quotient rm_X7_quotient D (gT cI cJ cZ) (mW b cI cJ cZ mth mlo mre mpr mto mim mdi mow mit mvl mhs mns mby mng mnu mnd mbg mbu mbd mlg mly mll mld mpg mpu mpl mtd mti mwt mch) (mW b cI cJ cZ o.2 mlo mre mpr mto mim mdi mow mit mvl mhs mns mby mng mnu mnd mbg mbu mbd mlg mly mll mld mpg mpu mpl mtd mti mwt mch) sz [.ref (b 0), .int x1, .int x2] o.1 := by
  refine g_of (cc := cX7_quotient) (maxL := 3) (ret := (some .long)) (by decide) rfl (Nat.le_of_ble_eq_true rfl) ?_
  intro p e s m below meth c A ls hAe C hl E
  rw [← hAe]
  obtain ⟨hx, hb, hr, hml, hown, hts, hlocks, hN, hA⟩ := id C
  have hl : lv_has ls 3 [(0, .ref (b 0)), (1, .int x1), (2, .int x2)] := hl
  have E : vE s A D (gT cI cJ cZ) (mW b cI cJ cZ mth mlo mre mpr mto mim mdi mow mit mvl mhs mns mby mng mnu mnd mbg mbu mbd mlg mly mll mld mpg mpu mpl mtd mti mwt mch) s.heap [] := E
  rw [f_X7_quotient] at hf
  refine lv_aload_n hx hb dX7_quotient_0 rfl (lv_at hl 0 rfl) ?_
  refine lv_iload_n hx hb dX7_quotient_1 rfl (lv_at hl 1 rfl) ?_
  refine lv_i2l hx hb dX7_quotient_2 rfl ?_
  refine lv_lconst (v := 0) hx hb dX7_quotient_3 (by decide) ?_
  refine lv_ldc2 (v := 1000000000) hx hb hown (hts (.constantLong RX7 184 (1000000000)) (List.mem_of_getElem? (i := 1) rfl)) dX7_quotient_4 ?_
  obtain ⟨o1, e2, hf⟩ := bd_some hf
  refine g_calli (w' := (mW b cI cJ cZ mth mlo mre mpr mto mim mdi mow mit mvl mhs mns mby mng mnu mnd mbg mbu mbd mlg mly mll mld mpg mpu mpl mtd mti mwt mch)) C E (g_runS (As := [.long x1.toInt64, .long (0 : Int64), .long (1000000000 : Int64)]) (rest := [.ref (b 0)]) C E (c_X7_within e2) (va_cwS 3 hts gX7_quotient_X7_within rfl rfl rfl hd_X7_within ⟨Nat.le_of_ble_eq_true rfl, Nat.le_of_ble_eq_true rfl⟩) rfl hl.1 rfl (Nat.le_of_ble_eq_true rfl) dX7_quotient_7 ⟨Nat.le_of_ble_eq_true rfl, Nat.le_of_ble_eq_true rfl⟩) (fun H locs E => ?_)
  refine lv_if_eq (tgt := 25) hx hb dX7_quotient_10 (by decide) (fun c3 => ?_) (fun c3 => ?_)
  · rw [if_pos c3] at hf
    exact w_X7_quotient_J25 C  E (lv_sub hl [0, 1, 2] rfl) hf
  · rw [if_neg c3] at hf
    refine lv_iload_n hx hb dX7_quotient_13 rfl (lv_at hl 2 rfl) ?_
    refine lv_i2l hx hb dX7_quotient_14 rfl ?_
    refine lv_lconst (v := 0) hx hb dX7_quotient_15 (by decide) ?_
    refine lv_ldc2 (v := 1000000000) hx hb hown (hts (.constantLong RX7 184 (1000000000)) (List.mem_of_getElem? (i := 1) rfl)) dX7_quotient_16 ?_
    obtain ⟨o4, e5, hf⟩ := bd_some hf
    refine g_calli (w' := (mW b cI cJ cZ mth mlo mre mpr mto mim mdi mow mit mvl mhs mns mby mng mnu mnd mbg mbu mbd mlg mly mll mld mpg mpu mpl mtd mti mwt mch)) C E (g_runS (As := [.long x2.toInt64, .long (0 : Int64), .long (1000000000 : Int64)]) (rest := [.ref (b 0)]) C E (c_X7_within e5) (va_cwS 3 hts gX7_quotient_X7_within rfl rfl rfl hd_X7_within ⟨Nat.le_of_ble_eq_true rfl, Nat.le_of_ble_eq_true rfl⟩) rfl hl.1 rfl (Nat.le_of_ble_eq_true rfl) dX7_quotient_19 ⟨Nat.le_of_ble_eq_true rfl, Nat.le_of_ble_eq_true rfl⟩) (fun H locs E => ?_)
    refine lv_if_ne (tgt := 29) hx hb dX7_quotient_22 (by decide) (fun c6 => ?_) (fun c6 => ?_)
    · rw [if_neg c6] at hf
      refine lv_iload_n hx hb dX7_quotient_29 rfl (lv_at hl 2 rfl) ?_
      refine lv_if_ne (tgt := 37) hx hb dX7_quotient_30 (by decide) (fun c7 => ?_) (fun c7 => ?_)
      · rw [if_neg c7] at hf
        refine lv_iconst (v := 0) hx hb dX7_quotient_37 (by decide) ?_
        exact w_X7_quotient_J38 C  E (lv_sub hl [0, 1, 2] rfl) hf
      · rw [if_pos c7] at hf
        refine lv_iconst (v := 2) hx hb dX7_quotient_33 (by decide) ?_
        refine lv_goto (tgt := 38) hx hb dX7_quotient_34 (by decide) ?_
        exact w_X7_quotient_J38 C  E (lv_sub hl [0, 1, 2] rfl) hf
    · rw [if_pos c6] at hf
      exact w_X7_quotient_J25 C  E (lv_sub hl [0, 1, 2] rfl) hf
abbrev rm_X7_count : Room := { frames := 0, cells := 0, slots := 0, locals := 0 }
theorem hd_X7_count : yX7_count.cls ≠ "java/lang/invoke/MethodHandle" ∧ yX7_count.cls ≠ "java/lang/invoke/VarHandle" ∧ (parseMethodDescriptor yX7_count.desc).map (fun d => d.parameters.length) = some 1 := by decide +kernel
def f_X7_count (mth : Int32) (mlo : Int32) (mre : Int32) (mpr : Int32) (mto : Int32) (x1 : Int32) : Option (Int32 × (Int32)) :=
  if x1 = 0 then
    some (mlo, (0 : Int32))
  else
  if x1 = 1 then
    some (mre, (0 : Int32))
  else
  if x1 = 2 then
    some (mpr, (0 : Int32))
  else
  if x1 = 3 then
    some (mto, (0 : Int32))
  else
  some ((-1 : Int32), (0 : Int32))
set_option maxHeartbeats 4000000 in
set_option maxRecDepth 100000 in
theorem c_X7_count {l : Launch} {D : va_G} {cI cJ cZ : ClassId} {b : Nat → Nat} {sz : Nat} {mth : Int32} {mlo : Int32} {mre : Int32} {mpr : Int32} {mto : Int32} {mim : Int64} {mdi : Int64} {mow : Int64} {mit : Int64} {mvl : Nat → Int32} {mhs : Nat → Int32} {mns : Nat → Int32} {mby : Nat → Int32} {mng : Nat → Int32} {mnu : Nat → Int32} {mnd : Nat → Int32} {mbg : Nat → Int32} {mbu : Nat → Int32} {mbd : Nat → Int32} {mlg : Nat → Int32} {mly : Nat → Int32} {mll : Nat → Int64} {mld : Nat → Int64} {mpg : Nat → Int32} {mpu : Nat → Int32} {mpl : Nat → Int64} {mtd : Int64} {mti : Int64} {mwt : Nat → Int64} {mch : Nat → Int64} {x1 : Int32} {o : Int32 × (Int32)} (hf : f_X7_count mth mlo mre mpr mto x1 = some o) : gMi l yX7_count wsX7_count rm_X7_count D (gT cI cJ cZ) (mW b cI cJ cZ mth mlo mre mpr mto mim mdi mow mit mvl mhs mns mby mng mnu mnd mbg mbu mbd mlg mly mll mld mpg mpu mpl mtd mti mwt mch) (mW b cI cJ cZ o.2 mlo mre mpr mto mim mdi mow mit mvl mhs mns mby mng mnu mnd mbg mbu mbd mlg mly mll mld mpg mpu mpl mtd mti mwt mch) sz [.ref (b 0), .int x1] o.1 := by
  refine g_of (cc := cX7_count) (maxL := 2) (ret := (some .int)) (by decide) rfl (Nat.le_of_ble_eq_true rfl) ?_
  intro p e s m below meth c A ls hAe C hl E
  rw [← hAe]
  obtain ⟨hx, hb, hr, hml, hown, hts, hlocks, hN, hA⟩ := id C
  have hl : lv_has ls 2 [(0, .ref (b 0)), (1, .int x1)] := hl
  have E : vE s A D (gT cI cJ cZ) (mW b cI cJ cZ mth mlo mre mpr mto mim mdi mow mit mvl mhs mns mby mng mnu mnd mbg mbu mbd mlg mly mll mld mpg mpu mpl mtd mti mwt mch) s.heap [] := E
  rw [f_X7_count] at hf
  refine lv_aload_n hx hb dX7_count_0 rfl (lv_at hl 0 rfl) ?_
  refine lv_iconst (v := 0) hx hb dX7_count_1 (by decide) ?_
  refine g_put (w' := (mW b cI cJ cZ (0 : Int32) mlo mre mpr mto mim mdi mow mit mvl mhs mns mby mng mnu mnd mbg mbu mbd mlg mly mll mld mpg mpu mpl mtd mti mwt mch)) C E 0 0 tyX7 tyX7_ok nmX7 (fun _ h => List.mem_cons_of_mem _ (List.mem_append_right _ h)) rfl rfl (by decide) (List.mem_of_getElem? (i := 1) rfl) rfl rfl rfl rfl rfl (Nat.le_of_ble_eq_true rfl) dX7_count_2 rfl (fun H locs E => ?_)
  refine lv_iload_n hx hb dX7_count_5 rfl (lv_at hl 1 rfl) ?_
  by_cases c1 : x1 = 0
  · rw [if_pos c1] at hf
    refine lv_tableIn (tgt := 36) (off := 30) hx hb dX7_count_6 (by rw [c1]; decide) (by rw [c1]; decide) (by rw [c1]; rfl) (by decide) ?_
    refine lv_aload_n hx hb dX7_count_36 rfl (lv_at hl 0 rfl) ?_
    refine g_get C E 0 1 (fun _ h => List.mem_cons_of_mem _ (List.mem_append_right _ h)) rfl rfl (by decide) (List.mem_of_getElem? (i := 2) rfl) rfl rfl dX7_count_37 ?_
    obtain rfl := Option.some.inj hf
    exact g_iret C E dX7_count_40
  rw [if_neg c1] at hf
  by_cases c2 : x1 = 1
  · rw [if_pos c2] at hf
    refine lv_tableIn (tgt := 41) (off := 35) hx hb dX7_count_6 (by rw [c2]; decide) (by rw [c2]; decide) (by rw [c2]; rfl) (by decide) ?_
    refine lv_aload_n hx hb dX7_count_41 rfl (lv_at hl 0 rfl) ?_
    refine g_get C E 0 2 (fun _ h => List.mem_cons_of_mem _ (List.mem_append_right _ h)) rfl rfl (by decide) (List.mem_of_getElem? (i := 3) rfl) rfl rfl dX7_count_42 ?_
    obtain rfl := Option.some.inj hf
    exact g_iret C E dX7_count_45
  rw [if_neg c2] at hf
  by_cases c3 : x1 = 2
  · rw [if_pos c3] at hf
    refine lv_tableIn (tgt := 46) (off := 40) hx hb dX7_count_6 (by rw [c3]; decide) (by rw [c3]; decide) (by rw [c3]; rfl) (by decide) ?_
    refine lv_aload_n hx hb dX7_count_46 rfl (lv_at hl 0 rfl) ?_
    refine g_get C E 0 3 (fun _ h => List.mem_cons_of_mem _ (List.mem_append_right _ h)) rfl rfl (by decide) (List.mem_of_getElem? (i := 4) rfl) rfl rfl dX7_count_47 ?_
    obtain rfl := Option.some.inj hf
    exact g_iret C E dX7_count_50
  rw [if_neg c3] at hf
  by_cases c4 : x1 = 3
  · rw [if_pos c4] at hf
    refine lv_tableIn (tgt := 51) (off := 45) hx hb dX7_count_6 (by rw [c4]; decide) (by rw [c4]; decide) (by rw [c4]; rfl) (by decide) ?_
    refine lv_aload_n hx hb dX7_count_51 rfl (lv_at hl 0 rfl) ?_
    refine g_get C E 0 4 (fun _ h => List.mem_cons_of_mem _ (List.mem_append_right _ h)) rfl rfl (by decide) (List.mem_of_getElem? (i := 5) rfl) rfl rfl dX7_count_52 ?_
    obtain rfl := Option.some.inj hf
    exact g_iret C E dX7_count_55
  rw [if_neg c4] at hf
  refine lv_tableOut (tgt := 56) hx hb dX7_count_6 (by have := lv_neT (a := 0) c1 (by decide); have := lv_neT (a := 1) c2 (by decide); have := lv_neT (a := 2) c3 (by decide); have := lv_neT (a := 3) c4 (by decide); omega) (by decide) ?_
  refine lv_iconst (v := -1) hx hb dX7_count_56 (by decide) ?_
  obtain rfl := Option.some.inj hf
  exact g_iret C E dX7_count_57
