abbrev rm_X7_needs : Room := { frames := 2, cells := 0, slots := 0, locals := 46 }
theorem hd_X7_needs : yX7_needs.cls ≠ "java/lang/invoke/MethodHandle" ∧ yX7_needs.cls ≠ "java/lang/invoke/VarHandle" ∧ (parseMethodDescriptor yX7_needs.desc).map (fun d => d.parameters.length) = some 4 := by decide +kernel
def f_X7_needs_J203 (mth : Int32) (mns : Nat → Int32) (mng : Nat → Int32) (mnu : Nat → Int32) (mnd : Nat → Int32) (x5 : Int32) (t1 : Int32) (t2 : Int32) (t3 : Int32) : Option (Int32 × (Int32) × (Nat → Int32) × (Nat → Int32) × (Nat → Int32) × (Nat → Int32)) :=
  ck t1 12 <|
  if x5 ≤ (3 : Int32) then
    some ((1 : Int32), mth, (upd mns t1.toNatClampNeg (t2 - t3)), mng, mnu, mnd)
  else
    some ((0 : Int32), mth, (upd mns t1.toNatClampNeg (t2 - t3)), mng, mnu, mnd)
set_option maxHeartbeats 4000000 in
set_option maxRecDepth 100000 in
theorem w_X7_needs_J203 {p : Program} {l : Launch} {e : Env} {s : State} {m : MethodId} {args : Array Value} {below : List Frame} {meth : Method} {c : Code} {A : Nat → Prop} {D : va_G} {cI cJ cZ : ClassId} {b : Nat → Nat} {mth : Int32} {mlo : Int32} {mre : Int32} {mpr : Int32} {mto : Int32} {mim : Int64} {mdi : Int64} {mow : Int64} {mit : Int64} {mvl : Nat → Int32} {mhs : Nat → Int32} {mns : Nat → Int32} {mby : Nat → Int32} {mng : Nat → Int32} {mnu : Nat → Int32} {mnd : Nat → Int32} {mbg : Nat → Int32} {mbu : Nat → Int32} {mbd : Nat → Int32} {mlg : Nat → Int32} {mly : Nat → Int32} {mll : Nat → Int64} {mld : Nat → Int64} {mpg : Nat → Int32} {mpu : Nat → Int32} {mpl : Nat → Int64} {mtd : Int64} {mti : Int64} {mwt : Nat → Int64} {mch : Nat → Int64} (C : gC p s m args meth c cX7_needs 7 (some .int) wsX7_needs RX7 A) {x5 : Int32} {o : Int32 × (Int32) × (Nat → Int32) × (Nat → Int32) × (Nat → Int32) × (Nat → Int32)} {t1 : Int32} {t2 : Int32} {t3 : Int32} {H : Heap} {locs : List Loc} {ls : Array Slot} (E : vE s A D (gT cI cJ cZ) (mW b cI cJ cZ mth mlo mre mpr mto mim mdi mow mit mvl mhs mns mby mng mnu mnd mbg mbu mbd mlg mly mll mld mpg mpu mpl mtd mti mwt mch) H locs) (hl : lv_has ls 7 [(5, .int x5)]) (hf : f_X7_needs_J203 mth mns mng mnu mnd x5 t1 t2 t3 = some o) : W p l e rm_X7_needs s m args below meth c H locs 0 0 (MQ below (gQi D (gT cI cJ cZ) A (mW b cI cJ cZ o.2.1 mlo mre mpr mto mim mdi mow mit mvl mhs o.2.2.1 mby o.2.2.2.1 o.2.2.2.2.1 o.2.2.2.2.2 mbg mbu mbd mlg mly mll mld mpg mpu mpl mtd mti mwt mch) o.1) args s 0 0 A) (F0 m 203 ls [.int t3, .int t2, .int t1, .ref (b 3)]) := by
  obtain ⟨hx, hb, hr, hml, hown, hts, hlocks, hN, hA⟩ := id C
  rw [f_X7_needs_J203] at hf
  refine lv_isub hx hb dX7_needs_203 ?_
  obtain ⟨h1, hf⟩ := ck_some hf
  refine g_iast (w' := (mW b cI cJ cZ mth mlo mre mpr mto mim mdi mow mit mvl mhs (upd mns t1.toNatClampNeg (t2 - t3)) mby mng mnu mnd mbg mbu mbd mlg mly mll mld mpg mpu mpl mtd mti mwt mch)) C E 3 rfl h1 dX7_needs_204 rfl (fun H locs E => ?_)
  refine lv_iload hx hb dX7_needs_205 (lv_at hl 0 rfl) ?_
  refine lv_iconst (v := 3) hx hb dX7_needs_207 (by decide) ?_
  refine lv_icmp_le (tgt := 215) hx hb dX7_needs_208 (by decide) (fun c2 => ?_) (fun c2 => ?_)
  · rw [if_pos c2] at hf
    refine lv_iconst (v := 1) hx hb dX7_needs_215 (by decide) ?_
    obtain rfl := Option.some.inj hf
    exact g_iret C E dX7_needs_216
  · rw [if_neg c2] at hf
    refine lv_iconst (v := 0) hx hb dX7_needs_211 (by decide) ?_
    refine lv_goto (tgt := 216) hx hb dX7_needs_212 (by decide) ?_
    obtain rfl := Option.some.inj hf
    exact g_iret C E dX7_needs_216
def f_X7_needs_L148 (mth : Int32) (mns : Nat → Int32) (mng : Nat → Int32) (mnu : Nat → Int32) (mnd : Nat → Int32) (x1 : Int32) : Nat → Int32 → Int32 → Option (Int32 × (Int32) × (Nat → Int32) × (Nat → Int32) × (Nat → Int32) × (Nat → Int32))
  | 0, _, _ => none
  | n + 1, x5, x6 =>
  if (12 : Int32) ≤ x6 then
    ck x1 12 <|
    if x5 ≤ (3 : Int32) then
      f_X7_needs_J203 mth mns mng mnu mnd x5 x1 (mns x1.toNatClampNeg) (0 : Int32)
    else
      f_X7_needs_J203 mth mns mng mnu mnd x5 x1 (mns x1.toNatClampNeg) (1 : Int32)
  else
    (f_X7_depthOf mns mng x6).bind fun o4 =>
    if o4 ≤ x5 then
      f_X7_needs_L148 mth mns mng mnu mnd x1 n x5 (x6 + 1)
    else
      (f_X7_depthOf mns mng x6).bind fun o7 =>
      f_X7_needs_L148 mth mns mng mnu mnd x1 n o7 (x6 + 1)
set_option maxHeartbeats 4000000 in
set_option maxRecDepth 100000 in
theorem w_X7_needs_L148 {p : Program} {l : Launch} {e : Env} {s : State} {m : MethodId} {args : Array Value} {below : List Frame} {meth : Method} {c : Code} {A : Nat → Prop} {D : va_G} {cI cJ cZ : ClassId} {b : Nat → Nat} {mth : Int32} {mlo : Int32} {mre : Int32} {mpr : Int32} {mto : Int32} {mim : Int64} {mdi : Int64} {mow : Int64} {mit : Int64} {mvl : Nat → Int32} {mhs : Nat → Int32} {mns : Nat → Int32} {mby : Nat → Int32} {mng : Nat → Int32} {mnu : Nat → Int32} {mnd : Nat → Int32} {mbg : Nat → Int32} {mbu : Nat → Int32} {mbd : Nat → Int32} {mlg : Nat → Int32} {mly : Nat → Int32} {mll : Nat → Int64} {mld : Nat → Int64} {mpg : Nat → Int32} {mpu : Nat → Int32} {mpl : Nat → Int64} {mtd : Int64} {mti : Int64} {mwt : Nat → Int64} {mch : Nat → Int64} (C : gC p s m args meth c cX7_needs 7 (some .int) wsX7_needs RX7 A) {x1 : Int32} {o : Int32 × (Int32) × (Nat → Int32) × (Nat → Int32) × (Nat → Int32) × (Nat → Int32)} :
    ∀ (n : Nat) (x5 : Int32) (x6 : Int32) (H : Heap) (locs : List Loc) (ls : Array Slot), vE s A D (gT cI cJ cZ) (mW b cI cJ cZ mth mlo mre mpr mto mim mdi mow mit mvl mhs mns mby mng mnu mnd mbg mbu mbd mlg mly mll mld mpg mpu mpl mtd mti mwt mch) H locs → lv_has ls 7 [(0, .ref (b 0)), (1, .int x1), (5, .int x5), (6, .int x6)] → f_X7_needs_L148 mth mns mng mnu mnd x1 n x5 x6 = some o → W p l e rm_X7_needs s m args below meth c H locs 0 0 (MQ below (gQi D (gT cI cJ cZ) A (mW b cI cJ cZ o.2.1 mlo mre mpr mto mim mdi mow mit mvl mhs o.2.2.1 mby o.2.2.2.1 o.2.2.2.2.1 o.2.2.2.2.2 mbg mbu mbd mlg mly mll mld mpg mpu mpl mtd mti mwt mch) o.1) args s 0 0 A) (F0 m 148 ls []) := by
  obtain ⟨hx, hb, hr, hml, hown, hts, hlocks, hN, hA⟩ := id C
  intro n
  induction n with
  | zero =>
    intro x5 x6 H locs ls E hl hf
    rw [f_X7_needs_L148] at hf
    cases hf
  | succ n ih =>
    intro x5 x6 H locs ls E hl hf
    rw [f_X7_needs_L148] at hf
    refine lv_iload hx hb dX7_needs_148 (lv_at hl 3 rfl) ?_
    refine lv_bipush (v := 12) hx hb dX7_needs_150 (by decide) ?_
    refine lv_icmp_ge (tgt := 185) hx hb dX7_needs_152 (by decide) (fun c1 => ?_) (fun c1 => ?_)
    · rw [if_pos c1] at hf
      refine lv_aload_n hx hb dX7_needs_185 rfl (lv_at hl 0 rfl) ?_
      refine g_get C E 0 11 (fun _ h => List.mem_cons_of_mem _ (List.mem_append_right _ h)) rfl rfl (by decide) (List.mem_of_getElem? (i := 3) rfl) rfl rfl dX7_needs_186 ?_
      refine lv_iload_n hx hb dX7_needs_189 rfl (lv_at hl 1 rfl) ?_
      refine lv_dup2_11 hx hb dX7_needs_190 rfl rfl ?_
      obtain ⟨h2, hf⟩ := ck_some hf
      refine g_iald C E 3 rfl h2 dX7_needs_191 ?_
      refine lv_iload hx hb dX7_needs_192 (lv_at hl 2 rfl) ?_
      refine lv_iconst (v := 3) hx hb dX7_needs_194 (by decide) ?_
      refine lv_icmp_le (tgt := 202) hx hb dX7_needs_195 (by decide) (fun c3 => ?_) (fun c3 => ?_)
      · rw [if_pos c3] at hf
        refine lv_iconst (v := 0) hx hb dX7_needs_202 (by decide) ?_
        exact w_X7_needs_J203 C  E (lv_sub hl [2] rfl) hf
      · rw [if_neg c3] at hf
        refine lv_iconst (v := 1) hx hb dX7_needs_198 (by decide) ?_
        refine lv_goto (tgt := 203) hx hb dX7_needs_199 (by decide) ?_
        exact w_X7_needs_J203 C  E (lv_sub hl [2] rfl) hf
    · rw [if_neg c1] at hf
      refine lv_aload_n hx hb dX7_needs_155 rfl (lv_at hl 0 rfl) ?_
      refine lv_iload hx hb dX7_needs_156 (lv_at hl 3 rfl) ?_
      obtain ⟨o4, e5, hf⟩ := bd_some hf
      refine g_calli (w' := (mW b cI cJ cZ mth mlo mre mpr mto mim mdi mow mit mvl mhs mns mby mng mnu mnd mbg mbu mbd mlg mly mll mld mpg mpu mpl mtd mti mwt mch)) C E (g_runV (As := [.int x6]) (rest := []) C E (c_X7_depthOf e5) (cwV 1 hts gX7_needs_X7_depthOf rfl rfl rfl ⟨rfl, hd_X7_depthOf⟩ ⟨Nat.le_of_ble_eq_true rfl, Nat.le_of_ble_eq_true rfl⟩) (q0 := 0) (ci := 7) rfl rfl rfl rfl hl.1 rfl (Nat.le_of_ble_eq_true rfl) dX7_needs_158 ⟨Nat.le_of_ble_eq_true rfl, Nat.le_of_ble_eq_true rfl⟩) (fun H locs E => ?_)
      refine lv_iload hx hb dX7_needs_161 (lv_at hl 2 rfl) ?_
      refine lv_icmp_le (tgt := 175) hx hb dX7_needs_163 (by decide) (fun c6 => ?_) (fun c6 => ?_)
      · rw [if_pos c6] at hf
        refine lv_iload hx hb dX7_needs_175 (lv_at hl 2 rfl) ?_
        refine lv_istore (lv' := [(5, .int x5), (0, .ref (b 0)), (1, .int x1), (6, .int x6)]) hx hb dX7_needs_177 hl (by decide) rfl (fun ls hl => ?_)
        refine lv_iinc (v := (x6 + 1)) (lv' := [(6, .int (x6 + 1)), (5, .int x5), (0, .ref (b 0)), (1, .int x1)]) hx hb dX7_needs_179 hl (k := 3) rfl rfl (by decide) rfl (fun ls hl => ?_)
        refine lv_goto (tgt := 148) hx hb dX7_needs_182 (by decide) ?_
        exact ih x5 (x6 + 1) _ _ _ E (lv_sub hl [2, 3, 1, 0] rfl) hf
      · rw [if_neg c6] at hf
        refine lv_aload_n hx hb dX7_needs_166 rfl (lv_at hl 0 rfl) ?_
        refine lv_iload hx hb dX7_needs_167 (lv_at hl 3 rfl) ?_
        obtain ⟨o7, e8, hf⟩ := bd_some hf
        refine g_calli (w' := (mW b cI cJ cZ mth mlo mre mpr mto mim mdi mow mit mvl mhs mns mby mng mnu mnd mbg mbu mbd mlg mly mll mld mpg mpu mpl mtd mti mwt mch)) C E (g_runV (As := [.int x6]) (rest := []) C E (c_X7_depthOf e8) (cwV 1 hts gX7_needs_X7_depthOf rfl rfl rfl ⟨rfl, hd_X7_depthOf⟩ ⟨Nat.le_of_ble_eq_true rfl, Nat.le_of_ble_eq_true rfl⟩) (q0 := 0) (ci := 7) rfl rfl rfl rfl hl.1 rfl (Nat.le_of_ble_eq_true rfl) dX7_needs_169 ⟨Nat.le_of_ble_eq_true rfl, Nat.le_of_ble_eq_true rfl⟩) (fun H locs E => ?_)
        refine lv_goto (tgt := 177) hx hb dX7_needs_172 (by decide) ?_
        refine lv_istore (lv' := [(5, .int o7), (0, .ref (b 0)), (1, .int x1), (6, .int x6)]) hx hb dX7_needs_177 hl (by decide) rfl (fun ls hl => ?_)
        refine lv_iinc (v := (x6 + 1)) (lv' := [(6, .int (x6 + 1)), (5, .int o7), (0, .ref (b 0)), (1, .int x1)]) hx hb dX7_needs_179 hl (k := 3) rfl rfl (by decide) rfl (fun ls hl => ?_)
        refine lv_goto (tgt := 148) hx hb dX7_needs_182 (by decide) ?_
        exact ih o7 (x6 + 1) _ _ _ E (lv_sub hl [2, 3, 1, 0] rfl) hf
def f_X7_needs_J29 (mhs : Nat → Int32) (mns : Nat → Int32) (mng : Nat → Int32) (mnu : Nat → Int32) (mnd : Nat → Int32) (x1 : Int32) (x2 : Int32) (x3 : Int32) (x4 : Int32) (t1 : Int32) : Option (Int32 × (Int32) × (Nat → Int32) × (Nat → Int32) × (Nat → Int32) × (Nat → Int32)) :=
  if 0 < t1 then
    some ((0 : Int32), t1, mns, mng, mnu, mnd)
  else
    ck x1 12 <|
    if (mhs x1.toNatClampNeg) = 0 then
      some ((0 : Int32), t1, mns, mng, mnu, mnd)
    else
      if x1 = x2 then
        some ((0 : Int32), t1, mns, mng, mnu, mnd)
      else
        (f_X7_isNeed mns mng x1 x2).bind fun o5 =>
        if o5 = 0 then
          ck x1 12 <|
          if (mns x1.toNatClampNeg) = (4 : Int32) then
            some ((0 : Int32), t1, mns, mng, mnu, mnd)
          else
            (f_X7_leads mns mng x2 x1).bind fun o10 =>
            if o10 = 0 then
              ck x1 12 <|
              ck (((4 : Int32) * x1) + (mns x1.toNatClampNeg)) 48 <|
              ck x1 12 <|
              ck (((4 : Int32) * x1) + (mns x1.toNatClampNeg)) 48 <|
              ck x1 12 <|
              ck (((4 : Int32) * x1) + (mns x1.toNatClampNeg)) 48 <|
              ck x1 12 <|
              ck x1 12 <|
              f_X7_needs_L148 t1 (upd mns x1.toNatClampNeg ((mns x1.toNatClampNeg) + (1 : Int32))) (upd mng (((4 : Int32) * x1) + (mns x1.toNatClampNeg)).toNatClampNeg x2) (upd mnu (((4 : Int32) * x1) + (mns x1.toNatClampNeg)).toNatClampNeg x3) (upd mnd (((4 : Int32) * x1) + (mns x1.toNatClampNeg)).toNatClampNeg x4) x1 FU (0 : Int32) (0 : Int32)
            else
              some ((0 : Int32), t1, mns, mng, mnu, mnd)
        else
          some ((0 : Int32), t1, mns, mng, mnu, mnd)
set_option maxHeartbeats 4000000 in
set_option maxRecDepth 100000 in
theorem w_X7_needs_J29 {p : Program} {l : Launch} {e : Env} {s : State} {m : MethodId} {args : Array Value} {below : List Frame} {meth : Method} {c : Code} {A : Nat → Prop} {D : va_G} {cI cJ cZ : ClassId} {b : Nat → Nat} {mth : Int32} {mlo : Int32} {mre : Int32} {mpr : Int32} {mto : Int32} {mim : Int64} {mdi : Int64} {mow : Int64} {mit : Int64} {mvl : Nat → Int32} {mhs : Nat → Int32} {mns : Nat → Int32} {mby : Nat → Int32} {mng : Nat → Int32} {mnu : Nat → Int32} {mnd : Nat → Int32} {mbg : Nat → Int32} {mbu : Nat → Int32} {mbd : Nat → Int32} {mlg : Nat → Int32} {mly : Nat → Int32} {mll : Nat → Int64} {mld : Nat → Int64} {mpg : Nat → Int32} {mpu : Nat → Int32} {mpl : Nat → Int64} {mtd : Int64} {mti : Int64} {mwt : Nat → Int64} {mch : Nat → Int64} (C : gC p s m args meth c cX7_needs 7 (some .int) wsX7_needs RX7 A) {x1 : Int32} {x2 : Int32} {x3 : Int32} {x4 : Int32} {o : Int32 × (Int32) × (Nat → Int32) × (Nat → Int32) × (Nat → Int32) × (Nat → Int32)} {t1 : Int32} {H : Heap} {locs : List Loc} {ls : Array Slot} (E : vE s A D (gT cI cJ cZ) (mW b cI cJ cZ mth mlo mre mpr mto mim mdi mow mit mvl mhs mns mby mng mnu mnd mbg mbu mbd mlg mly mll mld mpg mpu mpl mtd mti mwt mch) H locs) (hl : lv_has ls 7 [(0, .ref (b 0)), (1, .int x1), (2, .int x2), (3, .int x3), (4, .int x4)]) (hf : f_X7_needs_J29 mhs mns mng mnu mnd x1 x2 x3 x4 t1 = some o) : W p l e rm_X7_needs s m args below meth c H locs 0 0 (MQ below (gQi D (gT cI cJ cZ) A (mW b cI cJ cZ o.2.1 mlo mre mpr mto mim mdi mow mit mvl mhs o.2.2.1 mby o.2.2.2.1 o.2.2.2.2.1 o.2.2.2.2.2 mbg mbu mbd mlg mly mll mld mpg mpu mpl mtd mti mwt mch) o.1) args s 0 0 A) (F0 m 29 ls [.int t1, .ref (b 0)]) := by
  obtain ⟨hx, hb, hr, hml, hown, hts, hlocks, hN, hA⟩ := id C
  rw [f_X7_needs_J29] at hf
  refine g_put (w' := (mW b cI cJ cZ t1 mlo mre mpr mto mim mdi mow mit mvl mhs mns mby mng mnu mnd mbg mbu mbd mlg mly mll mld mpg mpu mpl mtd mti mwt mch)) C E 0 0 tyX7 tyX7_ok nmX7 (fun _ h => List.mem_cons_of_mem _ (List.mem_append_right _ h)) rfl rfl (by decide) (List.mem_of_getElem? (i := 1) rfl) rfl rfl rfl rfl rfl (Nat.le_of_ble_eq_true rfl) dX7_needs_29 rfl (fun H locs E => ?_)
  refine lv_aload_n hx hb dX7_needs_32 rfl (lv_at hl 0 rfl) ?_
  refine g_get C E 0 0 (fun _ h => List.mem_cons_of_mem _ (List.mem_append_right _ h)) rfl rfl (by decide) (List.mem_of_getElem? (i := 1) rfl) rfl rfl dX7_needs_33 ?_
  refine lv_if_gt (tgt := 81) hx hb dX7_needs_36 (by decide) (fun c1 => ?_) (fun c1 => ?_)
  · rw [if_pos c1] at hf
    refine lv_iconst (v := 0) hx hb dX7_needs_81 (by decide) ?_
    obtain rfl := Option.some.inj hf
    exact g_iret C E dX7_needs_82
  · rw [if_neg c1] at hf
    refine lv_aload_n hx hb dX7_needs_39 rfl (lv_at hl 0 rfl) ?_
    refine g_get C E 0 10 (fun _ h => List.mem_cons_of_mem _ (List.mem_append_right _ h)) rfl rfl (by decide) (List.mem_of_getElem? (i := 2) rfl) rfl rfl dX7_needs_40 ?_
    refine lv_iload_n hx hb dX7_needs_43 rfl (lv_at hl 1 rfl) ?_
    obtain ⟨h2, hf⟩ := ck_some hf
    refine g_zald C E 2 rfl h2 dX7_needs_44 ?_
    refine lv_if_eq (tgt := 81) hx hb dX7_needs_45 (by decide) (fun c3 => ?_) (fun c3 => ?_)
    · rw [if_pos c3] at hf
      refine lv_iconst (v := 0) hx hb dX7_needs_81 (by decide) ?_
      obtain rfl := Option.some.inj hf
      exact g_iret C E dX7_needs_82
    · rw [if_neg c3] at hf
      refine lv_iload_n hx hb dX7_needs_48 rfl (lv_at hl 1 rfl) ?_
      refine lv_iload_n hx hb dX7_needs_49 rfl (lv_at hl 2 rfl) ?_
      refine lv_icmp_eq (tgt := 81) hx hb dX7_needs_50 (by decide) (fun c4 => ?_) (fun c4 => ?_)
      · rw [if_pos c4] at hf
        refine lv_iconst (v := 0) hx hb dX7_needs_81 (by decide) ?_
        obtain rfl := Option.some.inj hf
        exact g_iret C E dX7_needs_82
      · rw [if_neg c4] at hf
        refine lv_aload_n hx hb dX7_needs_53 rfl (lv_at hl 0 rfl) ?_
        refine lv_iload_n hx hb dX7_needs_54 rfl (lv_at hl 1 rfl) ?_
        refine lv_iload_n hx hb dX7_needs_55 rfl (lv_at hl 2 rfl) ?_
        obtain ⟨o5, e6, hf⟩ := bd_some hf
        refine g_calli (w' := (mW b cI cJ cZ t1 mlo mre mpr mto mim mdi mow mit mvl mhs mns mby mng mnu mnd mbg mbu mbd mlg mly mll mld mpg mpu mpl mtd mti mwt mch)) C E (g_runV (As := [.int x1, .int x2]) (rest := []) C E (c_X7_isNeed e6) (cwV 2 hts gX7_needs_X7_isNeed rfl rfl rfl ⟨rfl, hd_X7_isNeed⟩ ⟨Nat.le_of_ble_eq_true rfl, Nat.le_of_ble_eq_true rfl⟩) (q0 := 0) (ci := 7) rfl rfl rfl rfl hl.1 rfl (Nat.le_of_ble_eq_true rfl) dX7_needs_56 ⟨Nat.le_of_ble_eq_true rfl, Nat.le_of_ble_eq_true rfl⟩) (fun H locs E => ?_)
        refine lv_if_ne (tgt := 81) hx hb dX7_needs_59 (by decide) (fun c7 => ?_) (fun c7 => ?_)
        · rw [if_neg c7] at hf
          refine lv_iconst (v := 0) hx hb dX7_needs_81 (by decide) ?_
          obtain rfl := Option.some.inj hf
          exact g_iret C E dX7_needs_82
        · rw [if_pos c7] at hf
          refine lv_aload_n hx hb dX7_needs_62 rfl (lv_at hl 0 rfl) ?_
          refine g_get C E 0 11 (fun _ h => List.mem_cons_of_mem _ (List.mem_append_right _ h)) rfl rfl (by decide) (List.mem_of_getElem? (i := 3) rfl) rfl rfl dX7_needs_63 ?_
          refine lv_iload_n hx hb dX7_needs_66 rfl (lv_at hl 1 rfl) ?_
          obtain ⟨h8, hf⟩ := ck_some hf
          refine g_iald C E 3 rfl h8 dX7_needs_67 ?_
          refine lv_iconst (v := 4) hx hb dX7_needs_68 (by decide) ?_
          refine lv_icmp_eq (tgt := 81) hx hb dX7_needs_69 (by decide) (fun c9 => ?_) (fun c9 => ?_)
          · rw [if_pos c9] at hf
            refine lv_iconst (v := 0) hx hb dX7_needs_81 (by decide) ?_
            obtain rfl := Option.some.inj hf
            exact g_iret C E dX7_needs_82
          · rw [if_neg c9] at hf
            refine lv_aload_n hx hb dX7_needs_72 rfl (lv_at hl 0 rfl) ?_
            refine lv_iload_n hx hb dX7_needs_73 rfl (lv_at hl 2 rfl) ?_
            refine lv_iload_n hx hb dX7_needs_74 rfl (lv_at hl 1 rfl) ?_
            obtain ⟨o10, e11, hf⟩ := bd_some hf
            refine g_calli (w' := (mW b cI cJ cZ t1 mlo mre mpr mto mim mdi mow mit mvl mhs mns mby mng mnu mnd mbg mbu mbd mlg mly mll mld mpg mpu mpl mtd mti mwt mch)) C E (g_runV (As := [.int x2, .int x1]) (rest := []) C E (c_X7_leads e11) (cwV 2 hts gX7_needs_X7_leads rfl rfl rfl ⟨rfl, hd_X7_leads⟩ ⟨Nat.le_of_ble_eq_true rfl, Nat.le_of_ble_eq_true rfl⟩) (q0 := 0) (ci := 7) rfl rfl rfl rfl hl.1 rfl (Nat.le_of_ble_eq_true rfl) dX7_needs_75 ⟨Nat.le_of_ble_eq_true rfl, Nat.le_of_ble_eq_true rfl⟩) (fun H locs E => ?_)
            refine lv_if_eq (tgt := 83) hx hb dX7_needs_78 (by decide) (fun c12 => ?_) (fun c12 => ?_)
            · rw [if_pos c12] at hf
              refine lv_aload_n hx hb dX7_needs_83 rfl (lv_at hl 0 rfl) ?_
              refine g_get C E 0 13 (fun _ h => List.mem_cons_of_mem _ (List.mem_append_right _ h)) rfl rfl (by decide) (List.mem_of_getElem? (i := 4) rfl) rfl rfl dX7_needs_84 ?_
              refine lv_iconst (v := 4) hx hb dX7_needs_87 (by decide) ?_
              refine lv_iload_n hx hb dX7_needs_88 rfl (lv_at hl 1 rfl) ?_
              refine lv_imul hx hb dX7_needs_89 ?_
              refine lv_aload_n hx hb dX7_needs_90 rfl (lv_at hl 0 rfl) ?_
              refine g_get C E 0 11 (fun _ h => List.mem_cons_of_mem _ (List.mem_append_right _ h)) rfl rfl (by decide) (List.mem_of_getElem? (i := 3) rfl) rfl rfl dX7_needs_91 ?_
              refine lv_iload_n hx hb dX7_needs_94 rfl (lv_at hl 1 rfl) ?_
              obtain ⟨h13, hf⟩ := ck_some hf
              refine g_iald C E 3 rfl h13 dX7_needs_95 ?_
              refine lv_iadd hx hb dX7_needs_96 ?_
              refine lv_iload_n hx hb dX7_needs_97 rfl (lv_at hl 2 rfl) ?_
              obtain ⟨h14, hf⟩ := ck_some hf
              refine g_iast (w' := (mW b cI cJ cZ t1 mlo mre mpr mto mim mdi mow mit mvl mhs mns mby (upd mng (((4 : Int32) * x1) + (mns x1.toNatClampNeg)).toNatClampNeg x2) mnu mnd mbg mbu mbd mlg mly mll mld mpg mpu mpl mtd mti mwt mch)) C E 5 rfl h14 dX7_needs_98 rfl (fun H locs E => ?_)
              refine lv_aload_n hx hb dX7_needs_99 rfl (lv_at hl 0 rfl) ?_
              refine g_get C E 0 14 (fun _ h => List.mem_cons_of_mem _ (List.mem_append_right _ h)) rfl rfl (by decide) (List.mem_of_getElem? (i := 5) rfl) rfl rfl dX7_needs_100 ?_
              refine lv_iconst (v := 4) hx hb dX7_needs_103 (by decide) ?_
              refine lv_iload_n hx hb dX7_needs_104 rfl (lv_at hl 1 rfl) ?_
              refine lv_imul hx hb dX7_needs_105 ?_
              refine lv_aload_n hx hb dX7_needs_106 rfl (lv_at hl 0 rfl) ?_
              refine g_get C E 0 11 (fun _ h => List.mem_cons_of_mem _ (List.mem_append_right _ h)) rfl rfl (by decide) (List.mem_of_getElem? (i := 3) rfl) rfl rfl dX7_needs_107 ?_
              refine lv_iload_n hx hb dX7_needs_110 rfl (lv_at hl 1 rfl) ?_
              obtain ⟨h15, hf⟩ := ck_some hf
              refine g_iald C E 3 rfl h15 dX7_needs_111 ?_
              refine lv_iadd hx hb dX7_needs_112 ?_
              refine lv_iload_n hx hb dX7_needs_113 rfl (lv_at hl 3 rfl) ?_
              obtain ⟨h16, hf⟩ := ck_some hf
              refine g_iast (w' := (mW b cI cJ cZ t1 mlo mre mpr mto mim mdi mow mit mvl mhs mns mby (upd mng (((4 : Int32) * x1) + (mns x1.toNatClampNeg)).toNatClampNeg x2) (upd mnu (((4 : Int32) * x1) + (mns x1.toNatClampNeg)).toNatClampNeg x3) mnd mbg mbu mbd mlg mly mll mld mpg mpu mpl mtd mti mwt mch)) C E 6 rfl h16 dX7_needs_114 rfl (fun H locs E => ?_)
              refine lv_aload_n hx hb dX7_needs_115 rfl (lv_at hl 0 rfl) ?_
              refine g_get C E 0 15 (fun _ h => List.mem_cons_of_mem _ (List.mem_append_right _ h)) rfl rfl (by decide) (List.mem_of_getElem? (i := 6) rfl) rfl rfl dX7_needs_116 ?_
              refine lv_iconst (v := 4) hx hb dX7_needs_119 (by decide) ?_
              refine lv_iload_n hx hb dX7_needs_120 rfl (lv_at hl 1 rfl) ?_
              refine lv_imul hx hb dX7_needs_121 ?_
              refine lv_aload_n hx hb dX7_needs_122 rfl (lv_at hl 0 rfl) ?_
              refine g_get C E 0 11 (fun _ h => List.mem_cons_of_mem _ (List.mem_append_right _ h)) rfl rfl (by decide) (List.mem_of_getElem? (i := 3) rfl) rfl rfl dX7_needs_123 ?_
              refine lv_iload_n hx hb dX7_needs_126 rfl (lv_at hl 1 rfl) ?_
              obtain ⟨h17, hf⟩ := ck_some hf
              refine g_iald C E 3 rfl h17 dX7_needs_127 ?_
              refine lv_iadd hx hb dX7_needs_128 ?_
              refine lv_iload hx hb dX7_needs_129 (lv_at hl 4 rfl) ?_
              obtain ⟨h18, hf⟩ := ck_some hf
              refine g_iast (w' := (mW b cI cJ cZ t1 mlo mre mpr mto mim mdi mow mit mvl mhs mns mby (upd mng (((4 : Int32) * x1) + (mns x1.toNatClampNeg)).toNatClampNeg x2) (upd mnu (((4 : Int32) * x1) + (mns x1.toNatClampNeg)).toNatClampNeg x3) (upd mnd (((4 : Int32) * x1) + (mns x1.toNatClampNeg)).toNatClampNeg x4) mbg mbu mbd mlg mly mll mld mpg mpu mpl mtd mti mwt mch)) C E 7 rfl h18 dX7_needs_131 rfl (fun H locs E => ?_)
              refine lv_aload_n hx hb dX7_needs_132 rfl (lv_at hl 0 rfl) ?_
              refine g_get C E 0 11 (fun _ h => List.mem_cons_of_mem _ (List.mem_append_right _ h)) rfl rfl (by decide) (List.mem_of_getElem? (i := 3) rfl) rfl rfl dX7_needs_133 ?_
              refine lv_iload_n hx hb dX7_needs_136 rfl (lv_at hl 1 rfl) ?_
              refine lv_dup2_11 hx hb dX7_needs_137 rfl rfl ?_
              obtain ⟨h19, hf⟩ := ck_some hf
              refine g_iald C E 3 rfl h19 dX7_needs_138 ?_
              refine lv_iconst (v := 1) hx hb dX7_needs_139 (by decide) ?_
              refine lv_iadd hx hb dX7_needs_140 ?_
              obtain ⟨h20, hf⟩ := ck_some hf
              refine g_iast (w' := (mW b cI cJ cZ t1 mlo mre mpr mto mim mdi mow mit mvl mhs (upd mns x1.toNatClampNeg ((mns x1.toNatClampNeg) + (1 : Int32))) mby (upd mng (((4 : Int32) * x1) + (mns x1.toNatClampNeg)).toNatClampNeg x2) (upd mnu (((4 : Int32) * x1) + (mns x1.toNatClampNeg)).toNatClampNeg x3) (upd mnd (((4 : Int32) * x1) + (mns x1.toNatClampNeg)).toNatClampNeg x4) mbg mbu mbd mlg mly mll mld mpg mpu mpl mtd mti mwt mch)) C E 3 rfl h20 dX7_needs_141 rfl (fun H locs E => ?_)
              refine lv_iconst (v := 0) hx hb dX7_needs_142 (by decide) ?_
              refine lv_istore (lv' := [(5, .int (0 : Int32)), (0, .ref (b 0)), (1, .int x1), (2, .int x2), (3, .int x3), (4, .int x4)]) hx hb dX7_needs_143 hl (by decide) rfl (fun ls hl => ?_)
              refine lv_iconst (v := 0) hx hb dX7_needs_145 (by decide) ?_
              refine lv_istore (lv' := [(6, .int (0 : Int32)), (5, .int (0 : Int32)), (0, .ref (b 0)), (1, .int x1), (2, .int x2), (3, .int x3), (4, .int x4)]) hx hb dX7_needs_146 hl (by decide) rfl (fun ls hl => ?_)
              exact w_X7_needs_L148 C  FU (0 : Int32) (0 : Int32) _ _ _ E (lv_sub hl [2, 3, 1, 0] rfl) hf
            · rw [if_neg c12] at hf
              refine lv_iconst (v := 0) hx hb dX7_needs_81 (by decide) ?_
              obtain rfl := Option.some.inj hf
              exact g_iret C E dX7_needs_82
def f_X7_needs_J28 (mhs : Nat → Int32) (mns : Nat → Int32) (mng : Nat → Int32) (mnu : Nat → Int32) (mnd : Nat → Int32) (x1 : Int32) (x2 : Int32) (x3 : Int32) (x4 : Int32) : Option (Int32 × (Int32) × (Nat → Int32) × (Nat → Int32) × (Nat → Int32) × (Nat → Int32)) :=
  f_X7_needs_J29 mhs mns mng mnu mnd x1 x2 x3 x4 (1 : Int32)
set_option maxHeartbeats 4000000 in
set_option maxRecDepth 100000 in
theorem w_X7_needs_J28 {p : Program} {l : Launch} {e : Env} {s : State} {m : MethodId} {args : Array Value} {below : List Frame} {meth : Method} {c : Code} {A : Nat → Prop} {D : va_G} {cI cJ cZ : ClassId} {b : Nat → Nat} {mth : Int32} {mlo : Int32} {mre : Int32} {mpr : Int32} {mto : Int32} {mim : Int64} {mdi : Int64} {mow : Int64} {mit : Int64} {mvl : Nat → Int32} {mhs : Nat → Int32} {mns : Nat → Int32} {mby : Nat → Int32} {mng : Nat → Int32} {mnu : Nat → Int32} {mnd : Nat → Int32} {mbg : Nat → Int32} {mbu : Nat → Int32} {mbd : Nat → Int32} {mlg : Nat → Int32} {mly : Nat → Int32} {mll : Nat → Int64} {mld : Nat → Int64} {mpg : Nat → Int32} {mpu : Nat → Int32} {mpl : Nat → Int64} {mtd : Int64} {mti : Int64} {mwt : Nat → Int64} {mch : Nat → Int64} (C : gC p s m args meth c cX7_needs 7 (some .int) wsX7_needs RX7 A) {x1 : Int32} {x2 : Int32} {x3 : Int32} {x4 : Int32} {o : Int32 × (Int32) × (Nat → Int32) × (Nat → Int32) × (Nat → Int32) × (Nat → Int32)} {H : Heap} {locs : List Loc} {ls : Array Slot} (E : vE s A D (gT cI cJ cZ) (mW b cI cJ cZ mth mlo mre mpr mto mim mdi mow mit mvl mhs mns mby mng mnu mnd mbg mbu mbd mlg mly mll mld mpg mpu mpl mtd mti mwt mch) H locs) (hl : lv_has ls 7 [(0, .ref (b 0)), (1, .int x1), (2, .int x2), (3, .int x3), (4, .int x4)]) (hf : f_X7_needs_J28 mhs mns mng mnu mnd x1 x2 x3 x4 = some o) : W p l e rm_X7_needs s m args below meth c H locs 0 0 (MQ below (gQi D (gT cI cJ cZ) A (mW b cI cJ cZ o.2.1 mlo mre mpr mto mim mdi mow mit mvl mhs o.2.2.1 mby o.2.2.2.1 o.2.2.2.2.1 o.2.2.2.2.2 mbg mbu mbd mlg mly mll mld mpg mpu mpl mtd mti mwt mch) o.1) args s 0 0 A) (F0 m 28 ls [.ref (b 0)]) := by
  obtain ⟨hx, hb, hr, hml, hown, hts, hlocks, hN, hA⟩ := id C
  rw [f_X7_needs_J28] at hf
  refine lv_iconst (v := 1) hx hb dX7_needs_28 (by decide) ?_
  exact w_X7_needs_J29 C  E (lv_sub hl [0, 1, 2, 3, 4] rfl) hf
def f_X7_needs (mth : Int32) (mhs : Nat → Int32) (mns : Nat → Int32) (mng : Nat → Int32) (mnu : Nat → Int32) (mnd : Nat → Int32) (x1 : Int32) (x2 : Int32) (x3 : Int32) (x4 : Int32) : Option (Int32 × (Int32) × (Nat → Int32) × (Nat → Int32) × (Nat → Int32) × (Nat → Int32)) :=
  (f_X7_isGood x1).bind fun o1 =>
  if o1 = 0 then
    f_X7_needs_J28 mhs mns mng mnu mnd x1 x2 x3 x4 
  else
    (f_X7_isGood x2).bind fun o4 =>
    if o4 = 0 then
      f_X7_needs_J28 mhs mns mng mnu mnd x1 x2 x3 x4 
    else
      (f_X7_isPart x3 x4).bind fun o7 =>
      if o7 = 0 then
        f_X7_needs_J28 mhs mns mng mnu mnd x1 x2 x3 x4 
      else
        f_X7_needs_J29 mhs mns mng mnu mnd x1 x2 x3 x4 (0 : Int32)
set_option maxHeartbeats 4000000 in
set_option maxRecDepth 100000 in
theorem c_X7_needs {l : Launch} {D : va_G} {cI cJ cZ : ClassId} {b : Nat → Nat} {sz : Nat} {mth : Int32} {mlo : Int32} {mre : Int32} {mpr : Int32} {mto : Int32} {mim : Int64} {mdi : Int64} {mow : Int64} {mit : Int64} {mvl : Nat → Int32} {mhs : Nat → Int32} {mns : Nat → Int32} {mby : Nat → Int32} {mng : Nat → Int32} {mnu : Nat → Int32} {mnd : Nat → Int32} {mbg : Nat → Int32} {mbu : Nat → Int32} {mbd : Nat → Int32} {mlg : Nat → Int32} {mly : Nat → Int32} {mll : Nat → Int64} {mld : Nat → Int64} {mpg : Nat → Int32} {mpu : Nat → Int32} {mpl : Nat → Int64} {mtd : Int64} {mti : Int64} {mwt : Nat → Int64} {mch : Nat → Int64} {x1 : Int32} {x2 : Int32} {x3 : Int32} {x4 : Int32} {o : Int32 × (Int32) × (Nat → Int32) × (Nat → Int32) × (Nat → Int32) × (Nat → Int32)} (hf : f_X7_needs mth mhs mns mng mnu mnd x1 x2 x3 x4 = some o) : gMi l yX7_needs wsX7_needs rm_X7_needs D (gT cI cJ cZ) (mW b cI cJ cZ mth mlo mre mpr mto mim mdi mow mit mvl mhs mns mby mng mnu mnd mbg mbu mbd mlg mly mll mld mpg mpu mpl mtd mti mwt mch) (mW b cI cJ cZ o.2.1 mlo mre mpr mto mim mdi mow mit mvl mhs o.2.2.1 mby o.2.2.2.1 o.2.2.2.2.1 o.2.2.2.2.2 mbg mbu mbd mlg mly mll mld mpg mpu mpl mtd mti mwt mch) sz [.ref (b 0), .int x1, .int x2, .int x3, .int x4] o.1 := by
  refine g_of (cc := cX7_needs) (maxL := 7) (ret := (some .int)) (by decide) rfl (Nat.le_of_ble_eq_true rfl) ?_
  intro p e s m below meth c A ls hAe C hl E
  rw [← hAe]
  obtain ⟨hx, hb, hr, hml, hown, hts, hlocks, hN, hA⟩ := id C
  have hl : lv_has ls 7 [(0, .ref (b 0)), (1, .int x1), (2, .int x2), (3, .int x3), (4, .int x4)] := hl
  have E : vE s A D (gT cI cJ cZ) (mW b cI cJ cZ mth mlo mre mpr mto mim mdi mow mit mvl mhs mns mby mng mnu mnd mbg mbu mbd mlg mly mll mld mpg mpu mpl mtd mti mwt mch) s.heap [] := E
  rw [f_X7_needs] at hf
  refine lv_aload_n hx hb dX7_needs_0 rfl (lv_at hl 0 rfl) ?_
  refine lv_iload_n hx hb dX7_needs_1 rfl (lv_at hl 1 rfl) ?_
  obtain ⟨o1, e2, hf⟩ := bd_some hf
  refine g_calli (w' := (mW b cI cJ cZ mth mlo mre mpr mto mim mdi mow mit mvl mhs mns mby mng mnu mnd mbg mbu mbd mlg mly mll mld mpg mpu mpl mtd mti mwt mch)) C E (g_runS (As := [.int x1]) (rest := [.ref (b 0)]) C E (c_X7_isGood e2) (va_cwS 1 hts gX7_needs_X7_isGood rfl rfl rfl hd_X7_isGood ⟨Nat.le_of_ble_eq_true rfl, Nat.le_of_ble_eq_true rfl⟩) rfl hl.1 rfl (Nat.le_of_ble_eq_true rfl) dX7_needs_2 ⟨Nat.le_of_ble_eq_true rfl, Nat.le_of_ble_eq_true rfl⟩) (fun H locs E => ?_)
  refine lv_if_eq (tgt := 28) hx hb dX7_needs_5 (by decide) (fun c3 => ?_) (fun c3 => ?_)
  · rw [if_pos c3] at hf
    exact w_X7_needs_J28 C  E (lv_sub hl [0, 1, 2, 3, 4] rfl) hf
  · rw [if_neg c3] at hf
    refine lv_iload_n hx hb dX7_needs_8 rfl (lv_at hl 2 rfl) ?_
    obtain ⟨o4, e5, hf⟩ := bd_some hf
    refine g_calli (w' := (mW b cI cJ cZ mth mlo mre mpr mto mim mdi mow mit mvl mhs mns mby mng mnu mnd mbg mbu mbd mlg mly mll mld mpg mpu mpl mtd mti mwt mch)) C E (g_runS (As := [.int x2]) (rest := [.ref (b 0)]) C E (c_X7_isGood e5) (va_cwS 1 hts gX7_needs_X7_isGood rfl rfl rfl hd_X7_isGood ⟨Nat.le_of_ble_eq_true rfl, Nat.le_of_ble_eq_true rfl⟩) rfl hl.1 rfl (Nat.le_of_ble_eq_true rfl) dX7_needs_9 ⟨Nat.le_of_ble_eq_true rfl, Nat.le_of_ble_eq_true rfl⟩) (fun H locs E => ?_)
    refine lv_if_eq (tgt := 28) hx hb dX7_needs_12 (by decide) (fun c6 => ?_) (fun c6 => ?_)
    · rw [if_pos c6] at hf
      exact w_X7_needs_J28 C  E (lv_sub hl [0, 1, 2, 3, 4] rfl) hf
    · rw [if_neg c6] at hf
      refine lv_iload_n hx hb dX7_needs_15 rfl (lv_at hl 3 rfl) ?_
      refine lv_iload hx hb dX7_needs_16 (lv_at hl 4 rfl) ?_
      obtain ⟨o7, e8, hf⟩ := bd_some hf
      refine g_calli (w' := (mW b cI cJ cZ mth mlo mre mpr mto mim mdi mow mit mvl mhs mns mby mng mnu mnd mbg mbu mbd mlg mly mll mld mpg mpu mpl mtd mti mwt mch)) C E (g_runS (As := [.int x3, .int x4]) (rest := [.ref (b 0)]) C E (c_X7_isPart e8) (va_cwS 2 hts gX7_needs_X7_isPart rfl rfl rfl hd_X7_isPart ⟨Nat.le_of_ble_eq_true rfl, Nat.le_of_ble_eq_true rfl⟩) rfl hl.1 rfl (Nat.le_of_ble_eq_true rfl) dX7_needs_18 ⟨Nat.le_of_ble_eq_true rfl, Nat.le_of_ble_eq_true rfl⟩) (fun H locs E => ?_)
      refine lv_if_eq (tgt := 28) hx hb dX7_needs_21 (by decide) (fun c9 => ?_) (fun c9 => ?_)
      · rw [if_pos c9] at hf
        exact w_X7_needs_J28 C  E (lv_sub hl [0, 1, 2, 3, 4] rfl) hf
      · rw [if_neg c9] at hf
        refine lv_iconst (v := 0) hx hb dX7_needs_24 (by decide) ?_
        refine lv_goto (tgt := 29) hx hb dX7_needs_25 (by decide) ?_
        exact w_X7_needs_J29 C  E (lv_sub hl [0, 1, 2, 3, 4] rfl) hf
abbrev rm_X7_yields : Room := { frames := 2, cells := 0, slots := 0, locals := 46 }
theorem hd_X7_yields : yX7_yields.cls ≠ "java/lang/invoke/MethodHandle" ∧ yX7_yields.cls ≠ "java/lang/invoke/VarHandle" ∧ (parseMethodDescriptor yX7_yields.desc).map (fun d => d.parameters.length) = some 4 := by decide +kernel
def f_X7_yields_J87 (mth : Int32) (mby : Nat → Int32) (mbg : Nat → Int32) (mbu : Nat → Int32) (mbd : Nat → Int32) (x1 : Int32) (x2 : Int32) (x3 : Int32) (x4 : Int32) : Option (Int32 × (Int32) × (Nat → Int32) × (Nat → Int32) × (Nat → Int32) × (Nat → Int32)) :=
  ck x1 12 <|
  ck (((2 : Int32) * x1) + (mby x1.toNatClampNeg)) 24 <|
  ck x1 12 <|
  ck (((2 : Int32) * x1) + (mby x1.toNatClampNeg)) 24 <|
  ck x1 12 <|
  ck (((2 : Int32) * x1) + (mby x1.toNatClampNeg)) 24 <|
  ck x1 12 <|
  ck x1 12 <|
  some ((1 : Int32), mth, (upd mby x1.toNatClampNeg ((mby x1.toNatClampNeg) + (1 : Int32))), (upd mbg (((2 : Int32) * x1) + (mby x1.toNatClampNeg)).toNatClampNeg x2), (upd mbu (((2 : Int32) * x1) + (mby x1.toNatClampNeg)).toNatClampNeg x3), (upd mbd (((2 : Int32) * x1) + (mby x1.toNatClampNeg)).toNatClampNeg x4))
set_option maxHeartbeats 4000000 in
set_option maxRecDepth 100000 in
theorem w_X7_yields_J87 {p : Program} {l : Launch} {e : Env} {s : State} {m : MethodId} {args : Array Value} {below : List Frame} {meth : Method} {c : Code} {A : Nat → Prop} {D : va_G} {cI cJ cZ : ClassId} {b : Nat → Nat} {mth : Int32} {mlo : Int32} {mre : Int32} {mpr : Int32} {mto : Int32} {mim : Int64} {mdi : Int64} {mow : Int64} {mit : Int64} {mvl : Nat → Int32} {mhs : Nat → Int32} {mns : Nat → Int32} {mby : Nat → Int32} {mng : Nat → Int32} {mnu : Nat → Int32} {mnd : Nat → Int32} {mbg : Nat → Int32} {mbu : Nat → Int32} {mbd : Nat → Int32} {mlg : Nat → Int32} {mly : Nat → Int32} {mll : Nat → Int64} {mld : Nat → Int64} {mpg : Nat → Int32} {mpu : Nat → Int32} {mpl : Nat → Int64} {mtd : Int64} {mti : Int64} {mwt : Nat → Int64} {mch : Nat → Int64} (C : gC p s m args meth c cX7_yields 5 (some .int) wsX7_yields RX7 A) {x1 : Int32} {x2 : Int32} {x3 : Int32} {x4 : Int32} {o : Int32 × (Int32) × (Nat → Int32) × (Nat → Int32) × (Nat → Int32) × (Nat → Int32)} {H : Heap} {locs : List Loc} {ls : Array Slot} (E : vE s A D (gT cI cJ cZ) (mW b cI cJ cZ mth mlo mre mpr mto mim mdi mow mit mvl mhs mns mby mng mnu mnd mbg mbu mbd mlg mly mll mld mpg mpu mpl mtd mti mwt mch) H locs) (hl : lv_has ls 5 [(0, .ref (b 0)), (1, .int x1), (2, .int x2), (3, .int x3), (4, .int x4)]) (hf : f_X7_yields_J87 mth mby mbg mbu mbd x1 x2 x3 x4 = some o) : W p l e rm_X7_yields s m args below meth c H locs 0 0 (MQ below (gQi D (gT cI cJ cZ) A (mW b cI cJ cZ o.2.1 mlo mre mpr mto mim mdi mow mit mvl mhs mns o.2.2.1 mng mnu mnd o.2.2.2.1 o.2.2.2.2.1 o.2.2.2.2.2 mlg mly mll mld mpg mpu mpl mtd mti mwt mch) o.1) args s 0 0 A) (F0 m 87 ls []) := by
  obtain ⟨hx, hb, hr, hml, hown, hts, hlocks, hN, hA⟩ := id C
  rw [f_X7_yields_J87] at hf
  refine lv_aload_n hx hb dX7_yields_87 rfl (lv_at hl 0 rfl) ?_
  refine g_get C E 0 16 (fun _ h => List.mem_cons_of_mem _ (List.mem_append_right _ h)) rfl rfl (by decide) (List.mem_of_getElem? (i := 4) rfl) rfl rfl dX7_yields_88 ?_
  refine lv_iconst (v := 2) hx hb dX7_yields_91 (by decide) ?_
  refine lv_iload_n hx hb dX7_yields_92 rfl (lv_at hl 1 rfl) ?_
  refine lv_imul hx hb dX7_yields_93 ?_
  refine lv_aload_n hx hb dX7_yields_94 rfl (lv_at hl 0 rfl) ?_
  refine g_get C E 0 12 (fun _ h => List.mem_cons_of_mem _ (List.mem_append_right _ h)) rfl rfl (by decide) (List.mem_of_getElem? (i := 3) rfl) rfl rfl dX7_yields_95 ?_
  refine lv_iload_n hx hb dX7_yields_98 rfl (lv_at hl 1 rfl) ?_
  obtain ⟨h1, hf⟩ := ck_some hf
  refine g_iald C E 4 rfl h1 dX7_yields_99 ?_
  refine lv_iadd hx hb dX7_yields_100 ?_
  refine lv_iload_n hx hb dX7_yields_101 rfl (lv_at hl 2 rfl) ?_
  obtain ⟨h2, hf⟩ := ck_some hf
  refine g_iast (w' := (mW b cI cJ cZ mth mlo mre mpr mto mim mdi mow mit mvl mhs mns mby mng mnu mnd (upd mbg (((2 : Int32) * x1) + (mby x1.toNatClampNeg)).toNatClampNeg x2) mbu mbd mlg mly mll mld mpg mpu mpl mtd mti mwt mch)) C E 8 rfl h2 dX7_yields_102 rfl (fun H locs E => ?_)
  refine lv_aload_n hx hb dX7_yields_103 rfl (lv_at hl 0 rfl) ?_
  refine g_get C E 0 17 (fun _ h => List.mem_cons_of_mem _ (List.mem_append_right _ h)) rfl rfl (by decide) (List.mem_of_getElem? (i := 5) rfl) rfl rfl dX7_yields_104 ?_
  refine lv_iconst (v := 2) hx hb dX7_yields_107 (by decide) ?_
  refine lv_iload_n hx hb dX7_yields_108 rfl (lv_at hl 1 rfl) ?_
  refine lv_imul hx hb dX7_yields_109 ?_
  refine lv_aload_n hx hb dX7_yields_110 rfl (lv_at hl 0 rfl) ?_
  refine g_get C E 0 12 (fun _ h => List.mem_cons_of_mem _ (List.mem_append_right _ h)) rfl rfl (by decide) (List.mem_of_getElem? (i := 3) rfl) rfl rfl dX7_yields_111 ?_
  refine lv_iload_n hx hb dX7_yields_114 rfl (lv_at hl 1 rfl) ?_
  obtain ⟨h3, hf⟩ := ck_some hf
  refine g_iald C E 4 rfl h3 dX7_yields_115 ?_
  refine lv_iadd hx hb dX7_yields_116 ?_
  refine lv_iload_n hx hb dX7_yields_117 rfl (lv_at hl 3 rfl) ?_
  obtain ⟨h4, hf⟩ := ck_some hf
  refine g_iast (w' := (mW b cI cJ cZ mth mlo mre mpr mto mim mdi mow mit mvl mhs mns mby mng mnu mnd (upd mbg (((2 : Int32) * x1) + (mby x1.toNatClampNeg)).toNatClampNeg x2) (upd mbu (((2 : Int32) * x1) + (mby x1.toNatClampNeg)).toNatClampNeg x3) mbd mlg mly mll mld mpg mpu mpl mtd mti mwt mch)) C E 9 rfl h4 dX7_yields_118 rfl (fun H locs E => ?_)
  refine lv_aload_n hx hb dX7_yields_119 rfl (lv_at hl 0 rfl) ?_
  refine g_get C E 0 18 (fun _ h => List.mem_cons_of_mem _ (List.mem_append_right _ h)) rfl rfl (by decide) (List.mem_of_getElem? (i := 6) rfl) rfl rfl dX7_yields_120 ?_
  refine lv_iconst (v := 2) hx hb dX7_yields_123 (by decide) ?_
  refine lv_iload_n hx hb dX7_yields_124 rfl (lv_at hl 1 rfl) ?_
  refine lv_imul hx hb dX7_yields_125 ?_
  refine lv_aload_n hx hb dX7_yields_126 rfl (lv_at hl 0 rfl) ?_
  refine g_get C E 0 12 (fun _ h => List.mem_cons_of_mem _ (List.mem_append_right _ h)) rfl rfl (by decide) (List.mem_of_getElem? (i := 3) rfl) rfl rfl dX7_yields_127 ?_
  refine lv_iload_n hx hb dX7_yields_130 rfl (lv_at hl 1 rfl) ?_
  obtain ⟨h5, hf⟩ := ck_some hf
  refine g_iald C E 4 rfl h5 dX7_yields_131 ?_
  refine lv_iadd hx hb dX7_yields_132 ?_
  refine lv_iload hx hb dX7_yields_133 (lv_at hl 4 rfl) ?_
  obtain ⟨h6, hf⟩ := ck_some hf
  refine g_iast (w' := (mW b cI cJ cZ mth mlo mre mpr mto mim mdi mow mit mvl mhs mns mby mng mnu mnd (upd mbg (((2 : Int32) * x1) + (mby x1.toNatClampNeg)).toNatClampNeg x2) (upd mbu (((2 : Int32) * x1) + (mby x1.toNatClampNeg)).toNatClampNeg x3) (upd mbd (((2 : Int32) * x1) + (mby x1.toNatClampNeg)).toNatClampNeg x4) mlg mly mll mld mpg mpu mpl mtd mti mwt mch)) C E 10 rfl h6 dX7_yields_135 rfl (fun H locs E => ?_)
  refine lv_aload_n hx hb dX7_yields_136 rfl (lv_at hl 0 rfl) ?_
  refine g_get C E 0 12 (fun _ h => List.mem_cons_of_mem _ (List.mem_append_right _ h)) rfl rfl (by decide) (List.mem_of_getElem? (i := 3) rfl) rfl rfl dX7_yields_137 ?_
  refine lv_iload_n hx hb dX7_yields_140 rfl (lv_at hl 1 rfl) ?_
  refine lv_dup2_11 hx hb dX7_yields_141 rfl rfl ?_
  obtain ⟨h7, hf⟩ := ck_some hf
  refine g_iald C E 4 rfl h7 dX7_yields_142 ?_
  refine lv_iconst (v := 1) hx hb dX7_yields_143 (by decide) ?_
  refine lv_iadd hx hb dX7_yields_144 ?_
  obtain ⟨h8, hf⟩ := ck_some hf
  refine g_iast (w' := (mW b cI cJ cZ mth mlo mre mpr mto mim mdi mow mit mvl mhs mns (upd mby x1.toNatClampNeg ((mby x1.toNatClampNeg) + (1 : Int32))) mng mnu mnd (upd mbg (((2 : Int32) * x1) + (mby x1.toNatClampNeg)).toNatClampNeg x2) (upd mbu (((2 : Int32) * x1) + (mby x1.toNatClampNeg)).toNatClampNeg x3) (upd mbd (((2 : Int32) * x1) + (mby x1.toNatClampNeg)).toNatClampNeg x4) mlg mly mll mld mpg mpu mpl mtd mti mwt mch)) C E 4 rfl h8 dX7_yields_145 rfl (fun H locs E => ?_)
  refine lv_iconst (v := 1) hx hb dX7_yields_146 (by decide) ?_
  obtain rfl := Option.some.inj hf
  exact g_iret C E dX7_yields_147
def f_X7_yields_J29 (mhs : Nat → Int32) (mby : Nat → Int32) (mbg : Nat → Int32) (mbu : Nat → Int32) (mbd : Nat → Int32) (x1 : Int32) (x2 : Int32) (x3 : Int32) (x4 : Int32) (t1 : Int32) : Option (Int32 × (Int32) × (Nat → Int32) × (Nat → Int32) × (Nat → Int32) × (Nat → Int32)) :=
  if 0 < t1 then
    some ((0 : Int32), t1, mby, mbg, mbu, mbd)
  else
    ck x1 12 <|
    if (mhs x1.toNatClampNeg) = 0 then
      some ((0 : Int32), t1, mby, mbg, mbu, mbd)
    else
      if x1 = x2 then
        some ((0 : Int32), t1, mby, mbg, mbu, mbd)
      else
        ck x1 12 <|
        if (mby x1.toNatClampNeg) = (2 : Int32) then
          some ((0 : Int32), t1, mby, mbg, mbu, mbd)
        else
          ck x1 12 <|
          if (mby x1.toNatClampNeg) = (1 : Int32) then
            ck ((2 : Int32) * x1) 24 <|
            if (mbg ((2 : Int32) * x1).toNatClampNeg) = x2 then
              some ((0 : Int32), t1, mby, mbg, mbu, mbd)
            else
              f_X7_yields_J87 t1 mby mbg mbu mbd x1 x2 x3 x4 
          else
            f_X7_yields_J87 t1 mby mbg mbu mbd x1 x2 x3 x4 
set_option maxHeartbeats 4000000 in
set_option maxRecDepth 100000 in
theorem w_X7_yields_J29 {p : Program} {l : Launch} {e : Env} {s : State} {m : MethodId} {args : Array Value} {below : List Frame} {meth : Method} {c : Code} {A : Nat → Prop} {D : va_G} {cI cJ cZ : ClassId} {b : Nat → Nat} {mth : Int32} {mlo : Int32} {mre : Int32} {mpr : Int32} {mto : Int32} {mim : Int64} {mdi : Int64} {mow : Int64} {mit : Int64} {mvl : Nat → Int32} {mhs : Nat → Int32} {mns : Nat → Int32} {mby : Nat → Int32} {mng : Nat → Int32} {mnu : Nat → Int32} {mnd : Nat → Int32} {mbg : Nat → Int32} {mbu : Nat → Int32} {mbd : Nat → Int32} {mlg : Nat → Int32} {mly : Nat → Int32} {mll : Nat → Int64} {mld : Nat → Int64} {mpg : Nat → Int32} {mpu : Nat → Int32} {mpl : Nat → Int64} {mtd : Int64} {mti : Int64} {mwt : Nat → Int64} {mch : Nat → Int64} (C : gC p s m args meth c cX7_yields 5 (some .int) wsX7_yields RX7 A) {x1 : Int32} {x2 : Int32} {x3 : Int32} {x4 : Int32} {o : Int32 × (Int32) × (Nat → Int32) × (Nat → Int32) × (Nat → Int32) × (Nat → Int32)} {t1 : Int32} {H : Heap} {locs : List Loc} {ls : Array Slot} (E : vE s A D (gT cI cJ cZ) (mW b cI cJ cZ mth mlo mre mpr mto mim mdi mow mit mvl mhs mns mby mng mnu mnd mbg mbu mbd mlg mly mll mld mpg mpu mpl mtd mti mwt mch) H locs) (hl : lv_has ls 5 [(0, .ref (b 0)), (1, .int x1), (2, .int x2), (3, .int x3), (4, .int x4)]) (hf : f_X7_yields_J29 mhs mby mbg mbu mbd x1 x2 x3 x4 t1 = some o) : W p l e rm_X7_yields s m args below meth c H locs 0 0 (MQ below (gQi D (gT cI cJ cZ) A (mW b cI cJ cZ o.2.1 mlo mre mpr mto mim mdi mow mit mvl mhs mns o.2.2.1 mng mnu mnd o.2.2.2.1 o.2.2.2.2.1 o.2.2.2.2.2 mlg mly mll mld mpg mpu mpl mtd mti mwt mch) o.1) args s 0 0 A) (F0 m 29 ls [.int t1, .ref (b 0)]) := by
  obtain ⟨hx, hb, hr, hml, hown, hts, hlocks, hN, hA⟩ := id C
  rw [f_X7_yields_J29] at hf
  refine g_put (w' := (mW b cI cJ cZ t1 mlo mre mpr mto mim mdi mow mit mvl mhs mns mby mng mnu mnd mbg mbu mbd mlg mly mll mld mpg mpu mpl mtd mti mwt mch)) C E 0 0 tyX7 tyX7_ok nmX7 (fun _ h => List.mem_cons_of_mem _ (List.mem_append_right _ h)) rfl rfl (by decide) (List.mem_of_getElem? (i := 1) rfl) rfl rfl rfl rfl rfl (Nat.le_of_ble_eq_true rfl) dX7_yields_29 rfl (fun H locs E => ?_)
  refine lv_aload_n hx hb dX7_yields_32 rfl (lv_at hl 0 rfl) ?_
  refine g_get C E 0 0 (fun _ h => List.mem_cons_of_mem _ (List.mem_append_right _ h)) rfl rfl (by decide) (List.mem_of_getElem? (i := 1) rfl) rfl rfl dX7_yields_33 ?_
  refine lv_if_gt (tgt := 85) hx hb dX7_yields_36 (by decide) (fun c1 => ?_) (fun c1 => ?_)
  · rw [if_pos c1] at hf
    refine lv_iconst (v := 0) hx hb dX7_yields_85 (by decide) ?_
    obtain rfl := Option.some.inj hf
    exact g_iret C E dX7_yields_86
  · rw [if_neg c1] at hf
    refine lv_aload_n hx hb dX7_yields_39 rfl (lv_at hl 0 rfl) ?_
    refine g_get C E 0 10 (fun _ h => List.mem_cons_of_mem _ (List.mem_append_right _ h)) rfl rfl (by decide) (List.mem_of_getElem? (i := 2) rfl) rfl rfl dX7_yields_40 ?_
    refine lv_iload_n hx hb dX7_yields_43 rfl (lv_at hl 1 rfl) ?_
    obtain ⟨h2, hf⟩ := ck_some hf
    refine g_zald C E 2 rfl h2 dX7_yields_44 ?_
    refine lv_if_eq (tgt := 85) hx hb dX7_yields_45 (by decide) (fun c3 => ?_) (fun c3 => ?_)
    · rw [if_pos c3] at hf
      refine lv_iconst (v := 0) hx hb dX7_yields_85 (by decide) ?_
      obtain rfl := Option.some.inj hf
      exact g_iret C E dX7_yields_86
    · rw [if_neg c3] at hf
      refine lv_iload_n hx hb dX7_yields_48 rfl (lv_at hl 1 rfl) ?_
      refine lv_iload_n hx hb dX7_yields_49 rfl (lv_at hl 2 rfl) ?_
      refine lv_icmp_eq (tgt := 85) hx hb dX7_yields_50 (by decide) (fun c4 => ?_) (fun c4 => ?_)
      · rw [if_pos c4] at hf
        refine lv_iconst (v := 0) hx hb dX7_yields_85 (by decide) ?_
        obtain rfl := Option.some.inj hf
        exact g_iret C E dX7_yields_86
      · rw [if_neg c4] at hf
        refine lv_aload_n hx hb dX7_yields_53 rfl (lv_at hl 0 rfl) ?_
        refine g_get C E 0 12 (fun _ h => List.mem_cons_of_mem _ (List.mem_append_right _ h)) rfl rfl (by decide) (List.mem_of_getElem? (i := 3) rfl) rfl rfl dX7_yields_54 ?_
        refine lv_iload_n hx hb dX7_yields_57 rfl (lv_at hl 1 rfl) ?_
        obtain ⟨h5, hf⟩ := ck_some hf
        refine g_iald C E 4 rfl h5 dX7_yields_58 ?_
        refine lv_iconst (v := 2) hx hb dX7_yields_59 (by decide) ?_
        refine lv_icmp_eq (tgt := 85) hx hb dX7_yields_60 (by decide) (fun c6 => ?_) (fun c6 => ?_)
        · rw [if_pos c6] at hf
          refine lv_iconst (v := 0) hx hb dX7_yields_85 (by decide) ?_
          obtain rfl := Option.some.inj hf
          exact g_iret C E dX7_yields_86
        · rw [if_neg c6] at hf
          refine lv_aload_n hx hb dX7_yields_63 rfl (lv_at hl 0 rfl) ?_
          refine g_get C E 0 12 (fun _ h => List.mem_cons_of_mem _ (List.mem_append_right _ h)) rfl rfl (by decide) (List.mem_of_getElem? (i := 3) rfl) rfl rfl dX7_yields_64 ?_
          refine lv_iload_n hx hb dX7_yields_67 rfl (lv_at hl 1 rfl) ?_
          obtain ⟨h7, hf⟩ := ck_some hf
          refine g_iald C E 4 rfl h7 dX7_yields_68 ?_
          refine lv_iconst (v := 1) hx hb dX7_yields_69 (by decide) ?_
          refine lv_icmp_ne (tgt := 87) hx hb dX7_yields_70 (by decide) (fun c8 => ?_) (fun c8 => ?_)
          · rw [if_neg c8] at hf
            exact w_X7_yields_J87 C  E (lv_sub hl [0, 1, 2, 3, 4] rfl) hf
          · rw [if_pos c8] at hf
            refine lv_aload_n hx hb dX7_yields_73 rfl (lv_at hl 0 rfl) ?_
            refine g_get C E 0 16 (fun _ h => List.mem_cons_of_mem _ (List.mem_append_right _ h)) rfl rfl (by decide) (List.mem_of_getElem? (i := 4) rfl) rfl rfl dX7_yields_74 ?_
            refine lv_iconst (v := 2) hx hb dX7_yields_77 (by decide) ?_
            refine lv_iload_n hx hb dX7_yields_78 rfl (lv_at hl 1 rfl) ?_
            refine lv_imul hx hb dX7_yields_79 ?_
            obtain ⟨h9, hf⟩ := ck_some hf
            refine g_iald C E 8 rfl h9 dX7_yields_80 ?_
            refine lv_iload_n hx hb dX7_yields_81 rfl (lv_at hl 2 rfl) ?_
            refine lv_icmp_ne (tgt := 87) hx hb dX7_yields_82 (by decide) (fun c10 => ?_) (fun c10 => ?_)
            · rw [if_neg c10] at hf
              exact w_X7_yields_J87 C  E (lv_sub hl [0, 1, 2, 3, 4] rfl) hf
            · rw [if_pos c10] at hf
              refine lv_iconst (v := 0) hx hb dX7_yields_85 (by decide) ?_
              obtain rfl := Option.some.inj hf
              exact g_iret C E dX7_yields_86
def f_X7_yields_J28 (mhs : Nat → Int32) (mby : Nat → Int32) (mbg : Nat → Int32) (mbu : Nat → Int32) (mbd : Nat → Int32) (x1 : Int32) (x2 : Int32) (x3 : Int32) (x4 : Int32) : Option (Int32 × (Int32) × (Nat → Int32) × (Nat → Int32) × (Nat → Int32) × (Nat → Int32)) :=
  f_X7_yields_J29 mhs mby mbg mbu mbd x1 x2 x3 x4 (1 : Int32)
set_option maxHeartbeats 4000000 in
set_option maxRecDepth 100000 in
theorem w_X7_yields_J28 {p : Program} {l : Launch} {e : Env} {s : State} {m : MethodId} {args : Array Value} {below : List Frame} {meth : Method} {c : Code} {A : Nat → Prop} {D : va_G} {cI cJ cZ : ClassId} {b : Nat → Nat} {mth : Int32} {mlo : Int32} {mre : Int32} {mpr : Int32} {mto : Int32} {mim : Int64} {mdi : Int64} {mow : Int64} {mit : Int64} {mvl : Nat → Int32} {mhs : Nat → Int32} {mns : Nat → Int32} {mby : Nat → Int32} {mng : Nat → Int32} {mnu : Nat → Int32} {mnd : Nat → Int32} {mbg : Nat → Int32} {mbu : Nat → Int32} {mbd : Nat → Int32} {mlg : Nat → Int32} {mly : Nat → Int32} {mll : Nat → Int64} {mld : Nat → Int64} {mpg : Nat → Int32} {mpu : Nat → Int32} {mpl : Nat → Int64} {mtd : Int64} {mti : Int64} {mwt : Nat → Int64} {mch : Nat → Int64} (C : gC p s m args meth c cX7_yields 5 (some .int) wsX7_yields RX7 A) {x1 : Int32} {x2 : Int32} {x3 : Int32} {x4 : Int32} {o : Int32 × (Int32) × (Nat → Int32) × (Nat → Int32) × (Nat → Int32) × (Nat → Int32)} {H : Heap} {locs : List Loc} {ls : Array Slot} (E : vE s A D (gT cI cJ cZ) (mW b cI cJ cZ mth mlo mre mpr mto mim mdi mow mit mvl mhs mns mby mng mnu mnd mbg mbu mbd mlg mly mll mld mpg mpu mpl mtd mti mwt mch) H locs) (hl : lv_has ls 5 [(0, .ref (b 0)), (1, .int x1), (2, .int x2), (3, .int x3), (4, .int x4)]) (hf : f_X7_yields_J28 mhs mby mbg mbu mbd x1 x2 x3 x4 = some o) : W p l e rm_X7_yields s m args below meth c H locs 0 0 (MQ below (gQi D (gT cI cJ cZ) A (mW b cI cJ cZ o.2.1 mlo mre mpr mto mim mdi mow mit mvl mhs mns o.2.2.1 mng mnu mnd o.2.2.2.1 o.2.2.2.2.1 o.2.2.2.2.2 mlg mly mll mld mpg mpu mpl mtd mti mwt mch) o.1) args s 0 0 A) (F0 m 28 ls [.ref (b 0)]) := by
  obtain ⟨hx, hb, hr, hml, hown, hts, hlocks, hN, hA⟩ := id C
  rw [f_X7_yields_J28] at hf
  refine lv_iconst (v := 1) hx hb dX7_yields_28 (by decide) ?_
  exact w_X7_yields_J29 C  E (lv_sub hl [0, 1, 2, 3, 4] rfl) hf
def f_X7_yields (mth : Int32) (mhs : Nat → Int32) (mby : Nat → Int32) (mbg : Nat → Int32) (mbu : Nat → Int32) (mbd : Nat → Int32) (x1 : Int32) (x2 : Int32) (x3 : Int32) (x4 : Int32) : Option (Int32 × (Int32) × (Nat → Int32) × (Nat → Int32) × (Nat → Int32) × (Nat → Int32)) :=
  (f_X7_isGood x1).bind fun o1 =>
  if o1 = 0 then
    f_X7_yields_J28 mhs mby mbg mbu mbd x1 x2 x3 x4 
  else
    (f_X7_isGood x2).bind fun o4 =>
    if o4 = 0 then
      f_X7_yields_J28 mhs mby mbg mbu mbd x1 x2 x3 x4 
    else
      (f_X7_isPart x3 x4).bind fun o7 =>
      if o7 = 0 then
        f_X7_yields_J28 mhs mby mbg mbu mbd x1 x2 x3 x4 
      else
        f_X7_yields_J29 mhs mby mbg mbu mbd x1 x2 x3 x4 (0 : Int32)
set_option maxHeartbeats 4000000 in
set_option maxRecDepth 100000 in
theorem c_X7_yields {l : Launch} {D : va_G} {cI cJ cZ : ClassId} {b : Nat → Nat} {sz : Nat} {mth : Int32} {mlo : Int32} {mre : Int32} {mpr : Int32} {mto : Int32} {mim : Int64} {mdi : Int64} {mow : Int64} {mit : Int64} {mvl : Nat → Int32} {mhs : Nat → Int32} {mns : Nat → Int32} {mby : Nat → Int32} {mng : Nat → Int32} {mnu : Nat → Int32} {mnd : Nat → Int32} {mbg : Nat → Int32} {mbu : Nat → Int32} {mbd : Nat → Int32} {mlg : Nat → Int32} {mly : Nat → Int32} {mll : Nat → Int64} {mld : Nat → Int64} {mpg : Nat → Int32} {mpu : Nat → Int32} {mpl : Nat → Int64} {mtd : Int64} {mti : Int64} {mwt : Nat → Int64} {mch : Nat → Int64} {x1 : Int32} {x2 : Int32} {x3 : Int32} {x4 : Int32} {o : Int32 × (Int32) × (Nat → Int32) × (Nat → Int32) × (Nat → Int32) × (Nat → Int32)} (hf : f_X7_yields mth mhs mby mbg mbu mbd x1 x2 x3 x4 = some o) : gMi l yX7_yields wsX7_yields rm_X7_yields D (gT cI cJ cZ) (mW b cI cJ cZ mth mlo mre mpr mto mim mdi mow mit mvl mhs mns mby mng mnu mnd mbg mbu mbd mlg mly mll mld mpg mpu mpl mtd mti mwt mch) (mW b cI cJ cZ o.2.1 mlo mre mpr mto mim mdi mow mit mvl mhs mns o.2.2.1 mng mnu mnd o.2.2.2.1 o.2.2.2.2.1 o.2.2.2.2.2 mlg mly mll mld mpg mpu mpl mtd mti mwt mch) sz [.ref (b 0), .int x1, .int x2, .int x3, .int x4] o.1 := by
  refine g_of (cc := cX7_yields) (maxL := 5) (ret := (some .int)) (by decide) rfl (Nat.le_of_ble_eq_true rfl) ?_
  intro p e s m below meth c A ls hAe C hl E
  rw [← hAe]
  obtain ⟨hx, hb, hr, hml, hown, hts, hlocks, hN, hA⟩ := id C
  have hl : lv_has ls 5 [(0, .ref (b 0)), (1, .int x1), (2, .int x2), (3, .int x3), (4, .int x4)] := hl
  have E : vE s A D (gT cI cJ cZ) (mW b cI cJ cZ mth mlo mre mpr mto mim mdi mow mit mvl mhs mns mby mng mnu mnd mbg mbu mbd mlg mly mll mld mpg mpu mpl mtd mti mwt mch) s.heap [] := E
  rw [f_X7_yields] at hf
  refine lv_aload_n hx hb dX7_yields_0 rfl (lv_at hl 0 rfl) ?_
  refine lv_iload_n hx hb dX7_yields_1 rfl (lv_at hl 1 rfl) ?_
  obtain ⟨o1, e2, hf⟩ := bd_some hf
  refine g_calli (w' := (mW b cI cJ cZ mth mlo mre mpr mto mim mdi mow mit mvl mhs mns mby mng mnu mnd mbg mbu mbd mlg mly mll mld mpg mpu mpl mtd mti mwt mch)) C E (g_runS (As := [.int x1]) (rest := [.ref (b 0)]) C E (c_X7_isGood e2) (va_cwS 1 hts gX7_yields_X7_isGood rfl rfl rfl hd_X7_isGood ⟨Nat.le_of_ble_eq_true rfl, Nat.le_of_ble_eq_true rfl⟩) rfl hl.1 rfl (Nat.le_of_ble_eq_true rfl) dX7_yields_2 ⟨Nat.le_of_ble_eq_true rfl, Nat.le_of_ble_eq_true rfl⟩) (fun H locs E => ?_)
  refine lv_if_eq (tgt := 28) hx hb dX7_yields_5 (by decide) (fun c3 => ?_) (fun c3 => ?_)
  · rw [if_pos c3] at hf
    exact w_X7_yields_J28 C  E (lv_sub hl [0, 1, 2, 3, 4] rfl) hf
  · rw [if_neg c3] at hf
    refine lv_iload_n hx hb dX7_yields_8 rfl (lv_at hl 2 rfl) ?_
    obtain ⟨o4, e5, hf⟩ := bd_some hf
    refine g_calli (w' := (mW b cI cJ cZ mth mlo mre mpr mto mim mdi mow mit mvl mhs mns mby mng mnu mnd mbg mbu mbd mlg mly mll mld mpg mpu mpl mtd mti mwt mch)) C E (g_runS (As := [.int x2]) (rest := [.ref (b 0)]) C E (c_X7_isGood e5) (va_cwS 1 hts gX7_yields_X7_isGood rfl rfl rfl hd_X7_isGood ⟨Nat.le_of_ble_eq_true rfl, Nat.le_of_ble_eq_true rfl⟩) rfl hl.1 rfl (Nat.le_of_ble_eq_true rfl) dX7_yields_9 ⟨Nat.le_of_ble_eq_true rfl, Nat.le_of_ble_eq_true rfl⟩) (fun H locs E => ?_)
    refine lv_if_eq (tgt := 28) hx hb dX7_yields_12 (by decide) (fun c6 => ?_) (fun c6 => ?_)
    · rw [if_pos c6] at hf
      exact w_X7_yields_J28 C  E (lv_sub hl [0, 1, 2, 3, 4] rfl) hf
    · rw [if_neg c6] at hf
      refine lv_iload_n hx hb dX7_yields_15 rfl (lv_at hl 3 rfl) ?_
      refine lv_iload hx hb dX7_yields_16 (lv_at hl 4 rfl) ?_
      obtain ⟨o7, e8, hf⟩ := bd_some hf
      refine g_calli (w' := (mW b cI cJ cZ mth mlo mre mpr mto mim mdi mow mit mvl mhs mns mby mng mnu mnd mbg mbu mbd mlg mly mll mld mpg mpu mpl mtd mti mwt mch)) C E (g_runS (As := [.int x3, .int x4]) (rest := [.ref (b 0)]) C E (c_X7_isPart e8) (va_cwS 2 hts gX7_yields_X7_isPart rfl rfl rfl hd_X7_isPart ⟨Nat.le_of_ble_eq_true rfl, Nat.le_of_ble_eq_true rfl⟩) rfl hl.1 rfl (Nat.le_of_ble_eq_true rfl) dX7_yields_18 ⟨Nat.le_of_ble_eq_true rfl, Nat.le_of_ble_eq_true rfl⟩) (fun H locs E => ?_)
      refine lv_if_eq (tgt := 28) hx hb dX7_yields_21 (by decide) (fun c9 => ?_) (fun c9 => ?_)
      · rw [if_pos c9] at hf
        exact w_X7_yields_J28 C  E (lv_sub hl [0, 1, 2, 3, 4] rfl) hf
      · rw [if_neg c9] at hf
        refine lv_iconst (v := 0) hx hb dX7_yields_24 (by decide) ?_
        refine lv_goto (tgt := 29) hx hb dX7_yields_25 (by decide) ?_
        exact w_X7_yields_J29 C  E (lv_sub hl [0, 1, 2, 3, 4] rfl) hf
abbrev rm_X7_stock : Room := { frames := 0, cells := 0, slots := 0, locals := 0 }
theorem hd_X7_stock : yX7_stock.cls ≠ "java/lang/invoke/MethodHandle" ∧ yX7_stock.cls ≠ "java/lang/invoke/VarHandle" ∧ (parseMethodDescriptor yX7_stock.desc).map (fun d => d.parameters.length) = some 1 := by decide +kernel
def f_X7_stock_L5 (mlo : Int32) (mlg : Nat → Int32) (mll : Nat → Int64) (x1 : Int32) : Nat → Int64 → Int32 → Option (Int64)
  | 0, _, _ => none
  | n + 1, x2, x4 =>
  if mlo ≤ x4 then
    some (x2)
  else
    ck x4 200 <|
    if (mlg x4.toNatClampNeg) = x1 then
      ck x4 200 <|
      f_X7_stock_L5 mlo mlg mll x1 n (x2 + (mll x4.toNatClampNeg)) (x4 + 1)
    else
      f_X7_stock_L5 mlo mlg mll x1 n (x2 + (0 : Int64)) (x4 + 1)
set_option maxHeartbeats 4000000 in
set_option maxRecDepth 100000 in
theorem w_X7_stock_L5 {p : Program} {l : Launch} {e : Env} {s : State} {m : MethodId} {args : Array Value} {below : List Frame} {meth : Method} {c : Code} {A : Nat → Prop} {D : va_G} {cI cJ cZ : ClassId} {b : Nat → Nat} {mth : Int32} {mlo : Int32} {mre : Int32} {mpr : Int32} {mto : Int32} {mim : Int64} {mdi : Int64} {mow : Int64} {mit : Int64} {mvl : Nat → Int32} {mhs : Nat → Int32} {mns : Nat → Int32} {mby : Nat → Int32} {mng : Nat → Int32} {mnu : Nat → Int32} {mnd : Nat → Int32} {mbg : Nat → Int32} {mbu : Nat → Int32} {mbd : Nat → Int32} {mlg : Nat → Int32} {mly : Nat → Int32} {mll : Nat → Int64} {mld : Nat → Int64} {mpg : Nat → Int32} {mpu : Nat → Int32} {mpl : Nat → Int64} {mtd : Int64} {mti : Int64} {mwt : Nat → Int64} {mch : Nat → Int64} (C : gC p s m args meth c cX7_stock 5 (some .long) wsX7_stock RX7 A) {x1 : Int32} {o : Int64} :
    ∀ (n : Nat) (x2 : Int64) (x4 : Int32) (H : Heap) (locs : List Loc) (ls : Array Slot), vE s A D (gT cI cJ cZ) (mW b cI cJ cZ mth mlo mre mpr mto mim mdi mow mit mvl mhs mns mby mng mnu mnd mbg mbu mbd mlg mly mll mld mpg mpu mpl mtd mti mwt mch) H locs → lv_has ls 5 [(0, .ref (b 0)), (1, .int x1), (2, .long x2), (4, .int x4)] → f_X7_stock_L5 mlo mlg mll x1 n x2 x4 = some o → W p l e rm_X7_stock s m args below meth c H locs 0 0 (MQ below (gQl D (gT cI cJ cZ) A (mW b cI cJ cZ mth mlo mre mpr mto mim mdi mow mit mvl mhs mns mby mng mnu mnd mbg mbu mbd mlg mly mll mld mpg mpu mpl mtd mti mwt mch) o) args s 0 0 A) (F0 m 5 ls []) := by
  obtain ⟨hx, hb, hr, hml, hown, hts, hlocks, hN, hA⟩ := id C
  intro n
  induction n with
  | zero =>
    intro x2 x4 H locs ls E hl hf
    rw [f_X7_stock_L5] at hf
    cases hf
  | succ n ih =>
    intro x2 x4 H locs ls E hl hf
    rw [f_X7_stock_L5] at hf
    refine lv_iload hx hb dX7_stock_5 (lv_at hl 3 rfl) ?_
    refine lv_aload_n hx hb dX7_stock_7 rfl (lv_at hl 0 rfl) ?_
    refine g_get C E 0 1 (fun _ h => List.mem_cons_of_mem _ (List.mem_append_right _ h)) rfl rfl (by decide) (List.mem_of_getElem? (i := 1) rfl) rfl rfl dX7_stock_8 ?_
    refine lv_icmp_ge (tgt := 45) hx hb dX7_stock_11 (by decide) (fun c1 => ?_) (fun c1 => ?_)
    · rw [if_pos c1] at hf
      refine lv_lload_n hx hb dX7_stock_45 rfl (lv_at hl 2 rfl) ?_
      obtain rfl := Option.some.inj hf
      exact g_lret C E dX7_stock_46
    · rw [if_neg c1] at hf
      refine lv_lload_n hx hb dX7_stock_14 rfl (lv_at hl 2 rfl) ?_
      refine lv_aload_n hx hb dX7_stock_15 rfl (lv_at hl 0 rfl) ?_
      refine g_get C E 0 19 (fun _ h => List.mem_cons_of_mem _ (List.mem_append_right _ h)) rfl rfl (by decide) (List.mem_of_getElem? (i := 2) rfl) rfl rfl dX7_stock_16 ?_
      refine lv_iload hx hb dX7_stock_19 (lv_at hl 3 rfl) ?_
      obtain ⟨h2, hf⟩ := ck_some hf
      refine g_iald C E 11 rfl h2 dX7_stock_21 ?_
      refine lv_iload_n hx hb dX7_stock_22 rfl (lv_at hl 1 rfl) ?_
      refine lv_icmp_ne (tgt := 36) hx hb dX7_stock_23 (by decide) (fun c3 => ?_) (fun c3 => ?_)
      · rw [if_neg c3] at hf
        refine lv_lconst (v := 0) hx hb dX7_stock_36 (by decide) ?_
        refine lv_ladd hx hb dX7_stock_37 ?_
        refine lv_lstore_n (lv' := [(2, .long (x2 + (0 : Int64))), (0, .ref (b 0)), (1, .int x1), (4, .int x4)]) hx hb dX7_stock_38 rfl hl (by decide) rfl (fun ls hl => ?_)
        refine lv_iinc (v := (x4 + 1)) (lv' := [(4, .int (x4 + 1)), (2, .long (x2 + (0 : Int64))), (0, .ref (b 0)), (1, .int x1)]) hx hb dX7_stock_39 hl (k := 3) rfl rfl (by decide) rfl (fun ls hl => ?_)
        refine lv_goto (tgt := 5) hx hb dX7_stock_42 (by decide) ?_
        exact ih (x2 + (0 : Int64)) (x4 + 1) _ _ _ E (lv_sub hl [2, 3, 1, 0] rfl) hf
      · rw [if_pos c3] at hf
        refine lv_aload_n hx hb dX7_stock_26 rfl (lv_at hl 0 rfl) ?_
        refine g_get C E 0 21 (fun _ h => List.mem_cons_of_mem _ (List.mem_append_right _ h)) rfl rfl (by decide) (List.mem_of_getElem? (i := 3) rfl) rfl rfl dX7_stock_27 ?_
        refine lv_iload hx hb dX7_stock_30 (lv_at hl 3 rfl) ?_
        obtain ⟨h4, hf⟩ := ck_some hf
        refine g_lald C E 13 rfl h4 dX7_stock_32 ?_
        refine lv_goto (tgt := 37) hx hb dX7_stock_33 (by decide) ?_
        refine lv_ladd hx hb dX7_stock_37 ?_
        refine lv_lstore_n (lv' := [(2, .long (x2 + (mll x4.toNatClampNeg))), (0, .ref (b 0)), (1, .int x1), (4, .int x4)]) hx hb dX7_stock_38 rfl hl (by decide) rfl (fun ls hl => ?_)
        refine lv_iinc (v := (x4 + 1)) (lv' := [(4, .int (x4 + 1)), (2, .long (x2 + (mll x4.toNatClampNeg))), (0, .ref (b 0)), (1, .int x1)]) hx hb dX7_stock_39 hl (k := 3) rfl rfl (by decide) rfl (fun ls hl => ?_)
        refine lv_goto (tgt := 5) hx hb dX7_stock_42 (by decide) ?_
        exact ih (x2 + (mll x4.toNatClampNeg)) (x4 + 1) _ _ _ E (lv_sub hl [2, 3, 1, 0] rfl) hf
def f_X7_stock (mlo : Int32) (mlg : Nat → Int32) (mll : Nat → Int64) (x1 : Int32) : Option (Int64) :=
  f_X7_stock_L5 mlo mlg mll x1 FU (0 : Int64) (0 : Int32)
set_option maxHeartbeats 4000000 in
set_option maxRecDepth 100000 in
theorem c_X7_stock {l : Launch} {D : va_G} {cI cJ cZ : ClassId} {b : Nat → Nat} {sz : Nat} {mth : Int32} {mlo : Int32} {mre : Int32} {mpr : Int32} {mto : Int32} {mim : Int64} {mdi : Int64} {mow : Int64} {mit : Int64} {mvl : Nat → Int32} {mhs : Nat → Int32} {mns : Nat → Int32} {mby : Nat → Int32} {mng : Nat → Int32} {mnu : Nat → Int32} {mnd : Nat → Int32} {mbg : Nat → Int32} {mbu : Nat → Int32} {mbd : Nat → Int32} {mlg : Nat → Int32} {mly : Nat → Int32} {mll : Nat → Int64} {mld : Nat → Int64} {mpg : Nat → Int32} {mpu : Nat → Int32} {mpl : Nat → Int64} {mtd : Int64} {mti : Int64} {mwt : Nat → Int64} {mch : Nat → Int64} {x1 : Int32} {o : Int64} (hf : f_X7_stock mlo mlg mll x1 = some o) : gMl l yX7_stock wsX7_stock rm_X7_stock D (gT cI cJ cZ) (mW b cI cJ cZ mth mlo mre mpr mto mim mdi mow mit mvl mhs mns mby mng mnu mnd mbg mbu mbd mlg mly mll mld mpg mpu mpl mtd mti mwt mch) (mW b cI cJ cZ mth mlo mre mpr mto mim mdi mow mit mvl mhs mns mby mng mnu mnd mbg mbu mbd mlg mly mll mld mpg mpu mpl mtd mti mwt mch) sz [.ref (b 0), .int x1] o := by
  refine g_of (cc := cX7_stock) (maxL := 5) (ret := (some .long)) (by decide) rfl (Nat.le_of_ble_eq_true rfl) ?_
  intro p e s m below meth c A ls hAe C hl E
  rw [← hAe]
  obtain ⟨hx, hb, hr, hml, hown, hts, hlocks, hN, hA⟩ := id C
  have hl : lv_has ls 5 [(0, .ref (b 0)), (1, .int x1)] := hl
  have E : vE s A D (gT cI cJ cZ) (mW b cI cJ cZ mth mlo mre mpr mto mim mdi mow mit mvl mhs mns mby mng mnu mnd mbg mbu mbd mlg mly mll mld mpg mpu mpl mtd mti mwt mch) s.heap [] := E
  rw [f_X7_stock] at hf
  refine lv_lconst (v := 0) hx hb dX7_stock_0 (by decide) ?_
  refine lv_lstore_n (lv' := [(2, .long (0 : Int64)), (0, .ref (b 0)), (1, .int x1)]) hx hb dX7_stock_1 rfl hl (by decide) rfl (fun ls hl => ?_)
  refine lv_iconst (v := 0) hx hb dX7_stock_2 (by decide) ?_
  refine lv_istore (lv' := [(4, .int (0 : Int32)), (2, .long (0 : Int64)), (0, .ref (b 0)), (1, .int x1)]) hx hb dX7_stock_3 hl (by decide) rfl (fun ls hl => ?_)
  exact w_X7_stock_L5 C  FU (0 : Int64) (0 : Int32) _ _ _ E (lv_sub hl [2, 3, 1, 0] rfl) hf
abbrev rm_X7_debtOn : Room := { frames := 0, cells := 0, slots := 0, locals := 0 }
theorem hd_X7_debtOn : yX7_debtOn.cls ≠ "java/lang/invoke/MethodHandle" ∧ yX7_debtOn.cls ≠ "java/lang/invoke/VarHandle" ∧ (parseMethodDescriptor yX7_debtOn.desc).map (fun d => d.parameters.length) = some 1 := by decide +kernel
def f_X7_debtOn_L5 (mlo : Int32) (mlg : Nat → Int32) (mld : Nat → Int64) (x1 : Int32) : Nat → Int64 → Int32 → Option (Int64)
  | 0, _, _ => none
  | n + 1, x2, x4 =>
  if mlo ≤ x4 then
    some (x2)
  else
    ck x4 200 <|
    if (mlg x4.toNatClampNeg) = x1 then
      ck x4 200 <|
      f_X7_debtOn_L5 mlo mlg mld x1 n (x2 + (mld x4.toNatClampNeg)) (x4 + 1)
    else
      f_X7_debtOn_L5 mlo mlg mld x1 n (x2 + (0 : Int64)) (x4 + 1)
set_option maxHeartbeats 4000000 in
set_option maxRecDepth 100000 in
theorem w_X7_debtOn_L5 {p : Program} {l : Launch} {e : Env} {s : State} {m : MethodId} {args : Array Value} {below : List Frame} {meth : Method} {c : Code} {A : Nat → Prop} {D : va_G} {cI cJ cZ : ClassId} {b : Nat → Nat} {mth : Int32} {mlo : Int32} {mre : Int32} {mpr : Int32} {mto : Int32} {mim : Int64} {mdi : Int64} {mow : Int64} {mit : Int64} {mvl : Nat → Int32} {mhs : Nat → Int32} {mns : Nat → Int32} {mby : Nat → Int32} {mng : Nat → Int32} {mnu : Nat → Int32} {mnd : Nat → Int32} {mbg : Nat → Int32} {mbu : Nat → Int32} {mbd : Nat → Int32} {mlg : Nat → Int32} {mly : Nat → Int32} {mll : Nat → Int64} {mld : Nat → Int64} {mpg : Nat → Int32} {mpu : Nat → Int32} {mpl : Nat → Int64} {mtd : Int64} {mti : Int64} {mwt : Nat → Int64} {mch : Nat → Int64} (C : gC p s m args meth c cX7_debtOn 5 (some .long) wsX7_debtOn RX7 A) {x1 : Int32} {o : Int64} :
    ∀ (n : Nat) (x2 : Int64) (x4 : Int32) (H : Heap) (locs : List Loc) (ls : Array Slot), vE s A D (gT cI cJ cZ) (mW b cI cJ cZ mth mlo mre mpr mto mim mdi mow mit mvl mhs mns mby mng mnu mnd mbg mbu mbd mlg mly mll mld mpg mpu mpl mtd mti mwt mch) H locs → lv_has ls 5 [(0, .ref (b 0)), (1, .int x1), (2, .long x2), (4, .int x4)] → f_X7_debtOn_L5 mlo mlg mld x1 n x2 x4 = some o → W p l e rm_X7_debtOn s m args below meth c H locs 0 0 (MQ below (gQl D (gT cI cJ cZ) A (mW b cI cJ cZ mth mlo mre mpr mto mim mdi mow mit mvl mhs mns mby mng mnu mnd mbg mbu mbd mlg mly mll mld mpg mpu mpl mtd mti mwt mch) o) args s 0 0 A) (F0 m 5 ls []) := by
  obtain ⟨hx, hb, hr, hml, hown, hts, hlocks, hN, hA⟩ := id C
  intro n
  induction n with
  | zero =>
    intro x2 x4 H locs ls E hl hf
    rw [f_X7_debtOn_L5] at hf
    cases hf
  | succ n ih =>
    intro x2 x4 H locs ls E hl hf
    rw [f_X7_debtOn_L5] at hf
    refine lv_iload hx hb dX7_debtOn_5 (lv_at hl 3 rfl) ?_
    refine lv_aload_n hx hb dX7_debtOn_7 rfl (lv_at hl 0 rfl) ?_
    refine g_get C E 0 1 (fun _ h => List.mem_cons_of_mem _ (List.mem_append_right _ h)) rfl rfl (by decide) (List.mem_of_getElem? (i := 1) rfl) rfl rfl dX7_debtOn_8 ?_
    refine lv_icmp_ge (tgt := 45) hx hb dX7_debtOn_11 (by decide) (fun c1 => ?_) (fun c1 => ?_)
    · rw [if_pos c1] at hf
      refine lv_lload_n hx hb dX7_debtOn_45 rfl (lv_at hl 2 rfl) ?_
      obtain rfl := Option.some.inj hf
      exact g_lret C E dX7_debtOn_46
    · rw [if_neg c1] at hf
      refine lv_lload_n hx hb dX7_debtOn_14 rfl (lv_at hl 2 rfl) ?_
      refine lv_aload_n hx hb dX7_debtOn_15 rfl (lv_at hl 0 rfl) ?_
      refine g_get C E 0 19 (fun _ h => List.mem_cons_of_mem _ (List.mem_append_right _ h)) rfl rfl (by decide) (List.mem_of_getElem? (i := 2) rfl) rfl rfl dX7_debtOn_16 ?_
      refine lv_iload hx hb dX7_debtOn_19 (lv_at hl 3 rfl) ?_
      obtain ⟨h2, hf⟩ := ck_some hf
      refine g_iald C E 11 rfl h2 dX7_debtOn_21 ?_
      refine lv_iload_n hx hb dX7_debtOn_22 rfl (lv_at hl 1 rfl) ?_
      refine lv_icmp_ne (tgt := 36) hx hb dX7_debtOn_23 (by decide) (fun c3 => ?_) (fun c3 => ?_)
      · rw [if_neg c3] at hf
        refine lv_lconst (v := 0) hx hb dX7_debtOn_36 (by decide) ?_
        refine lv_ladd hx hb dX7_debtOn_37 ?_
        refine lv_lstore_n (lv' := [(2, .long (x2 + (0 : Int64))), (0, .ref (b 0)), (1, .int x1), (4, .int x4)]) hx hb dX7_debtOn_38 rfl hl (by decide) rfl (fun ls hl => ?_)
        refine lv_iinc (v := (x4 + 1)) (lv' := [(4, .int (x4 + 1)), (2, .long (x2 + (0 : Int64))), (0, .ref (b 0)), (1, .int x1)]) hx hb dX7_debtOn_39 hl (k := 3) rfl rfl (by decide) rfl (fun ls hl => ?_)
        refine lv_goto (tgt := 5) hx hb dX7_debtOn_42 (by decide) ?_
        exact ih (x2 + (0 : Int64)) (x4 + 1) _ _ _ E (lv_sub hl [2, 3, 1, 0] rfl) hf
      · rw [if_pos c3] at hf
        refine lv_aload_n hx hb dX7_debtOn_26 rfl (lv_at hl 0 rfl) ?_
        refine g_get C E 0 22 (fun _ h => List.mem_cons_of_mem _ (List.mem_append_right _ h)) rfl rfl (by decide) (List.mem_of_getElem? (i := 3) rfl) rfl rfl dX7_debtOn_27 ?_
        refine lv_iload hx hb dX7_debtOn_30 (lv_at hl 3 rfl) ?_
        obtain ⟨h4, hf⟩ := ck_some hf
        refine g_lald C E 14 rfl h4 dX7_debtOn_32 ?_
        refine lv_goto (tgt := 37) hx hb dX7_debtOn_33 (by decide) ?_
        refine lv_ladd hx hb dX7_debtOn_37 ?_
        refine lv_lstore_n (lv' := [(2, .long (x2 + (mld x4.toNatClampNeg))), (0, .ref (b 0)), (1, .int x1), (4, .int x4)]) hx hb dX7_debtOn_38 rfl hl (by decide) rfl (fun ls hl => ?_)
        refine lv_iinc (v := (x4 + 1)) (lv' := [(4, .int (x4 + 1)), (2, .long (x2 + (mld x4.toNatClampNeg))), (0, .ref (b 0)), (1, .int x1)]) hx hb dX7_debtOn_39 hl (k := 3) rfl rfl (by decide) rfl (fun ls hl => ?_)
        refine lv_goto (tgt := 5) hx hb dX7_debtOn_42 (by decide) ?_
        exact ih (x2 + (mld x4.toNatClampNeg)) (x4 + 1) _ _ _ E (lv_sub hl [2, 3, 1, 0] rfl) hf
def f_X7_debtOn (mlo : Int32) (mlg : Nat → Int32) (mld : Nat → Int64) (x1 : Int32) : Option (Int64) :=
  f_X7_debtOn_L5 mlo mlg mld x1 FU (0 : Int64) (0 : Int32)
set_option maxHeartbeats 4000000 in
set_option maxRecDepth 100000 in
theorem c_X7_debtOn {l : Launch} {D : va_G} {cI cJ cZ : ClassId} {b : Nat → Nat} {sz : Nat} {mth : Int32} {mlo : Int32} {mre : Int32} {mpr : Int32} {mto : Int32} {mim : Int64} {mdi : Int64} {mow : Int64} {mit : Int64} {mvl : Nat → Int32} {mhs : Nat → Int32} {mns : Nat → Int32} {mby : Nat → Int32} {mng : Nat → Int32} {mnu : Nat → Int32} {mnd : Nat → Int32} {mbg : Nat → Int32} {mbu : Nat → Int32} {mbd : Nat → Int32} {mlg : Nat → Int32} {mly : Nat → Int32} {mll : Nat → Int64} {mld : Nat → Int64} {mpg : Nat → Int32} {mpu : Nat → Int32} {mpl : Nat → Int64} {mtd : Int64} {mti : Int64} {mwt : Nat → Int64} {mch : Nat → Int64} {x1 : Int32} {o : Int64} (hf : f_X7_debtOn mlo mlg mld x1 = some o) : gMl l yX7_debtOn wsX7_debtOn rm_X7_debtOn D (gT cI cJ cZ) (mW b cI cJ cZ mth mlo mre mpr mto mim mdi mow mit mvl mhs mns mby mng mnu mnd mbg mbu mbd mlg mly mll mld mpg mpu mpl mtd mti mwt mch) (mW b cI cJ cZ mth mlo mre mpr mto mim mdi mow mit mvl mhs mns mby mng mnu mnd mbg mbu mbd mlg mly mll mld mpg mpu mpl mtd mti mwt mch) sz [.ref (b 0), .int x1] o := by
  refine g_of (cc := cX7_debtOn) (maxL := 5) (ret := (some .long)) (by decide) rfl (Nat.le_of_ble_eq_true rfl) ?_
  intro p e s m below meth c A ls hAe C hl E
  rw [← hAe]
  obtain ⟨hx, hb, hr, hml, hown, hts, hlocks, hN, hA⟩ := id C
  have hl : lv_has ls 5 [(0, .ref (b 0)), (1, .int x1)] := hl
  have E : vE s A D (gT cI cJ cZ) (mW b cI cJ cZ mth mlo mre mpr mto mim mdi mow mit mvl mhs mns mby mng mnu mnd mbg mbu mbd mlg mly mll mld mpg mpu mpl mtd mti mwt mch) s.heap [] := E
  rw [f_X7_debtOn] at hf
  refine lv_lconst (v := 0) hx hb dX7_debtOn_0 (by decide) ?_
  refine lv_lstore_n (lv' := [(2, .long (0 : Int64)), (0, .ref (b 0)), (1, .int x1)]) hx hb dX7_debtOn_1 rfl hl (by decide) rfl (fun ls hl => ?_)
  refine lv_iconst (v := 0) hx hb dX7_debtOn_2 (by decide) ?_
  refine lv_istore (lv' := [(4, .int (0 : Int32)), (2, .long (0 : Int64)), (0, .ref (b 0)), (1, .int x1)]) hx hb dX7_debtOn_3 hl (by decide) rfl (fun ls hl => ?_)
  exact w_X7_debtOn_L5 C  FU (0 : Int64) (0 : Int32) _ _ _ E (lv_sub hl [2, 3, 1, 0] rfl) hf
abbrev rm_X7_newLot : Room := { frames := 0, cells := 0, slots := 0, locals := 0 }
theorem hd_X7_newLot : yX7_newLot.cls ≠ "java/lang/invoke/MethodHandle" ∧ yX7_newLot.cls ≠ "java/lang/invoke/VarHandle" ∧ (parseMethodDescriptor yX7_newLot.desc).map (fun d => d.parameters.length) = some 3 := by decide +kernel
def f_X7_newLot (mlo : Int32) (mto : Int32) (mlg : Nat → Int32) (mly : Nat → Int32) (mll : Nat → Int64) (mld : Nat → Int64) (x1 : Int32) (x2 : Int64) (x4 : Int64) : Option (Int32 × (Int32) × (Nat → Int32) × (Nat → Int32) × (Nat → Int64) × (Nat → Int64)) :=
  ck mlo 200 <|
  ck mlo 200 <|
  ck mlo 200 <|
  ck mlo 200 <|
  some (((mlo + (1 : Int32)) - (1 : Int32)), (mlo + (1 : Int32)), (upd mlg mlo.toNatClampNeg x1), (upd mly mlo.toNatClampNeg mto), (vp_updL mll mlo.toNatClampNeg x2), (vp_updL mld mlo.toNatClampNeg x4))
set_option maxHeartbeats 4000000 in
set_option maxRecDepth 100000 in
theorem c_X7_newLot {l : Launch} {D : va_G} {cI cJ cZ : ClassId} {b : Nat → Nat} {sz : Nat} {mth : Int32} {mlo : Int32} {mre : Int32} {mpr : Int32} {mto : Int32} {mim : Int64} {mdi : Int64} {mow : Int64} {mit : Int64} {mvl : Nat → Int32} {mhs : Nat → Int32} {mns : Nat → Int32} {mby : Nat → Int32} {mng : Nat → Int32} {mnu : Nat → Int32} {mnd : Nat → Int32} {mbg : Nat → Int32} {mbu : Nat → Int32} {mbd : Nat → Int32} {mlg : Nat → Int32} {mly : Nat → Int32} {mll : Nat → Int64} {mld : Nat → Int64} {mpg : Nat → Int32} {mpu : Nat → Int32} {mpl : Nat → Int64} {mtd : Int64} {mti : Int64} {mwt : Nat → Int64} {mch : Nat → Int64} {x1 : Int32} {x2 : Int64} {x4 : Int64} {o : Int32 × (Int32) × (Nat → Int32) × (Nat → Int32) × (Nat → Int64) × (Nat → Int64)} (hf : f_X7_newLot mlo mto mlg mly mll mld x1 x2 x4 = some o) : gMi l yX7_newLot wsX7_newLot rm_X7_newLot D (gT cI cJ cZ) (mW b cI cJ cZ mth mlo mre mpr mto mim mdi mow mit mvl mhs mns mby mng mnu mnd mbg mbu mbd mlg mly mll mld mpg mpu mpl mtd mti mwt mch) (mW b cI cJ cZ mth o.2.1 mre mpr mto mim mdi mow mit mvl mhs mns mby mng mnu mnd mbg mbu mbd o.2.2.1 o.2.2.2.1 o.2.2.2.2.1 o.2.2.2.2.2 mpg mpu mpl mtd mti mwt mch) sz [.ref (b 0), .int x1, .long x2, .long x4] o.1 := by
  refine g_of (cc := cX7_newLot) (maxL := 6) (ret := (some .int)) (by decide) rfl (Nat.le_of_ble_eq_true rfl) ?_
  intro p e s m below meth c A ls hAe C hl E
  rw [← hAe]
  obtain ⟨hx, hb, hr, hml, hown, hts, hlocks, hN, hA⟩ := id C
  have hl : lv_has ls 6 [(0, .ref (b 0)), (1, .int x1), (2, .long x2), (4, .long x4)] := hl
  have E : vE s A D (gT cI cJ cZ) (mW b cI cJ cZ mth mlo mre mpr mto mim mdi mow mit mvl mhs mns mby mng mnu mnd mbg mbu mbd mlg mly mll mld mpg mpu mpl mtd mti mwt mch) s.heap [] := E
  rw [f_X7_newLot] at hf
  refine lv_aload_n hx hb dX7_newLot_0 rfl (lv_at hl 0 rfl) ?_
  refine g_get C E 0 19 (fun _ h => List.mem_cons_of_mem _ (List.mem_append_right _ h)) rfl rfl (by decide) (List.mem_of_getElem? (i := 1) rfl) rfl rfl dX7_newLot_1 ?_
  refine lv_aload_n hx hb dX7_newLot_4 rfl (lv_at hl 0 rfl) ?_
  refine g_get C E 0 1 (fun _ h => List.mem_cons_of_mem _ (List.mem_append_right _ h)) rfl rfl (by decide) (List.mem_of_getElem? (i := 2) rfl) rfl rfl dX7_newLot_5 ?_
  refine lv_iload_n hx hb dX7_newLot_8 rfl (lv_at hl 1 rfl) ?_
  obtain ⟨h1, hf⟩ := ck_some hf
  refine g_iast (w' := (mW b cI cJ cZ mth mlo mre mpr mto mim mdi mow mit mvl mhs mns mby mng mnu mnd mbg mbu mbd (upd mlg mlo.toNatClampNeg x1) mly mll mld mpg mpu mpl mtd mti mwt mch)) C E 11 rfl h1 dX7_newLot_9 rfl (fun H locs E => ?_)
  refine lv_aload_n hx hb dX7_newLot_10 rfl (lv_at hl 0 rfl) ?_
  refine g_get C E 0 20 (fun _ h => List.mem_cons_of_mem _ (List.mem_append_right _ h)) rfl rfl (by decide) (List.mem_of_getElem? (i := 3) rfl) rfl rfl dX7_newLot_11 ?_
  refine lv_aload_n hx hb dX7_newLot_14 rfl (lv_at hl 0 rfl) ?_
  refine g_get C E 0 1 (fun _ h => List.mem_cons_of_mem _ (List.mem_append_right _ h)) rfl rfl (by decide) (List.mem_of_getElem? (i := 2) rfl) rfl rfl dX7_newLot_15 ?_
  refine lv_aload_n hx hb dX7_newLot_18 rfl (lv_at hl 0 rfl) ?_
  refine g_get C E 0 4 (fun _ h => List.mem_cons_of_mem _ (List.mem_append_right _ h)) rfl rfl (by decide) (List.mem_of_getElem? (i := 4) rfl) rfl rfl dX7_newLot_19 ?_
  obtain ⟨h2, hf⟩ := ck_some hf
  refine g_iast (w' := (mW b cI cJ cZ mth mlo mre mpr mto mim mdi mow mit mvl mhs mns mby mng mnu mnd mbg mbu mbd (upd mlg mlo.toNatClampNeg x1) (upd mly mlo.toNatClampNeg mto) mll mld mpg mpu mpl mtd mti mwt mch)) C E 12 rfl h2 dX7_newLot_22 rfl (fun H locs E => ?_)
  refine lv_aload_n hx hb dX7_newLot_23 rfl (lv_at hl 0 rfl) ?_
  refine g_get C E 0 21 (fun _ h => List.mem_cons_of_mem _ (List.mem_append_right _ h)) rfl rfl (by decide) (List.mem_of_getElem? (i := 5) rfl) rfl rfl dX7_newLot_24 ?_
  refine lv_aload_n hx hb dX7_newLot_27 rfl (lv_at hl 0 rfl) ?_
  refine g_get C E 0 1 (fun _ h => List.mem_cons_of_mem _ (List.mem_append_right _ h)) rfl rfl (by decide) (List.mem_of_getElem? (i := 2) rfl) rfl rfl dX7_newLot_28 ?_
  refine lv_lload_n hx hb dX7_newLot_31 rfl (lv_at hl 2 rfl) ?_
  obtain ⟨h3, hf⟩ := ck_some hf
  refine g_last (w' := (mW b cI cJ cZ mth mlo mre mpr mto mim mdi mow mit mvl mhs mns mby mng mnu mnd mbg mbu mbd (upd mlg mlo.toNatClampNeg x1) (upd mly mlo.toNatClampNeg mto) (vp_updL mll mlo.toNatClampNeg x2) mld mpg mpu mpl mtd mti mwt mch)) C E 13 rfl h3 dX7_newLot_32 rfl (fun H locs E => ?_)
  refine lv_aload_n hx hb dX7_newLot_33 rfl (lv_at hl 0 rfl) ?_
  refine g_get C E 0 22 (fun _ h => List.mem_cons_of_mem _ (List.mem_append_right _ h)) rfl rfl (by decide) (List.mem_of_getElem? (i := 6) rfl) rfl rfl dX7_newLot_34 ?_
  refine lv_aload_n hx hb dX7_newLot_37 rfl (lv_at hl 0 rfl) ?_
  refine g_get C E 0 1 (fun _ h => List.mem_cons_of_mem _ (List.mem_append_right _ h)) rfl rfl (by decide) (List.mem_of_getElem? (i := 2) rfl) rfl rfl dX7_newLot_38 ?_
  refine lv_lload hx hb dX7_newLot_41 (lv_at hl 3 rfl) ?_
  obtain ⟨h4, hf⟩ := ck_some hf
  refine g_last (w' := (mW b cI cJ cZ mth mlo mre mpr mto mim mdi mow mit mvl mhs mns mby mng mnu mnd mbg mbu mbd (upd mlg mlo.toNatClampNeg x1) (upd mly mlo.toNatClampNeg mto) (vp_updL mll mlo.toNatClampNeg x2) (vp_updL mld mlo.toNatClampNeg x4) mpg mpu mpl mtd mti mwt mch)) C E 14 rfl h4 dX7_newLot_43 rfl (fun H locs E => ?_)
  refine lv_aload_n hx hb dX7_newLot_44 rfl (lv_at hl 0 rfl) ?_
  refine lv_dup hx hb dX7_newLot_45 rfl ?_
  refine g_get C E 0 1 (fun _ h => List.mem_cons_of_mem _ (List.mem_append_right _ h)) rfl rfl (by decide) (List.mem_of_getElem? (i := 2) rfl) rfl rfl dX7_newLot_46 ?_
  refine lv_iconst (v := 1) hx hb dX7_newLot_49 (by decide) ?_
  refine lv_iadd hx hb dX7_newLot_50 ?_
  refine g_put (w' := (mW b cI cJ cZ mth (mlo + (1 : Int32)) mre mpr mto mim mdi mow mit mvl mhs mns mby mng mnu mnd mbg mbu mbd (upd mlg mlo.toNatClampNeg x1) (upd mly mlo.toNatClampNeg mto) (vp_updL mll mlo.toNatClampNeg x2) (vp_updL mld mlo.toNatClampNeg x4) mpg mpu mpl mtd mti mwt mch)) C E 0 1 tyX7 tyX7_ok nmX7 (fun _ h => List.mem_cons_of_mem _ (List.mem_append_right _ h)) rfl rfl (by decide) (List.mem_of_getElem? (i := 2) rfl) rfl rfl rfl rfl rfl (Nat.le_of_ble_eq_true rfl) dX7_newLot_51 rfl (fun H locs E => ?_)
  refine lv_aload_n hx hb dX7_newLot_54 rfl (lv_at hl 0 rfl) ?_
  refine g_get C E 0 1 (fun _ h => List.mem_cons_of_mem _ (List.mem_append_right _ h)) rfl rfl (by decide) (List.mem_of_getElem? (i := 2) rfl) rfl rfl dX7_newLot_55 ?_
  refine lv_iconst (v := 1) hx hb dX7_newLot_58 (by decide) ?_
  refine lv_isub hx hb dX7_newLot_59 ?_
  obtain rfl := Option.some.inj hf
  exact g_iret C E dX7_newLot_60
abbrev rm_X7_takeOf : Room := { frames := 0, cells := 0, slots := 0, locals := 0 }
theorem hd_X7_takeOf : yX7_takeOf.cls ≠ "java/lang/invoke/MethodHandle" ∧ yX7_takeOf.cls ≠ "java/lang/invoke/VarHandle" ∧ (parseMethodDescriptor yX7_takeOf.desc).map (fun d => d.parameters.length) = some 2 := by decide +kernel
def f_X7_takeOf_J35 (mll : Nat → Int64) (mld : Nat → Int64) (x1 : Int32) (x2 : Int64) (t0 : Int64) : Option (Int64 × (Nat → Int64) × (Nat → Int64)) :=
  ck x1 200 <|
  ck x1 200 <|
  ck x1 200 <|
  ck x1 200 <|
  some (t0, (vp_updL mll x1.toNatClampNeg ((mll x1.toNatClampNeg) - x2)), (vp_updL mld x1.toNatClampNeg ((mld x1.toNatClampNeg) - t0)))
set_option maxHeartbeats 4000000 in
set_option maxRecDepth 100000 in
theorem w_X7_takeOf_J35 {p : Program} {l : Launch} {e : Env} {s : State} {m : MethodId} {args : Array Value} {below : List Frame} {meth : Method} {c : Code} {A : Nat → Prop} {D : va_G} {cI cJ cZ : ClassId} {b : Nat → Nat} {mth : Int32} {mlo : Int32} {mre : Int32} {mpr : Int32} {mto : Int32} {mim : Int64} {mdi : Int64} {mow : Int64} {mit : Int64} {mvl : Nat → Int32} {mhs : Nat → Int32} {mns : Nat → Int32} {mby : Nat → Int32} {mng : Nat → Int32} {mnu : Nat → Int32} {mnd : Nat → Int32} {mbg : Nat → Int32} {mbu : Nat → Int32} {mbd : Nat → Int32} {mlg : Nat → Int32} {mly : Nat → Int32} {mll : Nat → Int64} {mld : Nat → Int64} {mpg : Nat → Int32} {mpu : Nat → Int32} {mpl : Nat → Int64} {mtd : Int64} {mti : Int64} {mwt : Nat → Int64} {mch : Nat → Int64} (C : gC p s m args meth c cX7_takeOf 6 (some .long) wsX7_takeOf RX7 A) {x1 : Int32} {x2 : Int64} {o : Int64 × (Nat → Int64) × (Nat → Int64)} {t0 : Int64} {H : Heap} {locs : List Loc} {ls : Array Slot} (E : vE s A D (gT cI cJ cZ) (mW b cI cJ cZ mth mlo mre mpr mto mim mdi mow mit mvl mhs mns mby mng mnu mnd mbg mbu mbd mlg mly mll mld mpg mpu mpl mtd mti mwt mch) H locs) (hl : lv_has ls 6 [(0, .ref (b 0)), (1, .int x1), (2, .long x2)]) (hf : f_X7_takeOf_J35 mll mld x1 x2 t0 = some o) : W p l e rm_X7_takeOf s m args below meth c H locs 0 0 (MQ below (gQl D (gT cI cJ cZ) A (mW b cI cJ cZ mth mlo mre mpr mto mim mdi mow mit mvl mhs mns mby mng mnu mnd mbg mbu mbd mlg mly o.2.1 o.2.2 mpg mpu mpl mtd mti mwt mch) o.1) args s 0 0 A) (F0 m 35 ls [.long t0]) := by
  obtain ⟨hx, hb, hr, hml, hown, hts, hlocks, hN, hA⟩ := id C
  rw [f_X7_takeOf_J35] at hf
  refine lv_lstore (lv' := [(4, .long t0), (0, .ref (b 0)), (1, .int x1), (2, .long x2)]) hx hb dX7_takeOf_35 hl (by decide) rfl (fun ls hl => ?_)
  refine lv_aload_n hx hb dX7_takeOf_37 rfl (lv_at hl 1 rfl) ?_
  refine g_get C E 0 21 (fun _ h => List.mem_cons_of_mem _ (List.mem_append_right _ h)) rfl rfl (by decide) (List.mem_of_getElem? (i := 1) rfl) rfl rfl dX7_takeOf_38 ?_
  refine lv_iload_n hx hb dX7_takeOf_41 rfl (lv_at hl 2 rfl) ?_
  refine lv_dup2_11 hx hb dX7_takeOf_42 rfl rfl ?_
  obtain ⟨h1, hf⟩ := ck_some hf
  refine g_lald C E 13 rfl h1 dX7_takeOf_43 ?_
  refine lv_lload_n hx hb dX7_takeOf_44 rfl (lv_at hl 3 rfl) ?_
  refine lv_lsub hx hb dX7_takeOf_45 ?_
  obtain ⟨h2, hf⟩ := ck_some hf
  refine g_last (w' := (mW b cI cJ cZ mth mlo mre mpr mto mim mdi mow mit mvl mhs mns mby mng mnu mnd mbg mbu mbd mlg mly (vp_updL mll x1.toNatClampNeg ((mll x1.toNatClampNeg) - x2)) mld mpg mpu mpl mtd mti mwt mch)) C E 13 rfl h2 dX7_takeOf_46 rfl (fun H locs E => ?_)
  refine lv_aload_n hx hb dX7_takeOf_47 rfl (lv_at hl 1 rfl) ?_
  refine g_get C E 0 22 (fun _ h => List.mem_cons_of_mem _ (List.mem_append_right _ h)) rfl rfl (by decide) (List.mem_of_getElem? (i := 2) rfl) rfl rfl dX7_takeOf_48 ?_
  refine lv_iload_n hx hb dX7_takeOf_51 rfl (lv_at hl 2 rfl) ?_
  refine lv_dup2_11 hx hb dX7_takeOf_52 rfl rfl ?_
  obtain ⟨h3, hf⟩ := ck_some hf
  refine g_lald C E 14 rfl h3 dX7_takeOf_53 ?_
  refine lv_lload hx hb dX7_takeOf_54 (lv_at hl 0 rfl) ?_
  refine lv_lsub hx hb dX7_takeOf_56 ?_
  obtain ⟨h4, hf⟩ := ck_some hf
  refine g_last (w' := (mW b cI cJ cZ mth mlo mre mpr mto mim mdi mow mit mvl mhs mns mby mng mnu mnd mbg mbu mbd mlg mly (vp_updL mll x1.toNatClampNeg ((mll x1.toNatClampNeg) - x2)) (vp_updL mld x1.toNatClampNeg ((mld x1.toNatClampNeg) - t0)) mpg mpu mpl mtd mti mwt mch)) C E 14 rfl h4 dX7_takeOf_57 rfl (fun H locs E => ?_)
  refine lv_lload hx hb dX7_takeOf_58 (lv_at hl 0 rfl) ?_
  obtain rfl := Option.some.inj hf
  exact g_lret C E dX7_takeOf_60
def f_X7_takeOf (mll : Nat → Int64) (mld : Nat → Int64) (x1 : Int32) (x2 : Int64) : Option (Int64 × (Nat → Int64) × (Nat → Int64)) :=
  ck x1 200 <|
  if (lg_cmp x2 (mll x1.toNatClampNeg)) = 0 then
    ck x1 200 <|
    f_X7_takeOf_J35 mll mld x1 x2 (mld x1.toNatClampNeg)
  else
    ck x1 200 <|
    ck x1 200 <|
    nzL (mll x1.toNatClampNeg) <|
    f_X7_takeOf_J35 mll mld x1 x2 (((mld x1.toNatClampNeg) * x2) / (mll x1.toNatClampNeg))
set_option maxHeartbeats 4000000 in
set_option maxRecDepth 100000 in
theorem c_X7_takeOf {l : Launch} {D : va_G} {cI cJ cZ : ClassId} {b : Nat → Nat} {sz : Nat} {mth : Int32} {mlo : Int32} {mre : Int32} {mpr : Int32} {mto : Int32} {mim : Int64} {mdi : Int64} {mow : Int64} {mit : Int64} {mvl : Nat → Int32} {mhs : Nat → Int32} {mns : Nat → Int32} {mby : Nat → Int32} {mng : Nat → Int32} {mnu : Nat → Int32} {mnd : Nat → Int32} {mbg : Nat → Int32} {mbu : Nat → Int32} {mbd : Nat → Int32} {mlg : Nat → Int32} {mly : Nat → Int32} {mll : Nat → Int64} {mld : Nat → Int64} {mpg : Nat → Int32} {mpu : Nat → Int32} {mpl : Nat → Int64} {mtd : Int64} {mti : Int64} {mwt : Nat → Int64} {mch : Nat → Int64} {x1 : Int32} {x2 : Int64} {o : Int64 × (Nat → Int64) × (Nat → Int64)} (hf : f_X7_takeOf mll mld x1 x2 = some o) : gMl l yX7_takeOf wsX7_takeOf rm_X7_takeOf D (gT cI cJ cZ) (mW b cI cJ cZ mth mlo mre mpr mto mim mdi mow mit mvl mhs mns mby mng mnu mnd mbg mbu mbd mlg mly mll mld mpg mpu mpl mtd mti mwt mch) (mW b cI cJ cZ mth mlo mre mpr mto mim mdi mow mit mvl mhs mns mby mng mnu mnd mbg mbu mbd mlg mly o.2.1 o.2.2 mpg mpu mpl mtd mti mwt mch) sz [.ref (b 0), .int x1, .long x2] o.1 := by
  refine g_of (cc := cX7_takeOf) (maxL := 6) (ret := (some .long)) (by decide) rfl (Nat.le_of_ble_eq_true rfl) ?_
  intro p e s m below meth c A ls hAe C hl E
  rw [← hAe]
  obtain ⟨hx, hb, hr, hml, hown, hts, hlocks, hN, hA⟩ := id C
  have hl : lv_has ls 6 [(0, .ref (b 0)), (1, .int x1), (2, .long x2)] := hl
  have E : vE s A D (gT cI cJ cZ) (mW b cI cJ cZ mth mlo mre mpr mto mim mdi mow mit mvl mhs mns mby mng mnu mnd mbg mbu mbd mlg mly mll mld mpg mpu mpl mtd mti mwt mch) s.heap [] := E
  rw [f_X7_takeOf] at hf
  refine lv_lload_n hx hb dX7_takeOf_0 rfl (lv_at hl 2 rfl) ?_
  refine lv_aload_n hx hb dX7_takeOf_1 rfl (lv_at hl 0 rfl) ?_
  refine g_get C E 0 21 (fun _ h => List.mem_cons_of_mem _ (List.mem_append_right _ h)) rfl rfl (by decide) (List.mem_of_getElem? (i := 1) rfl) rfl rfl dX7_takeOf_2 ?_
  refine lv_iload_n hx hb dX7_takeOf_5 rfl (lv_at hl 1 rfl) ?_
  obtain ⟨h1, hf⟩ := ck_some hf
  refine g_lald C E 13 rfl h1 dX7_takeOf_6 ?_
  refine W.lcmp hx hb dX7_takeOf_7 ?_
  refine lv_if_ne (tgt := 20) hx hb dX7_takeOf_8 (by decide) (fun c2 => ?_) (fun c2 => ?_)
  · rw [if_neg c2] at hf
    refine lv_aload_n hx hb dX7_takeOf_20 rfl (lv_at hl 0 rfl) ?_
    refine g_get C E 0 22 (fun _ h => List.mem_cons_of_mem _ (List.mem_append_right _ h)) rfl rfl (by decide) (List.mem_of_getElem? (i := 2) rfl) rfl rfl dX7_takeOf_21 ?_
    refine lv_iload_n hx hb dX7_takeOf_24 rfl (lv_at hl 1 rfl) ?_
    obtain ⟨h3, hf⟩ := ck_some hf
    refine g_lald C E 14 rfl h3 dX7_takeOf_25 ?_
    refine lv_lload_n hx hb dX7_takeOf_26 rfl (lv_at hl 2 rfl) ?_
    refine lv_lmul hx hb dX7_takeOf_27 ?_
    refine lv_aload_n hx hb dX7_takeOf_28 rfl (lv_at hl 0 rfl) ?_
    refine g_get C E 0 21 (fun _ h => List.mem_cons_of_mem _ (List.mem_append_right _ h)) rfl rfl (by decide) (List.mem_of_getElem? (i := 1) rfl) rfl rfl dX7_takeOf_29 ?_
    refine lv_iload_n hx hb dX7_takeOf_32 rfl (lv_at hl 1 rfl) ?_
    obtain ⟨h4, hf⟩ := ck_some hf
    refine g_lald C E 13 rfl h4 dX7_takeOf_33 ?_
    obtain ⟨h5, hf⟩ := nzL_some hf
    refine lv_ldiv hx hb dX7_takeOf_34 h5 ?_
    exact w_X7_takeOf_J35 C  E (lv_sub hl [0, 1, 2] rfl) hf
  · rw [if_pos c2] at hf
    refine lv_aload_n hx hb dX7_takeOf_11 rfl (lv_at hl 0 rfl) ?_
    refine g_get C E 0 22 (fun _ h => List.mem_cons_of_mem _ (List.mem_append_right _ h)) rfl rfl (by decide) (List.mem_of_getElem? (i := 2) rfl) rfl rfl dX7_takeOf_12 ?_
    refine lv_iload_n hx hb dX7_takeOf_15 rfl (lv_at hl 1 rfl) ?_
    obtain ⟨h6, hf⟩ := ck_some hf
    refine g_lald C E 14 rfl h6 dX7_takeOf_16 ?_
    refine lv_goto (tgt := 35) hx hb dX7_takeOf_17 (by decide) ?_
    exact w_X7_takeOf_J35 C  E (lv_sub hl [0, 1, 2] rfl) hf
abbrev rm_X7_take : Room := { frames := 1, cells := 0, slots := 0, locals := 25 }
theorem hd_X7_take : yX7_take.cls ≠ "java/lang/invoke/MethodHandle" ∧ yX7_take.cls ≠ "java/lang/invoke/VarHandle" ∧ (parseMethodDescriptor yX7_take.desc).map (fun d => d.parameters.length) = some 2 := by decide +kernel
def f_X7_take_J83 (mto : Int32) (mly : Nat → Int32) (mll : Nat → Int64) (mld : Nat → Int64) (mtd : Int64) (mti : Int64) (x4 : Int64) (x6 : Int32) (k16 : (Nat → Int64) → (Nat → Int64) → (Int64) → (Int64) → Int64 → Int32 → Option ((Nat → Int64) × (Nat → Int64) × (Int64) × (Int64))) (t0 : Int64) : Option ((Nat → Int64) × (Nat → Int64) × (Int64) × (Int64)) :=
  (f_X7_takeOf mll mld x6 t0).bind fun o1 =>
  ck x6 200 <|
  (f_X7_up ((mto - (mly x6.toNatClampNeg)).toInt64) (30 : Int64)).bind fun o4 =>
  k16 o1.2.1 o1.2.2 (mtd + o1.1) (mti + ((o1.1 * o4) / (100 : Int64))) (x4 - t0) (x6 + 1)
set_option maxHeartbeats 4000000 in
set_option maxRecDepth 100000 in
theorem w_X7_take_J83 {p : Program} {l : Launch} {e : Env} {s : State} {m : MethodId} {args : Array Value} {below : List Frame} {meth : Method} {c : Code} {A : Nat → Prop} {D : va_G} {cI cJ cZ : ClassId} {b : Nat → Nat} {mth : Int32} {mlo : Int32} {mre : Int32} {mpr : Int32} {mto : Int32} {mim : Int64} {mdi : Int64} {mow : Int64} {mit : Int64} {mvl : Nat → Int32} {mhs : Nat → Int32} {mns : Nat → Int32} {mby : Nat → Int32} {mng : Nat → Int32} {mnu : Nat → Int32} {mnd : Nat → Int32} {mbg : Nat → Int32} {mbu : Nat → Int32} {mbd : Nat → Int32} {mlg : Nat → Int32} {mly : Nat → Int32} {mll : Nat → Int64} {mld : Nat → Int64} {mpg : Nat → Int32} {mpu : Nat → Int32} {mpl : Nat → Int64} {mtd : Int64} {mti : Int64} {mwt : Nat → Int64} {mch : Nat → Int64} (C : gC p s m args meth c cX7_take 11 none wsX7_take RX7 A) {x1 : Int32} {x4 : Int64} {x6 : Int32} {o : (Nat → Int64) × (Nat → Int64) × (Int64) × (Int64)} {k16 : (Nat → Int64) → (Nat → Int64) → (Int64) → (Int64) → Int64 → Int32 → Option ((Nat → Int64) × (Nat → Int64) × (Int64) × (Int64))} (hk16 : ∀ (mll : Nat → Int64) (mld : Nat → Int64) (mtd : Int64) (mti : Int64) (x4 : Int64) (x6 : Int32) (H : Heap) (locs : List Loc) (ls : Array Slot), vE s A D (gT cI cJ cZ) (mW b cI cJ cZ mth mlo mre mpr mto mim mdi mow mit mvl mhs mns mby mng mnu mnd mbg mbu mbd mlg mly mll mld mpg mpu mpl mtd mti mwt mch) H locs → lv_has ls 11 [(0, .ref (b 0)), (1, .int x1), (4, .long x4), (6, .int x6)] → k16 mll mld mtd mti x4 x6 = some o → W p l e rm_X7_take s m args below meth c H locs 0 0 (MQ below (gQv D (gT cI cJ cZ) A (mW b cI cJ cZ mth mlo mre mpr mto mim mdi mow mit mvl mhs mns mby mng mnu mnd mbg mbu mbd mlg mly o.1 o.2.1 mpg mpu mpl o.2.2.1 o.2.2.2 mwt mch)) args s 0 0 A) (F0 m 16 ls [])) {t0 : Int64} {H : Heap} {locs : List Loc} {ls : Array Slot} (E : vE s A D (gT cI cJ cZ) (mW b cI cJ cZ mth mlo mre mpr mto mim mdi mow mit mvl mhs mns mby mng mnu mnd mbg mbu mbd mlg mly mll mld mpg mpu mpl mtd mti mwt mch) H locs) (hl : lv_has ls 11 [(0, .ref (b 0)), (1, .int x1), (4, .long x4), (6, .int x6)]) (hf : f_X7_take_J83 mto mly mll mld mtd mti x4 x6 k16 t0 = some o) : W p l e rm_X7_take s m args below meth c H locs 0 0 (MQ below (gQv D (gT cI cJ cZ) A (mW b cI cJ cZ mth mlo mre mpr mto mim mdi mow mit mvl mhs mns mby mng mnu mnd mbg mbu mbd mlg mly o.1 o.2.1 mpg mpu mpl o.2.2.1 o.2.2.2 mwt mch)) args s 0 0 A) (F0 m 83 ls [.long t0]) := by
  obtain ⟨hx, hb, hr, hml, hown, hts, hlocks, hN, hA⟩ := id C
  rw [f_X7_take_J83] at hf
  refine lv_lstore (lv' := [(7, .long t0), (0, .ref (b 0)), (1, .int x1), (4, .long x4), (6, .int x6)]) hx hb dX7_take_83 hl (by decide) rfl (fun ls hl => ?_)
  refine lv_aload_n hx hb dX7_take_85 rfl (lv_at hl 1 rfl) ?_
  refine lv_iload hx hb dX7_take_86 (lv_at hl 4 rfl) ?_
  refine lv_lload hx hb dX7_take_88 (lv_at hl 0 rfl) ?_
  obtain ⟨o1, e2, hf⟩ := bd_some hf
  refine g_calll (w' := (mW b cI cJ cZ mth mlo mre mpr mto mim mdi mow mit mvl mhs mns mby mng mnu mnd mbg mbu mbd mlg mly o1.2.1 o1.2.2 mpg mpu mpl mtd mti mwt mch)) C E (g_runV (As := [.int x6, .long t0]) (rest := []) C E (c_X7_takeOf e2) (cwV 2 hts gX7_take_X7_takeOf rfl rfl rfl ⟨rfl, hd_X7_takeOf⟩ ⟨Nat.le_of_ble_eq_true rfl, Nat.le_of_ble_eq_true rfl⟩) (q0 := 0) (ci := 7) rfl rfl rfl rfl hl.1 rfl (Nat.le_of_ble_eq_true rfl) dX7_take_90 ⟨Nat.le_of_ble_eq_true rfl, Nat.le_of_ble_eq_true rfl⟩) (fun H locs E => ?_)
  refine lv_lstore (lv' := [(9, .long o1.1), (7, .long t0), (0, .ref (b 0)), (1, .int x1), (4, .long x4), (6, .int x6)]) hx hb dX7_take_93 hl (by decide) rfl (fun ls hl => ?_)
  refine lv_aload_n hx hb dX7_take_95 rfl (lv_at hl 2 rfl) ?_
  refine lv_dup hx hb dX7_take_96 rfl ?_
  refine g_get C E 0 26 (fun _ h => List.mem_cons_of_mem _ (List.mem_append_right _ h)) rfl rfl (by decide) (List.mem_of_getElem? (i := 1) rfl) rfl rfl dX7_take_97 ?_
  refine lv_lload hx hb dX7_take_100 (lv_at hl 0 rfl) ?_
  refine lv_ladd hx hb dX7_take_102 ?_
  refine g_put (w' := (mW b cI cJ cZ mth mlo mre mpr mto mim mdi mow mit mvl mhs mns mby mng mnu mnd mbg mbu mbd mlg mly o1.2.1 o1.2.2 mpg mpu mpl (mtd + o1.1) mti mwt mch)) C E 0 26 tyX7 tyX7_ok nmX7 (fun _ h => List.mem_cons_of_mem _ (List.mem_append_right _ h)) rfl rfl (by decide) (List.mem_of_getElem? (i := 1) rfl) rfl rfl rfl rfl rfl (Nat.le_of_ble_eq_true rfl) dX7_take_103 rfl (fun H locs E => ?_)
  refine lv_aload_n hx hb dX7_take_106 rfl (lv_at hl 2 rfl) ?_
  refine lv_dup hx hb dX7_take_107 rfl ?_
  refine g_get C E 0 27 (fun _ h => List.mem_cons_of_mem _ (List.mem_append_right _ h)) rfl rfl (by decide) (List.mem_of_getElem? (i := 2) rfl) rfl rfl dX7_take_108 ?_
  refine lv_lload hx hb dX7_take_111 (lv_at hl 0 rfl) ?_
  refine lv_aload_n hx hb dX7_take_113 rfl (lv_at hl 2 rfl) ?_
  refine g_get C E 0 4 (fun _ h => List.mem_cons_of_mem _ (List.mem_append_right _ h)) rfl rfl (by decide) (List.mem_of_getElem? (i := 6) rfl) rfl rfl dX7_take_114 ?_
  refine lv_aload_n hx hb dX7_take_117 rfl (lv_at hl 2 rfl) ?_
  refine g_get C E 0 20 (fun _ h => List.mem_cons_of_mem _ (List.mem_append_right _ h)) rfl rfl (by decide) (List.mem_of_getElem? (i := 7) rfl) rfl rfl dX7_take_118 ?_
  refine lv_iload hx hb dX7_take_121 (lv_at hl 5 rfl) ?_
  obtain ⟨h3, hf⟩ := ck_some hf
  refine g_iald C E 12 rfl h3 dX7_take_123 ?_
  refine lv_isub hx hb dX7_take_124 ?_
  refine lv_i2l hx hb dX7_take_125 rfl ?_
  refine lv_ldc2 (v := 30) hx hb hown (hts (.constantLong RX7 121 (30)) (List.mem_of_getElem? (i := 8) rfl)) dX7_take_126 ?_
  obtain ⟨o4, e5, hf⟩ := bd_some hf
  refine g_calll (w' := (mW b cI cJ cZ mth mlo mre mpr mto mim mdi mow mit mvl mhs mns mby mng mnu mnd mbg mbu mbd mlg mly o1.2.1 o1.2.2 mpg mpu mpl (mtd + o1.1) mti mwt mch)) C E (g_runS (As := [.long ((mto - (mly x6.toNatClampNeg)).toInt64), .long (30 : Int64)]) (rest := [.long o1.1, .long mti, .ref (b 0)]) C E (c_X7_up e5) (va_cwS 2 hts gX7_take_X7_up rfl rfl rfl hd_X7_up ⟨Nat.le_of_ble_eq_true rfl, Nat.le_of_ble_eq_true rfl⟩) rfl hl.1 rfl (Nat.le_of_ble_eq_true rfl) dX7_take_129 ⟨Nat.le_of_ble_eq_true rfl, Nat.le_of_ble_eq_true rfl⟩) (fun H locs E => ?_)
  refine lv_lmul hx hb dX7_take_132 ?_
  refine lv_ldc2 (v := 100) hx hb hown (hts (.constantLong RX7 127 (100)) (List.mem_of_getElem? (i := 9) rfl)) dX7_take_133 ?_
  refine lv_ldiv hx hb dX7_take_136 (by decide) ?_
  refine lv_ladd hx hb dX7_take_137 ?_
  refine g_put (w' := (mW b cI cJ cZ mth mlo mre mpr mto mim mdi mow mit mvl mhs mns mby mng mnu mnd mbg mbu mbd mlg mly o1.2.1 o1.2.2 mpg mpu mpl (mtd + o1.1) (mti + ((o1.1 * o4) / (100 : Int64))) mwt mch)) C E 0 27 tyX7 tyX7_ok nmX7 (fun _ h => List.mem_cons_of_mem _ (List.mem_append_right _ h)) rfl rfl (by decide) (List.mem_of_getElem? (i := 2) rfl) rfl rfl rfl rfl rfl (Nat.le_of_ble_eq_true rfl) dX7_take_138 rfl (fun H locs E => ?_)
  refine lv_lload hx hb dX7_take_141 (lv_at hl 4 rfl) ?_
  refine lv_lload hx hb dX7_take_143 (lv_at hl 1 rfl) ?_
  refine lv_lsub hx hb dX7_take_145 ?_
  refine lv_lstore (lv' := [(4, .long (x4 - t0)), (9, .long o1.1), (7, .long t0), (0, .ref (b 0)), (1, .int x1), (6, .int x6)]) hx hb dX7_take_146 hl (by decide) rfl (fun ls hl => ?_)
  refine lv_iinc (v := (x6 + 1)) (lv' := [(6, .int (x6 + 1)), (4, .long (x4 - t0)), (9, .long o1.1), (7, .long t0), (0, .ref (b 0)), (1, .int x1)]) hx hb dX7_take_148 hl (k := 5) rfl rfl (by decide) rfl (fun ls hl => ?_)
  refine lv_goto (tgt := 16) hx hb dX7_take_151 (by decide) ?_
  exact hk16 o1.2.1 o1.2.2 (mtd + o1.1) (mti + ((o1.1 * o4) / (100 : Int64))) (x4 - t0) (x6 + 1) _ _ _ E (lv_sub hl [4, 5, 1, 0] rfl) hf
def f_X7_take_L16 (mlo : Int32) (mto : Int32) (mlg : Nat → Int32) (mly : Nat → Int32) (x1 : Int32) : Nat → (Nat → Int64) → (Nat → Int64) → (Int64) → (Int64) → Int64 → Int32 → Option ((Nat → Int64) × (Nat → Int64) × (Int64) × (Int64))
  | 0, _, _, _, _, _, _ => none
  | n + 1, mll, mld, mtd, mti, x4, x6 =>
  if mlo ≤ x6 then
    some (mll, mld, mtd, mti)
  else
    ck x6 200 <|
    if (mlg x6.toNatClampNeg) = x1 then
      ck x6 200 <|
      if (lg_cmp (mll x6.toNatClampNeg) (0 : Int64)) = 0 then
        f_X7_take_L16 mlo mto mlg mly x1 n mll mld mtd mti x4 (x6 + 1)
      else
        if (lg_cmp x4 (0 : Int64)) = 0 then
          f_X7_take_L16 mlo mto mlg mly x1 n mll mld mtd mti x4 (x6 + 1)
        else
          ck x6 200 <|
          if 0 ≤ (lg_cmp (mll x6.toNatClampNeg) x4) then
            f_X7_take_J83 mto mly mll mld mtd mti x4 x6 (fun mll mld mtd mti x4 x6 => f_X7_take_L16 mlo mto mlg mly x1 n mll mld mtd mti x4 x6) x4
          else
            ck x6 200 <|
            f_X7_take_J83 mto mly mll mld mtd mti x4 x6 (fun mll mld mtd mti x4 x6 => f_X7_take_L16 mlo mto mlg mly x1 n mll mld mtd mti x4 x6) (mll x6.toNatClampNeg)
    else
      f_X7_take_L16 mlo mto mlg mly x1 n mll mld mtd mti x4 (x6 + 1)
set_option maxHeartbeats 4000000 in
set_option maxRecDepth 100000 in
theorem w_X7_take_L16 {p : Program} {l : Launch} {e : Env} {s : State} {m : MethodId} {args : Array Value} {below : List Frame} {meth : Method} {c : Code} {A : Nat → Prop} {D : va_G} {cI cJ cZ : ClassId} {b : Nat → Nat} {mth : Int32} {mlo : Int32} {mre : Int32} {mpr : Int32} {mto : Int32} {mim : Int64} {mdi : Int64} {mow : Int64} {mit : Int64} {mvl : Nat → Int32} {mhs : Nat → Int32} {mns : Nat → Int32} {mby : Nat → Int32} {mng : Nat → Int32} {mnu : Nat → Int32} {mnd : Nat → Int32} {mbg : Nat → Int32} {mbu : Nat → Int32} {mbd : Nat → Int32} {mlg : Nat → Int32} {mly : Nat → Int32} {mpg : Nat → Int32} {mpu : Nat → Int32} {mpl : Nat → Int64} {mwt : Nat → Int64} {mch : Nat → Int64} (C : gC p s m args meth c cX7_take 11 none wsX7_take RX7 A) {x1 : Int32} {o : (Nat → Int64) × (Nat → Int64) × (Int64) × (Int64)} :
    ∀ (n : Nat) (mll : Nat → Int64) (mld : Nat → Int64) (mtd : Int64) (mti : Int64) (x4 : Int64) (x6 : Int32) (H : Heap) (locs : List Loc) (ls : Array Slot), vE s A D (gT cI cJ cZ) (mW b cI cJ cZ mth mlo mre mpr mto mim mdi mow mit mvl mhs mns mby mng mnu mnd mbg mbu mbd mlg mly mll mld mpg mpu mpl mtd mti mwt mch) H locs → lv_has ls 11 [(0, .ref (b 0)), (1, .int x1), (4, .long x4), (6, .int x6)] → f_X7_take_L16 mlo mto mlg mly x1 n mll mld mtd mti x4 x6 = some o → W p l e rm_X7_take s m args below meth c H locs 0 0 (MQ below (gQv D (gT cI cJ cZ) A (mW b cI cJ cZ mth mlo mre mpr mto mim mdi mow mit mvl mhs mns mby mng mnu mnd mbg mbu mbd mlg mly o.1 o.2.1 mpg mpu mpl o.2.2.1 o.2.2.2 mwt mch)) args s 0 0 A) (F0 m 16 ls []) := by
  obtain ⟨hx, hb, hr, hml, hown, hts, hlocks, hN, hA⟩ := id C
  intro n
  induction n with
  | zero =>
    intro mll mld mtd mti x4 x6 H locs ls E hl hf
    rw [f_X7_take_L16] at hf
    cases hf
  | succ n ih =>
    intro mll mld mtd mti x4 x6 H locs ls E hl hf
    rw [f_X7_take_L16] at hf
    refine lv_iload hx hb dX7_take_16 (lv_at hl 3 rfl) ?_
    refine lv_aload_n hx hb dX7_take_18 rfl (lv_at hl 0 rfl) ?_
    refine g_get C E 0 1 (fun _ h => List.mem_cons_of_mem _ (List.mem_append_right _ h)) rfl rfl (by decide) (List.mem_of_getElem? (i := 3) rfl) rfl rfl dX7_take_19 ?_
    refine lv_icmp_ge (tgt := 154) hx hb dX7_take_22 (by decide) (fun c1 => ?_) (fun c1 => ?_)
    · rw [if_pos c1] at hf
      obtain rfl := Option.some.inj hf
      exact g_vret C E dX7_take_154
    · rw [if_neg c1] at hf
      refine lv_aload_n hx hb dX7_take_25 rfl (lv_at hl 0 rfl) ?_
      refine g_get C E 0 19 (fun _ h => List.mem_cons_of_mem _ (List.mem_append_right _ h)) rfl rfl (by decide) (List.mem_of_getElem? (i := 4) rfl) rfl rfl dX7_take_26 ?_
      refine lv_iload hx hb dX7_take_29 (lv_at hl 3 rfl) ?_
      obtain ⟨h2, hf⟩ := ck_some hf
      refine g_iald C E 11 rfl h2 dX7_take_31 ?_
      refine lv_iload_n hx hb dX7_take_32 rfl (lv_at hl 1 rfl) ?_
      refine lv_icmp_ne (tgt := 148) hx hb dX7_take_33 (by decide) (fun c3 => ?_) (fun c3 => ?_)
      · rw [if_neg c3] at hf
        refine lv_iinc (v := (x6 + 1)) (lv' := [(6, .int (x6 + 1)), (0, .ref (b 0)), (1, .int x1), (4, .long x4)]) hx hb dX7_take_148 hl (k := 3) rfl rfl (by decide) rfl (fun ls hl => ?_)
        refine lv_goto (tgt := 16) hx hb dX7_take_151 (by decide) ?_
        exact ih mll mld mtd mti x4 (x6 + 1) _ _ _ E (lv_sub hl [1, 2, 3, 0] rfl) hf
      · rw [if_pos c3] at hf
        refine lv_aload_n hx hb dX7_take_36 rfl (lv_at hl 0 rfl) ?_
        refine g_get C E 0 21 (fun _ h => List.mem_cons_of_mem _ (List.mem_append_right _ h)) rfl rfl (by decide) (List.mem_of_getElem? (i := 5) rfl) rfl rfl dX7_take_37 ?_
        refine lv_iload hx hb dX7_take_40 (lv_at hl 3 rfl) ?_
        obtain ⟨h4, hf⟩ := ck_some hf
        refine g_lald C E 13 rfl h4 dX7_take_42 ?_
        refine lv_lconst (v := 0) hx hb dX7_take_43 (by decide) ?_
        refine W.lcmp hx hb dX7_take_44 ?_
        refine lv_if_eq (tgt := 148) hx hb dX7_take_45 (by decide) (fun c5 => ?_) (fun c5 => ?_)
        · rw [if_pos c5] at hf
          refine lv_iinc (v := (x6 + 1)) (lv' := [(6, .int (x6 + 1)), (0, .ref (b 0)), (1, .int x1), (4, .long x4)]) hx hb dX7_take_148 hl (k := 3) rfl rfl (by decide) rfl (fun ls hl => ?_)
          refine lv_goto (tgt := 16) hx hb dX7_take_151 (by decide) ?_
          exact ih mll mld mtd mti x4 (x6 + 1) _ _ _ E (lv_sub hl [1, 2, 3, 0] rfl) hf
        · rw [if_neg c5] at hf
          refine lv_lload hx hb dX7_take_48 (lv_at hl 2 rfl) ?_
          refine lv_lconst (v := 0) hx hb dX7_take_50 (by decide) ?_
          refine W.lcmp hx hb dX7_take_51 ?_
          refine lv_if_ne (tgt := 58) hx hb dX7_take_52 (by decide) (fun c6 => ?_) (fun c6 => ?_)
          · rw [if_neg c6] at hf
            refine lv_aload_n hx hb dX7_take_58 rfl (lv_at hl 0 rfl) ?_
            refine g_get C E 0 21 (fun _ h => List.mem_cons_of_mem _ (List.mem_append_right _ h)) rfl rfl (by decide) (List.mem_of_getElem? (i := 5) rfl) rfl rfl dX7_take_59 ?_
            refine lv_iload hx hb dX7_take_62 (lv_at hl 3 rfl) ?_
            obtain ⟨h7, hf⟩ := ck_some hf
            refine g_lald C E 13 rfl h7 dX7_take_64 ?_
            refine lv_lload hx hb dX7_take_65 (lv_at hl 2 rfl) ?_
            refine W.lcmp hx hb dX7_take_67 ?_
            refine lv_if_ge (tgt := 81) hx hb dX7_take_68 (by decide) (fun c8 => ?_) (fun c8 => ?_)
            · rw [if_pos c8] at hf
              refine lv_lload hx hb dX7_take_81 (lv_at hl 2 rfl) ?_
              exact w_X7_take_J83 C ih E (lv_sub hl [0, 1, 2, 3] rfl) hf
            · rw [if_neg c8] at hf
              refine lv_aload_n hx hb dX7_take_71 rfl (lv_at hl 0 rfl) ?_
              refine g_get C E 0 21 (fun _ h => List.mem_cons_of_mem _ (List.mem_append_right _ h)) rfl rfl (by decide) (List.mem_of_getElem? (i := 5) rfl) rfl rfl dX7_take_72 ?_
              refine lv_iload hx hb dX7_take_75 (lv_at hl 3 rfl) ?_
              obtain ⟨h9, hf⟩ := ck_some hf
              refine g_lald C E 13 rfl h9 dX7_take_77 ?_
              refine lv_goto (tgt := 83) hx hb dX7_take_78 (by decide) ?_
              exact w_X7_take_J83 C ih E (lv_sub hl [0, 1, 2, 3] rfl) hf
          · rw [if_pos c6] at hf
            refine lv_goto (tgt := 148) hx hb dX7_take_55 (by decide) ?_
            refine lv_iinc (v := (x6 + 1)) (lv' := [(6, .int (x6 + 1)), (0, .ref (b 0)), (1, .int x1), (4, .long x4)]) hx hb dX7_take_148 hl (k := 3) rfl rfl (by decide) rfl (fun ls hl => ?_)
            refine lv_goto (tgt := 16) hx hb dX7_take_151 (by decide) ?_
            exact ih mll mld mtd mti x4 (x6 + 1) _ _ _ E (lv_sub hl [1, 2, 3, 0] rfl) hf
def f_X7_take (mlo : Int32) (mto : Int32) (mlg : Nat → Int32) (mly : Nat → Int32) (mll : Nat → Int64) (mld : Nat → Int64) (mtd : Int64) (mti : Int64) (x1 : Int32) (x2 : Int64) : Option ((Nat → Int64) × (Nat → Int64) × (Int64) × (Int64)) :=
  f_X7_take_L16 mlo mto mlg mly x1 FU mll mld (0 : Int64) (0 : Int64) x2 (0 : Int32)
set_option maxHeartbeats 4000000 in
set_option maxRecDepth 100000 in
theorem c_X7_take {l : Launch} {D : va_G} {cI cJ cZ : ClassId} {b : Nat → Nat} {sz : Nat} {mth : Int32} {mlo : Int32} {mre : Int32} {mpr : Int32} {mto : Int32} {mim : Int64} {mdi : Int64} {mow : Int64} {mit : Int64} {mvl : Nat → Int32} {mhs : Nat → Int32} {mns : Nat → Int32} {mby : Nat → Int32} {mng : Nat → Int32} {mnu : Nat → Int32} {mnd : Nat → Int32} {mbg : Nat → Int32} {mbu : Nat → Int32} {mbd : Nat → Int32} {mlg : Nat → Int32} {mly : Nat → Int32} {mll : Nat → Int64} {mld : Nat → Int64} {mpg : Nat → Int32} {mpu : Nat → Int32} {mpl : Nat → Int64} {mtd : Int64} {mti : Int64} {mwt : Nat → Int64} {mch : Nat → Int64} {x1 : Int32} {x2 : Int64} {o : (Nat → Int64) × (Nat → Int64) × (Int64) × (Int64)} (hf : f_X7_take mlo mto mlg mly mll mld mtd mti x1 x2 = some o) : gMv l yX7_take wsX7_take rm_X7_take D (gT cI cJ cZ) (mW b cI cJ cZ mth mlo mre mpr mto mim mdi mow mit mvl mhs mns mby mng mnu mnd mbg mbu mbd mlg mly mll mld mpg mpu mpl mtd mti mwt mch) (mW b cI cJ cZ mth mlo mre mpr mto mim mdi mow mit mvl mhs mns mby mng mnu mnd mbg mbu mbd mlg mly o.1 o.2.1 mpg mpu mpl o.2.2.1 o.2.2.2 mwt mch) sz [.ref (b 0), .int x1, .long x2] := by
  refine g_of (cc := cX7_take) (maxL := 11) (ret := none) (by decide) rfl (Nat.le_of_ble_eq_true rfl) ?_
  intro p e s m below meth c A ls hAe C hl E
  rw [← hAe]
  obtain ⟨hx, hb, hr, hml, hown, hts, hlocks, hN, hA⟩ := id C
  have hl : lv_has ls 11 [(0, .ref (b 0)), (1, .int x1), (2, .long x2)] := hl
  have E : vE s A D (gT cI cJ cZ) (mW b cI cJ cZ mth mlo mre mpr mto mim mdi mow mit mvl mhs mns mby mng mnu mnd mbg mbu mbd mlg mly mll mld mpg mpu mpl mtd mti mwt mch) s.heap [] := E
  rw [f_X7_take] at hf
  refine lv_aload_n hx hb dX7_take_0 rfl (lv_at hl 0 rfl) ?_
  refine lv_lconst (v := 0) hx hb dX7_take_1 (by decide) ?_
  refine g_put (w' := (mW b cI cJ cZ mth mlo mre mpr mto mim mdi mow mit mvl mhs mns mby mng mnu mnd mbg mbu mbd mlg mly mll mld mpg mpu mpl (0 : Int64) mti mwt mch)) C E 0 26 tyX7 tyX7_ok nmX7 (fun _ h => List.mem_cons_of_mem _ (List.mem_append_right _ h)) rfl rfl (by decide) (List.mem_of_getElem? (i := 1) rfl) rfl rfl rfl rfl rfl (Nat.le_of_ble_eq_true rfl) dX7_take_2 rfl (fun H locs E => ?_)
  refine lv_aload_n hx hb dX7_take_5 rfl (lv_at hl 0 rfl) ?_
  refine lv_lconst (v := 0) hx hb dX7_take_6 (by decide) ?_
  refine g_put (w' := (mW b cI cJ cZ mth mlo mre mpr mto mim mdi mow mit mvl mhs mns mby mng mnu mnd mbg mbu mbd mlg mly mll mld mpg mpu mpl (0 : Int64) (0 : Int64) mwt mch)) C E 0 27 tyX7 tyX7_ok nmX7 (fun _ h => List.mem_cons_of_mem _ (List.mem_append_right _ h)) rfl rfl (by decide) (List.mem_of_getElem? (i := 2) rfl) rfl rfl rfl rfl rfl (Nat.le_of_ble_eq_true rfl) dX7_take_7 rfl (fun H locs E => ?_)
  refine lv_lload_n hx hb dX7_take_10 rfl (lv_at hl 2 rfl) ?_
  refine lv_lstore (lv' := [(4, .long x2), (0, .ref (b 0)), (1, .int x1), (2, .long x2)]) hx hb dX7_take_11 hl (by decide) rfl (fun ls hl => ?_)
  refine lv_iconst (v := 0) hx hb dX7_take_13 (by decide) ?_
  refine lv_istore (lv' := [(6, .int (0 : Int32)), (4, .long x2), (0, .ref (b 0)), (1, .int x1), (2, .long x2)]) hx hb dX7_take_14 hl (by decide) rfl (fun ls hl => ?_)
  exact w_X7_take_L16 C  FU mll mld (0 : Int64) (0 : Int64) x2 (0 : Int32) _ _ _ E (lv_sub hl [2, 3, 1, 0] rfl) hf
abbrev rm_X7_in : Room := { frames := 2, cells := 0, slots := 0, locals := 45 }
theorem hd_X7_in : yX7_in.cls ≠ "java/lang/invoke/MethodHandle" ∧ yX7_in.cls ≠ "java/lang/invoke/VarHandle" ∧ (parseMethodDescriptor yX7_in.desc).map (fun d => d.parameters.length) = some 3 := by decide +kernel
def f_X7_in_J221 (mdi : Int64) (mll : Nat → Int64) (mld : Nat → Int64) (mpl : Nat → Int64) (x5 : Int32) (x7 : Int64) (k88 : (Int64) → (Nat → Int64) → (Nat → Int64) → (Nat → Int64) → Int32 → Option (Int32 × (Int32) × (Int32) × (Int64) × (Int64) × (Nat → Int32) × (Nat → Int32) × (Nat → Int64) × (Nat → Int64) × (Nat → Int64))) : Option (Int32 × (Int32) × (Int32) × (Int64) × (Int64) × (Nat → Int32) × (Nat → Int32) × (Nat → Int64) × (Nat → Int64) × (Nat → Int64)) :=
  ck x5 40 <|
  ck x5 40 <|
  k88 mdi mll mld (vp_updL mpl x5.toNatClampNeg ((mpl x5.toNatClampNeg) - x7)) (x5 + 1)
set_option maxHeartbeats 4000000 in
set_option maxRecDepth 100000 in
theorem w_X7_in_J221 {p : Program} {l : Launch} {e : Env} {s : State} {m : MethodId} {args : Array Value} {below : List Frame} {meth : Method} {c : Code} {A : Nat → Prop} {D : va_G} {cI cJ cZ : ClassId} {b : Nat → Nat} {mth : Int32} {mlo : Int32} {mre : Int32} {mpr : Int32} {mto : Int32} {mim : Int64} {mdi : Int64} {mow : Int64} {mit : Int64} {mvl : Nat → Int32} {mhs : Nat → Int32} {mns : Nat → Int32} {mby : Nat → Int32} {mng : Nat → Int32} {mnu : Nat → Int32} {mnd : Nat → Int32} {mbg : Nat → Int32} {mbu : Nat → Int32} {mbd : Nat → Int32} {mlg : Nat → Int32} {mly : Nat → Int32} {mll : Nat → Int64} {mld : Nat → Int64} {mpg : Nat → Int32} {mpu : Nat → Int32} {mpl : Nat → Int64} {mtd : Int64} {mti : Int64} {mwt : Nat → Int64} {mch : Nat → Int64} (C : gC p s m args meth c cX7_in 9 (some .int) wsX7_in RX7 A) {x1 : Int32} {x4 : Int32} {x5 : Int32} {x7 : Int64} {o : Int32 × (Int32) × (Int32) × (Int64) × (Int64) × (Nat → Int32) × (Nat → Int32) × (Nat → Int64) × (Nat → Int64) × (Nat → Int64)} {k88 : (Int64) → (Nat → Int64) → (Nat → Int64) → (Nat → Int64) → Int32 → Option (Int32 × (Int32) × (Int32) × (Int64) × (Int64) × (Nat → Int32) × (Nat → Int32) × (Nat → Int64) × (Nat → Int64) × (Nat → Int64))} (hk88 : ∀ (mdi : Int64) (mll : Nat → Int64) (mld : Nat → Int64) (mpl : Nat → Int64) (x5 : Int32) (H : Heap) (locs : List Loc) (ls : Array Slot), vE s A D (gT cI cJ cZ) (mW b cI cJ cZ mth mlo mre mpr mto mim mdi mow mit mvl mhs mns mby mng mnu mnd mbg mbu mbd mlg mly mll mld mpg mpu mpl mtd mti mwt mch) H locs → lv_has ls 9 [(0, .ref (b 0)), (1, .int x1), (4, .int x4), (5, .int x5)] → k88 mdi mll mld mpl x5 = some o → W p l e rm_X7_in s m args below meth c H locs 0 0 (MQ below (gQi D (gT cI cJ cZ) A (mW b cI cJ cZ o.2.1 o.2.2.1 mre mpr mto o.2.2.2.1 o.2.2.2.2.1 mow mit mvl mhs mns mby mng mnu mnd mbg mbu mbd o.2.2.2.2.2.1 o.2.2.2.2.2.2.1 o.2.2.2.2.2.2.2.1 o.2.2.2.2.2.2.2.2.1 mpg mpu o.2.2.2.2.2.2.2.2.2 mtd mti mwt mch) o.1) args s 0 0 A) (F0 m 88 ls [])) {H : Heap} {locs : List Loc} {ls : Array Slot} (E : vE s A D (gT cI cJ cZ) (mW b cI cJ cZ mth mlo mre mpr mto mim mdi mow mit mvl mhs mns mby mng mnu mnd mbg mbu mbd mlg mly mll mld mpg mpu mpl mtd mti mwt mch) H locs) (hl : lv_has ls 9 [(0, .ref (b 0)), (1, .int x1), (4, .int x4), (5, .int x5), (7, .long x7)]) (hf : f_X7_in_J221 mdi mll mld mpl x5 x7 k88 = some o) : W p l e rm_X7_in s m args below meth c H locs 0 0 (MQ below (gQi D (gT cI cJ cZ) A (mW b cI cJ cZ o.2.1 o.2.2.1 mre mpr mto o.2.2.2.1 o.2.2.2.2.1 mow mit mvl mhs mns mby mng mnu mnd mbg mbu mbd o.2.2.2.2.2.1 o.2.2.2.2.2.2.1 o.2.2.2.2.2.2.2.1 o.2.2.2.2.2.2.2.2.1 mpg mpu o.2.2.2.2.2.2.2.2.2 mtd mti mwt mch) o.1) args s 0 0 A) (F0 m 221 ls []) := by
  obtain ⟨hx, hb, hr, hml, hown, hts, hlocks, hN, hA⟩ := id C
  rw [f_X7_in_J221] at hf
  refine lv_aload_n hx hb dX7_in_221 rfl (lv_at hl 0 rfl) ?_
  refine g_get C E 0 25 (fun _ h => List.mem_cons_of_mem _ (List.mem_append_right _ h)) rfl rfl (by decide) (List.mem_of_getElem? (i := 10) rfl) rfl rfl dX7_in_222 ?_
  refine lv_iload hx hb dX7_in_225 (lv_at hl 3 rfl) ?_
  refine lv_dup2_11 hx hb dX7_in_227 rfl rfl ?_
  obtain ⟨h1, hf⟩ := ck_some hf
  refine g_lald C E 17 rfl h1 dX7_in_228 ?_
  refine lv_lload hx hb dX7_in_229 (lv_at hl 4 rfl) ?_
  refine lv_lsub hx hb dX7_in_231 ?_
  obtain ⟨h2, hf⟩ := ck_some hf
  refine g_last (w' := (mW b cI cJ cZ mth mlo mre mpr mto mim mdi mow mit mvl mhs mns mby mng mnu mnd mbg mbu mbd mlg mly mll mld mpg mpu (vp_updL mpl x5.toNatClampNeg ((mpl x5.toNatClampNeg) - x7)) mtd mti mwt mch)) C E 17 rfl h2 dX7_in_232 rfl (fun H locs E => ?_)
  refine lv_iinc (v := (x5 + 1)) (lv' := [(5, .int (x5 + 1)), (0, .ref (b 0)), (1, .int x1), (4, .int x4), (7, .long x7)]) hx hb dX7_in_233 hl (k := 3) rfl rfl (by decide) rfl (fun ls hl => ?_)
  refine lv_goto (tgt := 88) hx hb dX7_in_236 (by decide) ?_
  exact hk88 mdi mll mld (vp_updL mpl x5.toNatClampNeg ((mpl x5.toNatClampNeg) - x7)) (x5 + 1) _ _ _ E (lv_sub hl [1, 2, 3, 0] rfl) hf
def f_X7_in_J197 (mdi : Int64) (mll : Nat → Int64) (mld : Nat → Int64) (mpl : Nat → Int64) (x4 : Int32) (x5 : Int32) (x6 : Int32) (k88 : (Int64) → (Nat → Int64) → (Nat → Int64) → (Nat → Int64) → Int32 → Option (Int32 × (Int32) × (Int32) × (Int64) × (Int64) × (Nat → Int32) × (Nat → Int32) × (Nat → Int64) × (Nat → Int64) × (Nat → Int64))) (t0 : Int64) : Option (Int32 × (Int32) × (Int32) × (Int64) × (Int64) × (Nat → Int32) × (Nat → Int32) × (Nat → Int64) × (Nat → Int64) × (Nat → Int64)) :=
  if x6 = 0 then
    f_X7_in_J221 mdi mll mld mpl x5 t0 k88 
  else
    (f_X7_takeOf mll mld x4 t0).bind fun o2 =>
    f_X7_in_J221 (mdi + o2.1) o2.2.1 o2.2.2 mpl x5 t0 k88 
set_option maxHeartbeats 4000000 in
set_option maxRecDepth 100000 in
theorem w_X7_in_J197 {p : Program} {l : Launch} {e : Env} {s : State} {m : MethodId} {args : Array Value} {below : List Frame} {meth : Method} {c : Code} {A : Nat → Prop} {D : va_G} {cI cJ cZ : ClassId} {b : Nat → Nat} {mth : Int32} {mlo : Int32} {mre : Int32} {mpr : Int32} {mto : Int32} {mim : Int64} {mdi : Int64} {mow : Int64} {mit : Int64} {mvl : Nat → Int32} {mhs : Nat → Int32} {mns : Nat → Int32} {mby : Nat → Int32} {mng : Nat → Int32} {mnu : Nat → Int32} {mnd : Nat → Int32} {mbg : Nat → Int32} {mbu : Nat → Int32} {mbd : Nat → Int32} {mlg : Nat → Int32} {mly : Nat → Int32} {mll : Nat → Int64} {mld : Nat → Int64} {mpg : Nat → Int32} {mpu : Nat → Int32} {mpl : Nat → Int64} {mtd : Int64} {mti : Int64} {mwt : Nat → Int64} {mch : Nat → Int64} (C : gC p s m args meth c cX7_in 9 (some .int) wsX7_in RX7 A) {x1 : Int32} {x4 : Int32} {x5 : Int32} {x6 : Int32} {o : Int32 × (Int32) × (Int32) × (Int64) × (Int64) × (Nat → Int32) × (Nat → Int32) × (Nat → Int64) × (Nat → Int64) × (Nat → Int64)} {k88 : (Int64) → (Nat → Int64) → (Nat → Int64) → (Nat → Int64) → Int32 → Option (Int32 × (Int32) × (Int32) × (Int64) × (Int64) × (Nat → Int32) × (Nat → Int32) × (Nat → Int64) × (Nat → Int64) × (Nat → Int64))} (hk88 : ∀ (mdi : Int64) (mll : Nat → Int64) (mld : Nat → Int64) (mpl : Nat → Int64) (x5 : Int32) (H : Heap) (locs : List Loc) (ls : Array Slot), vE s A D (gT cI cJ cZ) (mW b cI cJ cZ mth mlo mre mpr mto mim mdi mow mit mvl mhs mns mby mng mnu mnd mbg mbu mbd mlg mly mll mld mpg mpu mpl mtd mti mwt mch) H locs → lv_has ls 9 [(0, .ref (b 0)), (1, .int x1), (4, .int x4), (5, .int x5)] → k88 mdi mll mld mpl x5 = some o → W p l e rm_X7_in s m args below meth c H locs 0 0 (MQ below (gQi D (gT cI cJ cZ) A (mW b cI cJ cZ o.2.1 o.2.2.1 mre mpr mto o.2.2.2.1 o.2.2.2.2.1 mow mit mvl mhs mns mby mng mnu mnd mbg mbu mbd o.2.2.2.2.2.1 o.2.2.2.2.2.2.1 o.2.2.2.2.2.2.2.1 o.2.2.2.2.2.2.2.2.1 mpg mpu o.2.2.2.2.2.2.2.2.2 mtd mti mwt mch) o.1) args s 0 0 A) (F0 m 88 ls [])) {t0 : Int64} {H : Heap} {locs : List Loc} {ls : Array Slot} (E : vE s A D (gT cI cJ cZ) (mW b cI cJ cZ mth mlo mre mpr mto mim mdi mow mit mvl mhs mns mby mng mnu mnd mbg mbu mbd mlg mly mll mld mpg mpu mpl mtd mti mwt mch) H locs) (hl : lv_has ls 9 [(0, .ref (b 0)), (1, .int x1), (4, .int x4), (5, .int x5), (6, .int x6)]) (hf : f_X7_in_J197 mdi mll mld mpl x4 x5 x6 k88 t0 = some o) : W p l e rm_X7_in s m args below meth c H locs 0 0 (MQ below (gQi D (gT cI cJ cZ) A (mW b cI cJ cZ o.2.1 o.2.2.1 mre mpr mto o.2.2.2.1 o.2.2.2.2.1 mow mit mvl mhs mns mby mng mnu mnd mbg mbu mbd o.2.2.2.2.2.1 o.2.2.2.2.2.2.1 o.2.2.2.2.2.2.2.1 o.2.2.2.2.2.2.2.2.1 mpg mpu o.2.2.2.2.2.2.2.2.2 mtd mti mwt mch) o.1) args s 0 0 A) (F0 m 197 ls [.long t0]) := by
  obtain ⟨hx, hb, hr, hml, hown, hts, hlocks, hN, hA⟩ := id C
  rw [f_X7_in_J197] at hf
  refine lv_lstore (lv' := [(7, .long t0), (0, .ref (b 0)), (1, .int x1), (4, .int x4), (5, .int x5), (6, .int x6)]) hx hb dX7_in_197 hl (by decide) rfl (fun ls hl => ?_)
  refine lv_iload hx hb dX7_in_199 (lv_at hl 5 rfl) ?_
  refine lv_if_eq (tgt := 221) hx hb dX7_in_201 (by decide) (fun c1 => ?_) (fun c1 => ?_)
  · rw [if_pos c1] at hf
    exact w_X7_in_J221 C hk88 E (lv_sub hl [1, 2, 3, 4, 0] rfl) hf
  · rw [if_neg c1] at hf
    refine lv_aload_n hx hb dX7_in_204 rfl (lv_at hl 1 rfl) ?_
    refine lv_dup hx hb dX7_in_205 rfl ?_
    refine g_get C E 0 6 (fun _ h => List.mem_cons_of_mem _ (List.mem_append_right _ h)) rfl rfl (by decide) (List.mem_of_getElem? (i := 12) rfl) rfl rfl dX7_in_206 ?_
    refine lv_aload_n hx hb dX7_in_209 rfl (lv_at hl 1 rfl) ?_
    refine lv_iload hx hb dX7_in_210 (lv_at hl 3 rfl) ?_
    refine lv_lload hx hb dX7_in_212 (lv_at hl 0 rfl) ?_
    obtain ⟨o2, e3, hf⟩ := bd_some hf
    refine g_calll (w' := (mW b cI cJ cZ mth mlo mre mpr mto mim mdi mow mit mvl mhs mns mby mng mnu mnd mbg mbu mbd mlg mly o2.2.1 o2.2.2 mpg mpu mpl mtd mti mwt mch)) C E (g_runV (As := [.int x4, .long t0]) (rest := [.long mdi, .ref (b 0)]) C E (c_X7_takeOf e3) (cwV 2 hts gX7_in_X7_takeOf rfl rfl rfl ⟨rfl, hd_X7_takeOf⟩ ⟨Nat.le_of_ble_eq_true rfl, Nat.le_of_ble_eq_true rfl⟩) (q0 := 0) (ci := 7) rfl rfl rfl rfl hl.1 rfl (Nat.le_of_ble_eq_true rfl) dX7_in_214 ⟨Nat.le_of_ble_eq_true rfl, Nat.le_of_ble_eq_true rfl⟩) (fun H locs E => ?_)
    refine lv_ladd hx hb dX7_in_217 ?_
    refine g_put (w' := (mW b cI cJ cZ mth mlo mre mpr mto mim (mdi + o2.1) mow mit mvl mhs mns mby mng mnu mnd mbg mbu mbd mlg mly o2.2.1 o2.2.2 mpg mpu mpl mtd mti mwt mch)) C E 0 6 tyX7 tyX7_ok nmX7 (fun _ h => List.mem_cons_of_mem _ (List.mem_append_right _ h)) rfl rfl (by decide) (List.mem_of_getElem? (i := 12) rfl) rfl rfl rfl rfl rfl (Nat.le_of_ble_eq_true rfl) dX7_in_218 rfl (fun H locs E => ?_)
    exact w_X7_in_J221 C hk88 E (lv_sub hl [1, 2, 3, 4, 0] rfl) hf
def f_X7_in_J151 (mdi : Int64) (mll : Nat → Int64) (mld : Nat → Int64) (mpl : Nat → Int64) (x4 : Int32) (x5 : Int32) (k88 : (Int64) → (Nat → Int64) → (Nat → Int64) → (Nat → Int64) → Int32 → Option (Int32 × (Int32) × (Int32) × (Int64) × (Int64) × (Nat → Int32) × (Nat → Int32) × (Nat → Int64) × (Nat → Int64) × (Nat → Int64))) (t0 : Int32) : Option (Int32 × (Int32) × (Int32) × (Int64) × (Int64) × (Nat → Int32) × (Nat → Int32) × (Nat → Int64) × (Nat → Int64) × (Nat → Int64)) :=
  if t0 = 0 then
    f_X7_in_J197 mdi mll mld mpl x4 x5 t0 k88 (0 : Int64)
  else
    ck x5 40 <|
    ck x4 200 <|
    if 0 ≤ (lg_cmp (mpl x5.toNatClampNeg) (mll x4.toNatClampNeg)) then
      ck x4 200 <|
      f_X7_in_J197 mdi mll mld mpl x4 x5 t0 k88 (mll x4.toNatClampNeg)
    else
      ck x5 40 <|
      f_X7_in_J197 mdi mll mld mpl x4 x5 t0 k88 (mpl x5.toNatClampNeg)
set_option maxHeartbeats 4000000 in
set_option maxRecDepth 100000 in
theorem w_X7_in_J151 {p : Program} {l : Launch} {e : Env} {s : State} {m : MethodId} {args : Array Value} {below : List Frame} {meth : Method} {c : Code} {A : Nat → Prop} {D : va_G} {cI cJ cZ : ClassId} {b : Nat → Nat} {mth : Int32} {mlo : Int32} {mre : Int32} {mpr : Int32} {mto : Int32} {mim : Int64} {mdi : Int64} {mow : Int64} {mit : Int64} {mvl : Nat → Int32} {mhs : Nat → Int32} {mns : Nat → Int32} {mby : Nat → Int32} {mng : Nat → Int32} {mnu : Nat → Int32} {mnd : Nat → Int32} {mbg : Nat → Int32} {mbu : Nat → Int32} {mbd : Nat → Int32} {mlg : Nat → Int32} {mly : Nat → Int32} {mll : Nat → Int64} {mld : Nat → Int64} {mpg : Nat → Int32} {mpu : Nat → Int32} {mpl : Nat → Int64} {mtd : Int64} {mti : Int64} {mwt : Nat → Int64} {mch : Nat → Int64} (C : gC p s m args meth c cX7_in 9 (some .int) wsX7_in RX7 A) {x1 : Int32} {x4 : Int32} {x5 : Int32} {o : Int32 × (Int32) × (Int32) × (Int64) × (Int64) × (Nat → Int32) × (Nat → Int32) × (Nat → Int64) × (Nat → Int64) × (Nat → Int64)} {k88 : (Int64) → (Nat → Int64) → (Nat → Int64) → (Nat → Int64) → Int32 → Option (Int32 × (Int32) × (Int32) × (Int64) × (Int64) × (Nat → Int32) × (Nat → Int32) × (Nat → Int64) × (Nat → Int64) × (Nat → Int64))} (hk88 : ∀ (mdi : Int64) (mll : Nat → Int64) (mld : Nat → Int64) (mpl : Nat → Int64) (x5 : Int32) (H : Heap) (locs : List Loc) (ls : Array Slot), vE s A D (gT cI cJ cZ) (mW b cI cJ cZ mth mlo mre mpr mto mim mdi mow mit mvl mhs mns mby mng mnu mnd mbg mbu mbd mlg mly mll mld mpg mpu mpl mtd mti mwt mch) H locs → lv_has ls 9 [(0, .ref (b 0)), (1, .int x1), (4, .int x4), (5, .int x5)] → k88 mdi mll mld mpl x5 = some o → W p l e rm_X7_in s m args below meth c H locs 0 0 (MQ below (gQi D (gT cI cJ cZ) A (mW b cI cJ cZ o.2.1 o.2.2.1 mre mpr mto o.2.2.2.1 o.2.2.2.2.1 mow mit mvl mhs mns mby mng mnu mnd mbg mbu mbd o.2.2.2.2.2.1 o.2.2.2.2.2.2.1 o.2.2.2.2.2.2.2.1 o.2.2.2.2.2.2.2.2.1 mpg mpu o.2.2.2.2.2.2.2.2.2 mtd mti mwt mch) o.1) args s 0 0 A) (F0 m 88 ls [])) {t0 : Int32} {H : Heap} {locs : List Loc} {ls : Array Slot} (E : vE s A D (gT cI cJ cZ) (mW b cI cJ cZ mth mlo mre mpr mto mim mdi mow mit mvl mhs mns mby mng mnu mnd mbg mbu mbd mlg mly mll mld mpg mpu mpl mtd mti mwt mch) H locs) (hl : lv_has ls 9 [(0, .ref (b 0)), (1, .int x1), (4, .int x4), (5, .int x5)]) (hf : f_X7_in_J151 mdi mll mld mpl x4 x5 k88 t0 = some o) : W p l e rm_X7_in s m args below meth c H locs 0 0 (MQ below (gQi D (gT cI cJ cZ) A (mW b cI cJ cZ o.2.1 o.2.2.1 mre mpr mto o.2.2.2.1 o.2.2.2.2.1 mow mit mvl mhs mns mby mng mnu mnd mbg mbu mbd o.2.2.2.2.2.1 o.2.2.2.2.2.2.1 o.2.2.2.2.2.2.2.1 o.2.2.2.2.2.2.2.2.1 mpg mpu o.2.2.2.2.2.2.2.2.2 mtd mti mwt mch) o.1) args s 0 0 A) (F0 m 151 ls [.int t0]) := by
  obtain ⟨hx, hb, hr, hml, hown, hts, hlocks, hN, hA⟩ := id C
  rw [f_X7_in_J151] at hf
  refine lv_istore (lv' := [(6, .int t0), (0, .ref (b 0)), (1, .int x1), (4, .int x4), (5, .int x5)]) hx hb dX7_in_151 hl (by decide) rfl (fun ls hl => ?_)
  refine lv_iload hx hb dX7_in_153 (lv_at hl 0 rfl) ?_
  refine lv_if_ne (tgt := 162) hx hb dX7_in_155 (by decide) (fun c1 => ?_) (fun c1 => ?_)
  · rw [if_neg c1] at hf
    refine lv_aload_n hx hb dX7_in_162 rfl (lv_at hl 1 rfl) ?_
    refine g_get C E 0 25 (fun _ h => List.mem_cons_of_mem _ (List.mem_append_right _ h)) rfl rfl (by decide) (List.mem_of_getElem? (i := 10) rfl) rfl rfl dX7_in_163 ?_
    refine lv_iload hx hb dX7_in_166 (lv_at hl 4 rfl) ?_
    obtain ⟨h2, hf⟩ := ck_some hf
    refine g_lald C E 17 rfl h2 dX7_in_168 ?_
    refine lv_aload_n hx hb dX7_in_169 rfl (lv_at hl 1 rfl) ?_
    refine g_get C E 0 21 (fun _ h => List.mem_cons_of_mem _ (List.mem_append_right _ h)) rfl rfl (by decide) (List.mem_of_getElem? (i := 11) rfl) rfl rfl dX7_in_170 ?_
    refine lv_iload hx hb dX7_in_173 (lv_at hl 3 rfl) ?_
    obtain ⟨h3, hf⟩ := ck_some hf
    refine g_lald C E 13 rfl h3 dX7_in_175 ?_
    refine W.lcmp hx hb dX7_in_176 ?_
    refine lv_if_ge (tgt := 190) hx hb dX7_in_177 (by decide) (fun c4 => ?_) (fun c4 => ?_)
    · rw [if_pos c4] at hf
      refine lv_aload_n hx hb dX7_in_190 rfl (lv_at hl 1 rfl) ?_
      refine g_get C E 0 21 (fun _ h => List.mem_cons_of_mem _ (List.mem_append_right _ h)) rfl rfl (by decide) (List.mem_of_getElem? (i := 11) rfl) rfl rfl dX7_in_191 ?_
      refine lv_iload hx hb dX7_in_194 (lv_at hl 3 rfl) ?_
      obtain ⟨h5, hf⟩ := ck_some hf
      refine g_lald C E 13 rfl h5 dX7_in_196 ?_
      exact w_X7_in_J197 C hk88 E (lv_sub hl [1, 2, 3, 4, 0] rfl) hf
    · rw [if_neg c4] at hf
      refine lv_aload_n hx hb dX7_in_180 rfl (lv_at hl 1 rfl) ?_
      refine g_get C E 0 25 (fun _ h => List.mem_cons_of_mem _ (List.mem_append_right _ h)) rfl rfl (by decide) (List.mem_of_getElem? (i := 10) rfl) rfl rfl dX7_in_181 ?_
      refine lv_iload hx hb dX7_in_184 (lv_at hl 4 rfl) ?_
      obtain ⟨h6, hf⟩ := ck_some hf
      refine g_lald C E 17 rfl h6 dX7_in_186 ?_
      refine lv_goto (tgt := 197) hx hb dX7_in_187 (by decide) ?_
      exact w_X7_in_J197 C hk88 E (lv_sub hl [1, 2, 3, 4, 0] rfl) hf
  · rw [if_pos c1] at hf
    refine lv_lconst (v := 0) hx hb dX7_in_158 (by decide) ?_
    refine lv_goto (tgt := 197) hx hb dX7_in_159 (by decide) ?_
    exact w_X7_in_J197 C hk88 E (lv_sub hl [1, 2, 3, 4, 0] rfl) hf
def f_X7_in_J150 (mdi : Int64) (mll : Nat → Int64) (mld : Nat → Int64) (mpl : Nat → Int64) (x4 : Int32) (x5 : Int32) (k88 : (Int64) → (Nat → Int64) → (Nat → Int64) → (Nat → Int64) → Int32 → Option (Int32 × (Int32) × (Int32) × (Int64) × (Int64) × (Nat → Int32) × (Nat → Int32) × (Nat → Int64) × (Nat → Int64) × (Nat → Int64))) : Option (Int32 × (Int32) × (Int32) × (Int64) × (Int64) × (Nat → Int32) × (Nat → Int32) × (Nat → Int64) × (Nat → Int64) × (Nat → Int64)) :=
  f_X7_in_J151 mdi mll mld mpl x4 x5 k88 (0 : Int32)
set_option maxHeartbeats 4000000 in
set_option maxRecDepth 100000 in
theorem w_X7_in_J150 {p : Program} {l : Launch} {e : Env} {s : State} {m : MethodId} {args : Array Value} {below : List Frame} {meth : Method} {c : Code} {A : Nat → Prop} {D : va_G} {cI cJ cZ : ClassId} {b : Nat → Nat} {mth : Int32} {mlo : Int32} {mre : Int32} {mpr : Int32} {mto : Int32} {mim : Int64} {mdi : Int64} {mow : Int64} {mit : Int64} {mvl : Nat → Int32} {mhs : Nat → Int32} {mns : Nat → Int32} {mby : Nat → Int32} {mng : Nat → Int32} {mnu : Nat → Int32} {mnd : Nat → Int32} {mbg : Nat → Int32} {mbu : Nat → Int32} {mbd : Nat → Int32} {mlg : Nat → Int32} {mly : Nat → Int32} {mll : Nat → Int64} {mld : Nat → Int64} {mpg : Nat → Int32} {mpu : Nat → Int32} {mpl : Nat → Int64} {mtd : Int64} {mti : Int64} {mwt : Nat → Int64} {mch : Nat → Int64} (C : gC p s m args meth c cX7_in 9 (some .int) wsX7_in RX7 A) {x1 : Int32} {x4 : Int32} {x5 : Int32} {o : Int32 × (Int32) × (Int32) × (Int64) × (Int64) × (Nat → Int32) × (Nat → Int32) × (Nat → Int64) × (Nat → Int64) × (Nat → Int64)} {k88 : (Int64) → (Nat → Int64) → (Nat → Int64) → (Nat → Int64) → Int32 → Option (Int32 × (Int32) × (Int32) × (Int64) × (Int64) × (Nat → Int32) × (Nat → Int32) × (Nat → Int64) × (Nat → Int64) × (Nat → Int64))} (hk88 : ∀ (mdi : Int64) (mll : Nat → Int64) (mld : Nat → Int64) (mpl : Nat → Int64) (x5 : Int32) (H : Heap) (locs : List Loc) (ls : Array Slot), vE s A D (gT cI cJ cZ) (mW b cI cJ cZ mth mlo mre mpr mto mim mdi mow mit mvl mhs mns mby mng mnu mnd mbg mbu mbd mlg mly mll mld mpg mpu mpl mtd mti mwt mch) H locs → lv_has ls 9 [(0, .ref (b 0)), (1, .int x1), (4, .int x4), (5, .int x5)] → k88 mdi mll mld mpl x5 = some o → W p l e rm_X7_in s m args below meth c H locs 0 0 (MQ below (gQi D (gT cI cJ cZ) A (mW b cI cJ cZ o.2.1 o.2.2.1 mre mpr mto o.2.2.2.1 o.2.2.2.2.1 mow mit mvl mhs mns mby mng mnu mnd mbg mbu mbd o.2.2.2.2.2.1 o.2.2.2.2.2.2.1 o.2.2.2.2.2.2.2.1 o.2.2.2.2.2.2.2.2.1 mpg mpu o.2.2.2.2.2.2.2.2.2 mtd mti mwt mch) o.1) args s 0 0 A) (F0 m 88 ls [])) {H : Heap} {locs : List Loc} {ls : Array Slot} (E : vE s A D (gT cI cJ cZ) (mW b cI cJ cZ mth mlo mre mpr mto mim mdi mow mit mvl mhs mns mby mng mnu mnd mbg mbu mbd mlg mly mll mld mpg mpu mpl mtd mti mwt mch) H locs) (hl : lv_has ls 9 [(0, .ref (b 0)), (1, .int x1), (4, .int x4), (5, .int x5)]) (hf : f_X7_in_J150 mdi mll mld mpl x4 x5 k88 = some o) : W p l e rm_X7_in s m args below meth c H locs 0 0 (MQ below (gQi D (gT cI cJ cZ) A (mW b cI cJ cZ o.2.1 o.2.2.1 mre mpr mto o.2.2.2.1 o.2.2.2.2.1 mow mit mvl mhs mns mby mng mnu mnd mbg mbu mbd o.2.2.2.2.2.1 o.2.2.2.2.2.2.1 o.2.2.2.2.2.2.2.1 o.2.2.2.2.2.2.2.2.1 mpg mpu o.2.2.2.2.2.2.2.2.2 mtd mti mwt mch) o.1) args s 0 0 A) (F0 m 150 ls []) := by
  obtain ⟨hx, hb, hr, hml, hown, hts, hlocks, hN, hA⟩ := id C
  rw [f_X7_in_J150] at hf
  refine lv_iconst (v := 0) hx hb dX7_in_150 (by decide) ?_
  exact w_X7_in_J151 C hk88 E (lv_sub hl [0, 1, 2, 3] rfl) hf
def f_X7_in_L88 (mth : Int32) (mlo : Int32) (mpr : Int32) (mto : Int32) (mim : Int64) (mlg : Nat → Int32) (mly : Nat → Int32) (mpg : Nat → Int32) (mpu : Nat → Int32) (x1 : Int32) (x4 : Int32) : Nat → (Int64) → (Nat → Int64) → (Nat → Int64) → (Nat → Int64) → Int32 → Option (Int32 × (Int32) × (Int32) × (Int64) × (Int64) × (Nat → Int32) × (Nat → Int32) × (Nat → Int64) × (Nat → Int64) × (Nat → Int64))
  | 0, _, _, _, _, _ => none
  | n + 1, mdi, mll, mld, mpl, x5 =>
  if mpr ≤ x5 then
    some (x4, mth, mlo, mim, mdi, mlg, mly, mll, mld, mpl)
  else
    ck x5 40 <|
    if (mpg x5.toNatClampNeg) = x1 then
      ck x5 40 <|
      if (mpu x5.toNatClampNeg) < mto then
        f_X7_in_J150 mdi mll mld mpl x4 x5 (fun mdi mll mld mpl x5 => f_X7_in_L88 mth mlo mpr mto mim mlg mly mpg mpu x1 x4 n mdi mll mld mpl x5) 
      else
        ck x5 40 <|
        if (lg_cmp (mpl x5.toNatClampNeg) (0 : Int64)) ≤ 0 then
          f_X7_in_J150 mdi mll mld mpl x4 x5 (fun mdi mll mld mpl x5 => f_X7_in_L88 mth mlo mpr mto mim mlg mly mpg mpu x1 x4 n mdi mll mld mpl x5) 
        else
          ck x4 200 <|
          if (lg_cmp (mll x4.toNatClampNeg) (0 : Int64)) ≤ 0 then
            f_X7_in_J150 mdi mll mld mpl x4 x5 (fun mdi mll mld mpl x5 => f_X7_in_L88 mth mlo mpr mto mim mlg mly mpg mpu x1 x4 n mdi mll mld mpl x5) 
          else
            f_X7_in_J151 mdi mll mld mpl x4 x5 (fun mdi mll mld mpl x5 => f_X7_in_L88 mth mlo mpr mto mim mlg mly mpg mpu x1 x4 n mdi mll mld mpl x5) (1 : Int32)
    else
      f_X7_in_J150 mdi mll mld mpl x4 x5 (fun mdi mll mld mpl x5 => f_X7_in_L88 mth mlo mpr mto mim mlg mly mpg mpu x1 x4 n mdi mll mld mpl x5) 
set_option maxHeartbeats 4000000 in
set_option maxRecDepth 100000 in
theorem w_X7_in_L88 {p : Program} {l : Launch} {e : Env} {s : State} {m : MethodId} {args : Array Value} {below : List Frame} {meth : Method} {c : Code} {A : Nat → Prop} {D : va_G} {cI cJ cZ : ClassId} {b : Nat → Nat} {mth : Int32} {mlo : Int32} {mre : Int32} {mpr : Int32} {mto : Int32} {mim : Int64} {mow : Int64} {mit : Int64} {mvl : Nat → Int32} {mhs : Nat → Int32} {mns : Nat → Int32} {mby : Nat → Int32} {mng : Nat → Int32} {mnu : Nat → Int32} {mnd : Nat → Int32} {mbg : Nat → Int32} {mbu : Nat → Int32} {mbd : Nat → Int32} {mlg : Nat → Int32} {mly : Nat → Int32} {mpg : Nat → Int32} {mpu : Nat → Int32} {mtd : Int64} {mti : Int64} {mwt : Nat → Int64} {mch : Nat → Int64} (C : gC p s m args meth c cX7_in 9 (some .int) wsX7_in RX7 A) {x1 : Int32} {x4 : Int32} {o : Int32 × (Int32) × (Int32) × (Int64) × (Int64) × (Nat → Int32) × (Nat → Int32) × (Nat → Int64) × (Nat → Int64) × (Nat → Int64)} :
    ∀ (n : Nat) (mdi : Int64) (mll : Nat → Int64) (mld : Nat → Int64) (mpl : Nat → Int64) (x5 : Int32) (H : Heap) (locs : List Loc) (ls : Array Slot), vE s A D (gT cI cJ cZ) (mW b cI cJ cZ mth mlo mre mpr mto mim mdi mow mit mvl mhs mns mby mng mnu mnd mbg mbu mbd mlg mly mll mld mpg mpu mpl mtd mti mwt mch) H locs → lv_has ls 9 [(0, .ref (b 0)), (1, .int x1), (4, .int x4), (5, .int x5)] → f_X7_in_L88 mth mlo mpr mto mim mlg mly mpg mpu x1 x4 n mdi mll mld mpl x5 = some o → W p l e rm_X7_in s m args below meth c H locs 0 0 (MQ below (gQi D (gT cI cJ cZ) A (mW b cI cJ cZ o.2.1 o.2.2.1 mre mpr mto o.2.2.2.1 o.2.2.2.2.1 mow mit mvl mhs mns mby mng mnu mnd mbg mbu mbd o.2.2.2.2.2.1 o.2.2.2.2.2.2.1 o.2.2.2.2.2.2.2.1 o.2.2.2.2.2.2.2.2.1 mpg mpu o.2.2.2.2.2.2.2.2.2 mtd mti mwt mch) o.1) args s 0 0 A) (F0 m 88 ls []) := by
  obtain ⟨hx, hb, hr, hml, hown, hts, hlocks, hN, hA⟩ := id C
  intro n
  induction n with
  | zero =>
    intro mdi mll mld mpl x5 H locs ls E hl hf
    rw [f_X7_in_L88] at hf
    cases hf
  | succ n ih =>
    intro mdi mll mld mpl x5 H locs ls E hl hf
    rw [f_X7_in_L88] at hf
    refine lv_iload hx hb dX7_in_88 (lv_at hl 3 rfl) ?_
    refine lv_aload_n hx hb dX7_in_90 rfl (lv_at hl 0 rfl) ?_
    refine g_get C E 0 3 (fun _ h => List.mem_cons_of_mem _ (List.mem_append_right _ h)) rfl rfl (by decide) (List.mem_of_getElem? (i := 6) rfl) rfl rfl dX7_in_91 ?_
    refine lv_icmp_ge (tgt := 239) hx hb dX7_in_94 (by decide) (fun c1 => ?_) (fun c1 => ?_)
    · rw [if_pos c1] at hf
      refine lv_iload hx hb dX7_in_239 (lv_at hl 2 rfl) ?_
      obtain rfl := Option.some.inj hf
      exact g_iret C E dX7_in_241
    · rw [if_neg c1] at hf
      refine lv_aload_n hx hb dX7_in_97 rfl (lv_at hl 0 rfl) ?_
      refine g_get C E 0 23 (fun _ h => List.mem_cons_of_mem _ (List.mem_append_right _ h)) rfl rfl (by decide) (List.mem_of_getElem? (i := 7) rfl) rfl rfl dX7_in_98 ?_
      refine lv_iload hx hb dX7_in_101 (lv_at hl 3 rfl) ?_
      obtain ⟨h2, hf⟩ := ck_some hf
      refine g_iald C E 15 rfl h2 dX7_in_103 ?_
      refine lv_iload_n hx hb dX7_in_104 rfl (lv_at hl 1 rfl) ?_
      refine lv_icmp_ne (tgt := 150) hx hb dX7_in_105 (by decide) (fun c3 => ?_) (fun c3 => ?_)
      · rw [if_neg c3] at hf
        exact w_X7_in_J150 C ih E (lv_sub hl [0, 1, 2, 3] rfl) hf
      · rw [if_pos c3] at hf
        refine lv_aload_n hx hb dX7_in_108 rfl (lv_at hl 0 rfl) ?_
        refine g_get C E 0 24 (fun _ h => List.mem_cons_of_mem _ (List.mem_append_right _ h)) rfl rfl (by decide) (List.mem_of_getElem? (i := 8) rfl) rfl rfl dX7_in_109 ?_
        refine lv_iload hx hb dX7_in_112 (lv_at hl 3 rfl) ?_
        obtain ⟨h4, hf⟩ := ck_some hf
        refine g_iald C E 16 rfl h4 dX7_in_114 ?_
        refine lv_aload_n hx hb dX7_in_115 rfl (lv_at hl 0 rfl) ?_
        refine g_get C E 0 4 (fun _ h => List.mem_cons_of_mem _ (List.mem_append_right _ h)) rfl rfl (by decide) (List.mem_of_getElem? (i := 9) rfl) rfl rfl dX7_in_116 ?_
        refine lv_icmp_lt (tgt := 150) hx hb dX7_in_119 (by decide) (fun c5 => ?_) (fun c5 => ?_)
        · rw [if_pos c5] at hf
          exact w_X7_in_J150 C ih E (lv_sub hl [0, 1, 2, 3] rfl) hf
        · rw [if_neg c5] at hf
          refine lv_aload_n hx hb dX7_in_122 rfl (lv_at hl 0 rfl) ?_
          refine g_get C E 0 25 (fun _ h => List.mem_cons_of_mem _ (List.mem_append_right _ h)) rfl rfl (by decide) (List.mem_of_getElem? (i := 10) rfl) rfl rfl dX7_in_123 ?_
          refine lv_iload hx hb dX7_in_126 (lv_at hl 3 rfl) ?_
          obtain ⟨h6, hf⟩ := ck_some hf
          refine g_lald C E 17 rfl h6 dX7_in_128 ?_
          refine lv_lconst (v := 0) hx hb dX7_in_129 (by decide) ?_
          refine W.lcmp hx hb dX7_in_130 ?_
          refine lv_if_le (tgt := 150) hx hb dX7_in_131 (by decide) (fun c7 => ?_) (fun c7 => ?_)
          · rw [if_pos c7] at hf
            exact w_X7_in_J150 C ih E (lv_sub hl [0, 1, 2, 3] rfl) hf
          · rw [if_neg c7] at hf
            refine lv_aload_n hx hb dX7_in_134 rfl (lv_at hl 0 rfl) ?_
            refine g_get C E 0 21 (fun _ h => List.mem_cons_of_mem _ (List.mem_append_right _ h)) rfl rfl (by decide) (List.mem_of_getElem? (i := 11) rfl) rfl rfl dX7_in_135 ?_
            refine lv_iload hx hb dX7_in_138 (lv_at hl 2 rfl) ?_
            obtain ⟨h8, hf⟩ := ck_some hf
            refine g_lald C E 13 rfl h8 dX7_in_140 ?_
            refine lv_lconst (v := 0) hx hb dX7_in_141 (by decide) ?_
            refine W.lcmp hx hb dX7_in_142 ?_
            refine lv_if_le (tgt := 150) hx hb dX7_in_143 (by decide) (fun c9 => ?_) (fun c9 => ?_)
            · rw [if_pos c9] at hf
              exact w_X7_in_J150 C ih E (lv_sub hl [0, 1, 2, 3] rfl) hf
            · rw [if_neg c9] at hf
              refine lv_iconst (v := 1) hx hb dX7_in_146 (by decide) ?_
              refine lv_goto (tgt := 151) hx hb dX7_in_147 (by decide) ?_
              exact w_X7_in_J151 C ih E (lv_sub hl [0, 1, 2, 3] rfl) hf
def f_X7_in_J51 (mlo : Int32) (mpr : Int32) (mto : Int32) (mim : Int64) (mdi : Int64) (mlg : Nat → Int32) (mly : Nat → Int32) (mll : Nat → Int64) (mld : Nat → Int64) (mpg : Nat → Int32) (mpu : Nat → Int32) (mpl : Nat → Int64) (x1 : Int32) (x2 : Int32) (x3 : Int32) (t1 : Int32) : Option (Int32 × (Int32) × (Int32) × (Int64) × (Int64) × (Nat → Int32) × (Nat → Int32) × (Nat → Int64) × (Nat → Int64) × (Nat → Int64)) :=
  if t1 ≤ 0 then
    (f_X7_newLot mlo mto mlg mly mll mld x1 x2.toInt64 x3.toInt64).bind fun o2 =>
    f_X7_in_L88 t1 o2.2.1 mpr mto (mim + x3.toInt64) o2.2.2.1 o2.2.2.2.1 mpg mpu x1 o2.1 FU mdi o2.2.2.2.2.1 o2.2.2.2.2.2 mpl (0 : Int32)
  else
    some ((0 : Int32), t1, mlo, mim, mdi, mlg, mly, mll, mld, mpl)
set_option maxHeartbeats 4000000 in
set_option maxRecDepth 100000 in
theorem w_X7_in_J51 {p : Program} {l : Launch} {e : Env} {s : State} {m : MethodId} {args : Array Value} {below : List Frame} {meth : Method} {c : Code} {A : Nat → Prop} {D : va_G} {cI cJ cZ : ClassId} {b : Nat → Nat} {mth : Int32} {mlo : Int32} {mre : Int32} {mpr : Int32} {mto : Int32} {mim : Int64} {mdi : Int64} {mow : Int64} {mit : Int64} {mvl : Nat → Int32} {mhs : Nat → Int32} {mns : Nat → Int32} {mby : Nat → Int32} {mng : Nat → Int32} {mnu : Nat → Int32} {mnd : Nat → Int32} {mbg : Nat → Int32} {mbu : Nat → Int32} {mbd : Nat → Int32} {mlg : Nat → Int32} {mly : Nat → Int32} {mll : Nat → Int64} {mld : Nat → Int64} {mpg : Nat → Int32} {mpu : Nat → Int32} {mpl : Nat → Int64} {mtd : Int64} {mti : Int64} {mwt : Nat → Int64} {mch : Nat → Int64} (C : gC p s m args meth c cX7_in 9 (some .int) wsX7_in RX7 A) {x1 : Int32} {x2 : Int32} {x3 : Int32} {o : Int32 × (Int32) × (Int32) × (Int64) × (Int64) × (Nat → Int32) × (Nat → Int32) × (Nat → Int64) × (Nat → Int64) × (Nat → Int64)} {t1 : Int32} {H : Heap} {locs : List Loc} {ls : Array Slot} (E : vE s A D (gT cI cJ cZ) (mW b cI cJ cZ mth mlo mre mpr mto mim mdi mow mit mvl mhs mns mby mng mnu mnd mbg mbu mbd mlg mly mll mld mpg mpu mpl mtd mti mwt mch) H locs) (hl : lv_has ls 9 [(0, .ref (b 0)), (1, .int x1), (2, .int x2), (3, .int x3)]) (hf : f_X7_in_J51 mlo mpr mto mim mdi mlg mly mll mld mpg mpu mpl x1 x2 x3 t1 = some o) : W p l e rm_X7_in s m args below meth c H locs 0 0 (MQ below (gQi D (gT cI cJ cZ) A (mW b cI cJ cZ o.2.1 o.2.2.1 mre mpr mto o.2.2.2.1 o.2.2.2.2.1 mow mit mvl mhs mns mby mng mnu mnd mbg mbu mbd o.2.2.2.2.2.1 o.2.2.2.2.2.2.1 o.2.2.2.2.2.2.2.1 o.2.2.2.2.2.2.2.2.1 mpg mpu o.2.2.2.2.2.2.2.2.2 mtd mti mwt mch) o.1) args s 0 0 A) (F0 m 51 ls [.int t1, .ref (b 0)]) := by
  obtain ⟨hx, hb, hr, hml, hown, hts, hlocks, hN, hA⟩ := id C
  rw [f_X7_in_J51] at hf
  refine g_put (w' := (mW b cI cJ cZ t1 mlo mre mpr mto mim mdi mow mit mvl mhs mns mby mng mnu mnd mbg mbu mbd mlg mly mll mld mpg mpu mpl mtd mti mwt mch)) C E 0 0 tyX7 tyX7_ok nmX7 (fun _ h => List.mem_cons_of_mem _ (List.mem_append_right _ h)) rfl rfl (by decide) (List.mem_of_getElem? (i := 4) rfl) rfl rfl rfl rfl rfl (Nat.le_of_ble_eq_true rfl) dX7_in_51 rfl (fun H locs E => ?_)
  refine lv_aload_n hx hb dX7_in_54 rfl (lv_at hl 0 rfl) ?_
  refine g_get C E 0 0 (fun _ h => List.mem_cons_of_mem _ (List.mem_append_right _ h)) rfl rfl (by decide) (List.mem_of_getElem? (i := 4) rfl) rfl rfl dX7_in_55 ?_
  refine lv_if_le (tgt := 63) hx hb dX7_in_58 (by decide) (fun c1 => ?_) (fun c1 => ?_)
  · rw [if_pos c1] at hf
    refine lv_aload_n hx hb dX7_in_63 rfl (lv_at hl 0 rfl) ?_
    refine lv_dup hx hb dX7_in_64 rfl ?_
    refine g_get C E 0 5 (fun _ h => List.mem_cons_of_mem _ (List.mem_append_right _ h)) rfl rfl (by decide) (List.mem_of_getElem? (i := 5) rfl) rfl rfl dX7_in_65 ?_
    refine lv_iload_n hx hb dX7_in_68 rfl (lv_at hl 3 rfl) ?_
    refine lv_i2l hx hb dX7_in_69 rfl ?_
    refine lv_ladd hx hb dX7_in_70 ?_
    refine g_put (w' := (mW b cI cJ cZ t1 mlo mre mpr mto (mim + x3.toInt64) mdi mow mit mvl mhs mns mby mng mnu mnd mbg mbu mbd mlg mly mll mld mpg mpu mpl mtd mti mwt mch)) C E 0 5 tyX7 tyX7_ok nmX7 (fun _ h => List.mem_cons_of_mem _ (List.mem_append_right _ h)) rfl rfl (by decide) (List.mem_of_getElem? (i := 5) rfl) rfl rfl rfl rfl rfl (Nat.le_of_ble_eq_true rfl) dX7_in_71 rfl (fun H locs E => ?_)
    refine lv_aload_n hx hb dX7_in_74 rfl (lv_at hl 0 rfl) ?_
    refine lv_iload_n hx hb dX7_in_75 rfl (lv_at hl 1 rfl) ?_
    refine lv_iload_n hx hb dX7_in_76 rfl (lv_at hl 2 rfl) ?_
    refine lv_i2l hx hb dX7_in_77 rfl ?_
    refine lv_iload_n hx hb dX7_in_78 rfl (lv_at hl 3 rfl) ?_
    refine lv_i2l hx hb dX7_in_79 rfl ?_
    obtain ⟨o2, e3, hf⟩ := bd_some hf
    refine g_calli (w' := (mW b cI cJ cZ t1 o2.2.1 mre mpr mto (mim + x3.toInt64) mdi mow mit mvl mhs mns mby mng mnu mnd mbg mbu mbd o2.2.2.1 o2.2.2.2.1 o2.2.2.2.2.1 o2.2.2.2.2.2 mpg mpu mpl mtd mti mwt mch)) C E (g_runV (As := [.int x1, .long x2.toInt64, .long x3.toInt64]) (rest := []) C E (c_X7_newLot e3) (cwV 3 hts gX7_in_X7_newLot rfl rfl rfl ⟨rfl, hd_X7_newLot⟩ ⟨Nat.le_of_ble_eq_true rfl, Nat.le_of_ble_eq_true rfl⟩) (q0 := 0) (ci := 7) rfl rfl rfl rfl hl.1 rfl (Nat.le_of_ble_eq_true rfl) dX7_in_80 ⟨Nat.le_of_ble_eq_true rfl, Nat.le_of_ble_eq_true rfl⟩) (fun H locs E => ?_)
    refine lv_istore (lv' := [(4, .int o2.1), (0, .ref (b 0)), (1, .int x1), (2, .int x2), (3, .int x3)]) hx hb dX7_in_83 hl (by decide) rfl (fun ls hl => ?_)
    refine lv_iconst (v := 0) hx hb dX7_in_85 (by decide) ?_
    refine lv_istore (lv' := [(5, .int (0 : Int32)), (4, .int o2.1), (0, .ref (b 0)), (1, .int x1), (2, .int x2), (3, .int x3)]) hx hb dX7_in_86 hl (by decide) rfl (fun ls hl => ?_)
    exact w_X7_in_L88 C  FU mdi o2.2.2.2.2.1 o2.2.2.2.2.2 mpl (0 : Int32) _ _ _ E (lv_sub hl [2, 3, 1, 0] rfl) hf
  · rw [if_neg c1] at hf
    refine lv_iconst (v := 0) hx hb dX7_in_61 (by decide) ?_
    obtain rfl := Option.some.inj hf
    exact g_iret C E dX7_in_62
def f_X7_in_J32 (mlo : Int32) (mpr : Int32) (mto : Int32) (mim : Int64) (mdi : Int64) (mlg : Nat → Int32) (mly : Nat → Int32) (mll : Nat → Int64) (mld : Nat → Int64) (mpg : Nat → Int32) (mpu : Nat → Int32) (mpl : Nat → Int64) (x1 : Int32) (x2 : Int32) (x3 : Int32) : Option (Int32 × (Int32) × (Int32) × (Int64) × (Int64) × (Nat → Int32) × (Nat → Int32) × (Nat → Int64) × (Nat → Int64) × (Nat → Int64)) :=
  f_X7_in_J51 mlo mpr mto mim mdi mlg mly mll mld mpg mpu mpl x1 x2 x3 (1 : Int32)
set_option maxHeartbeats 4000000 in
set_option maxRecDepth 100000 in
theorem w_X7_in_J32 {p : Program} {l : Launch} {e : Env} {s : State} {m : MethodId} {args : Array Value} {below : List Frame} {meth : Method} {c : Code} {A : Nat → Prop} {D : va_G} {cI cJ cZ : ClassId} {b : Nat → Nat} {mth : Int32} {mlo : Int32} {mre : Int32} {mpr : Int32} {mto : Int32} {mim : Int64} {mdi : Int64} {mow : Int64} {mit : Int64} {mvl : Nat → Int32} {mhs : Nat → Int32} {mns : Nat → Int32} {mby : Nat → Int32} {mng : Nat → Int32} {mnu : Nat → Int32} {mnd : Nat → Int32} {mbg : Nat → Int32} {mbu : Nat → Int32} {mbd : Nat → Int32} {mlg : Nat → Int32} {mly : Nat → Int32} {mll : Nat → Int64} {mld : Nat → Int64} {mpg : Nat → Int32} {mpu : Nat → Int32} {mpl : Nat → Int64} {mtd : Int64} {mti : Int64} {mwt : Nat → Int64} {mch : Nat → Int64} (C : gC p s m args meth c cX7_in 9 (some .int) wsX7_in RX7 A) {x1 : Int32} {x2 : Int32} {x3 : Int32} {o : Int32 × (Int32) × (Int32) × (Int64) × (Int64) × (Nat → Int32) × (Nat → Int32) × (Nat → Int64) × (Nat → Int64) × (Nat → Int64)} {H : Heap} {locs : List Loc} {ls : Array Slot} (E : vE s A D (gT cI cJ cZ) (mW b cI cJ cZ mth mlo mre mpr mto mim mdi mow mit mvl mhs mns mby mng mnu mnd mbg mbu mbd mlg mly mll mld mpg mpu mpl mtd mti mwt mch) H locs) (hl : lv_has ls 9 [(0, .ref (b 0)), (1, .int x1), (2, .int x2), (3, .int x3)]) (hf : f_X7_in_J32 mlo mpr mto mim mdi mlg mly mll mld mpg mpu mpl x1 x2 x3 = some o) : W p l e rm_X7_in s m args below meth c H locs 0 0 (MQ below (gQi D (gT cI cJ cZ) A (mW b cI cJ cZ o.2.1 o.2.2.1 mre mpr mto o.2.2.2.1 o.2.2.2.2.1 mow mit mvl mhs mns mby mng mnu mnd mbg mbu mbd o.2.2.2.2.2.1 o.2.2.2.2.2.2.1 o.2.2.2.2.2.2.2.1 o.2.2.2.2.2.2.2.2.1 mpg mpu o.2.2.2.2.2.2.2.2.2 mtd mti mwt mch) o.1) args s 0 0 A) (F0 m 32 ls [.ref (b 0)]) := by
  obtain ⟨hx, hb, hr, hml, hown, hts, hlocks, hN, hA⟩ := id C
  rw [f_X7_in_J32] at hf
  refine lv_iconst (v := 1) hx hb dX7_in_32 (by decide) ?_
  refine lv_goto (tgt := 51) hx hb dX7_in_33 (by decide) ?_
  exact w_X7_in_J51 C  E (lv_sub hl [0, 1, 2, 3] rfl) hf
def f_X7_in (mth : Int32) (mlo : Int32) (mpr : Int32) (mto : Int32) (mim : Int64) (mdi : Int64) (mlg : Nat → Int32) (mly : Nat → Int32) (mll : Nat → Int64) (mld : Nat → Int64) (mpg : Nat → Int32) (mpu : Nat → Int32) (mpl : Nat → Int64) (x1 : Int32) (x2 : Int32) (x3 : Int32) : Option (Int32 × (Int32) × (Int32) × (Int64) × (Int64) × (Nat → Int32) × (Nat → Int32) × (Nat → Int64) × (Nat → Int64) × (Nat → Int64)) :=
  (f_X7_isGood x1).bind fun o1 =>
  if o1 = 0 then
    f_X7_in_J32 mlo mpr mto mim mdi mlg mly mll mld mpg mpu mpl x1 x2 x3 
  else
    (f_X7_within x2.toInt64 (1 : Int64) (10000 : Int64)).bind fun o4 =>
    if o4 = 0 then
      f_X7_in_J32 mlo mpr mto mim mdi mlg mly mll mld mpg mpu mpl x1 x2 x3 
    else
      (f_X7_within x3.toInt64 (0 : Int64) (1000000 : Int64)).bind fun o7 =>
      if o7 = 0 then
        f_X7_in_J32 mlo mpr mto mim mdi mlg mly mll mld mpg mpu mpl x1 x2 x3 
      else
        if mlo = (200 : Int32) then
          f_X7_in_J51 mlo mpr mto mim mdi mlg mly mll mld mpg mpu mpl x1 x2 x3 (2 : Int32)
        else
          f_X7_in_J51 mlo mpr mto mim mdi mlg mly mll mld mpg mpu mpl x1 x2 x3 (0 : Int32)
set_option maxHeartbeats 4000000 in
set_option maxRecDepth 100000 in
theorem c_X7_in {l : Launch} {D : va_G} {cI cJ cZ : ClassId} {b : Nat → Nat} {sz : Nat} {mth : Int32} {mlo : Int32} {mre : Int32} {mpr : Int32} {mto : Int32} {mim : Int64} {mdi : Int64} {mow : Int64} {mit : Int64} {mvl : Nat → Int32} {mhs : Nat → Int32} {mns : Nat → Int32} {mby : Nat → Int32} {mng : Nat → Int32} {mnu : Nat → Int32} {mnd : Nat → Int32} {mbg : Nat → Int32} {mbu : Nat → Int32} {mbd : Nat → Int32} {mlg : Nat → Int32} {mly : Nat → Int32} {mll : Nat → Int64} {mld : Nat → Int64} {mpg : Nat → Int32} {mpu : Nat → Int32} {mpl : Nat → Int64} {mtd : Int64} {mti : Int64} {mwt : Nat → Int64} {mch : Nat → Int64} {x1 : Int32} {x2 : Int32} {x3 : Int32} {o : Int32 × (Int32) × (Int32) × (Int64) × (Int64) × (Nat → Int32) × (Nat → Int32) × (Nat → Int64) × (Nat → Int64) × (Nat → Int64)} (hf : f_X7_in mth mlo mpr mto mim mdi mlg mly mll mld mpg mpu mpl x1 x2 x3 = some o) : gMi l yX7_in wsX7_in rm_X7_in D (gT cI cJ cZ) (mW b cI cJ cZ mth mlo mre mpr mto mim mdi mow mit mvl mhs mns mby mng mnu mnd mbg mbu mbd mlg mly mll mld mpg mpu mpl mtd mti mwt mch) (mW b cI cJ cZ o.2.1 o.2.2.1 mre mpr mto o.2.2.2.1 o.2.2.2.2.1 mow mit mvl mhs mns mby mng mnu mnd mbg mbu mbd o.2.2.2.2.2.1 o.2.2.2.2.2.2.1 o.2.2.2.2.2.2.2.1 o.2.2.2.2.2.2.2.2.1 mpg mpu o.2.2.2.2.2.2.2.2.2 mtd mti mwt mch) sz [.ref (b 0), .int x1, .int x2, .int x3] o.1 := by
  refine g_of (cc := cX7_in) (maxL := 9) (ret := (some .int)) (by decide) rfl (Nat.le_of_ble_eq_true rfl) ?_
  intro p e s m below meth c A ls hAe C hl E
  rw [← hAe]
  obtain ⟨hx, hb, hr, hml, hown, hts, hlocks, hN, hA⟩ := id C
  have hl : lv_has ls 9 [(0, .ref (b 0)), (1, .int x1), (2, .int x2), (3, .int x3)] := hl
  have E : vE s A D (gT cI cJ cZ) (mW b cI cJ cZ mth mlo mre mpr mto mim mdi mow mit mvl mhs mns mby mng mnu mnd mbg mbu mbd mlg mly mll mld mpg mpu mpl mtd mti mwt mch) s.heap [] := E
  rw [f_X7_in] at hf
  refine lv_aload_n hx hb dX7_in_0 rfl (lv_at hl 0 rfl) ?_
  refine lv_iload_n hx hb dX7_in_1 rfl (lv_at hl 1 rfl) ?_
  obtain ⟨o1, e2, hf⟩ := bd_some hf
  refine g_calli (w' := (mW b cI cJ cZ mth mlo mre mpr mto mim mdi mow mit mvl mhs mns mby mng mnu mnd mbg mbu mbd mlg mly mll mld mpg mpu mpl mtd mti mwt mch)) C E (g_runS (As := [.int x1]) (rest := [.ref (b 0)]) C E (c_X7_isGood e2) (va_cwS 1 hts gX7_in_X7_isGood rfl rfl rfl hd_X7_isGood ⟨Nat.le_of_ble_eq_true rfl, Nat.le_of_ble_eq_true rfl⟩) rfl hl.1 rfl (Nat.le_of_ble_eq_true rfl) dX7_in_2 ⟨Nat.le_of_ble_eq_true rfl, Nat.le_of_ble_eq_true rfl⟩) (fun H locs E => ?_)
  refine lv_if_eq (tgt := 32) hx hb dX7_in_5 (by decide) (fun c3 => ?_) (fun c3 => ?_)
  · rw [if_pos c3] at hf
    exact w_X7_in_J32 C  E (lv_sub hl [0, 1, 2, 3] rfl) hf
  · rw [if_neg c3] at hf
    refine lv_iload_n hx hb dX7_in_8 rfl (lv_at hl 2 rfl) ?_
    refine lv_i2l hx hb dX7_in_9 rfl ?_
    refine lv_lconst (v := 1) hx hb dX7_in_10 (by decide) ?_
    refine lv_ldc2 (v := 10000) hx hb hown (hts (.constantLong RX7 83 (10000)) (List.mem_of_getElem? (i := 1) rfl)) dX7_in_11 ?_
    obtain ⟨o4, e5, hf⟩ := bd_some hf
    refine g_calli (w' := (mW b cI cJ cZ mth mlo mre mpr mto mim mdi mow mit mvl mhs mns mby mng mnu mnd mbg mbu mbd mlg mly mll mld mpg mpu mpl mtd mti mwt mch)) C E (g_runS (As := [.long x2.toInt64, .long (1 : Int64), .long (10000 : Int64)]) (rest := [.ref (b 0)]) C E (c_X7_within e5) (va_cwS 3 hts gX7_in_X7_within rfl rfl rfl hd_X7_within ⟨Nat.le_of_ble_eq_true rfl, Nat.le_of_ble_eq_true rfl⟩) rfl hl.1 rfl (Nat.le_of_ble_eq_true rfl) dX7_in_14 ⟨Nat.le_of_ble_eq_true rfl, Nat.le_of_ble_eq_true rfl⟩) (fun H locs E => ?_)
    refine lv_if_eq (tgt := 32) hx hb dX7_in_17 (by decide) (fun c6 => ?_) (fun c6 => ?_)
    · rw [if_pos c6] at hf
      exact w_X7_in_J32 C  E (lv_sub hl [0, 1, 2, 3] rfl) hf
    · rw [if_neg c6] at hf
      refine lv_iload_n hx hb dX7_in_20 rfl (lv_at hl 3 rfl) ?_
      refine lv_i2l hx hb dX7_in_21 rfl ?_
      refine lv_lconst (v := 0) hx hb dX7_in_22 (by decide) ?_
      refine lv_ldc2 (v := 1000000) hx hb hown (hts (.constantLong RX7 129 (1000000)) (List.mem_of_getElem? (i := 2) rfl)) dX7_in_23 ?_
      obtain ⟨o7, e8, hf⟩ := bd_some hf
      refine g_calli (w' := (mW b cI cJ cZ mth mlo mre mpr mto mim mdi mow mit mvl mhs mns mby mng mnu mnd mbg mbu mbd mlg mly mll mld mpg mpu mpl mtd mti mwt mch)) C E (g_runS (As := [.long x3.toInt64, .long (0 : Int64), .long (1000000 : Int64)]) (rest := [.ref (b 0)]) C E (c_X7_within e8) (va_cwS 3 hts gX7_in_X7_within rfl rfl rfl hd_X7_within ⟨Nat.le_of_ble_eq_true rfl, Nat.le_of_ble_eq_true rfl⟩) rfl hl.1 rfl (Nat.le_of_ble_eq_true rfl) dX7_in_26 ⟨Nat.le_of_ble_eq_true rfl, Nat.le_of_ble_eq_true rfl⟩) (fun H locs E => ?_)
      refine lv_if_ne (tgt := 36) hx hb dX7_in_29 (by decide) (fun c9 => ?_) (fun c9 => ?_)
      · rw [if_neg c9] at hf
        refine lv_aload_n hx hb dX7_in_36 rfl (lv_at hl 0 rfl) ?_
        refine g_get C E 0 1 (fun _ h => List.mem_cons_of_mem _ (List.mem_append_right _ h)) rfl rfl (by decide) (List.mem_of_getElem? (i := 3) rfl) rfl rfl dX7_in_37 ?_
        refine lv_sipush (v := 200) hx hb dX7_in_40 (by decide) ?_
        refine lv_icmp_ne (tgt := 50) hx hb dX7_in_43 (by decide) (fun c10 => ?_) (fun c10 => ?_)
        · rw [if_neg c10] at hf
          refine lv_iconst (v := 0) hx hb dX7_in_50 (by decide) ?_
          exact w_X7_in_J51 C  E (lv_sub hl [0, 1, 2, 3] rfl) hf
        · rw [if_pos c10] at hf
          refine lv_iconst (v := 2) hx hb dX7_in_46 (by decide) ?_
          refine lv_goto (tgt := 51) hx hb dX7_in_47 (by decide) ?_
          exact w_X7_in_J51 C  E (lv_sub hl [0, 1, 2, 3] rfl) hf
      · rw [if_pos c9] at hf
        exact w_X7_in_J32 C  E (lv_sub hl [0, 1, 2, 3] rfl) hf
