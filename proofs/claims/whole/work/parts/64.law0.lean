theorem vE_as {s : State} {A : Nat → Prop} {D : va_G} {tys : List (ClassId × FieldType)} {u v w : va_W} {H : Heap} {locs : List Loc} (E : vE s A D tys ((u ++ v) ++ w) H locs) : vE s A D tys (u ++ (v ++ w)) H locs := by
  rw [List.append_assoc] at E
  exact E
theorem vE_sa {s : State} {A : Nat → Prop} {D : va_G} {tys : List (ClassId × FieldType)} {u v w : va_W} {H : Heap} {locs : List Loc} (E : vE s A D tys (u ++ (v ++ w)) H locs) : vE s A D tys ((u ++ v) ++ w) H locs := by
  rw [List.append_assoc]
  exact E
def f_L_law_J1083 (xs : Nat → Int32) (L : Nat) (vl : Nat → Int32) (hs : Nat → Int32) (isz : Nat → Int32) (igd : Nat → Int32) (iup : Nat → Int32) (idn : Nat → Int32) (osz : Nat → Int32) (ogd : Nat → Int32) (oup : Nat → Int32) (odn : Nat → Int32) (dep : Nat → Int32) (rsz : Int32) (lgd : Nat → Int32) (llf : Nat → Int64) (ldb : Nat → Int64) (ldy : Nat → Int32) (lsz : Int32) (lti : Int64) (pgd : Nat → Int32) (plf : Nat → Int64) (pun : Nat → Int32) (psz : Int32) (bgd : Nat → Int32) (bam : Nat → Int64) (bwt : Nat → Int64) (bsh : Nat → Int64) (brm : Nat → Int64) (bsz : Int32) (cab : Nat → Int64) (cbl : Nat → Int64) (tod : Int32) (imp : Int64) (dis : Int64) (owe : Int64) (itr : Int64) (out : Nat → Int64) (mth : Int32) (mlo : Int32) (mre : Int32) (mpr : Int32) (mto : Int32) (mim : Int64) (mdi : Int64) (mow : Int64) (mit : Int64) (mvl : Nat → Int32) (mhs : Nat → Int32) (mns : Nat → Int32) (mby : Nat → Int32) (mng : Nat → Int32) (mnu : Nat → Int32) (mnd : Nat → Int32) (mbg : Nat → Int32) (mbu : Nat → Int32) (mbd : Nat → Int32) (mlg : Nat → Int32) (mly : Nat → Int32) (mll : Nat → Int64) (mld : Nat → Int64) (mpg : Nat → Int32) (mpu : Nat → Int32) (mpl : Nat → Int64) (mtd : Int64) (mti : Int64) (mwt : Nat → Int64) (mch : Nat → Int64) (x4 : Int32) (k23 : (Nat → Int32) → (Nat → Int32) → (Nat → Int32) → (Nat → Int32) → (Nat → Int32) → (Nat → Int32) → (Nat → Int32) → (Nat → Int32) → (Nat → Int32) → (Nat → Int32) → (Nat → Int32) → (Int32) → (Nat → Int32) → (Nat → Int64) → (Nat → Int64) → (Nat → Int32) → (Int32) → (Int64) → (Nat → Int32) → (Nat → Int64) → (Nat → Int32) → (Int32) → (Nat → Int32) → (Nat → Int64) → (Nat → Int64) → (Nat → Int64) → (Nat → Int64) → (Int32) → (Nat → Int64) → (Nat → Int64) → (Int32) → (Int64) → (Int64) → (Int64) → (Int64) → (Nat → Int64) → (Int32) → (Int32) → (Int32) → (Int32) → (Int32) → (Int64) → (Int64) → (Int64) → (Int64) → (Nat → Int32) → (Nat → Int32) → (Nat → Int32) → (Nat → Int32) → (Nat → Int32) → (Nat → Int32) → (Nat → Int32) → (Nat → Int32) → (Nat → Int32) → (Nat → Int32) → (Nat → Int32) → (Nat → Int32) → (Nat → Int64) → (Nat → Int64) → (Nat → Int32) → (Nat → Int32) → (Nat → Int64) → (Int64) → (Int64) → (Nat → Int64) → (Nat → Int64) → Int32 → Option Unit) : Option Unit :=
  ck (x4 + (1 : Int32)) L <|
  (f_X6_count rsz lsz psz tod (xs (x4 + (1 : Int32)).toNatClampNeg)).bind fun o2 =>
  ck (x4 + (1 : Int32)) L <|
  (f_X7_count mth mlo mre mpr mto (xs (x4 + (1 : Int32)).toNatClampNeg)).bind fun o5 =>
  if o2 = o5.1 then
    k23 vl hs isz igd iup idn osz ogd oup odn dep rsz lgd llf ldb ldy lsz lti pgd plf pun psz bgd bam bwt bsh brm bsz cab cbl tod imp dis owe itr out o5.2 mlo mre mpr mto mim mdi mow mit mvl mhs mns mby mng mnu mnd mbg mbu mbd mlg mly mll mld mpg mpu mpl mtd mti mwt mch (x4 + 5)
  else
    none
set_option maxHeartbeats 8000000 in
set_option maxRecDepth 100000 in
theorem w_L_law_J1083 {p : Program} {l : Launch} {e : Env} {s : State} {m : MethodId} {below : List Frame} {meth : Method} {c : Code} {D : va_G} {cI cJ cZ : ClassId} {a b : Nat → Nat} {q bs L : Nat} {xs : Nat → Int32} {vl : Nat → Int32} {hs : Nat → Int32} {isz : Nat → Int32} {igd : Nat → Int32} {iup : Nat → Int32} {idn : Nat → Int32} {osz : Nat → Int32} {ogd : Nat → Int32} {oup : Nat → Int32} {odn : Nat → Int32} {dep : Nat → Int32} {rsz : Int32} {lgd : Nat → Int32} {llf : Nat → Int64} {ldb : Nat → Int64} {ldy : Nat → Int32} {lsz : Int32} {lti : Int64} {pgd : Nat → Int32} {plf : Nat → Int64} {pun : Nat → Int32} {psz : Int32} {bgd : Nat → Int32} {bam : Nat → Int64} {bwt : Nat → Int64} {bsh : Nat → Int64} {brm : Nat → Int64} {bsz : Int32} {cab : Nat → Int64} {cbl : Nat → Int64} {tod : Int32} {imp : Int64} {dis : Int64} {owe : Int64} {itr : Int64} {out : Nat → Int64} {mth : Int32} {mlo : Int32} {mre : Int32} {mpr : Int32} {mto : Int32} {mim : Int64} {mdi : Int64} {mow : Int64} {mit : Int64} {mvl : Nat → Int32} {mhs : Nat → Int32} {mns : Nat → Int32} {mby : Nat → Int32} {mng : Nat → Int32} {mnu : Nat → Int32} {mnd : Nat → Int32} {mbg : Nat → Int32} {mbu : Nat → Int32} {mbd : Nat → Int32} {mlg : Nat → Int32} {mly : Nat → Int32} {mll : Nat → Int64} {mld : Nat → Int64} {mpg : Nat → Int32} {mpu : Nat → Int32} {mpl : Nat → Int64} {mtd : Int64} {mti : Int64} {mwt : Nat → Int64} {mch : Nat → Int64} {j : Nat} {x4 : Int32} (C : gC p s m #[Value.ref bs] meth c cL_law 8 ret wsL_law RL (fun z : Nat => s.heap.size ≤ z)) (hV : gV l s (fun z : Nat => s.heap.size ≤ z)) (hX : va_X bs L xs s s.heap) (hbl : bs < s.heap.size) (hj : j + 1 ≤ 514) {k23 : (Nat → Int32) → (Nat → Int32) → (Nat → Int32) → (Nat → Int32) → (Nat → Int32) → (Nat → Int32) → (Nat → Int32) → (Nat → Int32) → (Nat → Int32) → (Nat → Int32) → (Nat → Int32) → (Int32) → (Nat → Int32) → (Nat → Int64) → (Nat → Int64) → (Nat → Int32) → (Int32) → (Int64) → (Nat → Int32) → (Nat → Int64) → (Nat → Int32) → (Int32) → (Nat → Int32) → (Nat → Int64) → (Nat → Int64) → (Nat → Int64) → (Nat → Int64) → (Int32) → (Nat → Int64) → (Nat → Int64) → (Int32) → (Int64) → (Int64) → (Int64) → (Int64) → (Nat → Int64) → (Int32) → (Int32) → (Int32) → (Int32) → (Int32) → (Int64) → (Int64) → (Int64) → (Int64) → (Nat → Int32) → (Nat → Int32) → (Nat → Int32) → (Nat → Int32) → (Nat → Int32) → (Nat → Int32) → (Nat → Int32) → (Nat → Int32) → (Nat → Int32) → (Nat → Int32) → (Nat → Int32) → (Nat → Int32) → (Nat → Int64) → (Nat → Int64) → (Nat → Int32) → (Nat → Int32) → (Nat → Int64) → (Int64) → (Int64) → (Nat → Int64) → (Nat → Int64) → Int32 → Option Unit} (hk23 : ∀ (vl : Nat → Int32) (hs : Nat → Int32) (isz : Nat → Int32) (igd : Nat → Int32) (iup : Nat → Int32) (idn : Nat → Int32) (osz : Nat → Int32) (ogd : Nat → Int32) (oup : Nat → Int32) (odn : Nat → Int32) (dep : Nat → Int32) (rsz : Int32) (lgd : Nat → Int32) (llf : Nat → Int64) (ldb : Nat → Int64) (ldy : Nat → Int32) (lsz : Int32) (lti : Int64) (pgd : Nat → Int32) (plf : Nat → Int64) (pun : Nat → Int32) (psz : Int32) (bgd : Nat → Int32) (bam : Nat → Int64) (bwt : Nat → Int64) (bsh : Nat → Int64) (brm : Nat → Int64) (bsz : Int32) (cab : Nat → Int64) (cbl : Nat → Int64) (tod : Int32) (imp : Int64) (dis : Int64) (owe : Int64) (itr : Int64) (out : Nat → Int64) (mth : Int32) (mlo : Int32) (mre : Int32) (mpr : Int32) (mto : Int32) (mim : Int64) (mdi : Int64) (mow : Int64) (mit : Int64) (mvl : Nat → Int32) (mhs : Nat → Int32) (mns : Nat → Int32) (mby : Nat → Int32) (mng : Nat → Int32) (mnu : Nat → Int32) (mnd : Nat → Int32) (mbg : Nat → Int32) (mbu : Nat → Int32) (mbd : Nat → Int32) (mlg : Nat → Int32) (mly : Nat → Int32) (mll : Nat → Int64) (mld : Nat → Int64) (mpg : Nat → Int32) (mpu : Nat → Int32) (mpl : Nat → Int64) (mtd : Int64) (mti : Int64) (mwt : Nat → Int64) (mch : Nat → Int64) (x4 : Int32) (H : Heap) (locs : List Loc) (ls : Array Slot), vE s (fun z : Nat => s.heap.size ≤ z) D (gT cI cJ cZ) (((cW a cI cJ cZ vl hs isz igd iup idn osz ogd oup odn dep rsz lgd llf ldb ldy lsz lti pgd plf pun psz bgd bam bwt bsh brm bsz cab cbl tod imp dis owe itr) ++ [(q, .inl (cJ, 1, .inr (.inl out)))]) ++ (mW b cI cJ cZ mth mlo mre mpr mto mim mdi mow mit mvl mhs mns mby mng mnu mnd mbg mbu mbd mlg mly mll mld mpg mpu mpl mtd mti mwt mch)) H locs → lv_has ls 8 [(0, .ref bs), (1, .ref (a 0)), (2, .ref (b 0)), (3, .ref q), (4, .int x4)] → k23 vl hs isz igd iup idn osz ogd oup odn dep rsz lgd llf ldb ldy lsz lti pgd plf pun psz bgd bam bwt bsh brm bsz cab cbl tod imp dis owe itr out mth mlo mre mpr mto mim mdi mow mit mvl mhs mns mby mng mnu mnd mbg mbu mbd mlg mly mll mld mpg mpu mpl mtd mti mwt mch x4 = some () → W p l e room_1 s m #[Value.ref bs] below meth c H locs (54 + (j + 1)) (2581 + 6 * (j + 1)) (lw_Z below #[Value.ref bs] s) (F0 m 23 ls [])) {H : Heap} {locs : List Loc} {ls : Array Slot} (E : vE s (fun z : Nat => s.heap.size ≤ z) D (gT cI cJ cZ) (((cW a cI cJ cZ vl hs isz igd iup idn osz ogd oup odn dep rsz lgd llf ldb ldy lsz lti pgd plf pun psz bgd bam bwt bsh brm bsz cab cbl tod imp dis owe itr) ++ [(q, .inl (cJ, 1, .inr (.inl out)))]) ++ (mW b cI cJ cZ mth mlo mre mpr mto mim mdi mow mit mvl mhs mns mby mng mnu mnd mbg mbu mbd mlg mly mll mld mpg mpu mpl mtd mti mwt mch)) H locs) (hl : lv_has ls 8 [(0, .ref bs), (1, .ref (a 0)), (2, .ref (b 0)), (3, .ref q), (4, .int x4)]) (hf : f_L_law_J1083 xs L vl hs isz igd iup idn osz ogd oup odn dep rsz lgd llf ldb ldy lsz lti pgd plf pun psz bgd bam bwt bsh brm bsz cab cbl tod imp dis owe itr out mth mlo mre mpr mto mim mdi mow mit mvl mhs mns mby mng mnu mnd mbg mbu mbd mlg mly mll mld mpg mpu mpl mtd mti mwt mch x4 k23 = some ()) : W p l e room_1 s m #[Value.ref bs] below meth c H locs (54 + j) (2581 + 6 * j) (lw_Z below #[Value.ref bs] s) (F0 m 1083 ls []) := by
  obtain ⟨hx, hb, hr, hml, hown, hts, hlocks, hN, hA⟩ := id C
  have hl0 : l.stackTraces = false := hV.1
  have hbA : ¬ (fun z : Nat => s.heap.size ≤ z) bs := Nat.not_le.mpr hbl
  rw [f_L_law_J1083] at hf
  refine lv_aload_n hx hb dL_law_1083 rfl (lv_at hl 1 rfl) ?_
  refine lv_aload_n hx hb dL_law_1084 rfl (lv_at hl 0 rfl) ?_
  refine lv_iload hx hb dL_law_1085 (lv_at hl 4 rfl) ?_
  refine lv_iconst (v := 1) hx hb dL_law_1087 (by decide) ?_
  refine lv_iadd hx hb dL_law_1088 ?_
  obtain ⟨h1, hf⟩ := ck_some hf
  refine va_sld hx hb hX hbl hbA E.2.2.2 h1 dL_law_1089 ?_
  obtain ⟨o2, e3, hf⟩ := bd_some hf
  refine g_calliF (wc := (cW a cI cJ cZ vl hs isz igd iup idn osz ogd oup odn dep rsz lgd llf ldb ldy lsz lti pgd plf pun psz bgd bam bwt bsh brm bsz cab cbl tod imp dis owe itr)) (wc' := (cW a cI cJ cZ vl hs isz igd iup idn osz ogd oup odn dep rsz lgd llf ldb ldy lsz lti pgd plf pun psz bgd bam bwt bsh brm bsz cab cbl tod imp dis owe itr)) (wr := ([(q, .inl (cJ, 1, .inr (.inl out)))] ++ (mW b cI cJ cZ mth mlo mre mpr mto mim mdi mow mit mvl mhs mns mby mng mnu mnd mbg mbu mbd mlg mly mll mld mpg mpu mpl mtd mti mwt mch))) C (vE_as E) (g_runV (As := [.int (xs (x4 + (1 : Int32)).toNatClampNeg)]) (rest := []) C (vE_left (vE_as E)) (c_X6_count e3) (cwV 1 hts gL_law_X6_count rfl rfl rfl ⟨rfl, hd_X6_count⟩ ⟨(Nat.le_of_ble_eq_true rfl), (Nat.le_of_ble_eq_true rfl)⟩) (q0 := 0) (ci := 6) rfl rfl rfl rfl hl.1 rfl (Nat.le_of_ble_eq_true rfl) dL_law_1090 ⟨show 54 + j + 0 ≤ 1090 by omega, show 2581 + 6 * j + 0 ≤ 10845 by omega⟩) (fun H locs E => ?_)
  replace E := vE_sa E
  refine lv_aload_n hx hb dL_law_1093 rfl (lv_at hl 2 rfl) ?_
  refine lv_aload_n hx hb dL_law_1094 rfl (lv_at hl 0 rfl) ?_
  refine lv_iload hx hb dL_law_1095 (lv_at hl 4 rfl) ?_
  refine lv_iconst (v := 1) hx hb dL_law_1097 (by decide) ?_
  refine lv_iadd hx hb dL_law_1098 ?_
  obtain ⟨h4, hf⟩ := ck_some hf
  refine va_sld hx hb hX hbl hbA E.2.2.2 h4 dL_law_1099 ?_
  obtain ⟨o5, e6, hf⟩ := bd_some hf
  refine g_calliF (wc := (mW b cI cJ cZ mth mlo mre mpr mto mim mdi mow mit mvl mhs mns mby mng mnu mnd mbg mbu mbd mlg mly mll mld mpg mpu mpl mtd mti mwt mch)) (wc' := (mW b cI cJ cZ o5.2 mlo mre mpr mto mim mdi mow mit mvl mhs mns mby mng mnu mnd mbg mbu mbd mlg mly mll mld mpg mpu mpl mtd mti mwt mch)) (wr := ((cW a cI cJ cZ vl hs isz igd iup idn osz ogd oup odn dep rsz lgd llf ldb ldy lsz lti pgd plf pun psz bgd bam bwt bsh brm bsz cab cbl tod imp dis owe itr) ++ [(q, .inl (cJ, 1, .inr (.inl out)))])) C (vE_swap E) (g_runV (As := [.int (xs (x4 + (1 : Int32)).toNatClampNeg)]) (rest := [.int o2]) C (vE_left (vE_swap E)) (c_X7_count e6) (cwV 1 hts gL_law_X7_count rfl rfl rfl ⟨rfl, hd_X7_count⟩ ⟨(Nat.le_of_ble_eq_true rfl), (Nat.le_of_ble_eq_true rfl)⟩) (q0 := 0) (ci := 7) rfl rfl rfl rfl hl.1 rfl (Nat.le_of_ble_eq_true rfl) dL_law_1100 ⟨show 54 + j + 0 ≤ 1090 by omega, show 2581 + 6 * j + 0 ≤ 10845 by omega⟩) (fun H locs E => ?_)
  replace E := vE_swap E
  refine lv_icmp_eq (tgt := 1108) hx hb dL_law_1103 (by decide) (fun c7 => ?_) (fun c7 => ?_)
  · rw [if_pos c7] at hf
    refine lv_iinc (v := (x4 + 5)) (lv' := [(4, .int (x4 + 5)), (0, .ref bs), (1, .ref (a 0)), (2, .ref (b 0)), (3, .ref q)]) hx hb dL_law_1108 hl (k := 4) rfl rfl (by decide) rfl (fun ls hl => ?_)
    refine lv_goto (tgt := 23) hx hb dL_law_1111 (by decide) ?_
    refine W.widen (k := 54 + (j + 1)) (n := 2581 + 6 * (j + 1)) (by omega) (by omega) ?_
    exact hk23 vl hs isz igd iup idn osz ogd oup odn dep rsz lgd llf ldb ldy lsz lti pgd plf pun psz bgd bam bwt bsh brm bsz cab cbl tod imp dis owe itr out o5.2 mlo mre mpr mto mim mdi mow mit mvl mhs mns mby mng mnu mnd mbg mbu mbd mlg mly mll mld mpg mpu mpl mtd mti mwt mch (x4 + 5) _ _ _ E (lv_sub hl [1, 2, 3, 4, 0] rfl) hf
  · rw [if_neg c7] at hf
    refine lv_iconst (v := 0) hx hb dL_law_1106 (by decide) ?_
    cases hf
def f_L_law_J1016 (xs : Nat → Int32) (L : Nat) (vl : Nat → Int32) (hs : Nat → Int32) (isz : Nat → Int32) (igd : Nat → Int32) (iup : Nat → Int32) (idn : Nat → Int32) (osz : Nat → Int32) (ogd : Nat → Int32) (oup : Nat → Int32) (odn : Nat → Int32) (dep : Nat → Int32) (rsz : Int32) (lgd : Nat → Int32) (llf : Nat → Int64) (ldb : Nat → Int64) (ldy : Nat → Int32) (lsz : Int32) (lti : Int64) (pgd : Nat → Int32) (plf : Nat → Int64) (pun : Nat → Int32) (psz : Int32) (bgd : Nat → Int32) (bam : Nat → Int64) (bwt : Nat → Int64) (bsh : Nat → Int64) (brm : Nat → Int64) (bsz : Int32) (cab : Nat → Int64) (cbl : Nat → Int64) (tod : Int32) (imp : Int64) (dis : Int64) (owe : Int64) (itr : Int64) (out : Nat → Int64) (mth : Int32) (mlo : Int32) (mre : Int32) (mpr : Int32) (mto : Int32) (mim : Int64) (mdi : Int64) (mow : Int64) (mit : Int64) (mvl : Nat → Int32) (mhs : Nat → Int32) (mns : Nat → Int32) (mby : Nat → Int32) (mng : Nat → Int32) (mnu : Nat → Int32) (mnd : Nat → Int32) (mbg : Nat → Int32) (mbu : Nat → Int32) (mbd : Nat → Int32) (mlg : Nat → Int32) (mly : Nat → Int32) (mll : Nat → Int64) (mld : Nat → Int64) (mpg : Nat → Int32) (mpu : Nat → Int32) (mpl : Nat → Int64) (mtd : Int64) (mti : Int64) (mwt : Nat → Int64) (mch : Nat → Int64) (x4 : Int32) (k23 : (Nat → Int32) → (Nat → Int32) → (Nat → Int32) → (Nat → Int32) → (Nat → Int32) → (Nat → Int32) → (Nat → Int32) → (Nat → Int32) → (Nat → Int32) → (Nat → Int32) → (Nat → Int32) → (Int32) → (Nat → Int32) → (Nat → Int64) → (Nat → Int64) → (Nat → Int32) → (Int32) → (Int64) → (Nat → Int32) → (Nat → Int64) → (Nat → Int32) → (Int32) → (Nat → Int32) → (Nat → Int64) → (Nat → Int64) → (Nat → Int64) → (Nat → Int64) → (Int32) → (Nat → Int64) → (Nat → Int64) → (Int32) → (Int64) → (Int64) → (Int64) → (Int64) → (Nat → Int64) → (Int32) → (Int32) → (Int32) → (Int32) → (Int32) → (Int64) → (Int64) → (Int64) → (Int64) → (Nat → Int32) → (Nat → Int32) → (Nat → Int32) → (Nat → Int32) → (Nat → Int32) → (Nat → Int32) → (Nat → Int32) → (Nat → Int32) → (Nat → Int32) → (Nat → Int32) → (Nat → Int32) → (Nat → Int32) → (Nat → Int64) → (Nat → Int64) → (Nat → Int32) → (Nat → Int32) → (Nat → Int64) → (Int64) → (Int64) → (Nat → Int64) → (Nat → Int64) → Int32 → Option Unit) : Option Unit :=
  ck (x4 + (1 : Int32)) L <|
  ck (x4 + (2 : Int32)) L <|
  (f_L_quotient (xs (x4 + (1 : Int32)).toNatClampNeg) (xs (x4 + (2 : Int32)).toNatClampNeg) out).bind fun o3 =>
  ck (x4 + (1 : Int32)) L <|
  ck (x4 + (2 : Int32)) L <|
  (f_X7_quotient mth (xs (x4 + (1 : Int32)).toNatClampNeg) (xs (x4 + (2 : Int32)).toNatClampNeg)).bind fun o7 =>
  (f_X7_thrown o7.2).bind fun o9 =>
  if o9 = o3.1 then
    if o3.1 = 0 then
      ck (0 : Int32) 1 <|
      if (lg_cmp (o3.2 (0 : Int32).toNatClampNeg) o7.1) = 0 then
        k23 vl hs isz igd iup idn osz ogd oup odn dep rsz lgd llf ldb ldy lsz lti pgd plf pun psz bgd bam bwt bsh brm bsz cab cbl tod imp dis owe itr o3.2 o7.2 mlo mre mpr mto mim mdi mow mit mvl mhs mns mby mng mnu mnd mbg mbu mbd mlg mly mll mld mpg mpu mpl mtd mti mwt mch (x4 + 5)
      else
        none
    else
      k23 vl hs isz igd iup idn osz ogd oup odn dep rsz lgd llf ldb ldy lsz lti pgd plf pun psz bgd bam bwt bsh brm bsz cab cbl tod imp dis owe itr o3.2 o7.2 mlo mre mpr mto mim mdi mow mit mvl mhs mns mby mng mnu mnd mbg mbu mbd mlg mly mll mld mpg mpu mpl mtd mti mwt mch (x4 + 5)
  else
    none
set_option maxHeartbeats 8000000 in
set_option maxRecDepth 100000 in
theorem w_L_law_J1016 {p : Program} {l : Launch} {e : Env} {s : State} {m : MethodId} {below : List Frame} {meth : Method} {c : Code} {D : va_G} {cI cJ cZ : ClassId} {a b : Nat → Nat} {q bs L : Nat} {xs : Nat → Int32} {vl : Nat → Int32} {hs : Nat → Int32} {isz : Nat → Int32} {igd : Nat → Int32} {iup : Nat → Int32} {idn : Nat → Int32} {osz : Nat → Int32} {ogd : Nat → Int32} {oup : Nat → Int32} {odn : Nat → Int32} {dep : Nat → Int32} {rsz : Int32} {lgd : Nat → Int32} {llf : Nat → Int64} {ldb : Nat → Int64} {ldy : Nat → Int32} {lsz : Int32} {lti : Int64} {pgd : Nat → Int32} {plf : Nat → Int64} {pun : Nat → Int32} {psz : Int32} {bgd : Nat → Int32} {bam : Nat → Int64} {bwt : Nat → Int64} {bsh : Nat → Int64} {brm : Nat → Int64} {bsz : Int32} {cab : Nat → Int64} {cbl : Nat → Int64} {tod : Int32} {imp : Int64} {dis : Int64} {owe : Int64} {itr : Int64} {out : Nat → Int64} {mth : Int32} {mlo : Int32} {mre : Int32} {mpr : Int32} {mto : Int32} {mim : Int64} {mdi : Int64} {mow : Int64} {mit : Int64} {mvl : Nat → Int32} {mhs : Nat → Int32} {mns : Nat → Int32} {mby : Nat → Int32} {mng : Nat → Int32} {mnu : Nat → Int32} {mnd : Nat → Int32} {mbg : Nat → Int32} {mbu : Nat → Int32} {mbd : Nat → Int32} {mlg : Nat → Int32} {mly : Nat → Int32} {mll : Nat → Int64} {mld : Nat → Int64} {mpg : Nat → Int32} {mpu : Nat → Int32} {mpl : Nat → Int64} {mtd : Int64} {mti : Int64} {mwt : Nat → Int64} {mch : Nat → Int64} {j : Nat} {x4 : Int32} (C : gC p s m #[Value.ref bs] meth c cL_law 8 ret wsL_law RL (fun z : Nat => s.heap.size ≤ z)) (hV : gV l s (fun z : Nat => s.heap.size ≤ z)) (hX : va_X bs L xs s s.heap) (hbl : bs < s.heap.size) (hj : j + 1 ≤ 514) {k23 : (Nat → Int32) → (Nat → Int32) → (Nat → Int32) → (Nat → Int32) → (Nat → Int32) → (Nat → Int32) → (Nat → Int32) → (Nat → Int32) → (Nat → Int32) → (Nat → Int32) → (Nat → Int32) → (Int32) → (Nat → Int32) → (Nat → Int64) → (Nat → Int64) → (Nat → Int32) → (Int32) → (Int64) → (Nat → Int32) → (Nat → Int64) → (Nat → Int32) → (Int32) → (Nat → Int32) → (Nat → Int64) → (Nat → Int64) → (Nat → Int64) → (Nat → Int64) → (Int32) → (Nat → Int64) → (Nat → Int64) → (Int32) → (Int64) → (Int64) → (Int64) → (Int64) → (Nat → Int64) → (Int32) → (Int32) → (Int32) → (Int32) → (Int32) → (Int64) → (Int64) → (Int64) → (Int64) → (Nat → Int32) → (Nat → Int32) → (Nat → Int32) → (Nat → Int32) → (Nat → Int32) → (Nat → Int32) → (Nat → Int32) → (Nat → Int32) → (Nat → Int32) → (Nat → Int32) → (Nat → Int32) → (Nat → Int32) → (Nat → Int64) → (Nat → Int64) → (Nat → Int32) → (Nat → Int32) → (Nat → Int64) → (Int64) → (Int64) → (Nat → Int64) → (Nat → Int64) → Int32 → Option Unit} (hk23 : ∀ (vl : Nat → Int32) (hs : Nat → Int32) (isz : Nat → Int32) (igd : Nat → Int32) (iup : Nat → Int32) (idn : Nat → Int32) (osz : Nat → Int32) (ogd : Nat → Int32) (oup : Nat → Int32) (odn : Nat → Int32) (dep : Nat → Int32) (rsz : Int32) (lgd : Nat → Int32) (llf : Nat → Int64) (ldb : Nat → Int64) (ldy : Nat → Int32) (lsz : Int32) (lti : Int64) (pgd : Nat → Int32) (plf : Nat → Int64) (pun : Nat → Int32) (psz : Int32) (bgd : Nat → Int32) (bam : Nat → Int64) (bwt : Nat → Int64) (bsh : Nat → Int64) (brm : Nat → Int64) (bsz : Int32) (cab : Nat → Int64) (cbl : Nat → Int64) (tod : Int32) (imp : Int64) (dis : Int64) (owe : Int64) (itr : Int64) (out : Nat → Int64) (mth : Int32) (mlo : Int32) (mre : Int32) (mpr : Int32) (mto : Int32) (mim : Int64) (mdi : Int64) (mow : Int64) (mit : Int64) (mvl : Nat → Int32) (mhs : Nat → Int32) (mns : Nat → Int32) (mby : Nat → Int32) (mng : Nat → Int32) (mnu : Nat → Int32) (mnd : Nat → Int32) (mbg : Nat → Int32) (mbu : Nat → Int32) (mbd : Nat → Int32) (mlg : Nat → Int32) (mly : Nat → Int32) (mll : Nat → Int64) (mld : Nat → Int64) (mpg : Nat → Int32) (mpu : Nat → Int32) (mpl : Nat → Int64) (mtd : Int64) (mti : Int64) (mwt : Nat → Int64) (mch : Nat → Int64) (x4 : Int32) (H : Heap) (locs : List Loc) (ls : Array Slot), vE s (fun z : Nat => s.heap.size ≤ z) D (gT cI cJ cZ) (((cW a cI cJ cZ vl hs isz igd iup idn osz ogd oup odn dep rsz lgd llf ldb ldy lsz lti pgd plf pun psz bgd bam bwt bsh brm bsz cab cbl tod imp dis owe itr) ++ [(q, .inl (cJ, 1, .inr (.inl out)))]) ++ (mW b cI cJ cZ mth mlo mre mpr mto mim mdi mow mit mvl mhs mns mby mng mnu mnd mbg mbu mbd mlg mly mll mld mpg mpu mpl mtd mti mwt mch)) H locs → lv_has ls 8 [(0, .ref bs), (1, .ref (a 0)), (2, .ref (b 0)), (3, .ref q), (4, .int x4)] → k23 vl hs isz igd iup idn osz ogd oup odn dep rsz lgd llf ldb ldy lsz lti pgd plf pun psz bgd bam bwt bsh brm bsz cab cbl tod imp dis owe itr out mth mlo mre mpr mto mim mdi mow mit mvl mhs mns mby mng mnu mnd mbg mbu mbd mlg mly mll mld mpg mpu mpl mtd mti mwt mch x4 = some () → W p l e room_1 s m #[Value.ref bs] below meth c H locs (54 + (j + 1)) (2581 + 6 * (j + 1)) (lw_Z below #[Value.ref bs] s) (F0 m 23 ls [])) {H : Heap} {locs : List Loc} {ls : Array Slot} (E : vE s (fun z : Nat => s.heap.size ≤ z) D (gT cI cJ cZ) (((cW a cI cJ cZ vl hs isz igd iup idn osz ogd oup odn dep rsz lgd llf ldb ldy lsz lti pgd plf pun psz bgd bam bwt bsh brm bsz cab cbl tod imp dis owe itr) ++ [(q, .inl (cJ, 1, .inr (.inl out)))]) ++ (mW b cI cJ cZ mth mlo mre mpr mto mim mdi mow mit mvl mhs mns mby mng mnu mnd mbg mbu mbd mlg mly mll mld mpg mpu mpl mtd mti mwt mch)) H locs) (hl : lv_has ls 8 [(0, .ref bs), (1, .ref (a 0)), (2, .ref (b 0)), (3, .ref q), (4, .int x4)]) (hf : f_L_law_J1016 xs L vl hs isz igd iup idn osz ogd oup odn dep rsz lgd llf ldb ldy lsz lti pgd plf pun psz bgd bam bwt bsh brm bsz cab cbl tod imp dis owe itr out mth mlo mre mpr mto mim mdi mow mit mvl mhs mns mby mng mnu mnd mbg mbu mbd mlg mly mll mld mpg mpu mpl mtd mti mwt mch x4 k23 = some ()) : W p l e room_1 s m #[Value.ref bs] below meth c H locs (54 + j) (2581 + 6 * j) (lw_Z below #[Value.ref bs] s) (F0 m 1016 ls []) := by
  obtain ⟨hx, hb, hr, hml, hown, hts, hlocks, hN, hA⟩ := id C
  have hl0 : l.stackTraces = false := hV.1
  have hbA : ¬ (fun z : Nat => s.heap.size ≤ z) bs := Nat.not_le.mpr hbl
  rw [f_L_law_J1016] at hf
  refine lv_aload_n hx hb dL_law_1016 rfl (lv_at hl 1 rfl) ?_
  refine lv_aload_n hx hb dL_law_1017 rfl (lv_at hl 0 rfl) ?_
  refine lv_iload hx hb dL_law_1018 (lv_at hl 4 rfl) ?_
  refine lv_iconst (v := 1) hx hb dL_law_1020 (by decide) ?_
  refine lv_iadd hx hb dL_law_1021 ?_
  obtain ⟨h1, hf⟩ := ck_some hf
  refine va_sld hx hb hX hbl hbA E.2.2.2 h1 dL_law_1022 ?_
  refine lv_aload_n hx hb dL_law_1023 rfl (lv_at hl 0 rfl) ?_
  refine lv_iload hx hb dL_law_1024 (lv_at hl 4 rfl) ?_
  refine lv_iconst (v := 2) hx hb dL_law_1026 (by decide) ?_
  refine lv_iadd hx hb dL_law_1027 ?_
  obtain ⟨h2, hf⟩ := ck_some hf
  refine va_sld hx hb hX hbl hbA E.2.2.2 h2 dL_law_1028 ?_
  refine lv_aload_n hx hb dL_law_1029 rfl (lv_at hl 3 rfl) ?_
  obtain ⟨o3, e4, hf⟩ := bd_some hf
  refine g_calliW (wc := ((cW a cI cJ cZ vl hs isz igd iup idn osz ogd oup odn dep rsz lgd llf ldb ldy lsz lti pgd plf pun psz bgd bam bwt bsh brm bsz cab cbl tod imp dis owe itr) ++ [(q, .inl (cJ, 1, .inr (.inl out)))])) (wc' := ((cW a cI cJ cZ vl hs isz igd iup idn osz ogd oup odn dep rsz lgd llf ldb ldy lsz lti pgd plf pun psz bgd bam bwt bsh brm bsz cab cbl tod imp dis owe itr) ++ [(q, .inl (cJ, 1, .inr (.inl o3.2)))])) (wr := (mW b cI cJ cZ mth mlo mre mpr mto mim mdi mow mit mvl mhs mns mby mng mnu mnd mbg mbu mbd mlg mly mll mld mpg mpu mpl mtd mti mwt mch)) C E (g_runSW (As := [.ref (a 0), .int (xs (x4 + (1 : Int32)).toNatClampNeg), .int (xs (x4 + (2 : Int32)).toNatClampNeg), .ref q]) (rest := []) C (vE_left E) hV (c_L_quotient hl0 e4) (vx_cwSW 4 hts gL_law_L_quotient rfl rfl rfl hd_L_quotient ⟨(Nat.le_of_ble_eq_true rfl), (Nat.le_of_ble_eq_true rfl)⟩) rfl hl.1 rfl (Nat.le_of_ble_eq_true rfl) dL_law_1030 ⟨show 54 + j + 1 ≤ 1090 by omega, show 2581 + 6 * j + 6 ≤ 10845 by omega⟩) (fun H locs E => ?_)
  refine lv_istore (lv' := [(5, .int o3.1), (0, .ref bs), (1, .ref (a 0)), (2, .ref (b 0)), (3, .ref q), (4, .int x4)]) hx hb dL_law_1033 hl (by decide) rfl (fun ls hl => ?_)
  refine lv_aload_n hx hb dL_law_1035 rfl (lv_at hl 3 rfl) ?_
  refine lv_aload_n hx hb dL_law_1036 rfl (lv_at hl 1 rfl) ?_
  refine lv_iload hx hb dL_law_1037 (lv_at hl 5 rfl) ?_
  refine lv_iconst (v := 1) hx hb dL_law_1039 (by decide) ?_
  refine lv_iadd hx hb dL_law_1040 ?_
  obtain ⟨h5, hf⟩ := ck_some hf
  refine va_sld hx hb hX hbl hbA E.2.2.2 h5 dL_law_1041 ?_
  refine lv_aload_n hx hb dL_law_1042 rfl (lv_at hl 1 rfl) ?_
  refine lv_iload hx hb dL_law_1043 (lv_at hl 5 rfl) ?_
  refine lv_iconst (v := 2) hx hb dL_law_1045 (by decide) ?_
  refine lv_iadd hx hb dL_law_1046 ?_
  obtain ⟨h6, hf⟩ := ck_some hf
  refine va_sld hx hb hX hbl hbA E.2.2.2 h6 dL_law_1047 ?_
  obtain ⟨o7, e8, hf⟩ := bd_some hf
  refine g_calllF (wc := (mW b cI cJ cZ mth mlo mre mpr mto mim mdi mow mit mvl mhs mns mby mng mnu mnd mbg mbu mbd mlg mly mll mld mpg mpu mpl mtd mti mwt mch)) (wc' := (mW b cI cJ cZ o7.2 mlo mre mpr mto mim mdi mow mit mvl mhs mns mby mng mnu mnd mbg mbu mbd mlg mly mll mld mpg mpu mpl mtd mti mwt mch)) (wr := ((cW a cI cJ cZ vl hs isz igd iup idn osz ogd oup odn dep rsz lgd llf ldb ldy lsz lti pgd plf pun psz bgd bam bwt bsh brm bsz cab cbl tod imp dis owe itr) ++ [(q, .inl (cJ, 1, .inr (.inl o3.2)))])) C (vE_swap E) (g_runV (As := [.int (xs (x4 + (1 : Int32)).toNatClampNeg), .int (xs (x4 + (2 : Int32)).toNatClampNeg)]) (rest := []) C (vE_left (vE_swap E)) (c_X7_quotient e8) (cwV 2 hts gL_law_X7_quotient rfl rfl rfl ⟨rfl, hd_X7_quotient⟩ ⟨(Nat.le_of_ble_eq_true rfl), (Nat.le_of_ble_eq_true rfl)⟩) (q0 := 0) (ci := 7) rfl rfl rfl rfl hl.1 rfl (Nat.le_of_ble_eq_true rfl) dL_law_1048 ⟨show 54 + j + 1 + 0 ≤ 1090 by omega, show 2581 + 6 * j + 6 + 0 ≤ 10845 by omega⟩) (fun H locs E => ?_)
  replace E := vE_swap E
  refine lv_lstore (lv' := [(6, .long o7.1), (5, .int o3.1), (0, .ref bs), (1, .ref (a 0)), (2, .ref (b 0)), (3, .ref q), (4, .int x4)]) hx hb dL_law_1051 hl (by decide) rfl (fun ls hl => ?_)
  refine lv_aload_n hx hb dL_law_1053 rfl (lv_at hl 4 rfl) ?_
  obtain ⟨o9, e10, hf⟩ := bd_some hf
  refine g_calliF (wc := (mW b cI cJ cZ o7.2 mlo mre mpr mto mim mdi mow mit mvl mhs mns mby mng mnu mnd mbg mbu mbd mlg mly mll mld mpg mpu mpl mtd mti mwt mch)) (wc' := (mW b cI cJ cZ o7.2 mlo mre mpr mto mim mdi mow mit mvl mhs mns mby mng mnu mnd mbg mbu mbd mlg mly mll mld mpg mpu mpl mtd mti mwt mch)) (wr := ((cW a cI cJ cZ vl hs isz igd iup idn osz ogd oup odn dep rsz lgd llf ldb ldy lsz lti pgd plf pun psz bgd bam bwt bsh brm bsz cab cbl tod imp dis owe itr) ++ [(q, .inl (cJ, 1, .inr (.inl o3.2)))])) C (vE_swap E) (g_runV (As := []) (rest := []) C (vE_left (vE_swap E)) (c_X7_thrown e10) (cwV 0 hts gL_law_X7_thrown rfl rfl rfl ⟨rfl, hd_X7_thrown⟩ ⟨(Nat.le_of_ble_eq_true rfl), (Nat.le_of_ble_eq_true rfl)⟩) (q0 := 0) (ci := 7) rfl rfl rfl rfl hl.1 rfl (Nat.le_of_ble_eq_true rfl) dL_law_1054 ⟨show 54 + j + 1 + 0 ≤ 1090 by omega, show 2581 + 6 * j + 6 + 0 ≤ 10845 by omega⟩) (fun H locs E => ?_)
  replace E := vE_swap E
  refine lv_iload hx hb dL_law_1057 (lv_at hl 1 rfl) ?_
  refine lv_icmp_eq (tgt := 1064) hx hb dL_law_1059 (by decide) (fun c11 => ?_) (fun c11 => ?_)
  · rw [if_pos c11] at hf
    refine lv_iload hx hb dL_law_1064 (lv_at hl 1 rfl) ?_
    refine lv_if_ne (tgt := 1080) hx hb dL_law_1066 (by decide) (fun c12 => ?_) (fun c12 => ?_)
    · rw [if_neg c12] at hf
      refine lv_goto (tgt := 1108) hx hb dL_law_1080 (by decide) ?_
      refine lv_iinc (v := (x4 + 5)) (lv' := [(4, .int (x4 + 5)), (6, .long o7.1), (5, .int o3.1), (0, .ref bs), (1, .ref (a 0)), (2, .ref (b 0)), (3, .ref q)]) hx hb dL_law_1108 hl (k := 6) rfl rfl (by decide) rfl (fun ls hl => ?_)
      refine lv_goto (tgt := 23) hx hb dL_law_1111 (by decide) ?_
      refine W.widen (k := 54 + (j + 1)) (n := 2581 + 6 * (j + 1)) (by omega) (by omega) ?_
      exact hk23 vl hs isz igd iup idn osz ogd oup odn dep rsz lgd llf ldb ldy lsz lti pgd plf pun psz bgd bam bwt bsh brm bsz cab cbl tod imp dis owe itr o3.2 o7.2 mlo mre mpr mto mim mdi mow mit mvl mhs mns mby mng mnu mnd mbg mbu mbd mlg mly mll mld mpg mpu mpl mtd mti mwt mch (x4 + 5) _ _ _ E (lv_sub hl [3, 4, 5, 6, 0] rfl) hf
    · rw [if_pos c12] at hf
      refine lv_aload_n hx hb dL_law_1069 rfl (lv_at hl 5 rfl) ?_
      refine lv_iconst (v := 0) hx hb dL_law_1070 (by decide) ?_
      obtain ⟨h13, hf⟩ := ck_some hf
      refine g_lald C E 33 rfl h13 dL_law_1071 ?_
      refine lv_lload hx hb dL_law_1072 (lv_at hl 0 rfl) ?_
      refine W.lcmp hx hb dL_law_1074 ?_
      refine lv_if_eq (tgt := 1080) hx hb dL_law_1075 (by decide) (fun c14 => ?_) (fun c14 => ?_)
      · rw [if_pos c14] at hf
        refine lv_goto (tgt := 1108) hx hb dL_law_1080 (by decide) ?_
        refine lv_iinc (v := (x4 + 5)) (lv' := [(4, .int (x4 + 5)), (6, .long o7.1), (5, .int o3.1), (0, .ref bs), (1, .ref (a 0)), (2, .ref (b 0)), (3, .ref q)]) hx hb dL_law_1108 hl (k := 6) rfl rfl (by decide) rfl (fun ls hl => ?_)
        refine lv_goto (tgt := 23) hx hb dL_law_1111 (by decide) ?_
        refine W.widen (k := 54 + (j + 1)) (n := 2581 + 6 * (j + 1)) (by omega) (by omega) ?_
        exact hk23 vl hs isz igd iup idn osz ogd oup odn dep rsz lgd llf ldb ldy lsz lti pgd plf pun psz bgd bam bwt bsh brm bsz cab cbl tod imp dis owe itr o3.2 o7.2 mlo mre mpr mto mim mdi mow mit mvl mhs mns mby mng mnu mnd mbg mbu mbd mlg mly mll mld mpg mpu mpl mtd mti mwt mch (x4 + 5) _ _ _ E (lv_sub hl [3, 4, 5, 6, 0] rfl) hf
      · rw [if_neg c14] at hf
        refine lv_iconst (v := 0) hx hb dL_law_1078 (by decide) ?_
        cases hf
  · rw [if_neg c11] at hf
    refine lv_iconst (v := 0) hx hb dL_law_1062 (by decide) ?_
    cases hf
def f_L_law_J990 (xs : Nat → Int32) (L : Nat) (vl : Nat → Int32) (hs : Nat → Int32) (isz : Nat → Int32) (igd : Nat → Int32) (iup : Nat → Int32) (idn : Nat → Int32) (osz : Nat → Int32) (ogd : Nat → Int32) (oup : Nat → Int32) (odn : Nat → Int32) (dep : Nat → Int32) (rsz : Int32) (lgd : Nat → Int32) (llf : Nat → Int64) (ldb : Nat → Int64) (ldy : Nat → Int32) (lsz : Int32) (lti : Int64) (pgd : Nat → Int32) (plf : Nat → Int64) (pun : Nat → Int32) (psz : Int32) (bgd : Nat → Int32) (bam : Nat → Int64) (bwt : Nat → Int64) (bsh : Nat → Int64) (brm : Nat → Int64) (bsz : Int32) (cab : Nat → Int64) (cbl : Nat → Int64) (tod : Int32) (imp : Int64) (dis : Int64) (owe : Int64) (itr : Int64) (out : Nat → Int64) (mth : Int32) (mlo : Int32) (mre : Int32) (mpr : Int32) (mto : Int32) (mim : Int64) (mdi : Int64) (mow : Int64) (mit : Int64) (mvl : Nat → Int32) (mhs : Nat → Int32) (mns : Nat → Int32) (mby : Nat → Int32) (mng : Nat → Int32) (mnu : Nat → Int32) (mnd : Nat → Int32) (mbg : Nat → Int32) (mbu : Nat → Int32) (mbd : Nat → Int32) (mlg : Nat → Int32) (mly : Nat → Int32) (mll : Nat → Int64) (mld : Nat → Int64) (mpg : Nat → Int32) (mpu : Nat → Int32) (mpl : Nat → Int64) (mtd : Int64) (mti : Int64) (mwt : Nat → Int64) (mch : Nat → Int64) (x4 : Int32) (k23 : (Nat → Int32) → (Nat → Int32) → (Nat → Int32) → (Nat → Int32) → (Nat → Int32) → (Nat → Int32) → (Nat → Int32) → (Nat → Int32) → (Nat → Int32) → (Nat → Int32) → (Nat → Int32) → (Int32) → (Nat → Int32) → (Nat → Int64) → (Nat → Int64) → (Nat → Int32) → (Int32) → (Int64) → (Nat → Int32) → (Nat → Int64) → (Nat → Int32) → (Int32) → (Nat → Int32) → (Nat → Int64) → (Nat → Int64) → (Nat → Int64) → (Nat → Int64) → (Int32) → (Nat → Int64) → (Nat → Int64) → (Int32) → (Int64) → (Int64) → (Int64) → (Int64) → (Nat → Int64) → (Int32) → (Int32) → (Int32) → (Int32) → (Int32) → (Int64) → (Int64) → (Int64) → (Int64) → (Nat → Int32) → (Nat → Int32) → (Nat → Int32) → (Nat → Int32) → (Nat → Int32) → (Nat → Int32) → (Nat → Int32) → (Nat → Int32) → (Nat → Int32) → (Nat → Int32) → (Nat → Int32) → (Nat → Int32) → (Nat → Int64) → (Nat → Int64) → (Nat → Int32) → (Nat → Int32) → (Nat → Int64) → (Int64) → (Int64) → (Nat → Int64) → (Nat → Int64) → Int32 → Option Unit) : Option Unit :=
  ck (x4 + (1 : Int32)) L <|
  (f_X6_sum ldb lsz imp dis owe itr (xs (x4 + (1 : Int32)).toNatClampNeg)).bind fun o2 =>
  ck (x4 + (1 : Int32)) L <|
  (f_X7_sum mth mlo mim mdi mow mit mlg mld (xs (x4 + (1 : Int32)).toNatClampNeg)).bind fun o5 =>
  if (lg_cmp o2 o5.1) = 0 then
    k23 vl hs isz igd iup idn osz ogd oup odn dep rsz lgd llf ldb ldy lsz lti pgd plf pun psz bgd bam bwt bsh brm bsz cab cbl tod imp dis owe itr out o5.2 mlo mre mpr mto mim mdi mow mit mvl mhs mns mby mng mnu mnd mbg mbu mbd mlg mly mll mld mpg mpu mpl mtd mti mwt mch (x4 + 5)
  else
    none
set_option maxHeartbeats 8000000 in
set_option maxRecDepth 100000 in
theorem w_L_law_J990 {p : Program} {l : Launch} {e : Env} {s : State} {m : MethodId} {below : List Frame} {meth : Method} {c : Code} {D : va_G} {cI cJ cZ : ClassId} {a b : Nat → Nat} {q bs L : Nat} {xs : Nat → Int32} {vl : Nat → Int32} {hs : Nat → Int32} {isz : Nat → Int32} {igd : Nat → Int32} {iup : Nat → Int32} {idn : Nat → Int32} {osz : Nat → Int32} {ogd : Nat → Int32} {oup : Nat → Int32} {odn : Nat → Int32} {dep : Nat → Int32} {rsz : Int32} {lgd : Nat → Int32} {llf : Nat → Int64} {ldb : Nat → Int64} {ldy : Nat → Int32} {lsz : Int32} {lti : Int64} {pgd : Nat → Int32} {plf : Nat → Int64} {pun : Nat → Int32} {psz : Int32} {bgd : Nat → Int32} {bam : Nat → Int64} {bwt : Nat → Int64} {bsh : Nat → Int64} {brm : Nat → Int64} {bsz : Int32} {cab : Nat → Int64} {cbl : Nat → Int64} {tod : Int32} {imp : Int64} {dis : Int64} {owe : Int64} {itr : Int64} {out : Nat → Int64} {mth : Int32} {mlo : Int32} {mre : Int32} {mpr : Int32} {mto : Int32} {mim : Int64} {mdi : Int64} {mow : Int64} {mit : Int64} {mvl : Nat → Int32} {mhs : Nat → Int32} {mns : Nat → Int32} {mby : Nat → Int32} {mng : Nat → Int32} {mnu : Nat → Int32} {mnd : Nat → Int32} {mbg : Nat → Int32} {mbu : Nat → Int32} {mbd : Nat → Int32} {mlg : Nat → Int32} {mly : Nat → Int32} {mll : Nat → Int64} {mld : Nat → Int64} {mpg : Nat → Int32} {mpu : Nat → Int32} {mpl : Nat → Int64} {mtd : Int64} {mti : Int64} {mwt : Nat → Int64} {mch : Nat → Int64} {j : Nat} {x4 : Int32} (C : gC p s m #[Value.ref bs] meth c cL_law 8 ret wsL_law RL (fun z : Nat => s.heap.size ≤ z)) (hV : gV l s (fun z : Nat => s.heap.size ≤ z)) (hX : va_X bs L xs s s.heap) (hbl : bs < s.heap.size) (hj : j + 1 ≤ 514) {k23 : (Nat → Int32) → (Nat → Int32) → (Nat → Int32) → (Nat → Int32) → (Nat → Int32) → (Nat → Int32) → (Nat → Int32) → (Nat → Int32) → (Nat → Int32) → (Nat → Int32) → (Nat → Int32) → (Int32) → (Nat → Int32) → (Nat → Int64) → (Nat → Int64) → (Nat → Int32) → (Int32) → (Int64) → (Nat → Int32) → (Nat → Int64) → (Nat → Int32) → (Int32) → (Nat → Int32) → (Nat → Int64) → (Nat → Int64) → (Nat → Int64) → (Nat → Int64) → (Int32) → (Nat → Int64) → (Nat → Int64) → (Int32) → (Int64) → (Int64) → (Int64) → (Int64) → (Nat → Int64) → (Int32) → (Int32) → (Int32) → (Int32) → (Int32) → (Int64) → (Int64) → (Int64) → (Int64) → (Nat → Int32) → (Nat → Int32) → (Nat → Int32) → (Nat → Int32) → (Nat → Int32) → (Nat → Int32) → (Nat → Int32) → (Nat → Int32) → (Nat → Int32) → (Nat → Int32) → (Nat → Int32) → (Nat → Int32) → (Nat → Int64) → (Nat → Int64) → (Nat → Int32) → (Nat → Int32) → (Nat → Int64) → (Int64) → (Int64) → (Nat → Int64) → (Nat → Int64) → Int32 → Option Unit} (hk23 : ∀ (vl : Nat → Int32) (hs : Nat → Int32) (isz : Nat → Int32) (igd : Nat → Int32) (iup : Nat → Int32) (idn : Nat → Int32) (osz : Nat → Int32) (ogd : Nat → Int32) (oup : Nat → Int32) (odn : Nat → Int32) (dep : Nat → Int32) (rsz : Int32) (lgd : Nat → Int32) (llf : Nat → Int64) (ldb : Nat → Int64) (ldy : Nat → Int32) (lsz : Int32) (lti : Int64) (pgd : Nat → Int32) (plf : Nat → Int64) (pun : Nat → Int32) (psz : Int32) (bgd : Nat → Int32) (bam : Nat → Int64) (bwt : Nat → Int64) (bsh : Nat → Int64) (brm : Nat → Int64) (bsz : Int32) (cab : Nat → Int64) (cbl : Nat → Int64) (tod : Int32) (imp : Int64) (dis : Int64) (owe : Int64) (itr : Int64) (out : Nat → Int64) (mth : Int32) (mlo : Int32) (mre : Int32) (mpr : Int32) (mto : Int32) (mim : Int64) (mdi : Int64) (mow : Int64) (mit : Int64) (mvl : Nat → Int32) (mhs : Nat → Int32) (mns : Nat → Int32) (mby : Nat → Int32) (mng : Nat → Int32) (mnu : Nat → Int32) (mnd : Nat → Int32) (mbg : Nat → Int32) (mbu : Nat → Int32) (mbd : Nat → Int32) (mlg : Nat → Int32) (mly : Nat → Int32) (mll : Nat → Int64) (mld : Nat → Int64) (mpg : Nat → Int32) (mpu : Nat → Int32) (mpl : Nat → Int64) (mtd : Int64) (mti : Int64) (mwt : Nat → Int64) (mch : Nat → Int64) (x4 : Int32) (H : Heap) (locs : List Loc) (ls : Array Slot), vE s (fun z : Nat => s.heap.size ≤ z) D (gT cI cJ cZ) (((cW a cI cJ cZ vl hs isz igd iup idn osz ogd oup odn dep rsz lgd llf ldb ldy lsz lti pgd plf pun psz bgd bam bwt bsh brm bsz cab cbl tod imp dis owe itr) ++ [(q, .inl (cJ, 1, .inr (.inl out)))]) ++ (mW b cI cJ cZ mth mlo mre mpr mto mim mdi mow mit mvl mhs mns mby mng mnu mnd mbg mbu mbd mlg mly mll mld mpg mpu mpl mtd mti mwt mch)) H locs → lv_has ls 8 [(0, .ref bs), (1, .ref (a 0)), (2, .ref (b 0)), (3, .ref q), (4, .int x4)] → k23 vl hs isz igd iup idn osz ogd oup odn dep rsz lgd llf ldb ldy lsz lti pgd plf pun psz bgd bam bwt bsh brm bsz cab cbl tod imp dis owe itr out mth mlo mre mpr mto mim mdi mow mit mvl mhs mns mby mng mnu mnd mbg mbu mbd mlg mly mll mld mpg mpu mpl mtd mti mwt mch x4 = some () → W p l e room_1 s m #[Value.ref bs] below meth c H locs (54 + (j + 1)) (2581 + 6 * (j + 1)) (lw_Z below #[Value.ref bs] s) (F0 m 23 ls [])) {H : Heap} {locs : List Loc} {ls : Array Slot} (E : vE s (fun z : Nat => s.heap.size ≤ z) D (gT cI cJ cZ) (((cW a cI cJ cZ vl hs isz igd iup idn osz ogd oup odn dep rsz lgd llf ldb ldy lsz lti pgd plf pun psz bgd bam bwt bsh brm bsz cab cbl tod imp dis owe itr) ++ [(q, .inl (cJ, 1, .inr (.inl out)))]) ++ (mW b cI cJ cZ mth mlo mre mpr mto mim mdi mow mit mvl mhs mns mby mng mnu mnd mbg mbu mbd mlg mly mll mld mpg mpu mpl mtd mti mwt mch)) H locs) (hl : lv_has ls 8 [(0, .ref bs), (1, .ref (a 0)), (2, .ref (b 0)), (3, .ref q), (4, .int x4)]) (hf : f_L_law_J990 xs L vl hs isz igd iup idn osz ogd oup odn dep rsz lgd llf ldb ldy lsz lti pgd plf pun psz bgd bam bwt bsh brm bsz cab cbl tod imp dis owe itr out mth mlo mre mpr mto mim mdi mow mit mvl mhs mns mby mng mnu mnd mbg mbu mbd mlg mly mll mld mpg mpu mpl mtd mti mwt mch x4 k23 = some ()) : W p l e room_1 s m #[Value.ref bs] below meth c H locs (54 + j) (2581 + 6 * j) (lw_Z below #[Value.ref bs] s) (F0 m 990 ls []) := by
  obtain ⟨hx, hb, hr, hml, hown, hts, hlocks, hN, hA⟩ := id C
  have hl0 : l.stackTraces = false := hV.1
  have hbA : ¬ (fun z : Nat => s.heap.size ≤ z) bs := Nat.not_le.mpr hbl
  rw [f_L_law_J990] at hf
  refine lv_aload_n hx hb dL_law_990 rfl (lv_at hl 1 rfl) ?_
  refine lv_aload_n hx hb dL_law_991 rfl (lv_at hl 0 rfl) ?_
  refine lv_iload hx hb dL_law_992 (lv_at hl 4 rfl) ?_
  refine lv_iconst (v := 1) hx hb dL_law_994 (by decide) ?_
  refine lv_iadd hx hb dL_law_995 ?_
  obtain ⟨h1, hf⟩ := ck_some hf
  refine va_sld hx hb hX hbl hbA E.2.2.2 h1 dL_law_996 ?_
  obtain ⟨o2, e3, hf⟩ := bd_some hf
  refine g_calllF (wc := (cW a cI cJ cZ vl hs isz igd iup idn osz ogd oup odn dep rsz lgd llf ldb ldy lsz lti pgd plf pun psz bgd bam bwt bsh brm bsz cab cbl tod imp dis owe itr)) (wc' := (cW a cI cJ cZ vl hs isz igd iup idn osz ogd oup odn dep rsz lgd llf ldb ldy lsz lti pgd plf pun psz bgd bam bwt bsh brm bsz cab cbl tod imp dis owe itr)) (wr := ([(q, .inl (cJ, 1, .inr (.inl out)))] ++ (mW b cI cJ cZ mth mlo mre mpr mto mim mdi mow mit mvl mhs mns mby mng mnu mnd mbg mbu mbd mlg mly mll mld mpg mpu mpl mtd mti mwt mch))) C (vE_as E) (g_runV (As := [.int (xs (x4 + (1 : Int32)).toNatClampNeg)]) (rest := []) C (vE_left (vE_as E)) (c_X6_sum e3) (cwV 1 hts gL_law_X6_sum rfl rfl rfl ⟨rfl, hd_X6_sum⟩ ⟨(Nat.le_of_ble_eq_true rfl), (Nat.le_of_ble_eq_true rfl)⟩) (q0 := 0) (ci := 6) rfl rfl rfl rfl hl.1 rfl (Nat.le_of_ble_eq_true rfl) dL_law_997 ⟨show 54 + j + 0 ≤ 1090 by omega, show 2581 + 6 * j + 0 ≤ 10845 by omega⟩) (fun H locs E => ?_)
  replace E := vE_sa E
  refine lv_aload_n hx hb dL_law_1000 rfl (lv_at hl 2 rfl) ?_
  refine lv_aload_n hx hb dL_law_1001 rfl (lv_at hl 0 rfl) ?_
  refine lv_iload hx hb dL_law_1002 (lv_at hl 4 rfl) ?_
  refine lv_iconst (v := 1) hx hb dL_law_1004 (by decide) ?_
  refine lv_iadd hx hb dL_law_1005 ?_
  obtain ⟨h4, hf⟩ := ck_some hf
  refine va_sld hx hb hX hbl hbA E.2.2.2 h4 dL_law_1006 ?_
  obtain ⟨o5, e6, hf⟩ := bd_some hf
  refine g_calllF (wc := (mW b cI cJ cZ mth mlo mre mpr mto mim mdi mow mit mvl mhs mns mby mng mnu mnd mbg mbu mbd mlg mly mll mld mpg mpu mpl mtd mti mwt mch)) (wc' := (mW b cI cJ cZ o5.2 mlo mre mpr mto mim mdi mow mit mvl mhs mns mby mng mnu mnd mbg mbu mbd mlg mly mll mld mpg mpu mpl mtd mti mwt mch)) (wr := ((cW a cI cJ cZ vl hs isz igd iup idn osz ogd oup odn dep rsz lgd llf ldb ldy lsz lti pgd plf pun psz bgd bam bwt bsh brm bsz cab cbl tod imp dis owe itr) ++ [(q, .inl (cJ, 1, .inr (.inl out)))])) C (vE_swap E) (g_runV (As := [.int (xs (x4 + (1 : Int32)).toNatClampNeg)]) (rest := [.long o2]) C (vE_left (vE_swap E)) (c_X7_sum e6) (cwV 1 hts gL_law_X7_sum rfl rfl rfl ⟨rfl, hd_X7_sum⟩ ⟨(Nat.le_of_ble_eq_true rfl), (Nat.le_of_ble_eq_true rfl)⟩) (q0 := 0) (ci := 7) rfl rfl rfl rfl hl.1 rfl (Nat.le_of_ble_eq_true rfl) dL_law_1007 ⟨show 54 + j + 0 ≤ 1090 by omega, show 2581 + 6 * j + 0 ≤ 10845 by omega⟩) (fun H locs E => ?_)
  replace E := vE_swap E
  refine W.lcmp hx hb dL_law_1010 ?_
  refine lv_if_eq (tgt := 1108) hx hb dL_law_1011 (by decide) (fun c7 => ?_) (fun c7 => ?_)
  · rw [if_pos c7] at hf
    refine lv_iinc (v := (x4 + 5)) (lv' := [(4, .int (x4 + 5)), (0, .ref bs), (1, .ref (a 0)), (2, .ref (b 0)), (3, .ref q)]) hx hb dL_law_1108 hl (k := 4) rfl rfl (by decide) rfl (fun ls hl => ?_)
    refine lv_goto (tgt := 23) hx hb dL_law_1111 (by decide) ?_
    refine W.widen (k := 54 + (j + 1)) (n := 2581 + 6 * (j + 1)) (by omega) (by omega) ?_
    exact hk23 vl hs isz igd iup idn osz ogd oup odn dep rsz lgd llf ldb ldy lsz lti pgd plf pun psz bgd bam bwt bsh brm bsz cab cbl tod imp dis owe itr out o5.2 mlo mre mpr mto mim mdi mow mit mvl mhs mns mby mng mnu mnd mbg mbu mbd mlg mly mll mld mpg mpu mpl mtd mti mwt mch (x4 + 5) _ _ _ E (lv_sub hl [1, 2, 3, 4, 0] rfl) hf
  · rw [if_neg c7] at hf
    refine lv_iconst (v := 0) hx hb dL_law_1014 (by decide) ?_
    cases hf
def f_L_law_J923 (xs : Nat → Int32) (L : Nat) (vl : Nat → Int32) (hs : Nat → Int32) (isz : Nat → Int32) (igd : Nat → Int32) (iup : Nat → Int32) (idn : Nat → Int32) (osz : Nat → Int32) (ogd : Nat → Int32) (oup : Nat → Int32) (odn : Nat → Int32) (dep : Nat → Int32) (rsz : Int32) (lgd : Nat → Int32) (llf : Nat → Int64) (ldb : Nat → Int64) (ldy : Nat → Int32) (lsz : Int32) (lti : Int64) (pgd : Nat → Int32) (plf : Nat → Int64) (pun : Nat → Int32) (psz : Int32) (bgd : Nat → Int32) (bam : Nat → Int64) (bwt : Nat → Int64) (bsh : Nat → Int64) (brm : Nat → Int64) (bsz : Int32) (cab : Nat → Int64) (cbl : Nat → Int64) (tod : Int32) (imp : Int64) (dis : Int64) (owe : Int64) (itr : Int64) (out : Nat → Int64) (mth : Int32) (mlo : Int32) (mre : Int32) (mpr : Int32) (mto : Int32) (mim : Int64) (mdi : Int64) (mow : Int64) (mit : Int64) (mvl : Nat → Int32) (mhs : Nat → Int32) (mns : Nat → Int32) (mby : Nat → Int32) (mng : Nat → Int32) (mnu : Nat → Int32) (mnd : Nat → Int32) (mbg : Nat → Int32) (mbu : Nat → Int32) (mbd : Nat → Int32) (mlg : Nat → Int32) (mly : Nat → Int32) (mll : Nat → Int64) (mld : Nat → Int64) (mpg : Nat → Int32) (mpu : Nat → Int32) (mpl : Nat → Int64) (mtd : Int64) (mti : Int64) (mwt : Nat → Int64) (mch : Nat → Int64) (x4 : Int32) (k23 : (Nat → Int32) → (Nat → Int32) → (Nat → Int32) → (Nat → Int32) → (Nat → Int32) → (Nat → Int32) → (Nat → Int32) → (Nat → Int32) → (Nat → Int32) → (Nat → Int32) → (Nat → Int32) → (Int32) → (Nat → Int32) → (Nat → Int64) → (Nat → Int64) → (Nat → Int32) → (Int32) → (Int64) → (Nat → Int32) → (Nat → Int64) → (Nat → Int32) → (Int32) → (Nat → Int32) → (Nat → Int64) → (Nat → Int64) → (Nat → Int64) → (Nat → Int64) → (Int32) → (Nat → Int64) → (Nat → Int64) → (Int32) → (Int64) → (Int64) → (Int64) → (Int64) → (Nat → Int64) → (Int32) → (Int32) → (Int32) → (Int32) → (Int32) → (Int64) → (Int64) → (Int64) → (Int64) → (Nat → Int32) → (Nat → Int32) → (Nat → Int32) → (Nat → Int32) → (Nat → Int32) → (Nat → Int32) → (Nat → Int32) → (Nat → Int32) → (Nat → Int32) → (Nat → Int32) → (Nat → Int32) → (Nat → Int32) → (Nat → Int64) → (Nat → Int64) → (Nat → Int32) → (Nat → Int32) → (Nat → Int64) → (Int64) → (Int64) → (Nat → Int64) → (Nat → Int64) → Int32 → Option Unit) : Option Unit :=
  ck (x4 + (1 : Int32)) L <|
  ck (x4 + (2 : Int32)) L <|
  (f_L_lot lgd llf ldb ldy lsz (xs (x4 + (1 : Int32)).toNatClampNeg) (xs (x4 + (2 : Int32)).toNatClampNeg) out).bind fun o3 =>
  ck (x4 + (1 : Int32)) L <|
  ck (x4 + (2 : Int32)) L <|
  (f_X7_lot mth mlo mlg mly mll mld (xs (x4 + (1 : Int32)).toNatClampNeg) (xs (x4 + (2 : Int32)).toNatClampNeg)).bind fun o7 =>
  (f_X7_thrown o7.2).bind fun o9 =>
  if o9 = o3.1 then
    if o3.1 = 0 then
      ck (0 : Int32) 1 <|
      if (lg_cmp (o3.2 (0 : Int32).toNatClampNeg) o7.1) = 0 then
        k23 vl hs isz igd iup idn osz ogd oup odn dep rsz lgd llf ldb ldy lsz lti pgd plf pun psz bgd bam bwt bsh brm bsz cab cbl tod imp dis owe itr o3.2 o7.2 mlo mre mpr mto mim mdi mow mit mvl mhs mns mby mng mnu mnd mbg mbu mbd mlg mly mll mld mpg mpu mpl mtd mti mwt mch (x4 + 5)
      else
        none
    else
      k23 vl hs isz igd iup idn osz ogd oup odn dep rsz lgd llf ldb ldy lsz lti pgd plf pun psz bgd bam bwt bsh brm bsz cab cbl tod imp dis owe itr o3.2 o7.2 mlo mre mpr mto mim mdi mow mit mvl mhs mns mby mng mnu mnd mbg mbu mbd mlg mly mll mld mpg mpu mpl mtd mti mwt mch (x4 + 5)
  else
    none
set_option maxHeartbeats 8000000 in
set_option maxRecDepth 100000 in
theorem w_L_law_J923 {p : Program} {l : Launch} {e : Env} {s : State} {m : MethodId} {below : List Frame} {meth : Method} {c : Code} {D : va_G} {cI cJ cZ : ClassId} {a b : Nat → Nat} {q bs L : Nat} {xs : Nat → Int32} {vl : Nat → Int32} {hs : Nat → Int32} {isz : Nat → Int32} {igd : Nat → Int32} {iup : Nat → Int32} {idn : Nat → Int32} {osz : Nat → Int32} {ogd : Nat → Int32} {oup : Nat → Int32} {odn : Nat → Int32} {dep : Nat → Int32} {rsz : Int32} {lgd : Nat → Int32} {llf : Nat → Int64} {ldb : Nat → Int64} {ldy : Nat → Int32} {lsz : Int32} {lti : Int64} {pgd : Nat → Int32} {plf : Nat → Int64} {pun : Nat → Int32} {psz : Int32} {bgd : Nat → Int32} {bam : Nat → Int64} {bwt : Nat → Int64} {bsh : Nat → Int64} {brm : Nat → Int64} {bsz : Int32} {cab : Nat → Int64} {cbl : Nat → Int64} {tod : Int32} {imp : Int64} {dis : Int64} {owe : Int64} {itr : Int64} {out : Nat → Int64} {mth : Int32} {mlo : Int32} {mre : Int32} {mpr : Int32} {mto : Int32} {mim : Int64} {mdi : Int64} {mow : Int64} {mit : Int64} {mvl : Nat → Int32} {mhs : Nat → Int32} {mns : Nat → Int32} {mby : Nat → Int32} {mng : Nat → Int32} {mnu : Nat → Int32} {mnd : Nat → Int32} {mbg : Nat → Int32} {mbu : Nat → Int32} {mbd : Nat → Int32} {mlg : Nat → Int32} {mly : Nat → Int32} {mll : Nat → Int64} {mld : Nat → Int64} {mpg : Nat → Int32} {mpu : Nat → Int32} {mpl : Nat → Int64} {mtd : Int64} {mti : Int64} {mwt : Nat → Int64} {mch : Nat → Int64} {j : Nat} {x4 : Int32} (C : gC p s m #[Value.ref bs] meth c cL_law 8 ret wsL_law RL (fun z : Nat => s.heap.size ≤ z)) (hV : gV l s (fun z : Nat => s.heap.size ≤ z)) (hX : va_X bs L xs s s.heap) (hbl : bs < s.heap.size) (hj : j + 1 ≤ 514) {k23 : (Nat → Int32) → (Nat → Int32) → (Nat → Int32) → (Nat → Int32) → (Nat → Int32) → (Nat → Int32) → (Nat → Int32) → (Nat → Int32) → (Nat → Int32) → (Nat → Int32) → (Nat → Int32) → (Int32) → (Nat → Int32) → (Nat → Int64) → (Nat → Int64) → (Nat → Int32) → (Int32) → (Int64) → (Nat → Int32) → (Nat → Int64) → (Nat → Int32) → (Int32) → (Nat → Int32) → (Nat → Int64) → (Nat → Int64) → (Nat → Int64) → (Nat → Int64) → (Int32) → (Nat → Int64) → (Nat → Int64) → (Int32) → (Int64) → (Int64) → (Int64) → (Int64) → (Nat → Int64) → (Int32) → (Int32) → (Int32) → (Int32) → (Int32) → (Int64) → (Int64) → (Int64) → (Int64) → (Nat → Int32) → (Nat → Int32) → (Nat → Int32) → (Nat → Int32) → (Nat → Int32) → (Nat → Int32) → (Nat → Int32) → (Nat → Int32) → (Nat → Int32) → (Nat → Int32) → (Nat → Int32) → (Nat → Int32) → (Nat → Int64) → (Nat → Int64) → (Nat → Int32) → (Nat → Int32) → (Nat → Int64) → (Int64) → (Int64) → (Nat → Int64) → (Nat → Int64) → Int32 → Option Unit} (hk23 : ∀ (vl : Nat → Int32) (hs : Nat → Int32) (isz : Nat → Int32) (igd : Nat → Int32) (iup : Nat → Int32) (idn : Nat → Int32) (osz : Nat → Int32) (ogd : Nat → Int32) (oup : Nat → Int32) (odn : Nat → Int32) (dep : Nat → Int32) (rsz : Int32) (lgd : Nat → Int32) (llf : Nat → Int64) (ldb : Nat → Int64) (ldy : Nat → Int32) (lsz : Int32) (lti : Int64) (pgd : Nat → Int32) (plf : Nat → Int64) (pun : Nat → Int32) (psz : Int32) (bgd : Nat → Int32) (bam : Nat → Int64) (bwt : Nat → Int64) (bsh : Nat → Int64) (brm : Nat → Int64) (bsz : Int32) (cab : Nat → Int64) (cbl : Nat → Int64) (tod : Int32) (imp : Int64) (dis : Int64) (owe : Int64) (itr : Int64) (out : Nat → Int64) (mth : Int32) (mlo : Int32) (mre : Int32) (mpr : Int32) (mto : Int32) (mim : Int64) (mdi : Int64) (mow : Int64) (mit : Int64) (mvl : Nat → Int32) (mhs : Nat → Int32) (mns : Nat → Int32) (mby : Nat → Int32) (mng : Nat → Int32) (mnu : Nat → Int32) (mnd : Nat → Int32) (mbg : Nat → Int32) (mbu : Nat → Int32) (mbd : Nat → Int32) (mlg : Nat → Int32) (mly : Nat → Int32) (mll : Nat → Int64) (mld : Nat → Int64) (mpg : Nat → Int32) (mpu : Nat → Int32) (mpl : Nat → Int64) (mtd : Int64) (mti : Int64) (mwt : Nat → Int64) (mch : Nat → Int64) (x4 : Int32) (H : Heap) (locs : List Loc) (ls : Array Slot), vE s (fun z : Nat => s.heap.size ≤ z) D (gT cI cJ cZ) (((cW a cI cJ cZ vl hs isz igd iup idn osz ogd oup odn dep rsz lgd llf ldb ldy lsz lti pgd plf pun psz bgd bam bwt bsh brm bsz cab cbl tod imp dis owe itr) ++ [(q, .inl (cJ, 1, .inr (.inl out)))]) ++ (mW b cI cJ cZ mth mlo mre mpr mto mim mdi mow mit mvl mhs mns mby mng mnu mnd mbg mbu mbd mlg mly mll mld mpg mpu mpl mtd mti mwt mch)) H locs → lv_has ls 8 [(0, .ref bs), (1, .ref (a 0)), (2, .ref (b 0)), (3, .ref q), (4, .int x4)] → k23 vl hs isz igd iup idn osz ogd oup odn dep rsz lgd llf ldb ldy lsz lti pgd plf pun psz bgd bam bwt bsh brm bsz cab cbl tod imp dis owe itr out mth mlo mre mpr mto mim mdi mow mit mvl mhs mns mby mng mnu mnd mbg mbu mbd mlg mly mll mld mpg mpu mpl mtd mti mwt mch x4 = some () → W p l e room_1 s m #[Value.ref bs] below meth c H locs (54 + (j + 1)) (2581 + 6 * (j + 1)) (lw_Z below #[Value.ref bs] s) (F0 m 23 ls [])) {H : Heap} {locs : List Loc} {ls : Array Slot} (E : vE s (fun z : Nat => s.heap.size ≤ z) D (gT cI cJ cZ) (((cW a cI cJ cZ vl hs isz igd iup idn osz ogd oup odn dep rsz lgd llf ldb ldy lsz lti pgd plf pun psz bgd bam bwt bsh brm bsz cab cbl tod imp dis owe itr) ++ [(q, .inl (cJ, 1, .inr (.inl out)))]) ++ (mW b cI cJ cZ mth mlo mre mpr mto mim mdi mow mit mvl mhs mns mby mng mnu mnd mbg mbu mbd mlg mly mll mld mpg mpu mpl mtd mti mwt mch)) H locs) (hl : lv_has ls 8 [(0, .ref bs), (1, .ref (a 0)), (2, .ref (b 0)), (3, .ref q), (4, .int x4)]) (hf : f_L_law_J923 xs L vl hs isz igd iup idn osz ogd oup odn dep rsz lgd llf ldb ldy lsz lti pgd plf pun psz bgd bam bwt bsh brm bsz cab cbl tod imp dis owe itr out mth mlo mre mpr mto mim mdi mow mit mvl mhs mns mby mng mnu mnd mbg mbu mbd mlg mly mll mld mpg mpu mpl mtd mti mwt mch x4 k23 = some ()) : W p l e room_1 s m #[Value.ref bs] below meth c H locs (54 + j) (2581 + 6 * j) (lw_Z below #[Value.ref bs] s) (F0 m 923 ls []) := by
  obtain ⟨hx, hb, hr, hml, hown, hts, hlocks, hN, hA⟩ := id C
  have hl0 : l.stackTraces = false := hV.1
  have hbA : ¬ (fun z : Nat => s.heap.size ≤ z) bs := Nat.not_le.mpr hbl
  rw [f_L_law_J923] at hf
  refine lv_aload_n hx hb dL_law_923 rfl (lv_at hl 1 rfl) ?_
  refine lv_aload_n hx hb dL_law_924 rfl (lv_at hl 0 rfl) ?_
  refine lv_iload hx hb dL_law_925 (lv_at hl 4 rfl) ?_
  refine lv_iconst (v := 1) hx hb dL_law_927 (by decide) ?_
  refine lv_iadd hx hb dL_law_928 ?_
  obtain ⟨h1, hf⟩ := ck_some hf
  refine va_sld hx hb hX hbl hbA E.2.2.2 h1 dL_law_929 ?_
  refine lv_aload_n hx hb dL_law_930 rfl (lv_at hl 0 rfl) ?_
  refine lv_iload hx hb dL_law_931 (lv_at hl 4 rfl) ?_
  refine lv_iconst (v := 2) hx hb dL_law_933 (by decide) ?_
  refine lv_iadd hx hb dL_law_934 ?_
  obtain ⟨h2, hf⟩ := ck_some hf
  refine va_sld hx hb hX hbl hbA E.2.2.2 h2 dL_law_935 ?_
  refine lv_aload_n hx hb dL_law_936 rfl (lv_at hl 3 rfl) ?_
  obtain ⟨o3, e4, hf⟩ := bd_some hf
  refine g_calliW (wc := ((cW a cI cJ cZ vl hs isz igd iup idn osz ogd oup odn dep rsz lgd llf ldb ldy lsz lti pgd plf pun psz bgd bam bwt bsh brm bsz cab cbl tod imp dis owe itr) ++ [(q, .inl (cJ, 1, .inr (.inl out)))])) (wc' := ((cW a cI cJ cZ vl hs isz igd iup idn osz ogd oup odn dep rsz lgd llf ldb ldy lsz lti pgd plf pun psz bgd bam bwt bsh brm bsz cab cbl tod imp dis owe itr) ++ [(q, .inl (cJ, 1, .inr (.inl o3.2)))])) (wr := (mW b cI cJ cZ mth mlo mre mpr mto mim mdi mow mit mvl mhs mns mby mng mnu mnd mbg mbu mbd mlg mly mll mld mpg mpu mpl mtd mti mwt mch)) C E (g_runSW (As := [.ref (a 0), .int (xs (x4 + (1 : Int32)).toNatClampNeg), .int (xs (x4 + (2 : Int32)).toNatClampNeg), .ref q]) (rest := []) C (vE_left E) hV (c_L_lot hl0 e4) (vx_cwSW 4 hts gL_law_L_lot rfl rfl rfl hd_L_lot ⟨(Nat.le_of_ble_eq_true rfl), (Nat.le_of_ble_eq_true rfl)⟩) rfl hl.1 rfl (Nat.le_of_ble_eq_true rfl) dL_law_937 ⟨show 54 + j + 1 ≤ 1090 by omega, show 2581 + 6 * j + 6 ≤ 10845 by omega⟩) (fun H locs E => ?_)
  refine lv_istore (lv' := [(5, .int o3.1), (0, .ref bs), (1, .ref (a 0)), (2, .ref (b 0)), (3, .ref q), (4, .int x4)]) hx hb dL_law_940 hl (by decide) rfl (fun ls hl => ?_)
  refine lv_aload_n hx hb dL_law_942 rfl (lv_at hl 3 rfl) ?_
  refine lv_aload_n hx hb dL_law_943 rfl (lv_at hl 1 rfl) ?_
  refine lv_iload hx hb dL_law_944 (lv_at hl 5 rfl) ?_
  refine lv_iconst (v := 1) hx hb dL_law_946 (by decide) ?_
  refine lv_iadd hx hb dL_law_947 ?_
  obtain ⟨h5, hf⟩ := ck_some hf
  refine va_sld hx hb hX hbl hbA E.2.2.2 h5 dL_law_948 ?_
  refine lv_aload_n hx hb dL_law_949 rfl (lv_at hl 1 rfl) ?_
  refine lv_iload hx hb dL_law_950 (lv_at hl 5 rfl) ?_
  refine lv_iconst (v := 2) hx hb dL_law_952 (by decide) ?_
  refine lv_iadd hx hb dL_law_953 ?_
  obtain ⟨h6, hf⟩ := ck_some hf
  refine va_sld hx hb hX hbl hbA E.2.2.2 h6 dL_law_954 ?_
  obtain ⟨o7, e8, hf⟩ := bd_some hf
  refine g_calllF (wc := (mW b cI cJ cZ mth mlo mre mpr mto mim mdi mow mit mvl mhs mns mby mng mnu mnd mbg mbu mbd mlg mly mll mld mpg mpu mpl mtd mti mwt mch)) (wc' := (mW b cI cJ cZ o7.2 mlo mre mpr mto mim mdi mow mit mvl mhs mns mby mng mnu mnd mbg mbu mbd mlg mly mll mld mpg mpu mpl mtd mti mwt mch)) (wr := ((cW a cI cJ cZ vl hs isz igd iup idn osz ogd oup odn dep rsz lgd llf ldb ldy lsz lti pgd plf pun psz bgd bam bwt bsh brm bsz cab cbl tod imp dis owe itr) ++ [(q, .inl (cJ, 1, .inr (.inl o3.2)))])) C (vE_swap E) (g_runV (As := [.int (xs (x4 + (1 : Int32)).toNatClampNeg), .int (xs (x4 + (2 : Int32)).toNatClampNeg)]) (rest := []) C (vE_left (vE_swap E)) (c_X7_lot e8) (cwV 2 hts gL_law_X7_lot rfl rfl rfl ⟨rfl, hd_X7_lot⟩ ⟨(Nat.le_of_ble_eq_true rfl), (Nat.le_of_ble_eq_true rfl)⟩) (q0 := 0) (ci := 7) rfl rfl rfl rfl hl.1 rfl (Nat.le_of_ble_eq_true rfl) dL_law_955 ⟨show 54 + j + 1 + 0 ≤ 1090 by omega, show 2581 + 6 * j + 6 + 0 ≤ 10845 by omega⟩) (fun H locs E => ?_)
  replace E := vE_swap E
  refine lv_lstore (lv' := [(6, .long o7.1), (5, .int o3.1), (0, .ref bs), (1, .ref (a 0)), (2, .ref (b 0)), (3, .ref q), (4, .int x4)]) hx hb dL_law_958 hl (by decide) rfl (fun ls hl => ?_)
  refine lv_aload_n hx hb dL_law_960 rfl (lv_at hl 4 rfl) ?_
  obtain ⟨o9, e10, hf⟩ := bd_some hf
  refine g_calliF (wc := (mW b cI cJ cZ o7.2 mlo mre mpr mto mim mdi mow mit mvl mhs mns mby mng mnu mnd mbg mbu mbd mlg mly mll mld mpg mpu mpl mtd mti mwt mch)) (wc' := (mW b cI cJ cZ o7.2 mlo mre mpr mto mim mdi mow mit mvl mhs mns mby mng mnu mnd mbg mbu mbd mlg mly mll mld mpg mpu mpl mtd mti mwt mch)) (wr := ((cW a cI cJ cZ vl hs isz igd iup idn osz ogd oup odn dep rsz lgd llf ldb ldy lsz lti pgd plf pun psz bgd bam bwt bsh brm bsz cab cbl tod imp dis owe itr) ++ [(q, .inl (cJ, 1, .inr (.inl o3.2)))])) C (vE_swap E) (g_runV (As := []) (rest := []) C (vE_left (vE_swap E)) (c_X7_thrown e10) (cwV 0 hts gL_law_X7_thrown rfl rfl rfl ⟨rfl, hd_X7_thrown⟩ ⟨(Nat.le_of_ble_eq_true rfl), (Nat.le_of_ble_eq_true rfl)⟩) (q0 := 0) (ci := 7) rfl rfl rfl rfl hl.1 rfl (Nat.le_of_ble_eq_true rfl) dL_law_961 ⟨show 54 + j + 1 + 0 ≤ 1090 by omega, show 2581 + 6 * j + 6 + 0 ≤ 10845 by omega⟩) (fun H locs E => ?_)
  replace E := vE_swap E
  refine lv_iload hx hb dL_law_964 (lv_at hl 1 rfl) ?_
  refine lv_icmp_eq (tgt := 971) hx hb dL_law_966 (by decide) (fun c11 => ?_) (fun c11 => ?_)
  · rw [if_pos c11] at hf
    refine lv_iload hx hb dL_law_971 (lv_at hl 1 rfl) ?_
    refine lv_if_ne (tgt := 987) hx hb dL_law_973 (by decide) (fun c12 => ?_) (fun c12 => ?_)
    · rw [if_neg c12] at hf
      refine lv_goto (tgt := 1108) hx hb dL_law_987 (by decide) ?_
      refine lv_iinc (v := (x4 + 5)) (lv' := [(4, .int (x4 + 5)), (6, .long o7.1), (5, .int o3.1), (0, .ref bs), (1, .ref (a 0)), (2, .ref (b 0)), (3, .ref q)]) hx hb dL_law_1108 hl (k := 6) rfl rfl (by decide) rfl (fun ls hl => ?_)
      refine lv_goto (tgt := 23) hx hb dL_law_1111 (by decide) ?_
      refine W.widen (k := 54 + (j + 1)) (n := 2581 + 6 * (j + 1)) (by omega) (by omega) ?_
      exact hk23 vl hs isz igd iup idn osz ogd oup odn dep rsz lgd llf ldb ldy lsz lti pgd plf pun psz bgd bam bwt bsh brm bsz cab cbl tod imp dis owe itr o3.2 o7.2 mlo mre mpr mto mim mdi mow mit mvl mhs mns mby mng mnu mnd mbg mbu mbd mlg mly mll mld mpg mpu mpl mtd mti mwt mch (x4 + 5) _ _ _ E (lv_sub hl [3, 4, 5, 6, 0] rfl) hf
    · rw [if_pos c12] at hf
      refine lv_aload_n hx hb dL_law_976 rfl (lv_at hl 5 rfl) ?_
      refine lv_iconst (v := 0) hx hb dL_law_977 (by decide) ?_
      obtain ⟨h13, hf⟩ := ck_some hf
      refine g_lald C E 33 rfl h13 dL_law_978 ?_
      refine lv_lload hx hb dL_law_979 (lv_at hl 0 rfl) ?_
      refine W.lcmp hx hb dL_law_981 ?_
      refine lv_if_eq (tgt := 987) hx hb dL_law_982 (by decide) (fun c14 => ?_) (fun c14 => ?_)
      · rw [if_pos c14] at hf
        refine lv_goto (tgt := 1108) hx hb dL_law_987 (by decide) ?_
        refine lv_iinc (v := (x4 + 5)) (lv' := [(4, .int (x4 + 5)), (6, .long o7.1), (5, .int o3.1), (0, .ref bs), (1, .ref (a 0)), (2, .ref (b 0)), (3, .ref q)]) hx hb dL_law_1108 hl (k := 6) rfl rfl (by decide) rfl (fun ls hl => ?_)
        refine lv_goto (tgt := 23) hx hb dL_law_1111 (by decide) ?_
        refine W.widen (k := 54 + (j + 1)) (n := 2581 + 6 * (j + 1)) (by omega) (by omega) ?_
        exact hk23 vl hs isz igd iup idn osz ogd oup odn dep rsz lgd llf ldb ldy lsz lti pgd plf pun psz bgd bam bwt bsh brm bsz cab cbl tod imp dis owe itr o3.2 o7.2 mlo mre mpr mto mim mdi mow mit mvl mhs mns mby mng mnu mnd mbg mbu mbd mlg mly mll mld mpg mpu mpl mtd mti mwt mch (x4 + 5) _ _ _ E (lv_sub hl [3, 4, 5, 6, 0] rfl) hf
      · rw [if_neg c14] at hf
        refine lv_iconst (v := 0) hx hb dL_law_985 (by decide) ?_
        cases hf
  · rw [if_neg c11] at hf
    refine lv_iconst (v := 0) hx hb dL_law_969 (by decide) ?_
    cases hf
def f_L_law_J856 (xs : Nat → Int32) (L : Nat) (vl : Nat → Int32) (hs : Nat → Int32) (isz : Nat → Int32) (igd : Nat → Int32) (iup : Nat → Int32) (idn : Nat → Int32) (osz : Nat → Int32) (ogd : Nat → Int32) (oup : Nat → Int32) (odn : Nat → Int32) (dep : Nat → Int32) (rsz : Int32) (lgd : Nat → Int32) (llf : Nat → Int64) (ldb : Nat → Int64) (ldy : Nat → Int32) (lsz : Int32) (lti : Int64) (pgd : Nat → Int32) (plf : Nat → Int64) (pun : Nat → Int32) (psz : Int32) (bgd : Nat → Int32) (bam : Nat → Int64) (bwt : Nat → Int64) (bsh : Nat → Int64) (brm : Nat → Int64) (bsz : Int32) (cab : Nat → Int64) (cbl : Nat → Int64) (tod : Int32) (imp : Int64) (dis : Int64) (owe : Int64) (itr : Int64) (out : Nat → Int64) (mth : Int32) (mlo : Int32) (mre : Int32) (mpr : Int32) (mto : Int32) (mim : Int64) (mdi : Int64) (mow : Int64) (mit : Int64) (mvl : Nat → Int32) (mhs : Nat → Int32) (mns : Nat → Int32) (mby : Nat → Int32) (mng : Nat → Int32) (mnu : Nat → Int32) (mnd : Nat → Int32) (mbg : Nat → Int32) (mbu : Nat → Int32) (mbd : Nat → Int32) (mlg : Nat → Int32) (mly : Nat → Int32) (mll : Nat → Int64) (mld : Nat → Int64) (mpg : Nat → Int32) (mpu : Nat → Int32) (mpl : Nat → Int64) (mtd : Int64) (mti : Int64) (mwt : Nat → Int64) (mch : Nat → Int64) (x4 : Int32) (k23 : (Nat → Int32) → (Nat → Int32) → (Nat → Int32) → (Nat → Int32) → (Nat → Int32) → (Nat → Int32) → (Nat → Int32) → (Nat → Int32) → (Nat → Int32) → (Nat → Int32) → (Nat → Int32) → (Int32) → (Nat → Int32) → (Nat → Int64) → (Nat → Int64) → (Nat → Int32) → (Int32) → (Int64) → (Nat → Int32) → (Nat → Int64) → (Nat → Int32) → (Int32) → (Nat → Int32) → (Nat → Int64) → (Nat → Int64) → (Nat → Int64) → (Nat → Int64) → (Int32) → (Nat → Int64) → (Nat → Int64) → (Int32) → (Int64) → (Int64) → (Int64) → (Int64) → (Nat → Int64) → (Int32) → (Int32) → (Int32) → (Int32) → (Int32) → (Int64) → (Int64) → (Int64) → (Int64) → (Nat → Int32) → (Nat → Int32) → (Nat → Int32) → (Nat → Int32) → (Nat → Int32) → (Nat → Int32) → (Nat → Int32) → (Nat → Int32) → (Nat → Int32) → (Nat → Int32) → (Nat → Int32) → (Nat → Int32) → (Nat → Int64) → (Nat → Int64) → (Nat → Int32) → (Nat → Int32) → (Nat → Int64) → (Int64) → (Int64) → (Nat → Int64) → (Nat → Int64) → Int32 → Option Unit) : Option Unit :=
  ck (x4 + (1 : Int32)) L <|
  ck (x4 + (2 : Int32)) L <|
  (f_L_look vl hs isz osz dep lgd llf ldb lsz pgd plf pun psz tod (xs (x4 + (1 : Int32)).toNatClampNeg) (xs (x4 + (2 : Int32)).toNatClampNeg) out).bind fun o3 =>
  ck (x4 + (1 : Int32)) L <|
  ck (x4 + (2 : Int32)) L <|
  (f_X7_look mth mlo mpr mto mvl mhs mns mby mng mlg mll mld mpg mpu mpl (xs (x4 + (1 : Int32)).toNatClampNeg) (xs (x4 + (2 : Int32)).toNatClampNeg)).bind fun o7 =>
  (f_X7_thrown o7.2).bind fun o9 =>
  if o9 = o3.1 then
    if o3.1 = 0 then
      ck (0 : Int32) 1 <|
      if (lg_cmp (o3.2 (0 : Int32).toNatClampNeg) o7.1) = 0 then
        k23 vl hs isz igd iup idn osz ogd oup odn dep rsz lgd llf ldb ldy lsz lti pgd plf pun psz bgd bam bwt bsh brm bsz cab cbl tod imp dis owe itr o3.2 o7.2 mlo mre mpr mto mim mdi mow mit mvl mhs mns mby mng mnu mnd mbg mbu mbd mlg mly mll mld mpg mpu mpl mtd mti mwt mch (x4 + 5)
      else
        none
    else
      k23 vl hs isz igd iup idn osz ogd oup odn dep rsz lgd llf ldb ldy lsz lti pgd plf pun psz bgd bam bwt bsh brm bsz cab cbl tod imp dis owe itr o3.2 o7.2 mlo mre mpr mto mim mdi mow mit mvl mhs mns mby mng mnu mnd mbg mbu mbd mlg mly mll mld mpg mpu mpl mtd mti mwt mch (x4 + 5)
  else
    none
set_option maxHeartbeats 8000000 in
set_option maxRecDepth 100000 in
theorem w_L_law_J856 {p : Program} {l : Launch} {e : Env} {s : State} {m : MethodId} {below : List Frame} {meth : Method} {c : Code} {D : va_G} {cI cJ cZ : ClassId} {a b : Nat → Nat} {q bs L : Nat} {xs : Nat → Int32} {vl : Nat → Int32} {hs : Nat → Int32} {isz : Nat → Int32} {igd : Nat → Int32} {iup : Nat → Int32} {idn : Nat → Int32} {osz : Nat → Int32} {ogd : Nat → Int32} {oup : Nat → Int32} {odn : Nat → Int32} {dep : Nat → Int32} {rsz : Int32} {lgd : Nat → Int32} {llf : Nat → Int64} {ldb : Nat → Int64} {ldy : Nat → Int32} {lsz : Int32} {lti : Int64} {pgd : Nat → Int32} {plf : Nat → Int64} {pun : Nat → Int32} {psz : Int32} {bgd : Nat → Int32} {bam : Nat → Int64} {bwt : Nat → Int64} {bsh : Nat → Int64} {brm : Nat → Int64} {bsz : Int32} {cab : Nat → Int64} {cbl : Nat → Int64} {tod : Int32} {imp : Int64} {dis : Int64} {owe : Int64} {itr : Int64} {out : Nat → Int64} {mth : Int32} {mlo : Int32} {mre : Int32} {mpr : Int32} {mto : Int32} {mim : Int64} {mdi : Int64} {mow : Int64} {mit : Int64} {mvl : Nat → Int32} {mhs : Nat → Int32} {mns : Nat → Int32} {mby : Nat → Int32} {mng : Nat → Int32} {mnu : Nat → Int32} {mnd : Nat → Int32} {mbg : Nat → Int32} {mbu : Nat → Int32} {mbd : Nat → Int32} {mlg : Nat → Int32} {mly : Nat → Int32} {mll : Nat → Int64} {mld : Nat → Int64} {mpg : Nat → Int32} {mpu : Nat → Int32} {mpl : Nat → Int64} {mtd : Int64} {mti : Int64} {mwt : Nat → Int64} {mch : Nat → Int64} {j : Nat} {x4 : Int32} (C : gC p s m #[Value.ref bs] meth c cL_law 8 ret wsL_law RL (fun z : Nat => s.heap.size ≤ z)) (hV : gV l s (fun z : Nat => s.heap.size ≤ z)) (hX : va_X bs L xs s s.heap) (hbl : bs < s.heap.size) (hj : j + 1 ≤ 514) {k23 : (Nat → Int32) → (Nat → Int32) → (Nat → Int32) → (Nat → Int32) → (Nat → Int32) → (Nat → Int32) → (Nat → Int32) → (Nat → Int32) → (Nat → Int32) → (Nat → Int32) → (Nat → Int32) → (Int32) → (Nat → Int32) → (Nat → Int64) → (Nat → Int64) → (Nat → Int32) → (Int32) → (Int64) → (Nat → Int32) → (Nat → Int64) → (Nat → Int32) → (Int32) → (Nat → Int32) → (Nat → Int64) → (Nat → Int64) → (Nat → Int64) → (Nat → Int64) → (Int32) → (Nat → Int64) → (Nat → Int64) → (Int32) → (Int64) → (Int64) → (Int64) → (Int64) → (Nat → Int64) → (Int32) → (Int32) → (Int32) → (Int32) → (Int32) → (Int64) → (Int64) → (Int64) → (Int64) → (Nat → Int32) → (Nat → Int32) → (Nat → Int32) → (Nat → Int32) → (Nat → Int32) → (Nat → Int32) → (Nat → Int32) → (Nat → Int32) → (Nat → Int32) → (Nat → Int32) → (Nat → Int32) → (Nat → Int32) → (Nat → Int64) → (Nat → Int64) → (Nat → Int32) → (Nat → Int32) → (Nat → Int64) → (Int64) → (Int64) → (Nat → Int64) → (Nat → Int64) → Int32 → Option Unit} (hk23 : ∀ (vl : Nat → Int32) (hs : Nat → Int32) (isz : Nat → Int32) (igd : Nat → Int32) (iup : Nat → Int32) (idn : Nat → Int32) (osz : Nat → Int32) (ogd : Nat → Int32) (oup : Nat → Int32) (odn : Nat → Int32) (dep : Nat → Int32) (rsz : Int32) (lgd : Nat → Int32) (llf : Nat → Int64) (ldb : Nat → Int64) (ldy : Nat → Int32) (lsz : Int32) (lti : Int64) (pgd : Nat → Int32) (plf : Nat → Int64) (pun : Nat → Int32) (psz : Int32) (bgd : Nat → Int32) (bam : Nat → Int64) (bwt : Nat → Int64) (bsh : Nat → Int64) (brm : Nat → Int64) (bsz : Int32) (cab : Nat → Int64) (cbl : Nat → Int64) (tod : Int32) (imp : Int64) (dis : Int64) (owe : Int64) (itr : Int64) (out : Nat → Int64) (mth : Int32) (mlo : Int32) (mre : Int32) (mpr : Int32) (mto : Int32) (mim : Int64) (mdi : Int64) (mow : Int64) (mit : Int64) (mvl : Nat → Int32) (mhs : Nat → Int32) (mns : Nat → Int32) (mby : Nat → Int32) (mng : Nat → Int32) (mnu : Nat → Int32) (mnd : Nat → Int32) (mbg : Nat → Int32) (mbu : Nat → Int32) (mbd : Nat → Int32) (mlg : Nat → Int32) (mly : Nat → Int32) (mll : Nat → Int64) (mld : Nat → Int64) (mpg : Nat → Int32) (mpu : Nat → Int32) (mpl : Nat → Int64) (mtd : Int64) (mti : Int64) (mwt : Nat → Int64) (mch : Nat → Int64) (x4 : Int32) (H : Heap) (locs : List Loc) (ls : Array Slot), vE s (fun z : Nat => s.heap.size ≤ z) D (gT cI cJ cZ) (((cW a cI cJ cZ vl hs isz igd iup idn osz ogd oup odn dep rsz lgd llf ldb ldy lsz lti pgd plf pun psz bgd bam bwt bsh brm bsz cab cbl tod imp dis owe itr) ++ [(q, .inl (cJ, 1, .inr (.inl out)))]) ++ (mW b cI cJ cZ mth mlo mre mpr mto mim mdi mow mit mvl mhs mns mby mng mnu mnd mbg mbu mbd mlg mly mll mld mpg mpu mpl mtd mti mwt mch)) H locs → lv_has ls 8 [(0, .ref bs), (1, .ref (a 0)), (2, .ref (b 0)), (3, .ref q), (4, .int x4)] → k23 vl hs isz igd iup idn osz ogd oup odn dep rsz lgd llf ldb ldy lsz lti pgd plf pun psz bgd bam bwt bsh brm bsz cab cbl tod imp dis owe itr out mth mlo mre mpr mto mim mdi mow mit mvl mhs mns mby mng mnu mnd mbg mbu mbd mlg mly mll mld mpg mpu mpl mtd mti mwt mch x4 = some () → W p l e room_1 s m #[Value.ref bs] below meth c H locs (54 + (j + 1)) (2581 + 6 * (j + 1)) (lw_Z below #[Value.ref bs] s) (F0 m 23 ls [])) {H : Heap} {locs : List Loc} {ls : Array Slot} (E : vE s (fun z : Nat => s.heap.size ≤ z) D (gT cI cJ cZ) (((cW a cI cJ cZ vl hs isz igd iup idn osz ogd oup odn dep rsz lgd llf ldb ldy lsz lti pgd plf pun psz bgd bam bwt bsh brm bsz cab cbl tod imp dis owe itr) ++ [(q, .inl (cJ, 1, .inr (.inl out)))]) ++ (mW b cI cJ cZ mth mlo mre mpr mto mim mdi mow mit mvl mhs mns mby mng mnu mnd mbg mbu mbd mlg mly mll mld mpg mpu mpl mtd mti mwt mch)) H locs) (hl : lv_has ls 8 [(0, .ref bs), (1, .ref (a 0)), (2, .ref (b 0)), (3, .ref q), (4, .int x4)]) (hf : f_L_law_J856 xs L vl hs isz igd iup idn osz ogd oup odn dep rsz lgd llf ldb ldy lsz lti pgd plf pun psz bgd bam bwt bsh brm bsz cab cbl tod imp dis owe itr out mth mlo mre mpr mto mim mdi mow mit mvl mhs mns mby mng mnu mnd mbg mbu mbd mlg mly mll mld mpg mpu mpl mtd mti mwt mch x4 k23 = some ()) : W p l e room_1 s m #[Value.ref bs] below meth c H locs (54 + j) (2581 + 6 * j) (lw_Z below #[Value.ref bs] s) (F0 m 856 ls []) := by
  obtain ⟨hx, hb, hr, hml, hown, hts, hlocks, hN, hA⟩ := id C
  have hl0 : l.stackTraces = false := hV.1
  have hbA : ¬ (fun z : Nat => s.heap.size ≤ z) bs := Nat.not_le.mpr hbl
  rw [f_L_law_J856] at hf
  refine lv_aload_n hx hb dL_law_856 rfl (lv_at hl 1 rfl) ?_
  refine lv_aload_n hx hb dL_law_857 rfl (lv_at hl 0 rfl) ?_
  refine lv_iload hx hb dL_law_858 (lv_at hl 4 rfl) ?_
  refine lv_iconst (v := 1) hx hb dL_law_860 (by decide) ?_
  refine lv_iadd hx hb dL_law_861 ?_
  obtain ⟨h1, hf⟩ := ck_some hf
  refine va_sld hx hb hX hbl hbA E.2.2.2 h1 dL_law_862 ?_
  refine lv_aload_n hx hb dL_law_863 rfl (lv_at hl 0 rfl) ?_
  refine lv_iload hx hb dL_law_864 (lv_at hl 4 rfl) ?_
  refine lv_iconst (v := 2) hx hb dL_law_866 (by decide) ?_
  refine lv_iadd hx hb dL_law_867 ?_
  obtain ⟨h2, hf⟩ := ck_some hf
  refine va_sld hx hb hX hbl hbA E.2.2.2 h2 dL_law_868 ?_
  refine lv_aload_n hx hb dL_law_869 rfl (lv_at hl 3 rfl) ?_
  obtain ⟨o3, e4, hf⟩ := bd_some hf
  refine g_calliW (wc := ((cW a cI cJ cZ vl hs isz igd iup idn osz ogd oup odn dep rsz lgd llf ldb ldy lsz lti pgd plf pun psz bgd bam bwt bsh brm bsz cab cbl tod imp dis owe itr) ++ [(q, .inl (cJ, 1, .inr (.inl out)))])) (wc' := ((cW a cI cJ cZ vl hs isz igd iup idn osz ogd oup odn dep rsz lgd llf ldb ldy lsz lti pgd plf pun psz bgd bam bwt bsh brm bsz cab cbl tod imp dis owe itr) ++ [(q, .inl (cJ, 1, .inr (.inl o3.2)))])) (wr := (mW b cI cJ cZ mth mlo mre mpr mto mim mdi mow mit mvl mhs mns mby mng mnu mnd mbg mbu mbd mlg mly mll mld mpg mpu mpl mtd mti mwt mch)) C E (g_runSW (As := [.ref (a 0), .int (xs (x4 + (1 : Int32)).toNatClampNeg), .int (xs (x4 + (2 : Int32)).toNatClampNeg), .ref q]) (rest := []) C (vE_left E) hV (c_L_look hl0 e4) (vx_cwSW 4 hts gL_law_L_look rfl rfl rfl hd_L_look ⟨(Nat.le_of_ble_eq_true rfl), (Nat.le_of_ble_eq_true rfl)⟩) rfl hl.1 rfl (Nat.le_of_ble_eq_true rfl) dL_law_870 ⟨show 54 + j + 1 ≤ 1090 by omega, show 2581 + 6 * j + 6 ≤ 10845 by omega⟩) (fun H locs E => ?_)
  refine lv_istore (lv' := [(5, .int o3.1), (0, .ref bs), (1, .ref (a 0)), (2, .ref (b 0)), (3, .ref q), (4, .int x4)]) hx hb dL_law_873 hl (by decide) rfl (fun ls hl => ?_)
  refine lv_aload_n hx hb dL_law_875 rfl (lv_at hl 3 rfl) ?_
  refine lv_aload_n hx hb dL_law_876 rfl (lv_at hl 1 rfl) ?_
  refine lv_iload hx hb dL_law_877 (lv_at hl 5 rfl) ?_
  refine lv_iconst (v := 1) hx hb dL_law_879 (by decide) ?_
  refine lv_iadd hx hb dL_law_880 ?_
  obtain ⟨h5, hf⟩ := ck_some hf
  refine va_sld hx hb hX hbl hbA E.2.2.2 h5 dL_law_881 ?_
  refine lv_aload_n hx hb dL_law_882 rfl (lv_at hl 1 rfl) ?_
  refine lv_iload hx hb dL_law_883 (lv_at hl 5 rfl) ?_
  refine lv_iconst (v := 2) hx hb dL_law_885 (by decide) ?_
  refine lv_iadd hx hb dL_law_886 ?_
  obtain ⟨h6, hf⟩ := ck_some hf
  refine va_sld hx hb hX hbl hbA E.2.2.2 h6 dL_law_887 ?_
  obtain ⟨o7, e8, hf⟩ := bd_some hf
  refine g_calllF (wc := (mW b cI cJ cZ mth mlo mre mpr mto mim mdi mow mit mvl mhs mns mby mng mnu mnd mbg mbu mbd mlg mly mll mld mpg mpu mpl mtd mti mwt mch)) (wc' := (mW b cI cJ cZ o7.2 mlo mre mpr mto mim mdi mow mit mvl mhs mns mby mng mnu mnd mbg mbu mbd mlg mly mll mld mpg mpu mpl mtd mti mwt mch)) (wr := ((cW a cI cJ cZ vl hs isz igd iup idn osz ogd oup odn dep rsz lgd llf ldb ldy lsz lti pgd plf pun psz bgd bam bwt bsh brm bsz cab cbl tod imp dis owe itr) ++ [(q, .inl (cJ, 1, .inr (.inl o3.2)))])) C (vE_swap E) (g_runV (As := [.int (xs (x4 + (1 : Int32)).toNatClampNeg), .int (xs (x4 + (2 : Int32)).toNatClampNeg)]) (rest := []) C (vE_left (vE_swap E)) (c_X7_look e8) (cwV 2 hts gL_law_X7_look rfl rfl rfl ⟨rfl, hd_X7_look⟩ ⟨(Nat.le_of_ble_eq_true rfl), (Nat.le_of_ble_eq_true rfl)⟩) (q0 := 0) (ci := 7) rfl rfl rfl rfl hl.1 rfl (Nat.le_of_ble_eq_true rfl) dL_law_888 ⟨show 54 + j + 1 + 0 ≤ 1090 by omega, show 2581 + 6 * j + 6 + 0 ≤ 10845 by omega⟩) (fun H locs E => ?_)
  replace E := vE_swap E
  refine lv_lstore (lv' := [(6, .long o7.1), (5, .int o3.1), (0, .ref bs), (1, .ref (a 0)), (2, .ref (b 0)), (3, .ref q), (4, .int x4)]) hx hb dL_law_891 hl (by decide) rfl (fun ls hl => ?_)
  refine lv_aload_n hx hb dL_law_893 rfl (lv_at hl 4 rfl) ?_
  obtain ⟨o9, e10, hf⟩ := bd_some hf
  refine g_calliF (wc := (mW b cI cJ cZ o7.2 mlo mre mpr mto mim mdi mow mit mvl mhs mns mby mng mnu mnd mbg mbu mbd mlg mly mll mld mpg mpu mpl mtd mti mwt mch)) (wc' := (mW b cI cJ cZ o7.2 mlo mre mpr mto mim mdi mow mit mvl mhs mns mby mng mnu mnd mbg mbu mbd mlg mly mll mld mpg mpu mpl mtd mti mwt mch)) (wr := ((cW a cI cJ cZ vl hs isz igd iup idn osz ogd oup odn dep rsz lgd llf ldb ldy lsz lti pgd plf pun psz bgd bam bwt bsh brm bsz cab cbl tod imp dis owe itr) ++ [(q, .inl (cJ, 1, .inr (.inl o3.2)))])) C (vE_swap E) (g_runV (As := []) (rest := []) C (vE_left (vE_swap E)) (c_X7_thrown e10) (cwV 0 hts gL_law_X7_thrown rfl rfl rfl ⟨rfl, hd_X7_thrown⟩ ⟨(Nat.le_of_ble_eq_true rfl), (Nat.le_of_ble_eq_true rfl)⟩) (q0 := 0) (ci := 7) rfl rfl rfl rfl hl.1 rfl (Nat.le_of_ble_eq_true rfl) dL_law_894 ⟨show 54 + j + 1 + 0 ≤ 1090 by omega, show 2581 + 6 * j + 6 + 0 ≤ 10845 by omega⟩) (fun H locs E => ?_)
  replace E := vE_swap E
  refine lv_iload hx hb dL_law_897 (lv_at hl 1 rfl) ?_
  refine lv_icmp_eq (tgt := 904) hx hb dL_law_899 (by decide) (fun c11 => ?_) (fun c11 => ?_)
  · rw [if_pos c11] at hf
    refine lv_iload hx hb dL_law_904 (lv_at hl 1 rfl) ?_
    refine lv_if_ne (tgt := 920) hx hb dL_law_906 (by decide) (fun c12 => ?_) (fun c12 => ?_)
    · rw [if_neg c12] at hf
      refine lv_goto (tgt := 1108) hx hb dL_law_920 (by decide) ?_
      refine lv_iinc (v := (x4 + 5)) (lv' := [(4, .int (x4 + 5)), (6, .long o7.1), (5, .int o3.1), (0, .ref bs), (1, .ref (a 0)), (2, .ref (b 0)), (3, .ref q)]) hx hb dL_law_1108 hl (k := 6) rfl rfl (by decide) rfl (fun ls hl => ?_)
      refine lv_goto (tgt := 23) hx hb dL_law_1111 (by decide) ?_
      refine W.widen (k := 54 + (j + 1)) (n := 2581 + 6 * (j + 1)) (by omega) (by omega) ?_
      exact hk23 vl hs isz igd iup idn osz ogd oup odn dep rsz lgd llf ldb ldy lsz lti pgd plf pun psz bgd bam bwt bsh brm bsz cab cbl tod imp dis owe itr o3.2 o7.2 mlo mre mpr mto mim mdi mow mit mvl mhs mns mby mng mnu mnd mbg mbu mbd mlg mly mll mld mpg mpu mpl mtd mti mwt mch (x4 + 5) _ _ _ E (lv_sub hl [3, 4, 5, 6, 0] rfl) hf
    · rw [if_pos c12] at hf
      refine lv_aload_n hx hb dL_law_909 rfl (lv_at hl 5 rfl) ?_
      refine lv_iconst (v := 0) hx hb dL_law_910 (by decide) ?_
      obtain ⟨h13, hf⟩ := ck_some hf
      refine g_lald C E 33 rfl h13 dL_law_911 ?_
      refine lv_lload hx hb dL_law_912 (lv_at hl 0 rfl) ?_
      refine W.lcmp hx hb dL_law_914 ?_
      refine lv_if_eq (tgt := 920) hx hb dL_law_915 (by decide) (fun c14 => ?_) (fun c14 => ?_)
      · rw [if_pos c14] at hf
        refine lv_goto (tgt := 1108) hx hb dL_law_920 (by decide) ?_
        refine lv_iinc (v := (x4 + 5)) (lv' := [(4, .int (x4 + 5)), (6, .long o7.1), (5, .int o3.1), (0, .ref bs), (1, .ref (a 0)), (2, .ref (b 0)), (3, .ref q)]) hx hb dL_law_1108 hl (k := 6) rfl rfl (by decide) rfl (fun ls hl => ?_)
        refine lv_goto (tgt := 23) hx hb dL_law_1111 (by decide) ?_
        refine W.widen (k := 54 + (j + 1)) (n := 2581 + 6 * (j + 1)) (by omega) (by omega) ?_
        exact hk23 vl hs isz igd iup idn osz ogd oup odn dep rsz lgd llf ldb ldy lsz lti pgd plf pun psz bgd bam bwt bsh brm bsz cab cbl tod imp dis owe itr o3.2 o7.2 mlo mre mpr mto mim mdi mow mit mvl mhs mns mby mng mnu mnd mbg mbu mbd mlg mly mll mld mpg mpu mpl mtd mti mwt mch (x4 + 5) _ _ _ E (lv_sub hl [3, 4, 5, 6, 0] rfl) hf
      · rw [if_neg c14] at hf
        refine lv_iconst (v := 0) hx hb dL_law_918 (by decide) ?_
        cases hf
  · rw [if_neg c11] at hf
    refine lv_iconst (v := 0) hx hb dL_law_902 (by decide) ?_
    cases hf
def f_L_law_J777 (xs : Nat → Int32) (L : Nat) (vl : Nat → Int32) (hs : Nat → Int32) (isz : Nat → Int32) (igd : Nat → Int32) (iup : Nat → Int32) (idn : Nat → Int32) (osz : Nat → Int32) (ogd : Nat → Int32) (oup : Nat → Int32) (odn : Nat → Int32) (dep : Nat → Int32) (rsz : Int32) (lgd : Nat → Int32) (llf : Nat → Int64) (ldb : Nat → Int64) (ldy : Nat → Int32) (lsz : Int32) (lti : Int64) (pgd : Nat → Int32) (plf : Nat → Int64) (pun : Nat → Int32) (psz : Int32) (bgd : Nat → Int32) (bam : Nat → Int64) (bwt : Nat → Int64) (bsh : Nat → Int64) (brm : Nat → Int64) (bsz : Int32) (cab : Nat → Int64) (cbl : Nat → Int64) (tod : Int32) (imp : Int64) (dis : Int64) (owe : Int64) (itr : Int64) (out : Nat → Int64) (mth : Int32) (mlo : Int32) (mre : Int32) (mpr : Int32) (mto : Int32) (mim : Int64) (mdi : Int64) (mow : Int64) (mit : Int64) (mvl : Nat → Int32) (mhs : Nat → Int32) (mns : Nat → Int32) (mby : Nat → Int32) (mng : Nat → Int32) (mnu : Nat → Int32) (mnd : Nat → Int32) (mbg : Nat → Int32) (mbu : Nat → Int32) (mbd : Nat → Int32) (mlg : Nat → Int32) (mly : Nat → Int32) (mll : Nat → Int64) (mld : Nat → Int64) (mpg : Nat → Int32) (mpu : Nat → Int32) (mpl : Nat → Int64) (mtd : Int64) (mti : Int64) (mwt : Nat → Int64) (mch : Nat → Int64) (x4 : Int32) (k23 : (Nat → Int32) → (Nat → Int32) → (Nat → Int32) → (Nat → Int32) → (Nat → Int32) → (Nat → Int32) → (Nat → Int32) → (Nat → Int32) → (Nat → Int32) → (Nat → Int32) → (Nat → Int32) → (Int32) → (Nat → Int32) → (Nat → Int64) → (Nat → Int64) → (Nat → Int32) → (Int32) → (Int64) → (Nat → Int32) → (Nat → Int64) → (Nat → Int32) → (Int32) → (Nat → Int32) → (Nat → Int64) → (Nat → Int64) → (Nat → Int64) → (Nat → Int64) → (Int32) → (Nat → Int64) → (Nat → Int64) → (Int32) → (Int64) → (Int64) → (Int64) → (Int64) → (Nat → Int64) → (Int32) → (Int32) → (Int32) → (Int32) → (Int32) → (Int64) → (Int64) → (Int64) → (Int64) → (Nat → Int32) → (Nat → Int32) → (Nat → Int32) → (Nat → Int32) → (Nat → Int32) → (Nat → Int32) → (Nat → Int32) → (Nat → Int32) → (Nat → Int32) → (Nat → Int32) → (Nat → Int32) → (Nat → Int32) → (Nat → Int64) → (Nat → Int64) → (Nat → Int32) → (Nat → Int32) → (Nat → Int64) → (Int64) → (Int64) → (Nat → Int64) → (Nat → Int64) → Int32 → Option Unit) : Option Unit :=
  ck (x4 + (1 : Int32)) L <|
  ck (x4 + (2 : Int32)) L <|
  ck (x4 + (3 : Int32)) L <|
  (f_L_chain isz igd iup idn dep cab cbl (xs (x4 + (1 : Int32)).toNatClampNeg) (xs (x4 + (2 : Int32)).toNatClampNeg) (xs (x4 + (3 : Int32)).toNatClampNeg) out).bind fun o4 =>
  ck (x4 + (1 : Int32)) L <|
  ck (x4 + (2 : Int32)) L <|
  ck (x4 + (3 : Int32)) L <|
  (f_X7_chain mth mns mng mnu mnd mch (xs (x4 + (1 : Int32)).toNatClampNeg) (xs (x4 + (2 : Int32)).toNatClampNeg) (xs (x4 + (3 : Int32)).toNatClampNeg)).bind fun o9 =>
  (f_X7_thrown o9.2.1).bind fun o11 =>
  if o11 = o4.1 then
    if o4.1 = 0 then
      ck (0 : Int32) 1 <|
      if (lg_cmp (o4.2.2.2 (0 : Int32).toNatClampNeg) o9.1) = 0 then
        k23 vl hs isz igd iup idn osz ogd oup odn dep rsz lgd llf ldb ldy lsz lti pgd plf pun psz bgd bam bwt bsh brm bsz o4.2.1 o4.2.2.1 tod imp dis owe itr o4.2.2.2 o9.2.1 mlo mre mpr mto mim mdi mow mit mvl mhs mns mby mng mnu mnd mbg mbu mbd mlg mly mll mld mpg mpu mpl mtd mti mwt o9.2.2 (x4 + 5)
      else
        none
    else
      k23 vl hs isz igd iup idn osz ogd oup odn dep rsz lgd llf ldb ldy lsz lti pgd plf pun psz bgd bam bwt bsh brm bsz o4.2.1 o4.2.2.1 tod imp dis owe itr o4.2.2.2 o9.2.1 mlo mre mpr mto mim mdi mow mit mvl mhs mns mby mng mnu mnd mbg mbu mbd mlg mly mll mld mpg mpu mpl mtd mti mwt o9.2.2 (x4 + 5)
  else
    none
set_option maxHeartbeats 8000000 in
set_option maxRecDepth 100000 in
theorem w_L_law_J777 {p : Program} {l : Launch} {e : Env} {s : State} {m : MethodId} {below : List Frame} {meth : Method} {c : Code} {D : va_G} {cI cJ cZ : ClassId} {a b : Nat → Nat} {q bs L : Nat} {xs : Nat → Int32} {vl : Nat → Int32} {hs : Nat → Int32} {isz : Nat → Int32} {igd : Nat → Int32} {iup : Nat → Int32} {idn : Nat → Int32} {osz : Nat → Int32} {ogd : Nat → Int32} {oup : Nat → Int32} {odn : Nat → Int32} {dep : Nat → Int32} {rsz : Int32} {lgd : Nat → Int32} {llf : Nat → Int64} {ldb : Nat → Int64} {ldy : Nat → Int32} {lsz : Int32} {lti : Int64} {pgd : Nat → Int32} {plf : Nat → Int64} {pun : Nat → Int32} {psz : Int32} {bgd : Nat → Int32} {bam : Nat → Int64} {bwt : Nat → Int64} {bsh : Nat → Int64} {brm : Nat → Int64} {bsz : Int32} {cab : Nat → Int64} {cbl : Nat → Int64} {tod : Int32} {imp : Int64} {dis : Int64} {owe : Int64} {itr : Int64} {out : Nat → Int64} {mth : Int32} {mlo : Int32} {mre : Int32} {mpr : Int32} {mto : Int32} {mim : Int64} {mdi : Int64} {mow : Int64} {mit : Int64} {mvl : Nat → Int32} {mhs : Nat → Int32} {mns : Nat → Int32} {mby : Nat → Int32} {mng : Nat → Int32} {mnu : Nat → Int32} {mnd : Nat → Int32} {mbg : Nat → Int32} {mbu : Nat → Int32} {mbd : Nat → Int32} {mlg : Nat → Int32} {mly : Nat → Int32} {mll : Nat → Int64} {mld : Nat → Int64} {mpg : Nat → Int32} {mpu : Nat → Int32} {mpl : Nat → Int64} {mtd : Int64} {mti : Int64} {mwt : Nat → Int64} {mch : Nat → Int64} {j : Nat} {x4 : Int32} (C : gC p s m #[Value.ref bs] meth c cL_law 8 ret wsL_law RL (fun z : Nat => s.heap.size ≤ z)) (hV : gV l s (fun z : Nat => s.heap.size ≤ z)) (hX : va_X bs L xs s s.heap) (hbl : bs < s.heap.size) (hj : j + 1 ≤ 514) {k23 : (Nat → Int32) → (Nat → Int32) → (Nat → Int32) → (Nat → Int32) → (Nat → Int32) → (Nat → Int32) → (Nat → Int32) → (Nat → Int32) → (Nat → Int32) → (Nat → Int32) → (Nat → Int32) → (Int32) → (Nat → Int32) → (Nat → Int64) → (Nat → Int64) → (Nat → Int32) → (Int32) → (Int64) → (Nat → Int32) → (Nat → Int64) → (Nat → Int32) → (Int32) → (Nat → Int32) → (Nat → Int64) → (Nat → Int64) → (Nat → Int64) → (Nat → Int64) → (Int32) → (Nat → Int64) → (Nat → Int64) → (Int32) → (Int64) → (Int64) → (Int64) → (Int64) → (Nat → Int64) → (Int32) → (Int32) → (Int32) → (Int32) → (Int32) → (Int64) → (Int64) → (Int64) → (Int64) → (Nat → Int32) → (Nat → Int32) → (Nat → Int32) → (Nat → Int32) → (Nat → Int32) → (Nat → Int32) → (Nat → Int32) → (Nat → Int32) → (Nat → Int32) → (Nat → Int32) → (Nat → Int32) → (Nat → Int32) → (Nat → Int64) → (Nat → Int64) → (Nat → Int32) → (Nat → Int32) → (Nat → Int64) → (Int64) → (Int64) → (Nat → Int64) → (Nat → Int64) → Int32 → Option Unit} (hk23 : ∀ (vl : Nat → Int32) (hs : Nat → Int32) (isz : Nat → Int32) (igd : Nat → Int32) (iup : Nat → Int32) (idn : Nat → Int32) (osz : Nat → Int32) (ogd : Nat → Int32) (oup : Nat → Int32) (odn : Nat → Int32) (dep : Nat → Int32) (rsz : Int32) (lgd : Nat → Int32) (llf : Nat → Int64) (ldb : Nat → Int64) (ldy : Nat → Int32) (lsz : Int32) (lti : Int64) (pgd : Nat → Int32) (plf : Nat → Int64) (pun : Nat → Int32) (psz : Int32) (bgd : Nat → Int32) (bam : Nat → Int64) (bwt : Nat → Int64) (bsh : Nat → Int64) (brm : Nat → Int64) (bsz : Int32) (cab : Nat → Int64) (cbl : Nat → Int64) (tod : Int32) (imp : Int64) (dis : Int64) (owe : Int64) (itr : Int64) (out : Nat → Int64) (mth : Int32) (mlo : Int32) (mre : Int32) (mpr : Int32) (mto : Int32) (mim : Int64) (mdi : Int64) (mow : Int64) (mit : Int64) (mvl : Nat → Int32) (mhs : Nat → Int32) (mns : Nat → Int32) (mby : Nat → Int32) (mng : Nat → Int32) (mnu : Nat → Int32) (mnd : Nat → Int32) (mbg : Nat → Int32) (mbu : Nat → Int32) (mbd : Nat → Int32) (mlg : Nat → Int32) (mly : Nat → Int32) (mll : Nat → Int64) (mld : Nat → Int64) (mpg : Nat → Int32) (mpu : Nat → Int32) (mpl : Nat → Int64) (mtd : Int64) (mti : Int64) (mwt : Nat → Int64) (mch : Nat → Int64) (x4 : Int32) (H : Heap) (locs : List Loc) (ls : Array Slot), vE s (fun z : Nat => s.heap.size ≤ z) D (gT cI cJ cZ) (((cW a cI cJ cZ vl hs isz igd iup idn osz ogd oup odn dep rsz lgd llf ldb ldy lsz lti pgd plf pun psz bgd bam bwt bsh brm bsz cab cbl tod imp dis owe itr) ++ [(q, .inl (cJ, 1, .inr (.inl out)))]) ++ (mW b cI cJ cZ mth mlo mre mpr mto mim mdi mow mit mvl mhs mns mby mng mnu mnd mbg mbu mbd mlg mly mll mld mpg mpu mpl mtd mti mwt mch)) H locs → lv_has ls 8 [(0, .ref bs), (1, .ref (a 0)), (2, .ref (b 0)), (3, .ref q), (4, .int x4)] → k23 vl hs isz igd iup idn osz ogd oup odn dep rsz lgd llf ldb ldy lsz lti pgd plf pun psz bgd bam bwt bsh brm bsz cab cbl tod imp dis owe itr out mth mlo mre mpr mto mim mdi mow mit mvl mhs mns mby mng mnu mnd mbg mbu mbd mlg mly mll mld mpg mpu mpl mtd mti mwt mch x4 = some () → W p l e room_1 s m #[Value.ref bs] below meth c H locs (54 + (j + 1)) (2581 + 6 * (j + 1)) (lw_Z below #[Value.ref bs] s) (F0 m 23 ls [])) {H : Heap} {locs : List Loc} {ls : Array Slot} (E : vE s (fun z : Nat => s.heap.size ≤ z) D (gT cI cJ cZ) (((cW a cI cJ cZ vl hs isz igd iup idn osz ogd oup odn dep rsz lgd llf ldb ldy lsz lti pgd plf pun psz bgd bam bwt bsh brm bsz cab cbl tod imp dis owe itr) ++ [(q, .inl (cJ, 1, .inr (.inl out)))]) ++ (mW b cI cJ cZ mth mlo mre mpr mto mim mdi mow mit mvl mhs mns mby mng mnu mnd mbg mbu mbd mlg mly mll mld mpg mpu mpl mtd mti mwt mch)) H locs) (hl : lv_has ls 8 [(0, .ref bs), (1, .ref (a 0)), (2, .ref (b 0)), (3, .ref q), (4, .int x4)]) (hf : f_L_law_J777 xs L vl hs isz igd iup idn osz ogd oup odn dep rsz lgd llf ldb ldy lsz lti pgd plf pun psz bgd bam bwt bsh brm bsz cab cbl tod imp dis owe itr out mth mlo mre mpr mto mim mdi mow mit mvl mhs mns mby mng mnu mnd mbg mbu mbd mlg mly mll mld mpg mpu mpl mtd mti mwt mch x4 k23 = some ()) : W p l e room_1 s m #[Value.ref bs] below meth c H locs (54 + j) (2581 + 6 * j) (lw_Z below #[Value.ref bs] s) (F0 m 777 ls []) := by
  obtain ⟨hx, hb, hr, hml, hown, hts, hlocks, hN, hA⟩ := id C
  have hl0 : l.stackTraces = false := hV.1
  have hbA : ¬ (fun z : Nat => s.heap.size ≤ z) bs := Nat.not_le.mpr hbl
  rw [f_L_law_J777] at hf
  refine lv_aload_n hx hb dL_law_777 rfl (lv_at hl 1 rfl) ?_
  refine lv_aload_n hx hb dL_law_778 rfl (lv_at hl 0 rfl) ?_
  refine lv_iload hx hb dL_law_779 (lv_at hl 4 rfl) ?_
  refine lv_iconst (v := 1) hx hb dL_law_781 (by decide) ?_
  refine lv_iadd hx hb dL_law_782 ?_
  obtain ⟨h1, hf⟩ := ck_some hf
  refine va_sld hx hb hX hbl hbA E.2.2.2 h1 dL_law_783 ?_
  refine lv_aload_n hx hb dL_law_784 rfl (lv_at hl 0 rfl) ?_
  refine lv_iload hx hb dL_law_785 (lv_at hl 4 rfl) ?_
  refine lv_iconst (v := 2) hx hb dL_law_787 (by decide) ?_
  refine lv_iadd hx hb dL_law_788 ?_
  obtain ⟨h2, hf⟩ := ck_some hf
  refine va_sld hx hb hX hbl hbA E.2.2.2 h2 dL_law_789 ?_
  refine lv_aload_n hx hb dL_law_790 rfl (lv_at hl 0 rfl) ?_
  refine lv_iload hx hb dL_law_791 (lv_at hl 4 rfl) ?_
  refine lv_iconst (v := 3) hx hb dL_law_793 (by decide) ?_
  refine lv_iadd hx hb dL_law_794 ?_
  obtain ⟨h3, hf⟩ := ck_some hf
  refine va_sld hx hb hX hbl hbA E.2.2.2 h3 dL_law_795 ?_
  refine lv_aload_n hx hb dL_law_796 rfl (lv_at hl 3 rfl) ?_
  obtain ⟨o4, e5, hf⟩ := bd_some hf
  refine g_calliW (wc := ((cW a cI cJ cZ vl hs isz igd iup idn osz ogd oup odn dep rsz lgd llf ldb ldy lsz lti pgd plf pun psz bgd bam bwt bsh brm bsz cab cbl tod imp dis owe itr) ++ [(q, .inl (cJ, 1, .inr (.inl out)))])) (wc' := ((cW a cI cJ cZ vl hs isz igd iup idn osz ogd oup odn dep rsz lgd llf ldb ldy lsz lti pgd plf pun psz bgd bam bwt bsh brm bsz o4.2.1 o4.2.2.1 tod imp dis owe itr) ++ [(q, .inl (cJ, 1, .inr (.inl o4.2.2.2)))])) (wr := (mW b cI cJ cZ mth mlo mre mpr mto mim mdi mow mit mvl mhs mns mby mng mnu mnd mbg mbu mbd mlg mly mll mld mpg mpu mpl mtd mti mwt mch)) C E (g_runSW (As := [.ref (a 0), .int (xs (x4 + (1 : Int32)).toNatClampNeg), .int (xs (x4 + (2 : Int32)).toNatClampNeg), .int (xs (x4 + (3 : Int32)).toNatClampNeg), .ref q]) (rest := []) C (vE_left E) hV (c_L_chain hl0 e5) (vx_cwSW 5 hts gL_law_L_chain rfl rfl rfl hd_L_chain ⟨(Nat.le_of_ble_eq_true rfl), (Nat.le_of_ble_eq_true rfl)⟩) rfl hl.1 rfl (Nat.le_of_ble_eq_true rfl) dL_law_797 ⟨show 54 + j + 1 ≤ 1090 by omega, show 2581 + 6 * j + 6 ≤ 10845 by omega⟩) (fun H locs E => ?_)
  refine lv_istore (lv' := [(5, .int o4.1), (0, .ref bs), (1, .ref (a 0)), (2, .ref (b 0)), (3, .ref q), (4, .int x4)]) hx hb dL_law_800 hl (by decide) rfl (fun ls hl => ?_)
  refine lv_aload_n hx hb dL_law_802 rfl (lv_at hl 3 rfl) ?_
  refine lv_aload_n hx hb dL_law_803 rfl (lv_at hl 1 rfl) ?_
  refine lv_iload hx hb dL_law_804 (lv_at hl 5 rfl) ?_
  refine lv_iconst (v := 1) hx hb dL_law_806 (by decide) ?_
  refine lv_iadd hx hb dL_law_807 ?_
  obtain ⟨h6, hf⟩ := ck_some hf
  refine va_sld hx hb hX hbl hbA E.2.2.2 h6 dL_law_808 ?_
  refine lv_aload_n hx hb dL_law_809 rfl (lv_at hl 1 rfl) ?_
  refine lv_iload hx hb dL_law_810 (lv_at hl 5 rfl) ?_
  refine lv_iconst (v := 2) hx hb dL_law_812 (by decide) ?_
  refine lv_iadd hx hb dL_law_813 ?_
  obtain ⟨h7, hf⟩ := ck_some hf
  refine va_sld hx hb hX hbl hbA E.2.2.2 h7 dL_law_814 ?_
  refine lv_aload_n hx hb dL_law_815 rfl (lv_at hl 1 rfl) ?_
  refine lv_iload hx hb dL_law_816 (lv_at hl 5 rfl) ?_
  refine lv_iconst (v := 3) hx hb dL_law_818 (by decide) ?_
  refine lv_iadd hx hb dL_law_819 ?_
  obtain ⟨h8, hf⟩ := ck_some hf
  refine va_sld hx hb hX hbl hbA E.2.2.2 h8 dL_law_820 ?_
  obtain ⟨o9, e10, hf⟩ := bd_some hf
  refine g_calllF (wc := (mW b cI cJ cZ mth mlo mre mpr mto mim mdi mow mit mvl mhs mns mby mng mnu mnd mbg mbu mbd mlg mly mll mld mpg mpu mpl mtd mti mwt mch)) (wc' := (mW b cI cJ cZ o9.2.1 mlo mre mpr mto mim mdi mow mit mvl mhs mns mby mng mnu mnd mbg mbu mbd mlg mly mll mld mpg mpu mpl mtd mti mwt o9.2.2)) (wr := ((cW a cI cJ cZ vl hs isz igd iup idn osz ogd oup odn dep rsz lgd llf ldb ldy lsz lti pgd plf pun psz bgd bam bwt bsh brm bsz o4.2.1 o4.2.2.1 tod imp dis owe itr) ++ [(q, .inl (cJ, 1, .inr (.inl o4.2.2.2)))])) C (vE_swap E) (g_runV (As := [.int (xs (x4 + (1 : Int32)).toNatClampNeg), .int (xs (x4 + (2 : Int32)).toNatClampNeg), .int (xs (x4 + (3 : Int32)).toNatClampNeg)]) (rest := []) C (vE_left (vE_swap E)) (c_X7_chain e10) (cwV 3 hts gL_law_X7_chain rfl rfl rfl ⟨rfl, hd_X7_chain⟩ ⟨(Nat.le_of_ble_eq_true rfl), (Nat.le_of_ble_eq_true rfl)⟩) (q0 := 0) (ci := 7) rfl rfl rfl rfl hl.1 rfl (Nat.le_of_ble_eq_true rfl) dL_law_821 ⟨show 54 + j + 1 + 0 ≤ 1090 by omega, show 2581 + 6 * j + 6 + 0 ≤ 10845 by omega⟩) (fun H locs E => ?_)
  replace E := vE_swap E
  refine lv_lstore (lv' := [(6, .long o9.1), (5, .int o4.1), (0, .ref bs), (1, .ref (a 0)), (2, .ref (b 0)), (3, .ref q), (4, .int x4)]) hx hb dL_law_824 hl (by decide) rfl (fun ls hl => ?_)
  refine lv_aload_n hx hb dL_law_826 rfl (lv_at hl 4 rfl) ?_
  obtain ⟨o11, e12, hf⟩ := bd_some hf
  refine g_calliF (wc := (mW b cI cJ cZ o9.2.1 mlo mre mpr mto mim mdi mow mit mvl mhs mns mby mng mnu mnd mbg mbu mbd mlg mly mll mld mpg mpu mpl mtd mti mwt o9.2.2)) (wc' := (mW b cI cJ cZ o9.2.1 mlo mre mpr mto mim mdi mow mit mvl mhs mns mby mng mnu mnd mbg mbu mbd mlg mly mll mld mpg mpu mpl mtd mti mwt o9.2.2)) (wr := ((cW a cI cJ cZ vl hs isz igd iup idn osz ogd oup odn dep rsz lgd llf ldb ldy lsz lti pgd plf pun psz bgd bam bwt bsh brm bsz o4.2.1 o4.2.2.1 tod imp dis owe itr) ++ [(q, .inl (cJ, 1, .inr (.inl o4.2.2.2)))])) C (vE_swap E) (g_runV (As := []) (rest := []) C (vE_left (vE_swap E)) (c_X7_thrown e12) (cwV 0 hts gL_law_X7_thrown rfl rfl rfl ⟨rfl, hd_X7_thrown⟩ ⟨(Nat.le_of_ble_eq_true rfl), (Nat.le_of_ble_eq_true rfl)⟩) (q0 := 0) (ci := 7) rfl rfl rfl rfl hl.1 rfl (Nat.le_of_ble_eq_true rfl) dL_law_827 ⟨show 54 + j + 1 + 0 ≤ 1090 by omega, show 2581 + 6 * j + 6 + 0 ≤ 10845 by omega⟩) (fun H locs E => ?_)
  replace E := vE_swap E
  refine lv_iload hx hb dL_law_830 (lv_at hl 1 rfl) ?_
  refine lv_icmp_eq (tgt := 837) hx hb dL_law_832 (by decide) (fun c13 => ?_) (fun c13 => ?_)
  · rw [if_pos c13] at hf
    refine lv_iload hx hb dL_law_837 (lv_at hl 1 rfl) ?_
    refine lv_if_ne (tgt := 853) hx hb dL_law_839 (by decide) (fun c14 => ?_) (fun c14 => ?_)
    · rw [if_neg c14] at hf
      refine lv_goto (tgt := 1108) hx hb dL_law_853 (by decide) ?_
      refine lv_iinc (v := (x4 + 5)) (lv' := [(4, .int (x4 + 5)), (6, .long o9.1), (5, .int o4.1), (0, .ref bs), (1, .ref (a 0)), (2, .ref (b 0)), (3, .ref q)]) hx hb dL_law_1108 hl (k := 6) rfl rfl (by decide) rfl (fun ls hl => ?_)
      refine lv_goto (tgt := 23) hx hb dL_law_1111 (by decide) ?_
      refine W.widen (k := 54 + (j + 1)) (n := 2581 + 6 * (j + 1)) (by omega) (by omega) ?_
      exact hk23 vl hs isz igd iup idn osz ogd oup odn dep rsz lgd llf ldb ldy lsz lti pgd plf pun psz bgd bam bwt bsh brm bsz o4.2.1 o4.2.2.1 tod imp dis owe itr o4.2.2.2 o9.2.1 mlo mre mpr mto mim mdi mow mit mvl mhs mns mby mng mnu mnd mbg mbu mbd mlg mly mll mld mpg mpu mpl mtd mti mwt o9.2.2 (x4 + 5) _ _ _ E (lv_sub hl [3, 4, 5, 6, 0] rfl) hf
    · rw [if_pos c14] at hf
      refine lv_aload_n hx hb dL_law_842 rfl (lv_at hl 5 rfl) ?_
      refine lv_iconst (v := 0) hx hb dL_law_843 (by decide) ?_
      obtain ⟨h15, hf⟩ := ck_some hf
      refine g_lald C E 33 rfl h15 dL_law_844 ?_
      refine lv_lload hx hb dL_law_845 (lv_at hl 0 rfl) ?_
      refine W.lcmp hx hb dL_law_847 ?_
      refine lv_if_eq (tgt := 853) hx hb dL_law_848 (by decide) (fun c16 => ?_) (fun c16 => ?_)
      · rw [if_pos c16] at hf
        refine lv_goto (tgt := 1108) hx hb dL_law_853 (by decide) ?_
        refine lv_iinc (v := (x4 + 5)) (lv' := [(4, .int (x4 + 5)), (6, .long o9.1), (5, .int o4.1), (0, .ref bs), (1, .ref (a 0)), (2, .ref (b 0)), (3, .ref q)]) hx hb dL_law_1108 hl (k := 6) rfl rfl (by decide) rfl (fun ls hl => ?_)
        refine lv_goto (tgt := 23) hx hb dL_law_1111 (by decide) ?_
        refine W.widen (k := 54 + (j + 1)) (n := 2581 + 6 * (j + 1)) (by omega) (by omega) ?_
        exact hk23 vl hs isz igd iup idn osz ogd oup odn dep rsz lgd llf ldb ldy lsz lti pgd plf pun psz bgd bam bwt bsh brm bsz o4.2.1 o4.2.2.1 tod imp dis owe itr o4.2.2.2 o9.2.1 mlo mre mpr mto mim mdi mow mit mvl mhs mns mby mng mnu mnd mbg mbu mbd mlg mly mll mld mpg mpu mpl mtd mti mwt o9.2.2 (x4 + 5) _ _ _ E (lv_sub hl [3, 4, 5, 6, 0] rfl) hf
      · rw [if_neg c16] at hf
        refine lv_iconst (v := 0) hx hb dL_law_851 (by decide) ?_
        cases hf
  · rw [if_neg c13] at hf
    refine lv_iconst (v := 0) hx hb dL_law_835 (by decide) ?_
    cases hf
