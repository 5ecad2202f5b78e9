def f_L_law_J270 (xs : Nat → Int32) (L : Nat) (vl : Nat → Int32) (hs : Nat → Int32) (isz : Nat → Int32) (igd : Nat → Int32) (iup : Nat → Int32) (idn : Nat → Int32) (osz : Nat → Int32) (ogd : Nat → Int32) (oup : Nat → Int32) (odn : Nat → Int32) (dep : Nat → Int32) (rsz : Int32) (lgd : Nat → Int32) (llf : Nat → Int64) (ldb : Nat → Int64) (ldy : Nat → Int32) (lsz : Int32) (lti : Int64) (pgd : Nat → Int32) (plf : Nat → Int64) (pun : Nat → Int32) (psz : Int32) (bgd : Nat → Int32) (bam : Nat → Int64) (bwt : Nat → Int64) (bsh : Nat → Int64) (brm : Nat → Int64) (bsz : Int32) (cab : Nat → Int64) (cbl : Nat → Int64) (tod : Int32) (imp : Int64) (dis : Int64) (owe : Int64) (itr : Int64) (out : Nat → Int64) (mth : Int32) (mlo : Int32) (mre : Int32) (mpr : Int32) (mto : Int32) (mim : Int64) (mdi : Int64) (mow : Int64) (mit : Int64) (mvl : Nat → Int32) (mhs : Nat → Int32) (mns : Nat → Int32) (mby : Nat → Int32) (mng : Nat → Int32) (mnu : Nat → Int32) (mnd : Nat → Int32) (mbg : Nat → Int32) (mbu : Nat → Int32) (mbd : Nat → Int32) (mlg : Nat → Int32) (mly : Nat → Int32) (mll : Nat → Int64) (mld : Nat → Int64) (mpg : Nat → Int32) (mpu : Nat → Int32) (mpl : Nat → Int64) (mtd : Int64) (mti : Int64) (mwt : Nat → Int64) (mch : Nat → Int64) (x4 : Int32) (k23 : (Nat → Int32) → (Nat → Int32) → (Nat → Int32) → (Nat → Int32) → (Nat → Int32) → (Nat → Int32) → (Nat → Int32) → (Nat → Int32) → (Nat → Int32) → (Nat → Int32) → (Nat → Int32) → (Int32) → (Nat → Int32) → (Nat → Int64) → (Nat → Int64) → (Nat → Int32) → (Int32) → (Int64) → (Nat → Int32) → (Nat → Int64) → (Nat → Int32) → (Int32) → (Nat → Int32) → (Nat → Int64) → (Nat → Int64) → (Nat → Int64) → (Nat → Int64) → (Int32) → (Nat → Int64) → (Nat → Int64) → (Int32) → (Int64) → (Int64) → (Int64) → (Int64) → (Nat → Int64) → (Int32) → (Int32) → (Int32) → (Int32) → (Int32) → (Int64) → (Int64) → (Int64) → (Int64) → (Nat → Int32) → (Nat → Int32) → (Nat → Int32) → (Nat → Int32) → (Nat → Int32) → (Nat → Int32) → (Nat → Int32) → (Nat → Int32) → (Nat → Int32) → (Nat → Int32) → (Nat → Int32) → (Nat → Int32) → (Nat → Int64) → (Nat → Int64) → (Nat → Int32) → (Nat → Int32) → (Nat → Int64) → (Int64) → (Int64) → (Nat → Int64) → (Nat → Int64) → Int32 → Option Unit) : Option Unit :=
  ck (x4 + (1 : Int32)) L <|
  ck (x4 + (2 : Int32)) L <|
  ck (x4 + (3 : Int32)) L <|
  ck (x4 + (4 : Int32)) L <|
  (f_L_yields hs osz ogd oup odn (xs (x4 + (1 : Int32)).toNatClampNeg) (xs (x4 + (2 : Int32)).toNatClampNeg) (xs (x4 + (3 : Int32)).toNatClampNeg) (xs (x4 + (4 : Int32)).toNatClampNeg) out).bind fun o5 =>
  ck (x4 + (1 : Int32)) L <|
  ck (x4 + (2 : Int32)) L <|
  ck (x4 + (3 : Int32)) L <|
  ck (x4 + (4 : Int32)) L <|
  (f_X7_yields mth mhs mby mbg mbu mbd (xs (x4 + (1 : Int32)).toNatClampNeg) (xs (x4 + (2 : Int32)).toNatClampNeg) (xs (x4 + (3 : Int32)).toNatClampNeg) (xs (x4 + (4 : Int32)).toNatClampNeg)).bind fun o11 =>
  (f_X7_thrown o11.2.1).bind fun o13 =>
  if o13 = o5.1 then
    if o5.1 = 0 then
      ck (0 : Int32) 1 <|
      if (lg_cmp (o5.2.2.2.2.2 (0 : Int32).toNatClampNeg) o11.1.toInt64) = 0 then
        k23 vl hs isz igd iup idn o5.2.1 o5.2.2.1 o5.2.2.2.1 o5.2.2.2.2.1 dep rsz lgd llf ldb ldy lsz lti pgd plf pun psz bgd bam bwt bsh brm bsz cab cbl tod imp dis owe itr o5.2.2.2.2.2 o11.2.1 mlo mre mpr mto mim mdi mow mit mvl mhs mns o11.2.2.1 mng mnu mnd o11.2.2.2.1 o11.2.2.2.2.1 o11.2.2.2.2.2 mlg mly mll mld mpg mpu mpl mtd mti mwt mch (x4 + 5)
      else
        none
    else
      k23 vl hs isz igd iup idn o5.2.1 o5.2.2.1 o5.2.2.2.1 o5.2.2.2.2.1 dep rsz lgd llf ldb ldy lsz lti pgd plf pun psz bgd bam bwt bsh brm bsz cab cbl tod imp dis owe itr o5.2.2.2.2.2 o11.2.1 mlo mre mpr mto mim mdi mow mit mvl mhs mns o11.2.2.1 mng mnu mnd o11.2.2.2.1 o11.2.2.2.2.1 o11.2.2.2.2.2 mlg mly mll mld mpg mpu mpl mtd mti mwt mch (x4 + 5)
  else
    none
set_option maxHeartbeats 8000000 in
set_option maxRecDepth 100000 in
theorem w_L_law_J270 {p : Program} {l : Launch} {e : Env} {s : State} {m : MethodId} {below : List Frame} {meth : Method} {c : Code} {D : va_G} {cI cJ cZ : ClassId} {a b : Nat → Nat} {q bs L : Nat} {xs : Nat → Int32} {vl : Nat → Int32} {hs : Nat → Int32} {isz : Nat → Int32} {igd : Nat → Int32} {iup : Nat → Int32} {idn : Nat → Int32} {osz : Nat → Int32} {ogd : Nat → Int32} {oup : Nat → Int32} {odn : Nat → Int32} {dep : Nat → Int32} {rsz : Int32} {lgd : Nat → Int32} {llf : Nat → Int64} {ldb : Nat → Int64} {ldy : Nat → Int32} {lsz : Int32} {lti : Int64} {pgd : Nat → Int32} {plf : Nat → Int64} {pun : Nat → Int32} {psz : Int32} {bgd : Nat → Int32} {bam : Nat → Int64} {bwt : Nat → Int64} {bsh : Nat → Int64} {brm : Nat → Int64} {bsz : Int32} {cab : Nat → Int64} {cbl : Nat → Int64} {tod : Int32} {imp : Int64} {dis : Int64} {owe : Int64} {itr : Int64} {out : Nat → Int64} {mth : Int32} {mlo : Int32} {mre : Int32} {mpr : Int32} {mto : Int32} {mim : Int64} {mdi : Int64} {mow : Int64} {mit : Int64} {mvl : Nat → Int32} {mhs : Nat → Int32} {mns : Nat → Int32} {mby : Nat → Int32} {mng : Nat → Int32} {mnu : Nat → Int32} {mnd : Nat → Int32} {mbg : Nat → Int32} {mbu : Nat → Int32} {mbd : Nat → Int32} {mlg : Nat → Int32} {mly : Nat → Int32} {mll : Nat → Int64} {mld : Nat → Int64} {mpg : Nat → Int32} {mpu : Nat → Int32} {mpl : Nat → Int64} {mtd : Int64} {mti : Int64} {mwt : Nat → Int64} {mch : Nat → Int64} {j : Nat} {x4 : Int32} (C : gC p s m #[Value.ref bs] meth c cL_law 8 ret wsL_law RL (fun z : Nat => s.heap.size ≤ z)) (hV : gV l s (fun z : Nat => s.heap.size ≤ z)) (hX : va_X bs L xs s s.heap) (hbl : bs < s.heap.size) (hj : j + 1 ≤ 514) {k23 : (Nat → Int32) → (Nat → Int32) → (Nat → Int32) → (Nat → Int32) → (Nat → Int32) → (Nat → Int32) → (Nat → Int32) → (Nat → Int32) → (Nat → Int32) → (Nat → Int32) → (Nat → Int32) → (Int32) → (Nat → Int32) → (Nat → Int64) → (Nat → Int64) → (Nat → Int32) → (Int32) → (Int64) → (Nat → Int32) → (Nat → Int64) → (Nat → Int32) → (Int32) → (Nat → Int32) → (Nat → Int64) → (Nat → Int64) → (Nat → Int64) → (Nat → Int64) → (Int32) → (Nat → Int64) → (Nat → Int64) → (Int32) → (Int64) → (Int64) → (Int64) → (Int64) → (Nat → Int64) → (Int32) → (Int32) → (Int32) → (Int32) → (Int32) → (Int64) → (Int64) → (Int64) → (Int64) → (Nat → Int32) → (Nat → Int32) → (Nat → Int32) → (Nat → Int32) → (Nat → Int32) → (Nat → Int32) → (Nat → Int32) → (Nat → Int32) → (Nat → Int32) → (Nat → Int32) → (Nat → Int32) → (Nat → Int32) → (Nat → Int64) → (Nat → Int64) → (Nat → Int32) → (Nat → Int32) → (Nat → Int64) → (Int64) → (Int64) → (Nat → Int64) → (Nat → Int64) → Int32 → Option Unit} (hk23 : ∀ (vl : Nat → Int32) (hs : Nat → Int32) (isz : Nat → Int32) (igd : Nat → Int32) (iup : Nat → Int32) (idn : Nat → Int32) (osz : Nat → Int32) (ogd : Nat → Int32) (oup : Nat → Int32) (odn : Nat → Int32) (dep : Nat → Int32) (rsz : Int32) (lgd : Nat → Int32) (llf : Nat → Int64) (ldb : Nat → Int64) (ldy : Nat → Int32) (lsz : Int32) (lti : Int64) (pgd : Nat → Int32) (plf : Nat → Int64) (pun : Nat → Int32) (psz : Int32) (bgd : Nat → Int32) (bam : Nat → Int64) (bwt : Nat → Int64) (bsh : Nat → Int64) (brm : Nat → Int64) (bsz : Int32) (cab : Nat → Int64) (cbl : Nat → Int64) (tod : Int32) (imp : Int64) (dis : Int64) (owe : Int64) (itr : Int64) (out : Nat → Int64) (mth : Int32) (mlo : Int32) (mre : Int32) (mpr : Int32) (mto : Int32) (mim : Int64) (mdi : Int64) (mow : Int64) (mit : Int64) (mvl : Nat → Int32) (mhs : Nat → Int32) (mns : Nat → Int32) (mby : Nat → Int32) (mng : Nat → Int32) (mnu : Nat → Int32) (mnd : Nat → Int32) (mbg : Nat → Int32) (mbu : Nat → Int32) (mbd : Nat → Int32) (mlg : Nat → Int32) (mly : Nat → Int32) (mll : Nat → Int64) (mld : Nat → Int64) (mpg : Nat → Int32) (mpu : Nat → Int32) (mpl : Nat → Int64) (mtd : Int64) (mti : Int64) (mwt : Nat → Int64) (mch : Nat → Int64) (x4 : Int32) (H : Heap) (locs : List Loc) (ls : Array Slot), vE s (fun z : Nat => s.heap.size ≤ z) D (gT cI cJ cZ) (((cW a cI cJ cZ vl hs isz igd iup idn osz ogd oup odn dep rsz lgd llf ldb ldy lsz lti pgd plf pun psz bgd bam bwt bsh brm bsz cab cbl tod imp dis owe itr) ++ [(q, .inl (cJ, 1, .inr (.inl out)))]) ++ (mW b cI cJ cZ mth mlo mre mpr mto mim mdi mow mit mvl mhs mns mby mng mnu mnd mbg mbu mbd mlg mly mll mld mpg mpu mpl mtd mti mwt mch)) H locs → lv_has ls 8 [(0, .ref bs), (1, .ref (a 0)), (2, .ref (b 0)), (3, .ref q), (4, .int x4)] → k23 vl hs isz igd iup idn osz ogd oup odn dep rsz lgd llf ldb ldy lsz lti pgd plf pun psz bgd bam bwt bsh brm bsz cab cbl tod imp dis owe itr out mth mlo mre mpr mto mim mdi mow mit mvl mhs mns mby mng mnu mnd mbg mbu mbd mlg mly mll mld mpg mpu mpl mtd mti mwt mch x4 = some () → W p l e room_1 s m #[Value.ref bs] below meth c H locs (54 + (j + 1)) (2581 + 6 * (j + 1)) (lw_Z below #[Value.ref bs] s) (F0 m 23 ls [])) {H : Heap} {locs : List Loc} {ls : Array Slot} (E : vE s (fun z : Nat => s.heap.size ≤ z) D (gT cI cJ cZ) (((cW a cI cJ cZ vl hs isz igd iup idn osz ogd oup odn dep rsz lgd llf ldb ldy lsz lti pgd plf pun psz bgd bam bwt bsh brm bsz cab cbl tod imp dis owe itr) ++ [(q, .inl (cJ, 1, .inr (.inl out)))]) ++ (mW b cI cJ cZ mth mlo mre mpr mto mim mdi mow mit mvl mhs mns mby mng mnu mnd mbg mbu mbd mlg mly mll mld mpg mpu mpl mtd mti mwt mch)) H locs) (hl : lv_has ls 8 [(0, .ref bs), (1, .ref (a 0)), (2, .ref (b 0)), (3, .ref q), (4, .int x4)]) (hf : f_L_law_J270 xs L vl hs isz igd iup idn osz ogd oup odn dep rsz lgd llf ldb ldy lsz lti pgd plf pun psz bgd bam bwt bsh brm bsz cab cbl tod imp dis owe itr out mth mlo mre mpr mto mim mdi mow mit mvl mhs mns mby mng mnu mnd mbg mbu mbd mlg mly mll mld mpg mpu mpl mtd mti mwt mch x4 k23 = some ()) : W p l e room_1 s m #[Value.ref bs] below meth c H locs (54 + j) (2581 + 6 * j) (lw_Z below #[Value.ref bs] s) (F0 m 270 ls []) := by
  obtain ⟨hx, hb, hr, hml, hown, hts, hlocks, hN, hA⟩ := id C
  have hl0 : l.stackTraces = false := hV.1
  have hbA : ¬ (fun z : Nat => s.heap.size ≤ z) bs := Nat.not_le.mpr hbl
  rw [f_L_law_J270] at hf
  refine lv_aload_n hx hb dL_law_270 rfl (lv_at hl 1 rfl) ?_
  refine lv_aload_n hx hb dL_law_271 rfl (lv_at hl 0 rfl) ?_
  refine lv_iload hx hb dL_law_272 (lv_at hl 4 rfl) ?_
  refine lv_iconst (v := 1) hx hb dL_law_274 (by decide) ?_
  refine lv_iadd hx hb dL_law_275 ?_
  obtain ⟨h1, hf⟩ := ck_some hf
  refine va_sld hx hb hX hbl hbA E.2.2.2 h1 dL_law_276 ?_
  refine lv_aload_n hx hb dL_law_277 rfl (lv_at hl 0 rfl) ?_
  refine lv_iload hx hb dL_law_278 (lv_at hl 4 rfl) ?_
  refine lv_iconst (v := 2) hx hb dL_law_280 (by decide) ?_
  refine lv_iadd hx hb dL_law_281 ?_
  obtain ⟨h2, hf⟩ := ck_some hf
  refine va_sld hx hb hX hbl hbA E.2.2.2 h2 dL_law_282 ?_
  refine lv_aload_n hx hb dL_law_283 rfl (lv_at hl 0 rfl) ?_
  refine lv_iload hx hb dL_law_284 (lv_at hl 4 rfl) ?_
  refine lv_iconst (v := 3) hx hb dL_law_286 (by decide) ?_
  refine lv_iadd hx hb dL_law_287 ?_
  obtain ⟨h3, hf⟩ := ck_some hf
  refine va_sld hx hb hX hbl hbA E.2.2.2 h3 dL_law_288 ?_
  refine lv_aload_n hx hb dL_law_289 rfl (lv_at hl 0 rfl) ?_
  refine lv_iload hx hb dL_law_290 (lv_at hl 4 rfl) ?_
  refine lv_iconst (v := 4) hx hb dL_law_292 (by decide) ?_
  refine lv_iadd hx hb dL_law_293 ?_
  obtain ⟨h4, hf⟩ := ck_some hf
  refine va_sld hx hb hX hbl hbA E.2.2.2 h4 dL_law_294 ?_
  refine lv_aload_n hx hb dL_law_295 rfl (lv_at hl 3 rfl) ?_
  obtain ⟨o5, e6, hf⟩ := bd_some hf
  refine g_calliW (wc := ((cW a cI cJ cZ vl hs isz igd iup idn osz ogd oup odn dep rsz lgd llf ldb ldy lsz lti pgd plf pun psz bgd bam bwt bsh brm bsz cab cbl tod imp dis owe itr) ++ [(q, .inl (cJ, 1, .inr (.inl out)))])) (wc' := ((cW a cI cJ cZ vl hs isz igd iup idn o5.2.1 o5.2.2.1 o5.2.2.2.1 o5.2.2.2.2.1 dep rsz lgd llf ldb ldy lsz lti pgd plf pun psz bgd bam bwt bsh brm bsz cab cbl tod imp dis owe itr) ++ [(q, .inl (cJ, 1, .inr (.inl o5.2.2.2.2.2)))])) (wr := (mW b cI cJ cZ mth mlo mre mpr mto mim mdi mow mit mvl mhs mns mby mng mnu mnd mbg mbu mbd mlg mly mll mld mpg mpu mpl mtd mti mwt mch)) C E (g_runSW (As := [.ref (a 0), .int (xs (x4 + (1 : Int32)).toNatClampNeg), .int (xs (x4 + (2 : Int32)).toNatClampNeg), .int (xs (x4 + (3 : Int32)).toNatClampNeg), .int (xs (x4 + (4 : Int32)).toNatClampNeg), .ref q]) (rest := []) C (vE_left E) hV (c_L_yields hl0 e6) (vx_cwSW 6 hts gL_law_L_yields rfl rfl rfl hd_L_yields ⟨(Nat.le_of_ble_eq_true rfl), (Nat.le_of_ble_eq_true rfl)⟩) rfl hl.1 rfl (Nat.le_of_ble_eq_true rfl) dL_law_296 ⟨show 54 + j + 1 ≤ 1090 by omega, show 2581 + 6 * j + 6 ≤ 10845 by omega⟩) (fun H locs E => ?_)
  refine lv_istore (lv' := [(5, .int o5.1), (0, .ref bs), (1, .ref (a 0)), (2, .ref (b 0)), (3, .ref q), (4, .int x4)]) hx hb dL_law_299 hl (by decide) rfl (fun ls hl => ?_)
  refine lv_aload_n hx hb dL_law_301 rfl (lv_at hl 3 rfl) ?_
  refine lv_aload_n hx hb dL_law_302 rfl (lv_at hl 1 rfl) ?_
  refine lv_iload hx hb dL_law_303 (lv_at hl 5 rfl) ?_
  refine lv_iconst (v := 1) hx hb dL_law_305 (by decide) ?_
  refine lv_iadd hx hb dL_law_306 ?_
  obtain ⟨h7, hf⟩ := ck_some hf
  refine va_sld hx hb hX hbl hbA E.2.2.2 h7 dL_law_307 ?_
  refine lv_aload_n hx hb dL_law_308 rfl (lv_at hl 1 rfl) ?_
  refine lv_iload hx hb dL_law_309 (lv_at hl 5 rfl) ?_
  refine lv_iconst (v := 2) hx hb dL_law_311 (by decide) ?_
  refine lv_iadd hx hb dL_law_312 ?_
  obtain ⟨h8, hf⟩ := ck_some hf
  refine va_sld hx hb hX hbl hbA E.2.2.2 h8 dL_law_313 ?_
  refine lv_aload_n hx hb dL_law_314 rfl (lv_at hl 1 rfl) ?_
  refine lv_iload hx hb dL_law_315 (lv_at hl 5 rfl) ?_
  refine lv_iconst (v := 3) hx hb dL_law_317 (by decide) ?_
  refine lv_iadd hx hb dL_law_318 ?_
  obtain ⟨h9, hf⟩ := ck_some hf
  refine va_sld hx hb hX hbl hbA E.2.2.2 h9 dL_law_319 ?_
  refine lv_aload_n hx hb dL_law_320 rfl (lv_at hl 1 rfl) ?_
  refine lv_iload hx hb dL_law_321 (lv_at hl 5 rfl) ?_
  refine lv_iconst (v := 4) hx hb dL_law_323 (by decide) ?_
  refine lv_iadd hx hb dL_law_324 ?_
  obtain ⟨h10, hf⟩ := ck_some hf
  refine va_sld hx hb hX hbl hbA E.2.2.2 h10 dL_law_325 ?_
  obtain ⟨o11, e12, hf⟩ := bd_some hf
  refine g_calliF (wc := (mW b cI cJ cZ mth mlo mre mpr mto mim mdi mow mit mvl mhs mns mby mng mnu mnd mbg mbu mbd mlg mly mll mld mpg mpu mpl mtd mti mwt mch)) (wc' := (mW b cI cJ cZ o11.2.1 mlo mre mpr mto mim mdi mow mit mvl mhs mns o11.2.2.1 mng mnu mnd o11.2.2.2.1 o11.2.2.2.2.1 o11.2.2.2.2.2 mlg mly mll mld mpg mpu mpl mtd mti mwt mch)) (wr := ((cW a cI cJ cZ vl hs isz igd iup idn o5.2.1 o5.2.2.1 o5.2.2.2.1 o5.2.2.2.2.1 dep rsz lgd llf ldb ldy lsz lti pgd plf pun psz bgd bam bwt bsh brm bsz cab cbl tod imp dis owe itr) ++ [(q, .inl (cJ, 1, .inr (.inl o5.2.2.2.2.2)))])) C (vE_swap E) (g_runV (As := [.int (xs (x4 + (1 : Int32)).toNatClampNeg), .int (xs (x4 + (2 : Int32)).toNatClampNeg), .int (xs (x4 + (3 : Int32)).toNatClampNeg), .int (xs (x4 + (4 : Int32)).toNatClampNeg)]) (rest := []) C (vE_left (vE_swap E)) (c_X7_yields e12) (cwV 4 hts gL_law_X7_yields rfl rfl rfl ⟨rfl, hd_X7_yields⟩ ⟨(Nat.le_of_ble_eq_true rfl), (Nat.le_of_ble_eq_true rfl)⟩) (q0 := 0) (ci := 7) rfl rfl rfl rfl hl.1 rfl (Nat.le_of_ble_eq_true rfl) dL_law_326 ⟨show 54 + j + 1 + 0 ≤ 1090 by omega, show 2581 + 6 * j + 6 + 0 ≤ 10845 by omega⟩) (fun H locs E => ?_)
  replace E := vE_swap E
  refine lv_istore (lv' := [(6, .int o11.1), (5, .int o5.1), (0, .ref bs), (1, .ref (a 0)), (2, .ref (b 0)), (3, .ref q), (4, .int x4)]) hx hb dL_law_329 hl (by decide) rfl (fun ls hl => ?_)
  refine lv_aload_n hx hb dL_law_331 rfl (lv_at hl 4 rfl) ?_
  obtain ⟨o13, e14, hf⟩ := bd_some hf
  refine g_calliF (wc := (mW b cI cJ cZ o11.2.1 mlo mre mpr mto mim mdi mow mit mvl mhs mns o11.2.2.1 mng mnu mnd o11.2.2.2.1 o11.2.2.2.2.1 o11.2.2.2.2.2 mlg mly mll mld mpg mpu mpl mtd mti mwt mch)) (wc' := (mW b cI cJ cZ o11.2.1 mlo mre mpr mto mim mdi mow mit mvl mhs mns o11.2.2.1 mng mnu mnd o11.2.2.2.1 o11.2.2.2.2.1 o11.2.2.2.2.2 mlg mly mll mld mpg mpu mpl mtd mti mwt mch)) (wr := ((cW a cI cJ cZ vl hs isz igd iup idn o5.2.1 o5.2.2.1 o5.2.2.2.1 o5.2.2.2.2.1 dep rsz lgd llf ldb ldy lsz lti pgd plf pun psz bgd bam bwt bsh brm bsz cab cbl tod imp dis owe itr) ++ [(q, .inl (cJ, 1, .inr (.inl o5.2.2.2.2.2)))])) C (vE_swap E) (g_runV (As := []) (rest := []) C (vE_left (vE_swap E)) (c_X7_thrown e14) (cwV 0 hts gL_law_X7_thrown rfl rfl rfl ⟨rfl, hd_X7_thrown⟩ ⟨(Nat.le_of_ble_eq_true rfl), (Nat.le_of_ble_eq_true rfl)⟩) (q0 := 0) (ci := 7) rfl rfl rfl rfl hl.1 rfl (Nat.le_of_ble_eq_true rfl) dL_law_332 ⟨show 54 + j + 1 + 0 ≤ 1090 by omega, show 2581 + 6 * j + 6 + 0 ≤ 10845 by omega⟩) (fun H locs E => ?_)
  replace E := vE_swap E
  refine lv_iload hx hb dL_law_335 (lv_at hl 1 rfl) ?_
  refine lv_icmp_eq (tgt := 342) hx hb dL_law_337 (by decide) (fun c15 => ?_) (fun c15 => ?_)
  · rw [if_pos c15] at hf
    refine lv_iload hx hb dL_law_342 (lv_at hl 1 rfl) ?_
    refine lv_if_ne (tgt := 359) hx hb dL_law_344 (by decide) (fun c16 => ?_) (fun c16 => ?_)
    · rw [if_neg c16] at hf
      refine lv_goto (tgt := 1108) hx hb dL_law_359 (by decide) ?_
      refine lv_iinc (v := (x4 + 5)) (lv' := [(4, .int (x4 + 5)), (6, .int o11.1), (5, .int o5.1), (0, .ref bs), (1, .ref (a 0)), (2, .ref (b 0)), (3, .ref q)]) hx hb dL_law_1108 hl (k := 6) rfl rfl (by decide) rfl (fun ls hl => ?_)
      refine lv_goto (tgt := 23) hx hb dL_law_1111 (by decide) ?_
      refine W.widen (k := 54 + (j + 1)) (n := 2581 + 6 * (j + 1)) (by omega) (by omega) ?_
      exact hk23 vl hs isz igd iup idn o5.2.1 o5.2.2.1 o5.2.2.2.1 o5.2.2.2.2.1 dep rsz lgd llf ldb ldy lsz lti pgd plf pun psz bgd bam bwt bsh brm bsz cab cbl tod imp dis owe itr o5.2.2.2.2.2 o11.2.1 mlo mre mpr mto mim mdi mow mit mvl mhs mns o11.2.2.1 mng mnu mnd o11.2.2.2.1 o11.2.2.2.2.1 o11.2.2.2.2.2 mlg mly mll mld mpg mpu mpl mtd mti mwt mch (x4 + 5) _ _ _ E (lv_sub hl [3, 4, 5, 6, 0] rfl) hf
    · rw [if_pos c16] at hf
      refine lv_aload_n hx hb dL_law_347 rfl (lv_at hl 5 rfl) ?_
      refine lv_iconst (v := 0) hx hb dL_law_348 (by decide) ?_
      obtain ⟨h17, hf⟩ := ck_some hf
      refine g_lald C E 33 rfl h17 dL_law_349 ?_
      refine lv_iload hx hb dL_law_350 (lv_at hl 0 rfl) ?_
      refine lv_i2l hx hb dL_law_352 rfl ?_
      refine W.lcmp hx hb dL_law_353 ?_
      refine lv_if_eq (tgt := 359) hx hb dL_law_354 (by decide) (fun c18 => ?_) (fun c18 => ?_)
      · rw [if_pos c18] at hf
        refine lv_goto (tgt := 1108) hx hb dL_law_359 (by decide) ?_
        refine lv_iinc (v := (x4 + 5)) (lv' := [(4, .int (x4 + 5)), (6, .int o11.1), (5, .int o5.1), (0, .ref bs), (1, .ref (a 0)), (2, .ref (b 0)), (3, .ref q)]) hx hb dL_law_1108 hl (k := 6) rfl rfl (by decide) rfl (fun ls hl => ?_)
        refine lv_goto (tgt := 23) hx hb dL_law_1111 (by decide) ?_
        refine W.widen (k := 54 + (j + 1)) (n := 2581 + 6 * (j + 1)) (by omega) (by omega) ?_
        exact hk23 vl hs isz igd iup idn o5.2.1 o5.2.2.1 o5.2.2.2.1 o5.2.2.2.2.1 dep rsz lgd llf ldb ldy lsz lti pgd plf pun psz bgd bam bwt bsh brm bsz cab cbl tod imp dis owe itr o5.2.2.2.2.2 o11.2.1 mlo mre mpr mto mim mdi mow mit mvl mhs mns o11.2.2.1 mng mnu mnd o11.2.2.2.1 o11.2.2.2.2.1 o11.2.2.2.2.2 mlg mly mll mld mpg mpu mpl mtd mti mwt mch (x4 + 5) _ _ _ E (lv_sub hl [3, 4, 5, 6, 0] rfl) hf
      · rw [if_neg c18] at hf
        refine lv_iconst (v := 0) hx hb dL_law_357 (by decide) ?_
        cases hf
  · rw [if_neg c15] at hf
    refine lv_iconst (v := 0) hx hb dL_law_340 (by decide) ?_
    cases hf
def f_L_law_J178 (xs : Nat → Int32) (L : Nat) (vl : Nat → Int32) (hs : Nat → Int32) (isz : Nat → Int32) (igd : Nat → Int32) (iup : Nat → Int32) (idn : Nat → Int32) (osz : Nat → Int32) (ogd : Nat → Int32) (oup : Nat → Int32) (odn : Nat → Int32) (dep : Nat → Int32) (rsz : Int32) (lgd : Nat → Int32) (llf : Nat → Int64) (ldb : Nat → Int64) (ldy : Nat → Int32) (lsz : Int32) (lti : Int64) (pgd : Nat → Int32) (plf : Nat → Int64) (pun : Nat → Int32) (psz : Int32) (bgd : Nat → Int32) (bam : Nat → Int64) (bwt : Nat → Int64) (bsh : Nat → Int64) (brm : Nat → Int64) (bsz : Int32) (cab : Nat → Int64) (cbl : Nat → Int64) (tod : Int32) (imp : Int64) (dis : Int64) (owe : Int64) (itr : Int64) (out : Nat → Int64) (mth : Int32) (mlo : Int32) (mre : Int32) (mpr : Int32) (mto : Int32) (mim : Int64) (mdi : Int64) (mow : Int64) (mit : Int64) (mvl : Nat → Int32) (mhs : Nat → Int32) (mns : Nat → Int32) (mby : Nat → Int32) (mng : Nat → Int32) (mnu : Nat → Int32) (mnd : Nat → Int32) (mbg : Nat → Int32) (mbu : Nat → Int32) (mbd : Nat → Int32) (mlg : Nat → Int32) (mly : Nat → Int32) (mll : Nat → Int64) (mld : Nat → Int64) (mpg : Nat → Int32) (mpu : Nat → Int32) (mpl : Nat → Int64) (mtd : Int64) (mti : Int64) (mwt : Nat → Int64) (mch : Nat → Int64) (x4 : Int32) (k23 : (Nat → Int32) → (Nat → Int32) → (Nat → Int32) → (Nat → Int32) → (Nat → Int32) → (Nat → Int32) → (Nat → Int32) → (Nat → Int32) → (Nat → Int32) → (Nat → Int32) → (Nat → Int32) → (Int32) → (Nat → Int32) → (Nat → Int64) → (Nat → Int64) → (Nat → Int32) → (Int32) → (Int64) → (Nat → Int32) → (Nat → Int64) → (Nat → Int32) → (Int32) → (Nat → Int32) → (Nat → Int64) → (Nat → Int64) → (Nat → Int64) → (Nat → Int64) → (Int32) → (Nat → Int64) → (Nat → Int64) → (Int32) → (Int64) → (Int64) → (Int64) → (Int64) → (Nat → Int64) → (Int32) → (Int32) → (Int32) → (Int32) → (Int32) → (Int64) → (Int64) → (Int64) → (Int64) → (Nat → Int32) → (Nat → Int32) → (Nat → Int32) → (Nat → Int32) → (Nat → Int32) → (Nat → Int32) → (Nat → Int32) → (Nat → Int32) → (Nat → Int32) → (Nat → Int32) → (Nat → Int32) → (Nat → Int32) → (Nat → Int64) → (Nat → Int64) → (Nat → Int32) → (Nat → Int32) → (Nat → Int64) → (Int64) → (Int64) → (Nat → Int64) → (Nat → Int64) → Int32 → Option Unit) : Option Unit :=
  ck (x4 + (1 : Int32)) L <|
  ck (x4 + (2 : Int32)) L <|
  ck (x4 + (3 : Int32)) L <|
  ck (x4 + (4 : Int32)) L <|
  (f_L_needs hs isz igd iup idn dep (xs (x4 + (1 : Int32)).toNatClampNeg) (xs (x4 + (2 : Int32)).toNatClampNeg) (xs (x4 + (3 : Int32)).toNatClampNeg) (xs (x4 + (4 : Int32)).toNatClampNeg) out).bind fun o5 =>
  ck (x4 + (1 : Int32)) L <|
  ck (x4 + (2 : Int32)) L <|
  ck (x4 + (3 : Int32)) L <|
  ck (x4 + (4 : Int32)) L <|
  (f_X7_needs mth mhs mns mng mnu mnd (xs (x4 + (1 : Int32)).toNatClampNeg) (xs (x4 + (2 : Int32)).toNatClampNeg) (xs (x4 + (3 : Int32)).toNatClampNeg) (xs (x4 + (4 : Int32)).toNatClampNeg)).bind fun o11 =>
  (f_X7_thrown o11.2.1).bind fun o13 =>
  if o13 = o5.1 then
    if o5.1 = 0 then
      ck (0 : Int32) 1 <|
      if (lg_cmp (o5.2.2.2.2.2.2 (0 : Int32).toNatClampNeg) o11.1.toInt64) = 0 then
        k23 vl hs o5.2.1 o5.2.2.1 o5.2.2.2.1 o5.2.2.2.2.1 osz ogd oup odn o5.2.2.2.2.2.1 rsz lgd llf ldb ldy lsz lti pgd plf pun psz bgd bam bwt bsh brm bsz cab cbl tod imp dis owe itr o5.2.2.2.2.2.2 o11.2.1 mlo mre mpr mto mim mdi mow mit mvl mhs o11.2.2.1 mby o11.2.2.2.1 o11.2.2.2.2.1 o11.2.2.2.2.2 mbg mbu mbd mlg mly mll mld mpg mpu mpl mtd mti mwt mch (x4 + 5)
      else
        none
    else
      k23 vl hs o5.2.1 o5.2.2.1 o5.2.2.2.1 o5.2.2.2.2.1 osz ogd oup odn o5.2.2.2.2.2.1 rsz lgd llf ldb ldy lsz lti pgd plf pun psz bgd bam bwt bsh brm bsz cab cbl tod imp dis owe itr o5.2.2.2.2.2.2 o11.2.1 mlo mre mpr mto mim mdi mow mit mvl mhs o11.2.2.1 mby o11.2.2.2.1 o11.2.2.2.2.1 o11.2.2.2.2.2 mbg mbu mbd mlg mly mll mld mpg mpu mpl mtd mti mwt mch (x4 + 5)
  else
    none
set_option maxHeartbeats 8000000 in
set_option maxRecDepth 100000 in
theorem w_L_law_J178 {p : Program} {l : Launch} {e : Env} {s : State} {m : MethodId} {below : List Frame} {meth : Method} {c : Code} {D : va_G} {cI cJ cZ : ClassId} {a b : Nat → Nat} {q bs L : Nat} {xs : Nat → Int32} {vl : Nat → Int32} {hs : Nat → Int32} {isz : Nat → Int32} {igd : Nat → Int32} {iup : Nat → Int32} {idn : Nat → Int32} {osz : Nat → Int32} {ogd : Nat → Int32} {oup : Nat → Int32} {odn : Nat → Int32} {dep : Nat → Int32} {rsz : Int32} {lgd : Nat → Int32} {llf : Nat → Int64} {ldb : Nat → Int64} {ldy : Nat → Int32} {lsz : Int32} {lti : Int64} {pgd : Nat → Int32} {plf : Nat → Int64} {pun : Nat → Int32} {psz : Int32} {bgd : Nat → Int32} {bam : Nat → Int64} {bwt : Nat → Int64} {bsh : Nat → Int64} {brm : Nat → Int64} {bsz : Int32} {cab : Nat → Int64} {cbl : Nat → Int64} {tod : Int32} {imp : Int64} {dis : Int64} {owe : Int64} {itr : Int64} {out : Nat → Int64} {mth : Int32} {mlo : Int32} {mre : Int32} {mpr : Int32} {mto : Int32} {mim : Int64} {mdi : Int64} {mow : Int64} {mit : Int64} {mvl : Nat → Int32} {mhs : Nat → Int32} {mns : Nat → Int32} {mby : Nat → Int32} {mng : Nat → Int32} {mnu : Nat → Int32} {mnd : Nat → Int32} {mbg : Nat → Int32} {mbu : Nat → Int32} {mbd : Nat → Int32} {mlg : Nat → Int32} {mly : Nat → Int32} {mll : Nat → Int64} {mld : Nat → Int64} {mpg : Nat → Int32} {mpu : Nat → Int32} {mpl : Nat → Int64} {mtd : Int64} {mti : Int64} {mwt : Nat → Int64} {mch : Nat → Int64} {j : Nat} {x4 : Int32} (C : gC p s m #[Value.ref bs] meth c cL_law 8 ret wsL_law RL (fun z : Nat => s.heap.size ≤ z)) (hV : gV l s (fun z : Nat => s.heap.size ≤ z)) (hX : va_X bs L xs s s.heap) (hbl : bs < s.heap.size) (hj : j + 1 ≤ 514) {k23 : (Nat → Int32) → (Nat → Int32) → (Nat → Int32) → (Nat → Int32) → (Nat → Int32) → (Nat → Int32) → (Nat → Int32) → (Nat → Int32) → (Nat → Int32) → (Nat → Int32) → (Nat → Int32) → (Int32) → (Nat → Int32) → (Nat → Int64) → (Nat → Int64) → (Nat → Int32) → (Int32) → (Int64) → (Nat → Int32) → (Nat → Int64) → (Nat → Int32) → (Int32) → (Nat → Int32) → (Nat → Int64) → (Nat → Int64) → (Nat → Int64) → (Nat → Int64) → (Int32) → (Nat → Int64) → (Nat → Int64) → (Int32) → (Int64) → (Int64) → (Int64) → (Int64) → (Nat → Int64) → (Int32) → (Int32) → (Int32) → (Int32) → (Int32) → (Int64) → (Int64) → (Int64) → (Int64) → (Nat → Int32) → (Nat → Int32) → (Nat → Int32) → (Nat → Int32) → (Nat → Int32) → (Nat → Int32) → (Nat → Int32) → (Nat → Int32) → (Nat → Int32) → (Nat → Int32) → (Nat → Int32) → (Nat → Int32) → (Nat → Int64) → (Nat → Int64) → (Nat → Int32) → (Nat → Int32) → (Nat → Int64) → (Int64) → (Int64) → (Nat → Int64) → (Nat → Int64) → Int32 → Option Unit} (hk23 : ∀ (vl : Nat → Int32) (hs : Nat → Int32) (isz : Nat → Int32) (igd : Nat → Int32) (iup : Nat → Int32) (idn : Nat → Int32) (osz : Nat → Int32) (ogd : Nat → Int32) (oup : Nat → Int32) (odn : Nat → Int32) (dep : Nat → Int32) (rsz : Int32) (lgd : Nat → Int32) (llf : Nat → Int64) (ldb : Nat → Int64) (ldy : Nat → Int32) (lsz : Int32) (lti : Int64) (pgd : Nat → Int32) (plf : Nat → Int64) (pun : Nat → Int32) (psz : Int32) (bgd : Nat → Int32) (bam : Nat → Int64) (bwt : Nat → Int64) (bsh : Nat → Int64) (brm : Nat → Int64) (bsz : Int32) (cab : Nat → Int64) (cbl : Nat → Int64) (tod : Int32) (imp : Int64) (dis : Int64) (owe : Int64) (itr : Int64) (out : Nat → Int64) (mth : Int32) (mlo : Int32) (mre : Int32) (mpr : Int32) (mto : Int32) (mim : Int64) (mdi : Int64) (mow : Int64) (mit : Int64) (mvl : Nat → Int32) (mhs : Nat → Int32) (mns : Nat → Int32) (mby : Nat → Int32) (mng : Nat → Int32) (mnu : Nat → Int32) (mnd : Nat → Int32) (mbg : Nat → Int32) (mbu : Nat → Int32) (mbd : Nat → Int32) (mlg : Nat → Int32) (mly : Nat → Int32) (mll : Nat → Int64) (mld : Nat → Int64) (mpg : Nat → Int32) (mpu : Nat → Int32) (mpl : Nat → Int64) (mtd : Int64) (mti : Int64) (mwt : Nat → Int64) (mch : Nat → Int64) (x4 : Int32) (H : Heap) (locs : List Loc) (ls : Array Slot), vE s (fun z : Nat => s.heap.size ≤ z) D (gT cI cJ cZ) (((cW a cI cJ cZ vl hs isz igd iup idn osz ogd oup odn dep rsz lgd llf ldb ldy lsz lti pgd plf pun psz bgd bam bwt bsh brm bsz cab cbl tod imp dis owe itr) ++ [(q, .inl (cJ, 1, .inr (.inl out)))]) ++ (mW b cI cJ cZ mth mlo mre mpr mto mim mdi mow mit mvl mhs mns mby mng mnu mnd mbg mbu mbd mlg mly mll mld mpg mpu mpl mtd mti mwt mch)) H locs → lv_has ls 8 [(0, .ref bs), (1, .ref (a 0)), (2, .ref (b 0)), (3, .ref q), (4, .int x4)] → k23 vl hs isz igd iup idn osz ogd oup odn dep rsz lgd llf ldb ldy lsz lti pgd plf pun psz bgd bam bwt bsh brm bsz cab cbl tod imp dis owe itr out mth mlo mre mpr mto mim mdi mow mit mvl mhs mns mby mng mnu mnd mbg mbu mbd mlg mly mll mld mpg mpu mpl mtd mti mwt mch x4 = some () → W p l e room_1 s m #[Value.ref bs] below meth c H locs (54 + (j + 1)) (2581 + 6 * (j + 1)) (lw_Z below #[Value.ref bs] s) (F0 m 23 ls [])) {H : Heap} {locs : List Loc} {ls : Array Slot} (E : vE s (fun z : Nat => s.heap.size ≤ z) D (gT cI cJ cZ) (((cW a cI cJ cZ vl hs isz igd iup idn osz ogd oup odn dep rsz lgd llf ldb ldy lsz lti pgd plf pun psz bgd bam bwt bsh brm bsz cab cbl tod imp dis owe itr) ++ [(q, .inl (cJ, 1, .inr (.inl out)))]) ++ (mW b cI cJ cZ mth mlo mre mpr mto mim mdi mow mit mvl mhs mns mby mng mnu mnd mbg mbu mbd mlg mly mll mld mpg mpu mpl mtd mti mwt mch)) H locs) (hl : lv_has ls 8 [(0, .ref bs), (1, .ref (a 0)), (2, .ref (b 0)), (3, .ref q), (4, .int x4)]) (hf : f_L_law_J178 xs L vl hs isz igd iup idn osz ogd oup odn dep rsz lgd llf ldb ldy lsz lti pgd plf pun psz bgd bam bwt bsh brm bsz cab cbl tod imp dis owe itr out mth mlo mre mpr mto mim mdi mow mit mvl mhs mns mby mng mnu mnd mbg mbu mbd mlg mly mll mld mpg mpu mpl mtd mti mwt mch x4 k23 = some ()) : W p l e room_1 s m #[Value.ref bs] below meth c H locs (54 + j) (2581 + 6 * j) (lw_Z below #[Value.ref bs] s) (F0 m 178 ls []) := by
  obtain ⟨hx, hb, hr, hml, hown, hts, hlocks, hN, hA⟩ := id C
  have hl0 : l.stackTraces = false := hV.1
  have hbA : ¬ (fun z : Nat => s.heap.size ≤ z) bs := Nat.not_le.mpr hbl
  rw [f_L_law_J178] at hf
  refine lv_aload_n hx hb dL_law_178 rfl (lv_at hl 1 rfl) ?_
  refine lv_aload_n hx hb dL_law_179 rfl (lv_at hl 0 rfl) ?_
  refine lv_iload hx hb dL_law_180 (lv_at hl 4 rfl) ?_
  refine lv_iconst (v := 1) hx hb dL_law_182 (by decide) ?_
  refine lv_iadd hx hb dL_law_183 ?_
  obtain ⟨h1, hf⟩ := ck_some hf
  refine va_sld hx hb hX hbl hbA E.2.2.2 h1 dL_law_184 ?_
  refine lv_aload_n hx hb dL_law_185 rfl (lv_at hl 0 rfl) ?_
  refine lv_iload hx hb dL_law_186 (lv_at hl 4 rfl) ?_
  refine lv_iconst (v := 2) hx hb dL_law_188 (by decide) ?_
  refine lv_iadd hx hb dL_law_189 ?_
  obtain ⟨h2, hf⟩ := ck_some hf
  refine va_sld hx hb hX hbl hbA E.2.2.2 h2 dL_law_190 ?_
  refine lv_aload_n hx hb dL_law_191 rfl (lv_at hl 0 rfl) ?_
  refine lv_iload hx hb dL_law_192 (lv_at hl 4 rfl) ?_
  refine lv_iconst (v := 3) hx hb dL_law_194 (by decide) ?_
  refine lv_iadd hx hb dL_law_195 ?_
  obtain ⟨h3, hf⟩ := ck_some hf
  refine va_sld hx hb hX hbl hbA E.2.2.2 h3 dL_law_196 ?_
  refine lv_aload_n hx hb dL_law_197 rfl (lv_at hl 0 rfl) ?_
  refine lv_iload hx hb dL_law_198 (lv_at hl 4 rfl) ?_
  refine lv_iconst (v := 4) hx hb dL_law_200 (by decide) ?_
  refine lv_iadd hx hb dL_law_201 ?_
  obtain ⟨h4, hf⟩ := ck_some hf
  refine va_sld hx hb hX hbl hbA E.2.2.2 h4 dL_law_202 ?_
  refine lv_aload_n hx hb dL_law_203 rfl (lv_at hl 3 rfl) ?_
  obtain ⟨o5, e6, hf⟩ := bd_some hf
  refine g_calliW (wc := ((cW a cI cJ cZ vl hs isz igd iup idn osz ogd oup odn dep rsz lgd llf ldb ldy lsz lti pgd plf pun psz bgd bam bwt bsh brm bsz cab cbl tod imp dis owe itr) ++ [(q, .inl (cJ, 1, .inr (.inl out)))])) (wc' := ((cW a cI cJ cZ vl hs o5.2.1 o5.2.2.1 o5.2.2.2.1 o5.2.2.2.2.1 osz ogd oup odn o5.2.2.2.2.2.1 rsz lgd llf ldb ldy lsz lti pgd plf pun psz bgd bam bwt bsh brm bsz cab cbl tod imp dis owe itr) ++ [(q, .inl (cJ, 1, .inr (.inl o5.2.2.2.2.2.2)))])) (wr := (mW b cI cJ cZ mth mlo mre mpr mto mim mdi mow mit mvl mhs mns mby mng mnu mnd mbg mbu mbd mlg mly mll mld mpg mpu mpl mtd mti mwt mch)) C E (g_runSW (As := [.ref (a 0), .int (xs (x4 + (1 : Int32)).toNatClampNeg), .int (xs (x4 + (2 : Int32)).toNatClampNeg), .int (xs (x4 + (3 : Int32)).toNatClampNeg), .int (xs (x4 + (4 : Int32)).toNatClampNeg), .ref q]) (rest := []) C (vE_left E) hV (c_L_needs hl0 e6) (vx_cwSW 6 hts gL_law_L_needs rfl rfl rfl hd_L_needs ⟨(Nat.le_of_ble_eq_true rfl), (Nat.le_of_ble_eq_true rfl)⟩) rfl hl.1 rfl (Nat.le_of_ble_eq_true rfl) dL_law_204 ⟨show 54 + j + 1 ≤ 1090 by omega, show 2581 + 6 * j + 6 ≤ 10845 by omega⟩) (fun H locs E => ?_)
  refine lv_istore (lv' := [(5, .int o5.1), (0, .ref bs), (1, .ref (a 0)), (2, .ref (b 0)), (3, .ref q), (4, .int x4)]) hx hb dL_law_207 hl (by decide) rfl (fun ls hl => ?_)
  refine lv_aload_n hx hb dL_law_209 rfl (lv_at hl 3 rfl) ?_
  refine lv_aload_n hx hb dL_law_210 rfl (lv_at hl 1 rfl) ?_
  refine lv_iload hx hb dL_law_211 (lv_at hl 5 rfl) ?_
  refine lv_iconst (v := 1) hx hb dL_law_213 (by decide) ?_
  refine lv_iadd hx hb dL_law_214 ?_
  obtain ⟨h7, hf⟩ := ck_some hf
  refine va_sld hx hb hX hbl hbA E.2.2.2 h7 dL_law_215 ?_
  refine lv_aload_n hx hb dL_law_216 rfl (lv_at hl 1 rfl) ?_
  refine lv_iload hx hb dL_law_217 (lv_at hl 5 rfl) ?_
  refine lv_iconst (v := 2) hx hb dL_law_219 (by decide) ?_
  refine lv_iadd hx hb dL_law_220 ?_
  obtain ⟨h8, hf⟩ := ck_some hf
  refine va_sld hx hb hX hbl hbA E.2.2.2 h8 dL_law_221 ?_
  refine lv_aload_n hx hb dL_law_222 rfl (lv_at hl 1 rfl) ?_
  refine lv_iload hx hb dL_law_223 (lv_at hl 5 rfl) ?_
  refine lv_iconst (v := 3) hx hb dL_law_225 (by decide) ?_
  refine lv_iadd hx hb dL_law_226 ?_
  obtain ⟨h9, hf⟩ := ck_some hf
  refine va_sld hx hb hX hbl hbA E.2.2.2 h9 dL_law_227 ?_
  refine lv_aload_n hx hb dL_law_228 rfl (lv_at hl 1 rfl) ?_
  refine lv_iload hx hb dL_law_229 (lv_at hl 5 rfl) ?_
  refine lv_iconst (v := 4) hx hb dL_law_231 (by decide) ?_
  refine lv_iadd hx hb dL_law_232 ?_
  obtain ⟨h10, hf⟩ := ck_some hf
  refine va_sld hx hb hX hbl hbA E.2.2.2 h10 dL_law_233 ?_
  obtain ⟨o11, e12, hf⟩ := bd_some hf
  refine g_calliF (wc := (mW b cI cJ cZ mth mlo mre mpr mto mim mdi mow mit mvl mhs mns mby mng mnu mnd mbg mbu mbd mlg mly mll mld mpg mpu mpl mtd mti mwt mch)) (wc' := (mW b cI cJ cZ o11.2.1 mlo mre mpr mto mim mdi mow mit mvl mhs o11.2.2.1 mby o11.2.2.2.1 o11.2.2.2.2.1 o11.2.2.2.2.2 mbg mbu mbd mlg mly mll mld mpg mpu mpl mtd mti mwt mch)) (wr := ((cW a cI cJ cZ vl hs o5.2.1 o5.2.2.1 o5.2.2.2.1 o5.2.2.2.2.1 osz ogd oup odn o5.2.2.2.2.2.1 rsz lgd llf ldb ldy lsz lti pgd plf pun psz bgd bam bwt bsh brm bsz cab cbl tod imp dis owe itr) ++ [(q, .inl (cJ, 1, .inr (.inl o5.2.2.2.2.2.2)))])) C (vE_swap E) (g_runV (As := [.int (xs (x4 + (1 : Int32)).toNatClampNeg), .int (xs (x4 + (2 : Int32)).toNatClampNeg), .int (xs (x4 + (3 : Int32)).toNatClampNeg), .int (xs (x4 + (4 : Int32)).toNatClampNeg)]) (rest := []) C (vE_left (vE_swap E)) (c_X7_needs e12) (cwV 4 hts gL_law_X7_needs rfl rfl rfl ⟨rfl, hd_X7_needs⟩ ⟨(Nat.le_of_ble_eq_true rfl), (Nat.le_of_ble_eq_true rfl)⟩) (q0 := 0) (ci := 7) rfl rfl rfl rfl hl.1 rfl (Nat.le_of_ble_eq_true rfl) dL_law_234 ⟨show 54 + j + 1 + 0 ≤ 1090 by omega, show 2581 + 6 * j + 6 + 0 ≤ 10845 by omega⟩) (fun H locs E => ?_)
  replace E := vE_swap E
  refine lv_istore (lv' := [(6, .int o11.1), (5, .int o5.1), (0, .ref bs), (1, .ref (a 0)), (2, .ref (b 0)), (3, .ref q), (4, .int x4)]) hx hb dL_law_237 hl (by decide) rfl (fun ls hl => ?_)
  refine lv_aload_n hx hb dL_law_239 rfl (lv_at hl 4 rfl) ?_
  obtain ⟨o13, e14, hf⟩ := bd_some hf
  refine g_calliF (wc := (mW b cI cJ cZ o11.2.1 mlo mre mpr mto mim mdi mow mit mvl mhs o11.2.2.1 mby o11.2.2.2.1 o11.2.2.2.2.1 o11.2.2.2.2.2 mbg mbu mbd mlg mly mll mld mpg mpu mpl mtd mti mwt mch)) (wc' := (mW b cI cJ cZ o11.2.1 mlo mre mpr mto mim mdi mow mit mvl mhs o11.2.2.1 mby o11.2.2.2.1 o11.2.2.2.2.1 o11.2.2.2.2.2 mbg mbu mbd mlg mly mll mld mpg mpu mpl mtd mti mwt mch)) (wr := ((cW a cI cJ cZ vl hs o5.2.1 o5.2.2.1 o5.2.2.2.1 o5.2.2.2.2.1 osz ogd oup odn o5.2.2.2.2.2.1 rsz lgd llf ldb ldy lsz lti pgd plf pun psz bgd bam bwt bsh brm bsz cab cbl tod imp dis owe itr) ++ [(q, .inl (cJ, 1, .inr (.inl o5.2.2.2.2.2.2)))])) C (vE_swap E) (g_runV (As := []) (rest := []) C (vE_left (vE_swap E)) (c_X7_thrown e14) (cwV 0 hts gL_law_X7_thrown rfl rfl rfl ⟨rfl, hd_X7_thrown⟩ ⟨(Nat.le_of_ble_eq_true rfl), (Nat.le_of_ble_eq_true rfl)⟩) (q0 := 0) (ci := 7) rfl rfl rfl rfl hl.1 rfl (Nat.le_of_ble_eq_true rfl) dL_law_240 ⟨show 54 + j + 1 + 0 ≤ 1090 by omega, show 2581 + 6 * j + 6 + 0 ≤ 10845 by omega⟩) (fun H locs E => ?_)
  replace E := vE_swap E
  refine lv_iload hx hb dL_law_243 (lv_at hl 1 rfl) ?_
  refine lv_icmp_eq (tgt := 250) hx hb dL_law_245 (by decide) (fun c15 => ?_) (fun c15 => ?_)
  · rw [if_pos c15] at hf
    refine lv_iload hx hb dL_law_250 (lv_at hl 1 rfl) ?_
    refine lv_if_ne (tgt := 267) hx hb dL_law_252 (by decide) (fun c16 => ?_) (fun c16 => ?_)
    · rw [if_neg c16] at hf
      refine lv_goto (tgt := 1108) hx hb dL_law_267 (by decide) ?_
      refine lv_iinc (v := (x4 + 5)) (lv' := [(4, .int (x4 + 5)), (6, .int o11.1), (5, .int o5.1), (0, .ref bs), (1, .ref (a 0)), (2, .ref (b 0)), (3, .ref q)]) hx hb dL_law_1108 hl (k := 6) rfl rfl (by decide) rfl (fun ls hl => ?_)
      refine lv_goto (tgt := 23) hx hb dL_law_1111 (by decide) ?_
      refine W.widen (k := 54 + (j + 1)) (n := 2581 + 6 * (j + 1)) (by omega) (by omega) ?_
      exact hk23 vl hs o5.2.1 o5.2.2.1 o5.2.2.2.1 o5.2.2.2.2.1 osz ogd oup odn o5.2.2.2.2.2.1 rsz lgd llf ldb ldy lsz lti pgd plf pun psz bgd bam bwt bsh brm bsz cab cbl tod imp dis owe itr o5.2.2.2.2.2.2 o11.2.1 mlo mre mpr mto mim mdi mow mit mvl mhs o11.2.2.1 mby o11.2.2.2.1 o11.2.2.2.2.1 o11.2.2.2.2.2 mbg mbu mbd mlg mly mll mld mpg mpu mpl mtd mti mwt mch (x4 + 5) _ _ _ E (lv_sub hl [3, 4, 5, 6, 0] rfl) hf
    · rw [if_pos c16] at hf
      refine lv_aload_n hx hb dL_law_255 rfl (lv_at hl 5 rfl) ?_
      refine lv_iconst (v := 0) hx hb dL_law_256 (by decide) ?_
      obtain ⟨h17, hf⟩ := ck_some hf
      refine g_lald C E 33 rfl h17 dL_law_257 ?_
      refine lv_iload hx hb dL_law_258 (lv_at hl 0 rfl) ?_
      refine lv_i2l hx hb dL_law_260 rfl ?_
      refine W.lcmp hx hb dL_law_261 ?_
      refine lv_if_eq (tgt := 267) hx hb dL_law_262 (by decide) (fun c18 => ?_) (fun c18 => ?_)
      · rw [if_pos c18] at hf
        refine lv_goto (tgt := 1108) hx hb dL_law_267 (by decide) ?_
        refine lv_iinc (v := (x4 + 5)) (lv' := [(4, .int (x4 + 5)), (6, .int o11.1), (5, .int o5.1), (0, .ref bs), (1, .ref (a 0)), (2, .ref (b 0)), (3, .ref q)]) hx hb dL_law_1108 hl (k := 6) rfl rfl (by decide) rfl (fun ls hl => ?_)
        refine lv_goto (tgt := 23) hx hb dL_law_1111 (by decide) ?_
        refine W.widen (k := 54 + (j + 1)) (n := 2581 + 6 * (j + 1)) (by omega) (by omega) ?_
        exact hk23 vl hs o5.2.1 o5.2.2.1 o5.2.2.2.1 o5.2.2.2.2.1 osz ogd oup odn o5.2.2.2.2.2.1 rsz lgd llf ldb ldy lsz lti pgd plf pun psz bgd bam bwt bsh brm bsz cab cbl tod imp dis owe itr o5.2.2.2.2.2.2 o11.2.1 mlo mre mpr mto mim mdi mow mit mvl mhs o11.2.2.1 mby o11.2.2.2.1 o11.2.2.2.2.1 o11.2.2.2.2.2 mbg mbu mbd mlg mly mll mld mpg mpu mpl mtd mti mwt mch (x4 + 5) _ _ _ E (lv_sub hl [3, 4, 5, 6, 0] rfl) hf
      · rw [if_neg c18] at hf
        refine lv_iconst (v := 0) hx hb dL_law_265 (by decide) ?_
        cases hf
  · rw [if_neg c15] at hf
    refine lv_iconst (v := 0) hx hb dL_law_248 (by decide) ?_
    cases hf
def f_L_law_J153 (xs : Nat → Int32) (L : Nat) (vl : Nat → Int32) (hs : Nat → Int32) (isz : Nat → Int32) (igd : Nat → Int32) (iup : Nat → Int32) (idn : Nat → Int32) (osz : Nat → Int32) (ogd : Nat → Int32) (oup : Nat → Int32) (odn : Nat → Int32) (dep : Nat → Int32) (rsz : Int32) (lgd : Nat → Int32) (llf : Nat → Int64) (ldb : Nat → Int64) (ldy : Nat → Int32) (lsz : Int32) (lti : Int64) (pgd : Nat → Int32) (plf : Nat → Int64) (pun : Nat → Int32) (psz : Int32) (bgd : Nat → Int32) (bam : Nat → Int64) (bwt : Nat → Int64) (bsh : Nat → Int64) (brm : Nat → Int64) (bsz : Int32) (cab : Nat → Int64) (cbl : Nat → Int64) (tod : Int32) (imp : Int64) (dis : Int64) (owe : Int64) (itr : Int64) (out : Nat → Int64) (mth : Int32) (mlo : Int32) (mre : Int32) (mpr : Int32) (mto : Int32) (mim : Int64) (mdi : Int64) (mow : Int64) (mit : Int64) (mvl : Nat → Int32) (mhs : Nat → Int32) (mns : Nat → Int32) (mby : Nat → Int32) (mng : Nat → Int32) (mnu : Nat → Int32) (mnd : Nat → Int32) (mbg : Nat → Int32) (mbu : Nat → Int32) (mbd : Nat → Int32) (mlg : Nat → Int32) (mly : Nat → Int32) (mll : Nat → Int64) (mld : Nat → Int64) (mpg : Nat → Int32) (mpu : Nat → Int32) (mpl : Nat → Int64) (mtd : Int64) (mti : Int64) (mwt : Nat → Int64) (mch : Nat → Int64) (x4 : Int32) (k23 : (Nat → Int32) → (Nat → Int32) → (Nat → Int32) → (Nat → Int32) → (Nat → Int32) → (Nat → Int32) → (Nat → Int32) → (Nat → Int32) → (Nat → Int32) → (Nat → Int32) → (Nat → Int32) → (Int32) → (Nat → Int32) → (Nat → Int64) → (Nat → Int64) → (Nat → Int32) → (Int32) → (Int64) → (Nat → Int32) → (Nat → Int64) → (Nat → Int32) → (Int32) → (Nat → Int32) → (Nat → Int64) → (Nat → Int64) → (Nat → Int64) → (Nat → Int64) → (Int32) → (Nat → Int64) → (Nat → Int64) → (Int32) → (Int64) → (Int64) → (Int64) → (Int64) → (Nat → Int64) → (Int32) → (Int32) → (Int32) → (Int32) → (Int32) → (Int64) → (Int64) → (Int64) → (Int64) → (Nat → Int32) → (Nat → Int32) → (Nat → Int32) → (Nat → Int32) → (Nat → Int32) → (Nat → Int32) → (Nat → Int32) → (Nat → Int32) → (Nat → Int32) → (Nat → Int32) → (Nat → Int32) → (Nat → Int32) → (Nat → Int64) → (Nat → Int64) → (Nat → Int32) → (Nat → Int32) → (Nat → Int64) → (Int64) → (Int64) → (Nat → Int64) → (Nat → Int64) → Int32 → Option Unit) : Option Unit :=
  ck (x4 + (1 : Int32)) L <|
  (f_X6_recipe hs rsz (xs (x4 + (1 : Int32)).toNatClampNeg)).bind fun o2 =>
  ck (x4 + (1 : Int32)) L <|
  (f_X7_recipe mth mre mhs (xs (x4 + (1 : Int32)).toNatClampNeg)).bind fun o5 =>
  if o2.1 = o5.1 then
    k23 vl o2.2.1 isz igd iup idn osz ogd oup odn dep o2.2.2 lgd llf ldb ldy lsz lti pgd plf pun psz bgd bam bwt bsh brm bsz cab cbl tod imp dis owe itr out o5.2.1 mlo o5.2.2.1 mpr mto mim mdi mow mit mvl o5.2.2.2 mns mby mng mnu mnd mbg mbu mbd mlg mly mll mld mpg mpu mpl mtd mti mwt mch (x4 + 5)
  else
    none
set_option maxHeartbeats 8000000 in
set_option maxRecDepth 100000 in
theorem w_L_law_J153 {p : Program} {l : Launch} {e : Env} {s : State} {m : MethodId} {below : List Frame} {meth : Method} {c : Code} {D : va_G} {cI cJ cZ : ClassId} {a b : Nat → Nat} {q bs L : Nat} {xs : Nat → Int32} {vl : Nat → Int32} {hs : Nat → Int32} {isz : Nat → Int32} {igd : Nat → Int32} {iup : Nat → Int32} {idn : Nat → Int32} {osz : Nat → Int32} {ogd : Nat → Int32} {oup : Nat → Int32} {odn : Nat → Int32} {dep : Nat → Int32} {rsz : Int32} {lgd : Nat → Int32} {llf : Nat → Int64} {ldb : Nat → Int64} {ldy : Nat → Int32} {lsz : Int32} {lti : Int64} {pgd : Nat → Int32} {plf : Nat → Int64} {pun : Nat → Int32} {psz : Int32} {bgd : Nat → Int32} {bam : Nat → Int64} {bwt : Nat → Int64} {bsh : Nat → Int64} {brm : Nat → Int64} {bsz : Int32} {cab : Nat → Int64} {cbl : Nat → Int64} {tod : Int32} {imp : Int64} {dis : Int64} {owe : Int64} {itr : Int64} {out : Nat → Int64} {mth : Int32} {mlo : Int32} {mre : Int32} {mpr : Int32} {mto : Int32} {mim : Int64} {mdi : Int64} {mow : Int64} {mit : Int64} {mvl : Nat → Int32} {mhs : Nat → Int32} {mns : Nat → Int32} {mby : Nat → Int32} {mng : Nat → Int32} {mnu : Nat → Int32} {mnd : Nat → Int32} {mbg : Nat → Int32} {mbu : Nat → Int32} {mbd : Nat → Int32} {mlg : Nat → Int32} {mly : Nat → Int32} {mll : Nat → Int64} {mld : Nat → Int64} {mpg : Nat → Int32} {mpu : Nat → Int32} {mpl : Nat → Int64} {mtd : Int64} {mti : Int64} {mwt : Nat → Int64} {mch : Nat → Int64} {j : Nat} {x4 : Int32} (C : gC p s m #[Value.ref bs] meth c cL_law 8 ret wsL_law RL (fun z : Nat => s.heap.size ≤ z)) (hV : gV l s (fun z : Nat => s.heap.size ≤ z)) (hX : va_X bs L xs s s.heap) (hbl : bs < s.heap.size) (hj : j + 1 ≤ 514) {k23 : (Nat → Int32) → (Nat → Int32) → (Nat → Int32) → (Nat → Int32) → (Nat → Int32) → (Nat → Int32) → (Nat → Int32) → (Nat → Int32) → (Nat → Int32) → (Nat → Int32) → (Nat → Int32) → (Int32) → (Nat → Int32) → (Nat → Int64) → (Nat → Int64) → (Nat → Int32) → (Int32) → (Int64) → (Nat → Int32) → (Nat → Int64) → (Nat → Int32) → (Int32) → (Nat → Int32) → (Nat → Int64) → (Nat → Int64) → (Nat → Int64) → (Nat → Int64) → (Int32) → (Nat → Int64) → (Nat → Int64) → (Int32) → (Int64) → (Int64) → (Int64) → (Int64) → (Nat → Int64) → (Int32) → (Int32) → (Int32) → (Int32) → (Int32) → (Int64) → (Int64) → (Int64) → (Int64) → (Nat → Int32) → (Nat → Int32) → (Nat → Int32) → (Nat → Int32) → (Nat → Int32) → (Nat → Int32) → (Nat → Int32) → (Nat → Int32) → (Nat → Int32) → (Nat → Int32) → (Nat → Int32) → (Nat → Int32) → (Nat → Int64) → (Nat → Int64) → (Nat → Int32) → (Nat → Int32) → (Nat → Int64) → (Int64) → (Int64) → (Nat → Int64) → (Nat → Int64) → Int32 → Option Unit} (hk23 : ∀ (vl : Nat → Int32) (hs : Nat → Int32) (isz : Nat → Int32) (igd : Nat → Int32) (iup : Nat → Int32) (idn : Nat → Int32) (osz : Nat → Int32) (ogd : Nat → Int32) (oup : Nat → Int32) (odn : Nat → Int32) (dep : Nat → Int32) (rsz : Int32) (lgd : Nat → Int32) (llf : Nat → Int64) (ldb : Nat → Int64) (ldy : Nat → Int32) (lsz : Int32) (lti : Int64) (pgd : Nat → Int32) (plf : Nat → Int64) (pun : Nat → Int32) (psz : Int32) (bgd : Nat → Int32) (bam : Nat → Int64) (bwt : Nat → Int64) (bsh : Nat → Int64) (brm : Nat → Int64) (bsz : Int32) (cab : Nat → Int64) (cbl : Nat → Int64) (tod : Int32) (imp : Int64) (dis : Int64) (owe : Int64) (itr : Int64) (out : Nat → Int64) (mth : Int32) (mlo : Int32) (mre : Int32) (mpr : Int32) (mto : Int32) (mim : Int64) (mdi : Int64) (mow : Int64) (mit : Int64) (mvl : Nat → Int32) (mhs : Nat → Int32) (mns : Nat → Int32) (mby : Nat → Int32) (mng : Nat → Int32) (mnu : Nat → Int32) (mnd : Nat → Int32) (mbg : Nat → Int32) (mbu : Nat → Int32) (mbd : Nat → Int32) (mlg : Nat → Int32) (mly : Nat → Int32) (mll : Nat → Int64) (mld : Nat → Int64) (mpg : Nat → Int32) (mpu : Nat → Int32) (mpl : Nat → Int64) (mtd : Int64) (mti : Int64) (mwt : Nat → Int64) (mch : Nat → Int64) (x4 : Int32) (H : Heap) (locs : List Loc) (ls : Array Slot), vE s (fun z : Nat => s.heap.size ≤ z) D (gT cI cJ cZ) (((cW a cI cJ cZ vl hs isz igd iup idn osz ogd oup odn dep rsz lgd llf ldb ldy lsz lti pgd plf pun psz bgd bam bwt bsh brm bsz cab cbl tod imp dis owe itr) ++ [(q, .inl (cJ, 1, .inr (.inl out)))]) ++ (mW b cI cJ cZ mth mlo mre mpr mto mim mdi mow mit mvl mhs mns mby mng mnu mnd mbg mbu mbd mlg mly mll mld mpg mpu mpl mtd mti mwt mch)) H locs → lv_has ls 8 [(0, .ref bs), (1, .ref (a 0)), (2, .ref (b 0)), (3, .ref q), (4, .int x4)] → k23 vl hs isz igd iup idn osz ogd oup odn dep rsz lgd llf ldb ldy lsz lti pgd plf pun psz bgd bam bwt bsh brm bsz cab cbl tod imp dis owe itr out mth mlo mre mpr mto mim mdi mow mit mvl mhs mns mby mng mnu mnd mbg mbu mbd mlg mly mll mld mpg mpu mpl mtd mti mwt mch x4 = some () → W p l e room_1 s m #[Value.ref bs] below meth c H locs (54 + (j + 1)) (2581 + 6 * (j + 1)) (lw_Z below #[Value.ref bs] s) (F0 m 23 ls [])) {H : Heap} {locs : List Loc} {ls : Array Slot} (E : vE s (fun z : Nat => s.heap.size ≤ z) D (gT cI cJ cZ) (((cW a cI cJ cZ vl hs isz igd iup idn osz ogd oup odn dep rsz lgd llf ldb ldy lsz lti pgd plf pun psz bgd bam bwt bsh brm bsz cab cbl tod imp dis owe itr) ++ [(q, .inl (cJ, 1, .inr (.inl out)))]) ++ (mW b cI cJ cZ mth mlo mre mpr mto mim mdi mow mit mvl mhs mns mby mng mnu mnd mbg mbu mbd mlg mly mll mld mpg mpu mpl mtd mti mwt mch)) H locs) (hl : lv_has ls 8 [(0, .ref bs), (1, .ref (a 0)), (2, .ref (b 0)), (3, .ref q), (4, .int x4)]) (hf : f_L_law_J153 xs L vl hs isz igd iup idn osz ogd oup odn dep rsz lgd llf ldb ldy lsz lti pgd plf pun psz bgd bam bwt bsh brm bsz cab cbl tod imp dis owe itr out mth mlo mre mpr mto mim mdi mow mit mvl mhs mns mby mng mnu mnd mbg mbu mbd mlg mly mll mld mpg mpu mpl mtd mti mwt mch x4 k23 = some ()) : W p l e room_1 s m #[Value.ref bs] below meth c H locs (54 + j) (2581 + 6 * j) (lw_Z below #[Value.ref bs] s) (F0 m 153 ls []) := by
  obtain ⟨hx, hb, hr, hml, hown, hts, hlocks, hN, hA⟩ := id C
  have hl0 : l.stackTraces = false := hV.1
  have hbA : ¬ (fun z : Nat => s.heap.size ≤ z) bs := Nat.not_le.mpr hbl
  rw [f_L_law_J153] at hf
  refine lv_aload_n hx hb dL_law_153 rfl (lv_at hl 1 rfl) ?_
  refine lv_aload_n hx hb dL_law_154 rfl (lv_at hl 0 rfl) ?_
  refine lv_iload hx hb dL_law_155 (lv_at hl 4 rfl) ?_
  refine lv_iconst (v := 1) hx hb dL_law_157 (by decide) ?_
  refine lv_iadd hx hb dL_law_158 ?_
  obtain ⟨h1, hf⟩ := ck_some hf
  refine va_sld hx hb hX hbl hbA E.2.2.2 h1 dL_law_159 ?_
  obtain ⟨o2, e3, hf⟩ := bd_some hf
  refine g_calliF (wc := (cW a cI cJ cZ vl hs isz igd iup idn osz ogd oup odn dep rsz lgd llf ldb ldy lsz lti pgd plf pun psz bgd bam bwt bsh brm bsz cab cbl tod imp dis owe itr)) (wc' := (cW a cI cJ cZ vl o2.2.1 isz igd iup idn osz ogd oup odn dep o2.2.2 lgd llf ldb ldy lsz lti pgd plf pun psz bgd bam bwt bsh brm bsz cab cbl tod imp dis owe itr)) (wr := ([(q, .inl (cJ, 1, .inr (.inl out)))] ++ (mW b cI cJ cZ mth mlo mre mpr mto mim mdi mow mit mvl mhs mns mby mng mnu mnd mbg mbu mbd mlg mly mll mld mpg mpu mpl mtd mti mwt mch))) C (vE_as E) (g_runV (As := [.int (xs (x4 + (1 : Int32)).toNatClampNeg)]) (rest := []) C (vE_left (vE_as E)) (c_X6_recipe e3) (cwV 1 hts gL_law_X6_recipe rfl rfl rfl ⟨rfl, hd_X6_recipe⟩ ⟨(Nat.le_of_ble_eq_true rfl), (Nat.le_of_ble_eq_true rfl)⟩) (q0 := 0) (ci := 6) rfl rfl rfl rfl hl.1 rfl (Nat.le_of_ble_eq_true rfl) dL_law_160 ⟨show 54 + j + 0 ≤ 1090 by omega, show 2581 + 6 * j + 0 ≤ 10845 by omega⟩) (fun H locs E => ?_)
  replace E := vE_sa E
  refine lv_aload_n hx hb dL_law_163 rfl (lv_at hl 2 rfl) ?_
  refine lv_aload_n hx hb dL_law_164 rfl (lv_at hl 0 rfl) ?_
  refine lv_iload hx hb dL_law_165 (lv_at hl 4 rfl) ?_
  refine lv_iconst (v := 1) hx hb dL_law_167 (by decide) ?_
  refine lv_iadd hx hb dL_law_168 ?_
  obtain ⟨h4, hf⟩ := ck_some hf
  refine va_sld hx hb hX hbl hbA E.2.2.2 h4 dL_law_169 ?_
  obtain ⟨o5, e6, hf⟩ := bd_some hf
  refine g_calliF (wc := (mW b cI cJ cZ mth mlo mre mpr mto mim mdi mow mit mvl mhs mns mby mng mnu mnd mbg mbu mbd mlg mly mll mld mpg mpu mpl mtd mti mwt mch)) (wc' := (mW b cI cJ cZ o5.2.1 mlo o5.2.2.1 mpr mto mim mdi mow mit mvl o5.2.2.2 mns mby mng mnu mnd mbg mbu mbd mlg mly mll mld mpg mpu mpl mtd mti mwt mch)) (wr := ((cW a cI cJ cZ vl o2.2.1 isz igd iup idn osz ogd oup odn dep o2.2.2 lgd llf ldb ldy lsz lti pgd plf pun psz bgd bam bwt bsh brm bsz cab cbl tod imp dis owe itr) ++ [(q, .inl (cJ, 1, .inr (.inl out)))])) C (vE_swap E) (g_runV (As := [.int (xs (x4 + (1 : Int32)).toNatClampNeg)]) (rest := [.int o2.1]) C (vE_left (vE_swap E)) (c_X7_recipe e6) (cwV 1 hts gL_law_X7_recipe rfl rfl rfl ⟨rfl, hd_X7_recipe⟩ ⟨(Nat.le_of_ble_eq_true rfl), (Nat.le_of_ble_eq_true rfl)⟩) (q0 := 0) (ci := 7) rfl rfl rfl rfl hl.1 rfl (Nat.le_of_ble_eq_true rfl) dL_law_170 ⟨show 54 + j + 0 ≤ 1090 by omega, show 2581 + 6 * j + 0 ≤ 10845 by omega⟩) (fun H locs E => ?_)
  replace E := vE_swap E
  refine lv_icmp_eq (tgt := 1108) hx hb dL_law_173 (by decide) (fun c7 => ?_) (fun c7 => ?_)
  · rw [if_pos c7] at hf
    refine lv_iinc (v := (x4 + 5)) (lv' := [(4, .int (x4 + 5)), (0, .ref bs), (1, .ref (a 0)), (2, .ref (b 0)), (3, .ref q)]) hx hb dL_law_1108 hl (k := 4) rfl rfl (by decide) rfl (fun ls hl => ?_)
    refine lv_goto (tgt := 23) hx hb dL_law_1111 (by decide) ?_
    refine W.widen (k := 54 + (j + 1)) (n := 2581 + 6 * (j + 1)) (by omega) (by omega) ?_
    exact hk23 vl o2.2.1 isz igd iup idn osz ogd oup odn dep o2.2.2 lgd llf ldb ldy lsz lti pgd plf pun psz bgd bam bwt bsh brm bsz cab cbl tod imp dis owe itr out o5.2.1 mlo o5.2.2.1 mpr mto mim mdi mow mit mvl o5.2.2.2 mns mby mng mnu mnd mbg mbu mbd mlg mly mll mld mpg mpu mpl mtd mti mwt mch (x4 + 5) _ _ _ E (lv_sub hl [1, 2, 3, 4, 0] rfl) hf
  · rw [if_neg c7] at hf
    refine lv_iconst (v := 0) hx hb dL_law_176 (by decide) ?_
    cases hf
def f_L_law_J116 (xs : Nat → Int32) (L : Nat) (vl : Nat → Int32) (hs : Nat → Int32) (isz : Nat → Int32) (igd : Nat → Int32) (iup : Nat → Int32) (idn : Nat → Int32) (osz : Nat → Int32) (ogd : Nat → Int32) (oup : Nat → Int32) (odn : Nat → Int32) (dep : Nat → Int32) (rsz : Int32) (lgd : Nat → Int32) (llf : Nat → Int64) (ldb : Nat → Int64) (ldy : Nat → Int32) (lsz : Int32) (lti : Int64) (pgd : Nat → Int32) (plf : Nat → Int64) (pun : Nat → Int32) (psz : Int32) (bgd : Nat → Int32) (bam : Nat → Int64) (bwt : Nat → Int64) (bsh : Nat → Int64) (brm : Nat → Int64) (bsz : Int32) (cab : Nat → Int64) (cbl : Nat → Int64) (tod : Int32) (imp : Int64) (dis : Int64) (owe : Int64) (itr : Int64) (out : Nat → Int64) (mth : Int32) (mlo : Int32) (mre : Int32) (mpr : Int32) (mto : Int32) (mim : Int64) (mdi : Int64) (mow : Int64) (mit : Int64) (mvl : Nat → Int32) (mhs : Nat → Int32) (mns : Nat → Int32) (mby : Nat → Int32) (mng : Nat → Int32) (mnu : Nat → Int32) (mnd : Nat → Int32) (mbg : Nat → Int32) (mbu : Nat → Int32) (mbd : Nat → Int32) (mlg : Nat → Int32) (mly : Nat → Int32) (mll : Nat → Int64) (mld : Nat → Int64) (mpg : Nat → Int32) (mpu : Nat → Int32) (mpl : Nat → Int64) (mtd : Int64) (mti : Int64) (mwt : Nat → Int64) (mch : Nat → Int64) (x4 : Int32) (k23 : (Nat → Int32) → (Nat → Int32) → (Nat → Int32) → (Nat → Int32) → (Nat → Int32) → (Nat → Int32) → (Nat → Int32) → (Nat → Int32) → (Nat → Int32) → (Nat → Int32) → (Nat → Int32) → (Int32) → (Nat → Int32) → (Nat → Int64) → (Nat → Int64) → (Nat → Int32) → (Int32) → (Int64) → (Nat → Int32) → (Nat → Int64) → (Nat → Int32) → (Int32) → (Nat → Int32) → (Nat → Int64) → (Nat → Int64) → (Nat → Int64) → (Nat → Int64) → (Int32) → (Nat → Int64) → (Nat → Int64) → (Int32) → (Int64) → (Int64) → (Int64) → (Int64) → (Nat → Int64) → (Int32) → (Int32) → (Int32) → (Int32) → (Int32) → (Int64) → (Int64) → (Int64) → (Int64) → (Nat → Int32) → (Nat → Int32) → (Nat → Int32) → (Nat → Int32) → (Nat → Int32) → (Nat → Int32) → (Nat → Int32) → (Nat → Int32) → (Nat → Int32) → (Nat → Int32) → (Nat → Int32) → (Nat → Int32) → (Nat → Int64) → (Nat → Int64) → (Nat → Int32) → (Nat → Int32) → (Nat → Int64) → (Int64) → (Int64) → (Nat → Int64) → (Nat → Int64) → Int32 → Option Unit) : Option Unit :=
  ck (x4 + (1 : Int32)) L <|
  ck (x4 + (2 : Int32)) L <|
  (f_X6_value vl (xs (x4 + (1 : Int32)).toNatClampNeg) (xs (x4 + (2 : Int32)).toNatClampNeg)).bind fun o3 =>
  ck (x4 + (1 : Int32)) L <|
  ck (x4 + (2 : Int32)) L <|
  (f_X7_value mth mvl (xs (x4 + (1 : Int32)).toNatClampNeg) (xs (x4 + (2 : Int32)).toNatClampNeg)).bind fun o7 =>
  if o3.1 = o7.1 then
    k23 o3.2 hs isz igd iup idn osz ogd oup odn dep rsz lgd llf ldb ldy lsz lti pgd plf pun psz bgd bam bwt bsh brm bsz cab cbl tod imp dis owe itr out o7.2.1 mlo mre mpr mto mim mdi mow mit o7.2.2 mhs mns mby mng mnu mnd mbg mbu mbd mlg mly mll mld mpg mpu mpl mtd mti mwt mch (x4 + 5)
  else
    none
set_option maxHeartbeats 8000000 in
set_option maxRecDepth 100000 in
theorem w_L_law_J116 {p : Program} {l : Launch} {e : Env} {s : State} {m : MethodId} {below : List Frame} {meth : Method} {c : Code} {D : va_G} {cI cJ cZ : ClassId} {a b : Nat → Nat} {q bs L : Nat} {xs : Nat → Int32} {vl : Nat → Int32} {hs : Nat → Int32} {isz : Nat → Int32} {igd : Nat → Int32} {iup : Nat → Int32} {idn : Nat → Int32} {osz : Nat → Int32} {ogd : Nat → Int32} {oup : Nat → Int32} {odn : Nat → Int32} {dep : Nat → Int32} {rsz : Int32} {lgd : Nat → Int32} {llf : Nat → Int64} {ldb : Nat → Int64} {ldy : Nat → Int32} {lsz : Int32} {lti : Int64} {pgd : Nat → Int32} {plf : Nat → Int64} {pun : Nat → Int32} {psz : Int32} {bgd : Nat → Int32} {bam : Nat → Int64} {bwt : Nat → Int64} {bsh : Nat → Int64} {brm : Nat → Int64} {bsz : Int32} {cab : Nat → Int64} {cbl : Nat → Int64} {tod : Int32} {imp : Int64} {dis : Int64} {owe : Int64} {itr : Int64} {out : Nat → Int64} {mth : Int32} {mlo : Int32} {mre : Int32} {mpr : Int32} {mto : Int32} {mim : Int64} {mdi : Int64} {mow : Int64} {mit : Int64} {mvl : Nat → Int32} {mhs : Nat → Int32} {mns : Nat → Int32} {mby : Nat → Int32} {mng : Nat → Int32} {mnu : Nat → Int32} {mnd : Nat → Int32} {mbg : Nat → Int32} {mbu : Nat → Int32} {mbd : Nat → Int32} {mlg : Nat → Int32} {mly : Nat → Int32} {mll : Nat → Int64} {mld : Nat → Int64} {mpg : Nat → Int32} {mpu : Nat → Int32} {mpl : Nat → Int64} {mtd : Int64} {mti : Int64} {mwt : Nat → Int64} {mch : Nat → Int64} {j : Nat} {x4 : Int32} (C : gC p s m #[Value.ref bs] meth c cL_law 8 ret wsL_law RL (fun z : Nat => s.heap.size ≤ z)) (hV : gV l s (fun z : Nat => s.heap.size ≤ z)) (hX : va_X bs L xs s s.heap) (hbl : bs < s.heap.size) (hj : j + 1 ≤ 514) {k23 : (Nat → Int32) → (Nat → Int32) → (Nat → Int32) → (Nat → Int32) → (Nat → Int32) → (Nat → Int32) → (Nat → Int32) → (Nat → Int32) → (Nat → Int32) → (Nat → Int32) → (Nat → Int32) → (Int32) → (Nat → Int32) → (Nat → Int64) → (Nat → Int64) → (Nat → Int32) → (Int32) → (Int64) → (Nat → Int32) → (Nat → Int64) → (Nat → Int32) → (Int32) → (Nat → Int32) → (Nat → Int64) → (Nat → Int64) → (Nat → Int64) → (Nat → Int64) → (Int32) → (Nat → Int64) → (Nat → Int64) → (Int32) → (Int64) → (Int64) → (Int64) → (Int64) → (Nat → Int64) → (Int32) → (Int32) → (Int32) → (Int32) → (Int32) → (Int64) → (Int64) → (Int64) → (Int64) → (Nat → Int32) → (Nat → Int32) → (Nat → Int32) → (Nat → Int32) → (Nat → Int32) → (Nat → Int32) → (Nat → Int32) → (Nat → Int32) → (Nat → Int32) → (Nat → Int32) → (Nat → Int32) → (Nat → Int32) → (Nat → Int64) → (Nat → Int64) → (Nat → Int32) → (Nat → Int32) → (Nat → Int64) → (Int64) → (Int64) → (Nat → Int64) → (Nat → Int64) → Int32 → Option Unit} (hk23 : ∀ (vl : Nat → Int32) (hs : Nat → Int32) (isz : Nat → Int32) (igd : Nat → Int32) (iup : Nat → Int32) (idn : Nat → Int32) (osz : Nat → Int32) (ogd : Nat → Int32) (oup : Nat → Int32) (odn : Nat → Int32) (dep : Nat → Int32) (rsz : Int32) (lgd : Nat → Int32) (llf : Nat → Int64) (ldb : Nat → Int64) (ldy : Nat → Int32) (lsz : Int32) (lti : Int64) (pgd : Nat → Int32) (plf : Nat → Int64) (pun : Nat → Int32) (psz : Int32) (bgd : Nat → Int32) (bam : Nat → Int64) (bwt : Nat → Int64) (bsh : Nat → Int64) (brm : Nat → Int64) (bsz : Int32) (cab : Nat → Int64) (cbl : Nat → Int64) (tod : Int32) (imp : Int64) (dis : Int64) (owe : Int64) (itr : Int64) (out : Nat → Int64) (mth : Int32) (mlo : Int32) (mre : Int32) (mpr : Int32) (mto : Int32) (mim : Int64) (mdi : Int64) (mow : Int64) (mit : Int64) (mvl : Nat → Int32) (mhs : Nat → Int32) (mns : Nat → Int32) (mby : Nat → Int32) (mng : Nat → Int32) (mnu : Nat → Int32) (mnd : Nat → Int32) (mbg : Nat → Int32) (mbu : Nat → Int32) (mbd : Nat → Int32) (mlg : Nat → Int32) (mly : Nat → Int32) (mll : Nat → Int64) (mld : Nat → Int64) (mpg : Nat → Int32) (mpu : Nat → Int32) (mpl : Nat → Int64) (mtd : Int64) (mti : Int64) (mwt : Nat → Int64) (mch : Nat → Int64) (x4 : Int32) (H : Heap) (locs : List Loc) (ls : Array Slot), vE s (fun z : Nat => s.heap.size ≤ z) D (gT cI cJ cZ) (((cW a cI cJ cZ vl hs isz igd iup idn osz ogd oup odn dep rsz lgd llf ldb ldy lsz lti pgd plf pun psz bgd bam bwt bsh brm bsz cab cbl tod imp dis owe itr) ++ [(q, .inl (cJ, 1, .inr (.inl out)))]) ++ (mW b cI cJ cZ mth mlo mre mpr mto mim mdi mow mit mvl mhs mns mby mng mnu mnd mbg mbu mbd mlg mly mll mld mpg mpu mpl mtd mti mwt mch)) H locs → lv_has ls 8 [(0, .ref bs), (1, .ref (a 0)), (2, .ref (b 0)), (3, .ref q), (4, .int x4)] → k23 vl hs isz igd iup idn osz ogd oup odn dep rsz lgd llf ldb ldy lsz lti pgd plf pun psz bgd bam bwt bsh brm bsz cab cbl tod imp dis owe itr out mth mlo mre mpr mto mim mdi mow mit mvl mhs mns mby mng mnu mnd mbg mbu mbd mlg mly mll mld mpg mpu mpl mtd mti mwt mch x4 = some () → W p l e room_1 s m #[Value.ref bs] below meth c H locs (54 + (j + 1)) (2581 + 6 * (j + 1)) (lw_Z below #[Value.ref bs] s) (F0 m 23 ls [])) {H : Heap} {locs : List Loc} {ls : Array Slot} (E : vE s (fun z : Nat => s.heap.size ≤ z) D (gT cI cJ cZ) (((cW a cI cJ cZ vl hs isz igd iup idn osz ogd oup odn dep rsz lgd llf ldb ldy lsz lti pgd plf pun psz bgd bam bwt bsh brm bsz cab cbl tod imp dis owe itr) ++ [(q, .inl (cJ, 1, .inr (.inl out)))]) ++ (mW b cI cJ cZ mth mlo mre mpr mto mim mdi mow mit mvl mhs mns mby mng mnu mnd mbg mbu mbd mlg mly mll mld mpg mpu mpl mtd mti mwt mch)) H locs) (hl : lv_has ls 8 [(0, .ref bs), (1, .ref (a 0)), (2, .ref (b 0)), (3, .ref q), (4, .int x4)]) (hf : f_L_law_J116 xs L vl hs isz igd iup idn osz ogd oup odn dep rsz lgd llf ldb ldy lsz lti pgd plf pun psz bgd bam bwt bsh brm bsz cab cbl tod imp dis owe itr out mth mlo mre mpr mto mim mdi mow mit mvl mhs mns mby mng mnu mnd mbg mbu mbd mlg mly mll mld mpg mpu mpl mtd mti mwt mch x4 k23 = some ()) : W p l e room_1 s m #[Value.ref bs] below meth c H locs (54 + j) (2581 + 6 * j) (lw_Z below #[Value.ref bs] s) (F0 m 116 ls []) := by
  obtain ⟨hx, hb, hr, hml, hown, hts, hlocks, hN, hA⟩ := id C
  have hl0 : l.stackTraces = false := hV.1
  have hbA : ¬ (fun z : Nat => s.heap.size ≤ z) bs := Nat.not_le.mpr hbl
  rw [f_L_law_J116] at hf
  refine lv_aload_n hx hb dL_law_116 rfl (lv_at hl 1 rfl) ?_
  refine lv_aload_n hx hb dL_law_117 rfl (lv_at hl 0 rfl) ?_
  refine lv_iload hx hb dL_law_118 (lv_at hl 4 rfl) ?_
  refine lv_iconst (v := 1) hx hb dL_law_120 (by decide) ?_
  refine lv_iadd hx hb dL_law_121 ?_
  obtain ⟨h1, hf⟩ := ck_some hf
  refine va_sld hx hb hX hbl hbA E.2.2.2 h1 dL_law_122 ?_
  refine lv_aload_n hx hb dL_law_123 rfl (lv_at hl 0 rfl) ?_
  refine lv_iload hx hb dL_law_124 (lv_at hl 4 rfl) ?_
  refine lv_iconst (v := 2) hx hb dL_law_126 (by decide) ?_
  refine lv_iadd hx hb dL_law_127 ?_
  obtain ⟨h2, hf⟩ := ck_some hf
  refine va_sld hx hb hX hbl hbA E.2.2.2 h2 dL_law_128 ?_
  obtain ⟨o3, e4, hf⟩ := bd_some hf
  refine g_calliF (wc := (cW a cI cJ cZ vl hs isz igd iup idn osz ogd oup odn dep rsz lgd llf ldb ldy lsz lti pgd plf pun psz bgd bam bwt bsh brm bsz cab cbl tod imp dis owe itr)) (wc' := (cW a cI cJ cZ o3.2 hs isz igd iup idn osz ogd oup odn dep rsz lgd llf ldb ldy lsz lti pgd plf pun psz bgd bam bwt bsh brm bsz cab cbl tod imp dis owe itr)) (wr := ([(q, .inl (cJ, 1, .inr (.inl out)))] ++ (mW b cI cJ cZ mth mlo mre mpr mto mim mdi mow mit mvl mhs mns mby mng mnu mnd mbg mbu mbd mlg mly mll mld mpg mpu mpl mtd mti mwt mch))) C (vE_as E) (g_runV (As := [.int (xs (x4 + (1 : Int32)).toNatClampNeg), .int (xs (x4 + (2 : Int32)).toNatClampNeg)]) (rest := []) C (vE_left (vE_as E)) (c_X6_value e4) (cwV 2 hts gL_law_X6_value rfl rfl rfl ⟨rfl, hd_X6_value⟩ ⟨(Nat.le_of_ble_eq_true rfl), (Nat.le_of_ble_eq_true rfl)⟩) (q0 := 0) (ci := 6) rfl rfl rfl rfl hl.1 rfl (Nat.le_of_ble_eq_true rfl) dL_law_129 ⟨show 54 + j + 0 ≤ 1090 by omega, show 2581 + 6 * j + 0 ≤ 10845 by omega⟩) (fun H locs E => ?_)
  replace E := vE_sa E
  refine lv_aload_n hx hb dL_law_132 rfl (lv_at hl 2 rfl) ?_
  refine lv_aload_n hx hb dL_law_133 rfl (lv_at hl 0 rfl) ?_
  refine lv_iload hx hb dL_law_134 (lv_at hl 4 rfl) ?_
  refine lv_iconst (v := 1) hx hb dL_law_136 (by decide) ?_
  refine lv_iadd hx hb dL_law_137 ?_
  obtain ⟨h5, hf⟩ := ck_some hf
  refine va_sld hx hb hX hbl hbA E.2.2.2 h5 dL_law_138 ?_
  refine lv_aload_n hx hb dL_law_139 rfl (lv_at hl 0 rfl) ?_
  refine lv_iload hx hb dL_law_140 (lv_at hl 4 rfl) ?_
  refine lv_iconst (v := 2) hx hb dL_law_142 (by decide) ?_
  refine lv_iadd hx hb dL_law_143 ?_
  obtain ⟨h6, hf⟩ := ck_some hf
  refine va_sld hx hb hX hbl hbA E.2.2.2 h6 dL_law_144 ?_
  obtain ⟨o7, e8, hf⟩ := bd_some hf
  refine g_calliF (wc := (mW b cI cJ cZ mth mlo mre mpr mto mim mdi mow mit mvl mhs mns mby mng mnu mnd mbg mbu mbd mlg mly mll mld mpg mpu mpl mtd mti mwt mch)) (wc' := (mW b cI cJ cZ o7.2.1 mlo mre mpr mto mim mdi mow mit o7.2.2 mhs mns mby mng mnu mnd mbg mbu mbd mlg mly mll mld mpg mpu mpl mtd mti mwt mch)) (wr := ((cW a cI cJ cZ o3.2 hs isz igd iup idn osz ogd oup odn dep rsz lgd llf ldb ldy lsz lti pgd plf pun psz bgd bam bwt bsh brm bsz cab cbl tod imp dis owe itr) ++ [(q, .inl (cJ, 1, .inr (.inl out)))])) C (vE_swap E) (g_runV (As := [.int (xs (x4 + (1 : Int32)).toNatClampNeg), .int (xs (x4 + (2 : Int32)).toNatClampNeg)]) (rest := [.int o3.1]) C (vE_left (vE_swap E)) (c_X7_value e8) (cwV 2 hts gL_law_X7_value rfl rfl rfl ⟨rfl, hd_X7_value⟩ ⟨(Nat.le_of_ble_eq_true rfl), (Nat.le_of_ble_eq_true rfl)⟩) (q0 := 0) (ci := 7) rfl rfl rfl rfl hl.1 rfl (Nat.le_of_ble_eq_true rfl) dL_law_145 ⟨show 54 + j + 0 ≤ 1090 by omega, show 2581 + 6 * j + 0 ≤ 10845 by omega⟩) (fun H locs E => ?_)
  replace E := vE_swap E
  refine lv_icmp_eq (tgt := 1108) hx hb dL_law_148 (by decide) (fun c9 => ?_) (fun c9 => ?_)
  · rw [if_pos c9] at hf
    refine lv_iinc (v := (x4 + 5)) (lv' := [(4, .int (x4 + 5)), (0, .ref bs), (1, .ref (a 0)), (2, .ref (b 0)), (3, .ref q)]) hx hb dL_law_1108 hl (k := 4) rfl rfl (by decide) rfl (fun ls hl => ?_)
    refine lv_goto (tgt := 23) hx hb dL_law_1111 (by decide) ?_
    refine W.widen (k := 54 + (j + 1)) (n := 2581 + 6 * (j + 1)) (by omega) (by omega) ?_
    exact hk23 o3.2 hs isz igd iup idn osz ogd oup odn dep rsz lgd llf ldb ldy lsz lti pgd plf pun psz bgd bam bwt bsh brm bsz cab cbl tod imp dis owe itr out o7.2.1 mlo mre mpr mto mim mdi mow mit o7.2.2 mhs mns mby mng mnu mnd mbg mbu mbd mlg mly mll mld mpg mpu mpl mtd mti mwt mch (x4 + 5) _ _ _ E (lv_sub hl [1, 2, 3, 4, 0] rfl) hf
  · rw [if_neg c9] at hf
    refine lv_iconst (v := 0) hx hb dL_law_151 (by decide) ?_
    cases hf
def f_L_law_L23 (xs : Nat → Int32) (L : Nat)  : Nat → (Nat → Int32) → (Nat → Int32) → (Nat → Int32) → (Nat → Int32) → (Nat → Int32) → (Nat → Int32) → (Nat → Int32) → (Nat → Int32) → (Nat → Int32) → (Nat → Int32) → (Nat → Int32) → (Int32) → (Nat → Int32) → (Nat → Int64) → (Nat → Int64) → (Nat → Int32) → (Int32) → (Int64) → (Nat → Int32) → (Nat → Int64) → (Nat → Int32) → (Int32) → (Nat → Int32) → (Nat → Int64) → (Nat → Int64) → (Nat → Int64) → (Nat → Int64) → (Int32) → (Nat → Int64) → (Nat → Int64) → (Int32) → (Int64) → (Int64) → (Int64) → (Int64) → (Nat → Int64) → (Int32) → (Int32) → (Int32) → (Int32) → (Int32) → (Int64) → (Int64) → (Int64) → (Int64) → (Nat → Int32) → (Nat → Int32) → (Nat → Int32) → (Nat → Int32) → (Nat → Int32) → (Nat → Int32) → (Nat → Int32) → (Nat → Int32) → (Nat → Int32) → (Nat → Int32) → (Nat → Int32) → (Nat → Int32) → (Nat → Int64) → (Nat → Int64) → (Nat → Int32) → (Nat → Int32) → (Nat → Int64) → (Int64) → (Int64) → (Nat → Int64) → (Nat → Int64) → Int32 → Option Unit
  | 0, _, _, _, _, _, _, _, _, _, _, _, _, _, _, _, _, _, _, _, _, _, _, _, _, _, _, _, _, _, _, _, _, _, _, _, _, _, _, _, _, _, _, _, _, _, _, _, _, _, _, _, _, _, _, _, _, _, _, _, _, _, _, _, _, _, _, _ => none
  | n + 1, vl, hs, isz, igd, iup, idn, osz, ogd, oup, odn, dep, rsz, lgd, llf, ldb, ldy, lsz, lti, pgd, plf, pun, psz, bgd, bam, bwt, bsh, brm, bsz, cab, cbl, tod, imp, dis, owe, itr, out, mth, mlo, mre, mpr, mto, mim, mdi, mow, mit, mvl, mhs, mns, mby, mng, mnu, mnd, mbg, mbu, mbd, mlg, mly, mll, mld, mpg, mpu, mpl, mtd, mti, mwt, mch, x4 =>
  if ((Int32.ofNat L) - (5 : Int32)) < x4 then
    some ()
  else
    ck x4 L <|
    if ((xs x4.toNatClampNeg) &&& (15 : Int32)) = 0 then
      f_L_law_J116 xs L vl hs isz igd iup idn osz ogd oup odn dep rsz lgd llf ldb ldy lsz lti pgd plf pun psz bgd bam bwt bsh brm bsz cab cbl tod imp dis owe itr out mth mlo mre mpr mto mim mdi mow mit mvl mhs mns mby mng mnu mnd mbg mbu mbd mlg mly mll mld mpg mpu mpl mtd mti mwt mch x4 (fun vl hs isz igd iup idn osz ogd oup odn dep rsz lgd llf ldb ldy lsz lti pgd plf pun psz bgd bam bwt bsh brm bsz cab cbl tod imp dis owe itr out mth mlo mre mpr mto mim mdi mow mit mvl mhs mns mby mng mnu mnd mbg mbu mbd mlg mly mll mld mpg mpu mpl mtd mti mwt mch x4 => f_L_law_L23 xs L  n vl hs isz igd iup idn osz ogd oup odn dep rsz lgd llf ldb ldy lsz lti pgd plf pun psz bgd bam bwt bsh brm bsz cab cbl tod imp dis owe itr out mth mlo mre mpr mto mim mdi mow mit mvl mhs mns mby mng mnu mnd mbg mbu mbd mlg mly mll mld mpg mpu mpl mtd mti mwt mch x4)
    else
    if ((xs x4.toNatClampNeg) &&& (15 : Int32)) = 1 then
      f_L_law_J153 xs L vl hs isz igd iup idn osz ogd oup odn dep rsz lgd llf ldb ldy lsz lti pgd plf pun psz bgd bam bwt bsh brm bsz cab cbl tod imp dis owe itr out mth mlo mre mpr mto mim mdi mow mit mvl mhs mns mby mng mnu mnd mbg mbu mbd mlg mly mll mld mpg mpu mpl mtd mti mwt mch x4 (fun vl hs isz igd iup idn osz ogd oup odn dep rsz lgd llf ldb ldy lsz lti pgd plf pun psz bgd bam bwt bsh brm bsz cab cbl tod imp dis owe itr out mth mlo mre mpr mto mim mdi mow mit mvl mhs mns mby mng mnu mnd mbg mbu mbd mlg mly mll mld mpg mpu mpl mtd mti mwt mch x4 => f_L_law_L23 xs L  n vl hs isz igd iup idn osz ogd oup odn dep rsz lgd llf ldb ldy lsz lti pgd plf pun psz bgd bam bwt bsh brm bsz cab cbl tod imp dis owe itr out mth mlo mre mpr mto mim mdi mow mit mvl mhs mns mby mng mnu mnd mbg mbu mbd mlg mly mll mld mpg mpu mpl mtd mti mwt mch x4)
    else
    if ((xs x4.toNatClampNeg) &&& (15 : Int32)) = 2 then
      f_L_law_J178 xs L vl hs isz igd iup idn osz ogd oup odn dep rsz lgd llf ldb ldy lsz lti pgd plf pun psz bgd bam bwt bsh brm bsz cab cbl tod imp dis owe itr out mth mlo mre mpr mto mim mdi mow mit mvl mhs mns mby mng mnu mnd mbg mbu mbd mlg mly mll mld mpg mpu mpl mtd mti mwt mch x4 (fun vl hs isz igd iup idn osz ogd oup odn dep rsz lgd llf ldb ldy lsz lti pgd plf pun psz bgd bam bwt bsh brm bsz cab cbl tod imp dis owe itr out mth mlo mre mpr mto mim mdi mow mit mvl mhs mns mby mng mnu mnd mbg mbu mbd mlg mly mll mld mpg mpu mpl mtd mti mwt mch x4 => f_L_law_L23 xs L  n vl hs isz igd iup idn osz ogd oup odn dep rsz lgd llf ldb ldy lsz lti pgd plf pun psz bgd bam bwt bsh brm bsz cab cbl tod imp dis owe itr out mth mlo mre mpr mto mim mdi mow mit mvl mhs mns mby mng mnu mnd mbg mbu mbd mlg mly mll mld mpg mpu mpl mtd mti mwt mch x4)
    else
    if ((xs x4.toNatClampNeg) &&& (15 : Int32)) = 3 then
      f_L_law_J270 xs L vl hs isz igd iup idn osz ogd oup odn dep rsz lgd llf ldb ldy lsz lti pgd plf pun psz bgd bam bwt bsh brm bsz cab cbl tod imp dis owe itr out mth mlo mre mpr mto mim mdi mow mit mvl mhs mns mby mng mnu mnd mbg mbu mbd mlg mly mll mld mpg mpu mpl mtd mti mwt mch x4 (fun vl hs isz igd iup idn osz ogd oup odn dep rsz lgd llf ldb ldy lsz lti pgd plf pun psz bgd bam bwt bsh brm bsz cab cbl tod imp dis owe itr out mth mlo mre mpr mto mim mdi mow mit mvl mhs mns mby mng mnu mnd mbg mbu mbd mlg mly mll mld mpg mpu mpl mtd mti mwt mch x4 => f_L_law_L23 xs L  n vl hs isz igd iup idn osz ogd oup odn dep rsz lgd llf ldb ldy lsz lti pgd plf pun psz bgd bam bwt bsh brm bsz cab cbl tod imp dis owe itr out mth mlo mre mpr mto mim mdi mow mit mvl mhs mns mby mng mnu mnd mbg mbu mbd mlg mly mll mld mpg mpu mpl mtd mti mwt mch x4)
    else
    if ((xs x4.toNatClampNeg) &&& (15 : Int32)) = 4 then
      f_L_law_J362 xs L vl hs isz igd iup idn osz ogd oup odn dep rsz lgd llf ldb ldy lsz lti pgd plf pun psz bgd bam bwt bsh brm bsz cab cbl tod imp dis owe itr out mth mlo mre mpr mto mim mdi mow mit mvl mhs mns mby mng mnu mnd mbg mbu mbd mlg mly mll mld mpg mpu mpl mtd mti mwt mch x4 (fun vl hs isz igd iup idn osz ogd oup odn dep rsz lgd llf ldb ldy lsz lti pgd plf pun psz bgd bam bwt bsh brm bsz cab cbl tod imp dis owe itr out mth mlo mre mpr mto mim mdi mow mit mvl mhs mns mby mng mnu mnd mbg mbu mbd mlg mly mll mld mpg mpu mpl mtd mti mwt mch x4 => f_L_law_L23 xs L  n vl hs isz igd iup idn osz ogd oup odn dep rsz lgd llf ldb ldy lsz lti pgd plf pun psz bgd bam bwt bsh brm bsz cab cbl tod imp dis owe itr out mth mlo mre mpr mto mim mdi mow mit mvl mhs mns mby mng mnu mnd mbg mbu mbd mlg mly mll mld mpg mpu mpl mtd mti mwt mch x4)
    else
    if ((xs x4.toNatClampNeg) &&& (15 : Int32)) = 5 then
      f_L_law_J442 xs L vl hs isz igd iup idn osz ogd oup odn dep rsz lgd llf ldb ldy lsz lti pgd plf pun psz bgd bam bwt bsh brm bsz cab cbl tod imp dis owe itr out mth mlo mre mpr mto mim mdi mow mit mvl mhs mns mby mng mnu mnd mbg mbu mbd mlg mly mll mld mpg mpu mpl mtd mti mwt mch x4 (fun vl hs isz igd iup idn osz ogd oup odn dep rsz lgd llf ldb ldy lsz lti pgd plf pun psz bgd bam bwt bsh brm bsz cab cbl tod imp dis owe itr out mth mlo mre mpr mto mim mdi mow mit mvl mhs mns mby mng mnu mnd mbg mbu mbd mlg mly mll mld mpg mpu mpl mtd mti mwt mch x4 => f_L_law_L23 xs L  n vl hs isz igd iup idn osz ogd oup odn dep rsz lgd llf ldb ldy lsz lti pgd plf pun psz bgd bam bwt bsh brm bsz cab cbl tod imp dis owe itr out mth mlo mre mpr mto mim mdi mow mit mvl mhs mns mby mng mnu mnd mbg mbu mbd mlg mly mll mld mpg mpu mpl mtd mti mwt mch x4)
    else
    if ((xs x4.toNatClampNeg) &&& (15 : Int32)) = 6 then
      f_L_law_J538 xs L vl hs isz igd iup idn osz ogd oup odn dep rsz lgd llf ldb ldy lsz lti pgd plf pun psz bgd bam bwt bsh brm bsz cab cbl tod imp dis owe itr out mth mlo mre mpr mto mim mdi mow mit mvl mhs mns mby mng mnu mnd mbg mbu mbd mlg mly mll mld mpg mpu mpl mtd mti mwt mch x4 (fun vl hs isz igd iup idn osz ogd oup odn dep rsz lgd llf ldb ldy lsz lti pgd plf pun psz bgd bam bwt bsh brm bsz cab cbl tod imp dis owe itr out mth mlo mre mpr mto mim mdi mow mit mvl mhs mns mby mng mnu mnd mbg mbu mbd mlg mly mll mld mpg mpu mpl mtd mti mwt mch x4 => f_L_law_L23 xs L  n vl hs isz igd iup idn osz ogd oup odn dep rsz lgd llf ldb ldy lsz lti pgd plf pun psz bgd bam bwt bsh brm bsz cab cbl tod imp dis owe itr out mth mlo mre mpr mto mim mdi mow mit mvl mhs mns mby mng mnu mnd mbg mbu mbd mlg mly mll mld mpg mpu mpl mtd mti mwt mch x4)
    else
    if ((xs x4.toNatClampNeg) &&& (15 : Int32)) = 7 then
      f_L_law_J605 xs L vl hs isz igd iup idn osz ogd oup odn dep rsz lgd llf ldb ldy lsz lti pgd plf pun psz bgd bam bwt bsh brm bsz cab cbl tod imp dis owe itr out mth mlo mre mpr mto mim mdi mow mit mvl mhs mns mby mng mnu mnd mbg mbu mbd mlg mly mll mld mpg mpu mpl mtd mti mwt mch x4 (fun vl hs isz igd iup idn osz ogd oup odn dep rsz lgd llf ldb ldy lsz lti pgd plf pun psz bgd bam bwt bsh brm bsz cab cbl tod imp dis owe itr out mth mlo mre mpr mto mim mdi mow mit mvl mhs mns mby mng mnu mnd mbg mbu mbd mlg mly mll mld mpg mpu mpl mtd mti mwt mch x4 => f_L_law_L23 xs L  n vl hs isz igd iup idn osz ogd oup odn dep rsz lgd llf ldb ldy lsz lti pgd plf pun psz bgd bam bwt bsh brm bsz cab cbl tod imp dis owe itr out mth mlo mre mpr mto mim mdi mow mit mvl mhs mns mby mng mnu mnd mbg mbu mbd mlg mly mll mld mpg mpu mpl mtd mti mwt mch x4)
    else
    if ((xs x4.toNatClampNeg) &&& (15 : Int32)) = 8 then
      f_L_law_J672 xs L vl hs isz igd iup idn osz ogd oup odn dep rsz lgd llf ldb ldy lsz lti pgd plf pun psz bgd bam bwt bsh brm bsz cab cbl tod imp dis owe itr out mth mlo mre mpr mto mim mdi mow mit mvl mhs mns mby mng mnu mnd mbg mbu mbd mlg mly mll mld mpg mpu mpl mtd mti mwt mch x4 (fun vl hs isz igd iup idn osz ogd oup odn dep rsz lgd llf ldb ldy lsz lti pgd plf pun psz bgd bam bwt bsh brm bsz cab cbl tod imp dis owe itr out mth mlo mre mpr mto mim mdi mow mit mvl mhs mns mby mng mnu mnd mbg mbu mbd mlg mly mll mld mpg mpu mpl mtd mti mwt mch x4 => f_L_law_L23 xs L  n vl hs isz igd iup idn osz ogd oup odn dep rsz lgd llf ldb ldy lsz lti pgd plf pun psz bgd bam bwt bsh brm bsz cab cbl tod imp dis owe itr out mth mlo mre mpr mto mim mdi mow mit mvl mhs mns mby mng mnu mnd mbg mbu mbd mlg mly mll mld mpg mpu mpl mtd mti mwt mch x4)
    else
    if ((xs x4.toNatClampNeg) &&& (15 : Int32)) = 9 then
      f_L_law_J752 xs L vl hs isz igd iup idn osz ogd oup odn dep rsz lgd llf ldb ldy lsz lti pgd plf pun psz bgd bam bwt bsh brm bsz cab cbl tod imp dis owe itr out mth mlo mre mpr mto mim mdi mow mit mvl mhs mns mby mng mnu mnd mbg mbu mbd mlg mly mll mld mpg mpu mpl mtd mti mwt mch x4 (fun vl hs isz igd iup idn osz ogd oup odn dep rsz lgd llf ldb ldy lsz lti pgd plf pun psz bgd bam bwt bsh brm bsz cab cbl tod imp dis owe itr out mth mlo mre mpr mto mim mdi mow mit mvl mhs mns mby mng mnu mnd mbg mbu mbd mlg mly mll mld mpg mpu mpl mtd mti mwt mch x4 => f_L_law_L23 xs L  n vl hs isz igd iup idn osz ogd oup odn dep rsz lgd llf ldb ldy lsz lti pgd plf pun psz bgd bam bwt bsh brm bsz cab cbl tod imp dis owe itr out mth mlo mre mpr mto mim mdi mow mit mvl mhs mns mby mng mnu mnd mbg mbu mbd mlg mly mll mld mpg mpu mpl mtd mti mwt mch x4)
    else
    if ((xs x4.toNatClampNeg) &&& (15 : Int32)) = 10 then
      f_L_law_J777 xs L vl hs isz igd iup idn osz ogd oup odn dep rsz lgd llf ldb ldy lsz lti pgd plf pun psz bgd bam bwt bsh brm bsz cab cbl tod imp dis owe itr out mth mlo mre mpr mto mim mdi mow mit mvl mhs mns mby mng mnu mnd mbg mbu mbd mlg mly mll mld mpg mpu mpl mtd mti mwt mch x4 (fun vl hs isz igd iup idn osz ogd oup odn dep rsz lgd llf ldb ldy lsz lti pgd plf pun psz bgd bam bwt bsh brm bsz cab cbl tod imp dis owe itr out mth mlo mre mpr mto mim mdi mow mit mvl mhs mns mby mng mnu mnd mbg mbu mbd mlg mly mll mld mpg mpu mpl mtd mti mwt mch x4 => f_L_law_L23 xs L  n vl hs isz igd iup idn osz ogd oup odn dep rsz lgd llf ldb ldy lsz lti pgd plf pun psz bgd bam bwt bsh brm bsz cab cbl tod imp dis owe itr out mth mlo mre mpr mto mim mdi mow mit mvl mhs mns mby mng mnu mnd mbg mbu mbd mlg mly mll mld mpg mpu mpl mtd mti mwt mch x4)
    else
    if ((xs x4.toNatClampNeg) &&& (15 : Int32)) = 11 then
      f_L_law_J856 xs L vl hs isz igd iup idn osz ogd oup odn dep rsz lgd llf ldb ldy lsz lti pgd plf pun psz bgd bam bwt bsh brm bsz cab cbl tod imp dis owe itr out mth mlo mre mpr mto mim mdi mow mit mvl mhs mns mby mng mnu mnd mbg mbu mbd mlg mly mll mld mpg mpu mpl mtd mti mwt mch x4 (fun vl hs isz igd iup idn osz ogd oup odn dep rsz lgd llf ldb ldy lsz lti pgd plf pun psz bgd bam bwt bsh brm bsz cab cbl tod imp dis owe itr out mth mlo mre mpr mto mim mdi mow mit mvl mhs mns mby mng mnu mnd mbg mbu mbd mlg mly mll mld mpg mpu mpl mtd mti mwt mch x4 => f_L_law_L23 xs L  n vl hs isz igd iup idn osz ogd oup odn dep rsz lgd llf ldb ldy lsz lti pgd plf pun psz bgd bam bwt bsh brm bsz cab cbl tod imp dis owe itr out mth mlo mre mpr mto mim mdi mow mit mvl mhs mns mby mng mnu mnd mbg mbu mbd mlg mly mll mld mpg mpu mpl mtd mti mwt mch x4)
    else
    if ((xs x4.toNatClampNeg) &&& (15 : Int32)) = 12 then
      f_L_law_J923 xs L vl hs isz igd iup idn osz ogd oup odn dep rsz lgd llf ldb ldy lsz lti pgd plf pun psz bgd bam bwt bsh brm bsz cab cbl tod imp dis owe itr out mth mlo mre mpr mto mim mdi mow mit mvl mhs mns mby mng mnu mnd mbg mbu mbd mlg mly mll mld mpg mpu mpl mtd mti mwt mch x4 (fun vl hs isz igd iup idn osz ogd oup odn dep rsz lgd llf ldb ldy lsz lti pgd plf pun psz bgd bam bwt bsh brm bsz cab cbl tod imp dis owe itr out mth mlo mre mpr mto mim mdi mow mit mvl mhs mns mby mng mnu mnd mbg mbu mbd mlg mly mll mld mpg mpu mpl mtd mti mwt mch x4 => f_L_law_L23 xs L  n vl hs isz igd iup idn osz ogd oup odn dep rsz lgd llf ldb ldy lsz lti pgd plf pun psz bgd bam bwt bsh brm bsz cab cbl tod imp dis owe itr out mth mlo mre mpr mto mim mdi mow mit mvl mhs mns mby mng mnu mnd mbg mbu mbd mlg mly mll mld mpg mpu mpl mtd mti mwt mch x4)
    else
    if ((xs x4.toNatClampNeg) &&& (15 : Int32)) = 13 then
      f_L_law_J990 xs L vl hs isz igd iup idn osz ogd oup odn dep rsz lgd llf ldb ldy lsz lti pgd plf pun psz bgd bam bwt bsh brm bsz cab cbl tod imp dis owe itr out mth mlo mre mpr mto mim mdi mow mit mvl mhs mns mby mng mnu mnd mbg mbu mbd mlg mly mll mld mpg mpu mpl mtd mti mwt mch x4 (fun vl hs isz igd iup idn osz ogd oup odn dep rsz lgd llf ldb ldy lsz lti pgd plf pun psz bgd bam bwt bsh brm bsz cab cbl tod imp dis owe itr out mth mlo mre mpr mto mim mdi mow mit mvl mhs mns mby mng mnu mnd mbg mbu mbd mlg mly mll mld mpg mpu mpl mtd mti mwt mch x4 => f_L_law_L23 xs L  n vl hs isz igd iup idn osz ogd oup odn dep rsz lgd llf ldb ldy lsz lti pgd plf pun psz bgd bam bwt bsh brm bsz cab cbl tod imp dis owe itr out mth mlo mre mpr mto mim mdi mow mit mvl mhs mns mby mng mnu mnd mbg mbu mbd mlg mly mll mld mpg mpu mpl mtd mti mwt mch x4)
    else
    if ((xs x4.toNatClampNeg) &&& (15 : Int32)) = 14 then
      f_L_law_J1016 xs L vl hs isz igd iup idn osz ogd oup odn dep rsz lgd llf ldb ldy lsz lti pgd plf pun psz bgd bam bwt bsh brm bsz cab cbl tod imp dis owe itr out mth mlo mre mpr mto mim mdi mow mit mvl mhs mns mby mng mnu mnd mbg mbu mbd mlg mly mll mld mpg mpu mpl mtd mti mwt mch x4 (fun vl hs isz igd iup idn osz ogd oup odn dep rsz lgd llf ldb ldy lsz lti pgd plf pun psz bgd bam bwt bsh brm bsz cab cbl tod imp dis owe itr out mth mlo mre mpr mto mim mdi mow mit mvl mhs mns mby mng mnu mnd mbg mbu mbd mlg mly mll mld mpg mpu mpl mtd mti mwt mch x4 => f_L_law_L23 xs L  n vl hs isz igd iup idn osz ogd oup odn dep rsz lgd llf ldb ldy lsz lti pgd plf pun psz bgd bam bwt bsh brm bsz cab cbl tod imp dis owe itr out mth mlo mre mpr mto mim mdi mow mit mvl mhs mns mby mng mnu mnd mbg mbu mbd mlg mly mll mld mpg mpu mpl mtd mti mwt mch x4)
    else
    if ((xs x4.toNatClampNeg) &&& (15 : Int32)) = 15 then
      f_L_law_J1083 xs L vl hs isz igd iup idn osz ogd oup odn dep rsz lgd llf ldb ldy lsz lti pgd plf pun psz bgd bam bwt bsh brm bsz cab cbl tod imp dis owe itr out mth mlo mre mpr mto mim mdi mow mit mvl mhs mns mby mng mnu mnd mbg mbu mbd mlg mly mll mld mpg mpu mpl mtd mti mwt mch x4 (fun vl hs isz igd iup idn osz ogd oup odn dep rsz lgd llf ldb ldy lsz lti pgd plf pun psz bgd bam bwt bsh brm bsz cab cbl tod imp dis owe itr out mth mlo mre mpr mto mim mdi mow mit mvl mhs mns mby mng mnu mnd mbg mbu mbd mlg mly mll mld mpg mpu mpl mtd mti mwt mch x4 => f_L_law_L23 xs L  n vl hs isz igd iup idn osz ogd oup odn dep rsz lgd llf ldb ldy lsz lti pgd plf pun psz bgd bam bwt bsh brm bsz cab cbl tod imp dis owe itr out mth mlo mre mpr mto mim mdi mow mit mvl mhs mns mby mng mnu mnd mbg mbu mbd mlg mly mll mld mpg mpu mpl mtd mti mwt mch x4)
    else
    f_L_law_L23 xs L  n vl hs isz igd iup idn osz ogd oup odn dep rsz lgd llf ldb ldy lsz lti pgd plf pun psz bgd bam bwt bsh brm bsz cab cbl tod imp dis owe itr out mth mlo mre mpr mto mim mdi mow mit mvl mhs mns mby mng mnu mnd mbg mbu mbd mlg mly mll mld mpg mpu mpl mtd mti mwt mch (x4 + 5)
set_option maxHeartbeats 8000000 in
set_option maxRecDepth 100000 in
theorem w_L_law_L23 {p : Program} {l : Launch} {e : Env} {s : State} {m : MethodId} {below : List Frame} {meth : Method} {c : Code} {D : va_G} {cI cJ cZ : ClassId} {a b : Nat → Nat} {q bs L : Nat} {xs : Nat → Int32}  (C : gC p s m #[Value.ref bs] meth c cL_law 8 ret wsL_law RL (fun z : Nat => s.heap.size ≤ z)) (hV : gV l s (fun z : Nat => s.heap.size ≤ z)) (hX : va_X bs L xs s s.heap) (hbl : bs < s.heap.size) :
    ∀ (n : Nat) (vl : Nat → Int32) (hs : Nat → Int32) (isz : Nat → Int32) (igd : Nat → Int32) (iup : Nat → Int32) (idn : Nat → Int32) (osz : Nat → Int32) (ogd : Nat → Int32) (oup : Nat → Int32) (odn : Nat → Int32) (dep : Nat → Int32) (rsz : Int32) (lgd : Nat → Int32) (llf : Nat → Int64) (ldb : Nat → Int64) (ldy : Nat → Int32) (lsz : Int32) (lti : Int64) (pgd : Nat → Int32) (plf : Nat → Int64) (pun : Nat → Int32) (psz : Int32) (bgd : Nat → Int32) (bam : Nat → Int64) (bwt : Nat → Int64) (bsh : Nat → Int64) (brm : Nat → Int64) (bsz : Int32) (cab : Nat → Int64) (cbl : Nat → Int64) (tod : Int32) (imp : Int64) (dis : Int64) (owe : Int64) (itr : Int64) (out : Nat → Int64) (mth : Int32) (mlo : Int32) (mre : Int32) (mpr : Int32) (mto : Int32) (mim : Int64) (mdi : Int64) (mow : Int64) (mit : Int64) (mvl : Nat → Int32) (mhs : Nat → Int32) (mns : Nat → Int32) (mby : Nat → Int32) (mng : Nat → Int32) (mnu : Nat → Int32) (mnd : Nat → Int32) (mbg : Nat → Int32) (mbu : Nat → Int32) (mbd : Nat → Int32) (mlg : Nat → Int32) (mly : Nat → Int32) (mll : Nat → Int64) (mld : Nat → Int64) (mpg : Nat → Int32) (mpu : Nat → Int32) (mpl : Nat → Int64) (mtd : Int64) (mti : Int64) (mwt : Nat → Int64) (mch : Nat → Int64) (x4 : Int32) (j : Nat) (H : Heap) (locs : List Loc) (ls : Array Slot), j + n ≤ 514 → vE s (fun z : Nat => s.heap.size ≤ z) D (gT cI cJ cZ) (((cW a cI cJ cZ vl hs isz igd iup idn osz ogd oup odn dep rsz lgd llf ldb ldy lsz lti pgd plf pun psz bgd bam bwt bsh brm bsz cab cbl tod imp dis owe itr) ++ [(q, .inl (cJ, 1, .inr (.inl out)))]) ++ (mW b cI cJ cZ mth mlo mre mpr mto mim mdi mow mit mvl mhs mns mby mng mnu mnd mbg mbu mbd mlg mly mll mld mpg mpu mpl mtd mti mwt mch)) H locs → lv_has ls 8 [(0, .ref bs), (1, .ref (a 0)), (2, .ref (b 0)), (3, .ref q), (4, .int x4)] → f_L_law_L23 xs L  n vl hs isz igd iup idn osz ogd oup odn dep rsz lgd llf ldb ldy lsz lti pgd plf pun psz bgd bam bwt bsh brm bsz cab cbl tod imp dis owe itr out mth mlo mre mpr mto mim mdi mow mit mvl mhs mns mby mng mnu mnd mbg mbu mbd mlg mly mll mld mpg mpu mpl mtd mti mwt mch x4 = some () → W p l e room_1 s m #[Value.ref bs] below meth c H locs (54 + j) (2581 + 6 * j) (lw_Z below #[Value.ref bs] s) (F0 m 23 ls []) := by
  obtain ⟨hx, hb, hr, hml, hown, hts, hlocks, hN, hA⟩ := id C
  have hl0 : l.stackTraces = false := hV.1
  have hbA : ¬ (fun z : Nat => s.heap.size ≤ z) bs := Nat.not_le.mpr hbl
  intro n
  induction n with
  | zero =>
    intro vl hs isz igd iup idn osz ogd oup odn dep rsz lgd llf ldb ldy lsz lti pgd plf pun psz bgd bam bwt bsh brm bsz cab cbl tod imp dis owe itr out mth mlo mre mpr mto mim mdi mow mit mvl mhs mns mby mng mnu mnd mbg mbu mbd mlg mly mll mld mpg mpu mpl mtd mti mwt mch x4 j H locs ls hj E hl hf
    rw [f_L_law_L23] at hf
    cases hf
  | succ n ih =>
    intro vl hs isz igd iup idn osz ogd oup odn dep rsz lgd llf ldb ldy lsz lti pgd plf pun psz bgd bam bwt bsh brm bsz cab cbl tod imp dis owe itr out mth mlo mre mpr mto mim mdi mow mit mvl mhs mns mby mng mnu mnd mbg mbu mbd mlg mly mll mld mpg mpu mpl mtd mti mwt mch x4 j H locs ls hj E hl hf
    rw [f_L_law_L23] at hf
    refine lv_iload hx hb dL_law_23 (lv_at hl 4 rfl) ?_
    refine lv_aload_n hx hb dL_law_25 rfl (lv_at hl 0 rfl) ?_
    refine va_slen hx hb hX hbl hbA E.2.2.2 dL_law_26 ?_
    refine lv_iconst (v := 5) hx hb dL_law_27 (by decide) ?_
    refine lv_isub hx hb dL_law_28 ?_
    refine lv_icmp_gt (tgt := 1114) hx hb dL_law_29 (by decide) (fun c1 => ?_) (fun c1 => ?_)
    · rw [if_pos c1] at hf
      refine lv_iconst (v := 1) hx hb dL_law_1114 (by decide) ?_
      refine va_forget (fun z hz => E.2.2.2.2.2 z hz) ?_
      refine W.widen (k := 1090) (n := 10845) (by omega) (by omega) ?_
      exact lw_ret hx hb hr hlocks dL_law_1115
    · rw [if_neg c1] at hf
      refine lv_aload_n hx hb dL_law_32 rfl (lv_at hl 0 rfl) ?_
      refine lv_iload hx hb dL_law_33 (lv_at hl 4 rfl) ?_
      obtain ⟨h2, hf⟩ := ck_some hf
      refine va_sld hx hb hX hbl hbA E.2.2.2 h2 dL_law_35 ?_
      refine lv_bipush (v := 15) hx hb dL_law_36 (by decide) ?_
      refine lv_iand hx hb dL_law_38 ?_
      by_cases c3 : ((xs x4.toNatClampNeg) &&& (15 : Int32)) = 0
      · rw [if_pos c3] at hf
        refine lv_tableIn (tgt := 116) (off := 77) hx hb dL_law_39 (by rw [c3]; decide) (by rw [c3]; decide) (by rw [c3]; rfl) (by decide) ?_
        exact w_L_law_J116 C hV hX hbl (by omega) (fun vl hs isz igd iup idn osz ogd oup odn dep rsz lgd llf ldb ldy lsz lti pgd plf pun psz bgd bam bwt bsh brm bsz cab cbl tod imp dis owe itr out mth mlo mre mpr mto mim mdi mow mit mvl mhs mns mby mng mnu mnd mbg mbu mbd mlg mly mll mld mpg mpu mpl mtd mti mwt mch x4 H locs ls E hl hf => ih vl hs isz igd iup idn osz ogd oup odn dep rsz lgd llf ldb ldy lsz lti pgd plf pun psz bgd bam bwt bsh brm bsz cab cbl tod imp dis owe itr out mth mlo mre mpr mto mim mdi mow mit mvl mhs mns mby mng mnu mnd mbg mbu mbd mlg mly mll mld mpg mpu mpl mtd mti mwt mch x4 (j + 1) H locs ls (by omega) E hl hf) E (lv_sub hl [0, 1, 2, 3, 4] rfl) hf
      rw [if_neg c3] at hf
      by_cases c4 : ((xs x4.toNatClampNeg) &&& (15 : Int32)) = 1
      · rw [if_pos c4] at hf
        refine lv_tableIn (tgt := 153) (off := 114) hx hb dL_law_39 (by rw [c4]; decide) (by rw [c4]; decide) (by rw [c4]; rfl) (by decide) ?_
        exact w_L_law_J153 C hV hX hbl (by omega) (fun vl hs isz igd iup idn osz ogd oup odn dep rsz lgd llf ldb ldy lsz lti pgd plf pun psz bgd bam bwt bsh brm bsz cab cbl tod imp dis owe itr out mth mlo mre mpr mto mim mdi mow mit mvl mhs mns mby mng mnu mnd mbg mbu mbd mlg mly mll mld mpg mpu mpl mtd mti mwt mch x4 H locs ls E hl hf => ih vl hs isz igd iup idn osz ogd oup odn dep rsz lgd llf ldb ldy lsz lti pgd plf pun psz bgd bam bwt bsh brm bsz cab cbl tod imp dis owe itr out mth mlo mre mpr mto mim mdi mow mit mvl mhs mns mby mng mnu mnd mbg mbu mbd mlg mly mll mld mpg mpu mpl mtd mti mwt mch x4 (j + 1) H locs ls (by omega) E hl hf) E (lv_sub hl [0, 1, 2, 3, 4] rfl) hf
      rw [if_neg c4] at hf
      by_cases c5 : ((xs x4.toNatClampNeg) &&& (15 : Int32)) = 2
      · rw [if_pos c5] at hf
        refine lv_tableIn (tgt := 178) (off := 139) hx hb dL_law_39 (by rw [c5]; decide) (by rw [c5]; decide) (by rw [c5]; rfl) (by decide) ?_
        exact w_L_law_J178 C hV hX hbl (by omega) (fun vl hs isz igd iup idn osz ogd oup odn dep rsz lgd llf ldb ldy lsz lti pgd plf pun psz bgd bam bwt bsh brm bsz cab cbl tod imp dis owe itr out mth mlo mre mpr mto mim mdi mow mit mvl mhs mns mby mng mnu mnd mbg mbu mbd mlg mly mll mld mpg mpu mpl mtd mti mwt mch x4 H locs ls E hl hf => ih vl hs isz igd iup idn osz ogd oup odn dep rsz lgd llf ldb ldy lsz lti pgd plf pun psz bgd bam bwt bsh brm bsz cab cbl tod imp dis owe itr out mth mlo mre mpr mto mim mdi mow mit mvl mhs mns mby mng mnu mnd mbg mbu mbd mlg mly mll mld mpg mpu mpl mtd mti mwt mch x4 (j + 1) H locs ls (by omega) E hl hf) E (lv_sub hl [0, 1, 2, 3, 4] rfl) hf
      rw [if_neg c5] at hf
      by_cases c6 : ((xs x4.toNatClampNeg) &&& (15 : Int32)) = 3
      · rw [if_pos c6] at hf
        refine lv_tableIn (tgt := 270) (off := 231) hx hb dL_law_39 (by rw [c6]; decide) (by rw [c6]; decide) (by rw [c6]; rfl) (by decide) ?_
        exact w_L_law_J270 C hV hX hbl (by omega) (fun vl hs isz igd iup idn osz ogd oup odn dep rsz lgd llf ldb ldy lsz lti pgd plf pun psz bgd bam bwt bsh brm bsz cab cbl tod imp dis owe itr out mth mlo mre mpr mto mim mdi mow mit mvl mhs mns mby mng mnu mnd mbg mbu mbd mlg mly mll mld mpg mpu mpl mtd mti mwt mch x4 H locs ls E hl hf => ih vl hs isz igd iup idn osz ogd oup odn dep rsz lgd llf ldb ldy lsz lti pgd plf pun psz bgd bam bwt bsh brm bsz cab cbl tod imp dis owe itr out mth mlo mre mpr mto mim mdi mow mit mvl mhs mns mby mng mnu mnd mbg mbu mbd mlg mly mll mld mpg mpu mpl mtd mti mwt mch x4 (j + 1) H locs ls (by omega) E hl hf) E (lv_sub hl [0, 1, 2, 3, 4] rfl) hf
      rw [if_neg c6] at hf
      by_cases c7 : ((xs x4.toNatClampNeg) &&& (15 : Int32)) = 4
      · rw [if_pos c7] at hf
        refine lv_tableIn (tgt := 362) (off := 323) hx hb dL_law_39 (by rw [c7]; decide) (by rw [c7]; decide) (by rw [c7]; rfl) (by decide) ?_
        exact w_L_law_J362 C hV hX hbl (by omega) (fun vl hs isz igd iup idn osz ogd oup odn dep rsz lgd llf ldb ldy lsz lti pgd plf pun psz bgd bam bwt bsh brm bsz cab cbl tod imp dis owe itr out mth mlo mre mpr mto mim mdi mow mit mvl mhs mns mby mng mnu mnd mbg mbu mbd mlg mly mll mld mpg mpu mpl mtd mti mwt mch x4 H locs ls E hl hf => ih vl hs isz igd iup idn osz ogd oup odn dep rsz lgd llf ldb ldy lsz lti pgd plf pun psz bgd bam bwt bsh brm bsz cab cbl tod imp dis owe itr out mth mlo mre mpr mto mim mdi mow mit mvl mhs mns mby mng mnu mnd mbg mbu mbd mlg mly mll mld mpg mpu mpl mtd mti mwt mch x4 (j + 1) H locs ls (by omega) E hl hf) E (lv_sub hl [0, 1, 2, 3, 4] rfl) hf
      rw [if_neg c7] at hf
      by_cases c8 : ((xs x4.toNatClampNeg) &&& (15 : Int32)) = 5
      · rw [if_pos c8] at hf
        refine lv_tableIn (tgt := 442) (off := 403) hx hb dL_law_39 (by rw [c8]; decide) (by rw [c8]; decide) (by rw [c8]; rfl) (by decide) ?_
        exact w_L_law_J442 C hV hX hbl (by omega) (fun vl hs isz igd iup idn osz ogd oup odn dep rsz lgd llf ldb ldy lsz lti pgd plf pun psz bgd bam bwt bsh brm bsz cab cbl tod imp dis owe itr out mth mlo mre mpr mto mim mdi mow mit mvl mhs mns mby mng mnu mnd mbg mbu mbd mlg mly mll mld mpg mpu mpl mtd mti mwt mch x4 H locs ls E hl hf => ih vl hs isz igd iup idn osz ogd oup odn dep rsz lgd llf ldb ldy lsz lti pgd plf pun psz bgd bam bwt bsh brm bsz cab cbl tod imp dis owe itr out mth mlo mre mpr mto mim mdi mow mit mvl mhs mns mby mng mnu mnd mbg mbu mbd mlg mly mll mld mpg mpu mpl mtd mti mwt mch x4 (j + 1) H locs ls (by omega) E hl hf) E (lv_sub hl [0, 1, 2, 3, 4] rfl) hf
      rw [if_neg c8] at hf
      by_cases c9 : ((xs x4.toNatClampNeg) &&& (15 : Int32)) = 6
      · rw [if_pos c9] at hf
        refine lv_tableIn (tgt := 538) (off := 499) hx hb dL_law_39 (by rw [c9]; decide) (by rw [c9]; decide) (by rw [c9]; rfl) (by decide) ?_
        exact w_L_law_J538 C hV hX hbl (by omega) (fun vl hs isz igd iup idn osz ogd oup odn dep rsz lgd llf ldb ldy lsz lti pgd plf pun psz bgd bam bwt bsh brm bsz cab cbl tod imp dis owe itr out mth mlo mre mpr mto mim mdi mow mit mvl mhs mns mby mng mnu mnd mbg mbu mbd mlg mly mll mld mpg mpu mpl mtd mti mwt mch x4 H locs ls E hl hf => ih vl hs isz igd iup idn osz ogd oup odn dep rsz lgd llf ldb ldy lsz lti pgd plf pun psz bgd bam bwt bsh brm bsz cab cbl tod imp dis owe itr out mth mlo mre mpr mto mim mdi mow mit mvl mhs mns mby mng mnu mnd mbg mbu mbd mlg mly mll mld mpg mpu mpl mtd mti mwt mch x4 (j + 1) H locs ls (by omega) E hl hf) E (lv_sub hl [0, 1, 2, 3, 4] rfl) hf
      rw [if_neg c9] at hf
      by_cases c10 : ((xs x4.toNatClampNeg) &&& (15 : Int32)) = 7
      · rw [if_pos c10] at hf
        refine lv_tableIn (tgt := 605) (off := 566) hx hb dL_law_39 (by rw [c10]; decide) (by rw [c10]; decide) (by rw [c10]; rfl) (by decide) ?_
        exact w_L_law_J605 C hV hX hbl (by omega) (fun vl hs isz igd iup idn osz ogd oup odn dep rsz lgd llf ldb ldy lsz lti pgd plf pun psz bgd bam bwt bsh brm bsz cab cbl tod imp dis owe itr out mth mlo mre mpr mto mim mdi mow mit mvl mhs mns mby mng mnu mnd mbg mbu mbd mlg mly mll mld mpg mpu mpl mtd mti mwt mch x4 H locs ls E hl hf => ih vl hs isz igd iup idn osz ogd oup odn dep rsz lgd llf ldb ldy lsz lti pgd plf pun psz bgd bam bwt bsh brm bsz cab cbl tod imp dis owe itr out mth mlo mre mpr mto mim mdi mow mit mvl mhs mns mby mng mnu mnd mbg mbu mbd mlg mly mll mld mpg mpu mpl mtd mti mwt mch x4 (j + 1) H locs ls (by omega) E hl hf) E (lv_sub hl [0, 1, 2, 3, 4] rfl) hf
      rw [if_neg c10] at hf
      by_cases c11 : ((xs x4.toNatClampNeg) &&& (15 : Int32)) = 8
      · rw [if_pos c11] at hf
        refine lv_tableIn (tgt := 672) (off := 633) hx hb dL_law_39 (by rw [c11]; decide) (by rw [c11]; decide) (by rw [c11]; rfl) (by decide) ?_
        exact w_L_law_J672 C hV hX hbl (by omega) (fun vl hs isz igd iup idn osz ogd oup odn dep rsz lgd llf ldb ldy lsz lti pgd plf pun psz bgd bam bwt bsh brm bsz cab cbl tod imp dis owe itr out mth mlo mre mpr mto mim mdi mow mit mvl mhs mns mby mng mnu mnd mbg mbu mbd mlg mly mll mld mpg mpu mpl mtd mti mwt mch x4 H locs ls E hl hf => ih vl hs isz igd iup idn osz ogd oup odn dep rsz lgd llf ldb ldy lsz lti pgd plf pun psz bgd bam bwt bsh brm bsz cab cbl tod imp dis owe itr out mth mlo mre mpr mto mim mdi mow mit mvl mhs mns mby mng mnu mnd mbg mbu mbd mlg mly mll mld mpg mpu mpl mtd mti mwt mch x4 (j + 1) H locs ls (by omega) E hl hf) E (lv_sub hl [0, 1, 2, 3, 4] rfl) hf
      rw [if_neg c11] at hf
      by_cases c12 : ((xs x4.toNatClampNeg) &&& (15 : Int32)) = 9
      · rw [if_pos c12] at hf
        refine lv_tableIn (tgt := 752) (off := 713) hx hb dL_law_39 (by rw [c12]; decide) (by rw [c12]; decide) (by rw [c12]; rfl) (by decide) ?_
        exact w_L_law_J752 C hV hX hbl (by omega) (fun vl hs isz igd iup idn osz ogd oup odn dep rsz lgd llf ldb ldy lsz lti pgd plf pun psz bgd bam bwt bsh brm bsz cab cbl tod imp dis owe itr out mth mlo mre mpr mto mim mdi mow mit mvl mhs mns mby mng mnu mnd mbg mbu mbd mlg mly mll mld mpg mpu mpl mtd mti mwt mch x4 H locs ls E hl hf => ih vl hs isz igd iup idn osz ogd oup odn dep rsz lgd llf ldb ldy lsz lti pgd plf pun psz bgd bam bwt bsh brm bsz cab cbl tod imp dis owe itr out mth mlo mre mpr mto mim mdi mow mit mvl mhs mns mby mng mnu mnd mbg mbu mbd mlg mly mll mld mpg mpu mpl mtd mti mwt mch x4 (j + 1) H locs ls (by omega) E hl hf) E (lv_sub hl [0, 1, 2, 3, 4] rfl) hf
      rw [if_neg c12] at hf
      by_cases c13 : ((xs x4.toNatClampNeg) &&& (15 : Int32)) = 10
      · rw [if_pos c13] at hf
        refine lv_tableIn (tgt := 777) (off := 738) hx hb dL_law_39 (by rw [c13]; decide) (by rw [c13]; decide) (by rw [c13]; rfl) (by decide) ?_
        exact w_L_law_J777 C hV hX hbl (by omega) (fun vl hs isz igd iup idn osz ogd oup odn dep rsz lgd llf ldb ldy lsz lti pgd plf pun psz bgd bam bwt bsh brm bsz cab cbl tod imp dis owe itr out mth mlo mre mpr mto mim mdi mow mit mvl mhs mns mby mng mnu mnd mbg mbu mbd mlg mly mll mld mpg mpu mpl mtd mti mwt mch x4 H locs ls E hl hf => ih vl hs isz igd iup idn osz ogd oup odn dep rsz lgd llf ldb ldy lsz lti pgd plf pun psz bgd bam bwt bsh brm bsz cab cbl tod imp dis owe itr out mth mlo mre mpr mto mim mdi mow mit mvl mhs mns mby mng mnu mnd mbg mbu mbd mlg mly mll mld mpg mpu mpl mtd mti mwt mch x4 (j + 1) H locs ls (by omega) E hl hf) E (lv_sub hl [0, 1, 2, 3, 4] rfl) hf
      rw [if_neg c13] at hf
      by_cases c14 : ((xs x4.toNatClampNeg) &&& (15 : Int32)) = 11
      · rw [if_pos c14] at hf
        refine lv_tableIn (tgt := 856) (off := 817) hx hb dL_law_39 (by rw [c14]; decide) (by rw [c14]; decide) (by rw [c14]; rfl) (by decide) ?_
        exact w_L_law_J856 C hV hX hbl (by omega) (fun vl hs isz igd iup idn osz ogd oup odn dep rsz lgd llf ldb ldy lsz lti pgd plf pun psz bgd bam bwt bsh brm bsz cab cbl tod imp dis owe itr out mth mlo mre mpr mto mim mdi mow mit mvl mhs mns mby mng mnu mnd mbg mbu mbd mlg mly mll mld mpg mpu mpl mtd mti mwt mch x4 H locs ls E hl hf => ih vl hs isz igd iup idn osz ogd oup odn dep rsz lgd llf ldb ldy lsz lti pgd plf pun psz bgd bam bwt bsh brm bsz cab cbl tod imp dis owe itr out mth mlo mre mpr mto mim mdi mow mit mvl mhs mns mby mng mnu mnd mbg mbu mbd mlg mly mll mld mpg mpu mpl mtd mti mwt mch x4 (j + 1) H locs ls (by omega) E hl hf) E (lv_sub hl [0, 1, 2, 3, 4] rfl) hf
      rw [if_neg c14] at hf
      by_cases c15 : ((xs x4.toNatClampNeg) &&& (15 : Int32)) = 12
      · rw [if_pos c15] at hf
        refine lv_tableIn (tgt := 923) (off := 884) hx hb dL_law_39 (by rw [c15]; decide) (by rw [c15]; decide) (by rw [c15]; rfl) (by decide) ?_
        exact w_L_law_J923 C hV hX hbl (by omega) (fun vl hs isz igd iup idn osz ogd oup odn dep rsz lgd llf ldb ldy lsz lti pgd plf pun psz bgd bam bwt bsh brm bsz cab cbl tod imp dis owe itr out mth mlo mre mpr mto mim mdi mow mit mvl mhs mns mby mng mnu mnd mbg mbu mbd mlg mly mll mld mpg mpu mpl mtd mti mwt mch x4 H locs ls E hl hf => ih vl hs isz igd iup idn osz ogd oup odn dep rsz lgd llf ldb ldy lsz lti pgd plf pun psz bgd bam bwt bsh brm bsz cab cbl tod imp dis owe itr out mth mlo mre mpr mto mim mdi mow mit mvl mhs mns mby mng mnu mnd mbg mbu mbd mlg mly mll mld mpg mpu mpl mtd mti mwt mch x4 (j + 1) H locs ls (by omega) E hl hf) E (lv_sub hl [0, 1, 2, 3, 4] rfl) hf
      rw [if_neg c15] at hf
      by_cases c16 : ((xs x4.toNatClampNeg) &&& (15 : Int32)) = 13
      · rw [if_pos c16] at hf
        refine lv_tableIn (tgt := 990) (off := 951) hx hb dL_law_39 (by rw [c16]; decide) (by rw [c16]; decide) (by rw [c16]; rfl) (by decide) ?_
        exact w_L_law_J990 C hV hX hbl (by omega) (fun vl hs isz igd iup idn osz ogd oup odn dep rsz lgd llf ldb ldy lsz lti pgd plf pun psz bgd bam bwt bsh brm bsz cab cbl tod imp dis owe itr out mth mlo mre mpr mto mim mdi mow mit mvl mhs mns mby mng mnu mnd mbg mbu mbd mlg mly mll mld mpg mpu mpl mtd mti mwt mch x4 H locs ls E hl hf => ih vl hs isz igd iup idn osz ogd oup odn dep rsz lgd llf ldb ldy lsz lti pgd plf pun psz bgd bam bwt bsh brm bsz cab cbl tod imp dis owe itr out mth mlo mre mpr mto mim mdi mow mit mvl mhs mns mby mng mnu mnd mbg mbu mbd mlg mly mll mld mpg mpu mpl mtd mti mwt mch x4 (j + 1) H locs ls (by omega) E hl hf) E (lv_sub hl [0, 1, 2, 3, 4] rfl) hf
      rw [if_neg c16] at hf
      by_cases c17 : ((xs x4.toNatClampNeg) &&& (15 : Int32)) = 14
      · rw [if_pos c17] at hf
        refine lv_tableIn (tgt := 1016) (off := 977) hx hb dL_law_39 (by rw [c17]; decide) (by rw [c17]; decide) (by rw [c17]; rfl) (by decide) ?_
        exact w_L_law_J1016 C hV hX hbl (by omega) (fun vl hs isz igd iup idn osz ogd oup odn dep rsz lgd llf ldb ldy lsz lti pgd plf pun psz bgd bam bwt bsh brm bsz cab cbl tod imp dis owe itr out mth mlo mre mpr mto mim mdi mow mit mvl mhs mns mby mng mnu mnd mbg mbu mbd mlg mly mll mld mpg mpu mpl mtd mti mwt mch x4 H locs ls E hl hf => ih vl hs isz igd iup idn osz ogd oup odn dep rsz lgd llf ldb ldy lsz lti pgd plf pun psz bgd bam bwt bsh brm bsz cab cbl tod imp dis owe itr out mth mlo mre mpr mto mim mdi mow mit mvl mhs mns mby mng mnu mnd mbg mbu mbd mlg mly mll mld mpg mpu mpl mtd mti mwt mch x4 (j + 1) H locs ls (by omega) E hl hf) E (lv_sub hl [0, 1, 2, 3, 4] rfl) hf
      rw [if_neg c17] at hf
      by_cases c18 : ((xs x4.toNatClampNeg) &&& (15 : Int32)) = 15
      · rw [if_pos c18] at hf
        refine lv_tableIn (tgt := 1083) (off := 1044) hx hb dL_law_39 (by rw [c18]; decide) (by rw [c18]; decide) (by rw [c18]; rfl) (by decide) ?_
        exact w_L_law_J1083 C hV hX hbl (by omega) (fun vl hs isz igd iup idn osz ogd oup odn dep rsz lgd llf ldb ldy lsz lti pgd plf pun psz bgd bam bwt bsh brm bsz cab cbl tod imp dis owe itr out mth mlo mre mpr mto mim mdi mow mit mvl mhs mns mby mng mnu mnd mbg mbu mbd mlg mly mll mld mpg mpu mpl mtd mti mwt mch x4 H locs ls E hl hf => ih vl hs isz igd iup idn osz ogd oup odn dep rsz lgd llf ldb ldy lsz lti pgd plf pun psz bgd bam bwt bsh brm bsz cab cbl tod imp dis owe itr out mth mlo mre mpr mto mim mdi mow mit mvl mhs mns mby mng mnu mnd mbg mbu mbd mlg mly mll mld mpg mpu mpl mtd mti mwt mch x4 (j + 1) H locs ls (by omega) E hl hf) E (lv_sub hl [0, 1, 2, 3, 4] rfl) hf
      rw [if_neg c18] at hf
      refine lv_tableOut (tgt := 1108) hx hb dL_law_39 (by have := lv_neT (a := 0) c3 (by decide); have := lv_neT (a := 1) c4 (by decide); have := lv_neT (a := 2) c5 (by decide); have := lv_neT (a := 3) c6 (by decide); have := lv_neT (a := 4) c7 (by decide); have := lv_neT (a := 5) c8 (by decide); have := lv_neT (a := 6) c9 (by decide); have := lv_neT (a := 7) c10 (by decide); have := lv_neT (a := 8) c11 (by decide); have := lv_neT (a := 9) c12 (by decide); have := lv_neT (a := 10) c13 (by decide); have := lv_neT (a := 11) c14 (by decide); have := lv_neT (a := 12) c15 (by decide); have := lv_neT (a := 13) c16 (by decide); have := lv_neT (a := 14) c17 (by decide); have := lv_neT (a := 15) c18 (by decide); omega) (by decide) ?_
      refine lv_iinc (v := (x4 + 5)) (lv' := [(4, .int (x4 + 5)), (0, .ref bs), (1, .ref (a 0)), (2, .ref (b 0)), (3, .ref q)]) hx hb dL_law_1108 hl (k := 4) rfl rfl (by decide) rfl (fun ls hl => ?_)
      refine lv_goto (tgt := 23) hx hb dL_law_1111 (by decide) ?_
      refine W.widen (k := 54 + (j + 1)) (n := 2581 + 6 * (j + 1)) (by omega) (by omega) ?_
      exact ih vl hs isz igd iup idn osz ogd oup odn dep rsz lgd llf ldb ldy lsz lti pgd plf pun psz bgd bam bwt bsh brm bsz cab cbl tod imp dis owe itr out mth mlo mre mpr mto mim mdi mow mit mvl mhs mns mby mng mnu mnd mbg mbu mbd mlg mly mll mld mpg mpu mpl mtd mti mwt mch (x4 + 5) (j + 1) _ _ _ (by omega) E (lv_sub hl [1, 2, 3, 4, 0] rfl) hf
